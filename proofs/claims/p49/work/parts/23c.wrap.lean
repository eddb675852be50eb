noncomputable abbrev wsL_of : List Cond := .codeWith yL_of cL_of 7 (some .int) [(0, 15, 18, 19), (0, 15, 22, 21), (0, 15, 26, 23)] :: GL
theorem kw_L_of : (∃ ws', wsL_of = Cond.codeWith yL_of cL_of 7 (some .int) [(0, 15, 18, 19), (0, 15, 22, 21), (0, 15, 26, 23)] :: ws') ∧ yL_of.cls ≠ "java/lang/invoke/MethodHandle" ∧ yL_of.cls ≠ "java/lang/invoke/VarHandle" ∧ (parseMethodDescriptor yL_of.desc).map (fun d => d.parameters.length) = some 6 := ⟨⟨_, rfl⟩, by decide +kernel, by decide +kernel, by decide +kernel⟩
set_option maxRecDepth 100000 in
set_option maxHeartbeats 4000000 in
theorem k_L_of (l : Launch) (hl9 : l.stackTraces = false) (k : Kx) (a : CA) (hD : cD k a) (o : Nat) (p1 : Int32) (p2 : Int32) (p3 : Int32) (p4 : Int32) (z : CS) (v : Int64) (hres : (m_X0_of p1 p2 p3 p4 z).1 = 0 ∨ (m_X0_of p1 p2 p3 p4 z).1 = 1 ∨ (m_X0_of p1 p2 p3 p4 z).1 = 2 ∨ (m_X0_of p1 p2 p3 p4 z).1 = 3) : wM l k a o yL_of wsL_of 10 230 7 42 [.ref a.1, .int p1, .int p2, .int p3, .int p4, .ref o] z v (wk 1 2 ((m_X0_of p1 p2 p3 p4 z).1)) ((m_X0_of p1 p2 p3 p4 z).2.2) (if (m_X0_of p1 p2 p3 p4 z).1 = 0 then ((m_X0_of p1 p2 p3 p4 z).2.1).toInt64 else v) := by
  intro sz
  refine va_MetW (cc := cL_of) (maxL := 7) (ret := (some .int)) (hh := [(0, 15, 18, 19), (0, 15, 22, 21), (0, 15, 26, 23)]) (by decide) rfl ?_
  intro p e s m args below meth c s₁ B hml hv
  obtain ⟨rfl, rfl, hGx, hP, hO, hob, hoa⟩ := hv
  have hx := B.exec
  have hb := B.bytes
  have hr := B.returns
  have hts := atoms_spec (ws := wsL_of) B.pre
  have hown : s.vm.findClass RL = some m.cls := findClass_of_methodNamed B.named
  have hlocks := B.notSynchronized
  have htg : ∀ w ∈ GL, w.before _ s = true := fun w h => hts w (List.mem_cons_of_mem _ h)
  have hC : CallFix p m c cL_of 7 s _ wsL_of RL := ⟨hx, hb, hml, hown, hts⟩
  have htab : c.exceptionTable.toList = tableOf [(0, 15, 18, 19), (0, 15, 22, 21), (0, 15, 26, 23)] := vx_table (x := yL_of) B (hts _ List.mem_cons_self)
  have hl := lv_entry ([.ref a.1, .int p1, .int p2, .int p3, .int p4, .ref o]) (n := 7) (Nat.le_of_ble_eq_true rfl)
  rw [lg_entry_eq]
  generalize (lg_sl ([.ref a.1, .int p1, .int p2, .int p3, .int p4, .ref o]) ++ List.replicate (7 - (lg_sl ([.ref a.1, .int p1, .int p2, .int p3, .int p4, .ref o])).length) Slot.unset).toArray = ls at hl ⊢
  have hl : lv_has ls 7 [(0, .ref a.1), (1, .int p1), (2, .int p2), (3, .int p3), (4, .int p4), (5, .ref o)] := hl
  refine lv_aload hx hb dL_of_0 (lv_at hl 5 rfl) ?_
  refine lv_aload_n hx hb dL_of_2 rfl (lv_at hl 0 rfl) ?_
  refine lv_iload_n hx hb dL_of_3 rfl (lv_at hl 1 rfl) ?_
  refine lv_iload_n hx hb dL_of_4 rfl (lv_at hl 2 rfl) ?_
  refine lv_iload_n hx hb dL_of_5 rfl (lv_at hl 3 rfl) ?_
  refine lv_iload hx hb dL_of_6 (lv_at hl 4 rfl) ?_
  refine cv_V hC hGx hD (c_X0_of l hl9 k a hD p1 p2 p3 p4 z) (gV w_625 w_626 w_627 w_26 w_628) kk_X0_of rfl ⟨Nat.le_of_ble_eq_true rfl, Nat.le_of_ble_eq_true rfl⟩ ⟨Nat.le_of_ble_eq_true rfl, Nat.le_of_ble_eq_true rfl⟩ hP va_S.rf hl.1 rfl rfl (Nat.le_of_ble_eq_true rfl) dL_of_8 (fun h0 ce q H1 locs1 hP1 hS1 hce hcv hcl => ?_) (fun h0 H1 locs1 hP1 hS1 => ?_)
  · obtain ⟨hO1, hS2⟩ := w_pre (z := z) hO hoa hS1
    rcases hres with h | h | h | h
    · exact absurd h h0
    · have hcl : s.vm.findClass "java/lang/IndexOutOfBoundsException" = some ce.cls := by rw [h] at hcl; exact hcl
      refine vx_catch (E := "java/lang/IndexOutOfBoundsException") hown [] ⟨0, 15, 18, 19⟩ [⟨0, 15, 22, 21⟩, ⟨0, 15, 26, 23⟩] (by rw [htab]; rfl) (List.forall_mem_nil _) (by decide) (by decide) (htg _ w_622) (gx_cast hGx (by decide)) hce hcv hcl ?_
      refine lv_astore (lv' := [(6, .ref q), (0, .ref a.1), (1, .int p1), (2, .int p2), (3, .int p3), (4, .int p4), (5, .ref o)]) hx hb dL_of_18 hl (by decide) rfl (fun ls hl => ?_)
      refine lv_iconst (v := 1) hx hb dL_of_20 (by decide) ?_
      have hv9 : (if (m_X0_of p1 p2 p3 p4 z).1 = 0 then ((m_X0_of p1 p2 p3 p4 z).2.1).toInt64 else v) = v := if_neg h0
      rw [hv9]
      exact w_iret hx hb hr hlocks (by rw [h]; rfl) hP1 hO1 hS2 ⟨Nat.le_of_ble_eq_true rfl, Nat.le_of_ble_eq_true rfl⟩ dL_of_21
    · have hcl : s.vm.findClass "java/lang/IllegalArgumentException" = some ce.cls := by rw [h] at hcl; exact hcl
      refine vx_catch (E := "java/lang/IllegalArgumentException") hown [⟨0, 15, 18, 19⟩] ⟨0, 15, 22, 21⟩ [⟨0, 15, 26, 23⟩] (by rw [htab]; rfl) (List.forall_mem_cons.mpr ⟨Or.inr ⟨by decide, "java/lang/IndexOutOfBoundsException", (htg _ w_622), gx_nc hGx (q := ("java/lang/IllegalArgumentException", "java/lang/IndexOutOfBoundsException")) (by decide)⟩, (List.forall_mem_nil _)⟩) (by decide) (by decide) (htg _ w_623) (gx_cast hGx (by decide)) hce hcv hcl ?_
      refine lv_astore (lv' := [(6, .ref q), (0, .ref a.1), (1, .int p1), (2, .int p2), (3, .int p3), (4, .int p4), (5, .ref o)]) hx hb dL_of_22 hl (by decide) rfl (fun ls hl => ?_)
      refine lv_iconst (v := 2) hx hb dL_of_24 (by decide) ?_
      have hv9 : (if (m_X0_of p1 p2 p3 p4 z).1 = 0 then ((m_X0_of p1 p2 p3 p4 z).2.1).toInt64 else v) = v := if_neg h0
      rw [hv9]
      exact w_iret hx hb hr hlocks (by rw [h]; rfl) hP1 hO1 hS2 ⟨Nat.le_of_ble_eq_true rfl, Nat.le_of_ble_eq_true rfl⟩ dL_of_25
    · have hcl : s.vm.findClass "java/lang/IllegalStateException" = some ce.cls := by rw [h] at hcl; exact hcl
      refine vx_catch (E := "java/lang/IllegalStateException") hown [⟨0, 15, 18, 19⟩, ⟨0, 15, 22, 21⟩] ⟨0, 15, 26, 23⟩ [] (by rw [htab]; rfl) (List.forall_mem_cons.mpr ⟨Or.inr ⟨by decide, "java/lang/IndexOutOfBoundsException", (htg _ w_622), gx_nc hGx (q := ("java/lang/IllegalStateException", "java/lang/IndexOutOfBoundsException")) (by decide)⟩, (List.forall_mem_cons.mpr ⟨Or.inr ⟨by decide, "java/lang/IllegalArgumentException", (htg _ w_623), gx_nc hGx (q := ("java/lang/IllegalStateException", "java/lang/IllegalArgumentException")) (by decide)⟩, (List.forall_mem_nil _)⟩)⟩) (by decide) (by decide) (htg _ w_624) (gx_cast hGx (by decide)) hce hcv hcl ?_
      refine lv_astore (lv' := [(6, .ref q), (0, .ref a.1), (1, .int p1), (2, .int p2), (3, .int p3), (4, .int p4), (5, .ref o)]) hx hb dL_of_26 hl (by decide) rfl (fun ls hl => ?_)
      refine lv_iconst (v := 3) hx hb dL_of_28 (by decide) ?_
      have hv9 : (if (m_X0_of p1 p2 p3 p4 z).1 = 0 then ((m_X0_of p1 p2 p3 p4 z).2.1).toInt64 else v) = v := if_neg h0
      rw [hv9]
      exact w_iret hx hb hr hlocks (by rw [h]; rfl) hP1 hO1 hS2 ⟨Nat.le_of_ble_eq_true rfl, Nat.le_of_ble_eq_true rfl⟩ dL_of_29
  · obtain ⟨hO1, hS2⟩ := w_pre (z := z) hO hoa hS1
    obtain ⟨w9, hO1⟩ := hO1
    have hP3 := va_P.app (w1 := [(o, _)]) hO1 hP1
    have hD3 := w_D (n := s.heap.size) (x := .inr (3, [.long v, w9])) (z := (m_X0_of p1 p2 p3 p4 z).2.2) hD hoa
    refine lv_i2l hx hb dL_of_11 rfl ?_
    refine va_putN (D := kD k) (ci := 3) (v := .long (((m_X0_of p1 p2 p3 p4 z).2.1).toInt64)) (ty := .long) (C := RX1) (T := TX1) (N := 2) (A := wA a o s.heap.size) (H0 := s.heap) hx hb htg inG_X1 tyX1 tyX1_ok nmX1 hown hGx.1 hP3 hD3 hS2 0 rfl rfl 0 (by decide) (va_Nw.use rfl (gx_nf hGx (q := ("DatesoloLaw", 13, "DatesoloLaw$Out", "n", "J", "DatesoloLaw")) (by decide +kernel))) (fun _ h9 => h9) rfl (by decide +kernel) rfl rfl (Nat.le_of_ble_eq_true rfl) dL_of_12 (fun H4 locs4 hP4 _ hS4 => ?_)
    refine lv_goto (tgt := 30) hx hb dL_of_15 (by decide) ?_
    refine lv_iconst (v := 0) hx hb dL_of_30 (by decide) ?_
    have hP5 : va_P (kD k) vwCl (cW k a ((m_X0_of p1 p2 p3 p4 z).2.2)) H4 := hP4.sub [1, 2, 3, 4, 5] rfl
    have hO5 : oP k o (((m_X0_of p1 p2 p3 p4 z).2.1).toInt64) H4 := ⟨w9, hP4.sub [0] rfl⟩
    have hv9 : (if (m_X0_of p1 p2 p3 p4 z).1 = 0 then ((m_X0_of p1 p2 p3 p4 z).2.1).toInt64 else v) = ((m_X0_of p1 p2 p3 p4 z).2.1).toInt64 := if_pos h0
    rw [hv9]
    exact w_iret hx hb hr hlocks (by rw [h0]; rfl) hP5 hO5 hS4 ⟨Nat.le_of_ble_eq_true rfl, Nat.le_of_ble_eq_true rfl⟩ dL_of_31
noncomputable abbrev wsL_ofDay : List Cond := .codeWith yL_ofDay cL_ofDay 5 (some .int) [(0, 11, 14, 19), (0, 11, 18, 21)] :: GL
theorem kw_L_ofDay : (∃ ws', wsL_ofDay = Cond.codeWith yL_ofDay cL_ofDay 5 (some .int) [(0, 11, 14, 19), (0, 11, 18, 21)] :: ws') ∧ yL_ofDay.cls ≠ "java/lang/invoke/MethodHandle" ∧ yL_ofDay.cls ≠ "java/lang/invoke/VarHandle" ∧ (parseMethodDescriptor yL_ofDay.desc).map (fun d => d.parameters.length) = some 4 := ⟨⟨_, rfl⟩, by decide +kernel, by decide +kernel, by decide +kernel⟩
set_option maxRecDepth 100000 in
set_option maxHeartbeats 4000000 in
theorem k_L_ofDay (l : Launch) (hl9 : l.stackTraces = false) (k : Kx) (a : CA) (hD : cD k a) (o : Nat) (p1 : Int32) (p2 : Int32) (z : CS) (v : Int64) (hres : (m_X0_ofDay p1 p2 z).1 = 0 ∨ (m_X0_ofDay p1 p2 z).1 = 1 ∨ (m_X0_ofDay p1 p2 z).1 = 2) : wM l k a o yL_ofDay wsL_ofDay 10 228 4 24 [.ref a.1, .int p1, .int p2, .ref o] z v (wk 1 2 ((m_X0_ofDay p1 p2 z).1)) ((m_X0_ofDay p1 p2 z).2.2) (if (m_X0_ofDay p1 p2 z).1 = 0 then ((m_X0_ofDay p1 p2 z).2.1).toInt64 else v) := by
  intro sz
  refine va_MetW (cc := cL_ofDay) (maxL := 5) (ret := (some .int)) (hh := [(0, 11, 14, 19), (0, 11, 18, 21)]) (by decide) rfl ?_
  intro p e s m args below meth c s₁ B hml hv
  obtain ⟨rfl, rfl, hGx, hP, hO, hob, hoa⟩ := hv
  have hx := B.exec
  have hb := B.bytes
  have hr := B.returns
  have hts := atoms_spec (ws := wsL_ofDay) B.pre
  have hown : s.vm.findClass RL = some m.cls := findClass_of_methodNamed B.named
  have hlocks := B.notSynchronized
  have htg : ∀ w ∈ GL, w.before _ s = true := fun w h => hts w (List.mem_cons_of_mem _ h)
  have hC : CallFix p m c cL_ofDay 5 s _ wsL_ofDay RL := ⟨hx, hb, hml, hown, hts⟩
  have htab : c.exceptionTable.toList = tableOf [(0, 11, 14, 19), (0, 11, 18, 21)] := vx_table (x := yL_ofDay) B (hts _ List.mem_cons_self)
  have hl := lv_entry ([.ref a.1, .int p1, .int p2, .ref o]) (n := 5) (Nat.le_of_ble_eq_true rfl)
  rw [lg_entry_eq]
  generalize (lg_sl ([.ref a.1, .int p1, .int p2, .ref o]) ++ List.replicate (5 - (lg_sl ([.ref a.1, .int p1, .int p2, .ref o])).length) Slot.unset).toArray = ls at hl ⊢
  have hl : lv_has ls 5 [(0, .ref a.1), (1, .int p1), (2, .int p2), (3, .ref o)] := hl
  refine lv_aload_n hx hb dL_ofDay_0 rfl (lv_at hl 3 rfl) ?_
  refine lv_aload_n hx hb dL_ofDay_1 rfl (lv_at hl 0 rfl) ?_
  refine lv_iload_n hx hb dL_ofDay_2 rfl (lv_at hl 1 rfl) ?_
  refine lv_iload_n hx hb dL_ofDay_3 rfl (lv_at hl 2 rfl) ?_
  refine cv_V hC hGx hD (c_X0_ofDay l hl9 k a hD p1 p2 z) (gV w_663 w_664 w_665 w_26 w_666) kk_X0_ofDay rfl ⟨Nat.le_of_ble_eq_true rfl, Nat.le_of_ble_eq_true rfl⟩ ⟨Nat.le_of_ble_eq_true rfl, Nat.le_of_ble_eq_true rfl⟩ hP va_S.rf hl.1 rfl rfl (Nat.le_of_ble_eq_true rfl) dL_ofDay_4 (fun h0 ce q H1 locs1 hP1 hS1 hce hcv hcl => ?_) (fun h0 H1 locs1 hP1 hS1 => ?_)
  · obtain ⟨hO1, hS2⟩ := w_pre (z := z) hO hoa hS1
    rcases hres with h | h | h
    · exact absurd h h0
    · have hcl : s.vm.findClass "java/lang/IndexOutOfBoundsException" = some ce.cls := by rw [h] at hcl; exact hcl
      refine vx_catch (E := "java/lang/IndexOutOfBoundsException") hown [] ⟨0, 11, 14, 19⟩ [⟨0, 11, 18, 21⟩] (by rw [htab]; rfl) (List.forall_mem_nil _) (by decide) (by decide) (htg _ w_622) (gx_cast hGx (by decide)) hce hcv hcl ?_
      refine lv_astore (lv' := [(4, .ref q), (0, .ref a.1), (1, .int p1), (2, .int p2), (3, .ref o)]) hx hb dL_ofDay_14 hl (by decide) rfl (fun ls hl => ?_)
      refine lv_iconst (v := 1) hx hb dL_ofDay_16 (by decide) ?_
      have hv9 : (if (m_X0_ofDay p1 p2 z).1 = 0 then ((m_X0_ofDay p1 p2 z).2.1).toInt64 else v) = v := if_neg h0
      rw [hv9]
      exact w_iret hx hb hr hlocks (by rw [h]; rfl) hP1 hO1 hS2 ⟨Nat.le_of_ble_eq_true rfl, Nat.le_of_ble_eq_true rfl⟩ dL_ofDay_17
    · have hcl : s.vm.findClass "java/lang/IllegalArgumentException" = some ce.cls := by rw [h] at hcl; exact hcl
      refine vx_catch (E := "java/lang/IllegalArgumentException") hown [⟨0, 11, 14, 19⟩] ⟨0, 11, 18, 21⟩ [] (by rw [htab]; rfl) (List.forall_mem_cons.mpr ⟨Or.inr ⟨by decide, "java/lang/IndexOutOfBoundsException", (htg _ w_622), gx_nc hGx (q := ("java/lang/IllegalArgumentException", "java/lang/IndexOutOfBoundsException")) (by decide)⟩, (List.forall_mem_nil _)⟩) (by decide) (by decide) (htg _ w_623) (gx_cast hGx (by decide)) hce hcv hcl ?_
      refine lv_astore (lv' := [(4, .ref q), (0, .ref a.1), (1, .int p1), (2, .int p2), (3, .ref o)]) hx hb dL_ofDay_18 hl (by decide) rfl (fun ls hl => ?_)
      refine lv_iconst (v := 2) hx hb dL_ofDay_20 (by decide) ?_
      have hv9 : (if (m_X0_ofDay p1 p2 z).1 = 0 then ((m_X0_ofDay p1 p2 z).2.1).toInt64 else v) = v := if_neg h0
      rw [hv9]
      exact w_iret hx hb hr hlocks (by rw [h]; rfl) hP1 hO1 hS2 ⟨Nat.le_of_ble_eq_true rfl, Nat.le_of_ble_eq_true rfl⟩ dL_ofDay_21
  · obtain ⟨hO1, hS2⟩ := w_pre (z := z) hO hoa hS1
    obtain ⟨w9, hO1⟩ := hO1
    have hP3 := va_P.app (w1 := [(o, _)]) hO1 hP1
    have hD3 := w_D (n := s.heap.size) (x := .inr (3, [.long v, w9])) (z := (m_X0_ofDay p1 p2 z).2.2) hD hoa
    refine lv_i2l hx hb dL_ofDay_7 rfl ?_
    refine va_putN (D := kD k) (ci := 3) (v := .long (((m_X0_ofDay p1 p2 z).2.1).toInt64)) (ty := .long) (C := RX1) (T := TX1) (N := 2) (A := wA a o s.heap.size) (H0 := s.heap) hx hb htg inG_X1 tyX1 tyX1_ok nmX1 hown hGx.1 hP3 hD3 hS2 0 rfl rfl 0 (by decide) (va_Nw.use rfl (gx_nf hGx (q := ("DatesoloLaw", 13, "DatesoloLaw$Out", "n", "J", "DatesoloLaw")) (by decide +kernel))) (fun _ h9 => h9) rfl (by decide +kernel) rfl rfl (Nat.le_of_ble_eq_true rfl) dL_ofDay_8 (fun H4 locs4 hP4 _ hS4 => ?_)
    refine lv_goto (tgt := 22) hx hb dL_ofDay_11 (by decide) ?_
    refine lv_iconst (v := 0) hx hb dL_ofDay_22 (by decide) ?_
    have hP5 : va_P (kD k) vwCl (cW k a ((m_X0_ofDay p1 p2 z).2.2)) H4 := hP4.sub [1, 2, 3, 4, 5] rfl
    have hO5 : oP k o (((m_X0_ofDay p1 p2 z).2.1).toInt64) H4 := ⟨w9, hP4.sub [0] rfl⟩
    have hv9 : (if (m_X0_ofDay p1 p2 z).1 = 0 then ((m_X0_ofDay p1 p2 z).2.1).toInt64 else v) = ((m_X0_ofDay p1 p2 z).2.1).toInt64 := if_pos h0
    rw [hv9]
    exact w_iret hx hb hr hlocks (by rw [h0]; rfl) hP5 hO5 hS4 ⟨Nat.le_of_ble_eq_true rfl, Nat.le_of_ble_eq_true rfl⟩ dL_ofDay_23
noncomputable abbrev wsL_ofYearDay : List Cond := .codeWith yL_ofYearDay cL_ofYearDay 6 (some .int) [(0, 13, 16, 19), (0, 13, 20, 21), (0, 13, 24, 23)] :: GL
theorem kw_L_ofYearDay : (∃ ws', wsL_ofYearDay = Cond.codeWith yL_ofYearDay cL_ofYearDay 6 (some .int) [(0, 13, 16, 19), (0, 13, 20, 21), (0, 13, 24, 23)] :: ws') ∧ yL_ofYearDay.cls ≠ "java/lang/invoke/MethodHandle" ∧ yL_ofYearDay.cls ≠ "java/lang/invoke/VarHandle" ∧ (parseMethodDescriptor yL_ofYearDay.desc).map (fun d => d.parameters.length) = some 5 := ⟨⟨_, rfl⟩, by decide +kernel, by decide +kernel, by decide +kernel⟩
set_option maxRecDepth 100000 in
set_option maxHeartbeats 4000000 in
theorem k_L_ofYearDay (l : Launch) (hl9 : l.stackTraces = false) (k : Kx) (a : CA) (hD : cD k a) (o : Nat) (p1 : Int32) (p2 : Int32) (p3 : Int32) (z : CS) (v : Int64) (hres : (m_X0_ofYearDay p1 p2 p3 z).1 = 0 ∨ (m_X0_ofYearDay p1 p2 p3 z).1 = 1 ∨ (m_X0_ofYearDay p1 p2 p3 z).1 = 2 ∨ (m_X0_ofYearDay p1 p2 p3 z).1 = 3) : wM l k a o yL_ofYearDay wsL_ofYearDay 11 253 5 30 [.ref a.1, .int p1, .int p2, .int p3, .ref o] z v (wk 1 2 ((m_X0_ofYearDay p1 p2 p3 z).1)) ((m_X0_ofYearDay p1 p2 p3 z).2.2) (if (m_X0_ofYearDay p1 p2 p3 z).1 = 0 then ((m_X0_ofYearDay p1 p2 p3 z).2.1).toInt64 else v) := by
  intro sz
  refine va_MetW (cc := cL_ofYearDay) (maxL := 6) (ret := (some .int)) (hh := [(0, 13, 16, 19), (0, 13, 20, 21), (0, 13, 24, 23)]) (by decide) rfl ?_
  intro p e s m args below meth c s₁ B hml hv
  obtain ⟨rfl, rfl, hGx, hP, hO, hob, hoa⟩ := hv
  have hx := B.exec
  have hb := B.bytes
  have hr := B.returns
  have hts := atoms_spec (ws := wsL_ofYearDay) B.pre
  have hown : s.vm.findClass RL = some m.cls := findClass_of_methodNamed B.named
  have hlocks := B.notSynchronized
  have htg : ∀ w ∈ GL, w.before _ s = true := fun w h => hts w (List.mem_cons_of_mem _ h)
  have hC : CallFix p m c cL_ofYearDay 6 s _ wsL_ofYearDay RL := ⟨hx, hb, hml, hown, hts⟩
  have htab : c.exceptionTable.toList = tableOf [(0, 13, 16, 19), (0, 13, 20, 21), (0, 13, 24, 23)] := vx_table (x := yL_ofYearDay) B (hts _ List.mem_cons_self)
  have hl := lv_entry ([.ref a.1, .int p1, .int p2, .int p3, .ref o]) (n := 6) (Nat.le_of_ble_eq_true rfl)
  rw [lg_entry_eq]
  generalize (lg_sl ([.ref a.1, .int p1, .int p2, .int p3, .ref o]) ++ List.replicate (6 - (lg_sl ([.ref a.1, .int p1, .int p2, .int p3, .ref o])).length) Slot.unset).toArray = ls at hl ⊢
  have hl : lv_has ls 6 [(0, .ref a.1), (1, .int p1), (2, .int p2), (3, .int p3), (4, .ref o)] := hl
  refine lv_aload hx hb dL_ofYearDay_0 (lv_at hl 4 rfl) ?_
  refine lv_aload_n hx hb dL_ofYearDay_2 rfl (lv_at hl 0 rfl) ?_
  refine lv_iload_n hx hb dL_ofYearDay_3 rfl (lv_at hl 1 rfl) ?_
  refine lv_iload_n hx hb dL_ofYearDay_4 rfl (lv_at hl 2 rfl) ?_
  refine lv_iload_n hx hb dL_ofYearDay_5 rfl (lv_at hl 3 rfl) ?_
  refine cv_V hC hGx hD (c_X0_ofYearDay l hl9 k a hD p1 p2 p3 z) (gV w_672 w_673 w_674 w_26 w_675) kk_X0_ofYearDay rfl ⟨Nat.le_of_ble_eq_true rfl, Nat.le_of_ble_eq_true rfl⟩ ⟨Nat.le_of_ble_eq_true rfl, Nat.le_of_ble_eq_true rfl⟩ hP va_S.rf hl.1 rfl rfl (Nat.le_of_ble_eq_true rfl) dL_ofYearDay_6 (fun h0 ce q H1 locs1 hP1 hS1 hce hcv hcl => ?_) (fun h0 H1 locs1 hP1 hS1 => ?_)
  · obtain ⟨hO1, hS2⟩ := w_pre (z := z) hO hoa hS1
    rcases hres with h | h | h | h
    · exact absurd h h0
    · have hcl : s.vm.findClass "java/lang/IndexOutOfBoundsException" = some ce.cls := by rw [h] at hcl; exact hcl
      refine vx_catch (E := "java/lang/IndexOutOfBoundsException") hown [] ⟨0, 13, 16, 19⟩ [⟨0, 13, 20, 21⟩, ⟨0, 13, 24, 23⟩] (by rw [htab]; rfl) (List.forall_mem_nil _) (by decide) (by decide) (htg _ w_622) (gx_cast hGx (by decide)) hce hcv hcl ?_
      refine lv_astore (lv' := [(5, .ref q), (0, .ref a.1), (1, .int p1), (2, .int p2), (3, .int p3), (4, .ref o)]) hx hb dL_ofYearDay_16 hl (by decide) rfl (fun ls hl => ?_)
      refine lv_iconst (v := 1) hx hb dL_ofYearDay_18 (by decide) ?_
      have hv9 : (if (m_X0_ofYearDay p1 p2 p3 z).1 = 0 then ((m_X0_ofYearDay p1 p2 p3 z).2.1).toInt64 else v) = v := if_neg h0
      rw [hv9]
      exact w_iret hx hb hr hlocks (by rw [h]; rfl) hP1 hO1 hS2 ⟨Nat.le_of_ble_eq_true rfl, Nat.le_of_ble_eq_true rfl⟩ dL_ofYearDay_19
    · have hcl : s.vm.findClass "java/lang/IllegalArgumentException" = some ce.cls := by rw [h] at hcl; exact hcl
      refine vx_catch (E := "java/lang/IllegalArgumentException") hown [⟨0, 13, 16, 19⟩] ⟨0, 13, 20, 21⟩ [⟨0, 13, 24, 23⟩] (by rw [htab]; rfl) (List.forall_mem_cons.mpr ⟨Or.inr ⟨by decide, "java/lang/IndexOutOfBoundsException", (htg _ w_622), gx_nc hGx (q := ("java/lang/IllegalArgumentException", "java/lang/IndexOutOfBoundsException")) (by decide)⟩, (List.forall_mem_nil _)⟩) (by decide) (by decide) (htg _ w_623) (gx_cast hGx (by decide)) hce hcv hcl ?_
      refine lv_astore (lv' := [(5, .ref q), (0, .ref a.1), (1, .int p1), (2, .int p2), (3, .int p3), (4, .ref o)]) hx hb dL_ofYearDay_20 hl (by decide) rfl (fun ls hl => ?_)
      refine lv_iconst (v := 2) hx hb dL_ofYearDay_22 (by decide) ?_
      have hv9 : (if (m_X0_ofYearDay p1 p2 p3 z).1 = 0 then ((m_X0_ofYearDay p1 p2 p3 z).2.1).toInt64 else v) = v := if_neg h0
      rw [hv9]
      exact w_iret hx hb hr hlocks (by rw [h]; rfl) hP1 hO1 hS2 ⟨Nat.le_of_ble_eq_true rfl, Nat.le_of_ble_eq_true rfl⟩ dL_ofYearDay_23
    · have hcl : s.vm.findClass "java/lang/IllegalStateException" = some ce.cls := by rw [h] at hcl; exact hcl
      refine vx_catch (E := "java/lang/IllegalStateException") hown [⟨0, 13, 16, 19⟩, ⟨0, 13, 20, 21⟩] ⟨0, 13, 24, 23⟩ [] (by rw [htab]; rfl) (List.forall_mem_cons.mpr ⟨Or.inr ⟨by decide, "java/lang/IndexOutOfBoundsException", (htg _ w_622), gx_nc hGx (q := ("java/lang/IllegalStateException", "java/lang/IndexOutOfBoundsException")) (by decide)⟩, (List.forall_mem_cons.mpr ⟨Or.inr ⟨by decide, "java/lang/IllegalArgumentException", (htg _ w_623), gx_nc hGx (q := ("java/lang/IllegalStateException", "java/lang/IllegalArgumentException")) (by decide)⟩, (List.forall_mem_nil _)⟩)⟩) (by decide) (by decide) (htg _ w_624) (gx_cast hGx (by decide)) hce hcv hcl ?_
      refine lv_astore (lv' := [(5, .ref q), (0, .ref a.1), (1, .int p1), (2, .int p2), (3, .int p3), (4, .ref o)]) hx hb dL_ofYearDay_24 hl (by decide) rfl (fun ls hl => ?_)
      refine lv_iconst (v := 3) hx hb dL_ofYearDay_26 (by decide) ?_
      have hv9 : (if (m_X0_ofYearDay p1 p2 p3 z).1 = 0 then ((m_X0_ofYearDay p1 p2 p3 z).2.1).toInt64 else v) = v := if_neg h0
      rw [hv9]
      exact w_iret hx hb hr hlocks (by rw [h]; rfl) hP1 hO1 hS2 ⟨Nat.le_of_ble_eq_true rfl, Nat.le_of_ble_eq_true rfl⟩ dL_ofYearDay_27
  · obtain ⟨hO1, hS2⟩ := w_pre (z := z) hO hoa hS1
    obtain ⟨w9, hO1⟩ := hO1
    have hP3 := va_P.app (w1 := [(o, _)]) hO1 hP1
    have hD3 := w_D (n := s.heap.size) (x := .inr (3, [.long v, w9])) (z := (m_X0_ofYearDay p1 p2 p3 z).2.2) hD hoa
    refine lv_i2l hx hb dL_ofYearDay_9 rfl ?_
    refine va_putN (D := kD k) (ci := 3) (v := .long (((m_X0_ofYearDay p1 p2 p3 z).2.1).toInt64)) (ty := .long) (C := RX1) (T := TX1) (N := 2) (A := wA a o s.heap.size) (H0 := s.heap) hx hb htg inG_X1 tyX1 tyX1_ok nmX1 hown hGx.1 hP3 hD3 hS2 0 rfl rfl 0 (by decide) (va_Nw.use rfl (gx_nf hGx (q := ("DatesoloLaw", 13, "DatesoloLaw$Out", "n", "J", "DatesoloLaw")) (by decide +kernel))) (fun _ h9 => h9) rfl (by decide +kernel) rfl rfl (Nat.le_of_ble_eq_true rfl) dL_ofYearDay_10 (fun H4 locs4 hP4 _ hS4 => ?_)
    refine lv_goto (tgt := 28) hx hb dL_ofYearDay_13 (by decide) ?_
    refine lv_iconst (v := 0) hx hb dL_ofYearDay_28 (by decide) ?_
    have hP5 : va_P (kD k) vwCl (cW k a ((m_X0_ofYearDay p1 p2 p3 z).2.2)) H4 := hP4.sub [1, 2, 3, 4, 5] rfl
    have hO5 : oP k o (((m_X0_ofYearDay p1 p2 p3 z).2.1).toInt64) H4 := ⟨w9, hP4.sub [0] rfl⟩
    have hv9 : (if (m_X0_ofYearDay p1 p2 p3 z).1 = 0 then ((m_X0_ofYearDay p1 p2 p3 z).2.1).toInt64 else v) = ((m_X0_ofYearDay p1 p2 p3 z).2.1).toInt64 := if_pos h0
    rw [hv9]
    exact w_iret hx hb hr hlocks (by rw [h0]; rfl) hP5 hO5 hS4 ⟨Nat.le_of_ble_eq_true rfl, Nat.le_of_ble_eq_true rfl⟩ dL_ofYearDay_29
noncomputable abbrev wsL_copy : List Cond := .codeWith yL_copy cL_copy 5 (some .int) [(0, 11, 14, 19)] :: GL
theorem kw_L_copy : (∃ ws', wsL_copy = Cond.codeWith yL_copy cL_copy 5 (some .int) [(0, 11, 14, 19)] :: ws') ∧ yL_copy.cls ≠ "java/lang/invoke/MethodHandle" ∧ yL_copy.cls ≠ "java/lang/invoke/VarHandle" ∧ (parseMethodDescriptor yL_copy.desc).map (fun d => d.parameters.length) = some 4 := ⟨⟨_, rfl⟩, by decide +kernel, by decide +kernel, by decide +kernel⟩
set_option maxRecDepth 100000 in
set_option maxHeartbeats 4000000 in
theorem k_L_copy (l : Launch) (hl9 : l.stackTraces = false) (k : Kx) (a : CA) (hD : cD k a) (o : Nat) (p1 : Int32) (p2 : Int32) (z : CS) (v : Int64) (hres : (m_X0_copy p1 p2 z).1 = 0 ∨ (m_X0_copy p1 p2 z).1 = 1) : wM l k a o yL_copy wsL_copy 10 228 4 24 [.ref a.1, .int p1, .int p2, .ref o] z v (wk 1 1 ((m_X0_copy p1 p2 z).1)) ((m_X0_copy p1 p2 z).2.2) (if (m_X0_copy p1 p2 z).1 = 0 then ((m_X0_copy p1 p2 z).2.1).toInt64 else v) := by
  intro sz
  refine va_MetW (cc := cL_copy) (maxL := 5) (ret := (some .int)) (hh := [(0, 11, 14, 19)]) (by decide) rfl ?_
  intro p e s m args below meth c s₁ B hml hv
  obtain ⟨rfl, rfl, hGx, hP, hO, hob, hoa⟩ := hv
  have hx := B.exec
  have hb := B.bytes
  have hr := B.returns
  have hts := atoms_spec (ws := wsL_copy) B.pre
  have hown : s.vm.findClass RL = some m.cls := findClass_of_methodNamed B.named
  have hlocks := B.notSynchronized
  have htg : ∀ w ∈ GL, w.before _ s = true := fun w h => hts w (List.mem_cons_of_mem _ h)
  have hC : CallFix p m c cL_copy 5 s _ wsL_copy RL := ⟨hx, hb, hml, hown, hts⟩
  have htab : c.exceptionTable.toList = tableOf [(0, 11, 14, 19)] := vx_table (x := yL_copy) B (hts _ List.mem_cons_self)
  have hl := lv_entry ([.ref a.1, .int p1, .int p2, .ref o]) (n := 5) (Nat.le_of_ble_eq_true rfl)
  rw [lg_entry_eq]
  generalize (lg_sl ([.ref a.1, .int p1, .int p2, .ref o]) ++ List.replicate (5 - (lg_sl ([.ref a.1, .int p1, .int p2, .ref o])).length) Slot.unset).toArray = ls at hl ⊢
  have hl : lv_has ls 5 [(0, .ref a.1), (1, .int p1), (2, .int p2), (3, .ref o)] := hl
  refine lv_aload_n hx hb dL_copy_0 rfl (lv_at hl 3 rfl) ?_
  refine lv_aload_n hx hb dL_copy_1 rfl (lv_at hl 0 rfl) ?_
  refine lv_iload_n hx hb dL_copy_2 rfl (lv_at hl 1 rfl) ?_
  refine lv_iload_n hx hb dL_copy_3 rfl (lv_at hl 2 rfl) ?_
  refine cv_V hC hGx hD (c_X0_copy l hl9 k a hD p1 p2 z) (gV w_682 w_683 w_684 w_26 w_685) kk_X0_copy rfl ⟨Nat.le_of_ble_eq_true rfl, Nat.le_of_ble_eq_true rfl⟩ ⟨Nat.le_of_ble_eq_true rfl, Nat.le_of_ble_eq_true rfl⟩ hP va_S.rf hl.1 rfl rfl (Nat.le_of_ble_eq_true rfl) dL_copy_4 (fun h0 ce q H1 locs1 hP1 hS1 hce hcv hcl => ?_) (fun h0 H1 locs1 hP1 hS1 => ?_)
  · obtain ⟨hO1, hS2⟩ := w_pre (z := z) hO hoa hS1
    rcases hres with h | h
    · exact absurd h h0
    · have hcl : s.vm.findClass "java/lang/IndexOutOfBoundsException" = some ce.cls := by rw [h] at hcl; exact hcl
      refine vx_catch (E := "java/lang/IndexOutOfBoundsException") hown [] ⟨0, 11, 14, 19⟩ [] (by rw [htab]; rfl) (List.forall_mem_nil _) (by decide) (by decide) (htg _ w_622) (gx_cast hGx (by decide)) hce hcv hcl ?_
      refine lv_astore (lv' := [(4, .ref q), (0, .ref a.1), (1, .int p1), (2, .int p2), (3, .ref o)]) hx hb dL_copy_14 hl (by decide) rfl (fun ls hl => ?_)
      refine lv_iconst (v := 1) hx hb dL_copy_16 (by decide) ?_
      have hv9 : (if (m_X0_copy p1 p2 z).1 = 0 then ((m_X0_copy p1 p2 z).2.1).toInt64 else v) = v := if_neg h0
      rw [hv9]
      exact w_iret hx hb hr hlocks (by rw [h]; rfl) hP1 hO1 hS2 ⟨Nat.le_of_ble_eq_true rfl, Nat.le_of_ble_eq_true rfl⟩ dL_copy_17
  · obtain ⟨hO1, hS2⟩ := w_pre (z := z) hO hoa hS1
    obtain ⟨w9, hO1⟩ := hO1
    have hP3 := va_P.app (w1 := [(o, _)]) hO1 hP1
    have hD3 := w_D (n := s.heap.size) (x := .inr (3, [.long v, w9])) (z := (m_X0_copy p1 p2 z).2.2) hD hoa
    refine lv_i2l hx hb dL_copy_7 rfl ?_
    refine va_putN (D := kD k) (ci := 3) (v := .long (((m_X0_copy p1 p2 z).2.1).toInt64)) (ty := .long) (C := RX1) (T := TX1) (N := 2) (A := wA a o s.heap.size) (H0 := s.heap) hx hb htg inG_X1 tyX1 tyX1_ok nmX1 hown hGx.1 hP3 hD3 hS2 0 rfl rfl 0 (by decide) (va_Nw.use rfl (gx_nf hGx (q := ("DatesoloLaw", 13, "DatesoloLaw$Out", "n", "J", "DatesoloLaw")) (by decide +kernel))) (fun _ h9 => h9) rfl (by decide +kernel) rfl rfl (Nat.le_of_ble_eq_true rfl) dL_copy_8 (fun H4 locs4 hP4 _ hS4 => ?_)
    refine lv_goto (tgt := 18) hx hb dL_copy_11 (by decide) ?_
    refine lv_iconst (v := 0) hx hb dL_copy_18 (by decide) ?_
    have hP5 : va_P (kD k) vwCl (cW k a ((m_X0_copy p1 p2 z).2.2)) H4 := hP4.sub [1, 2, 3, 4, 5] rfl
    have hO5 : oP k o (((m_X0_copy p1 p2 z).2.1).toInt64) H4 := ⟨w9, hP4.sub [0] rfl⟩
    have hv9 : (if (m_X0_copy p1 p2 z).1 = 0 then ((m_X0_copy p1 p2 z).2.1).toInt64 else v) = ((m_X0_copy p1 p2 z).2.1).toInt64 := if_pos h0
    rw [hv9]
    exact w_iret hx hb hr hlocks (by rw [h0]; rfl) hP5 hO5 hS4 ⟨Nat.le_of_ble_eq_true rfl, Nat.le_of_ble_eq_true rfl⟩ dL_copy_19
noncomputable abbrev wsL_epoch : List Cond := .codeWith yL_epoch cL_epoch 4 (some .int) [(0, 10, 13, 19)] :: GL
theorem kw_L_epoch : (∃ ws', wsL_epoch = Cond.codeWith yL_epoch cL_epoch 4 (some .int) [(0, 10, 13, 19)] :: ws') ∧ yL_epoch.cls ≠ "java/lang/invoke/MethodHandle" ∧ yL_epoch.cls ≠ "java/lang/invoke/VarHandle" ∧ (parseMethodDescriptor yL_epoch.desc).map (fun d => d.parameters.length) = some 3 := ⟨⟨_, rfl⟩, by decide +kernel, by decide +kernel, by decide +kernel⟩
set_option maxRecDepth 100000 in
set_option maxHeartbeats 4000000 in
theorem k_L_epoch (l : Launch) (hl9 : l.stackTraces = false) (k : Kx) (a : CA) (hD : cD k a) (o : Nat) (p1 : Int32) (z : CS) (v : Int64) (hres : (m_X0_epoch p1 z).1 = 0 ∨ (m_X0_epoch p1 z).1 = 1) : wM l k a o yL_epoch wsL_epoch 10 228 3 18 [.ref a.1, .int p1, .ref o] z v (wk 1 1 ((m_X0_epoch p1 z).1)) ((m_X0_epoch p1 z).2.2) (if (m_X0_epoch p1 z).1 = 0 then ((m_X0_epoch p1 z).2.1).toInt64 else v) := by
  intro sz
  refine va_MetW (cc := cL_epoch) (maxL := 4) (ret := (some .int)) (hh := [(0, 10, 13, 19)]) (by decide) rfl ?_
  intro p e s m args below meth c s₁ B hml hv
  obtain ⟨rfl, rfl, hGx, hP, hO, hob, hoa⟩ := hv
  have hx := B.exec
  have hb := B.bytes
  have hr := B.returns
  have hts := atoms_spec (ws := wsL_epoch) B.pre
  have hown : s.vm.findClass RL = some m.cls := findClass_of_methodNamed B.named
  have hlocks := B.notSynchronized
  have htg : ∀ w ∈ GL, w.before _ s = true := fun w h => hts w (List.mem_cons_of_mem _ h)
  have hC : CallFix p m c cL_epoch 4 s _ wsL_epoch RL := ⟨hx, hb, hml, hown, hts⟩
  have htab : c.exceptionTable.toList = tableOf [(0, 10, 13, 19)] := vx_table (x := yL_epoch) B (hts _ List.mem_cons_self)
  have hl := lv_entry ([.ref a.1, .int p1, .ref o]) (n := 4) (Nat.le_of_ble_eq_true rfl)
  rw [lg_entry_eq]
  generalize (lg_sl ([.ref a.1, .int p1, .ref o]) ++ List.replicate (4 - (lg_sl ([.ref a.1, .int p1, .ref o])).length) Slot.unset).toArray = ls at hl ⊢
  have hl : lv_has ls 4 [(0, .ref a.1), (1, .int p1), (2, .ref o)] := hl
  refine lv_aload_n hx hb dL_epoch_0 rfl (lv_at hl 2 rfl) ?_
  refine lv_aload_n hx hb dL_epoch_1 rfl (lv_at hl 0 rfl) ?_
  refine lv_iload_n hx hb dL_epoch_2 rfl (lv_at hl 1 rfl) ?_
  refine cv_V hC hGx hD (c_X0_epoch l hl9 k a hD p1 z) (gV w_689 w_690 w_691 w_26 w_692) kk_X0_epoch rfl ⟨Nat.le_of_ble_eq_true rfl, Nat.le_of_ble_eq_true rfl⟩ ⟨Nat.le_of_ble_eq_true rfl, Nat.le_of_ble_eq_true rfl⟩ hP va_S.rf hl.1 rfl rfl (Nat.le_of_ble_eq_true rfl) dL_epoch_3 (fun h0 ce q H1 locs1 hP1 hS1 hce hcv hcl => ?_) (fun h0 H1 locs1 hP1 hS1 => ?_)
  · obtain ⟨hO1, hS2⟩ := w_pre (z := z) hO hoa hS1
    rcases hres with h | h
    · exact absurd h h0
    · have hcl : s.vm.findClass "java/lang/IndexOutOfBoundsException" = some ce.cls := by rw [h] at hcl; exact hcl
      refine vx_catch (E := "java/lang/IndexOutOfBoundsException") hown [] ⟨0, 10, 13, 19⟩ [] (by rw [htab]; rfl) (List.forall_mem_nil _) (by decide) (by decide) (htg _ w_622) (gx_cast hGx (by decide)) hce hcv hcl ?_
      refine lv_astore_n (lv' := [(3, .ref q), (0, .ref a.1), (1, .int p1), (2, .ref o)]) hx hb dL_epoch_13 rfl hl (by decide) rfl (fun ls hl => ?_)
      refine lv_iconst (v := 1) hx hb dL_epoch_14 (by decide) ?_
      have hv9 : (if (m_X0_epoch p1 z).1 = 0 then ((m_X0_epoch p1 z).2.1).toInt64 else v) = v := if_neg h0
      rw [hv9]
      exact w_iret hx hb hr hlocks (by rw [h]; rfl) hP1 hO1 hS2 ⟨Nat.le_of_ble_eq_true rfl, Nat.le_of_ble_eq_true rfl⟩ dL_epoch_15
  · obtain ⟨hO1, hS2⟩ := w_pre (z := z) hO hoa hS1
    obtain ⟨w9, hO1⟩ := hO1
    have hP3 := va_P.app (w1 := [(o, _)]) hO1 hP1
    have hD3 := w_D (n := s.heap.size) (x := .inr (3, [.long v, w9])) (z := (m_X0_epoch p1 z).2.2) hD hoa
    refine lv_i2l hx hb dL_epoch_6 rfl ?_
    refine va_putN (D := kD k) (ci := 3) (v := .long (((m_X0_epoch p1 z).2.1).toInt64)) (ty := .long) (C := RX1) (T := TX1) (N := 2) (A := wA a o s.heap.size) (H0 := s.heap) hx hb htg inG_X1 tyX1 tyX1_ok nmX1 hown hGx.1 hP3 hD3 hS2 0 rfl rfl 0 (by decide) (va_Nw.use rfl (gx_nf hGx (q := ("DatesoloLaw", 13, "DatesoloLaw$Out", "n", "J", "DatesoloLaw")) (by decide +kernel))) (fun _ h9 => h9) rfl (by decide +kernel) rfl rfl (Nat.le_of_ble_eq_true rfl) dL_epoch_7 (fun H4 locs4 hP4 _ hS4 => ?_)
    refine lv_goto (tgt := 16) hx hb dL_epoch_10 (by decide) ?_
    refine lv_iconst (v := 0) hx hb dL_epoch_16 (by decide) ?_
    have hP5 : va_P (kD k) vwCl (cW k a ((m_X0_epoch p1 z).2.2)) H4 := hP4.sub [1, 2, 3, 4, 5] rfl
    have hO5 : oP k o (((m_X0_epoch p1 z).2.1).toInt64) H4 := ⟨w9, hP4.sub [0] rfl⟩
    have hv9 : (if (m_X0_epoch p1 z).1 = 0 then ((m_X0_epoch p1 z).2.1).toInt64 else v) = ((m_X0_epoch p1 z).2.1).toInt64 := if_pos h0
    rw [hv9]
    exact w_iret hx hb hr hlocks (by rw [h0]; rfl) hP5 hO5 hS4 ⟨Nat.le_of_ble_eq_true rfl, Nat.le_of_ble_eq_true rfl⟩ dL_epoch_17
noncomputable abbrev wsL_swap : List Cond := .codeWith yL_swap cL_swap 5 (some .int) [(0, 11, 14, 19)] :: GL
theorem kw_L_swap : (∃ ws', wsL_swap = Cond.codeWith yL_swap cL_swap 5 (some .int) [(0, 11, 14, 19)] :: ws') ∧ yL_swap.cls ≠ "java/lang/invoke/MethodHandle" ∧ yL_swap.cls ≠ "java/lang/invoke/VarHandle" ∧ (parseMethodDescriptor yL_swap.desc).map (fun d => d.parameters.length) = some 4 := ⟨⟨_, rfl⟩, by decide +kernel, by decide +kernel, by decide +kernel⟩
set_option maxRecDepth 100000 in
set_option maxHeartbeats 4000000 in
theorem k_L_swap (l : Launch) (hl9 : l.stackTraces = false) (k : Kx) (a : CA) (hD : cD k a) (o : Nat) (p1 : Int32) (p2 : Int32) (z : CS) (v : Int64) (hres : (m_X0_swap p1 p2 z).1 = 0 ∨ (m_X0_swap p1 p2 z).1 = 1) : wM l k a o yL_swap wsL_swap 10 232 5 30 [.ref a.1, .int p1, .int p2, .ref o] z v (wk 1 1 ((m_X0_swap p1 p2 z).1)) ((m_X0_swap p1 p2 z).2.2) (if (m_X0_swap p1 p2 z).1 = 0 then ((m_X0_swap p1 p2 z).2.1).toInt64 else v) := by
  intro sz
  refine va_MetW (cc := cL_swap) (maxL := 5) (ret := (some .int)) (hh := [(0, 11, 14, 19)]) (by decide) rfl ?_
  intro p e s m args below meth c s₁ B hml hv
  obtain ⟨rfl, rfl, hGx, hP, hO, hob, hoa⟩ := hv
  have hx := B.exec
  have hb := B.bytes
  have hr := B.returns
  have hts := atoms_spec (ws := wsL_swap) B.pre
  have hown : s.vm.findClass RL = some m.cls := findClass_of_methodNamed B.named
  have hlocks := B.notSynchronized
  have htg : ∀ w ∈ GL, w.before _ s = true := fun w h => hts w (List.mem_cons_of_mem _ h)
  have hC : CallFix p m c cL_swap 5 s _ wsL_swap RL := ⟨hx, hb, hml, hown, hts⟩
  have htab : c.exceptionTable.toList = tableOf [(0, 11, 14, 19)] := vx_table (x := yL_swap) B (hts _ List.mem_cons_self)
  have hl := lv_entry ([.ref a.1, .int p1, .int p2, .ref o]) (n := 5) (Nat.le_of_ble_eq_true rfl)
  rw [lg_entry_eq]
  generalize (lg_sl ([.ref a.1, .int p1, .int p2, .ref o]) ++ List.replicate (5 - (lg_sl ([.ref a.1, .int p1, .int p2, .ref o])).length) Slot.unset).toArray = ls at hl ⊢
  have hl : lv_has ls 5 [(0, .ref a.1), (1, .int p1), (2, .int p2), (3, .ref o)] := hl
  refine lv_aload_n hx hb dL_swap_0 rfl (lv_at hl 3 rfl) ?_
  refine lv_aload_n hx hb dL_swap_1 rfl (lv_at hl 0 rfl) ?_
  refine lv_iload_n hx hb dL_swap_2 rfl (lv_at hl 1 rfl) ?_
  refine lv_iload_n hx hb dL_swap_3 rfl (lv_at hl 2 rfl) ?_
  refine cv_V hC hGx hD (c_X0_swap l hl9 k a hD p1 p2 z) (gV w_696 w_697 w_698 w_26 w_699) kk_X0_swap rfl ⟨Nat.le_of_ble_eq_true rfl, Nat.le_of_ble_eq_true rfl⟩ ⟨Nat.le_of_ble_eq_true rfl, Nat.le_of_ble_eq_true rfl⟩ hP va_S.rf hl.1 rfl rfl (Nat.le_of_ble_eq_true rfl) dL_swap_4 (fun h0 ce q H1 locs1 hP1 hS1 hce hcv hcl => ?_) (fun h0 H1 locs1 hP1 hS1 => ?_)
  · obtain ⟨hO1, hS2⟩ := w_pre (z := z) hO hoa hS1
    rcases hres with h | h
    · exact absurd h h0
    · have hcl : s.vm.findClass "java/lang/IndexOutOfBoundsException" = some ce.cls := by rw [h] at hcl; exact hcl
      refine vx_catch (E := "java/lang/IndexOutOfBoundsException") hown [] ⟨0, 11, 14, 19⟩ [] (by rw [htab]; rfl) (List.forall_mem_nil _) (by decide) (by decide) (htg _ w_622) (gx_cast hGx (by decide)) hce hcv hcl ?_
      refine lv_astore (lv' := [(4, .ref q), (0, .ref a.1), (1, .int p1), (2, .int p2), (3, .ref o)]) hx hb dL_swap_14 hl (by decide) rfl (fun ls hl => ?_)
      refine lv_iconst (v := 1) hx hb dL_swap_16 (by decide) ?_
      have hv9 : (if (m_X0_swap p1 p2 z).1 = 0 then ((m_X0_swap p1 p2 z).2.1).toInt64 else v) = v := if_neg h0
      rw [hv9]
      exact w_iret hx hb hr hlocks (by rw [h]; rfl) hP1 hO1 hS2 ⟨Nat.le_of_ble_eq_true rfl, Nat.le_of_ble_eq_true rfl⟩ dL_swap_17
  · obtain ⟨hO1, hS2⟩ := w_pre (z := z) hO hoa hS1
    obtain ⟨w9, hO1⟩ := hO1
    have hP3 := va_P.app (w1 := [(o, _)]) hO1 hP1
    have hD3 := w_D (n := s.heap.size) (x := .inr (3, [.long v, w9])) (z := (m_X0_swap p1 p2 z).2.2) hD hoa
    refine lv_i2l hx hb dL_swap_7 rfl ?_
    refine va_putN (D := kD k) (ci := 3) (v := .long (((m_X0_swap p1 p2 z).2.1).toInt64)) (ty := .long) (C := RX1) (T := TX1) (N := 2) (A := wA a o s.heap.size) (H0 := s.heap) hx hb htg inG_X1 tyX1 tyX1_ok nmX1 hown hGx.1 hP3 hD3 hS2 0 rfl rfl 0 (by decide) (va_Nw.use rfl (gx_nf hGx (q := ("DatesoloLaw", 13, "DatesoloLaw$Out", "n", "J", "DatesoloLaw")) (by decide +kernel))) (fun _ h9 => h9) rfl (by decide +kernel) rfl rfl (Nat.le_of_ble_eq_true rfl) dL_swap_8 (fun H4 locs4 hP4 _ hS4 => ?_)
    refine lv_goto (tgt := 18) hx hb dL_swap_11 (by decide) ?_
    refine lv_iconst (v := 0) hx hb dL_swap_18 (by decide) ?_
    have hP5 : va_P (kD k) vwCl (cW k a ((m_X0_swap p1 p2 z).2.2)) H4 := hP4.sub [1, 2, 3, 4, 5] rfl
    have hO5 : oP k o (((m_X0_swap p1 p2 z).2.1).toInt64) H4 := ⟨w9, hP4.sub [0] rfl⟩
    have hv9 : (if (m_X0_swap p1 p2 z).1 = 0 then ((m_X0_swap p1 p2 z).2.1).toInt64 else v) = ((m_X0_swap p1 p2 z).2.1).toInt64 := if_pos h0
    rw [hv9]
    exact w_iret hx hb hr hlocks (by rw [h0]; rfl) hP5 hO5 hS4 ⟨Nat.le_of_ble_eq_true rfl, Nat.le_of_ble_eq_true rfl⟩ dL_swap_19
noncomputable abbrev wsL_withYear : List Cond := .codeWith yL_withYear cL_withYear 5 (some .int) [(0, 11, 14, 19), (0, 11, 18, 21)] :: GL
theorem kw_L_withYear : (∃ ws', wsL_withYear = Cond.codeWith yL_withYear cL_withYear 5 (some .int) [(0, 11, 14, 19), (0, 11, 18, 21)] :: ws') ∧ yL_withYear.cls ≠ "java/lang/invoke/MethodHandle" ∧ yL_withYear.cls ≠ "java/lang/invoke/VarHandle" ∧ (parseMethodDescriptor yL_withYear.desc).map (fun d => d.parameters.length) = some 4 := ⟨⟨_, rfl⟩, by decide +kernel, by decide +kernel, by decide +kernel⟩
set_option maxRecDepth 100000 in
set_option maxHeartbeats 4000000 in
theorem k_L_withYear (l : Launch) (hl9 : l.stackTraces = false) (k : Kx) (a : CA) (hD : cD k a) (o : Nat) (p1 : Int32) (p2 : Int32) (z : CS) (v : Int64) (hres : (m_X0_withYear p1 p2 z).1 = 0 ∨ (m_X0_withYear p1 p2 z).1 = 1 ∨ (m_X0_withYear p1 p2 z).1 = 2) : wM l k a o yL_withYear wsL_withYear 10 230 4 24 [.ref a.1, .int p1, .int p2, .ref o] z v (wk 1 2 ((m_X0_withYear p1 p2 z).1)) ((m_X0_withYear p1 p2 z).2.2) (if (m_X0_withYear p1 p2 z).1 = 0 then ((m_X0_withYear p1 p2 z).2.1).toInt64 else v) := by
  intro sz
  refine va_MetW (cc := cL_withYear) (maxL := 5) (ret := (some .int)) (hh := [(0, 11, 14, 19), (0, 11, 18, 21)]) (by decide) rfl ?_
  intro p e s m args below meth c s₁ B hml hv
  obtain ⟨rfl, rfl, hGx, hP, hO, hob, hoa⟩ := hv
  have hx := B.exec
  have hb := B.bytes
  have hr := B.returns
  have hts := atoms_spec (ws := wsL_withYear) B.pre
  have hown : s.vm.findClass RL = some m.cls := findClass_of_methodNamed B.named
  have hlocks := B.notSynchronized
  have htg : ∀ w ∈ GL, w.before _ s = true := fun w h => hts w (List.mem_cons_of_mem _ h)
  have hC : CallFix p m c cL_withYear 5 s _ wsL_withYear RL := ⟨hx, hb, hml, hown, hts⟩
  have htab : c.exceptionTable.toList = tableOf [(0, 11, 14, 19), (0, 11, 18, 21)] := vx_table (x := yL_withYear) B (hts _ List.mem_cons_self)
  have hl := lv_entry ([.ref a.1, .int p1, .int p2, .ref o]) (n := 5) (Nat.le_of_ble_eq_true rfl)
  rw [lg_entry_eq]
  generalize (lg_sl ([.ref a.1, .int p1, .int p2, .ref o]) ++ List.replicate (5 - (lg_sl ([.ref a.1, .int p1, .int p2, .ref o])).length) Slot.unset).toArray = ls at hl ⊢
  have hl : lv_has ls 5 [(0, .ref a.1), (1, .int p1), (2, .int p2), (3, .ref o)] := hl
  refine lv_aload_n hx hb dL_withYear_0 rfl (lv_at hl 3 rfl) ?_
  refine lv_aload_n hx hb dL_withYear_1 rfl (lv_at hl 0 rfl) ?_
  refine lv_iload_n hx hb dL_withYear_2 rfl (lv_at hl 1 rfl) ?_
  refine lv_iload_n hx hb dL_withYear_3 rfl (lv_at hl 2 rfl) ?_
  refine cv_V hC hGx hD (c_X0_withYear l hl9 k a hD p1 p2 z) (gV w_703 w_704 w_705 w_26 w_706) kk_X0_withYear rfl ⟨Nat.le_of_ble_eq_true rfl, Nat.le_of_ble_eq_true rfl⟩ ⟨Nat.le_of_ble_eq_true rfl, Nat.le_of_ble_eq_true rfl⟩ hP va_S.rf hl.1 rfl rfl (Nat.le_of_ble_eq_true rfl) dL_withYear_4 (fun h0 ce q H1 locs1 hP1 hS1 hce hcv hcl => ?_) (fun h0 H1 locs1 hP1 hS1 => ?_)
  · obtain ⟨hO1, hS2⟩ := w_pre (z := z) hO hoa hS1
    rcases hres with h | h | h
    · exact absurd h h0
    · have hcl : s.vm.findClass "java/lang/IndexOutOfBoundsException" = some ce.cls := by rw [h] at hcl; exact hcl
      refine vx_catch (E := "java/lang/IndexOutOfBoundsException") hown [] ⟨0, 11, 14, 19⟩ [⟨0, 11, 18, 21⟩] (by rw [htab]; rfl) (List.forall_mem_nil _) (by decide) (by decide) (htg _ w_622) (gx_cast hGx (by decide)) hce hcv hcl ?_
      refine lv_astore (lv' := [(4, .ref q), (0, .ref a.1), (1, .int p1), (2, .int p2), (3, .ref o)]) hx hb dL_withYear_14 hl (by decide) rfl (fun ls hl => ?_)
      refine lv_iconst (v := 1) hx hb dL_withYear_16 (by decide) ?_
      have hv9 : (if (m_X0_withYear p1 p2 z).1 = 0 then ((m_X0_withYear p1 p2 z).2.1).toInt64 else v) = v := if_neg h0
      rw [hv9]
      exact w_iret hx hb hr hlocks (by rw [h]; rfl) hP1 hO1 hS2 ⟨Nat.le_of_ble_eq_true rfl, Nat.le_of_ble_eq_true rfl⟩ dL_withYear_17
    · have hcl : s.vm.findClass "java/lang/IllegalArgumentException" = some ce.cls := by rw [h] at hcl; exact hcl
      refine vx_catch (E := "java/lang/IllegalArgumentException") hown [⟨0, 11, 14, 19⟩] ⟨0, 11, 18, 21⟩ [] (by rw [htab]; rfl) (List.forall_mem_cons.mpr ⟨Or.inr ⟨by decide, "java/lang/IndexOutOfBoundsException", (htg _ w_622), gx_nc hGx (q := ("java/lang/IllegalArgumentException", "java/lang/IndexOutOfBoundsException")) (by decide)⟩, (List.forall_mem_nil _)⟩) (by decide) (by decide) (htg _ w_623) (gx_cast hGx (by decide)) hce hcv hcl ?_
      refine lv_astore (lv' := [(4, .ref q), (0, .ref a.1), (1, .int p1), (2, .int p2), (3, .ref o)]) hx hb dL_withYear_18 hl (by decide) rfl (fun ls hl => ?_)
      refine lv_iconst (v := 2) hx hb dL_withYear_20 (by decide) ?_
      have hv9 : (if (m_X0_withYear p1 p2 z).1 = 0 then ((m_X0_withYear p1 p2 z).2.1).toInt64 else v) = v := if_neg h0
      rw [hv9]
      exact w_iret hx hb hr hlocks (by rw [h]; rfl) hP1 hO1 hS2 ⟨Nat.le_of_ble_eq_true rfl, Nat.le_of_ble_eq_true rfl⟩ dL_withYear_21
  · obtain ⟨hO1, hS2⟩ := w_pre (z := z) hO hoa hS1
    obtain ⟨w9, hO1⟩ := hO1
    have hP3 := va_P.app (w1 := [(o, _)]) hO1 hP1
    have hD3 := w_D (n := s.heap.size) (x := .inr (3, [.long v, w9])) (z := (m_X0_withYear p1 p2 z).2.2) hD hoa
    refine lv_i2l hx hb dL_withYear_7 rfl ?_
    refine va_putN (D := kD k) (ci := 3) (v := .long (((m_X0_withYear p1 p2 z).2.1).toInt64)) (ty := .long) (C := RX1) (T := TX1) (N := 2) (A := wA a o s.heap.size) (H0 := s.heap) hx hb htg inG_X1 tyX1 tyX1_ok nmX1 hown hGx.1 hP3 hD3 hS2 0 rfl rfl 0 (by decide) (va_Nw.use rfl (gx_nf hGx (q := ("DatesoloLaw", 13, "DatesoloLaw$Out", "n", "J", "DatesoloLaw")) (by decide +kernel))) (fun _ h9 => h9) rfl (by decide +kernel) rfl rfl (Nat.le_of_ble_eq_true rfl) dL_withYear_8 (fun H4 locs4 hP4 _ hS4 => ?_)
    refine lv_goto (tgt := 22) hx hb dL_withYear_11 (by decide) ?_
    refine lv_iconst (v := 0) hx hb dL_withYear_22 (by decide) ?_
    have hP5 : va_P (kD k) vwCl (cW k a ((m_X0_withYear p1 p2 z).2.2)) H4 := hP4.sub [1, 2, 3, 4, 5] rfl
    have hO5 : oP k o (((m_X0_withYear p1 p2 z).2.1).toInt64) H4 := ⟨w9, hP4.sub [0] rfl⟩
    have hv9 : (if (m_X0_withYear p1 p2 z).1 = 0 then ((m_X0_withYear p1 p2 z).2.1).toInt64 else v) = ((m_X0_withYear p1 p2 z).2.1).toInt64 := if_pos h0
    rw [hv9]
    exact w_iret hx hb hr hlocks (by rw [h0]; rfl) hP5 hO5 hS4 ⟨Nat.le_of_ble_eq_true rfl, Nat.le_of_ble_eq_true rfl⟩ dL_withYear_23
noncomputable abbrev wsL_withMonth : List Cond := .codeWith yL_withMonth cL_withMonth 5 (some .int) [(0, 11, 14, 19), (0, 11, 18, 21)] :: GL
theorem kw_L_withMonth : (∃ ws', wsL_withMonth = Cond.codeWith yL_withMonth cL_withMonth 5 (some .int) [(0, 11, 14, 19), (0, 11, 18, 21)] :: ws') ∧ yL_withMonth.cls ≠ "java/lang/invoke/MethodHandle" ∧ yL_withMonth.cls ≠ "java/lang/invoke/VarHandle" ∧ (parseMethodDescriptor yL_withMonth.desc).map (fun d => d.parameters.length) = some 4 := ⟨⟨_, rfl⟩, by decide +kernel, by decide +kernel, by decide +kernel⟩
set_option maxRecDepth 100000 in
set_option maxHeartbeats 4000000 in
theorem k_L_withMonth (l : Launch) (hl9 : l.stackTraces = false) (k : Kx) (a : CA) (hD : cD k a) (o : Nat) (p1 : Int32) (p2 : Int32) (z : CS) (v : Int64) (hres : (m_X0_withMonth p1 p2 z).1 = 0 ∨ (m_X0_withMonth p1 p2 z).1 = 1 ∨ (m_X0_withMonth p1 p2 z).1 = 2) : wM l k a o yL_withMonth wsL_withMonth 10 230 4 24 [.ref a.1, .int p1, .int p2, .ref o] z v (wk 1 2 ((m_X0_withMonth p1 p2 z).1)) ((m_X0_withMonth p1 p2 z).2.2) (if (m_X0_withMonth p1 p2 z).1 = 0 then ((m_X0_withMonth p1 p2 z).2.1).toInt64 else v) := by
  intro sz
  refine va_MetW (cc := cL_withMonth) (maxL := 5) (ret := (some .int)) (hh := [(0, 11, 14, 19), (0, 11, 18, 21)]) (by decide) rfl ?_
  intro p e s m args below meth c s₁ B hml hv
  obtain ⟨rfl, rfl, hGx, hP, hO, hob, hoa⟩ := hv
  have hx := B.exec
  have hb := B.bytes
  have hr := B.returns
  have hts := atoms_spec (ws := wsL_withMonth) B.pre
  have hown : s.vm.findClass RL = some m.cls := findClass_of_methodNamed B.named
  have hlocks := B.notSynchronized
  have htg : ∀ w ∈ GL, w.before _ s = true := fun w h => hts w (List.mem_cons_of_mem _ h)
  have hC : CallFix p m c cL_withMonth 5 s _ wsL_withMonth RL := ⟨hx, hb, hml, hown, hts⟩
  have htab : c.exceptionTable.toList = tableOf [(0, 11, 14, 19), (0, 11, 18, 21)] := vx_table (x := yL_withMonth) B (hts _ List.mem_cons_self)
  have hl := lv_entry ([.ref a.1, .int p1, .int p2, .ref o]) (n := 5) (Nat.le_of_ble_eq_true rfl)
  rw [lg_entry_eq]
  generalize (lg_sl ([.ref a.1, .int p1, .int p2, .ref o]) ++ List.replicate (5 - (lg_sl ([.ref a.1, .int p1, .int p2, .ref o])).length) Slot.unset).toArray = ls at hl ⊢
  have hl : lv_has ls 5 [(0, .ref a.1), (1, .int p1), (2, .int p2), (3, .ref o)] := hl
  refine lv_aload_n hx hb dL_withMonth_0 rfl (lv_at hl 3 rfl) ?_
  refine lv_aload_n hx hb dL_withMonth_1 rfl (lv_at hl 0 rfl) ?_
  refine lv_iload_n hx hb dL_withMonth_2 rfl (lv_at hl 1 rfl) ?_
  refine lv_iload_n hx hb dL_withMonth_3 rfl (lv_at hl 2 rfl) ?_
  refine cv_V hC hGx hD (c_X0_withMonth l hl9 k a hD p1 p2 z) (gV w_710 w_711 w_712 w_26 w_713) kk_X0_withMonth rfl ⟨Nat.le_of_ble_eq_true rfl, Nat.le_of_ble_eq_true rfl⟩ ⟨Nat.le_of_ble_eq_true rfl, Nat.le_of_ble_eq_true rfl⟩ hP va_S.rf hl.1 rfl rfl (Nat.le_of_ble_eq_true rfl) dL_withMonth_4 (fun h0 ce q H1 locs1 hP1 hS1 hce hcv hcl => ?_) (fun h0 H1 locs1 hP1 hS1 => ?_)
  · obtain ⟨hO1, hS2⟩ := w_pre (z := z) hO hoa hS1
    rcases hres with h | h | h
    · exact absurd h h0
    · have hcl : s.vm.findClass "java/lang/IndexOutOfBoundsException" = some ce.cls := by rw [h] at hcl; exact hcl
      refine vx_catch (E := "java/lang/IndexOutOfBoundsException") hown [] ⟨0, 11, 14, 19⟩ [⟨0, 11, 18, 21⟩] (by rw [htab]; rfl) (List.forall_mem_nil _) (by decide) (by decide) (htg _ w_622) (gx_cast hGx (by decide)) hce hcv hcl ?_
      refine lv_astore (lv' := [(4, .ref q), (0, .ref a.1), (1, .int p1), (2, .int p2), (3, .ref o)]) hx hb dL_withMonth_14 hl (by decide) rfl (fun ls hl => ?_)
      refine lv_iconst (v := 1) hx hb dL_withMonth_16 (by decide) ?_
      have hv9 : (if (m_X0_withMonth p1 p2 z).1 = 0 then ((m_X0_withMonth p1 p2 z).2.1).toInt64 else v) = v := if_neg h0
      rw [hv9]
      exact w_iret hx hb hr hlocks (by rw [h]; rfl) hP1 hO1 hS2 ⟨Nat.le_of_ble_eq_true rfl, Nat.le_of_ble_eq_true rfl⟩ dL_withMonth_17
    · have hcl : s.vm.findClass "java/lang/IllegalArgumentException" = some ce.cls := by rw [h] at hcl; exact hcl
      refine vx_catch (E := "java/lang/IllegalArgumentException") hown [⟨0, 11, 14, 19⟩] ⟨0, 11, 18, 21⟩ [] (by rw [htab]; rfl) (List.forall_mem_cons.mpr ⟨Or.inr ⟨by decide, "java/lang/IndexOutOfBoundsException", (htg _ w_622), gx_nc hGx (q := ("java/lang/IllegalArgumentException", "java/lang/IndexOutOfBoundsException")) (by decide)⟩, (List.forall_mem_nil _)⟩) (by decide) (by decide) (htg _ w_623) (gx_cast hGx (by decide)) hce hcv hcl ?_
      refine lv_astore (lv' := [(4, .ref q), (0, .ref a.1), (1, .int p1), (2, .int p2), (3, .ref o)]) hx hb dL_withMonth_18 hl (by decide) rfl (fun ls hl => ?_)
      refine lv_iconst (v := 2) hx hb dL_withMonth_20 (by decide) ?_
      have hv9 : (if (m_X0_withMonth p1 p2 z).1 = 0 then ((m_X0_withMonth p1 p2 z).2.1).toInt64 else v) = v := if_neg h0
      rw [hv9]
      exact w_iret hx hb hr hlocks (by rw [h]; rfl) hP1 hO1 hS2 ⟨Nat.le_of_ble_eq_true rfl, Nat.le_of_ble_eq_true rfl⟩ dL_withMonth_21
  · obtain ⟨hO1, hS2⟩ := w_pre (z := z) hO hoa hS1
    obtain ⟨w9, hO1⟩ := hO1
    have hP3 := va_P.app (w1 := [(o, _)]) hO1 hP1
    have hD3 := w_D (n := s.heap.size) (x := .inr (3, [.long v, w9])) (z := (m_X0_withMonth p1 p2 z).2.2) hD hoa
    refine lv_i2l hx hb dL_withMonth_7 rfl ?_
    refine va_putN (D := kD k) (ci := 3) (v := .long (((m_X0_withMonth p1 p2 z).2.1).toInt64)) (ty := .long) (C := RX1) (T := TX1) (N := 2) (A := wA a o s.heap.size) (H0 := s.heap) hx hb htg inG_X1 tyX1 tyX1_ok nmX1 hown hGx.1 hP3 hD3 hS2 0 rfl rfl 0 (by decide) (va_Nw.use rfl (gx_nf hGx (q := ("DatesoloLaw", 13, "DatesoloLaw$Out", "n", "J", "DatesoloLaw")) (by decide +kernel))) (fun _ h9 => h9) rfl (by decide +kernel) rfl rfl (Nat.le_of_ble_eq_true rfl) dL_withMonth_8 (fun H4 locs4 hP4 _ hS4 => ?_)
    refine lv_goto (tgt := 22) hx hb dL_withMonth_11 (by decide) ?_
    refine lv_iconst (v := 0) hx hb dL_withMonth_22 (by decide) ?_
    have hP5 : va_P (kD k) vwCl (cW k a ((m_X0_withMonth p1 p2 z).2.2)) H4 := hP4.sub [1, 2, 3, 4, 5] rfl
    have hO5 : oP k o (((m_X0_withMonth p1 p2 z).2.1).toInt64) H4 := ⟨w9, hP4.sub [0] rfl⟩
    have hv9 : (if (m_X0_withMonth p1 p2 z).1 = 0 then ((m_X0_withMonth p1 p2 z).2.1).toInt64 else v) = ((m_X0_withMonth p1 p2 z).2.1).toInt64 := if_pos h0
    rw [hv9]
    exact w_iret hx hb hr hlocks (by rw [h0]; rfl) hP5 hO5 hS4 ⟨Nat.le_of_ble_eq_true rfl, Nat.le_of_ble_eq_true rfl⟩ dL_withMonth_23
noncomputable abbrev wsL_withDay : List Cond := .codeWith yL_withDay cL_withDay 5 (some .int) [(0, 11, 14, 19), (0, 11, 18, 21), (0, 11, 22, 23)] :: GL
theorem kw_L_withDay : (∃ ws', wsL_withDay = Cond.codeWith yL_withDay cL_withDay 5 (some .int) [(0, 11, 14, 19), (0, 11, 18, 21), (0, 11, 22, 23)] :: ws') ∧ yL_withDay.cls ≠ "java/lang/invoke/MethodHandle" ∧ yL_withDay.cls ≠ "java/lang/invoke/VarHandle" ∧ (parseMethodDescriptor yL_withDay.desc).map (fun d => d.parameters.length) = some 4 := ⟨⟨_, rfl⟩, by decide +kernel, by decide +kernel, by decide +kernel⟩
set_option maxRecDepth 100000 in
set_option maxHeartbeats 4000000 in
theorem k_L_withDay (l : Launch) (hl9 : l.stackTraces = false) (k : Kx) (a : CA) (hD : cD k a) (o : Nat) (p1 : Int32) (p2 : Int32) (z : CS) (v : Int64) (hres : (m_X0_withDay p1 p2 z).1 = 0 ∨ (m_X0_withDay p1 p2 z).1 = 1 ∨ (m_X0_withDay p1 p2 z).1 = 2 ∨ (m_X0_withDay p1 p2 z).1 = 3) : wM l k a o yL_withDay wsL_withDay 10 230 5 30 [.ref a.1, .int p1, .int p2, .ref o] z v (wk 1 2 ((m_X0_withDay p1 p2 z).1)) ((m_X0_withDay p1 p2 z).2.2) (if (m_X0_withDay p1 p2 z).1 = 0 then ((m_X0_withDay p1 p2 z).2.1).toInt64 else v) := by
  intro sz
  refine va_MetW (cc := cL_withDay) (maxL := 5) (ret := (some .int)) (hh := [(0, 11, 14, 19), (0, 11, 18, 21), (0, 11, 22, 23)]) (by decide) rfl ?_
  intro p e s m args below meth c s₁ B hml hv
  obtain ⟨rfl, rfl, hGx, hP, hO, hob, hoa⟩ := hv
  have hx := B.exec
  have hb := B.bytes
  have hr := B.returns
  have hts := atoms_spec (ws := wsL_withDay) B.pre
  have hown : s.vm.findClass RL = some m.cls := findClass_of_methodNamed B.named
  have hlocks := B.notSynchronized
  have htg : ∀ w ∈ GL, w.before _ s = true := fun w h => hts w (List.mem_cons_of_mem _ h)
  have hC : CallFix p m c cL_withDay 5 s _ wsL_withDay RL := ⟨hx, hb, hml, hown, hts⟩
  have htab : c.exceptionTable.toList = tableOf [(0, 11, 14, 19), (0, 11, 18, 21), (0, 11, 22, 23)] := vx_table (x := yL_withDay) B (hts _ List.mem_cons_self)
  have hl := lv_entry ([.ref a.1, .int p1, .int p2, .ref o]) (n := 5) (Nat.le_of_ble_eq_true rfl)
  rw [lg_entry_eq]
  generalize (lg_sl ([.ref a.1, .int p1, .int p2, .ref o]) ++ List.replicate (5 - (lg_sl ([.ref a.1, .int p1, .int p2, .ref o])).length) Slot.unset).toArray = ls at hl ⊢
  have hl : lv_has ls 5 [(0, .ref a.1), (1, .int p1), (2, .int p2), (3, .ref o)] := hl
  refine lv_aload_n hx hb dL_withDay_0 rfl (lv_at hl 3 rfl) ?_
  refine lv_aload_n hx hb dL_withDay_1 rfl (lv_at hl 0 rfl) ?_
  refine lv_iload_n hx hb dL_withDay_2 rfl (lv_at hl 1 rfl) ?_
  refine lv_iload_n hx hb dL_withDay_3 rfl (lv_at hl 2 rfl) ?_
  refine cv_V hC hGx hD (c_X0_withDay l hl9 k a hD p1 p2 z) (gV w_717 w_718 w_719 w_26 w_720) kk_X0_withDay rfl ⟨Nat.le_of_ble_eq_true rfl, Nat.le_of_ble_eq_true rfl⟩ ⟨Nat.le_of_ble_eq_true rfl, Nat.le_of_ble_eq_true rfl⟩ hP va_S.rf hl.1 rfl rfl (Nat.le_of_ble_eq_true rfl) dL_withDay_4 (fun h0 ce q H1 locs1 hP1 hS1 hce hcv hcl => ?_) (fun h0 H1 locs1 hP1 hS1 => ?_)
  · obtain ⟨hO1, hS2⟩ := w_pre (z := z) hO hoa hS1
    rcases hres with h | h | h | h
    · exact absurd h h0
    · have hcl : s.vm.findClass "java/lang/IndexOutOfBoundsException" = some ce.cls := by rw [h] at hcl; exact hcl
      refine vx_catch (E := "java/lang/IndexOutOfBoundsException") hown [] ⟨0, 11, 14, 19⟩ [⟨0, 11, 18, 21⟩, ⟨0, 11, 22, 23⟩] (by rw [htab]; rfl) (List.forall_mem_nil _) (by decide) (by decide) (htg _ w_622) (gx_cast hGx (by decide)) hce hcv hcl ?_
      refine lv_astore (lv' := [(4, .ref q), (0, .ref a.1), (1, .int p1), (2, .int p2), (3, .ref o)]) hx hb dL_withDay_14 hl (by decide) rfl (fun ls hl => ?_)
      refine lv_iconst (v := 1) hx hb dL_withDay_16 (by decide) ?_
      have hv9 : (if (m_X0_withDay p1 p2 z).1 = 0 then ((m_X0_withDay p1 p2 z).2.1).toInt64 else v) = v := if_neg h0
      rw [hv9]
      exact w_iret hx hb hr hlocks (by rw [h]; rfl) hP1 hO1 hS2 ⟨Nat.le_of_ble_eq_true rfl, Nat.le_of_ble_eq_true rfl⟩ dL_withDay_17
    · have hcl : s.vm.findClass "java/lang/IllegalArgumentException" = some ce.cls := by rw [h] at hcl; exact hcl
      refine vx_catch (E := "java/lang/IllegalArgumentException") hown [⟨0, 11, 14, 19⟩] ⟨0, 11, 18, 21⟩ [⟨0, 11, 22, 23⟩] (by rw [htab]; rfl) (List.forall_mem_cons.mpr ⟨Or.inr ⟨by decide, "java/lang/IndexOutOfBoundsException", (htg _ w_622), gx_nc hGx (q := ("java/lang/IllegalArgumentException", "java/lang/IndexOutOfBoundsException")) (by decide)⟩, (List.forall_mem_nil _)⟩) (by decide) (by decide) (htg _ w_623) (gx_cast hGx (by decide)) hce hcv hcl ?_
      refine lv_astore (lv' := [(4, .ref q), (0, .ref a.1), (1, .int p1), (2, .int p2), (3, .ref o)]) hx hb dL_withDay_18 hl (by decide) rfl (fun ls hl => ?_)
      refine lv_iconst (v := 2) hx hb dL_withDay_20 (by decide) ?_
      have hv9 : (if (m_X0_withDay p1 p2 z).1 = 0 then ((m_X0_withDay p1 p2 z).2.1).toInt64 else v) = v := if_neg h0
      rw [hv9]
      exact w_iret hx hb hr hlocks (by rw [h]; rfl) hP1 hO1 hS2 ⟨Nat.le_of_ble_eq_true rfl, Nat.le_of_ble_eq_true rfl⟩ dL_withDay_21
    · have hcl : s.vm.findClass "java/lang/IllegalStateException" = some ce.cls := by rw [h] at hcl; exact hcl
      refine vx_catch (E := "java/lang/IllegalStateException") hown [⟨0, 11, 14, 19⟩, ⟨0, 11, 18, 21⟩] ⟨0, 11, 22, 23⟩ [] (by rw [htab]; rfl) (List.forall_mem_cons.mpr ⟨Or.inr ⟨by decide, "java/lang/IndexOutOfBoundsException", (htg _ w_622), gx_nc hGx (q := ("java/lang/IllegalStateException", "java/lang/IndexOutOfBoundsException")) (by decide)⟩, (List.forall_mem_cons.mpr ⟨Or.inr ⟨by decide, "java/lang/IllegalArgumentException", (htg _ w_623), gx_nc hGx (q := ("java/lang/IllegalStateException", "java/lang/IllegalArgumentException")) (by decide)⟩, (List.forall_mem_nil _)⟩)⟩) (by decide) (by decide) (htg _ w_624) (gx_cast hGx (by decide)) hce hcv hcl ?_
      refine lv_astore (lv' := [(4, .ref q), (0, .ref a.1), (1, .int p1), (2, .int p2), (3, .ref o)]) hx hb dL_withDay_22 hl (by decide) rfl (fun ls hl => ?_)
      refine lv_iconst (v := 3) hx hb dL_withDay_24 (by decide) ?_
      have hv9 : (if (m_X0_withDay p1 p2 z).1 = 0 then ((m_X0_withDay p1 p2 z).2.1).toInt64 else v) = v := if_neg h0
      rw [hv9]
      exact w_iret hx hb hr hlocks (by rw [h]; rfl) hP1 hO1 hS2 ⟨Nat.le_of_ble_eq_true rfl, Nat.le_of_ble_eq_true rfl⟩ dL_withDay_25
  · obtain ⟨hO1, hS2⟩ := w_pre (z := z) hO hoa hS1
    obtain ⟨w9, hO1⟩ := hO1
    have hP3 := va_P.app (w1 := [(o, _)]) hO1 hP1
    have hD3 := w_D (n := s.heap.size) (x := .inr (3, [.long v, w9])) (z := (m_X0_withDay p1 p2 z).2.2) hD hoa
    refine lv_i2l hx hb dL_withDay_7 rfl ?_
    refine va_putN (D := kD k) (ci := 3) (v := .long (((m_X0_withDay p1 p2 z).2.1).toInt64)) (ty := .long) (C := RX1) (T := TX1) (N := 2) (A := wA a o s.heap.size) (H0 := s.heap) hx hb htg inG_X1 tyX1 tyX1_ok nmX1 hown hGx.1 hP3 hD3 hS2 0 rfl rfl 0 (by decide) (va_Nw.use rfl (gx_nf hGx (q := ("DatesoloLaw", 13, "DatesoloLaw$Out", "n", "J", "DatesoloLaw")) (by decide +kernel))) (fun _ h9 => h9) rfl (by decide +kernel) rfl rfl (Nat.le_of_ble_eq_true rfl) dL_withDay_8 (fun H4 locs4 hP4 _ hS4 => ?_)
    refine lv_goto (tgt := 26) hx hb dL_withDay_11 (by decide) ?_
    refine lv_iconst (v := 0) hx hb dL_withDay_26 (by decide) ?_
    have hP5 : va_P (kD k) vwCl (cW k a ((m_X0_withDay p1 p2 z).2.2)) H4 := hP4.sub [1, 2, 3, 4, 5] rfl
    have hO5 : oP k o (((m_X0_withDay p1 p2 z).2.1).toInt64) H4 := ⟨w9, hP4.sub [0] rfl⟩
    have hv9 : (if (m_X0_withDay p1 p2 z).1 = 0 then ((m_X0_withDay p1 p2 z).2.1).toInt64 else v) = ((m_X0_withDay p1 p2 z).2.1).toInt64 := if_pos h0
    rw [hv9]
    exact w_iret hx hb hr hlocks (by rw [h0]; rfl) hP5 hO5 hS4 ⟨Nat.le_of_ble_eq_true rfl, Nat.le_of_ble_eq_true rfl⟩ dL_withDay_27
noncomputable abbrev wsL_withDayOfYear : List Cond := .codeWith yL_withDayOfYear cL_withDayOfYear 5 (some .int) [(0, 11, 14, 19), (0, 11, 18, 21), (0, 11, 22, 23)] :: GL
theorem kw_L_withDayOfYear : (∃ ws', wsL_withDayOfYear = Cond.codeWith yL_withDayOfYear cL_withDayOfYear 5 (some .int) [(0, 11, 14, 19), (0, 11, 18, 21), (0, 11, 22, 23)] :: ws') ∧ yL_withDayOfYear.cls ≠ "java/lang/invoke/MethodHandle" ∧ yL_withDayOfYear.cls ≠ "java/lang/invoke/VarHandle" ∧ (parseMethodDescriptor yL_withDayOfYear.desc).map (fun d => d.parameters.length) = some 4 := ⟨⟨_, rfl⟩, by decide +kernel, by decide +kernel, by decide +kernel⟩
set_option maxRecDepth 100000 in
set_option maxHeartbeats 4000000 in
theorem k_L_withDayOfYear (l : Launch) (hl9 : l.stackTraces = false) (k : Kx) (a : CA) (hD : cD k a) (o : Nat) (p1 : Int32) (p2 : Int32) (z : CS) (v : Int64) (hres : (m_X0_withDayOfYear p1 p2 z).1 = 0 ∨ (m_X0_withDayOfYear p1 p2 z).1 = 1 ∨ (m_X0_withDayOfYear p1 p2 z).1 = 2 ∨ (m_X0_withDayOfYear p1 p2 z).1 = 3) : wM l k a o yL_withDayOfYear wsL_withDayOfYear 11 252 4 24 [.ref a.1, .int p1, .int p2, .ref o] z v (wk 1 2 ((m_X0_withDayOfYear p1 p2 z).1)) ((m_X0_withDayOfYear p1 p2 z).2.2) (if (m_X0_withDayOfYear p1 p2 z).1 = 0 then ((m_X0_withDayOfYear p1 p2 z).2.1).toInt64 else v) := by
  intro sz
  refine va_MetW (cc := cL_withDayOfYear) (maxL := 5) (ret := (some .int)) (hh := [(0, 11, 14, 19), (0, 11, 18, 21), (0, 11, 22, 23)]) (by decide) rfl ?_
  intro p e s m args below meth c s₁ B hml hv
  obtain ⟨rfl, rfl, hGx, hP, hO, hob, hoa⟩ := hv
  have hx := B.exec
  have hb := B.bytes
  have hr := B.returns
  have hts := atoms_spec (ws := wsL_withDayOfYear) B.pre
  have hown : s.vm.findClass RL = some m.cls := findClass_of_methodNamed B.named
  have hlocks := B.notSynchronized
  have htg : ∀ w ∈ GL, w.before _ s = true := fun w h => hts w (List.mem_cons_of_mem _ h)
  have hC : CallFix p m c cL_withDayOfYear 5 s _ wsL_withDayOfYear RL := ⟨hx, hb, hml, hown, hts⟩
  have htab : c.exceptionTable.toList = tableOf [(0, 11, 14, 19), (0, 11, 18, 21), (0, 11, 22, 23)] := vx_table (x := yL_withDayOfYear) B (hts _ List.mem_cons_self)
  have hl := lv_entry ([.ref a.1, .int p1, .int p2, .ref o]) (n := 5) (Nat.le_of_ble_eq_true rfl)
  rw [lg_entry_eq]
  generalize (lg_sl ([.ref a.1, .int p1, .int p2, .ref o]) ++ List.replicate (5 - (lg_sl ([.ref a.1, .int p1, .int p2, .ref o])).length) Slot.unset).toArray = ls at hl ⊢
  have hl : lv_has ls 5 [(0, .ref a.1), (1, .int p1), (2, .int p2), (3, .ref o)] := hl
  refine lv_aload_n hx hb dL_withDayOfYear_0 rfl (lv_at hl 3 rfl) ?_
  refine lv_aload_n hx hb dL_withDayOfYear_1 rfl (lv_at hl 0 rfl) ?_
  refine lv_iload_n hx hb dL_withDayOfYear_2 rfl (lv_at hl 1 rfl) ?_
  refine lv_iload_n hx hb dL_withDayOfYear_3 rfl (lv_at hl 2 rfl) ?_
  refine cv_V hC hGx hD (c_X0_withDayOfYear l hl9 k a hD p1 p2 z) (gV w_724 w_725 w_726 w_26 w_727) kk_X0_withDayOfYear rfl ⟨Nat.le_of_ble_eq_true rfl, Nat.le_of_ble_eq_true rfl⟩ ⟨Nat.le_of_ble_eq_true rfl, Nat.le_of_ble_eq_true rfl⟩ hP va_S.rf hl.1 rfl rfl (Nat.le_of_ble_eq_true rfl) dL_withDayOfYear_4 (fun h0 ce q H1 locs1 hP1 hS1 hce hcv hcl => ?_) (fun h0 H1 locs1 hP1 hS1 => ?_)
  · obtain ⟨hO1, hS2⟩ := w_pre (z := z) hO hoa hS1
    rcases hres with h | h | h | h
    · exact absurd h h0
    · have hcl : s.vm.findClass "java/lang/IndexOutOfBoundsException" = some ce.cls := by rw [h] at hcl; exact hcl
      refine vx_catch (E := "java/lang/IndexOutOfBoundsException") hown [] ⟨0, 11, 14, 19⟩ [⟨0, 11, 18, 21⟩, ⟨0, 11, 22, 23⟩] (by rw [htab]; rfl) (List.forall_mem_nil _) (by decide) (by decide) (htg _ w_622) (gx_cast hGx (by decide)) hce hcv hcl ?_
      refine lv_astore (lv' := [(4, .ref q), (0, .ref a.1), (1, .int p1), (2, .int p2), (3, .ref o)]) hx hb dL_withDayOfYear_14 hl (by decide) rfl (fun ls hl => ?_)
      refine lv_iconst (v := 1) hx hb dL_withDayOfYear_16 (by decide) ?_
      have hv9 : (if (m_X0_withDayOfYear p1 p2 z).1 = 0 then ((m_X0_withDayOfYear p1 p2 z).2.1).toInt64 else v) = v := if_neg h0
      rw [hv9]
      exact w_iret hx hb hr hlocks (by rw [h]; rfl) hP1 hO1 hS2 ⟨Nat.le_of_ble_eq_true rfl, Nat.le_of_ble_eq_true rfl⟩ dL_withDayOfYear_17
    · have hcl : s.vm.findClass "java/lang/IllegalArgumentException" = some ce.cls := by rw [h] at hcl; exact hcl
      refine vx_catch (E := "java/lang/IllegalArgumentException") hown [⟨0, 11, 14, 19⟩] ⟨0, 11, 18, 21⟩ [⟨0, 11, 22, 23⟩] (by rw [htab]; rfl) (List.forall_mem_cons.mpr ⟨Or.inr ⟨by decide, "java/lang/IndexOutOfBoundsException", (htg _ w_622), gx_nc hGx (q := ("java/lang/IllegalArgumentException", "java/lang/IndexOutOfBoundsException")) (by decide)⟩, (List.forall_mem_nil _)⟩) (by decide) (by decide) (htg _ w_623) (gx_cast hGx (by decide)) hce hcv hcl ?_
      refine lv_astore (lv' := [(4, .ref q), (0, .ref a.1), (1, .int p1), (2, .int p2), (3, .ref o)]) hx hb dL_withDayOfYear_18 hl (by decide) rfl (fun ls hl => ?_)
      refine lv_iconst (v := 2) hx hb dL_withDayOfYear_20 (by decide) ?_
      have hv9 : (if (m_X0_withDayOfYear p1 p2 z).1 = 0 then ((m_X0_withDayOfYear p1 p2 z).2.1).toInt64 else v) = v := if_neg h0
      rw [hv9]
      exact w_iret hx hb hr hlocks (by rw [h]; rfl) hP1 hO1 hS2 ⟨Nat.le_of_ble_eq_true rfl, Nat.le_of_ble_eq_true rfl⟩ dL_withDayOfYear_21
    · have hcl : s.vm.findClass "java/lang/IllegalStateException" = some ce.cls := by rw [h] at hcl; exact hcl
      refine vx_catch (E := "java/lang/IllegalStateException") hown [⟨0, 11, 14, 19⟩, ⟨0, 11, 18, 21⟩] ⟨0, 11, 22, 23⟩ [] (by rw [htab]; rfl) (List.forall_mem_cons.mpr ⟨Or.inr ⟨by decide, "java/lang/IndexOutOfBoundsException", (htg _ w_622), gx_nc hGx (q := ("java/lang/IllegalStateException", "java/lang/IndexOutOfBoundsException")) (by decide)⟩, (List.forall_mem_cons.mpr ⟨Or.inr ⟨by decide, "java/lang/IllegalArgumentException", (htg _ w_623), gx_nc hGx (q := ("java/lang/IllegalStateException", "java/lang/IllegalArgumentException")) (by decide)⟩, (List.forall_mem_nil _)⟩)⟩) (by decide) (by decide) (htg _ w_624) (gx_cast hGx (by decide)) hce hcv hcl ?_
      refine lv_astore (lv' := [(4, .ref q), (0, .ref a.1), (1, .int p1), (2, .int p2), (3, .ref o)]) hx hb dL_withDayOfYear_22 hl (by decide) rfl (fun ls hl => ?_)
      refine lv_iconst (v := 3) hx hb dL_withDayOfYear_24 (by decide) ?_
      have hv9 : (if (m_X0_withDayOfYear p1 p2 z).1 = 0 then ((m_X0_withDayOfYear p1 p2 z).2.1).toInt64 else v) = v := if_neg h0
      rw [hv9]
      exact w_iret hx hb hr hlocks (by rw [h]; rfl) hP1 hO1 hS2 ⟨Nat.le_of_ble_eq_true rfl, Nat.le_of_ble_eq_true rfl⟩ dL_withDayOfYear_25
  · obtain ⟨hO1, hS2⟩ := w_pre (z := z) hO hoa hS1
    obtain ⟨w9, hO1⟩ := hO1
    have hP3 := va_P.app (w1 := [(o, _)]) hO1 hP1
    have hD3 := w_D (n := s.heap.size) (x := .inr (3, [.long v, w9])) (z := (m_X0_withDayOfYear p1 p2 z).2.2) hD hoa
    refine lv_i2l hx hb dL_withDayOfYear_7 rfl ?_
    refine va_putN (D := kD k) (ci := 3) (v := .long (((m_X0_withDayOfYear p1 p2 z).2.1).toInt64)) (ty := .long) (C := RX1) (T := TX1) (N := 2) (A := wA a o s.heap.size) (H0 := s.heap) hx hb htg inG_X1 tyX1 tyX1_ok nmX1 hown hGx.1 hP3 hD3 hS2 0 rfl rfl 0 (by decide) (va_Nw.use rfl (gx_nf hGx (q := ("DatesoloLaw", 13, "DatesoloLaw$Out", "n", "J", "DatesoloLaw")) (by decide +kernel))) (fun _ h9 => h9) rfl (by decide +kernel) rfl rfl (Nat.le_of_ble_eq_true rfl) dL_withDayOfYear_8 (fun H4 locs4 hP4 _ hS4 => ?_)
    refine lv_goto (tgt := 26) hx hb dL_withDayOfYear_11 (by decide) ?_
    refine lv_iconst (v := 0) hx hb dL_withDayOfYear_26 (by decide) ?_
    have hP5 : va_P (kD k) vwCl (cW k a ((m_X0_withDayOfYear p1 p2 z).2.2)) H4 := hP4.sub [1, 2, 3, 4, 5] rfl
    have hO5 : oP k o (((m_X0_withDayOfYear p1 p2 z).2.1).toInt64) H4 := ⟨w9, hP4.sub [0] rfl⟩
    have hv9 : (if (m_X0_withDayOfYear p1 p2 z).1 = 0 then ((m_X0_withDayOfYear p1 p2 z).2.1).toInt64 else v) = ((m_X0_withDayOfYear p1 p2 z).2.1).toInt64 := if_pos h0
    rw [hv9]
    exact w_iret hx hb hr hlocks (by rw [h0]; rfl) hP5 hO5 hS4 ⟨Nat.le_of_ble_eq_true rfl, Nat.le_of_ble_eq_true rfl⟩ dL_withDayOfYear_27
noncomputable abbrev wsL_toFirst : List Cond := .codeWith yL_toFirst cL_toFirst 4 (some .int) [(0, 10, 13, 19)] :: GL
theorem kw_L_toFirst : (∃ ws', wsL_toFirst = Cond.codeWith yL_toFirst cL_toFirst 4 (some .int) [(0, 10, 13, 19)] :: ws') ∧ yL_toFirst.cls ≠ "java/lang/invoke/MethodHandle" ∧ yL_toFirst.cls ≠ "java/lang/invoke/VarHandle" ∧ (parseMethodDescriptor yL_toFirst.desc).map (fun d => d.parameters.length) = some 3 := ⟨⟨_, rfl⟩, by decide +kernel, by decide +kernel, by decide +kernel⟩
set_option maxRecDepth 100000 in
set_option maxHeartbeats 4000000 in
theorem k_L_toFirst (l : Launch) (hl9 : l.stackTraces = false) (k : Kx) (a : CA) (hD : cD k a) (o : Nat) (p1 : Int32) (z : CS) (v : Int64) (hres : (m_X0_toFirst p1 z).1 = 0 ∨ (m_X0_toFirst p1 z).1 = 1) : wM l k a o yL_toFirst wsL_toFirst 10 229 3 18 [.ref a.1, .int p1, .ref o] z v (wk 1 1 ((m_X0_toFirst p1 z).1)) ((m_X0_toFirst p1 z).2.2) (if (m_X0_toFirst p1 z).1 = 0 then ((m_X0_toFirst p1 z).2.1).toInt64 else v) := by
  intro sz
  refine va_MetW (cc := cL_toFirst) (maxL := 4) (ret := (some .int)) (hh := [(0, 10, 13, 19)]) (by decide) rfl ?_
  intro p e s m args below meth c s₁ B hml hv
  obtain ⟨rfl, rfl, hGx, hP, hO, hob, hoa⟩ := hv
  have hx := B.exec
  have hb := B.bytes
  have hr := B.returns
  have hts := atoms_spec (ws := wsL_toFirst) B.pre
  have hown : s.vm.findClass RL = some m.cls := findClass_of_methodNamed B.named
  have hlocks := B.notSynchronized
  have htg : ∀ w ∈ GL, w.before _ s = true := fun w h => hts w (List.mem_cons_of_mem _ h)
  have hC : CallFix p m c cL_toFirst 4 s _ wsL_toFirst RL := ⟨hx, hb, hml, hown, hts⟩
  have htab : c.exceptionTable.toList = tableOf [(0, 10, 13, 19)] := vx_table (x := yL_toFirst) B (hts _ List.mem_cons_self)
  have hl := lv_entry ([.ref a.1, .int p1, .ref o]) (n := 4) (Nat.le_of_ble_eq_true rfl)
  rw [lg_entry_eq]
  generalize (lg_sl ([.ref a.1, .int p1, .ref o]) ++ List.replicate (4 - (lg_sl ([.ref a.1, .int p1, .ref o])).length) Slot.unset).toArray = ls at hl ⊢
  have hl : lv_has ls 4 [(0, .ref a.1), (1, .int p1), (2, .ref o)] := hl
  refine lv_aload_n hx hb dL_toFirst_0 rfl (lv_at hl 2 rfl) ?_
  refine lv_aload_n hx hb dL_toFirst_1 rfl (lv_at hl 0 rfl) ?_
  refine lv_iload_n hx hb dL_toFirst_2 rfl (lv_at hl 1 rfl) ?_
  refine cv_V hC hGx hD (c_X0_toFirst l hl9 k a hD p1 z) (gV w_731 w_732 w_733 w_26 w_734) kk_X0_toFirst rfl ⟨Nat.le_of_ble_eq_true rfl, Nat.le_of_ble_eq_true rfl⟩ ⟨Nat.le_of_ble_eq_true rfl, Nat.le_of_ble_eq_true rfl⟩ hP va_S.rf hl.1 rfl rfl (Nat.le_of_ble_eq_true rfl) dL_toFirst_3 (fun h0 ce q H1 locs1 hP1 hS1 hce hcv hcl => ?_) (fun h0 H1 locs1 hP1 hS1 => ?_)
  · obtain ⟨hO1, hS2⟩ := w_pre (z := z) hO hoa hS1
    rcases hres with h | h
    · exact absurd h h0
    · have hcl : s.vm.findClass "java/lang/IndexOutOfBoundsException" = some ce.cls := by rw [h] at hcl; exact hcl
      refine vx_catch (E := "java/lang/IndexOutOfBoundsException") hown [] ⟨0, 10, 13, 19⟩ [] (by rw [htab]; rfl) (List.forall_mem_nil _) (by decide) (by decide) (htg _ w_622) (gx_cast hGx (by decide)) hce hcv hcl ?_
      refine lv_astore_n (lv' := [(3, .ref q), (0, .ref a.1), (1, .int p1), (2, .ref o)]) hx hb dL_toFirst_13 rfl hl (by decide) rfl (fun ls hl => ?_)
      refine lv_iconst (v := 1) hx hb dL_toFirst_14 (by decide) ?_
      have hv9 : (if (m_X0_toFirst p1 z).1 = 0 then ((m_X0_toFirst p1 z).2.1).toInt64 else v) = v := if_neg h0
      rw [hv9]
      exact w_iret hx hb hr hlocks (by rw [h]; rfl) hP1 hO1 hS2 ⟨Nat.le_of_ble_eq_true rfl, Nat.le_of_ble_eq_true rfl⟩ dL_toFirst_15
  · obtain ⟨hO1, hS2⟩ := w_pre (z := z) hO hoa hS1
    obtain ⟨w9, hO1⟩ := hO1
    have hP3 := va_P.app (w1 := [(o, _)]) hO1 hP1
    have hD3 := w_D (n := s.heap.size) (x := .inr (3, [.long v, w9])) (z := (m_X0_toFirst p1 z).2.2) hD hoa
    refine lv_i2l hx hb dL_toFirst_6 rfl ?_
    refine va_putN (D := kD k) (ci := 3) (v := .long (((m_X0_toFirst p1 z).2.1).toInt64)) (ty := .long) (C := RX1) (T := TX1) (N := 2) (A := wA a o s.heap.size) (H0 := s.heap) hx hb htg inG_X1 tyX1 tyX1_ok nmX1 hown hGx.1 hP3 hD3 hS2 0 rfl rfl 0 (by decide) (va_Nw.use rfl (gx_nf hGx (q := ("DatesoloLaw", 13, "DatesoloLaw$Out", "n", "J", "DatesoloLaw")) (by decide +kernel))) (fun _ h9 => h9) rfl (by decide +kernel) rfl rfl (Nat.le_of_ble_eq_true rfl) dL_toFirst_7 (fun H4 locs4 hP4 _ hS4 => ?_)
    refine lv_goto (tgt := 16) hx hb dL_toFirst_10 (by decide) ?_
    refine lv_iconst (v := 0) hx hb dL_toFirst_16 (by decide) ?_
    have hP5 : va_P (kD k) vwCl (cW k a ((m_X0_toFirst p1 z).2.2)) H4 := hP4.sub [1, 2, 3, 4, 5] rfl
    have hO5 : oP k o (((m_X0_toFirst p1 z).2.1).toInt64) H4 := ⟨w9, hP4.sub [0] rfl⟩
    have hv9 : (if (m_X0_toFirst p1 z).1 = 0 then ((m_X0_toFirst p1 z).2.1).toInt64 else v) = ((m_X0_toFirst p1 z).2.1).toInt64 := if_pos h0
    rw [hv9]
    exact w_iret hx hb hr hlocks (by rw [h0]; rfl) hP5 hO5 hS4 ⟨Nat.le_of_ble_eq_true rfl, Nat.le_of_ble_eq_true rfl⟩ dL_toFirst_17
noncomputable abbrev wsL_toLast : List Cond := .codeWith yL_toLast cL_toLast 4 (some .int) [(0, 10, 13, 19)] :: GL
theorem kw_L_toLast : (∃ ws', wsL_toLast = Cond.codeWith yL_toLast cL_toLast 4 (some .int) [(0, 10, 13, 19)] :: ws') ∧ yL_toLast.cls ≠ "java/lang/invoke/MethodHandle" ∧ yL_toLast.cls ≠ "java/lang/invoke/VarHandle" ∧ (parseMethodDescriptor yL_toLast.desc).map (fun d => d.parameters.length) = some 3 := ⟨⟨_, rfl⟩, by decide +kernel, by decide +kernel, by decide +kernel⟩
set_option maxRecDepth 100000 in
set_option maxHeartbeats 4000000 in
theorem k_L_toLast (l : Launch) (hl9 : l.stackTraces = false) (k : Kx) (a : CA) (hD : cD k a) (o : Nat) (p1 : Int32) (z : CS) (v : Int64) (hres : (m_X0_toLast p1 z).1 = 0 ∨ (m_X0_toLast p1 z).1 = 1) : wM l k a o yL_toLast wsL_toLast 10 229 3 18 [.ref a.1, .int p1, .ref o] z v (wk 1 1 ((m_X0_toLast p1 z).1)) ((m_X0_toLast p1 z).2.2) (if (m_X0_toLast p1 z).1 = 0 then ((m_X0_toLast p1 z).2.1).toInt64 else v) := by
  intro sz
  refine va_MetW (cc := cL_toLast) (maxL := 4) (ret := (some .int)) (hh := [(0, 10, 13, 19)]) (by decide) rfl ?_
  intro p e s m args below meth c s₁ B hml hv
  obtain ⟨rfl, rfl, hGx, hP, hO, hob, hoa⟩ := hv
  have hx := B.exec
  have hb := B.bytes
  have hr := B.returns
  have hts := atoms_spec (ws := wsL_toLast) B.pre
  have hown : s.vm.findClass RL = some m.cls := findClass_of_methodNamed B.named
  have hlocks := B.notSynchronized
  have htg : ∀ w ∈ GL, w.before _ s = true := fun w h => hts w (List.mem_cons_of_mem _ h)
  have hC : CallFix p m c cL_toLast 4 s _ wsL_toLast RL := ⟨hx, hb, hml, hown, hts⟩
  have htab : c.exceptionTable.toList = tableOf [(0, 10, 13, 19)] := vx_table (x := yL_toLast) B (hts _ List.mem_cons_self)
  have hl := lv_entry ([.ref a.1, .int p1, .ref o]) (n := 4) (Nat.le_of_ble_eq_true rfl)
  rw [lg_entry_eq]
  generalize (lg_sl ([.ref a.1, .int p1, .ref o]) ++ List.replicate (4 - (lg_sl ([.ref a.1, .int p1, .ref o])).length) Slot.unset).toArray = ls at hl ⊢
  have hl : lv_has ls 4 [(0, .ref a.1), (1, .int p1), (2, .ref o)] := hl
  refine lv_aload_n hx hb dL_toLast_0 rfl (lv_at hl 2 rfl) ?_
  refine lv_aload_n hx hb dL_toLast_1 rfl (lv_at hl 0 rfl) ?_
  refine lv_iload_n hx hb dL_toLast_2 rfl (lv_at hl 1 rfl) ?_
  refine cv_V hC hGx hD (c_X0_toLast l hl9 k a hD p1 z) (gV w_738 w_739 w_740 w_26 w_741) kk_X0_toLast rfl ⟨Nat.le_of_ble_eq_true rfl, Nat.le_of_ble_eq_true rfl⟩ ⟨Nat.le_of_ble_eq_true rfl, Nat.le_of_ble_eq_true rfl⟩ hP va_S.rf hl.1 rfl rfl (Nat.le_of_ble_eq_true rfl) dL_toLast_3 (fun h0 ce q H1 locs1 hP1 hS1 hce hcv hcl => ?_) (fun h0 H1 locs1 hP1 hS1 => ?_)
  · obtain ⟨hO1, hS2⟩ := w_pre (z := z) hO hoa hS1
    rcases hres with h | h
    · exact absurd h h0
    · have hcl : s.vm.findClass "java/lang/IndexOutOfBoundsException" = some ce.cls := by rw [h] at hcl; exact hcl
      refine vx_catch (E := "java/lang/IndexOutOfBoundsException") hown [] ⟨0, 10, 13, 19⟩ [] (by rw [htab]; rfl) (List.forall_mem_nil _) (by decide) (by decide) (htg _ w_622) (gx_cast hGx (by decide)) hce hcv hcl ?_
      refine lv_astore_n (lv' := [(3, .ref q), (0, .ref a.1), (1, .int p1), (2, .ref o)]) hx hb dL_toLast_13 rfl hl (by decide) rfl (fun ls hl => ?_)
      refine lv_iconst (v := 1) hx hb dL_toLast_14 (by decide) ?_
      have hv9 : (if (m_X0_toLast p1 z).1 = 0 then ((m_X0_toLast p1 z).2.1).toInt64 else v) = v := if_neg h0
      rw [hv9]
      exact w_iret hx hb hr hlocks (by rw [h]; rfl) hP1 hO1 hS2 ⟨Nat.le_of_ble_eq_true rfl, Nat.le_of_ble_eq_true rfl⟩ dL_toLast_15
  · obtain ⟨hO1, hS2⟩ := w_pre (z := z) hO hoa hS1
    obtain ⟨w9, hO1⟩ := hO1
    have hP3 := va_P.app (w1 := [(o, _)]) hO1 hP1
    have hD3 := w_D (n := s.heap.size) (x := .inr (3, [.long v, w9])) (z := (m_X0_toLast p1 z).2.2) hD hoa
    refine lv_i2l hx hb dL_toLast_6 rfl ?_
    refine va_putN (D := kD k) (ci := 3) (v := .long (((m_X0_toLast p1 z).2.1).toInt64)) (ty := .long) (C := RX1) (T := TX1) (N := 2) (A := wA a o s.heap.size) (H0 := s.heap) hx hb htg inG_X1 tyX1 tyX1_ok nmX1 hown hGx.1 hP3 hD3 hS2 0 rfl rfl 0 (by decide) (va_Nw.use rfl (gx_nf hGx (q := ("DatesoloLaw", 13, "DatesoloLaw$Out", "n", "J", "DatesoloLaw")) (by decide +kernel))) (fun _ h9 => h9) rfl (by decide +kernel) rfl rfl (Nat.le_of_ble_eq_true rfl) dL_toLast_7 (fun H4 locs4 hP4 _ hS4 => ?_)
    refine lv_goto (tgt := 16) hx hb dL_toLast_10 (by decide) ?_
    refine lv_iconst (v := 0) hx hb dL_toLast_16 (by decide) ?_
    have hP5 : va_P (kD k) vwCl (cW k a ((m_X0_toLast p1 z).2.2)) H4 := hP4.sub [1, 2, 3, 4, 5] rfl
    have hO5 : oP k o (((m_X0_toLast p1 z).2.1).toInt64) H4 := ⟨w9, hP4.sub [0] rfl⟩
    have hv9 : (if (m_X0_toLast p1 z).1 = 0 then ((m_X0_toLast p1 z).2.1).toInt64 else v) = ((m_X0_toLast p1 z).2.1).toInt64 := if_pos h0
    rw [hv9]
    exact w_iret hx hb hr hlocks (by rw [h0]; rfl) hP5 hO5 hS4 ⟨Nat.le_of_ble_eq_true rfl, Nat.le_of_ble_eq_true rfl⟩ dL_toLast_17
noncomputable abbrev wsL_plusDays : List Cond := .codeWith yL_plusDays cL_plusDays 5 (some .int) [(0, 11, 14, 19), (0, 11, 18, 21), (0, 11, 22, 23)] :: GL
theorem kw_L_plusDays : (∃ ws', wsL_plusDays = Cond.codeWith yL_plusDays cL_plusDays 5 (some .int) [(0, 11, 14, 19), (0, 11, 18, 21), (0, 11, 22, 23)] :: ws') ∧ yL_plusDays.cls ≠ "java/lang/invoke/MethodHandle" ∧ yL_plusDays.cls ≠ "java/lang/invoke/VarHandle" ∧ (parseMethodDescriptor yL_plusDays.desc).map (fun d => d.parameters.length) = some 4 := ⟨⟨_, rfl⟩, by decide +kernel, by decide +kernel, by decide +kernel⟩
set_option maxRecDepth 100000 in
set_option maxHeartbeats 4000000 in
theorem k_L_plusDays (l : Launch) (hl9 : l.stackTraces = false) (k : Kx) (a : CA) (hD : cD k a) (o : Nat) (p1 : Int32) (p2 : Int32) (z : CS) (v : Int64) (hres : (m_X0_plusDays p1 p2 z).1 = 0 ∨ (m_X0_plusDays p1 p2 z).1 = 1 ∨ (m_X0_plusDays p1 p2 z).1 = 2 ∨ (m_X0_plusDays p1 p2 z).1 = 3) : wM l k a o yL_plusDays wsL_plusDays 11 253 4 24 [.ref a.1, .int p1, .int p2, .ref o] z v (wk 1 2 ((m_X0_plusDays p1 p2 z).1)) ((m_X0_plusDays p1 p2 z).2.2) (if (m_X0_plusDays p1 p2 z).1 = 0 then ((m_X0_plusDays p1 p2 z).2.1).toInt64 else v) := by
  intro sz
  refine va_MetW (cc := cL_plusDays) (maxL := 5) (ret := (some .int)) (hh := [(0, 11, 14, 19), (0, 11, 18, 21), (0, 11, 22, 23)]) (by decide) rfl ?_
  intro p e s m args below meth c s₁ B hml hv
  obtain ⟨rfl, rfl, hGx, hP, hO, hob, hoa⟩ := hv
  have hx := B.exec
  have hb := B.bytes
  have hr := B.returns
  have hts := atoms_spec (ws := wsL_plusDays) B.pre
  have hown : s.vm.findClass RL = some m.cls := findClass_of_methodNamed B.named
  have hlocks := B.notSynchronized
  have htg : ∀ w ∈ GL, w.before _ s = true := fun w h => hts w (List.mem_cons_of_mem _ h)
  have hC : CallFix p m c cL_plusDays 5 s _ wsL_plusDays RL := ⟨hx, hb, hml, hown, hts⟩
  have htab : c.exceptionTable.toList = tableOf [(0, 11, 14, 19), (0, 11, 18, 21), (0, 11, 22, 23)] := vx_table (x := yL_plusDays) B (hts _ List.mem_cons_self)
  have hl := lv_entry ([.ref a.1, .int p1, .int p2, .ref o]) (n := 5) (Nat.le_of_ble_eq_true rfl)
  rw [lg_entry_eq]
  generalize (lg_sl ([.ref a.1, .int p1, .int p2, .ref o]) ++ List.replicate (5 - (lg_sl ([.ref a.1, .int p1, .int p2, .ref o])).length) Slot.unset).toArray = ls at hl ⊢
  have hl : lv_has ls 5 [(0, .ref a.1), (1, .int p1), (2, .int p2), (3, .ref o)] := hl
  refine lv_aload_n hx hb dL_plusDays_0 rfl (lv_at hl 3 rfl) ?_
  refine lv_aload_n hx hb dL_plusDays_1 rfl (lv_at hl 0 rfl) ?_
  refine lv_iload_n hx hb dL_plusDays_2 rfl (lv_at hl 1 rfl) ?_
  refine lv_iload_n hx hb dL_plusDays_3 rfl (lv_at hl 2 rfl) ?_
  refine cv_V hC hGx hD (c_X0_plusDays l hl9 k a hD p1 p2 z) (gV w_745 w_746 w_747 w_26 w_748) kk_X0_plusDays rfl ⟨Nat.le_of_ble_eq_true rfl, Nat.le_of_ble_eq_true rfl⟩ ⟨Nat.le_of_ble_eq_true rfl, Nat.le_of_ble_eq_true rfl⟩ hP va_S.rf hl.1 rfl rfl (Nat.le_of_ble_eq_true rfl) dL_plusDays_4 (fun h0 ce q H1 locs1 hP1 hS1 hce hcv hcl => ?_) (fun h0 H1 locs1 hP1 hS1 => ?_)
  · obtain ⟨hO1, hS2⟩ := w_pre (z := z) hO hoa hS1
    rcases hres with h | h | h | h
    · exact absurd h h0
    · have hcl : s.vm.findClass "java/lang/IndexOutOfBoundsException" = some ce.cls := by rw [h] at hcl; exact hcl
      refine vx_catch (E := "java/lang/IndexOutOfBoundsException") hown [] ⟨0, 11, 14, 19⟩ [⟨0, 11, 18, 21⟩, ⟨0, 11, 22, 23⟩] (by rw [htab]; rfl) (List.forall_mem_nil _) (by decide) (by decide) (htg _ w_622) (gx_cast hGx (by decide)) hce hcv hcl ?_
      refine lv_astore (lv' := [(4, .ref q), (0, .ref a.1), (1, .int p1), (2, .int p2), (3, .ref o)]) hx hb dL_plusDays_14 hl (by decide) rfl (fun ls hl => ?_)
      refine lv_iconst (v := 1) hx hb dL_plusDays_16 (by decide) ?_
      have hv9 : (if (m_X0_plusDays p1 p2 z).1 = 0 then ((m_X0_plusDays p1 p2 z).2.1).toInt64 else v) = v := if_neg h0
      rw [hv9]
      exact w_iret hx hb hr hlocks (by rw [h]; rfl) hP1 hO1 hS2 ⟨Nat.le_of_ble_eq_true rfl, Nat.le_of_ble_eq_true rfl⟩ dL_plusDays_17
    · have hcl : s.vm.findClass "java/lang/IllegalArgumentException" = some ce.cls := by rw [h] at hcl; exact hcl
      refine vx_catch (E := "java/lang/IllegalArgumentException") hown [⟨0, 11, 14, 19⟩] ⟨0, 11, 18, 21⟩ [⟨0, 11, 22, 23⟩] (by rw [htab]; rfl) (List.forall_mem_cons.mpr ⟨Or.inr ⟨by decide, "java/lang/IndexOutOfBoundsException", (htg _ w_622), gx_nc hGx (q := ("java/lang/IllegalArgumentException", "java/lang/IndexOutOfBoundsException")) (by decide)⟩, (List.forall_mem_nil _)⟩) (by decide) (by decide) (htg _ w_623) (gx_cast hGx (by decide)) hce hcv hcl ?_
      refine lv_astore (lv' := [(4, .ref q), (0, .ref a.1), (1, .int p1), (2, .int p2), (3, .ref o)]) hx hb dL_plusDays_18 hl (by decide) rfl (fun ls hl => ?_)
      refine lv_iconst (v := 2) hx hb dL_plusDays_20 (by decide) ?_
      have hv9 : (if (m_X0_plusDays p1 p2 z).1 = 0 then ((m_X0_plusDays p1 p2 z).2.1).toInt64 else v) = v := if_neg h0
      rw [hv9]
      exact w_iret hx hb hr hlocks (by rw [h]; rfl) hP1 hO1 hS2 ⟨Nat.le_of_ble_eq_true rfl, Nat.le_of_ble_eq_true rfl⟩ dL_plusDays_21
    · have hcl : s.vm.findClass "java/lang/IllegalStateException" = some ce.cls := by rw [h] at hcl; exact hcl
      refine vx_catch (E := "java/lang/IllegalStateException") hown [⟨0, 11, 14, 19⟩, ⟨0, 11, 18, 21⟩] ⟨0, 11, 22, 23⟩ [] (by rw [htab]; rfl) (List.forall_mem_cons.mpr ⟨Or.inr ⟨by decide, "java/lang/IndexOutOfBoundsException", (htg _ w_622), gx_nc hGx (q := ("java/lang/IllegalStateException", "java/lang/IndexOutOfBoundsException")) (by decide)⟩, (List.forall_mem_cons.mpr ⟨Or.inr ⟨by decide, "java/lang/IllegalArgumentException", (htg _ w_623), gx_nc hGx (q := ("java/lang/IllegalStateException", "java/lang/IllegalArgumentException")) (by decide)⟩, (List.forall_mem_nil _)⟩)⟩) (by decide) (by decide) (htg _ w_624) (gx_cast hGx (by decide)) hce hcv hcl ?_
      refine lv_astore (lv' := [(4, .ref q), (0, .ref a.1), (1, .int p1), (2, .int p2), (3, .ref o)]) hx hb dL_plusDays_22 hl (by decide) rfl (fun ls hl => ?_)
      refine lv_iconst (v := 3) hx hb dL_plusDays_24 (by decide) ?_
      have hv9 : (if (m_X0_plusDays p1 p2 z).1 = 0 then ((m_X0_plusDays p1 p2 z).2.1).toInt64 else v) = v := if_neg h0
      rw [hv9]
      exact w_iret hx hb hr hlocks (by rw [h]; rfl) hP1 hO1 hS2 ⟨Nat.le_of_ble_eq_true rfl, Nat.le_of_ble_eq_true rfl⟩ dL_plusDays_25
  · obtain ⟨hO1, hS2⟩ := w_pre (z := z) hO hoa hS1
    obtain ⟨w9, hO1⟩ := hO1
    have hP3 := va_P.app (w1 := [(o, _)]) hO1 hP1
    have hD3 := w_D (n := s.heap.size) (x := .inr (3, [.long v, w9])) (z := (m_X0_plusDays p1 p2 z).2.2) hD hoa
    refine lv_i2l hx hb dL_plusDays_7 rfl ?_
    refine va_putN (D := kD k) (ci := 3) (v := .long (((m_X0_plusDays p1 p2 z).2.1).toInt64)) (ty := .long) (C := RX1) (T := TX1) (N := 2) (A := wA a o s.heap.size) (H0 := s.heap) hx hb htg inG_X1 tyX1 tyX1_ok nmX1 hown hGx.1 hP3 hD3 hS2 0 rfl rfl 0 (by decide) (va_Nw.use rfl (gx_nf hGx (q := ("DatesoloLaw", 13, "DatesoloLaw$Out", "n", "J", "DatesoloLaw")) (by decide +kernel))) (fun _ h9 => h9) rfl (by decide +kernel) rfl rfl (Nat.le_of_ble_eq_true rfl) dL_plusDays_8 (fun H4 locs4 hP4 _ hS4 => ?_)
    refine lv_goto (tgt := 26) hx hb dL_plusDays_11 (by decide) ?_
    refine lv_iconst (v := 0) hx hb dL_plusDays_26 (by decide) ?_
    have hP5 : va_P (kD k) vwCl (cW k a ((m_X0_plusDays p1 p2 z).2.2)) H4 := hP4.sub [1, 2, 3, 4, 5] rfl
    have hO5 : oP k o (((m_X0_plusDays p1 p2 z).2.1).toInt64) H4 := ⟨w9, hP4.sub [0] rfl⟩
    have hv9 : (if (m_X0_plusDays p1 p2 z).1 = 0 then ((m_X0_plusDays p1 p2 z).2.1).toInt64 else v) = ((m_X0_plusDays p1 p2 z).2.1).toInt64 := if_pos h0
    rw [hv9]
    exact w_iret hx hb hr hlocks (by rw [h0]; rfl) hP5 hO5 hS4 ⟨Nat.le_of_ble_eq_true rfl, Nat.le_of_ble_eq_true rfl⟩ dL_plusDays_27
noncomputable abbrev wsL_plusWeeks : List Cond := .codeWith yL_plusWeeks cL_plusWeeks 5 (some .int) [(0, 11, 14, 19), (0, 11, 18, 21), (0, 11, 22, 23)] :: GL
theorem kw_L_plusWeeks : (∃ ws', wsL_plusWeeks = Cond.codeWith yL_plusWeeks cL_plusWeeks 5 (some .int) [(0, 11, 14, 19), (0, 11, 18, 21), (0, 11, 22, 23)] :: ws') ∧ yL_plusWeeks.cls ≠ "java/lang/invoke/MethodHandle" ∧ yL_plusWeeks.cls ≠ "java/lang/invoke/VarHandle" ∧ (parseMethodDescriptor yL_plusWeeks.desc).map (fun d => d.parameters.length) = some 4 := ⟨⟨_, rfl⟩, by decide +kernel, by decide +kernel, by decide +kernel⟩
set_option maxRecDepth 100000 in
set_option maxHeartbeats 4000000 in
theorem k_L_plusWeeks (l : Launch) (hl9 : l.stackTraces = false) (k : Kx) (a : CA) (hD : cD k a) (o : Nat) (p1 : Int32) (p2 : Int32) (z : CS) (v : Int64) (hres : (m_X0_plusWeeks p1 p2 z).1 = 0 ∨ (m_X0_plusWeeks p1 p2 z).1 = 1 ∨ (m_X0_plusWeeks p1 p2 z).1 = 2 ∨ (m_X0_plusWeeks p1 p2 z).1 = 3) : wM l k a o yL_plusWeeks wsL_plusWeeks 11 253 4 24 [.ref a.1, .int p1, .int p2, .ref o] z v (wk 1 2 ((m_X0_plusWeeks p1 p2 z).1)) ((m_X0_plusWeeks p1 p2 z).2.2) (if (m_X0_plusWeeks p1 p2 z).1 = 0 then ((m_X0_plusWeeks p1 p2 z).2.1).toInt64 else v) := by
  intro sz
  refine va_MetW (cc := cL_plusWeeks) (maxL := 5) (ret := (some .int)) (hh := [(0, 11, 14, 19), (0, 11, 18, 21), (0, 11, 22, 23)]) (by decide) rfl ?_
  intro p e s m args below meth c s₁ B hml hv
  obtain ⟨rfl, rfl, hGx, hP, hO, hob, hoa⟩ := hv
  have hx := B.exec
  have hb := B.bytes
  have hr := B.returns
  have hts := atoms_spec (ws := wsL_plusWeeks) B.pre
  have hown : s.vm.findClass RL = some m.cls := findClass_of_methodNamed B.named
  have hlocks := B.notSynchronized
  have htg : ∀ w ∈ GL, w.before _ s = true := fun w h => hts w (List.mem_cons_of_mem _ h)
  have hC : CallFix p m c cL_plusWeeks 5 s _ wsL_plusWeeks RL := ⟨hx, hb, hml, hown, hts⟩
  have htab : c.exceptionTable.toList = tableOf [(0, 11, 14, 19), (0, 11, 18, 21), (0, 11, 22, 23)] := vx_table (x := yL_plusWeeks) B (hts _ List.mem_cons_self)
  have hl := lv_entry ([.ref a.1, .int p1, .int p2, .ref o]) (n := 5) (Nat.le_of_ble_eq_true rfl)
  rw [lg_entry_eq]
  generalize (lg_sl ([.ref a.1, .int p1, .int p2, .ref o]) ++ List.replicate (5 - (lg_sl ([.ref a.1, .int p1, .int p2, .ref o])).length) Slot.unset).toArray = ls at hl ⊢
  have hl : lv_has ls 5 [(0, .ref a.1), (1, .int p1), (2, .int p2), (3, .ref o)] := hl
  refine lv_aload_n hx hb dL_plusWeeks_0 rfl (lv_at hl 3 rfl) ?_
  refine lv_aload_n hx hb dL_plusWeeks_1 rfl (lv_at hl 0 rfl) ?_
  refine lv_iload_n hx hb dL_plusWeeks_2 rfl (lv_at hl 1 rfl) ?_
  refine lv_iload_n hx hb dL_plusWeeks_3 rfl (lv_at hl 2 rfl) ?_
  refine cv_V hC hGx hD (c_X0_plusWeeks l hl9 k a hD p1 p2 z) (gV w_767 w_768 w_769 w_26 w_770) kk_X0_plusWeeks rfl ⟨Nat.le_of_ble_eq_true rfl, Nat.le_of_ble_eq_true rfl⟩ ⟨Nat.le_of_ble_eq_true rfl, Nat.le_of_ble_eq_true rfl⟩ hP va_S.rf hl.1 rfl rfl (Nat.le_of_ble_eq_true rfl) dL_plusWeeks_4 (fun h0 ce q H1 locs1 hP1 hS1 hce hcv hcl => ?_) (fun h0 H1 locs1 hP1 hS1 => ?_)
  · obtain ⟨hO1, hS2⟩ := w_pre (z := z) hO hoa hS1
    rcases hres with h | h | h | h
    · exact absurd h h0
    · have hcl : s.vm.findClass "java/lang/IndexOutOfBoundsException" = some ce.cls := by rw [h] at hcl; exact hcl
      refine vx_catch (E := "java/lang/IndexOutOfBoundsException") hown [] ⟨0, 11, 14, 19⟩ [⟨0, 11, 18, 21⟩, ⟨0, 11, 22, 23⟩] (by rw [htab]; rfl) (List.forall_mem_nil _) (by decide) (by decide) (htg _ w_622) (gx_cast hGx (by decide)) hce hcv hcl ?_
      refine lv_astore (lv' := [(4, .ref q), (0, .ref a.1), (1, .int p1), (2, .int p2), (3, .ref o)]) hx hb dL_plusWeeks_14 hl (by decide) rfl (fun ls hl => ?_)
      refine lv_iconst (v := 1) hx hb dL_plusWeeks_16 (by decide) ?_
      have hv9 : (if (m_X0_plusWeeks p1 p2 z).1 = 0 then ((m_X0_plusWeeks p1 p2 z).2.1).toInt64 else v) = v := if_neg h0
      rw [hv9]
      exact w_iret hx hb hr hlocks (by rw [h]; rfl) hP1 hO1 hS2 ⟨Nat.le_of_ble_eq_true rfl, Nat.le_of_ble_eq_true rfl⟩ dL_plusWeeks_17
    · have hcl : s.vm.findClass "java/lang/IllegalArgumentException" = some ce.cls := by rw [h] at hcl; exact hcl
      refine vx_catch (E := "java/lang/IllegalArgumentException") hown [⟨0, 11, 14, 19⟩] ⟨0, 11, 18, 21⟩ [⟨0, 11, 22, 23⟩] (by rw [htab]; rfl) (List.forall_mem_cons.mpr ⟨Or.inr ⟨by decide, "java/lang/IndexOutOfBoundsException", (htg _ w_622), gx_nc hGx (q := ("java/lang/IllegalArgumentException", "java/lang/IndexOutOfBoundsException")) (by decide)⟩, (List.forall_mem_nil _)⟩) (by decide) (by decide) (htg _ w_623) (gx_cast hGx (by decide)) hce hcv hcl ?_
      refine lv_astore (lv' := [(4, .ref q), (0, .ref a.1), (1, .int p1), (2, .int p2), (3, .ref o)]) hx hb dL_plusWeeks_18 hl (by decide) rfl (fun ls hl => ?_)
      refine lv_iconst (v := 2) hx hb dL_plusWeeks_20 (by decide) ?_
      have hv9 : (if (m_X0_plusWeeks p1 p2 z).1 = 0 then ((m_X0_plusWeeks p1 p2 z).2.1).toInt64 else v) = v := if_neg h0
      rw [hv9]
      exact w_iret hx hb hr hlocks (by rw [h]; rfl) hP1 hO1 hS2 ⟨Nat.le_of_ble_eq_true rfl, Nat.le_of_ble_eq_true rfl⟩ dL_plusWeeks_21
    · have hcl : s.vm.findClass "java/lang/IllegalStateException" = some ce.cls := by rw [h] at hcl; exact hcl
      refine vx_catch (E := "java/lang/IllegalStateException") hown [⟨0, 11, 14, 19⟩, ⟨0, 11, 18, 21⟩] ⟨0, 11, 22, 23⟩ [] (by rw [htab]; rfl) (List.forall_mem_cons.mpr ⟨Or.inr ⟨by decide, "java/lang/IndexOutOfBoundsException", (htg _ w_622), gx_nc hGx (q := ("java/lang/IllegalStateException", "java/lang/IndexOutOfBoundsException")) (by decide)⟩, (List.forall_mem_cons.mpr ⟨Or.inr ⟨by decide, "java/lang/IllegalArgumentException", (htg _ w_623), gx_nc hGx (q := ("java/lang/IllegalStateException", "java/lang/IllegalArgumentException")) (by decide)⟩, (List.forall_mem_nil _)⟩)⟩) (by decide) (by decide) (htg _ w_624) (gx_cast hGx (by decide)) hce hcv hcl ?_
      refine lv_astore (lv' := [(4, .ref q), (0, .ref a.1), (1, .int p1), (2, .int p2), (3, .ref o)]) hx hb dL_plusWeeks_22 hl (by decide) rfl (fun ls hl => ?_)
      refine lv_iconst (v := 3) hx hb dL_plusWeeks_24 (by decide) ?_
      have hv9 : (if (m_X0_plusWeeks p1 p2 z).1 = 0 then ((m_X0_plusWeeks p1 p2 z).2.1).toInt64 else v) = v := if_neg h0
      rw [hv9]
      exact w_iret hx hb hr hlocks (by rw [h]; rfl) hP1 hO1 hS2 ⟨Nat.le_of_ble_eq_true rfl, Nat.le_of_ble_eq_true rfl⟩ dL_plusWeeks_25
  · obtain ⟨hO1, hS2⟩ := w_pre (z := z) hO hoa hS1
    obtain ⟨w9, hO1⟩ := hO1
    have hP3 := va_P.app (w1 := [(o, _)]) hO1 hP1
    have hD3 := w_D (n := s.heap.size) (x := .inr (3, [.long v, w9])) (z := (m_X0_plusWeeks p1 p2 z).2.2) hD hoa
    refine lv_i2l hx hb dL_plusWeeks_7 rfl ?_
    refine va_putN (D := kD k) (ci := 3) (v := .long (((m_X0_plusWeeks p1 p2 z).2.1).toInt64)) (ty := .long) (C := RX1) (T := TX1) (N := 2) (A := wA a o s.heap.size) (H0 := s.heap) hx hb htg inG_X1 tyX1 tyX1_ok nmX1 hown hGx.1 hP3 hD3 hS2 0 rfl rfl 0 (by decide) (va_Nw.use rfl (gx_nf hGx (q := ("DatesoloLaw", 13, "DatesoloLaw$Out", "n", "J", "DatesoloLaw")) (by decide +kernel))) (fun _ h9 => h9) rfl (by decide +kernel) rfl rfl (Nat.le_of_ble_eq_true rfl) dL_plusWeeks_8 (fun H4 locs4 hP4 _ hS4 => ?_)
    refine lv_goto (tgt := 26) hx hb dL_plusWeeks_11 (by decide) ?_
    refine lv_iconst (v := 0) hx hb dL_plusWeeks_26 (by decide) ?_
    have hP5 : va_P (kD k) vwCl (cW k a ((m_X0_plusWeeks p1 p2 z).2.2)) H4 := hP4.sub [1, 2, 3, 4, 5] rfl
    have hO5 : oP k o (((m_X0_plusWeeks p1 p2 z).2.1).toInt64) H4 := ⟨w9, hP4.sub [0] rfl⟩
    have hv9 : (if (m_X0_plusWeeks p1 p2 z).1 = 0 then ((m_X0_plusWeeks p1 p2 z).2.1).toInt64 else v) = ((m_X0_plusWeeks p1 p2 z).2.1).toInt64 := if_pos h0
    rw [hv9]
    exact w_iret hx hb hr hlocks (by rw [h0]; rfl) hP5 hO5 hS4 ⟨Nat.le_of_ble_eq_true rfl, Nat.le_of_ble_eq_true rfl⟩ dL_plusWeeks_27
noncomputable abbrev wsL_plusMonths : List Cond := .codeWith yL_plusMonths cL_plusMonths 5 (some .int) [(0, 11, 14, 19), (0, 11, 18, 21), (0, 11, 22, 23)] :: GL
theorem kw_L_plusMonths : (∃ ws', wsL_plusMonths = Cond.codeWith yL_plusMonths cL_plusMonths 5 (some .int) [(0, 11, 14, 19), (0, 11, 18, 21), (0, 11, 22, 23)] :: ws') ∧ yL_plusMonths.cls ≠ "java/lang/invoke/MethodHandle" ∧ yL_plusMonths.cls ≠ "java/lang/invoke/VarHandle" ∧ (parseMethodDescriptor yL_plusMonths.desc).map (fun d => d.parameters.length) = some 4 := ⟨⟨_, rfl⟩, by decide +kernel, by decide +kernel, by decide +kernel⟩
set_option maxRecDepth 100000 in
set_option maxHeartbeats 4000000 in
theorem k_L_plusMonths (l : Launch) (hl9 : l.stackTraces = false) (k : Kx) (a : CA) (hD : cD k a) (o : Nat) (p1 : Int32) (p2 : Int32) (z : CS) (v : Int64) (hres : (m_X0_plusMonths p1 p2 z).1 = 0 ∨ (m_X0_plusMonths p1 p2 z).1 = 1 ∨ (m_X0_plusMonths p1 p2 z).1 = 2 ∨ (m_X0_plusMonths p1 p2 z).1 = 3) : wM l k a o yL_plusMonths wsL_plusMonths 11 253 4 24 [.ref a.1, .int p1, .int p2, .ref o] z v (wk 1 2 ((m_X0_plusMonths p1 p2 z).1)) ((m_X0_plusMonths p1 p2 z).2.2) (if (m_X0_plusMonths p1 p2 z).1 = 0 then ((m_X0_plusMonths p1 p2 z).2.1).toInt64 else v) := by
  intro sz
  refine va_MetW (cc := cL_plusMonths) (maxL := 5) (ret := (some .int)) (hh := [(0, 11, 14, 19), (0, 11, 18, 21), (0, 11, 22, 23)]) (by decide) rfl ?_
  intro p e s m args below meth c s₁ B hml hv
  obtain ⟨rfl, rfl, hGx, hP, hO, hob, hoa⟩ := hv
  have hx := B.exec
  have hb := B.bytes
  have hr := B.returns
  have hts := atoms_spec (ws := wsL_plusMonths) B.pre
  have hown : s.vm.findClass RL = some m.cls := findClass_of_methodNamed B.named
  have hlocks := B.notSynchronized
  have htg : ∀ w ∈ GL, w.before _ s = true := fun w h => hts w (List.mem_cons_of_mem _ h)
  have hC : CallFix p m c cL_plusMonths 5 s _ wsL_plusMonths RL := ⟨hx, hb, hml, hown, hts⟩
  have htab : c.exceptionTable.toList = tableOf [(0, 11, 14, 19), (0, 11, 18, 21), (0, 11, 22, 23)] := vx_table (x := yL_plusMonths) B (hts _ List.mem_cons_self)
  have hl := lv_entry ([.ref a.1, .int p1, .int p2, .ref o]) (n := 5) (Nat.le_of_ble_eq_true rfl)
  rw [lg_entry_eq]
  generalize (lg_sl ([.ref a.1, .int p1, .int p2, .ref o]) ++ List.replicate (5 - (lg_sl ([.ref a.1, .int p1, .int p2, .ref o])).length) Slot.unset).toArray = ls at hl ⊢
  have hl : lv_has ls 5 [(0, .ref a.1), (1, .int p1), (2, .int p2), (3, .ref o)] := hl
  refine lv_aload_n hx hb dL_plusMonths_0 rfl (lv_at hl 3 rfl) ?_
  refine lv_aload_n hx hb dL_plusMonths_1 rfl (lv_at hl 0 rfl) ?_
  refine lv_iload_n hx hb dL_plusMonths_2 rfl (lv_at hl 1 rfl) ?_
  refine lv_iload_n hx hb dL_plusMonths_3 rfl (lv_at hl 2 rfl) ?_
  refine cv_V hC hGx hD (c_X0_plusMonths l hl9 k a hD p1 p2 z) (gV w_774 w_775 w_776 w_26 w_777) kk_X0_plusMonths rfl ⟨Nat.le_of_ble_eq_true rfl, Nat.le_of_ble_eq_true rfl⟩ ⟨Nat.le_of_ble_eq_true rfl, Nat.le_of_ble_eq_true rfl⟩ hP va_S.rf hl.1 rfl rfl (Nat.le_of_ble_eq_true rfl) dL_plusMonths_4 (fun h0 ce q H1 locs1 hP1 hS1 hce hcv hcl => ?_) (fun h0 H1 locs1 hP1 hS1 => ?_)
  · obtain ⟨hO1, hS2⟩ := w_pre (z := z) hO hoa hS1
    rcases hres with h | h | h | h
    · exact absurd h h0
    · have hcl : s.vm.findClass "java/lang/IndexOutOfBoundsException" = some ce.cls := by rw [h] at hcl; exact hcl
      refine vx_catch (E := "java/lang/IndexOutOfBoundsException") hown [] ⟨0, 11, 14, 19⟩ [⟨0, 11, 18, 21⟩, ⟨0, 11, 22, 23⟩] (by rw [htab]; rfl) (List.forall_mem_nil _) (by decide) (by decide) (htg _ w_622) (gx_cast hGx (by decide)) hce hcv hcl ?_
      refine lv_astore (lv' := [(4, .ref q), (0, .ref a.1), (1, .int p1), (2, .int p2), (3, .ref o)]) hx hb dL_plusMonths_14 hl (by decide) rfl (fun ls hl => ?_)
      refine lv_iconst (v := 1) hx hb dL_plusMonths_16 (by decide) ?_
      have hv9 : (if (m_X0_plusMonths p1 p2 z).1 = 0 then ((m_X0_plusMonths p1 p2 z).2.1).toInt64 else v) = v := if_neg h0
      rw [hv9]
      exact w_iret hx hb hr hlocks (by rw [h]; rfl) hP1 hO1 hS2 ⟨Nat.le_of_ble_eq_true rfl, Nat.le_of_ble_eq_true rfl⟩ dL_plusMonths_17
    · have hcl : s.vm.findClass "java/lang/IllegalArgumentException" = some ce.cls := by rw [h] at hcl; exact hcl
      refine vx_catch (E := "java/lang/IllegalArgumentException") hown [⟨0, 11, 14, 19⟩] ⟨0, 11, 18, 21⟩ [⟨0, 11, 22, 23⟩] (by rw [htab]; rfl) (List.forall_mem_cons.mpr ⟨Or.inr ⟨by decide, "java/lang/IndexOutOfBoundsException", (htg _ w_622), gx_nc hGx (q := ("java/lang/IllegalArgumentException", "java/lang/IndexOutOfBoundsException")) (by decide)⟩, (List.forall_mem_nil _)⟩) (by decide) (by decide) (htg _ w_623) (gx_cast hGx (by decide)) hce hcv hcl ?_
      refine lv_astore (lv' := [(4, .ref q), (0, .ref a.1), (1, .int p1), (2, .int p2), (3, .ref o)]) hx hb dL_plusMonths_18 hl (by decide) rfl (fun ls hl => ?_)
      refine lv_iconst (v := 2) hx hb dL_plusMonths_20 (by decide) ?_
      have hv9 : (if (m_X0_plusMonths p1 p2 z).1 = 0 then ((m_X0_plusMonths p1 p2 z).2.1).toInt64 else v) = v := if_neg h0
      rw [hv9]
      exact w_iret hx hb hr hlocks (by rw [h]; rfl) hP1 hO1 hS2 ⟨Nat.le_of_ble_eq_true rfl, Nat.le_of_ble_eq_true rfl⟩ dL_plusMonths_21
    · have hcl : s.vm.findClass "java/lang/IllegalStateException" = some ce.cls := by rw [h] at hcl; exact hcl
      refine vx_catch (E := "java/lang/IllegalStateException") hown [⟨0, 11, 14, 19⟩, ⟨0, 11, 18, 21⟩] ⟨0, 11, 22, 23⟩ [] (by rw [htab]; rfl) (List.forall_mem_cons.mpr ⟨Or.inr ⟨by decide, "java/lang/IndexOutOfBoundsException", (htg _ w_622), gx_nc hGx (q := ("java/lang/IllegalStateException", "java/lang/IndexOutOfBoundsException")) (by decide)⟩, (List.forall_mem_cons.mpr ⟨Or.inr ⟨by decide, "java/lang/IllegalArgumentException", (htg _ w_623), gx_nc hGx (q := ("java/lang/IllegalStateException", "java/lang/IllegalArgumentException")) (by decide)⟩, (List.forall_mem_nil _)⟩)⟩) (by decide) (by decide) (htg _ w_624) (gx_cast hGx (by decide)) hce hcv hcl ?_
      refine lv_astore (lv' := [(4, .ref q), (0, .ref a.1), (1, .int p1), (2, .int p2), (3, .ref o)]) hx hb dL_plusMonths_22 hl (by decide) rfl (fun ls hl => ?_)
      refine lv_iconst (v := 3) hx hb dL_plusMonths_24 (by decide) ?_
      have hv9 : (if (m_X0_plusMonths p1 p2 z).1 = 0 then ((m_X0_plusMonths p1 p2 z).2.1).toInt64 else v) = v := if_neg h0
      rw [hv9]
      exact w_iret hx hb hr hlocks (by rw [h]; rfl) hP1 hO1 hS2 ⟨Nat.le_of_ble_eq_true rfl, Nat.le_of_ble_eq_true rfl⟩ dL_plusMonths_25
  · obtain ⟨hO1, hS2⟩ := w_pre (z := z) hO hoa hS1
    obtain ⟨w9, hO1⟩ := hO1
    have hP3 := va_P.app (w1 := [(o, _)]) hO1 hP1
    have hD3 := w_D (n := s.heap.size) (x := .inr (3, [.long v, w9])) (z := (m_X0_plusMonths p1 p2 z).2.2) hD hoa
    refine lv_i2l hx hb dL_plusMonths_7 rfl ?_
    refine va_putN (D := kD k) (ci := 3) (v := .long (((m_X0_plusMonths p1 p2 z).2.1).toInt64)) (ty := .long) (C := RX1) (T := TX1) (N := 2) (A := wA a o s.heap.size) (H0 := s.heap) hx hb htg inG_X1 tyX1 tyX1_ok nmX1 hown hGx.1 hP3 hD3 hS2 0 rfl rfl 0 (by decide) (va_Nw.use rfl (gx_nf hGx (q := ("DatesoloLaw", 13, "DatesoloLaw$Out", "n", "J", "DatesoloLaw")) (by decide +kernel))) (fun _ h9 => h9) rfl (by decide +kernel) rfl rfl (Nat.le_of_ble_eq_true rfl) dL_plusMonths_8 (fun H4 locs4 hP4 _ hS4 => ?_)
    refine lv_goto (tgt := 26) hx hb dL_plusMonths_11 (by decide) ?_
    refine lv_iconst (v := 0) hx hb dL_plusMonths_26 (by decide) ?_
    have hP5 : va_P (kD k) vwCl (cW k a ((m_X0_plusMonths p1 p2 z).2.2)) H4 := hP4.sub [1, 2, 3, 4, 5] rfl
    have hO5 : oP k o (((m_X0_plusMonths p1 p2 z).2.1).toInt64) H4 := ⟨w9, hP4.sub [0] rfl⟩
    have hv9 : (if (m_X0_plusMonths p1 p2 z).1 = 0 then ((m_X0_plusMonths p1 p2 z).2.1).toInt64 else v) = ((m_X0_plusMonths p1 p2 z).2.1).toInt64 := if_pos h0
    rw [hv9]
    exact w_iret hx hb hr hlocks (by rw [h0]; rfl) hP5 hO5 hS4 ⟨Nat.le_of_ble_eq_true rfl, Nat.le_of_ble_eq_true rfl⟩ dL_plusMonths_27
noncomputable abbrev wsL_plusYears : List Cond := .codeWith yL_plusYears cL_plusYears 5 (some .int) [(0, 11, 14, 19), (0, 11, 18, 21), (0, 11, 22, 23)] :: GL
theorem kw_L_plusYears : (∃ ws', wsL_plusYears = Cond.codeWith yL_plusYears cL_plusYears 5 (some .int) [(0, 11, 14, 19), (0, 11, 18, 21), (0, 11, 22, 23)] :: ws') ∧ yL_plusYears.cls ≠ "java/lang/invoke/MethodHandle" ∧ yL_plusYears.cls ≠ "java/lang/invoke/VarHandle" ∧ (parseMethodDescriptor yL_plusYears.desc).map (fun d => d.parameters.length) = some 4 := ⟨⟨_, rfl⟩, by decide +kernel, by decide +kernel, by decide +kernel⟩
set_option maxRecDepth 100000 in
set_option maxHeartbeats 4000000 in
theorem k_L_plusYears (l : Launch) (hl9 : l.stackTraces = false) (k : Kx) (a : CA) (hD : cD k a) (o : Nat) (p1 : Int32) (p2 : Int32) (z : CS) (v : Int64) (hres : (m_X0_plusYears p1 p2 z).1 = 0 ∨ (m_X0_plusYears p1 p2 z).1 = 1 ∨ (m_X0_plusYears p1 p2 z).1 = 2 ∨ (m_X0_plusYears p1 p2 z).1 = 3) : wM l k a o yL_plusYears wsL_plusYears 11 253 4 24 [.ref a.1, .int p1, .int p2, .ref o] z v (wk 1 2 ((m_X0_plusYears p1 p2 z).1)) ((m_X0_plusYears p1 p2 z).2.2) (if (m_X0_plusYears p1 p2 z).1 = 0 then ((m_X0_plusYears p1 p2 z).2.1).toInt64 else v) := by
  intro sz
  refine va_MetW (cc := cL_plusYears) (maxL := 5) (ret := (some .int)) (hh := [(0, 11, 14, 19), (0, 11, 18, 21), (0, 11, 22, 23)]) (by decide) rfl ?_
  intro p e s m args below meth c s₁ B hml hv
  obtain ⟨rfl, rfl, hGx, hP, hO, hob, hoa⟩ := hv
  have hx := B.exec
  have hb := B.bytes
  have hr := B.returns
  have hts := atoms_spec (ws := wsL_plusYears) B.pre
  have hown : s.vm.findClass RL = some m.cls := findClass_of_methodNamed B.named
  have hlocks := B.notSynchronized
  have htg : ∀ w ∈ GL, w.before _ s = true := fun w h => hts w (List.mem_cons_of_mem _ h)
  have hC : CallFix p m c cL_plusYears 5 s _ wsL_plusYears RL := ⟨hx, hb, hml, hown, hts⟩
  have htab : c.exceptionTable.toList = tableOf [(0, 11, 14, 19), (0, 11, 18, 21), (0, 11, 22, 23)] := vx_table (x := yL_plusYears) B (hts _ List.mem_cons_self)
  have hl := lv_entry ([.ref a.1, .int p1, .int p2, .ref o]) (n := 5) (Nat.le_of_ble_eq_true rfl)
  rw [lg_entry_eq]
  generalize (lg_sl ([.ref a.1, .int p1, .int p2, .ref o]) ++ List.replicate (5 - (lg_sl ([.ref a.1, .int p1, .int p2, .ref o])).length) Slot.unset).toArray = ls at hl ⊢
  have hl : lv_has ls 5 [(0, .ref a.1), (1, .int p1), (2, .int p2), (3, .ref o)] := hl
  refine lv_aload_n hx hb dL_plusYears_0 rfl (lv_at hl 3 rfl) ?_
  refine lv_aload_n hx hb dL_plusYears_1 rfl (lv_at hl 0 rfl) ?_
  refine lv_iload_n hx hb dL_plusYears_2 rfl (lv_at hl 1 rfl) ?_
  refine lv_iload_n hx hb dL_plusYears_3 rfl (lv_at hl 2 rfl) ?_
  refine cv_V hC hGx hD (c_X0_plusYears l hl9 k a hD p1 p2 z) (gV w_781 w_782 w_783 w_26 w_784) kk_X0_plusYears rfl ⟨Nat.le_of_ble_eq_true rfl, Nat.le_of_ble_eq_true rfl⟩ ⟨Nat.le_of_ble_eq_true rfl, Nat.le_of_ble_eq_true rfl⟩ hP va_S.rf hl.1 rfl rfl (Nat.le_of_ble_eq_true rfl) dL_plusYears_4 (fun h0 ce q H1 locs1 hP1 hS1 hce hcv hcl => ?_) (fun h0 H1 locs1 hP1 hS1 => ?_)
  · obtain ⟨hO1, hS2⟩ := w_pre (z := z) hO hoa hS1
    rcases hres with h | h | h | h
    · exact absurd h h0
    · have hcl : s.vm.findClass "java/lang/IndexOutOfBoundsException" = some ce.cls := by rw [h] at hcl; exact hcl
      refine vx_catch (E := "java/lang/IndexOutOfBoundsException") hown [] ⟨0, 11, 14, 19⟩ [⟨0, 11, 18, 21⟩, ⟨0, 11, 22, 23⟩] (by rw [htab]; rfl) (List.forall_mem_nil _) (by decide) (by decide) (htg _ w_622) (gx_cast hGx (by decide)) hce hcv hcl ?_
      refine lv_astore (lv' := [(4, .ref q), (0, .ref a.1), (1, .int p1), (2, .int p2), (3, .ref o)]) hx hb dL_plusYears_14 hl (by decide) rfl (fun ls hl => ?_)
      refine lv_iconst (v := 1) hx hb dL_plusYears_16 (by decide) ?_
      have hv9 : (if (m_X0_plusYears p1 p2 z).1 = 0 then ((m_X0_plusYears p1 p2 z).2.1).toInt64 else v) = v := if_neg h0
      rw [hv9]
      exact w_iret hx hb hr hlocks (by rw [h]; rfl) hP1 hO1 hS2 ⟨Nat.le_of_ble_eq_true rfl, Nat.le_of_ble_eq_true rfl⟩ dL_plusYears_17
    · have hcl : s.vm.findClass "java/lang/IllegalArgumentException" = some ce.cls := by rw [h] at hcl; exact hcl
      refine vx_catch (E := "java/lang/IllegalArgumentException") hown [⟨0, 11, 14, 19⟩] ⟨0, 11, 18, 21⟩ [⟨0, 11, 22, 23⟩] (by rw [htab]; rfl) (List.forall_mem_cons.mpr ⟨Or.inr ⟨by decide, "java/lang/IndexOutOfBoundsException", (htg _ w_622), gx_nc hGx (q := ("java/lang/IllegalArgumentException", "java/lang/IndexOutOfBoundsException")) (by decide)⟩, (List.forall_mem_nil _)⟩) (by decide) (by decide) (htg _ w_623) (gx_cast hGx (by decide)) hce hcv hcl ?_
      refine lv_astore (lv' := [(4, .ref q), (0, .ref a.1), (1, .int p1), (2, .int p2), (3, .ref o)]) hx hb dL_plusYears_18 hl (by decide) rfl (fun ls hl => ?_)
      refine lv_iconst (v := 2) hx hb dL_plusYears_20 (by decide) ?_
      have hv9 : (if (m_X0_plusYears p1 p2 z).1 = 0 then ((m_X0_plusYears p1 p2 z).2.1).toInt64 else v) = v := if_neg h0
      rw [hv9]
      exact w_iret hx hb hr hlocks (by rw [h]; rfl) hP1 hO1 hS2 ⟨Nat.le_of_ble_eq_true rfl, Nat.le_of_ble_eq_true rfl⟩ dL_plusYears_21
    · have hcl : s.vm.findClass "java/lang/IllegalStateException" = some ce.cls := by rw [h] at hcl; exact hcl
      refine vx_catch (E := "java/lang/IllegalStateException") hown [⟨0, 11, 14, 19⟩, ⟨0, 11, 18, 21⟩] ⟨0, 11, 22, 23⟩ [] (by rw [htab]; rfl) (List.forall_mem_cons.mpr ⟨Or.inr ⟨by decide, "java/lang/IndexOutOfBoundsException", (htg _ w_622), gx_nc hGx (q := ("java/lang/IllegalStateException", "java/lang/IndexOutOfBoundsException")) (by decide)⟩, (List.forall_mem_cons.mpr ⟨Or.inr ⟨by decide, "java/lang/IllegalArgumentException", (htg _ w_623), gx_nc hGx (q := ("java/lang/IllegalStateException", "java/lang/IllegalArgumentException")) (by decide)⟩, (List.forall_mem_nil _)⟩)⟩) (by decide) (by decide) (htg _ w_624) (gx_cast hGx (by decide)) hce hcv hcl ?_
      refine lv_astore (lv' := [(4, .ref q), (0, .ref a.1), (1, .int p1), (2, .int p2), (3, .ref o)]) hx hb dL_plusYears_22 hl (by decide) rfl (fun ls hl => ?_)
      refine lv_iconst (v := 3) hx hb dL_plusYears_24 (by decide) ?_
      have hv9 : (if (m_X0_plusYears p1 p2 z).1 = 0 then ((m_X0_plusYears p1 p2 z).2.1).toInt64 else v) = v := if_neg h0
      rw [hv9]
      exact w_iret hx hb hr hlocks (by rw [h]; rfl) hP1 hO1 hS2 ⟨Nat.le_of_ble_eq_true rfl, Nat.le_of_ble_eq_true rfl⟩ dL_plusYears_25
  · obtain ⟨hO1, hS2⟩ := w_pre (z := z) hO hoa hS1
    obtain ⟨w9, hO1⟩ := hO1
    have hP3 := va_P.app (w1 := [(o, _)]) hO1 hP1
    have hD3 := w_D (n := s.heap.size) (x := .inr (3, [.long v, w9])) (z := (m_X0_plusYears p1 p2 z).2.2) hD hoa
    refine lv_i2l hx hb dL_plusYears_7 rfl ?_
    refine va_putN (D := kD k) (ci := 3) (v := .long (((m_X0_plusYears p1 p2 z).2.1).toInt64)) (ty := .long) (C := RX1) (T := TX1) (N := 2) (A := wA a o s.heap.size) (H0 := s.heap) hx hb htg inG_X1 tyX1 tyX1_ok nmX1 hown hGx.1 hP3 hD3 hS2 0 rfl rfl 0 (by decide) (va_Nw.use rfl (gx_nf hGx (q := ("DatesoloLaw", 13, "DatesoloLaw$Out", "n", "J", "DatesoloLaw")) (by decide +kernel))) (fun _ h9 => h9) rfl (by decide +kernel) rfl rfl (Nat.le_of_ble_eq_true rfl) dL_plusYears_8 (fun H4 locs4 hP4 _ hS4 => ?_)
    refine lv_goto (tgt := 26) hx hb dL_plusYears_11 (by decide) ?_
    refine lv_iconst (v := 0) hx hb dL_plusYears_26 (by decide) ?_
    have hP5 : va_P (kD k) vwCl (cW k a ((m_X0_plusYears p1 p2 z).2.2)) H4 := hP4.sub [1, 2, 3, 4, 5] rfl
    have hO5 : oP k o (((m_X0_plusYears p1 p2 z).2.1).toInt64) H4 := ⟨w9, hP4.sub [0] rfl⟩
    have hv9 : (if (m_X0_plusYears p1 p2 z).1 = 0 then ((m_X0_plusYears p1 p2 z).2.1).toInt64 else v) = ((m_X0_plusYears p1 p2 z).2.1).toInt64 := if_pos h0
    rw [hv9]
    exact w_iret hx hb hr hlocks (by rw [h0]; rfl) hP5 hO5 hS4 ⟨Nat.le_of_ble_eq_true rfl, Nat.le_of_ble_eq_true rfl⟩ dL_plusYears_27
noncomputable abbrev wsL_minusDays : List Cond := .codeWith yL_minusDays cL_minusDays 5 (some .int) [(0, 11, 14, 19), (0, 11, 18, 21), (0, 11, 22, 23)] :: GL
theorem kw_L_minusDays : (∃ ws', wsL_minusDays = Cond.codeWith yL_minusDays cL_minusDays 5 (some .int) [(0, 11, 14, 19), (0, 11, 18, 21), (0, 11, 22, 23)] :: ws') ∧ yL_minusDays.cls ≠ "java/lang/invoke/MethodHandle" ∧ yL_minusDays.cls ≠ "java/lang/invoke/VarHandle" ∧ (parseMethodDescriptor yL_minusDays.desc).map (fun d => d.parameters.length) = some 4 := ⟨⟨_, rfl⟩, by decide +kernel, by decide +kernel, by decide +kernel⟩
set_option maxRecDepth 100000 in
set_option maxHeartbeats 4000000 in
theorem k_L_minusDays (l : Launch) (hl9 : l.stackTraces = false) (k : Kx) (a : CA) (hD : cD k a) (o : Nat) (p1 : Int32) (p2 : Int32) (z : CS) (v : Int64) (hres : (m_X0_minusDays p1 p2 z).1 = 0 ∨ (m_X0_minusDays p1 p2 z).1 = 1 ∨ (m_X0_minusDays p1 p2 z).1 = 2 ∨ (m_X0_minusDays p1 p2 z).1 = 3) : wM l k a o yL_minusDays wsL_minusDays 11 253 4 24 [.ref a.1, .int p1, .int p2, .ref o] z v (wk 1 2 ((m_X0_minusDays p1 p2 z).1)) ((m_X0_minusDays p1 p2 z).2.2) (if (m_X0_minusDays p1 p2 z).1 = 0 then ((m_X0_minusDays p1 p2 z).2.1).toInt64 else v) := by
  intro sz
  refine va_MetW (cc := cL_minusDays) (maxL := 5) (ret := (some .int)) (hh := [(0, 11, 14, 19), (0, 11, 18, 21), (0, 11, 22, 23)]) (by decide) rfl ?_
  intro p e s m args below meth c s₁ B hml hv
  obtain ⟨rfl, rfl, hGx, hP, hO, hob, hoa⟩ := hv
  have hx := B.exec
  have hb := B.bytes
  have hr := B.returns
  have hts := atoms_spec (ws := wsL_minusDays) B.pre
  have hown : s.vm.findClass RL = some m.cls := findClass_of_methodNamed B.named
  have hlocks := B.notSynchronized
  have htg : ∀ w ∈ GL, w.before _ s = true := fun w h => hts w (List.mem_cons_of_mem _ h)
  have hC : CallFix p m c cL_minusDays 5 s _ wsL_minusDays RL := ⟨hx, hb, hml, hown, hts⟩
  have htab : c.exceptionTable.toList = tableOf [(0, 11, 14, 19), (0, 11, 18, 21), (0, 11, 22, 23)] := vx_table (x := yL_minusDays) B (hts _ List.mem_cons_self)
  have hl := lv_entry ([.ref a.1, .int p1, .int p2, .ref o]) (n := 5) (Nat.le_of_ble_eq_true rfl)
  rw [lg_entry_eq]
  generalize (lg_sl ([.ref a.1, .int p1, .int p2, .ref o]) ++ List.replicate (5 - (lg_sl ([.ref a.1, .int p1, .int p2, .ref o])).length) Slot.unset).toArray = ls at hl ⊢
  have hl : lv_has ls 5 [(0, .ref a.1), (1, .int p1), (2, .int p2), (3, .ref o)] := hl
  refine lv_aload_n hx hb dL_minusDays_0 rfl (lv_at hl 3 rfl) ?_
  refine lv_aload_n hx hb dL_minusDays_1 rfl (lv_at hl 0 rfl) ?_
  refine lv_iload_n hx hb dL_minusDays_2 rfl (lv_at hl 1 rfl) ?_
  refine lv_iload_n hx hb dL_minusDays_3 rfl (lv_at hl 2 rfl) ?_
  refine cv_V hC hGx hD (c_X0_minusDays l hl9 k a hD p1 p2 z) (gV w_788 w_789 w_790 w_26 w_791) kk_X0_minusDays rfl ⟨Nat.le_of_ble_eq_true rfl, Nat.le_of_ble_eq_true rfl⟩ ⟨Nat.le_of_ble_eq_true rfl, Nat.le_of_ble_eq_true rfl⟩ hP va_S.rf hl.1 rfl rfl (Nat.le_of_ble_eq_true rfl) dL_minusDays_4 (fun h0 ce q H1 locs1 hP1 hS1 hce hcv hcl => ?_) (fun h0 H1 locs1 hP1 hS1 => ?_)
  · obtain ⟨hO1, hS2⟩ := w_pre (z := z) hO hoa hS1
    rcases hres with h | h | h | h
    · exact absurd h h0
    · have hcl : s.vm.findClass "java/lang/IndexOutOfBoundsException" = some ce.cls := by rw [h] at hcl; exact hcl
      refine vx_catch (E := "java/lang/IndexOutOfBoundsException") hown [] ⟨0, 11, 14, 19⟩ [⟨0, 11, 18, 21⟩, ⟨0, 11, 22, 23⟩] (by rw [htab]; rfl) (List.forall_mem_nil _) (by decide) (by decide) (htg _ w_622) (gx_cast hGx (by decide)) hce hcv hcl ?_
      refine lv_astore (lv' := [(4, .ref q), (0, .ref a.1), (1, .int p1), (2, .int p2), (3, .ref o)]) hx hb dL_minusDays_14 hl (by decide) rfl (fun ls hl => ?_)
      refine lv_iconst (v := 1) hx hb dL_minusDays_16 (by decide) ?_
      have hv9 : (if (m_X0_minusDays p1 p2 z).1 = 0 then ((m_X0_minusDays p1 p2 z).2.1).toInt64 else v) = v := if_neg h0
      rw [hv9]
      exact w_iret hx hb hr hlocks (by rw [h]; rfl) hP1 hO1 hS2 ⟨Nat.le_of_ble_eq_true rfl, Nat.le_of_ble_eq_true rfl⟩ dL_minusDays_17
    · have hcl : s.vm.findClass "java/lang/IllegalArgumentException" = some ce.cls := by rw [h] at hcl; exact hcl
      refine vx_catch (E := "java/lang/IllegalArgumentException") hown [⟨0, 11, 14, 19⟩] ⟨0, 11, 18, 21⟩ [⟨0, 11, 22, 23⟩] (by rw [htab]; rfl) (List.forall_mem_cons.mpr ⟨Or.inr ⟨by decide, "java/lang/IndexOutOfBoundsException", (htg _ w_622), gx_nc hGx (q := ("java/lang/IllegalArgumentException", "java/lang/IndexOutOfBoundsException")) (by decide)⟩, (List.forall_mem_nil _)⟩) (by decide) (by decide) (htg _ w_623) (gx_cast hGx (by decide)) hce hcv hcl ?_
      refine lv_astore (lv' := [(4, .ref q), (0, .ref a.1), (1, .int p1), (2, .int p2), (3, .ref o)]) hx hb dL_minusDays_18 hl (by decide) rfl (fun ls hl => ?_)
      refine lv_iconst (v := 2) hx hb dL_minusDays_20 (by decide) ?_
      have hv9 : (if (m_X0_minusDays p1 p2 z).1 = 0 then ((m_X0_minusDays p1 p2 z).2.1).toInt64 else v) = v := if_neg h0
      rw [hv9]
      exact w_iret hx hb hr hlocks (by rw [h]; rfl) hP1 hO1 hS2 ⟨Nat.le_of_ble_eq_true rfl, Nat.le_of_ble_eq_true rfl⟩ dL_minusDays_21
    · have hcl : s.vm.findClass "java/lang/IllegalStateException" = some ce.cls := by rw [h] at hcl; exact hcl
      refine vx_catch (E := "java/lang/IllegalStateException") hown [⟨0, 11, 14, 19⟩, ⟨0, 11, 18, 21⟩] ⟨0, 11, 22, 23⟩ [] (by rw [htab]; rfl) (List.forall_mem_cons.mpr ⟨Or.inr ⟨by decide, "java/lang/IndexOutOfBoundsException", (htg _ w_622), gx_nc hGx (q := ("java/lang/IllegalStateException", "java/lang/IndexOutOfBoundsException")) (by decide)⟩, (List.forall_mem_cons.mpr ⟨Or.inr ⟨by decide, "java/lang/IllegalArgumentException", (htg _ w_623), gx_nc hGx (q := ("java/lang/IllegalStateException", "java/lang/IllegalArgumentException")) (by decide)⟩, (List.forall_mem_nil _)⟩)⟩) (by decide) (by decide) (htg _ w_624) (gx_cast hGx (by decide)) hce hcv hcl ?_
      refine lv_astore (lv' := [(4, .ref q), (0, .ref a.1), (1, .int p1), (2, .int p2), (3, .ref o)]) hx hb dL_minusDays_22 hl (by decide) rfl (fun ls hl => ?_)
      refine lv_iconst (v := 3) hx hb dL_minusDays_24 (by decide) ?_
      have hv9 : (if (m_X0_minusDays p1 p2 z).1 = 0 then ((m_X0_minusDays p1 p2 z).2.1).toInt64 else v) = v := if_neg h0
      rw [hv9]
      exact w_iret hx hb hr hlocks (by rw [h]; rfl) hP1 hO1 hS2 ⟨Nat.le_of_ble_eq_true rfl, Nat.le_of_ble_eq_true rfl⟩ dL_minusDays_25
  · obtain ⟨hO1, hS2⟩ := w_pre (z := z) hO hoa hS1
    obtain ⟨w9, hO1⟩ := hO1
    have hP3 := va_P.app (w1 := [(o, _)]) hO1 hP1
    have hD3 := w_D (n := s.heap.size) (x := .inr (3, [.long v, w9])) (z := (m_X0_minusDays p1 p2 z).2.2) hD hoa
    refine lv_i2l hx hb dL_minusDays_7 rfl ?_
    refine va_putN (D := kD k) (ci := 3) (v := .long (((m_X0_minusDays p1 p2 z).2.1).toInt64)) (ty := .long) (C := RX1) (T := TX1) (N := 2) (A := wA a o s.heap.size) (H0 := s.heap) hx hb htg inG_X1 tyX1 tyX1_ok nmX1 hown hGx.1 hP3 hD3 hS2 0 rfl rfl 0 (by decide) (va_Nw.use rfl (gx_nf hGx (q := ("DatesoloLaw", 13, "DatesoloLaw$Out", "n", "J", "DatesoloLaw")) (by decide +kernel))) (fun _ h9 => h9) rfl (by decide +kernel) rfl rfl (Nat.le_of_ble_eq_true rfl) dL_minusDays_8 (fun H4 locs4 hP4 _ hS4 => ?_)
    refine lv_goto (tgt := 26) hx hb dL_minusDays_11 (by decide) ?_
    refine lv_iconst (v := 0) hx hb dL_minusDays_26 (by decide) ?_
    have hP5 : va_P (kD k) vwCl (cW k a ((m_X0_minusDays p1 p2 z).2.2)) H4 := hP4.sub [1, 2, 3, 4, 5] rfl
    have hO5 : oP k o (((m_X0_minusDays p1 p2 z).2.1).toInt64) H4 := ⟨w9, hP4.sub [0] rfl⟩
    have hv9 : (if (m_X0_minusDays p1 p2 z).1 = 0 then ((m_X0_minusDays p1 p2 z).2.1).toInt64 else v) = ((m_X0_minusDays p1 p2 z).2.1).toInt64 := if_pos h0
    rw [hv9]
    exact w_iret hx hb hr hlocks (by rw [h0]; rfl) hP5 hO5 hS4 ⟨Nat.le_of_ble_eq_true rfl, Nat.le_of_ble_eq_true rfl⟩ dL_minusDays_27
noncomputable abbrev wsL_minusWeeks : List Cond := .codeWith yL_minusWeeks cL_minusWeeks 5 (some .int) [(0, 11, 14, 19), (0, 11, 18, 21), (0, 11, 22, 23)] :: GL
theorem kw_L_minusWeeks : (∃ ws', wsL_minusWeeks = Cond.codeWith yL_minusWeeks cL_minusWeeks 5 (some .int) [(0, 11, 14, 19), (0, 11, 18, 21), (0, 11, 22, 23)] :: ws') ∧ yL_minusWeeks.cls ≠ "java/lang/invoke/MethodHandle" ∧ yL_minusWeeks.cls ≠ "java/lang/invoke/VarHandle" ∧ (parseMethodDescriptor yL_minusWeeks.desc).map (fun d => d.parameters.length) = some 4 := ⟨⟨_, rfl⟩, by decide +kernel, by decide +kernel, by decide +kernel⟩
set_option maxRecDepth 100000 in
set_option maxHeartbeats 4000000 in
theorem k_L_minusWeeks (l : Launch) (hl9 : l.stackTraces = false) (k : Kx) (a : CA) (hD : cD k a) (o : Nat) (p1 : Int32) (p2 : Int32) (z : CS) (v : Int64) (hres : (m_X0_minusWeeks p1 p2 z).1 = 0 ∨ (m_X0_minusWeeks p1 p2 z).1 = 1 ∨ (m_X0_minusWeeks p1 p2 z).1 = 2 ∨ (m_X0_minusWeeks p1 p2 z).1 = 3) : wM l k a o yL_minusWeeks wsL_minusWeeks 11 253 4 24 [.ref a.1, .int p1, .int p2, .ref o] z v (wk 1 2 ((m_X0_minusWeeks p1 p2 z).1)) ((m_X0_minusWeeks p1 p2 z).2.2) (if (m_X0_minusWeeks p1 p2 z).1 = 0 then ((m_X0_minusWeeks p1 p2 z).2.1).toInt64 else v) := by
  intro sz
  refine va_MetW (cc := cL_minusWeeks) (maxL := 5) (ret := (some .int)) (hh := [(0, 11, 14, 19), (0, 11, 18, 21), (0, 11, 22, 23)]) (by decide) rfl ?_
  intro p e s m args below meth c s₁ B hml hv
  obtain ⟨rfl, rfl, hGx, hP, hO, hob, hoa⟩ := hv
  have hx := B.exec
  have hb := B.bytes
  have hr := B.returns
  have hts := atoms_spec (ws := wsL_minusWeeks) B.pre
  have hown : s.vm.findClass RL = some m.cls := findClass_of_methodNamed B.named
  have hlocks := B.notSynchronized
  have htg : ∀ w ∈ GL, w.before _ s = true := fun w h => hts w (List.mem_cons_of_mem _ h)
  have hC : CallFix p m c cL_minusWeeks 5 s _ wsL_minusWeeks RL := ⟨hx, hb, hml, hown, hts⟩
  have htab : c.exceptionTable.toList = tableOf [(0, 11, 14, 19), (0, 11, 18, 21), (0, 11, 22, 23)] := vx_table (x := yL_minusWeeks) B (hts _ List.mem_cons_self)
  have hl := lv_entry ([.ref a.1, .int p1, .int p2, .ref o]) (n := 5) (Nat.le_of_ble_eq_true rfl)
  rw [lg_entry_eq]
  generalize (lg_sl ([.ref a.1, .int p1, .int p2, .ref o]) ++ List.replicate (5 - (lg_sl ([.ref a.1, .int p1, .int p2, .ref o])).length) Slot.unset).toArray = ls at hl ⊢
  have hl : lv_has ls 5 [(0, .ref a.1), (1, .int p1), (2, .int p2), (3, .ref o)] := hl
  refine lv_aload_n hx hb dL_minusWeeks_0 rfl (lv_at hl 3 rfl) ?_
  refine lv_aload_n hx hb dL_minusWeeks_1 rfl (lv_at hl 0 rfl) ?_
  refine lv_iload_n hx hb dL_minusWeeks_2 rfl (lv_at hl 1 rfl) ?_
  refine lv_iload_n hx hb dL_minusWeeks_3 rfl (lv_at hl 2 rfl) ?_
  refine cv_V hC hGx hD (c_X0_minusWeeks l hl9 k a hD p1 p2 z) (gV w_795 w_796 w_797 w_26 w_798) kk_X0_minusWeeks rfl ⟨Nat.le_of_ble_eq_true rfl, Nat.le_of_ble_eq_true rfl⟩ ⟨Nat.le_of_ble_eq_true rfl, Nat.le_of_ble_eq_true rfl⟩ hP va_S.rf hl.1 rfl rfl (Nat.le_of_ble_eq_true rfl) dL_minusWeeks_4 (fun h0 ce q H1 locs1 hP1 hS1 hce hcv hcl => ?_) (fun h0 H1 locs1 hP1 hS1 => ?_)
  · obtain ⟨hO1, hS2⟩ := w_pre (z := z) hO hoa hS1
    rcases hres with h | h | h | h
    · exact absurd h h0
    · have hcl : s.vm.findClass "java/lang/IndexOutOfBoundsException" = some ce.cls := by rw [h] at hcl; exact hcl
      refine vx_catch (E := "java/lang/IndexOutOfBoundsException") hown [] ⟨0, 11, 14, 19⟩ [⟨0, 11, 18, 21⟩, ⟨0, 11, 22, 23⟩] (by rw [htab]; rfl) (List.forall_mem_nil _) (by decide) (by decide) (htg _ w_622) (gx_cast hGx (by decide)) hce hcv hcl ?_
      refine lv_astore (lv' := [(4, .ref q), (0, .ref a.1), (1, .int p1), (2, .int p2), (3, .ref o)]) hx hb dL_minusWeeks_14 hl (by decide) rfl (fun ls hl => ?_)
      refine lv_iconst (v := 1) hx hb dL_minusWeeks_16 (by decide) ?_
      have hv9 : (if (m_X0_minusWeeks p1 p2 z).1 = 0 then ((m_X0_minusWeeks p1 p2 z).2.1).toInt64 else v) = v := if_neg h0
      rw [hv9]
      exact w_iret hx hb hr hlocks (by rw [h]; rfl) hP1 hO1 hS2 ⟨Nat.le_of_ble_eq_true rfl, Nat.le_of_ble_eq_true rfl⟩ dL_minusWeeks_17
    · have hcl : s.vm.findClass "java/lang/IllegalArgumentException" = some ce.cls := by rw [h] at hcl; exact hcl
      refine vx_catch (E := "java/lang/IllegalArgumentException") hown [⟨0, 11, 14, 19⟩] ⟨0, 11, 18, 21⟩ [⟨0, 11, 22, 23⟩] (by rw [htab]; rfl) (List.forall_mem_cons.mpr ⟨Or.inr ⟨by decide, "java/lang/IndexOutOfBoundsException", (htg _ w_622), gx_nc hGx (q := ("java/lang/IllegalArgumentException", "java/lang/IndexOutOfBoundsException")) (by decide)⟩, (List.forall_mem_nil _)⟩) (by decide) (by decide) (htg _ w_623) (gx_cast hGx (by decide)) hce hcv hcl ?_
      refine lv_astore (lv' := [(4, .ref q), (0, .ref a.1), (1, .int p1), (2, .int p2), (3, .ref o)]) hx hb dL_minusWeeks_18 hl (by decide) rfl (fun ls hl => ?_)
      refine lv_iconst (v := 2) hx hb dL_minusWeeks_20 (by decide) ?_
      have hv9 : (if (m_X0_minusWeeks p1 p2 z).1 = 0 then ((m_X0_minusWeeks p1 p2 z).2.1).toInt64 else v) = v := if_neg h0
      rw [hv9]
      exact w_iret hx hb hr hlocks (by rw [h]; rfl) hP1 hO1 hS2 ⟨Nat.le_of_ble_eq_true rfl, Nat.le_of_ble_eq_true rfl⟩ dL_minusWeeks_21
    · have hcl : s.vm.findClass "java/lang/IllegalStateException" = some ce.cls := by rw [h] at hcl; exact hcl
      refine vx_catch (E := "java/lang/IllegalStateException") hown [⟨0, 11, 14, 19⟩, ⟨0, 11, 18, 21⟩] ⟨0, 11, 22, 23⟩ [] (by rw [htab]; rfl) (List.forall_mem_cons.mpr ⟨Or.inr ⟨by decide, "java/lang/IndexOutOfBoundsException", (htg _ w_622), gx_nc hGx (q := ("java/lang/IllegalStateException", "java/lang/IndexOutOfBoundsException")) (by decide)⟩, (List.forall_mem_cons.mpr ⟨Or.inr ⟨by decide, "java/lang/IllegalArgumentException", (htg _ w_623), gx_nc hGx (q := ("java/lang/IllegalStateException", "java/lang/IllegalArgumentException")) (by decide)⟩, (List.forall_mem_nil _)⟩)⟩) (by decide) (by decide) (htg _ w_624) (gx_cast hGx (by decide)) hce hcv hcl ?_
      refine lv_astore (lv' := [(4, .ref q), (0, .ref a.1), (1, .int p1), (2, .int p2), (3, .ref o)]) hx hb dL_minusWeeks_22 hl (by decide) rfl (fun ls hl => ?_)
      refine lv_iconst (v := 3) hx hb dL_minusWeeks_24 (by decide) ?_
      have hv9 : (if (m_X0_minusWeeks p1 p2 z).1 = 0 then ((m_X0_minusWeeks p1 p2 z).2.1).toInt64 else v) = v := if_neg h0
      rw [hv9]
      exact w_iret hx hb hr hlocks (by rw [h]; rfl) hP1 hO1 hS2 ⟨Nat.le_of_ble_eq_true rfl, Nat.le_of_ble_eq_true rfl⟩ dL_minusWeeks_25
  · obtain ⟨hO1, hS2⟩ := w_pre (z := z) hO hoa hS1
    obtain ⟨w9, hO1⟩ := hO1
    have hP3 := va_P.app (w1 := [(o, _)]) hO1 hP1
    have hD3 := w_D (n := s.heap.size) (x := .inr (3, [.long v, w9])) (z := (m_X0_minusWeeks p1 p2 z).2.2) hD hoa
    refine lv_i2l hx hb dL_minusWeeks_7 rfl ?_
    refine va_putN (D := kD k) (ci := 3) (v := .long (((m_X0_minusWeeks p1 p2 z).2.1).toInt64)) (ty := .long) (C := RX1) (T := TX1) (N := 2) (A := wA a o s.heap.size) (H0 := s.heap) hx hb htg inG_X1 tyX1 tyX1_ok nmX1 hown hGx.1 hP3 hD3 hS2 0 rfl rfl 0 (by decide) (va_Nw.use rfl (gx_nf hGx (q := ("DatesoloLaw", 13, "DatesoloLaw$Out", "n", "J", "DatesoloLaw")) (by decide +kernel))) (fun _ h9 => h9) rfl (by decide +kernel) rfl rfl (Nat.le_of_ble_eq_true rfl) dL_minusWeeks_8 (fun H4 locs4 hP4 _ hS4 => ?_)
    refine lv_goto (tgt := 26) hx hb dL_minusWeeks_11 (by decide) ?_
    refine lv_iconst (v := 0) hx hb dL_minusWeeks_26 (by decide) ?_
    have hP5 : va_P (kD k) vwCl (cW k a ((m_X0_minusWeeks p1 p2 z).2.2)) H4 := hP4.sub [1, 2, 3, 4, 5] rfl
    have hO5 : oP k o (((m_X0_minusWeeks p1 p2 z).2.1).toInt64) H4 := ⟨w9, hP4.sub [0] rfl⟩
    have hv9 : (if (m_X0_minusWeeks p1 p2 z).1 = 0 then ((m_X0_minusWeeks p1 p2 z).2.1).toInt64 else v) = ((m_X0_minusWeeks p1 p2 z).2.1).toInt64 := if_pos h0
    rw [hv9]
    exact w_iret hx hb hr hlocks (by rw [h0]; rfl) hP5 hO5 hS4 ⟨Nat.le_of_ble_eq_true rfl, Nat.le_of_ble_eq_true rfl⟩ dL_minusWeeks_27
noncomputable abbrev wsL_minusMonths : List Cond := .codeWith yL_minusMonths cL_minusMonths 5 (some .int) [(0, 11, 14, 19), (0, 11, 18, 21), (0, 11, 22, 23)] :: GL
theorem kw_L_minusMonths : (∃ ws', wsL_minusMonths = Cond.codeWith yL_minusMonths cL_minusMonths 5 (some .int) [(0, 11, 14, 19), (0, 11, 18, 21), (0, 11, 22, 23)] :: ws') ∧ yL_minusMonths.cls ≠ "java/lang/invoke/MethodHandle" ∧ yL_minusMonths.cls ≠ "java/lang/invoke/VarHandle" ∧ (parseMethodDescriptor yL_minusMonths.desc).map (fun d => d.parameters.length) = some 4 := ⟨⟨_, rfl⟩, by decide +kernel, by decide +kernel, by decide +kernel⟩
set_option maxRecDepth 100000 in
set_option maxHeartbeats 4000000 in
theorem k_L_minusMonths (l : Launch) (hl9 : l.stackTraces = false) (k : Kx) (a : CA) (hD : cD k a) (o : Nat) (p1 : Int32) (p2 : Int32) (z : CS) (v : Int64) (hres : (m_X0_minusMonths p1 p2 z).1 = 0 ∨ (m_X0_minusMonths p1 p2 z).1 = 1 ∨ (m_X0_minusMonths p1 p2 z).1 = 2 ∨ (m_X0_minusMonths p1 p2 z).1 = 3) : wM l k a o yL_minusMonths wsL_minusMonths 11 253 4 24 [.ref a.1, .int p1, .int p2, .ref o] z v (wk 1 2 ((m_X0_minusMonths p1 p2 z).1)) ((m_X0_minusMonths p1 p2 z).2.2) (if (m_X0_minusMonths p1 p2 z).1 = 0 then ((m_X0_minusMonths p1 p2 z).2.1).toInt64 else v) := by
  intro sz
  refine va_MetW (cc := cL_minusMonths) (maxL := 5) (ret := (some .int)) (hh := [(0, 11, 14, 19), (0, 11, 18, 21), (0, 11, 22, 23)]) (by decide) rfl ?_
  intro p e s m args below meth c s₁ B hml hv
  obtain ⟨rfl, rfl, hGx, hP, hO, hob, hoa⟩ := hv
  have hx := B.exec
  have hb := B.bytes
  have hr := B.returns
  have hts := atoms_spec (ws := wsL_minusMonths) B.pre
  have hown : s.vm.findClass RL = some m.cls := findClass_of_methodNamed B.named
  have hlocks := B.notSynchronized
  have htg : ∀ w ∈ GL, w.before _ s = true := fun w h => hts w (List.mem_cons_of_mem _ h)
  have hC : CallFix p m c cL_minusMonths 5 s _ wsL_minusMonths RL := ⟨hx, hb, hml, hown, hts⟩
  have htab : c.exceptionTable.toList = tableOf [(0, 11, 14, 19), (0, 11, 18, 21), (0, 11, 22, 23)] := vx_table (x := yL_minusMonths) B (hts _ List.mem_cons_self)
  have hl := lv_entry ([.ref a.1, .int p1, .int p2, .ref o]) (n := 5) (Nat.le_of_ble_eq_true rfl)
  rw [lg_entry_eq]
  generalize (lg_sl ([.ref a.1, .int p1, .int p2, .ref o]) ++ List.replicate (5 - (lg_sl ([.ref a.1, .int p1, .int p2, .ref o])).length) Slot.unset).toArray = ls at hl ⊢
  have hl : lv_has ls 5 [(0, .ref a.1), (1, .int p1), (2, .int p2), (3, .ref o)] := hl
  refine lv_aload_n hx hb dL_minusMonths_0 rfl (lv_at hl 3 rfl) ?_
  refine lv_aload_n hx hb dL_minusMonths_1 rfl (lv_at hl 0 rfl) ?_
  refine lv_iload_n hx hb dL_minusMonths_2 rfl (lv_at hl 1 rfl) ?_
  refine lv_iload_n hx hb dL_minusMonths_3 rfl (lv_at hl 2 rfl) ?_
  refine cv_V hC hGx hD (c_X0_minusMonths l hl9 k a hD p1 p2 z) (gV w_802 w_803 w_804 w_26 w_805) kk_X0_minusMonths rfl ⟨Nat.le_of_ble_eq_true rfl, Nat.le_of_ble_eq_true rfl⟩ ⟨Nat.le_of_ble_eq_true rfl, Nat.le_of_ble_eq_true rfl⟩ hP va_S.rf hl.1 rfl rfl (Nat.le_of_ble_eq_true rfl) dL_minusMonths_4 (fun h0 ce q H1 locs1 hP1 hS1 hce hcv hcl => ?_) (fun h0 H1 locs1 hP1 hS1 => ?_)
  · obtain ⟨hO1, hS2⟩ := w_pre (z := z) hO hoa hS1
    rcases hres with h | h | h | h
    · exact absurd h h0
    · have hcl : s.vm.findClass "java/lang/IndexOutOfBoundsException" = some ce.cls := by rw [h] at hcl; exact hcl
      refine vx_catch (E := "java/lang/IndexOutOfBoundsException") hown [] ⟨0, 11, 14, 19⟩ [⟨0, 11, 18, 21⟩, ⟨0, 11, 22, 23⟩] (by rw [htab]; rfl) (List.forall_mem_nil _) (by decide) (by decide) (htg _ w_622) (gx_cast hGx (by decide)) hce hcv hcl ?_
      refine lv_astore (lv' := [(4, .ref q), (0, .ref a.1), (1, .int p1), (2, .int p2), (3, .ref o)]) hx hb dL_minusMonths_14 hl (by decide) rfl (fun ls hl => ?_)
      refine lv_iconst (v := 1) hx hb dL_minusMonths_16 (by decide) ?_
      have hv9 : (if (m_X0_minusMonths p1 p2 z).1 = 0 then ((m_X0_minusMonths p1 p2 z).2.1).toInt64 else v) = v := if_neg h0
      rw [hv9]
      exact w_iret hx hb hr hlocks (by rw [h]; rfl) hP1 hO1 hS2 ⟨Nat.le_of_ble_eq_true rfl, Nat.le_of_ble_eq_true rfl⟩ dL_minusMonths_17
    · have hcl : s.vm.findClass "java/lang/IllegalArgumentException" = some ce.cls := by rw [h] at hcl; exact hcl
      refine vx_catch (E := "java/lang/IllegalArgumentException") hown [⟨0, 11, 14, 19⟩] ⟨0, 11, 18, 21⟩ [⟨0, 11, 22, 23⟩] (by rw [htab]; rfl) (List.forall_mem_cons.mpr ⟨Or.inr ⟨by decide, "java/lang/IndexOutOfBoundsException", (htg _ w_622), gx_nc hGx (q := ("java/lang/IllegalArgumentException", "java/lang/IndexOutOfBoundsException")) (by decide)⟩, (List.forall_mem_nil _)⟩) (by decide) (by decide) (htg _ w_623) (gx_cast hGx (by decide)) hce hcv hcl ?_
      refine lv_astore (lv' := [(4, .ref q), (0, .ref a.1), (1, .int p1), (2, .int p2), (3, .ref o)]) hx hb dL_minusMonths_18 hl (by decide) rfl (fun ls hl => ?_)
      refine lv_iconst (v := 2) hx hb dL_minusMonths_20 (by decide) ?_
      have hv9 : (if (m_X0_minusMonths p1 p2 z).1 = 0 then ((m_X0_minusMonths p1 p2 z).2.1).toInt64 else v) = v := if_neg h0
      rw [hv9]
      exact w_iret hx hb hr hlocks (by rw [h]; rfl) hP1 hO1 hS2 ⟨Nat.le_of_ble_eq_true rfl, Nat.le_of_ble_eq_true rfl⟩ dL_minusMonths_21
    · have hcl : s.vm.findClass "java/lang/IllegalStateException" = some ce.cls := by rw [h] at hcl; exact hcl
      refine vx_catch (E := "java/lang/IllegalStateException") hown [⟨0, 11, 14, 19⟩, ⟨0, 11, 18, 21⟩] ⟨0, 11, 22, 23⟩ [] (by rw [htab]; rfl) (List.forall_mem_cons.mpr ⟨Or.inr ⟨by decide, "java/lang/IndexOutOfBoundsException", (htg _ w_622), gx_nc hGx (q := ("java/lang/IllegalStateException", "java/lang/IndexOutOfBoundsException")) (by decide)⟩, (List.forall_mem_cons.mpr ⟨Or.inr ⟨by decide, "java/lang/IllegalArgumentException", (htg _ w_623), gx_nc hGx (q := ("java/lang/IllegalStateException", "java/lang/IllegalArgumentException")) (by decide)⟩, (List.forall_mem_nil _)⟩)⟩) (by decide) (by decide) (htg _ w_624) (gx_cast hGx (by decide)) hce hcv hcl ?_
      refine lv_astore (lv' := [(4, .ref q), (0, .ref a.1), (1, .int p1), (2, .int p2), (3, .ref o)]) hx hb dL_minusMonths_22 hl (by decide) rfl (fun ls hl => ?_)
      refine lv_iconst (v := 3) hx hb dL_minusMonths_24 (by decide) ?_
      have hv9 : (if (m_X0_minusMonths p1 p2 z).1 = 0 then ((m_X0_minusMonths p1 p2 z).2.1).toInt64 else v) = v := if_neg h0
      rw [hv9]
      exact w_iret hx hb hr hlocks (by rw [h]; rfl) hP1 hO1 hS2 ⟨Nat.le_of_ble_eq_true rfl, Nat.le_of_ble_eq_true rfl⟩ dL_minusMonths_25
  · obtain ⟨hO1, hS2⟩ := w_pre (z := z) hO hoa hS1
    obtain ⟨w9, hO1⟩ := hO1
    have hP3 := va_P.app (w1 := [(o, _)]) hO1 hP1
    have hD3 := w_D (n := s.heap.size) (x := .inr (3, [.long v, w9])) (z := (m_X0_minusMonths p1 p2 z).2.2) hD hoa
    refine lv_i2l hx hb dL_minusMonths_7 rfl ?_
    refine va_putN (D := kD k) (ci := 3) (v := .long (((m_X0_minusMonths p1 p2 z).2.1).toInt64)) (ty := .long) (C := RX1) (T := TX1) (N := 2) (A := wA a o s.heap.size) (H0 := s.heap) hx hb htg inG_X1 tyX1 tyX1_ok nmX1 hown hGx.1 hP3 hD3 hS2 0 rfl rfl 0 (by decide) (va_Nw.use rfl (gx_nf hGx (q := ("DatesoloLaw", 13, "DatesoloLaw$Out", "n", "J", "DatesoloLaw")) (by decide +kernel))) (fun _ h9 => h9) rfl (by decide +kernel) rfl rfl (Nat.le_of_ble_eq_true rfl) dL_minusMonths_8 (fun H4 locs4 hP4 _ hS4 => ?_)
    refine lv_goto (tgt := 26) hx hb dL_minusMonths_11 (by decide) ?_
    refine lv_iconst (v := 0) hx hb dL_minusMonths_26 (by decide) ?_
    have hP5 : va_P (kD k) vwCl (cW k a ((m_X0_minusMonths p1 p2 z).2.2)) H4 := hP4.sub [1, 2, 3, 4, 5] rfl
    have hO5 : oP k o (((m_X0_minusMonths p1 p2 z).2.1).toInt64) H4 := ⟨w9, hP4.sub [0] rfl⟩
    have hv9 : (if (m_X0_minusMonths p1 p2 z).1 = 0 then ((m_X0_minusMonths p1 p2 z).2.1).toInt64 else v) = ((m_X0_minusMonths p1 p2 z).2.1).toInt64 := if_pos h0
    rw [hv9]
    exact w_iret hx hb hr hlocks (by rw [h0]; rfl) hP5 hO5 hS4 ⟨Nat.le_of_ble_eq_true rfl, Nat.le_of_ble_eq_true rfl⟩ dL_minusMonths_27
noncomputable abbrev wsL_minusYears : List Cond := .codeWith yL_minusYears cL_minusYears 5 (some .int) [(0, 11, 14, 19), (0, 11, 18, 21), (0, 11, 22, 23)] :: GL
theorem kw_L_minusYears : (∃ ws', wsL_minusYears = Cond.codeWith yL_minusYears cL_minusYears 5 (some .int) [(0, 11, 14, 19), (0, 11, 18, 21), (0, 11, 22, 23)] :: ws') ∧ yL_minusYears.cls ≠ "java/lang/invoke/MethodHandle" ∧ yL_minusYears.cls ≠ "java/lang/invoke/VarHandle" ∧ (parseMethodDescriptor yL_minusYears.desc).map (fun d => d.parameters.length) = some 4 := ⟨⟨_, rfl⟩, by decide +kernel, by decide +kernel, by decide +kernel⟩
set_option maxRecDepth 100000 in
set_option maxHeartbeats 4000000 in
theorem k_L_minusYears (l : Launch) (hl9 : l.stackTraces = false) (k : Kx) (a : CA) (hD : cD k a) (o : Nat) (p1 : Int32) (p2 : Int32) (z : CS) (v : Int64) (hres : (m_X0_minusYears p1 p2 z).1 = 0 ∨ (m_X0_minusYears p1 p2 z).1 = 1 ∨ (m_X0_minusYears p1 p2 z).1 = 2 ∨ (m_X0_minusYears p1 p2 z).1 = 3) : wM l k a o yL_minusYears wsL_minusYears 11 253 4 24 [.ref a.1, .int p1, .int p2, .ref o] z v (wk 1 2 ((m_X0_minusYears p1 p2 z).1)) ((m_X0_minusYears p1 p2 z).2.2) (if (m_X0_minusYears p1 p2 z).1 = 0 then ((m_X0_minusYears p1 p2 z).2.1).toInt64 else v) := by
  intro sz
  refine va_MetW (cc := cL_minusYears) (maxL := 5) (ret := (some .int)) (hh := [(0, 11, 14, 19), (0, 11, 18, 21), (0, 11, 22, 23)]) (by decide) rfl ?_
  intro p e s m args below meth c s₁ B hml hv
  obtain ⟨rfl, rfl, hGx, hP, hO, hob, hoa⟩ := hv
  have hx := B.exec
  have hb := B.bytes
  have hr := B.returns
  have hts := atoms_spec (ws := wsL_minusYears) B.pre
  have hown : s.vm.findClass RL = some m.cls := findClass_of_methodNamed B.named
  have hlocks := B.notSynchronized
  have htg : ∀ w ∈ GL, w.before _ s = true := fun w h => hts w (List.mem_cons_of_mem _ h)
  have hC : CallFix p m c cL_minusYears 5 s _ wsL_minusYears RL := ⟨hx, hb, hml, hown, hts⟩
  have htab : c.exceptionTable.toList = tableOf [(0, 11, 14, 19), (0, 11, 18, 21), (0, 11, 22, 23)] := vx_table (x := yL_minusYears) B (hts _ List.mem_cons_self)
  have hl := lv_entry ([.ref a.1, .int p1, .int p2, .ref o]) (n := 5) (Nat.le_of_ble_eq_true rfl)
  rw [lg_entry_eq]
  generalize (lg_sl ([.ref a.1, .int p1, .int p2, .ref o]) ++ List.replicate (5 - (lg_sl ([.ref a.1, .int p1, .int p2, .ref o])).length) Slot.unset).toArray = ls at hl ⊢
  have hl : lv_has ls 5 [(0, .ref a.1), (1, .int p1), (2, .int p2), (3, .ref o)] := hl
  refine lv_aload_n hx hb dL_minusYears_0 rfl (lv_at hl 3 rfl) ?_
  refine lv_aload_n hx hb dL_minusYears_1 rfl (lv_at hl 0 rfl) ?_
  refine lv_iload_n hx hb dL_minusYears_2 rfl (lv_at hl 1 rfl) ?_
  refine lv_iload_n hx hb dL_minusYears_3 rfl (lv_at hl 2 rfl) ?_
  refine cv_V hC hGx hD (c_X0_minusYears l hl9 k a hD p1 p2 z) (gV w_809 w_810 w_811 w_26 w_812) kk_X0_minusYears rfl ⟨Nat.le_of_ble_eq_true rfl, Nat.le_of_ble_eq_true rfl⟩ ⟨Nat.le_of_ble_eq_true rfl, Nat.le_of_ble_eq_true rfl⟩ hP va_S.rf hl.1 rfl rfl (Nat.le_of_ble_eq_true rfl) dL_minusYears_4 (fun h0 ce q H1 locs1 hP1 hS1 hce hcv hcl => ?_) (fun h0 H1 locs1 hP1 hS1 => ?_)
  · obtain ⟨hO1, hS2⟩ := w_pre (z := z) hO hoa hS1
    rcases hres with h | h | h | h
    · exact absurd h h0
    · have hcl : s.vm.findClass "java/lang/IndexOutOfBoundsException" = some ce.cls := by rw [h] at hcl; exact hcl
      refine vx_catch (E := "java/lang/IndexOutOfBoundsException") hown [] ⟨0, 11, 14, 19⟩ [⟨0, 11, 18, 21⟩, ⟨0, 11, 22, 23⟩] (by rw [htab]; rfl) (List.forall_mem_nil _) (by decide) (by decide) (htg _ w_622) (gx_cast hGx (by decide)) hce hcv hcl ?_
      refine lv_astore (lv' := [(4, .ref q), (0, .ref a.1), (1, .int p1), (2, .int p2), (3, .ref o)]) hx hb dL_minusYears_14 hl (by decide) rfl (fun ls hl => ?_)
      refine lv_iconst (v := 1) hx hb dL_minusYears_16 (by decide) ?_
      have hv9 : (if (m_X0_minusYears p1 p2 z).1 = 0 then ((m_X0_minusYears p1 p2 z).2.1).toInt64 else v) = v := if_neg h0
      rw [hv9]
      exact w_iret hx hb hr hlocks (by rw [h]; rfl) hP1 hO1 hS2 ⟨Nat.le_of_ble_eq_true rfl, Nat.le_of_ble_eq_true rfl⟩ dL_minusYears_17
    · have hcl : s.vm.findClass "java/lang/IllegalArgumentException" = some ce.cls := by rw [h] at hcl; exact hcl
      refine vx_catch (E := "java/lang/IllegalArgumentException") hown [⟨0, 11, 14, 19⟩] ⟨0, 11, 18, 21⟩ [⟨0, 11, 22, 23⟩] (by rw [htab]; rfl) (List.forall_mem_cons.mpr ⟨Or.inr ⟨by decide, "java/lang/IndexOutOfBoundsException", (htg _ w_622), gx_nc hGx (q := ("java/lang/IllegalArgumentException", "java/lang/IndexOutOfBoundsException")) (by decide)⟩, (List.forall_mem_nil _)⟩) (by decide) (by decide) (htg _ w_623) (gx_cast hGx (by decide)) hce hcv hcl ?_
      refine lv_astore (lv' := [(4, .ref q), (0, .ref a.1), (1, .int p1), (2, .int p2), (3, .ref o)]) hx hb dL_minusYears_18 hl (by decide) rfl (fun ls hl => ?_)
      refine lv_iconst (v := 2) hx hb dL_minusYears_20 (by decide) ?_
      have hv9 : (if (m_X0_minusYears p1 p2 z).1 = 0 then ((m_X0_minusYears p1 p2 z).2.1).toInt64 else v) = v := if_neg h0
      rw [hv9]
      exact w_iret hx hb hr hlocks (by rw [h]; rfl) hP1 hO1 hS2 ⟨Nat.le_of_ble_eq_true rfl, Nat.le_of_ble_eq_true rfl⟩ dL_minusYears_21
    · have hcl : s.vm.findClass "java/lang/IllegalStateException" = some ce.cls := by rw [h] at hcl; exact hcl
      refine vx_catch (E := "java/lang/IllegalStateException") hown [⟨0, 11, 14, 19⟩, ⟨0, 11, 18, 21⟩] ⟨0, 11, 22, 23⟩ [] (by rw [htab]; rfl) (List.forall_mem_cons.mpr ⟨Or.inr ⟨by decide, "java/lang/IndexOutOfBoundsException", (htg _ w_622), gx_nc hGx (q := ("java/lang/IllegalStateException", "java/lang/IndexOutOfBoundsException")) (by decide)⟩, (List.forall_mem_cons.mpr ⟨Or.inr ⟨by decide, "java/lang/IllegalArgumentException", (htg _ w_623), gx_nc hGx (q := ("java/lang/IllegalStateException", "java/lang/IllegalArgumentException")) (by decide)⟩, (List.forall_mem_nil _)⟩)⟩) (by decide) (by decide) (htg _ w_624) (gx_cast hGx (by decide)) hce hcv hcl ?_
      refine lv_astore (lv' := [(4, .ref q), (0, .ref a.1), (1, .int p1), (2, .int p2), (3, .ref o)]) hx hb dL_minusYears_22 hl (by decide) rfl (fun ls hl => ?_)
      refine lv_iconst (v := 3) hx hb dL_minusYears_24 (by decide) ?_
      have hv9 : (if (m_X0_minusYears p1 p2 z).1 = 0 then ((m_X0_minusYears p1 p2 z).2.1).toInt64 else v) = v := if_neg h0
      rw [hv9]
      exact w_iret hx hb hr hlocks (by rw [h]; rfl) hP1 hO1 hS2 ⟨Nat.le_of_ble_eq_true rfl, Nat.le_of_ble_eq_true rfl⟩ dL_minusYears_25
  · obtain ⟨hO1, hS2⟩ := w_pre (z := z) hO hoa hS1
    obtain ⟨w9, hO1⟩ := hO1
    have hP3 := va_P.app (w1 := [(o, _)]) hO1 hP1
    have hD3 := w_D (n := s.heap.size) (x := .inr (3, [.long v, w9])) (z := (m_X0_minusYears p1 p2 z).2.2) hD hoa
    refine lv_i2l hx hb dL_minusYears_7 rfl ?_
    refine va_putN (D := kD k) (ci := 3) (v := .long (((m_X0_minusYears p1 p2 z).2.1).toInt64)) (ty := .long) (C := RX1) (T := TX1) (N := 2) (A := wA a o s.heap.size) (H0 := s.heap) hx hb htg inG_X1 tyX1 tyX1_ok nmX1 hown hGx.1 hP3 hD3 hS2 0 rfl rfl 0 (by decide) (va_Nw.use rfl (gx_nf hGx (q := ("DatesoloLaw", 13, "DatesoloLaw$Out", "n", "J", "DatesoloLaw")) (by decide +kernel))) (fun _ h9 => h9) rfl (by decide +kernel) rfl rfl (Nat.le_of_ble_eq_true rfl) dL_minusYears_8 (fun H4 locs4 hP4 _ hS4 => ?_)
    refine lv_goto (tgt := 26) hx hb dL_minusYears_11 (by decide) ?_
    refine lv_iconst (v := 0) hx hb dL_minusYears_26 (by decide) ?_
    have hP5 : va_P (kD k) vwCl (cW k a ((m_X0_minusYears p1 p2 z).2.2)) H4 := hP4.sub [1, 2, 3, 4, 5] rfl
    have hO5 : oP k o (((m_X0_minusYears p1 p2 z).2.1).toInt64) H4 := ⟨w9, hP4.sub [0] rfl⟩
    have hv9 : (if (m_X0_minusYears p1 p2 z).1 = 0 then ((m_X0_minusYears p1 p2 z).2.1).toInt64 else v) = ((m_X0_minusYears p1 p2 z).2.1).toInt64 := if_pos h0
    rw [hv9]
    exact w_iret hx hb hr hlocks (by rw [h0]; rfl) hP5 hO5 hS4 ⟨Nat.le_of_ble_eq_true rfl, Nat.le_of_ble_eq_true rfl⟩ dL_minusYears_27
noncomputable abbrev wsL_span : List Cond := .codeWith yL_span cL_span 7 (some .int) [(0, 15, 18, 19), (0, 15, 22, 21)] :: GL
theorem kw_L_span : (∃ ws', wsL_span = Cond.codeWith yL_span cL_span 7 (some .int) [(0, 15, 18, 19), (0, 15, 22, 21)] :: ws') ∧ yL_span.cls ≠ "java/lang/invoke/MethodHandle" ∧ yL_span.cls ≠ "java/lang/invoke/VarHandle" ∧ (parseMethodDescriptor yL_span.desc).map (fun d => d.parameters.length) = some 6 := ⟨⟨_, rfl⟩, by decide +kernel, by decide +kernel, by decide +kernel⟩
set_option maxRecDepth 100000 in
set_option maxHeartbeats 4000000 in
theorem k_L_span (l : Launch) (hl9 : l.stackTraces = false) (k : Kx) (a : CA) (hD : cD k a) (o : Nat) (p1 : Int32) (p2 : Int32) (p3 : Int32) (p4 : Int32) (z : CS) (v : Int64) (hres : (m_X0_span p1 p2 p3 p4 z).1 = 0 ∨ (m_X0_span p1 p2 p3 p4 z).1 = 1 ∨ (m_X0_span p1 p2 p3 p4 z).1 = 2) : wM l k a o yL_span wsL_span 10 232 6 36 [.ref a.1, .int p1, .int p2, .int p3, .int p4, .ref o] z v (wk 1 2 ((m_X0_span p1 p2 p3 p4 z).1)) ((m_X0_span p1 p2 p3 p4 z).2.2) (if (m_X0_span p1 p2 p3 p4 z).1 = 0 then ((m_X0_span p1 p2 p3 p4 z).2.1).toInt64 else v) := by
  intro sz
  refine va_MetW (cc := cL_span) (maxL := 7) (ret := (some .int)) (hh := [(0, 15, 18, 19), (0, 15, 22, 21)]) (by decide) rfl ?_
  intro p e s m args below meth c s₁ B hml hv
  obtain ⟨rfl, rfl, hGx, hP, hO, hob, hoa⟩ := hv
  have hx := B.exec
  have hb := B.bytes
  have hr := B.returns
  have hts := atoms_spec (ws := wsL_span) B.pre
  have hown : s.vm.findClass RL = some m.cls := findClass_of_methodNamed B.named
  have hlocks := B.notSynchronized
  have htg : ∀ w ∈ GL, w.before _ s = true := fun w h => hts w (List.mem_cons_of_mem _ h)
  have hC : CallFix p m c cL_span 7 s _ wsL_span RL := ⟨hx, hb, hml, hown, hts⟩
  have htab : c.exceptionTable.toList = tableOf [(0, 15, 18, 19), (0, 15, 22, 21)] := vx_table (x := yL_span) B (hts _ List.mem_cons_self)
  have hl := lv_entry ([.ref a.1, .int p1, .int p2, .int p3, .int p4, .ref o]) (n := 7) (Nat.le_of_ble_eq_true rfl)
  rw [lg_entry_eq]
  generalize (lg_sl ([.ref a.1, .int p1, .int p2, .int p3, .int p4, .ref o]) ++ List.replicate (7 - (lg_sl ([.ref a.1, .int p1, .int p2, .int p3, .int p4, .ref o])).length) Slot.unset).toArray = ls at hl ⊢
  have hl : lv_has ls 7 [(0, .ref a.1), (1, .int p1), (2, .int p2), (3, .int p3), (4, .int p4), (5, .ref o)] := hl
  refine lv_aload hx hb dL_span_0 (lv_at hl 5 rfl) ?_
  refine lv_aload_n hx hb dL_span_2 rfl (lv_at hl 0 rfl) ?_
  refine lv_iload_n hx hb dL_span_3 rfl (lv_at hl 1 rfl) ?_
  refine lv_iload_n hx hb dL_span_4 rfl (lv_at hl 2 rfl) ?_
  refine lv_iload_n hx hb dL_span_5 rfl (lv_at hl 3 rfl) ?_
  refine lv_iload hx hb dL_span_6 (lv_at hl 4 rfl) ?_
  refine cv_V hC hGx hD (c_X0_span l hl9 k a hD p1 p2 p3 p4 z) (gV w_816 w_817 w_818 w_26 w_819) kk_X0_span rfl ⟨Nat.le_of_ble_eq_true rfl, Nat.le_of_ble_eq_true rfl⟩ ⟨Nat.le_of_ble_eq_true rfl, Nat.le_of_ble_eq_true rfl⟩ hP va_S.rf hl.1 rfl rfl (Nat.le_of_ble_eq_true rfl) dL_span_8 (fun h0 ce q H1 locs1 hP1 hS1 hce hcv hcl => ?_) (fun h0 H1 locs1 hP1 hS1 => ?_)
  · obtain ⟨hO1, hS2⟩ := w_pre (z := z) hO hoa hS1
    rcases hres with h | h | h
    · exact absurd h h0
    · have hcl : s.vm.findClass "java/lang/IndexOutOfBoundsException" = some ce.cls := by rw [h] at hcl; exact hcl
      refine vx_catch (E := "java/lang/IndexOutOfBoundsException") hown [] ⟨0, 15, 18, 19⟩ [⟨0, 15, 22, 21⟩] (by rw [htab]; rfl) (List.forall_mem_nil _) (by decide) (by decide) (htg _ w_622) (gx_cast hGx (by decide)) hce hcv hcl ?_
      refine lv_astore (lv' := [(6, .ref q), (0, .ref a.1), (1, .int p1), (2, .int p2), (3, .int p3), (4, .int p4), (5, .ref o)]) hx hb dL_span_18 hl (by decide) rfl (fun ls hl => ?_)
      refine lv_iconst (v := 1) hx hb dL_span_20 (by decide) ?_
      have hv9 : (if (m_X0_span p1 p2 p3 p4 z).1 = 0 then ((m_X0_span p1 p2 p3 p4 z).2.1).toInt64 else v) = v := if_neg h0
      rw [hv9]
      exact w_iret hx hb hr hlocks (by rw [h]; rfl) hP1 hO1 hS2 ⟨Nat.le_of_ble_eq_true rfl, Nat.le_of_ble_eq_true rfl⟩ dL_span_21
    · have hcl : s.vm.findClass "java/lang/IllegalArgumentException" = some ce.cls := by rw [h] at hcl; exact hcl
      refine vx_catch (E := "java/lang/IllegalArgumentException") hown [⟨0, 15, 18, 19⟩] ⟨0, 15, 22, 21⟩ [] (by rw [htab]; rfl) (List.forall_mem_cons.mpr ⟨Or.inr ⟨by decide, "java/lang/IndexOutOfBoundsException", (htg _ w_622), gx_nc hGx (q := ("java/lang/IllegalArgumentException", "java/lang/IndexOutOfBoundsException")) (by decide)⟩, (List.forall_mem_nil _)⟩) (by decide) (by decide) (htg _ w_623) (gx_cast hGx (by decide)) hce hcv hcl ?_
      refine lv_astore (lv' := [(6, .ref q), (0, .ref a.1), (1, .int p1), (2, .int p2), (3, .int p3), (4, .int p4), (5, .ref o)]) hx hb dL_span_22 hl (by decide) rfl (fun ls hl => ?_)
      refine lv_iconst (v := 2) hx hb dL_span_24 (by decide) ?_
      have hv9 : (if (m_X0_span p1 p2 p3 p4 z).1 = 0 then ((m_X0_span p1 p2 p3 p4 z).2.1).toInt64 else v) = v := if_neg h0
      rw [hv9]
      exact w_iret hx hb hr hlocks (by rw [h]; rfl) hP1 hO1 hS2 ⟨Nat.le_of_ble_eq_true rfl, Nat.le_of_ble_eq_true rfl⟩ dL_span_25
  · obtain ⟨hO1, hS2⟩ := w_pre (z := z) hO hoa hS1
    obtain ⟨w9, hO1⟩ := hO1
    have hP3 := va_P.app (w1 := [(o, _)]) hO1 hP1
    have hD3 := w_D (n := s.heap.size) (x := .inr (3, [.long v, w9])) (z := (m_X0_span p1 p2 p3 p4 z).2.2) hD hoa
    refine lv_i2l hx hb dL_span_11 rfl ?_
    refine va_putN (D := kD k) (ci := 3) (v := .long (((m_X0_span p1 p2 p3 p4 z).2.1).toInt64)) (ty := .long) (C := RX1) (T := TX1) (N := 2) (A := wA a o s.heap.size) (H0 := s.heap) hx hb htg inG_X1 tyX1 tyX1_ok nmX1 hown hGx.1 hP3 hD3 hS2 0 rfl rfl 0 (by decide) (va_Nw.use rfl (gx_nf hGx (q := ("DatesoloLaw", 13, "DatesoloLaw$Out", "n", "J", "DatesoloLaw")) (by decide +kernel))) (fun _ h9 => h9) rfl (by decide +kernel) rfl rfl (Nat.le_of_ble_eq_true rfl) dL_span_12 (fun H4 locs4 hP4 _ hS4 => ?_)
    refine lv_goto (tgt := 26) hx hb dL_span_15 (by decide) ?_
    refine lv_iconst (v := 0) hx hb dL_span_26 (by decide) ?_
    have hP5 : va_P (kD k) vwCl (cW k a ((m_X0_span p1 p2 p3 p4 z).2.2)) H4 := hP4.sub [1, 2, 3, 4, 5] rfl
    have hO5 : oP k o (((m_X0_span p1 p2 p3 p4 z).2.1).toInt64) H4 := ⟨w9, hP4.sub [0] rfl⟩
    have hv9 : (if (m_X0_span p1 p2 p3 p4 z).1 = 0 then ((m_X0_span p1 p2 p3 p4 z).2.1).toInt64 else v) = ((m_X0_span p1 p2 p3 p4 z).2.1).toInt64 := if_pos h0
    rw [hv9]
    exact w_iret hx hb hr hlocks (by rw [h0]; rfl) hP5 hO5 hS4 ⟨Nat.le_of_ble_eq_true rfl, Nat.le_of_ble_eq_true rfl⟩ dL_span_27
noncomputable abbrev wsL_until : List Cond := .codeWith yL_until cL_until 6 (some .int) [(0, 13, 16, 19), (0, 13, 20, 23)] :: GL
theorem kw_L_until : (∃ ws', wsL_until = Cond.codeWith yL_until cL_until 6 (some .int) [(0, 13, 16, 19), (0, 13, 20, 23)] :: ws') ∧ yL_until.cls ≠ "java/lang/invoke/MethodHandle" ∧ yL_until.cls ≠ "java/lang/invoke/VarHandle" ∧ (parseMethodDescriptor yL_until.desc).map (fun d => d.parameters.length) = some 5 := ⟨⟨_, rfl⟩, by decide +kernel, by decide +kernel, by decide +kernel⟩
set_option maxRecDepth 100000 in
set_option maxHeartbeats 4000000 in
theorem k_L_until (l : Launch) (hl9 : l.stackTraces = false) (k : Kx) (a : CA) (hD : cD k a) (o : Nat) (p1 : Int32) (p2 : Int32) (p3 : Int32) (z : CS) (v : Int64) (hres : (m_X0_until p1 p2 p3 z).1 = 0 ∨ (m_X0_until p1 p2 p3 z).1 = 1 ∨ (m_X0_until p1 p2 p3 z).1 = 3) : wM l k a o yL_until wsL_until 10 237 5 30 [.ref a.1, .int p1, .int p2, .int p3, .ref o] z v (wk 1 3 ((m_X0_until p1 p2 p3 z).1)) ((m_X0_until p1 p2 p3 z).2.2) (if (m_X0_until p1 p2 p3 z).1 = 0 then ((m_X0_until p1 p2 p3 z).2.1).toInt64 else v) := by
  intro sz
  refine va_MetW (cc := cL_until) (maxL := 6) (ret := (some .int)) (hh := [(0, 13, 16, 19), (0, 13, 20, 23)]) (by decide) rfl ?_
  intro p e s m args below meth c s₁ B hml hv
  obtain ⟨rfl, rfl, hGx, hP, hO, hob, hoa⟩ := hv
  have hx := B.exec
  have hb := B.bytes
  have hr := B.returns
  have hts := atoms_spec (ws := wsL_until) B.pre
  have hown : s.vm.findClass RL = some m.cls := findClass_of_methodNamed B.named
  have hlocks := B.notSynchronized
  have htg : ∀ w ∈ GL, w.before _ s = true := fun w h => hts w (List.mem_cons_of_mem _ h)
  have hC : CallFix p m c cL_until 6 s _ wsL_until RL := ⟨hx, hb, hml, hown, hts⟩
  have htab : c.exceptionTable.toList = tableOf [(0, 13, 16, 19), (0, 13, 20, 23)] := vx_table (x := yL_until) B (hts _ List.mem_cons_self)
  have hl := lv_entry ([.ref a.1, .int p1, .int p2, .int p3, .ref o]) (n := 6) (Nat.le_of_ble_eq_true rfl)
  rw [lg_entry_eq]
  generalize (lg_sl ([.ref a.1, .int p1, .int p2, .int p3, .ref o]) ++ List.replicate (6 - (lg_sl ([.ref a.1, .int p1, .int p2, .int p3, .ref o])).length) Slot.unset).toArray = ls at hl ⊢
  have hl : lv_has ls 6 [(0, .ref a.1), (1, .int p1), (2, .int p2), (3, .int p3), (4, .ref o)] := hl
  refine lv_aload hx hb dL_until_0 (lv_at hl 4 rfl) ?_
  refine lv_aload_n hx hb dL_until_2 rfl (lv_at hl 0 rfl) ?_
  refine lv_iload_n hx hb dL_until_3 rfl (lv_at hl 1 rfl) ?_
  refine lv_iload_n hx hb dL_until_4 rfl (lv_at hl 2 rfl) ?_
  refine lv_iload_n hx hb dL_until_5 rfl (lv_at hl 3 rfl) ?_
  refine cv_V hC hGx hD (c_X0_until l hl9 k a hD p1 p2 p3 z) (gV w_831 w_832 w_833 w_26 w_834) kk_X0_until rfl ⟨Nat.le_of_ble_eq_true rfl, Nat.le_of_ble_eq_true rfl⟩ ⟨Nat.le_of_ble_eq_true rfl, Nat.le_of_ble_eq_true rfl⟩ hP va_S.rf hl.1 rfl rfl (Nat.le_of_ble_eq_true rfl) dL_until_6 (fun h0 ce q H1 locs1 hP1 hS1 hce hcv hcl => ?_) (fun h0 H1 locs1 hP1 hS1 => ?_)
  · obtain ⟨hO1, hS2⟩ := w_pre (z := z) hO hoa hS1
    rcases hres with h | h | h
    · exact absurd h h0
    · have hcl : s.vm.findClass "java/lang/IndexOutOfBoundsException" = some ce.cls := by rw [h] at hcl; exact hcl
      refine vx_catch (E := "java/lang/IndexOutOfBoundsException") hown [] ⟨0, 13, 16, 19⟩ [⟨0, 13, 20, 23⟩] (by rw [htab]; rfl) (List.forall_mem_nil _) (by decide) (by decide) (htg _ w_622) (gx_cast hGx (by decide)) hce hcv hcl ?_
      refine lv_astore (lv' := [(5, .ref q), (0, .ref a.1), (1, .int p1), (2, .int p2), (3, .int p3), (4, .ref o)]) hx hb dL_until_16 hl (by decide) rfl (fun ls hl => ?_)
      refine lv_iconst (v := 1) hx hb dL_until_18 (by decide) ?_
      have hv9 : (if (m_X0_until p1 p2 p3 z).1 = 0 then ((m_X0_until p1 p2 p3 z).2.1).toInt64 else v) = v := if_neg h0
      rw [hv9]
      exact w_iret hx hb hr hlocks (by rw [h]; rfl) hP1 hO1 hS2 ⟨Nat.le_of_ble_eq_true rfl, Nat.le_of_ble_eq_true rfl⟩ dL_until_19
    · have hcl : s.vm.findClass "java/lang/IllegalStateException" = some ce.cls := by rw [h] at hcl; exact hcl
      refine vx_catch (E := "java/lang/IllegalStateException") hown [⟨0, 13, 16, 19⟩] ⟨0, 13, 20, 23⟩ [] (by rw [htab]; rfl) (List.forall_mem_cons.mpr ⟨Or.inr ⟨by decide, "java/lang/IndexOutOfBoundsException", (htg _ w_622), gx_nc hGx (q := ("java/lang/IllegalStateException", "java/lang/IndexOutOfBoundsException")) (by decide)⟩, (List.forall_mem_nil _)⟩) (by decide) (by decide) (htg _ w_624) (gx_cast hGx (by decide)) hce hcv hcl ?_
      refine lv_astore (lv' := [(5, .ref q), (0, .ref a.1), (1, .int p1), (2, .int p2), (3, .int p3), (4, .ref o)]) hx hb dL_until_20 hl (by decide) rfl (fun ls hl => ?_)
      refine lv_iconst (v := 2) hx hb dL_until_22 (by decide) ?_
      have hv9 : (if (m_X0_until p1 p2 p3 z).1 = 0 then ((m_X0_until p1 p2 p3 z).2.1).toInt64 else v) = v := if_neg h0
      rw [hv9]
      exact w_iret hx hb hr hlocks (by rw [h]; rfl) hP1 hO1 hS2 ⟨Nat.le_of_ble_eq_true rfl, Nat.le_of_ble_eq_true rfl⟩ dL_until_23
  · obtain ⟨hO1, hS2⟩ := w_pre (z := z) hO hoa hS1
    obtain ⟨w9, hO1⟩ := hO1
    have hP3 := va_P.app (w1 := [(o, _)]) hO1 hP1
    have hD3 := w_D (n := s.heap.size) (x := .inr (3, [.long v, w9])) (z := (m_X0_until p1 p2 p3 z).2.2) hD hoa
    refine lv_i2l hx hb dL_until_9 rfl ?_
    refine va_putN (D := kD k) (ci := 3) (v := .long (((m_X0_until p1 p2 p3 z).2.1).toInt64)) (ty := .long) (C := RX1) (T := TX1) (N := 2) (A := wA a o s.heap.size) (H0 := s.heap) hx hb htg inG_X1 tyX1 tyX1_ok nmX1 hown hGx.1 hP3 hD3 hS2 0 rfl rfl 0 (by decide) (va_Nw.use rfl (gx_nf hGx (q := ("DatesoloLaw", 13, "DatesoloLaw$Out", "n", "J", "DatesoloLaw")) (by decide +kernel))) (fun _ h9 => h9) rfl (by decide +kernel) rfl rfl (Nat.le_of_ble_eq_true rfl) dL_until_10 (fun H4 locs4 hP4 _ hS4 => ?_)
    refine lv_goto (tgt := 24) hx hb dL_until_13 (by decide) ?_
    refine lv_iconst (v := 0) hx hb dL_until_24 (by decide) ?_
    have hP5 : va_P (kD k) vwCl (cW k a ((m_X0_until p1 p2 p3 z).2.2)) H4 := hP4.sub [1, 2, 3, 4, 5] rfl
    have hO5 : oP k o (((m_X0_until p1 p2 p3 z).2.1).toInt64) H4 := ⟨w9, hP4.sub [0] rfl⟩
    have hv9 : (if (m_X0_until p1 p2 p3 z).1 = 0 then ((m_X0_until p1 p2 p3 z).2.1).toInt64 else v) = ((m_X0_until p1 p2 p3 z).2.1).toInt64 := if_pos h0
    rw [hv9]
    exact w_iret hx hb hr hlocks (by rw [h0]; rfl) hP5 hO5 hS4 ⟨Nat.le_of_ble_eq_true rfl, Nat.le_of_ble_eq_true rfl⟩ dL_until_25
noncomputable abbrev wsL_addSpan : List Cond := .codeWith yL_addSpan cL_addSpan 5 (some .int) [(0, 11, 14, 19), (0, 11, 18, 23)] :: GL
theorem kw_L_addSpan : (∃ ws', wsL_addSpan = Cond.codeWith yL_addSpan cL_addSpan 5 (some .int) [(0, 11, 14, 19), (0, 11, 18, 23)] :: ws') ∧ yL_addSpan.cls ≠ "java/lang/invoke/MethodHandle" ∧ yL_addSpan.cls ≠ "java/lang/invoke/VarHandle" ∧ (parseMethodDescriptor yL_addSpan.desc).map (fun d => d.parameters.length) = some 4 := ⟨⟨_, rfl⟩, by decide +kernel, by decide +kernel, by decide +kernel⟩
set_option maxRecDepth 100000 in
set_option maxHeartbeats 4000000 in
theorem k_L_addSpan (l : Launch) (hl9 : l.stackTraces = false) (k : Kx) (a : CA) (hD : cD k a) (o : Nat) (p1 : Int32) (p2 : Int32) (z : CS) (v : Int64) (hres : (m_X0_addSpan p1 p2 z).1 = 0 ∨ (m_X0_addSpan p1 p2 z).1 = 1 ∨ (m_X0_addSpan p1 p2 z).1 = 3) : wM l k a o yL_addSpan wsL_addSpan 10 233 6 36 [.ref a.1, .int p1, .int p2, .ref o] z v (wk 1 3 ((m_X0_addSpan p1 p2 z).1)) ((m_X0_addSpan p1 p2 z).2.2) (if (m_X0_addSpan p1 p2 z).1 = 0 then ((m_X0_addSpan p1 p2 z).2.1).toInt64 else v) := by
  intro sz
  refine va_MetW (cc := cL_addSpan) (maxL := 5) (ret := (some .int)) (hh := [(0, 11, 14, 19), (0, 11, 18, 23)]) (by decide) rfl ?_
  intro p e s m args below meth c s₁ B hml hv
  obtain ⟨rfl, rfl, hGx, hP, hO, hob, hoa⟩ := hv
  have hx := B.exec
  have hb := B.bytes
  have hr := B.returns
  have hts := atoms_spec (ws := wsL_addSpan) B.pre
  have hown : s.vm.findClass RL = some m.cls := findClass_of_methodNamed B.named
  have hlocks := B.notSynchronized
  have htg : ∀ w ∈ GL, w.before _ s = true := fun w h => hts w (List.mem_cons_of_mem _ h)
  have hC : CallFix p m c cL_addSpan 5 s _ wsL_addSpan RL := ⟨hx, hb, hml, hown, hts⟩
  have htab : c.exceptionTable.toList = tableOf [(0, 11, 14, 19), (0, 11, 18, 23)] := vx_table (x := yL_addSpan) B (hts _ List.mem_cons_self)
  have hl := lv_entry ([.ref a.1, .int p1, .int p2, .ref o]) (n := 5) (Nat.le_of_ble_eq_true rfl)
  rw [lg_entry_eq]
  generalize (lg_sl ([.ref a.1, .int p1, .int p2, .ref o]) ++ List.replicate (5 - (lg_sl ([.ref a.1, .int p1, .int p2, .ref o])).length) Slot.unset).toArray = ls at hl ⊢
  have hl : lv_has ls 5 [(0, .ref a.1), (1, .int p1), (2, .int p2), (3, .ref o)] := hl
  refine lv_aload_n hx hb dL_addSpan_0 rfl (lv_at hl 3 rfl) ?_
  refine lv_aload_n hx hb dL_addSpan_1 rfl (lv_at hl 0 rfl) ?_
  refine lv_iload_n hx hb dL_addSpan_2 rfl (lv_at hl 1 rfl) ?_
  refine lv_iload_n hx hb dL_addSpan_3 rfl (lv_at hl 2 rfl) ?_
  refine cv_V hC hGx hD (c_X0_addSpan l hl9 k a hD p1 p2 z) (gV w_841 w_842 w_843 w_26 w_844) kk_X0_addSpan rfl ⟨Nat.le_of_ble_eq_true rfl, Nat.le_of_ble_eq_true rfl⟩ ⟨Nat.le_of_ble_eq_true rfl, Nat.le_of_ble_eq_true rfl⟩ hP va_S.rf hl.1 rfl rfl (Nat.le_of_ble_eq_true rfl) dL_addSpan_4 (fun h0 ce q H1 locs1 hP1 hS1 hce hcv hcl => ?_) (fun h0 H1 locs1 hP1 hS1 => ?_)
  · obtain ⟨hO1, hS2⟩ := w_pre (z := z) hO hoa hS1
    rcases hres with h | h | h
    · exact absurd h h0
    · have hcl : s.vm.findClass "java/lang/IndexOutOfBoundsException" = some ce.cls := by rw [h] at hcl; exact hcl
      refine vx_catch (E := "java/lang/IndexOutOfBoundsException") hown [] ⟨0, 11, 14, 19⟩ [⟨0, 11, 18, 23⟩] (by rw [htab]; rfl) (List.forall_mem_nil _) (by decide) (by decide) (htg _ w_622) (gx_cast hGx (by decide)) hce hcv hcl ?_
      refine lv_astore (lv' := [(4, .ref q), (0, .ref a.1), (1, .int p1), (2, .int p2), (3, .ref o)]) hx hb dL_addSpan_14 hl (by decide) rfl (fun ls hl => ?_)
      refine lv_iconst (v := 1) hx hb dL_addSpan_16 (by decide) ?_
      have hv9 : (if (m_X0_addSpan p1 p2 z).1 = 0 then ((m_X0_addSpan p1 p2 z).2.1).toInt64 else v) = v := if_neg h0
      rw [hv9]
      exact w_iret hx hb hr hlocks (by rw [h]; rfl) hP1 hO1 hS2 ⟨Nat.le_of_ble_eq_true rfl, Nat.le_of_ble_eq_true rfl⟩ dL_addSpan_17
    · have hcl : s.vm.findClass "java/lang/IllegalStateException" = some ce.cls := by rw [h] at hcl; exact hcl
      refine vx_catch (E := "java/lang/IllegalStateException") hown [⟨0, 11, 14, 19⟩] ⟨0, 11, 18, 23⟩ [] (by rw [htab]; rfl) (List.forall_mem_cons.mpr ⟨Or.inr ⟨by decide, "java/lang/IndexOutOfBoundsException", (htg _ w_622), gx_nc hGx (q := ("java/lang/IllegalStateException", "java/lang/IndexOutOfBoundsException")) (by decide)⟩, (List.forall_mem_nil _)⟩) (by decide) (by decide) (htg _ w_624) (gx_cast hGx (by decide)) hce hcv hcl ?_
      refine lv_astore (lv' := [(4, .ref q), (0, .ref a.1), (1, .int p1), (2, .int p2), (3, .ref o)]) hx hb dL_addSpan_18 hl (by decide) rfl (fun ls hl => ?_)
      refine lv_iconst (v := 2) hx hb dL_addSpan_20 (by decide) ?_
      have hv9 : (if (m_X0_addSpan p1 p2 z).1 = 0 then ((m_X0_addSpan p1 p2 z).2.1).toInt64 else v) = v := if_neg h0
      rw [hv9]
      exact w_iret hx hb hr hlocks (by rw [h]; rfl) hP1 hO1 hS2 ⟨Nat.le_of_ble_eq_true rfl, Nat.le_of_ble_eq_true rfl⟩ dL_addSpan_21
  · obtain ⟨hO1, hS2⟩ := w_pre (z := z) hO hoa hS1
    obtain ⟨w9, hO1⟩ := hO1
    have hP3 := va_P.app (w1 := [(o, _)]) hO1 hP1
    have hD3 := w_D (n := s.heap.size) (x := .inr (3, [.long v, w9])) (z := (m_X0_addSpan p1 p2 z).2.2) hD hoa
    refine lv_i2l hx hb dL_addSpan_7 rfl ?_
    refine va_putN (D := kD k) (ci := 3) (v := .long (((m_X0_addSpan p1 p2 z).2.1).toInt64)) (ty := .long) (C := RX1) (T := TX1) (N := 2) (A := wA a o s.heap.size) (H0 := s.heap) hx hb htg inG_X1 tyX1 tyX1_ok nmX1 hown hGx.1 hP3 hD3 hS2 0 rfl rfl 0 (by decide) (va_Nw.use rfl (gx_nf hGx (q := ("DatesoloLaw", 13, "DatesoloLaw$Out", "n", "J", "DatesoloLaw")) (by decide +kernel))) (fun _ h9 => h9) rfl (by decide +kernel) rfl rfl (Nat.le_of_ble_eq_true rfl) dL_addSpan_8 (fun H4 locs4 hP4 _ hS4 => ?_)
    refine lv_goto (tgt := 22) hx hb dL_addSpan_11 (by decide) ?_
    refine lv_iconst (v := 0) hx hb dL_addSpan_22 (by decide) ?_
    have hP5 : va_P (kD k) vwCl (cW k a ((m_X0_addSpan p1 p2 z).2.2)) H4 := hP4.sub [1, 2, 3, 4, 5] rfl
    have hO5 : oP k o (((m_X0_addSpan p1 p2 z).2.1).toInt64) H4 := ⟨w9, hP4.sub [0] rfl⟩
    have hv9 : (if (m_X0_addSpan p1 p2 z).1 = 0 then ((m_X0_addSpan p1 p2 z).2.1).toInt64 else v) = ((m_X0_addSpan p1 p2 z).2.1).toInt64 := if_pos h0
    rw [hv9]
    exact w_iret hx hb hr hlocks (by rw [h0]; rfl) hP5 hO5 hS4 ⟨Nat.le_of_ble_eq_true rfl, Nat.le_of_ble_eq_true rfl⟩ dL_addSpan_23
noncomputable abbrev wsL_ofSpan : List Cond := .codeWith yL_ofSpan cL_ofSpan 5 (some .int) [(0, 11, 14, 19), (0, 11, 18, 21)] :: GL
theorem kw_L_ofSpan : (∃ ws', wsL_ofSpan = Cond.codeWith yL_ofSpan cL_ofSpan 5 (some .int) [(0, 11, 14, 19), (0, 11, 18, 21)] :: ws') ∧ yL_ofSpan.cls ≠ "java/lang/invoke/MethodHandle" ∧ yL_ofSpan.cls ≠ "java/lang/invoke/VarHandle" ∧ (parseMethodDescriptor yL_ofSpan.desc).map (fun d => d.parameters.length) = some 4 := ⟨⟨_, rfl⟩, by decide +kernel, by decide +kernel, by decide +kernel⟩
set_option maxRecDepth 100000 in
set_option maxHeartbeats 4000000 in
theorem k_L_ofSpan (l : Launch) (hl9 : l.stackTraces = false) (k : Kx) (a : CA) (hD : cD k a) (o : Nat) (p1 : Int32) (p2 : Int32) (z : CS) (v : Int64) (hres : (m_X0_ofSpan p1 p2 z).1 = 0 ∨ (m_X0_ofSpan p1 p2 z).1 = 1 ∨ (m_X0_ofSpan p1 p2 z).1 = 2) : wM l k a o yL_ofSpan wsL_ofSpan 8 184 2 12 [.ref a.1, .int p1, .int p2, .ref o] z v (wk 1 2 ((m_X0_ofSpan p1 p2 z).1)) (z) (if (m_X0_ofSpan p1 p2 z).1 = 0 then ((m_X0_ofSpan p1 p2 z).2).toInt64 else v) := by
  intro sz
  refine va_MetW (cc := cL_ofSpan) (maxL := 5) (ret := (some .int)) (hh := [(0, 11, 14, 19), (0, 11, 18, 21)]) (by decide) rfl ?_
  intro p e s m args below meth c s₁ B hml hv
  obtain ⟨rfl, rfl, hGx, hP, hO, hob, hoa⟩ := hv
  have hx := B.exec
  have hb := B.bytes
  have hr := B.returns
  have hts := atoms_spec (ws := wsL_ofSpan) B.pre
  have hown : s.vm.findClass RL = some m.cls := findClass_of_methodNamed B.named
  have hlocks := B.notSynchronized
  have htg : ∀ w ∈ GL, w.before _ s = true := fun w h => hts w (List.mem_cons_of_mem _ h)
  have hC : CallFix p m c cL_ofSpan 5 s _ wsL_ofSpan RL := ⟨hx, hb, hml, hown, hts⟩
  have htab : c.exceptionTable.toList = tableOf [(0, 11, 14, 19), (0, 11, 18, 21)] := vx_table (x := yL_ofSpan) B (hts _ List.mem_cons_self)
  have hl := lv_entry ([.ref a.1, .int p1, .int p2, .ref o]) (n := 5) (Nat.le_of_ble_eq_true rfl)
  rw [lg_entry_eq]
  generalize (lg_sl ([.ref a.1, .int p1, .int p2, .ref o]) ++ List.replicate (5 - (lg_sl ([.ref a.1, .int p1, .int p2, .ref o])).length) Slot.unset).toArray = ls at hl ⊢
  have hl : lv_has ls 5 [(0, .ref a.1), (1, .int p1), (2, .int p2), (3, .ref o)] := hl
  refine lv_aload_n hx hb dL_ofSpan_0 rfl (lv_at hl 3 rfl) ?_
  refine lv_aload_n hx hb dL_ofSpan_1 rfl (lv_at hl 0 rfl) ?_
  refine lv_iload_n hx hb dL_ofSpan_2 rfl (lv_at hl 1 rfl) ?_
  refine lv_iload_n hx hb dL_ofSpan_3 rfl (lv_at hl 2 rfl) ?_
  refine cv_V hC hGx hD (c_X0_ofSpan l hl9 k a hD p1 p2 z) (gV w_851 w_578 w_579 w_26 w_580) kk_X0_ofSpan rfl ⟨Nat.le_of_ble_eq_true rfl, Nat.le_of_ble_eq_true rfl⟩ ⟨Nat.le_of_ble_eq_true rfl, Nat.le_of_ble_eq_true rfl⟩ hP va_S.rf hl.1 rfl rfl (Nat.le_of_ble_eq_true rfl) dL_ofSpan_4 (fun h0 ce q H1 locs1 hP1 hS1 hce hcv hcl => ?_) (fun h0 H1 locs1 hP1 hS1 => ?_)
  · obtain ⟨hO1, hS2⟩ := w_pre (z := z) hO hoa hS1
    rcases hres with h | h | h
    · exact absurd h h0
    · have hcl : s.vm.findClass "java/lang/IndexOutOfBoundsException" = some ce.cls := by rw [h] at hcl; exact hcl
      refine vx_catch (E := "java/lang/IndexOutOfBoundsException") hown [] ⟨0, 11, 14, 19⟩ [⟨0, 11, 18, 21⟩] (by rw [htab]; rfl) (List.forall_mem_nil _) (by decide) (by decide) (htg _ w_622) (gx_cast hGx (by decide)) hce hcv hcl ?_
      refine lv_astore (lv' := [(4, .ref q), (0, .ref a.1), (1, .int p1), (2, .int p2), (3, .ref o)]) hx hb dL_ofSpan_14 hl (by decide) rfl (fun ls hl => ?_)
      refine lv_iconst (v := 1) hx hb dL_ofSpan_16 (by decide) ?_
      have hv9 : (if (m_X0_ofSpan p1 p2 z).1 = 0 then ((m_X0_ofSpan p1 p2 z).2).toInt64 else v) = v := if_neg h0
      rw [hv9]
      exact w_iret hx hb hr hlocks (by rw [h]; rfl) hP1 hO1 hS2 ⟨Nat.le_of_ble_eq_true rfl, Nat.le_of_ble_eq_true rfl⟩ dL_ofSpan_17
    · have hcl : s.vm.findClass "java/lang/IllegalArgumentException" = some ce.cls := by rw [h] at hcl; exact hcl
      refine vx_catch (E := "java/lang/IllegalArgumentException") hown [⟨0, 11, 14, 19⟩] ⟨0, 11, 18, 21⟩ [] (by rw [htab]; rfl) (List.forall_mem_cons.mpr ⟨Or.inr ⟨by decide, "java/lang/IndexOutOfBoundsException", (htg _ w_622), gx_nc hGx (q := ("java/lang/IllegalArgumentException", "java/lang/IndexOutOfBoundsException")) (by decide)⟩, (List.forall_mem_nil _)⟩) (by decide) (by decide) (htg _ w_623) (gx_cast hGx (by decide)) hce hcv hcl ?_
      refine lv_astore (lv' := [(4, .ref q), (0, .ref a.1), (1, .int p1), (2, .int p2), (3, .ref o)]) hx hb dL_ofSpan_18 hl (by decide) rfl (fun ls hl => ?_)
      refine lv_iconst (v := 2) hx hb dL_ofSpan_20 (by decide) ?_
      have hv9 : (if (m_X0_ofSpan p1 p2 z).1 = 0 then ((m_X0_ofSpan p1 p2 z).2).toInt64 else v) = v := if_neg h0
      rw [hv9]
      exact w_iret hx hb hr hlocks (by rw [h]; rfl) hP1 hO1 hS2 ⟨Nat.le_of_ble_eq_true rfl, Nat.le_of_ble_eq_true rfl⟩ dL_ofSpan_21
  · obtain ⟨hO1, hS2⟩ := w_pre (z := z) hO hoa hS1
    obtain ⟨w9, hO1⟩ := hO1
    have hP3 := va_P.app (w1 := [(o, _)]) hO1 hP1
    have hD3 := w_D (n := s.heap.size) (x := .inr (3, [.long v, w9])) (z := z) hD hoa
    refine lv_i2l hx hb dL_ofSpan_7 rfl ?_
    refine va_putN (D := kD k) (ci := 3) (v := .long (((m_X0_ofSpan p1 p2 z).2).toInt64)) (ty := .long) (C := RX1) (T := TX1) (N := 2) (A := wA a o s.heap.size) (H0 := s.heap) hx hb htg inG_X1 tyX1 tyX1_ok nmX1 hown hGx.1 hP3 hD3 hS2 0 rfl rfl 0 (by decide) (va_Nw.use rfl (gx_nf hGx (q := ("DatesoloLaw", 13, "DatesoloLaw$Out", "n", "J", "DatesoloLaw")) (by decide +kernel))) (fun _ h9 => h9) rfl (by decide +kernel) rfl rfl (Nat.le_of_ble_eq_true rfl) dL_ofSpan_8 (fun H4 locs4 hP4 _ hS4 => ?_)
    refine lv_goto (tgt := 22) hx hb dL_ofSpan_11 (by decide) ?_
    refine lv_iconst (v := 0) hx hb dL_ofSpan_22 (by decide) ?_
    have hP5 : va_P (kD k) vwCl (cW k a (z)) H4 := hP4.sub [1, 2, 3, 4, 5] rfl
    have hO5 : oP k o (((m_X0_ofSpan p1 p2 z).2).toInt64) H4 := ⟨w9, hP4.sub [0] rfl⟩
    have hv9 : (if (m_X0_ofSpan p1 p2 z).1 = 0 then ((m_X0_ofSpan p1 p2 z).2).toInt64 else v) = ((m_X0_ofSpan p1 p2 z).2).toInt64 := if_pos h0
    rw [hv9]
    exact w_iret hx hb hr hlocks (by rw [h0]; rfl) hP5 hO5 hS4 ⟨Nat.le_of_ble_eq_true rfl, Nat.le_of_ble_eq_true rfl⟩ dL_ofSpan_23
noncomputable abbrev wsL_plusSpan : List Cond := .codeWith yL_plusSpan cL_plusSpan 5 (some .int) [(0, 11, 14, 19), (0, 11, 18, 23)] :: GL
theorem kw_L_plusSpan : (∃ ws', wsL_plusSpan = Cond.codeWith yL_plusSpan cL_plusSpan 5 (some .int) [(0, 11, 14, 19), (0, 11, 18, 23)] :: ws') ∧ yL_plusSpan.cls ≠ "java/lang/invoke/MethodHandle" ∧ yL_plusSpan.cls ≠ "java/lang/invoke/VarHandle" ∧ (parseMethodDescriptor yL_plusSpan.desc).map (fun d => d.parameters.length) = some 4 := ⟨⟨_, rfl⟩, by decide +kernel, by decide +kernel, by decide +kernel⟩
set_option maxRecDepth 100000 in
set_option maxHeartbeats 4000000 in
theorem k_L_plusSpan (l : Launch) (hl9 : l.stackTraces = false) (k : Kx) (a : CA) (hD : cD k a) (o : Nat) (p1 : Int32) (p2 : Int32) (z : CS) (v : Int64) (hres : (m_X0_plusSpan p1 p2 z).1 = 0 ∨ (m_X0_plusSpan p1 p2 z).1 = 1 ∨ (m_X0_plusSpan p1 p2 z).1 = 3) : wM l k a o yL_plusSpan wsL_plusSpan 10 230 5 30 [.ref a.1, .int p1, .int p2, .ref o] z v (wk 1 3 ((m_X0_plusSpan p1 p2 z).1)) ((m_X0_plusSpan p1 p2 z).2.2) (if (m_X0_plusSpan p1 p2 z).1 = 0 then ((m_X0_plusSpan p1 p2 z).2.1).toInt64 else v) := by
  intro sz
  refine va_MetW (cc := cL_plusSpan) (maxL := 5) (ret := (some .int)) (hh := [(0, 11, 14, 19), (0, 11, 18, 23)]) (by decide) rfl ?_
  intro p e s m args below meth c s₁ B hml hv
  obtain ⟨rfl, rfl, hGx, hP, hO, hob, hoa⟩ := hv
  have hx := B.exec
  have hb := B.bytes
  have hr := B.returns
  have hts := atoms_spec (ws := wsL_plusSpan) B.pre
  have hown : s.vm.findClass RL = some m.cls := findClass_of_methodNamed B.named
  have hlocks := B.notSynchronized
  have htg : ∀ w ∈ GL, w.before _ s = true := fun w h => hts w (List.mem_cons_of_mem _ h)
  have hC : CallFix p m c cL_plusSpan 5 s _ wsL_plusSpan RL := ⟨hx, hb, hml, hown, hts⟩
  have htab : c.exceptionTable.toList = tableOf [(0, 11, 14, 19), (0, 11, 18, 23)] := vx_table (x := yL_plusSpan) B (hts _ List.mem_cons_self)
  have hl := lv_entry ([.ref a.1, .int p1, .int p2, .ref o]) (n := 5) (Nat.le_of_ble_eq_true rfl)
  rw [lg_entry_eq]
  generalize (lg_sl ([.ref a.1, .int p1, .int p2, .ref o]) ++ List.replicate (5 - (lg_sl ([.ref a.1, .int p1, .int p2, .ref o])).length) Slot.unset).toArray = ls at hl ⊢
  have hl : lv_has ls 5 [(0, .ref a.1), (1, .int p1), (2, .int p2), (3, .ref o)] := hl
  refine lv_aload_n hx hb dL_plusSpan_0 rfl (lv_at hl 3 rfl) ?_
  refine lv_aload_n hx hb dL_plusSpan_1 rfl (lv_at hl 0 rfl) ?_
  refine lv_iload_n hx hb dL_plusSpan_2 rfl (lv_at hl 1 rfl) ?_
  refine lv_iload_n hx hb dL_plusSpan_3 rfl (lv_at hl 2 rfl) ?_
  refine cv_V hC hGx hD (c_X0_plusSpan l hl9 k a hD p1 p2 z) (gV w_855 w_856 w_857 w_26 w_858) kk_X0_plusSpan rfl ⟨Nat.le_of_ble_eq_true rfl, Nat.le_of_ble_eq_true rfl⟩ ⟨Nat.le_of_ble_eq_true rfl, Nat.le_of_ble_eq_true rfl⟩ hP va_S.rf hl.1 rfl rfl (Nat.le_of_ble_eq_true rfl) dL_plusSpan_4 (fun h0 ce q H1 locs1 hP1 hS1 hce hcv hcl => ?_) (fun h0 H1 locs1 hP1 hS1 => ?_)
  · obtain ⟨hO1, hS2⟩ := w_pre (z := z) hO hoa hS1
    rcases hres with h | h | h
    · exact absurd h h0
    · have hcl : s.vm.findClass "java/lang/IndexOutOfBoundsException" = some ce.cls := by rw [h] at hcl; exact hcl
      refine vx_catch (E := "java/lang/IndexOutOfBoundsException") hown [] ⟨0, 11, 14, 19⟩ [⟨0, 11, 18, 23⟩] (by rw [htab]; rfl) (List.forall_mem_nil _) (by decide) (by decide) (htg _ w_622) (gx_cast hGx (by decide)) hce hcv hcl ?_
      refine lv_astore (lv' := [(4, .ref q), (0, .ref a.1), (1, .int p1), (2, .int p2), (3, .ref o)]) hx hb dL_plusSpan_14 hl (by decide) rfl (fun ls hl => ?_)
      refine lv_iconst (v := 1) hx hb dL_plusSpan_16 (by decide) ?_
      have hv9 : (if (m_X0_plusSpan p1 p2 z).1 = 0 then ((m_X0_plusSpan p1 p2 z).2.1).toInt64 else v) = v := if_neg h0
      rw [hv9]
      exact w_iret hx hb hr hlocks (by rw [h]; rfl) hP1 hO1 hS2 ⟨Nat.le_of_ble_eq_true rfl, Nat.le_of_ble_eq_true rfl⟩ dL_plusSpan_17
    · have hcl : s.vm.findClass "java/lang/IllegalStateException" = some ce.cls := by rw [h] at hcl; exact hcl
      refine vx_catch (E := "java/lang/IllegalStateException") hown [⟨0, 11, 14, 19⟩] ⟨0, 11, 18, 23⟩ [] (by rw [htab]; rfl) (List.forall_mem_cons.mpr ⟨Or.inr ⟨by decide, "java/lang/IndexOutOfBoundsException", (htg _ w_622), gx_nc hGx (q := ("java/lang/IllegalStateException", "java/lang/IndexOutOfBoundsException")) (by decide)⟩, (List.forall_mem_nil _)⟩) (by decide) (by decide) (htg _ w_624) (gx_cast hGx (by decide)) hce hcv hcl ?_
      refine lv_astore (lv' := [(4, .ref q), (0, .ref a.1), (1, .int p1), (2, .int p2), (3, .ref o)]) hx hb dL_plusSpan_18 hl (by decide) rfl (fun ls hl => ?_)
      refine lv_iconst (v := 2) hx hb dL_plusSpan_20 (by decide) ?_
      have hv9 : (if (m_X0_plusSpan p1 p2 z).1 = 0 then ((m_X0_plusSpan p1 p2 z).2.1).toInt64 else v) = v := if_neg h0
      rw [hv9]
      exact w_iret hx hb hr hlocks (by rw [h]; rfl) hP1 hO1 hS2 ⟨Nat.le_of_ble_eq_true rfl, Nat.le_of_ble_eq_true rfl⟩ dL_plusSpan_21
  · obtain ⟨hO1, hS2⟩ := w_pre (z := z) hO hoa hS1
    obtain ⟨w9, hO1⟩ := hO1
    have hP3 := va_P.app (w1 := [(o, _)]) hO1 hP1
    have hD3 := w_D (n := s.heap.size) (x := .inr (3, [.long v, w9])) (z := (m_X0_plusSpan p1 p2 z).2.2) hD hoa
    refine lv_i2l hx hb dL_plusSpan_7 rfl ?_
    refine va_putN (D := kD k) (ci := 3) (v := .long (((m_X0_plusSpan p1 p2 z).2.1).toInt64)) (ty := .long) (C := RX1) (T := TX1) (N := 2) (A := wA a o s.heap.size) (H0 := s.heap) hx hb htg inG_X1 tyX1 tyX1_ok nmX1 hown hGx.1 hP3 hD3 hS2 0 rfl rfl 0 (by decide) (va_Nw.use rfl (gx_nf hGx (q := ("DatesoloLaw", 13, "DatesoloLaw$Out", "n", "J", "DatesoloLaw")) (by decide +kernel))) (fun _ h9 => h9) rfl (by decide +kernel) rfl rfl (Nat.le_of_ble_eq_true rfl) dL_plusSpan_8 (fun H4 locs4 hP4 _ hS4 => ?_)
    refine lv_goto (tgt := 22) hx hb dL_plusSpan_11 (by decide) ?_
    refine lv_iconst (v := 0) hx hb dL_plusSpan_22 (by decide) ?_
    have hP5 : va_P (kD k) vwCl (cW k a ((m_X0_plusSpan p1 p2 z).2.2)) H4 := hP4.sub [1, 2, 3, 4, 5] rfl
    have hO5 : oP k o (((m_X0_plusSpan p1 p2 z).2.1).toInt64) H4 := ⟨w9, hP4.sub [0] rfl⟩
    have hv9 : (if (m_X0_plusSpan p1 p2 z).1 = 0 then ((m_X0_plusSpan p1 p2 z).2.1).toInt64 else v) = ((m_X0_plusSpan p1 p2 z).2.1).toInt64 := if_pos h0
    rw [hv9]
    exact w_iret hx hb hr hlocks (by rw [h0]; rfl) hP5 hO5 hS4 ⟨Nat.le_of_ble_eq_true rfl, Nat.le_of_ble_eq_true rfl⟩ dL_plusSpan_23
