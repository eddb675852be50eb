noncomputable abbrev wsL_minusSpan : List Cond := .codeWith yL_minusSpan cL_minusSpan 5 (some .int) [(0, 11, 14, 19), (0, 11, 18, 23)] :: GL
theorem kw_L_minusSpan : (∃ ws', wsL_minusSpan = Cond.codeWith yL_minusSpan cL_minusSpan 5 (some .int) [(0, 11, 14, 19), (0, 11, 18, 23)] :: ws') ∧ yL_minusSpan.cls ≠ "java/lang/invoke/MethodHandle" ∧ yL_minusSpan.cls ≠ "java/lang/invoke/VarHandle" ∧ (parseMethodDescriptor yL_minusSpan.desc).map (fun d => d.parameters.length) = some 4 := ⟨⟨_, rfl⟩, by decide +kernel, by decide +kernel, by decide +kernel⟩
set_option maxRecDepth 100000 in
set_option maxHeartbeats 4000000 in
theorem k_L_minusSpan (l : Launch) (hl9 : l.stackTraces = false) (k : Kx) (a : CA) (hD : cD k a) (o : Nat) (p1 : Int32) (p2 : Int32) (z : CS) (v : Int64) (hres : (m_X0_minusSpan p1 p2 z).1 = 0 ∨ (m_X0_minusSpan p1 p2 z).1 = 1 ∨ (m_X0_minusSpan p1 p2 z).1 = 3) : wM l k a o yL_minusSpan wsL_minusSpan 10 230 5 30 [.ref a.1, .int p1, .int p2, .ref o] z v (wk 1 3 ((m_X0_minusSpan p1 p2 z).1)) ((m_X0_minusSpan p1 p2 z).2.2) (if (m_X0_minusSpan p1 p2 z).1 = 0 then ((m_X0_minusSpan p1 p2 z).2.1).toInt64 else v) := by
  intro sz
  refine va_MetW (cc := cL_minusSpan) (maxL := 5) (ret := (some .int)) (hh := [(0, 11, 14, 19), (0, 11, 18, 23)]) (by decide) rfl ?_
  intro p e s m args below meth c s₁ B hml hv
  obtain ⟨rfl, rfl, hGx, hP, hO, hob, hoa⟩ := hv
  have hx := B.exec
  have hb := B.bytes
  have hr := B.returns
  have hts := atoms_spec (ws := wsL_minusSpan) B.pre
  have hown : s.vm.findClass RL = some m.cls := findClass_of_methodNamed B.named
  have hlocks := B.notSynchronized
  have htg : ∀ w ∈ GL, w.before _ s = true := fun w h => hts w (List.mem_cons_of_mem _ h)
  have hC : CallFix p m c cL_minusSpan 5 s _ wsL_minusSpan RL := ⟨hx, hb, hml, hown, hts⟩
  have htab : c.exceptionTable.toList = tableOf [(0, 11, 14, 19), (0, 11, 18, 23)] := vx_table (x := yL_minusSpan) B (hts _ List.mem_cons_self)
  have hl := lv_entry ([.ref a.1, .int p1, .int p2, .ref o]) (n := 5) (Nat.le_of_ble_eq_true rfl)
  rw [lg_entry_eq]
  generalize (lg_sl ([.ref a.1, .int p1, .int p2, .ref o]) ++ List.replicate (5 - (lg_sl ([.ref a.1, .int p1, .int p2, .ref o])).length) Slot.unset).toArray = ls at hl ⊢
  have hl : lv_has ls 5 [(0, .ref a.1), (1, .int p1), (2, .int p2), (3, .ref o)] := hl
  refine lv_aload_n hx hb dL_minusSpan_0 rfl (lv_at hl 3 rfl) ?_
  refine lv_aload_n hx hb dL_minusSpan_1 rfl (lv_at hl 0 rfl) ?_
  refine lv_iload_n hx hb dL_minusSpan_2 rfl (lv_at hl 1 rfl) ?_
  refine lv_iload_n hx hb dL_minusSpan_3 rfl (lv_at hl 2 rfl) ?_
  refine cv_V hC hGx hD (c_X0_minusSpan l hl9 k a hD p1 p2 z) (gV w_862 w_863 w_864 w_26 w_865) kk_X0_minusSpan rfl ⟨Nat.le_of_ble_eq_true rfl, Nat.le_of_ble_eq_true rfl⟩ ⟨Nat.le_of_ble_eq_true rfl, Nat.le_of_ble_eq_true rfl⟩ hP va_S.rf hl.1 rfl rfl (Nat.le_of_ble_eq_true rfl) dL_minusSpan_4 (fun h0 ce q H1 locs1 hP1 hS1 hce hcv hcl => ?_) (fun h0 H1 locs1 hP1 hS1 => ?_)
  · obtain ⟨hO1, hS2⟩ := w_pre (z := z) hO hoa hS1
    rcases hres with h | h | h
    · exact absurd h h0
    · have hcl : s.vm.findClass "java/lang/IndexOutOfBoundsException" = some ce.cls := by rw [h] at hcl; exact hcl
      refine vx_catch (E := "java/lang/IndexOutOfBoundsException") hown [] ⟨0, 11, 14, 19⟩ [⟨0, 11, 18, 23⟩] (by rw [htab]; rfl) (List.forall_mem_nil _) (by decide) (by decide) (htg _ w_622) (gx_cast hGx (by decide)) hce hcv hcl ?_
      refine lv_astore (lv' := [(4, .ref q), (0, .ref a.1), (1, .int p1), (2, .int p2), (3, .ref o)]) hx hb dL_minusSpan_14 hl (by decide) rfl (fun ls hl => ?_)
      refine lv_iconst (v := 1) hx hb dL_minusSpan_16 (by decide) ?_
      have hv9 : (if (m_X0_minusSpan p1 p2 z).1 = 0 then ((m_X0_minusSpan p1 p2 z).2.1).toInt64 else v) = v := if_neg h0
      rw [hv9]
      exact w_iret hx hb hr hlocks (by rw [h]; rfl) hP1 hO1 hS2 ⟨Nat.le_of_ble_eq_true rfl, Nat.le_of_ble_eq_true rfl⟩ dL_minusSpan_17
    · have hcl : s.vm.findClass "java/lang/IllegalStateException" = some ce.cls := by rw [h] at hcl; exact hcl
      refine vx_catch (E := "java/lang/IllegalStateException") hown [⟨0, 11, 14, 19⟩] ⟨0, 11, 18, 23⟩ [] (by rw [htab]; rfl) (List.forall_mem_cons.mpr ⟨Or.inr ⟨by decide, "java/lang/IndexOutOfBoundsException", (htg _ w_622), gx_nc hGx (q := ("java/lang/IllegalStateException", "java/lang/IndexOutOfBoundsException")) (by decide)⟩, (List.forall_mem_nil _)⟩) (by decide) (by decide) (htg _ w_624) (gx_cast hGx (by decide)) hce hcv hcl ?_
      refine lv_astore (lv' := [(4, .ref q), (0, .ref a.1), (1, .int p1), (2, .int p2), (3, .ref o)]) hx hb dL_minusSpan_18 hl (by decide) rfl (fun ls hl => ?_)
      refine lv_iconst (v := 2) hx hb dL_minusSpan_20 (by decide) ?_
      have hv9 : (if (m_X0_minusSpan p1 p2 z).1 = 0 then ((m_X0_minusSpan p1 p2 z).2.1).toInt64 else v) = v := if_neg h0
      rw [hv9]
      exact w_iret hx hb hr hlocks (by rw [h]; rfl) hP1 hO1 hS2 ⟨Nat.le_of_ble_eq_true rfl, Nat.le_of_ble_eq_true rfl⟩ dL_minusSpan_21
  · obtain ⟨hO1, hS2⟩ := w_pre (z := z) hO hoa hS1
    obtain ⟨w9, hO1⟩ := hO1
    have hP3 := va_P.app (w1 := [(o, _)]) hO1 hP1
    have hD3 := w_D (n := s.heap.size) (x := .inr (3, [.long v, w9])) (z := (m_X0_minusSpan p1 p2 z).2.2) hD hoa
    refine lv_i2l hx hb dL_minusSpan_7 rfl ?_
    refine va_putN (D := kD k) (ci := 3) (v := .long (((m_X0_minusSpan p1 p2 z).2.1).toInt64)) (ty := .long) (C := RX1) (T := TX1) (N := 2) (A := wA a o s.heap.size) (H0 := s.heap) hx hb htg inG_X1 tyX1 tyX1_ok nmX1 hown hGx.1 hP3 hD3 hS2 0 rfl rfl 0 (by decide) (va_Nw.use rfl (gx_nf hGx (q := ("DatesoloLaw", 13, "DatesoloLaw$Out", "n", "J", "DatesoloLaw")) (by decide +kernel))) (fun _ h9 => h9) rfl (by decide +kernel) rfl rfl (Nat.le_of_ble_eq_true rfl) dL_minusSpan_8 (fun H4 locs4 hP4 _ hS4 => ?_)
    refine lv_goto (tgt := 22) hx hb dL_minusSpan_11 (by decide) ?_
    refine lv_iconst (v := 0) hx hb dL_minusSpan_22 (by decide) ?_
    have hP5 : va_P (kD k) vwCl (cW k a ((m_X0_minusSpan p1 p2 z).2.2)) H4 := hP4.sub [1, 2, 3, 4, 5] rfl
    have hO5 : oP k o (((m_X0_minusSpan p1 p2 z).2.1).toInt64) H4 := ⟨w9, hP4.sub [0] rfl⟩
    have hv9 : (if (m_X0_minusSpan p1 p2 z).1 = 0 then ((m_X0_minusSpan p1 p2 z).2.1).toInt64 else v) = ((m_X0_minusSpan p1 p2 z).2.1).toInt64 := if_pos h0
    rw [hv9]
    exact w_iret hx hb hr hlocks (by rw [h0]; rfl) hP5 hO5 hS4 ⟨Nat.le_of_ble_eq_true rfl, Nat.le_of_ble_eq_true rfl⟩ dL_minusSpan_23
noncomputable abbrev wsL_year : List Cond := .codeWith yL_year cL_year 4 (some .int) [(0, 10, 13, 19)] :: GL
theorem kw_L_year : (∃ ws', wsL_year = Cond.codeWith yL_year cL_year 4 (some .int) [(0, 10, 13, 19)] :: ws') ∧ yL_year.cls ≠ "java/lang/invoke/MethodHandle" ∧ yL_year.cls ≠ "java/lang/invoke/VarHandle" ∧ (parseMethodDescriptor yL_year.desc).map (fun d => d.parameters.length) = some 3 := ⟨⟨_, rfl⟩, by decide +kernel, by decide +kernel, by decide +kernel⟩
set_option maxRecDepth 100000 in
set_option maxHeartbeats 4000000 in
theorem k_L_year (l : Launch) (hl9 : l.stackTraces = false) (k : Kx) (a : CA) (hD : cD k a) (o : Nat) (p1 : Int32) (z : CS) (v : Int64) (hres : (m_X0_year p1 z).1 = 0 ∨ (m_X0_year p1 z).1 = 1) : wM l k a o yL_year wsL_year 9 202 1 6 [.ref a.1, .int p1, .ref o] z v (wk 1 1 ((m_X0_year p1 z).1)) (z) (if (m_X0_year p1 z).1 = 0 then ((m_X0_year p1 z).2).toInt64 else v) := by
  intro sz
  refine va_MetW (cc := cL_year) (maxL := 4) (ret := (some .int)) (hh := [(0, 10, 13, 19)]) (by decide) rfl ?_
  intro p e s m args below meth c s₁ B hml hv
  obtain ⟨rfl, rfl, hGx, hP, hO, hob, hoa⟩ := hv
  have hx := B.exec
  have hb := B.bytes
  have hr := B.returns
  have hts := atoms_spec (ws := wsL_year) B.pre
  have hown : s.vm.findClass RL = some m.cls := findClass_of_methodNamed B.named
  have hlocks := B.notSynchronized
  have htg : ∀ w ∈ GL, w.before _ s = true := fun w h => hts w (List.mem_cons_of_mem _ h)
  have hC : CallFix p m c cL_year 4 s _ wsL_year RL := ⟨hx, hb, hml, hown, hts⟩
  have htab : c.exceptionTable.toList = tableOf [(0, 10, 13, 19)] := vx_table (x := yL_year) B (hts _ List.mem_cons_self)
  have hl := lv_entry ([.ref a.1, .int p1, .ref o]) (n := 4) (Nat.le_of_ble_eq_true rfl)
  rw [lg_entry_eq]
  generalize (lg_sl ([.ref a.1, .int p1, .ref o]) ++ List.replicate (4 - (lg_sl ([.ref a.1, .int p1, .ref o])).length) Slot.unset).toArray = ls at hl ⊢
  have hl : lv_has ls 4 [(0, .ref a.1), (1, .int p1), (2, .ref o)] := hl
  refine lv_aload_n hx hb dL_year_0 rfl (lv_at hl 2 rfl) ?_
  refine lv_aload_n hx hb dL_year_1 rfl (lv_at hl 0 rfl) ?_
  refine lv_iload_n hx hb dL_year_2 rfl (lv_at hl 1 rfl) ?_
  refine cv_V hC hGx hD (c_X0_year l hl9 k a hD p1 z) (gV w_869 w_251 w_252 w_26 w_253) kk_X0_year rfl ⟨Nat.le_of_ble_eq_true rfl, Nat.le_of_ble_eq_true rfl⟩ ⟨Nat.le_of_ble_eq_true rfl, Nat.le_of_ble_eq_true rfl⟩ hP va_S.rf hl.1 rfl rfl (Nat.le_of_ble_eq_true rfl) dL_year_3 (fun h0 ce q H1 locs1 hP1 hS1 hce hcv hcl => ?_) (fun h0 H1 locs1 hP1 hS1 => ?_)
  · obtain ⟨hO1, hS2⟩ := w_pre (z := z) hO hoa hS1
    rcases hres with h | h
    · exact absurd h h0
    · have hcl : s.vm.findClass "java/lang/IndexOutOfBoundsException" = some ce.cls := by rw [h] at hcl; exact hcl
      refine vx_catch (E := "java/lang/IndexOutOfBoundsException") hown [] ⟨0, 10, 13, 19⟩ [] (by rw [htab]; rfl) (List.forall_mem_nil _) (by decide) (by decide) (htg _ w_622) (gx_cast hGx (by decide)) hce hcv hcl ?_
      refine lv_astore_n (lv' := [(3, .ref q), (0, .ref a.1), (1, .int p1), (2, .ref o)]) hx hb dL_year_13 rfl hl (by decide) rfl (fun ls hl => ?_)
      refine lv_iconst (v := 1) hx hb dL_year_14 (by decide) ?_
      have hv9 : (if (m_X0_year p1 z).1 = 0 then ((m_X0_year p1 z).2).toInt64 else v) = v := if_neg h0
      rw [hv9]
      exact w_iret hx hb hr hlocks (by rw [h]; rfl) hP1 hO1 hS2 ⟨Nat.le_of_ble_eq_true rfl, Nat.le_of_ble_eq_true rfl⟩ dL_year_15
  · obtain ⟨hO1, hS2⟩ := w_pre (z := z) hO hoa hS1
    obtain ⟨w9, hO1⟩ := hO1
    have hP3 := va_P.app (w1 := [(o, _)]) hO1 hP1
    have hD3 := w_D (n := s.heap.size) (x := .inr (3, [.long v, w9])) (z := z) hD hoa
    refine lv_i2l hx hb dL_year_6 rfl ?_
    refine va_putN (D := kD k) (ci := 3) (v := .long (((m_X0_year p1 z).2).toInt64)) (ty := .long) (C := RX1) (T := TX1) (N := 2) (A := wA a o s.heap.size) (H0 := s.heap) hx hb htg inG_X1 tyX1 tyX1_ok nmX1 hown hGx.1 hP3 hD3 hS2 0 rfl rfl 0 (by decide) (va_Nw.use rfl (gx_nf hGx (q := ("DatesoloLaw", 13, "DatesoloLaw$Out", "n", "J", "DatesoloLaw")) (by decide +kernel))) (fun _ h9 => h9) rfl (by decide +kernel) rfl rfl (Nat.le_of_ble_eq_true rfl) dL_year_7 (fun H4 locs4 hP4 _ hS4 => ?_)
    refine lv_goto (tgt := 16) hx hb dL_year_10 (by decide) ?_
    refine lv_iconst (v := 0) hx hb dL_year_16 (by decide) ?_
    have hP5 : va_P (kD k) vwCl (cW k a (z)) H4 := hP4.sub [1, 2, 3, 4, 5] rfl
    have hO5 : oP k o (((m_X0_year p1 z).2).toInt64) H4 := ⟨w9, hP4.sub [0] rfl⟩
    have hv9 : (if (m_X0_year p1 z).1 = 0 then ((m_X0_year p1 z).2).toInt64 else v) = ((m_X0_year p1 z).2).toInt64 := if_pos h0
    rw [hv9]
    exact w_iret hx hb hr hlocks (by rw [h0]; rfl) hP5 hO5 hS4 ⟨Nat.le_of_ble_eq_true rfl, Nat.le_of_ble_eq_true rfl⟩ dL_year_17
noncomputable abbrev wsL_month : List Cond := .codeWith yL_month cL_month 4 (some .int) [(0, 10, 13, 19)] :: GL
theorem kw_L_month : (∃ ws', wsL_month = Cond.codeWith yL_month cL_month 4 (some .int) [(0, 10, 13, 19)] :: ws') ∧ yL_month.cls ≠ "java/lang/invoke/MethodHandle" ∧ yL_month.cls ≠ "java/lang/invoke/VarHandle" ∧ (parseMethodDescriptor yL_month.desc).map (fun d => d.parameters.length) = some 3 := ⟨⟨_, rfl⟩, by decide +kernel, by decide +kernel, by decide +kernel⟩
set_option maxRecDepth 100000 in
set_option maxHeartbeats 4000000 in
theorem k_L_month (l : Launch) (hl9 : l.stackTraces = false) (k : Kx) (a : CA) (hD : cD k a) (o : Nat) (p1 : Int32) (z : CS) (v : Int64) (hres : (m_X0_month p1 z).1 = 0 ∨ (m_X0_month p1 z).1 = 1) : wM l k a o yL_month wsL_month 9 202 1 6 [.ref a.1, .int p1, .ref o] z v (wk 1 1 ((m_X0_month p1 z).1)) (z) (if (m_X0_month p1 z).1 = 0 then ((m_X0_month p1 z).2).toInt64 else v) := by
  intro sz
  refine va_MetW (cc := cL_month) (maxL := 4) (ret := (some .int)) (hh := [(0, 10, 13, 19)]) (by decide) rfl ?_
  intro p e s m args below meth c s₁ B hml hv
  obtain ⟨rfl, rfl, hGx, hP, hO, hob, hoa⟩ := hv
  have hx := B.exec
  have hb := B.bytes
  have hr := B.returns
  have hts := atoms_spec (ws := wsL_month) B.pre
  have hown : s.vm.findClass RL = some m.cls := findClass_of_methodNamed B.named
  have hlocks := B.notSynchronized
  have htg : ∀ w ∈ GL, w.before _ s = true := fun w h => hts w (List.mem_cons_of_mem _ h)
  have hC : CallFix p m c cL_month 4 s _ wsL_month RL := ⟨hx, hb, hml, hown, hts⟩
  have htab : c.exceptionTable.toList = tableOf [(0, 10, 13, 19)] := vx_table (x := yL_month) B (hts _ List.mem_cons_self)
  have hl := lv_entry ([.ref a.1, .int p1, .ref o]) (n := 4) (Nat.le_of_ble_eq_true rfl)
  rw [lg_entry_eq]
  generalize (lg_sl ([.ref a.1, .int p1, .ref o]) ++ List.replicate (4 - (lg_sl ([.ref a.1, .int p1, .ref o])).length) Slot.unset).toArray = ls at hl ⊢
  have hl : lv_has ls 4 [(0, .ref a.1), (1, .int p1), (2, .ref o)] := hl
  refine lv_aload_n hx hb dL_month_0 rfl (lv_at hl 2 rfl) ?_
  refine lv_aload_n hx hb dL_month_1 rfl (lv_at hl 0 rfl) ?_
  refine lv_iload_n hx hb dL_month_2 rfl (lv_at hl 1 rfl) ?_
  refine cv_V hC hGx hD (c_X0_month l hl9 k a hD p1 z) (gV w_873 w_255 w_256 w_26 w_257) kk_X0_month rfl ⟨Nat.le_of_ble_eq_true rfl, Nat.le_of_ble_eq_true rfl⟩ ⟨Nat.le_of_ble_eq_true rfl, Nat.le_of_ble_eq_true rfl⟩ hP va_S.rf hl.1 rfl rfl (Nat.le_of_ble_eq_true rfl) dL_month_3 (fun h0 ce q H1 locs1 hP1 hS1 hce hcv hcl => ?_) (fun h0 H1 locs1 hP1 hS1 => ?_)
  · obtain ⟨hO1, hS2⟩ := w_pre (z := z) hO hoa hS1
    rcases hres with h | h
    · exact absurd h h0
    · have hcl : s.vm.findClass "java/lang/IndexOutOfBoundsException" = some ce.cls := by rw [h] at hcl; exact hcl
      refine vx_catch (E := "java/lang/IndexOutOfBoundsException") hown [] ⟨0, 10, 13, 19⟩ [] (by rw [htab]; rfl) (List.forall_mem_nil _) (by decide) (by decide) (htg _ w_622) (gx_cast hGx (by decide)) hce hcv hcl ?_
      refine lv_astore_n (lv' := [(3, .ref q), (0, .ref a.1), (1, .int p1), (2, .ref o)]) hx hb dL_month_13 rfl hl (by decide) rfl (fun ls hl => ?_)
      refine lv_iconst (v := 1) hx hb dL_month_14 (by decide) ?_
      have hv9 : (if (m_X0_month p1 z).1 = 0 then ((m_X0_month p1 z).2).toInt64 else v) = v := if_neg h0
      rw [hv9]
      exact w_iret hx hb hr hlocks (by rw [h]; rfl) hP1 hO1 hS2 ⟨Nat.le_of_ble_eq_true rfl, Nat.le_of_ble_eq_true rfl⟩ dL_month_15
  · obtain ⟨hO1, hS2⟩ := w_pre (z := z) hO hoa hS1
    obtain ⟨w9, hO1⟩ := hO1
    have hP3 := va_P.app (w1 := [(o, _)]) hO1 hP1
    have hD3 := w_D (n := s.heap.size) (x := .inr (3, [.long v, w9])) (z := z) hD hoa
    refine lv_i2l hx hb dL_month_6 rfl ?_
    refine va_putN (D := kD k) (ci := 3) (v := .long (((m_X0_month p1 z).2).toInt64)) (ty := .long) (C := RX1) (T := TX1) (N := 2) (A := wA a o s.heap.size) (H0 := s.heap) hx hb htg inG_X1 tyX1 tyX1_ok nmX1 hown hGx.1 hP3 hD3 hS2 0 rfl rfl 0 (by decide) (va_Nw.use rfl (gx_nf hGx (q := ("DatesoloLaw", 13, "DatesoloLaw$Out", "n", "J", "DatesoloLaw")) (by decide +kernel))) (fun _ h9 => h9) rfl (by decide +kernel) rfl rfl (Nat.le_of_ble_eq_true rfl) dL_month_7 (fun H4 locs4 hP4 _ hS4 => ?_)
    refine lv_goto (tgt := 16) hx hb dL_month_10 (by decide) ?_
    refine lv_iconst (v := 0) hx hb dL_month_16 (by decide) ?_
    have hP5 : va_P (kD k) vwCl (cW k a (z)) H4 := hP4.sub [1, 2, 3, 4, 5] rfl
    have hO5 : oP k o (((m_X0_month p1 z).2).toInt64) H4 := ⟨w9, hP4.sub [0] rfl⟩
    have hv9 : (if (m_X0_month p1 z).1 = 0 then ((m_X0_month p1 z).2).toInt64 else v) = ((m_X0_month p1 z).2).toInt64 := if_pos h0
    rw [hv9]
    exact w_iret hx hb hr hlocks (by rw [h0]; rfl) hP5 hO5 hS4 ⟨Nat.le_of_ble_eq_true rfl, Nat.le_of_ble_eq_true rfl⟩ dL_month_17
noncomputable abbrev wsL_day : List Cond := .codeWith yL_day cL_day 4 (some .int) [(0, 10, 13, 19)] :: GL
theorem kw_L_day : (∃ ws', wsL_day = Cond.codeWith yL_day cL_day 4 (some .int) [(0, 10, 13, 19)] :: ws') ∧ yL_day.cls ≠ "java/lang/invoke/MethodHandle" ∧ yL_day.cls ≠ "java/lang/invoke/VarHandle" ∧ (parseMethodDescriptor yL_day.desc).map (fun d => d.parameters.length) = some 3 := ⟨⟨_, rfl⟩, by decide +kernel, by decide +kernel, by decide +kernel⟩
set_option maxRecDepth 100000 in
set_option maxHeartbeats 4000000 in
theorem k_L_day (l : Launch) (hl9 : l.stackTraces = false) (k : Kx) (a : CA) (hD : cD k a) (o : Nat) (p1 : Int32) (z : CS) (v : Int64) (hres : (m_X0_day p1 z).1 = 0 ∨ (m_X0_day p1 z).1 = 1) : wM l k a o yL_day wsL_day 9 202 1 6 [.ref a.1, .int p1, .ref o] z v (wk 1 1 ((m_X0_day p1 z).1)) (z) (if (m_X0_day p1 z).1 = 0 then ((m_X0_day p1 z).2).toInt64 else v) := by
  intro sz
  refine va_MetW (cc := cL_day) (maxL := 4) (ret := (some .int)) (hh := [(0, 10, 13, 19)]) (by decide) rfl ?_
  intro p e s m args below meth c s₁ B hml hv
  obtain ⟨rfl, rfl, hGx, hP, hO, hob, hoa⟩ := hv
  have hx := B.exec
  have hb := B.bytes
  have hr := B.returns
  have hts := atoms_spec (ws := wsL_day) B.pre
  have hown : s.vm.findClass RL = some m.cls := findClass_of_methodNamed B.named
  have hlocks := B.notSynchronized
  have htg : ∀ w ∈ GL, w.before _ s = true := fun w h => hts w (List.mem_cons_of_mem _ h)
  have hC : CallFix p m c cL_day 4 s _ wsL_day RL := ⟨hx, hb, hml, hown, hts⟩
  have htab : c.exceptionTable.toList = tableOf [(0, 10, 13, 19)] := vx_table (x := yL_day) B (hts _ List.mem_cons_self)
  have hl := lv_entry ([.ref a.1, .int p1, .ref o]) (n := 4) (Nat.le_of_ble_eq_true rfl)
  rw [lg_entry_eq]
  generalize (lg_sl ([.ref a.1, .int p1, .ref o]) ++ List.replicate (4 - (lg_sl ([.ref a.1, .int p1, .ref o])).length) Slot.unset).toArray = ls at hl ⊢
  have hl : lv_has ls 4 [(0, .ref a.1), (1, .int p1), (2, .ref o)] := hl
  refine lv_aload_n hx hb dL_day_0 rfl (lv_at hl 2 rfl) ?_
  refine lv_aload_n hx hb dL_day_1 rfl (lv_at hl 0 rfl) ?_
  refine lv_iload_n hx hb dL_day_2 rfl (lv_at hl 1 rfl) ?_
  refine cv_V hC hGx hD (c_X0_day l hl9 k a hD p1 z) (gV w_877 w_259 w_260 w_26 w_261) kk_X0_day rfl ⟨Nat.le_of_ble_eq_true rfl, Nat.le_of_ble_eq_true rfl⟩ ⟨Nat.le_of_ble_eq_true rfl, Nat.le_of_ble_eq_true rfl⟩ hP va_S.rf hl.1 rfl rfl (Nat.le_of_ble_eq_true rfl) dL_day_3 (fun h0 ce q H1 locs1 hP1 hS1 hce hcv hcl => ?_) (fun h0 H1 locs1 hP1 hS1 => ?_)
  · obtain ⟨hO1, hS2⟩ := w_pre (z := z) hO hoa hS1
    rcases hres with h | h
    · exact absurd h h0
    · have hcl : s.vm.findClass "java/lang/IndexOutOfBoundsException" = some ce.cls := by rw [h] at hcl; exact hcl
      refine vx_catch (E := "java/lang/IndexOutOfBoundsException") hown [] ⟨0, 10, 13, 19⟩ [] (by rw [htab]; rfl) (List.forall_mem_nil _) (by decide) (by decide) (htg _ w_622) (gx_cast hGx (by decide)) hce hcv hcl ?_
      refine lv_astore_n (lv' := [(3, .ref q), (0, .ref a.1), (1, .int p1), (2, .ref o)]) hx hb dL_day_13 rfl hl (by decide) rfl (fun ls hl => ?_)
      refine lv_iconst (v := 1) hx hb dL_day_14 (by decide) ?_
      have hv9 : (if (m_X0_day p1 z).1 = 0 then ((m_X0_day p1 z).2).toInt64 else v) = v := if_neg h0
      rw [hv9]
      exact w_iret hx hb hr hlocks (by rw [h]; rfl) hP1 hO1 hS2 ⟨Nat.le_of_ble_eq_true rfl, Nat.le_of_ble_eq_true rfl⟩ dL_day_15
  · obtain ⟨hO1, hS2⟩ := w_pre (z := z) hO hoa hS1
    obtain ⟨w9, hO1⟩ := hO1
    have hP3 := va_P.app (w1 := [(o, _)]) hO1 hP1
    have hD3 := w_D (n := s.heap.size) (x := .inr (3, [.long v, w9])) (z := z) hD hoa
    refine lv_i2l hx hb dL_day_6 rfl ?_
    refine va_putN (D := kD k) (ci := 3) (v := .long (((m_X0_day p1 z).2).toInt64)) (ty := .long) (C := RX1) (T := TX1) (N := 2) (A := wA a o s.heap.size) (H0 := s.heap) hx hb htg inG_X1 tyX1 tyX1_ok nmX1 hown hGx.1 hP3 hD3 hS2 0 rfl rfl 0 (by decide) (va_Nw.use rfl (gx_nf hGx (q := ("DatesoloLaw", 13, "DatesoloLaw$Out", "n", "J", "DatesoloLaw")) (by decide +kernel))) (fun _ h9 => h9) rfl (by decide +kernel) rfl rfl (Nat.le_of_ble_eq_true rfl) dL_day_7 (fun H4 locs4 hP4 _ hS4 => ?_)
    refine lv_goto (tgt := 16) hx hb dL_day_10 (by decide) ?_
    refine lv_iconst (v := 0) hx hb dL_day_16 (by decide) ?_
    have hP5 : va_P (kD k) vwCl (cW k a (z)) H4 := hP4.sub [1, 2, 3, 4, 5] rfl
    have hO5 : oP k o (((m_X0_day p1 z).2).toInt64) H4 := ⟨w9, hP4.sub [0] rfl⟩
    have hv9 : (if (m_X0_day p1 z).1 = 0 then ((m_X0_day p1 z).2).toInt64 else v) = ((m_X0_day p1 z).2).toInt64 := if_pos h0
    rw [hv9]
    exact w_iret hx hb hr hlocks (by rw [h0]; rfl) hP5 hO5 hS4 ⟨Nat.le_of_ble_eq_true rfl, Nat.le_of_ble_eq_true rfl⟩ dL_day_17
noncomputable abbrev wsL_dayOfYear : List Cond := .codeWith yL_dayOfYear cL_dayOfYear 4 (some .int) [(0, 10, 13, 19)] :: GL
theorem kw_L_dayOfYear : (∃ ws', wsL_dayOfYear = Cond.codeWith yL_dayOfYear cL_dayOfYear 4 (some .int) [(0, 10, 13, 19)] :: ws') ∧ yL_dayOfYear.cls ≠ "java/lang/invoke/MethodHandle" ∧ yL_dayOfYear.cls ≠ "java/lang/invoke/VarHandle" ∧ (parseMethodDescriptor yL_dayOfYear.desc).map (fun d => d.parameters.length) = some 3 := ⟨⟨_, rfl⟩, by decide +kernel, by decide +kernel, by decide +kernel⟩
set_option maxRecDepth 100000 in
set_option maxHeartbeats 4000000 in
theorem k_L_dayOfYear (l : Launch) (hl9 : l.stackTraces = false) (k : Kx) (a : CA) (hD : cD k a) (o : Nat) (p1 : Int32) (z : CS) (v : Int64) (hres : (m_X0_dayOfYear p1 z).1 = 0 ∨ (m_X0_dayOfYear p1 z).1 = 1) : wM l k a o yL_dayOfYear wsL_dayOfYear 9 202 1 6 [.ref a.1, .int p1, .ref o] z v (wk 1 1 ((m_X0_dayOfYear p1 z).1)) (z) (if (m_X0_dayOfYear p1 z).1 = 0 then ((m_X0_dayOfYear p1 z).2).toInt64 else v) := by
  intro sz
  refine va_MetW (cc := cL_dayOfYear) (maxL := 4) (ret := (some .int)) (hh := [(0, 10, 13, 19)]) (by decide) rfl ?_
  intro p e s m args below meth c s₁ B hml hv
  obtain ⟨rfl, rfl, hGx, hP, hO, hob, hoa⟩ := hv
  have hx := B.exec
  have hb := B.bytes
  have hr := B.returns
  have hts := atoms_spec (ws := wsL_dayOfYear) B.pre
  have hown : s.vm.findClass RL = some m.cls := findClass_of_methodNamed B.named
  have hlocks := B.notSynchronized
  have htg : ∀ w ∈ GL, w.before _ s = true := fun w h => hts w (List.mem_cons_of_mem _ h)
  have hC : CallFix p m c cL_dayOfYear 4 s _ wsL_dayOfYear RL := ⟨hx, hb, hml, hown, hts⟩
  have htab : c.exceptionTable.toList = tableOf [(0, 10, 13, 19)] := vx_table (x := yL_dayOfYear) B (hts _ List.mem_cons_self)
  have hl := lv_entry ([.ref a.1, .int p1, .ref o]) (n := 4) (Nat.le_of_ble_eq_true rfl)
  rw [lg_entry_eq]
  generalize (lg_sl ([.ref a.1, .int p1, .ref o]) ++ List.replicate (4 - (lg_sl ([.ref a.1, .int p1, .ref o])).length) Slot.unset).toArray = ls at hl ⊢
  have hl : lv_has ls 4 [(0, .ref a.1), (1, .int p1), (2, .ref o)] := hl
  refine lv_aload_n hx hb dL_dayOfYear_0 rfl (lv_at hl 2 rfl) ?_
  refine lv_aload_n hx hb dL_dayOfYear_1 rfl (lv_at hl 0 rfl) ?_
  refine lv_iload_n hx hb dL_dayOfYear_2 rfl (lv_at hl 1 rfl) ?_
  refine cv_V hC hGx hD (c_X0_dayOfYear l hl9 k a hD p1 z) (gV w_881 w_263 w_264 w_26 w_265) kk_X0_dayOfYear rfl ⟨Nat.le_of_ble_eq_true rfl, Nat.le_of_ble_eq_true rfl⟩ ⟨Nat.le_of_ble_eq_true rfl, Nat.le_of_ble_eq_true rfl⟩ hP va_S.rf hl.1 rfl rfl (Nat.le_of_ble_eq_true rfl) dL_dayOfYear_3 (fun h0 ce q H1 locs1 hP1 hS1 hce hcv hcl => ?_) (fun h0 H1 locs1 hP1 hS1 => ?_)
  · obtain ⟨hO1, hS2⟩ := w_pre (z := z) hO hoa hS1
    rcases hres with h | h
    · exact absurd h h0
    · have hcl : s.vm.findClass "java/lang/IndexOutOfBoundsException" = some ce.cls := by rw [h] at hcl; exact hcl
      refine vx_catch (E := "java/lang/IndexOutOfBoundsException") hown [] ⟨0, 10, 13, 19⟩ [] (by rw [htab]; rfl) (List.forall_mem_nil _) (by decide) (by decide) (htg _ w_622) (gx_cast hGx (by decide)) hce hcv hcl ?_
      refine lv_astore_n (lv' := [(3, .ref q), (0, .ref a.1), (1, .int p1), (2, .ref o)]) hx hb dL_dayOfYear_13 rfl hl (by decide) rfl (fun ls hl => ?_)
      refine lv_iconst (v := 1) hx hb dL_dayOfYear_14 (by decide) ?_
      have hv9 : (if (m_X0_dayOfYear p1 z).1 = 0 then ((m_X0_dayOfYear p1 z).2).toInt64 else v) = v := if_neg h0
      rw [hv9]
      exact w_iret hx hb hr hlocks (by rw [h]; rfl) hP1 hO1 hS2 ⟨Nat.le_of_ble_eq_true rfl, Nat.le_of_ble_eq_true rfl⟩ dL_dayOfYear_15
  · obtain ⟨hO1, hS2⟩ := w_pre (z := z) hO hoa hS1
    obtain ⟨w9, hO1⟩ := hO1
    have hP3 := va_P.app (w1 := [(o, _)]) hO1 hP1
    have hD3 := w_D (n := s.heap.size) (x := .inr (3, [.long v, w9])) (z := z) hD hoa
    refine lv_i2l hx hb dL_dayOfYear_6 rfl ?_
    refine va_putN (D := kD k) (ci := 3) (v := .long (((m_X0_dayOfYear p1 z).2).toInt64)) (ty := .long) (C := RX1) (T := TX1) (N := 2) (A := wA a o s.heap.size) (H0 := s.heap) hx hb htg inG_X1 tyX1 tyX1_ok nmX1 hown hGx.1 hP3 hD3 hS2 0 rfl rfl 0 (by decide) (va_Nw.use rfl (gx_nf hGx (q := ("DatesoloLaw", 13, "DatesoloLaw$Out", "n", "J", "DatesoloLaw")) (by decide +kernel))) (fun _ h9 => h9) rfl (by decide +kernel) rfl rfl (Nat.le_of_ble_eq_true rfl) dL_dayOfYear_7 (fun H4 locs4 hP4 _ hS4 => ?_)
    refine lv_goto (tgt := 16) hx hb dL_dayOfYear_10 (by decide) ?_
    refine lv_iconst (v := 0) hx hb dL_dayOfYear_16 (by decide) ?_
    have hP5 : va_P (kD k) vwCl (cW k a (z)) H4 := hP4.sub [1, 2, 3, 4, 5] rfl
    have hO5 : oP k o (((m_X0_dayOfYear p1 z).2).toInt64) H4 := ⟨w9, hP4.sub [0] rfl⟩
    have hv9 : (if (m_X0_dayOfYear p1 z).1 = 0 then ((m_X0_dayOfYear p1 z).2).toInt64 else v) = ((m_X0_dayOfYear p1 z).2).toInt64 := if_pos h0
    rw [hv9]
    exact w_iret hx hb hr hlocks (by rw [h0]; rfl) hP5 hO5 hS4 ⟨Nat.le_of_ble_eq_true rfl, Nat.le_of_ble_eq_true rfl⟩ dL_dayOfYear_17
noncomputable abbrev wsL_dayOfWeek : List Cond := .codeWith yL_dayOfWeek cL_dayOfWeek 4 (some .int) [(0, 10, 13, 19)] :: GL
theorem kw_L_dayOfWeek : (∃ ws', wsL_dayOfWeek = Cond.codeWith yL_dayOfWeek cL_dayOfWeek 4 (some .int) [(0, 10, 13, 19)] :: ws') ∧ yL_dayOfWeek.cls ≠ "java/lang/invoke/MethodHandle" ∧ yL_dayOfWeek.cls ≠ "java/lang/invoke/VarHandle" ∧ (parseMethodDescriptor yL_dayOfWeek.desc).map (fun d => d.parameters.length) = some 3 := ⟨⟨_, rfl⟩, by decide +kernel, by decide +kernel, by decide +kernel⟩
set_option maxRecDepth 100000 in
set_option maxHeartbeats 4000000 in
theorem k_L_dayOfWeek (l : Launch) (hl9 : l.stackTraces = false) (k : Kx) (a : CA) (hD : cD k a) (o : Nat) (p1 : Int32) (z : CS) (v : Int64) (hres : (m_X0_dayOfWeek p1 z).1 = 0 ∨ (m_X0_dayOfWeek p1 z).1 = 1) : wM l k a o yL_dayOfWeek wsL_dayOfWeek 10 223 1 6 [.ref a.1, .int p1, .ref o] z v (wk 1 1 ((m_X0_dayOfWeek p1 z).1)) (z) (if (m_X0_dayOfWeek p1 z).1 = 0 then ((m_X0_dayOfWeek p1 z).2).toInt64 else v) := by
  intro sz
  refine va_MetW (cc := cL_dayOfWeek) (maxL := 4) (ret := (some .int)) (hh := [(0, 10, 13, 19)]) (by decide) rfl ?_
  intro p e s m args below meth c s₁ B hml hv
  obtain ⟨rfl, rfl, hGx, hP, hO, hob, hoa⟩ := hv
  have hx := B.exec
  have hb := B.bytes
  have hr := B.returns
  have hts := atoms_spec (ws := wsL_dayOfWeek) B.pre
  have hown : s.vm.findClass RL = some m.cls := findClass_of_methodNamed B.named
  have hlocks := B.notSynchronized
  have htg : ∀ w ∈ GL, w.before _ s = true := fun w h => hts w (List.mem_cons_of_mem _ h)
  have hC : CallFix p m c cL_dayOfWeek 4 s _ wsL_dayOfWeek RL := ⟨hx, hb, hml, hown, hts⟩
  have htab : c.exceptionTable.toList = tableOf [(0, 10, 13, 19)] := vx_table (x := yL_dayOfWeek) B (hts _ List.mem_cons_self)
  have hl := lv_entry ([.ref a.1, .int p1, .ref o]) (n := 4) (Nat.le_of_ble_eq_true rfl)
  rw [lg_entry_eq]
  generalize (lg_sl ([.ref a.1, .int p1, .ref o]) ++ List.replicate (4 - (lg_sl ([.ref a.1, .int p1, .ref o])).length) Slot.unset).toArray = ls at hl ⊢
  have hl : lv_has ls 4 [(0, .ref a.1), (1, .int p1), (2, .ref o)] := hl
  refine lv_aload_n hx hb dL_dayOfWeek_0 rfl (lv_at hl 2 rfl) ?_
  refine lv_aload_n hx hb dL_dayOfWeek_1 rfl (lv_at hl 0 rfl) ?_
  refine lv_iload_n hx hb dL_dayOfWeek_2 rfl (lv_at hl 1 rfl) ?_
  refine cv_V hC hGx hD (c_X0_dayOfWeek l hl9 k a hD p1 z) (gV w_885 w_267 w_268 w_26 w_269) kk_X0_dayOfWeek rfl ⟨Nat.le_of_ble_eq_true rfl, Nat.le_of_ble_eq_true rfl⟩ ⟨Nat.le_of_ble_eq_true rfl, Nat.le_of_ble_eq_true rfl⟩ hP va_S.rf hl.1 rfl rfl (Nat.le_of_ble_eq_true rfl) dL_dayOfWeek_3 (fun h0 ce q H1 locs1 hP1 hS1 hce hcv hcl => ?_) (fun h0 H1 locs1 hP1 hS1 => ?_)
  · obtain ⟨hO1, hS2⟩ := w_pre (z := z) hO hoa hS1
    rcases hres with h | h
    · exact absurd h h0
    · have hcl : s.vm.findClass "java/lang/IndexOutOfBoundsException" = some ce.cls := by rw [h] at hcl; exact hcl
      refine vx_catch (E := "java/lang/IndexOutOfBoundsException") hown [] ⟨0, 10, 13, 19⟩ [] (by rw [htab]; rfl) (List.forall_mem_nil _) (by decide) (by decide) (htg _ w_622) (gx_cast hGx (by decide)) hce hcv hcl ?_
      refine lv_astore_n (lv' := [(3, .ref q), (0, .ref a.1), (1, .int p1), (2, .ref o)]) hx hb dL_dayOfWeek_13 rfl hl (by decide) rfl (fun ls hl => ?_)
      refine lv_iconst (v := 1) hx hb dL_dayOfWeek_14 (by decide) ?_
      have hv9 : (if (m_X0_dayOfWeek p1 z).1 = 0 then ((m_X0_dayOfWeek p1 z).2).toInt64 else v) = v := if_neg h0
      rw [hv9]
      exact w_iret hx hb hr hlocks (by rw [h]; rfl) hP1 hO1 hS2 ⟨Nat.le_of_ble_eq_true rfl, Nat.le_of_ble_eq_true rfl⟩ dL_dayOfWeek_15
  · obtain ⟨hO1, hS2⟩ := w_pre (z := z) hO hoa hS1
    obtain ⟨w9, hO1⟩ := hO1
    have hP3 := va_P.app (w1 := [(o, _)]) hO1 hP1
    have hD3 := w_D (n := s.heap.size) (x := .inr (3, [.long v, w9])) (z := z) hD hoa
    refine lv_i2l hx hb dL_dayOfWeek_6 rfl ?_
    refine va_putN (D := kD k) (ci := 3) (v := .long (((m_X0_dayOfWeek p1 z).2).toInt64)) (ty := .long) (C := RX1) (T := TX1) (N := 2) (A := wA a o s.heap.size) (H0 := s.heap) hx hb htg inG_X1 tyX1 tyX1_ok nmX1 hown hGx.1 hP3 hD3 hS2 0 rfl rfl 0 (by decide) (va_Nw.use rfl (gx_nf hGx (q := ("DatesoloLaw", 13, "DatesoloLaw$Out", "n", "J", "DatesoloLaw")) (by decide +kernel))) (fun _ h9 => h9) rfl (by decide +kernel) rfl rfl (Nat.le_of_ble_eq_true rfl) dL_dayOfWeek_7 (fun H4 locs4 hP4 _ hS4 => ?_)
    refine lv_goto (tgt := 16) hx hb dL_dayOfWeek_10 (by decide) ?_
    refine lv_iconst (v := 0) hx hb dL_dayOfWeek_16 (by decide) ?_
    have hP5 : va_P (kD k) vwCl (cW k a (z)) H4 := hP4.sub [1, 2, 3, 4, 5] rfl
    have hO5 : oP k o (((m_X0_dayOfWeek p1 z).2).toInt64) H4 := ⟨w9, hP4.sub [0] rfl⟩
    have hv9 : (if (m_X0_dayOfWeek p1 z).1 = 0 then ((m_X0_dayOfWeek p1 z).2).toInt64 else v) = ((m_X0_dayOfWeek p1 z).2).toInt64 := if_pos h0
    rw [hv9]
    exact w_iret hx hb hr hlocks (by rw [h0]; rfl) hP5 hO5 hS4 ⟨Nat.le_of_ble_eq_true rfl, Nat.le_of_ble_eq_true rfl⟩ dL_dayOfWeek_17
noncomputable abbrev wsL_laterDayOfWeek : List Cond := .codeWith yL_laterDayOfWeek cL_laterDayOfWeek 5 (some .int) [(0, 11, 14, 19), (0, 11, 18, 21)] :: GL
theorem kw_L_laterDayOfWeek : (∃ ws', wsL_laterDayOfWeek = Cond.codeWith yL_laterDayOfWeek cL_laterDayOfWeek 5 (some .int) [(0, 11, 14, 19), (0, 11, 18, 21)] :: ws') ∧ yL_laterDayOfWeek.cls ≠ "java/lang/invoke/MethodHandle" ∧ yL_laterDayOfWeek.cls ≠ "java/lang/invoke/VarHandle" ∧ (parseMethodDescriptor yL_laterDayOfWeek.desc).map (fun d => d.parameters.length) = some 4 := ⟨⟨_, rfl⟩, by decide +kernel, by decide +kernel, by decide +kernel⟩
set_option maxRecDepth 100000 in
set_option maxHeartbeats 4000000 in
theorem k_L_laterDayOfWeek (l : Launch) (hl9 : l.stackTraces = false) (k : Kx) (a : CA) (hD : cD k a) (o : Nat) (p1 : Int32) (p2 : Int32) (z : CS) (v : Int64) (hres : (m_X0_laterDayOfWeek p1 p2 z).1 = 0 ∨ (m_X0_laterDayOfWeek p1 p2 z).1 = 1 ∨ (m_X0_laterDayOfWeek p1 p2 z).1 = 2) : wM l k a o yL_laterDayOfWeek wsL_laterDayOfWeek 10 224 3 18 [.ref a.1, .int p1, .int p2, .ref o] z v (wk 1 2 ((m_X0_laterDayOfWeek p1 p2 z).1)) (z) (if (m_X0_laterDayOfWeek p1 p2 z).1 = 0 then ((m_X0_laterDayOfWeek p1 p2 z).2).toInt64 else v) := by
  intro sz
  refine va_MetW (cc := cL_laterDayOfWeek) (maxL := 5) (ret := (some .int)) (hh := [(0, 11, 14, 19), (0, 11, 18, 21)]) (by decide) rfl ?_
  intro p e s m args below meth c s₁ B hml hv
  obtain ⟨rfl, rfl, hGx, hP, hO, hob, hoa⟩ := hv
  have hx := B.exec
  have hb := B.bytes
  have hr := B.returns
  have hts := atoms_spec (ws := wsL_laterDayOfWeek) B.pre
  have hown : s.vm.findClass RL = some m.cls := findClass_of_methodNamed B.named
  have hlocks := B.notSynchronized
  have htg : ∀ w ∈ GL, w.before _ s = true := fun w h => hts w (List.mem_cons_of_mem _ h)
  have hC : CallFix p m c cL_laterDayOfWeek 5 s _ wsL_laterDayOfWeek RL := ⟨hx, hb, hml, hown, hts⟩
  have htab : c.exceptionTable.toList = tableOf [(0, 11, 14, 19), (0, 11, 18, 21)] := vx_table (x := yL_laterDayOfWeek) B (hts _ List.mem_cons_self)
  have hl := lv_entry ([.ref a.1, .int p1, .int p2, .ref o]) (n := 5) (Nat.le_of_ble_eq_true rfl)
  rw [lg_entry_eq]
  generalize (lg_sl ([.ref a.1, .int p1, .int p2, .ref o]) ++ List.replicate (5 - (lg_sl ([.ref a.1, .int p1, .int p2, .ref o])).length) Slot.unset).toArray = ls at hl ⊢
  have hl : lv_has ls 5 [(0, .ref a.1), (1, .int p1), (2, .int p2), (3, .ref o)] := hl
  refine lv_aload_n hx hb dL_laterDayOfWeek_0 rfl (lv_at hl 3 rfl) ?_
  refine lv_aload_n hx hb dL_laterDayOfWeek_1 rfl (lv_at hl 0 rfl) ?_
  refine lv_iload_n hx hb dL_laterDayOfWeek_2 rfl (lv_at hl 1 rfl) ?_
  refine lv_iload_n hx hb dL_laterDayOfWeek_3 rfl (lv_at hl 2 rfl) ?_
  refine cv_V hC hGx hD (c_X0_laterDayOfWeek l hl9 k a hD p1 p2 z) (gV w_889 w_890 w_891 w_26 w_892) kk_X0_laterDayOfWeek rfl ⟨Nat.le_of_ble_eq_true rfl, Nat.le_of_ble_eq_true rfl⟩ ⟨Nat.le_of_ble_eq_true rfl, Nat.le_of_ble_eq_true rfl⟩ hP va_S.rf hl.1 rfl rfl (Nat.le_of_ble_eq_true rfl) dL_laterDayOfWeek_4 (fun h0 ce q H1 locs1 hP1 hS1 hce hcv hcl => ?_) (fun h0 H1 locs1 hP1 hS1 => ?_)
  · obtain ⟨hO1, hS2⟩ := w_pre (z := z) hO hoa hS1
    rcases hres with h | h | h
    · exact absurd h h0
    · have hcl : s.vm.findClass "java/lang/IndexOutOfBoundsException" = some ce.cls := by rw [h] at hcl; exact hcl
      refine vx_catch (E := "java/lang/IndexOutOfBoundsException") hown [] ⟨0, 11, 14, 19⟩ [⟨0, 11, 18, 21⟩] (by rw [htab]; rfl) (List.forall_mem_nil _) (by decide) (by decide) (htg _ w_622) (gx_cast hGx (by decide)) hce hcv hcl ?_
      refine lv_astore (lv' := [(4, .ref q), (0, .ref a.1), (1, .int p1), (2, .int p2), (3, .ref o)]) hx hb dL_laterDayOfWeek_14 hl (by decide) rfl (fun ls hl => ?_)
      refine lv_iconst (v := 1) hx hb dL_laterDayOfWeek_16 (by decide) ?_
      have hv9 : (if (m_X0_laterDayOfWeek p1 p2 z).1 = 0 then ((m_X0_laterDayOfWeek p1 p2 z).2).toInt64 else v) = v := if_neg h0
      rw [hv9]
      exact w_iret hx hb hr hlocks (by rw [h]; rfl) hP1 hO1 hS2 ⟨Nat.le_of_ble_eq_true rfl, Nat.le_of_ble_eq_true rfl⟩ dL_laterDayOfWeek_17
    · have hcl : s.vm.findClass "java/lang/IllegalArgumentException" = some ce.cls := by rw [h] at hcl; exact hcl
      refine vx_catch (E := "java/lang/IllegalArgumentException") hown [⟨0, 11, 14, 19⟩] ⟨0, 11, 18, 21⟩ [] (by rw [htab]; rfl) (List.forall_mem_cons.mpr ⟨Or.inr ⟨by decide, "java/lang/IndexOutOfBoundsException", (htg _ w_622), gx_nc hGx (q := ("java/lang/IllegalArgumentException", "java/lang/IndexOutOfBoundsException")) (by decide)⟩, (List.forall_mem_nil _)⟩) (by decide) (by decide) (htg _ w_623) (gx_cast hGx (by decide)) hce hcv hcl ?_
      refine lv_astore (lv' := [(4, .ref q), (0, .ref a.1), (1, .int p1), (2, .int p2), (3, .ref o)]) hx hb dL_laterDayOfWeek_18 hl (by decide) rfl (fun ls hl => ?_)
      refine lv_iconst (v := 2) hx hb dL_laterDayOfWeek_20 (by decide) ?_
      have hv9 : (if (m_X0_laterDayOfWeek p1 p2 z).1 = 0 then ((m_X0_laterDayOfWeek p1 p2 z).2).toInt64 else v) = v := if_neg h0
      rw [hv9]
      exact w_iret hx hb hr hlocks (by rw [h]; rfl) hP1 hO1 hS2 ⟨Nat.le_of_ble_eq_true rfl, Nat.le_of_ble_eq_true rfl⟩ dL_laterDayOfWeek_21
  · obtain ⟨hO1, hS2⟩ := w_pre (z := z) hO hoa hS1
    obtain ⟨w9, hO1⟩ := hO1
    have hP3 := va_P.app (w1 := [(o, _)]) hO1 hP1
    have hD3 := w_D (n := s.heap.size) (x := .inr (3, [.long v, w9])) (z := z) hD hoa
    refine lv_i2l hx hb dL_laterDayOfWeek_7 rfl ?_
    refine va_putN (D := kD k) (ci := 3) (v := .long (((m_X0_laterDayOfWeek p1 p2 z).2).toInt64)) (ty := .long) (C := RX1) (T := TX1) (N := 2) (A := wA a o s.heap.size) (H0 := s.heap) hx hb htg inG_X1 tyX1 tyX1_ok nmX1 hown hGx.1 hP3 hD3 hS2 0 rfl rfl 0 (by decide) (va_Nw.use rfl (gx_nf hGx (q := ("DatesoloLaw", 13, "DatesoloLaw$Out", "n", "J", "DatesoloLaw")) (by decide +kernel))) (fun _ h9 => h9) rfl (by decide +kernel) rfl rfl (Nat.le_of_ble_eq_true rfl) dL_laterDayOfWeek_8 (fun H4 locs4 hP4 _ hS4 => ?_)
    refine lv_goto (tgt := 22) hx hb dL_laterDayOfWeek_11 (by decide) ?_
    refine lv_iconst (v := 0) hx hb dL_laterDayOfWeek_22 (by decide) ?_
    have hP5 : va_P (kD k) vwCl (cW k a (z)) H4 := hP4.sub [1, 2, 3, 4, 5] rfl
    have hO5 : oP k o (((m_X0_laterDayOfWeek p1 p2 z).2).toInt64) H4 := ⟨w9, hP4.sub [0] rfl⟩
    have hv9 : (if (m_X0_laterDayOfWeek p1 p2 z).1 = 0 then ((m_X0_laterDayOfWeek p1 p2 z).2).toInt64 else v) = ((m_X0_laterDayOfWeek p1 p2 z).2).toInt64 := if_pos h0
    rw [hv9]
    exact w_iret hx hb hr hlocks (by rw [h0]; rfl) hP5 hO5 hS4 ⟨Nat.le_of_ble_eq_true rfl, Nat.le_of_ble_eq_true rfl⟩ dL_laterDayOfWeek_23
noncomputable abbrev wsL_lengthOfMonth : List Cond := .codeWith yL_lengthOfMonth cL_lengthOfMonth 4 (some .int) [(0, 10, 13, 19)] :: GL
theorem kw_L_lengthOfMonth : (∃ ws', wsL_lengthOfMonth = Cond.codeWith yL_lengthOfMonth cL_lengthOfMonth 4 (some .int) [(0, 10, 13, 19)] :: ws') ∧ yL_lengthOfMonth.cls ≠ "java/lang/invoke/MethodHandle" ∧ yL_lengthOfMonth.cls ≠ "java/lang/invoke/VarHandle" ∧ (parseMethodDescriptor yL_lengthOfMonth.desc).map (fun d => d.parameters.length) = some 3 := ⟨⟨_, rfl⟩, by decide +kernel, by decide +kernel, by decide +kernel⟩
set_option maxRecDepth 100000 in
set_option maxHeartbeats 4000000 in
theorem k_L_lengthOfMonth (l : Launch) (hl9 : l.stackTraces = false) (k : Kx) (a : CA) (hD : cD k a) (o : Nat) (p1 : Int32) (z : CS) (v : Int64) (hres : (m_X0_lengthOfMonth p1 z).1 = 0 ∨ (m_X0_lengthOfMonth p1 z).1 = 1) : wM l k a o yL_lengthOfMonth wsL_lengthOfMonth 9 204 1 6 [.ref a.1, .int p1, .ref o] z v (wk 1 1 ((m_X0_lengthOfMonth p1 z).1)) (z) (if (m_X0_lengthOfMonth p1 z).1 = 0 then ((m_X0_lengthOfMonth p1 z).2).toInt64 else v) := by
  intro sz
  refine va_MetW (cc := cL_lengthOfMonth) (maxL := 4) (ret := (some .int)) (hh := [(0, 10, 13, 19)]) (by decide) rfl ?_
  intro p e s m args below meth c s₁ B hml hv
  obtain ⟨rfl, rfl, hGx, hP, hO, hob, hoa⟩ := hv
  have hx := B.exec
  have hb := B.bytes
  have hr := B.returns
  have hts := atoms_spec (ws := wsL_lengthOfMonth) B.pre
  have hown : s.vm.findClass RL = some m.cls := findClass_of_methodNamed B.named
  have hlocks := B.notSynchronized
  have htg : ∀ w ∈ GL, w.before _ s = true := fun w h => hts w (List.mem_cons_of_mem _ h)
  have hC : CallFix p m c cL_lengthOfMonth 4 s _ wsL_lengthOfMonth RL := ⟨hx, hb, hml, hown, hts⟩
  have htab : c.exceptionTable.toList = tableOf [(0, 10, 13, 19)] := vx_table (x := yL_lengthOfMonth) B (hts _ List.mem_cons_self)
  have hl := lv_entry ([.ref a.1, .int p1, .ref o]) (n := 4) (Nat.le_of_ble_eq_true rfl)
  rw [lg_entry_eq]
  generalize (lg_sl ([.ref a.1, .int p1, .ref o]) ++ List.replicate (4 - (lg_sl ([.ref a.1, .int p1, .ref o])).length) Slot.unset).toArray = ls at hl ⊢
  have hl : lv_has ls 4 [(0, .ref a.1), (1, .int p1), (2, .ref o)] := hl
  refine lv_aload_n hx hb dL_lengthOfMonth_0 rfl (lv_at hl 2 rfl) ?_
  refine lv_aload_n hx hb dL_lengthOfMonth_1 rfl (lv_at hl 0 rfl) ?_
  refine lv_iload_n hx hb dL_lengthOfMonth_2 rfl (lv_at hl 1 rfl) ?_
  refine cv_V hC hGx hD (c_X0_lengthOfMonth l hl9 k a hD p1 z) (gV w_896 w_277 w_278 w_26 w_279) kk_X0_lengthOfMonth rfl ⟨Nat.le_of_ble_eq_true rfl, Nat.le_of_ble_eq_true rfl⟩ ⟨Nat.le_of_ble_eq_true rfl, Nat.le_of_ble_eq_true rfl⟩ hP va_S.rf hl.1 rfl rfl (Nat.le_of_ble_eq_true rfl) dL_lengthOfMonth_3 (fun h0 ce q H1 locs1 hP1 hS1 hce hcv hcl => ?_) (fun h0 H1 locs1 hP1 hS1 => ?_)
  · obtain ⟨hO1, hS2⟩ := w_pre (z := z) hO hoa hS1
    rcases hres with h | h
    · exact absurd h h0
    · have hcl : s.vm.findClass "java/lang/IndexOutOfBoundsException" = some ce.cls := by rw [h] at hcl; exact hcl
      refine vx_catch (E := "java/lang/IndexOutOfBoundsException") hown [] ⟨0, 10, 13, 19⟩ [] (by rw [htab]; rfl) (List.forall_mem_nil _) (by decide) (by decide) (htg _ w_622) (gx_cast hGx (by decide)) hce hcv hcl ?_
      refine lv_astore_n (lv' := [(3, .ref q), (0, .ref a.1), (1, .int p1), (2, .ref o)]) hx hb dL_lengthOfMonth_13 rfl hl (by decide) rfl (fun ls hl => ?_)
      refine lv_iconst (v := 1) hx hb dL_lengthOfMonth_14 (by decide) ?_
      have hv9 : (if (m_X0_lengthOfMonth p1 z).1 = 0 then ((m_X0_lengthOfMonth p1 z).2).toInt64 else v) = v := if_neg h0
      rw [hv9]
      exact w_iret hx hb hr hlocks (by rw [h]; rfl) hP1 hO1 hS2 ⟨Nat.le_of_ble_eq_true rfl, Nat.le_of_ble_eq_true rfl⟩ dL_lengthOfMonth_15
  · obtain ⟨hO1, hS2⟩ := w_pre (z := z) hO hoa hS1
    obtain ⟨w9, hO1⟩ := hO1
    have hP3 := va_P.app (w1 := [(o, _)]) hO1 hP1
    have hD3 := w_D (n := s.heap.size) (x := .inr (3, [.long v, w9])) (z := z) hD hoa
    refine lv_i2l hx hb dL_lengthOfMonth_6 rfl ?_
    refine va_putN (D := kD k) (ci := 3) (v := .long (((m_X0_lengthOfMonth p1 z).2).toInt64)) (ty := .long) (C := RX1) (T := TX1) (N := 2) (A := wA a o s.heap.size) (H0 := s.heap) hx hb htg inG_X1 tyX1 tyX1_ok nmX1 hown hGx.1 hP3 hD3 hS2 0 rfl rfl 0 (by decide) (va_Nw.use rfl (gx_nf hGx (q := ("DatesoloLaw", 13, "DatesoloLaw$Out", "n", "J", "DatesoloLaw")) (by decide +kernel))) (fun _ h9 => h9) rfl (by decide +kernel) rfl rfl (Nat.le_of_ble_eq_true rfl) dL_lengthOfMonth_7 (fun H4 locs4 hP4 _ hS4 => ?_)
    refine lv_goto (tgt := 16) hx hb dL_lengthOfMonth_10 (by decide) ?_
    refine lv_iconst (v := 0) hx hb dL_lengthOfMonth_16 (by decide) ?_
    have hP5 : va_P (kD k) vwCl (cW k a (z)) H4 := hP4.sub [1, 2, 3, 4, 5] rfl
    have hO5 : oP k o (((m_X0_lengthOfMonth p1 z).2).toInt64) H4 := ⟨w9, hP4.sub [0] rfl⟩
    have hv9 : (if (m_X0_lengthOfMonth p1 z).1 = 0 then ((m_X0_lengthOfMonth p1 z).2).toInt64 else v) = ((m_X0_lengthOfMonth p1 z).2).toInt64 := if_pos h0
    rw [hv9]
    exact w_iret hx hb hr hlocks (by rw [h0]; rfl) hP5 hO5 hS4 ⟨Nat.le_of_ble_eq_true rfl, Nat.le_of_ble_eq_true rfl⟩ dL_lengthOfMonth_17
noncomputable abbrev wsL_lengthOfYear : List Cond := .codeWith yL_lengthOfYear cL_lengthOfYear 4 (some .int) [(0, 10, 13, 19)] :: GL
theorem kw_L_lengthOfYear : (∃ ws', wsL_lengthOfYear = Cond.codeWith yL_lengthOfYear cL_lengthOfYear 4 (some .int) [(0, 10, 13, 19)] :: ws') ∧ yL_lengthOfYear.cls ≠ "java/lang/invoke/MethodHandle" ∧ yL_lengthOfYear.cls ≠ "java/lang/invoke/VarHandle" ∧ (parseMethodDescriptor yL_lengthOfYear.desc).map (fun d => d.parameters.length) = some 3 := ⟨⟨_, rfl⟩, by decide +kernel, by decide +kernel, by decide +kernel⟩
set_option maxRecDepth 100000 in
set_option maxHeartbeats 4000000 in
theorem k_L_lengthOfYear (l : Launch) (hl9 : l.stackTraces = false) (k : Kx) (a : CA) (hD : cD k a) (o : Nat) (p1 : Int32) (z : CS) (v : Int64) (hres : (m_X0_lengthOfYear p1 z).1 = 0 ∨ (m_X0_lengthOfYear p1 z).1 = 1) : wM l k a o yL_lengthOfYear wsL_lengthOfYear 9 202 1 6 [.ref a.1, .int p1, .ref o] z v (wk 1 1 ((m_X0_lengthOfYear p1 z).1)) (z) (if (m_X0_lengthOfYear p1 z).1 = 0 then ((m_X0_lengthOfYear p1 z).2).toInt64 else v) := by
  intro sz
  refine va_MetW (cc := cL_lengthOfYear) (maxL := 4) (ret := (some .int)) (hh := [(0, 10, 13, 19)]) (by decide) rfl ?_
  intro p e s m args below meth c s₁ B hml hv
  obtain ⟨rfl, rfl, hGx, hP, hO, hob, hoa⟩ := hv
  have hx := B.exec
  have hb := B.bytes
  have hr := B.returns
  have hts := atoms_spec (ws := wsL_lengthOfYear) B.pre
  have hown : s.vm.findClass RL = some m.cls := findClass_of_methodNamed B.named
  have hlocks := B.notSynchronized
  have htg : ∀ w ∈ GL, w.before _ s = true := fun w h => hts w (List.mem_cons_of_mem _ h)
  have hC : CallFix p m c cL_lengthOfYear 4 s _ wsL_lengthOfYear RL := ⟨hx, hb, hml, hown, hts⟩
  have htab : c.exceptionTable.toList = tableOf [(0, 10, 13, 19)] := vx_table (x := yL_lengthOfYear) B (hts _ List.mem_cons_self)
  have hl := lv_entry ([.ref a.1, .int p1, .ref o]) (n := 4) (Nat.le_of_ble_eq_true rfl)
  rw [lg_entry_eq]
  generalize (lg_sl ([.ref a.1, .int p1, .ref o]) ++ List.replicate (4 - (lg_sl ([.ref a.1, .int p1, .ref o])).length) Slot.unset).toArray = ls at hl ⊢
  have hl : lv_has ls 4 [(0, .ref a.1), (1, .int p1), (2, .ref o)] := hl
  refine lv_aload_n hx hb dL_lengthOfYear_0 rfl (lv_at hl 2 rfl) ?_
  refine lv_aload_n hx hb dL_lengthOfYear_1 rfl (lv_at hl 0 rfl) ?_
  refine lv_iload_n hx hb dL_lengthOfYear_2 rfl (lv_at hl 1 rfl) ?_
  refine cv_V hC hGx hD (c_X0_lengthOfYear l hl9 k a hD p1 z) (gV w_900 w_281 w_282 w_26 w_283) kk_X0_lengthOfYear rfl ⟨Nat.le_of_ble_eq_true rfl, Nat.le_of_ble_eq_true rfl⟩ ⟨Nat.le_of_ble_eq_true rfl, Nat.le_of_ble_eq_true rfl⟩ hP va_S.rf hl.1 rfl rfl (Nat.le_of_ble_eq_true rfl) dL_lengthOfYear_3 (fun h0 ce q H1 locs1 hP1 hS1 hce hcv hcl => ?_) (fun h0 H1 locs1 hP1 hS1 => ?_)
  · obtain ⟨hO1, hS2⟩ := w_pre (z := z) hO hoa hS1
    rcases hres with h | h
    · exact absurd h h0
    · have hcl : s.vm.findClass "java/lang/IndexOutOfBoundsException" = some ce.cls := by rw [h] at hcl; exact hcl
      refine vx_catch (E := "java/lang/IndexOutOfBoundsException") hown [] ⟨0, 10, 13, 19⟩ [] (by rw [htab]; rfl) (List.forall_mem_nil _) (by decide) (by decide) (htg _ w_622) (gx_cast hGx (by decide)) hce hcv hcl ?_
      refine lv_astore_n (lv' := [(3, .ref q), (0, .ref a.1), (1, .int p1), (2, .ref o)]) hx hb dL_lengthOfYear_13 rfl hl (by decide) rfl (fun ls hl => ?_)
      refine lv_iconst (v := 1) hx hb dL_lengthOfYear_14 (by decide) ?_
      have hv9 : (if (m_X0_lengthOfYear p1 z).1 = 0 then ((m_X0_lengthOfYear p1 z).2).toInt64 else v) = v := if_neg h0
      rw [hv9]
      exact w_iret hx hb hr hlocks (by rw [h]; rfl) hP1 hO1 hS2 ⟨Nat.le_of_ble_eq_true rfl, Nat.le_of_ble_eq_true rfl⟩ dL_lengthOfYear_15
  · obtain ⟨hO1, hS2⟩ := w_pre (z := z) hO hoa hS1
    obtain ⟨w9, hO1⟩ := hO1
    have hP3 := va_P.app (w1 := [(o, _)]) hO1 hP1
    have hD3 := w_D (n := s.heap.size) (x := .inr (3, [.long v, w9])) (z := z) hD hoa
    refine lv_i2l hx hb dL_lengthOfYear_6 rfl ?_
    refine va_putN (D := kD k) (ci := 3) (v := .long (((m_X0_lengthOfYear p1 z).2).toInt64)) (ty := .long) (C := RX1) (T := TX1) (N := 2) (A := wA a o s.heap.size) (H0 := s.heap) hx hb htg inG_X1 tyX1 tyX1_ok nmX1 hown hGx.1 hP3 hD3 hS2 0 rfl rfl 0 (by decide) (va_Nw.use rfl (gx_nf hGx (q := ("DatesoloLaw", 13, "DatesoloLaw$Out", "n", "J", "DatesoloLaw")) (by decide +kernel))) (fun _ h9 => h9) rfl (by decide +kernel) rfl rfl (Nat.le_of_ble_eq_true rfl) dL_lengthOfYear_7 (fun H4 locs4 hP4 _ hS4 => ?_)
    refine lv_goto (tgt := 16) hx hb dL_lengthOfYear_10 (by decide) ?_
    refine lv_iconst (v := 0) hx hb dL_lengthOfYear_16 (by decide) ?_
    have hP5 : va_P (kD k) vwCl (cW k a (z)) H4 := hP4.sub [1, 2, 3, 4, 5] rfl
    have hO5 : oP k o (((m_X0_lengthOfYear p1 z).2).toInt64) H4 := ⟨w9, hP4.sub [0] rfl⟩
    have hv9 : (if (m_X0_lengthOfYear p1 z).1 = 0 then ((m_X0_lengthOfYear p1 z).2).toInt64 else v) = ((m_X0_lengthOfYear p1 z).2).toInt64 := if_pos h0
    rw [hv9]
    exact w_iret hx hb hr hlocks (by rw [h0]; rfl) hP5 hO5 hS4 ⟨Nat.le_of_ble_eq_true rfl, Nat.le_of_ble_eq_true rfl⟩ dL_lengthOfYear_17
noncomputable abbrev wsL_isLeapYear : List Cond := .codeWith yL_isLeapYear cL_isLeapYear 4 (some .int) [(0, 17, 20, 19)] :: GL
theorem kw_L_isLeapYear : (∃ ws', wsL_isLeapYear = Cond.codeWith yL_isLeapYear cL_isLeapYear 4 (some .int) [(0, 17, 20, 19)] :: ws') ∧ yL_isLeapYear.cls ≠ "java/lang/invoke/MethodHandle" ∧ yL_isLeapYear.cls ≠ "java/lang/invoke/VarHandle" ∧ (parseMethodDescriptor yL_isLeapYear.desc).map (fun d => d.parameters.length) = some 3 := ⟨⟨_, rfl⟩, by decide +kernel, by decide +kernel, by decide +kernel⟩
set_option maxRecDepth 100000 in
set_option maxHeartbeats 4000000 in
theorem k_L_isLeapYear (l : Launch) (hl9 : l.stackTraces = false) (k : Kx) (a : CA) (hD : cD k a) (o : Nat) (p1 : Int32) (z : CS) (v : Int64) (hres : (m_X0_isLeapYear p1 z).1 = 0 ∨ (m_X0_isLeapYear p1 z).1 = 1) : wM l k a o yL_isLeapYear wsL_isLeapYear 9 202 1 6 [.ref a.1, .int p1, .ref o] z v (wk 1 1 ((m_X0_isLeapYear p1 z).1)) (z) (if (m_X0_isLeapYear p1 z).1 = 0 then (if (m_X0_isLeapYear p1 z).2 = 0 then (0 : Int64) else 1) else v) := by
  intro sz
  refine va_MetW (cc := cL_isLeapYear) (maxL := 4) (ret := (some .int)) (hh := [(0, 17, 20, 19)]) (by decide) rfl ?_
  intro p e s m args below meth c s₁ B hml hv
  obtain ⟨rfl, rfl, hGx, hP, hO, hob, hoa⟩ := hv
  have hx := B.exec
  have hb := B.bytes
  have hr := B.returns
  have hts := atoms_spec (ws := wsL_isLeapYear) B.pre
  have hown : s.vm.findClass RL = some m.cls := findClass_of_methodNamed B.named
  have hlocks := B.notSynchronized
  have htg : ∀ w ∈ GL, w.before _ s = true := fun w h => hts w (List.mem_cons_of_mem _ h)
  have hC : CallFix p m c cL_isLeapYear 4 s _ wsL_isLeapYear RL := ⟨hx, hb, hml, hown, hts⟩
  have htab : c.exceptionTable.toList = tableOf [(0, 17, 20, 19)] := vx_table (x := yL_isLeapYear) B (hts _ List.mem_cons_self)
  have hl := lv_entry ([.ref a.1, .int p1, .ref o]) (n := 4) (Nat.le_of_ble_eq_true rfl)
  rw [lg_entry_eq]
  generalize (lg_sl ([.ref a.1, .int p1, .ref o]) ++ List.replicate (4 - (lg_sl ([.ref a.1, .int p1, .ref o])).length) Slot.unset).toArray = ls at hl ⊢
  have hl : lv_has ls 4 [(0, .ref a.1), (1, .int p1), (2, .ref o)] := hl
  refine lv_aload_n hx hb dL_isLeapYear_0 rfl (lv_at hl 2 rfl) ?_
  refine lv_aload_n hx hb dL_isLeapYear_1 rfl (lv_at hl 0 rfl) ?_
  refine lv_iload_n hx hb dL_isLeapYear_2 rfl (lv_at hl 1 rfl) ?_
  refine cv_V hC hGx hD (c_X0_isLeapYear l hl9 k a hD p1 z) (gV w_904 w_288 w_289 w_26 w_290) kk_X0_isLeapYear rfl ⟨Nat.le_of_ble_eq_true rfl, Nat.le_of_ble_eq_true rfl⟩ ⟨Nat.le_of_ble_eq_true rfl, Nat.le_of_ble_eq_true rfl⟩ hP va_S.rf hl.1 rfl rfl (Nat.le_of_ble_eq_true rfl) dL_isLeapYear_3 (fun h0 ce q H1 locs1 hP1 hS1 hce hcv hcl => ?_) (fun h0 H1 locs1 hP1 hS1 => ?_)
  · obtain ⟨hO1, hS2⟩ := w_pre (z := z) hO hoa hS1
    rcases hres with h | h
    · exact absurd h h0
    · have hcl : s.vm.findClass "java/lang/IndexOutOfBoundsException" = some ce.cls := by rw [h] at hcl; exact hcl
      refine vx_catch (E := "java/lang/IndexOutOfBoundsException") hown [] ⟨0, 17, 20, 19⟩ [] (by rw [htab]; rfl) (List.forall_mem_nil _) (by decide) (by decide) (htg _ w_622) (gx_cast hGx (by decide)) hce hcv hcl ?_
      refine lv_astore_n (lv' := [(3, .ref q), (0, .ref a.1), (1, .int p1), (2, .ref o)]) hx hb dL_isLeapYear_20 rfl hl (by decide) rfl (fun ls hl => ?_)
      refine lv_iconst (v := 1) hx hb dL_isLeapYear_21 (by decide) ?_
      have hv9 : (if (m_X0_isLeapYear p1 z).1 = 0 then (if (m_X0_isLeapYear p1 z).2 = 0 then (0 : Int64) else 1) else v) = v := if_neg h0
      rw [hv9]
      exact w_iret hx hb hr hlocks (by rw [h]; rfl) hP1 hO1 hS2 ⟨Nat.le_of_ble_eq_true rfl, Nat.le_of_ble_eq_true rfl⟩ dL_isLeapYear_22
  · obtain ⟨hO1, hS2⟩ := w_pre (z := z) hO hoa hS1
    obtain ⟨w9, hO1⟩ := hO1
    have hP3 := va_P.app (w1 := [(o, _)]) hO1 hP1
    have hD3 := w_D (n := s.heap.size) (x := .inr (3, [.long v, w9])) (z := z) hD hoa
    refine lv_if_eq (tgt := 13) hx hb dL_isLeapYear_6 (by decide) (fun h1 => ?_) (fun h1 => ?_)
    · refine lv_lconst (v := 0) hx hb dL_isLeapYear_13 (by decide) ?_
      refine va_putN (D := kD k) (ci := 3) (v := .long (0 : Int64)) (ty := .long) (C := RX1) (T := TX1) (N := 2) (A := wA a o s.heap.size) (H0 := s.heap) hx hb htg inG_X1 tyX1 tyX1_ok nmX1 hown hGx.1 hP3 hD3 hS2 0 rfl rfl 0 (by decide) (va_Nw.use rfl (gx_nf hGx (q := ("DatesoloLaw", 13, "DatesoloLaw$Out", "n", "J", "DatesoloLaw")) (by decide +kernel))) (fun _ h9 => h9) rfl (by decide +kernel) rfl rfl (Nat.le_of_ble_eq_true rfl) dL_isLeapYear_14 (fun H4 locs4 hP4 _ hS4 => ?_)
      refine lv_goto (tgt := 23) hx hb dL_isLeapYear_17 (by decide) ?_
      refine lv_iconst (v := 0) hx hb dL_isLeapYear_23 (by decide) ?_
      have hP5 : va_P (kD k) vwCl (cW k a (z)) H4 := hP4.sub [1, 2, 3, 4, 5] rfl
      have hO5 : oP k o (0 : Int64) H4 := ⟨w9, hP4.sub [0] rfl⟩
      have hv9 : (if (m_X0_isLeapYear p1 z).1 = 0 then (if (m_X0_isLeapYear p1 z).2 = 0 then (0 : Int64) else 1) else v) = (0 : Int64) := (if_pos h0).trans (if_pos h1)
      rw [hv9]
      exact w_iret hx hb hr hlocks (by rw [h0]; rfl) hP5 hO5 hS4 ⟨Nat.le_of_ble_eq_true rfl, Nat.le_of_ble_eq_true rfl⟩ dL_isLeapYear_24
    · refine lv_lconst (v := 1) hx hb dL_isLeapYear_9 (by decide) ?_
      refine lv_goto (tgt := 14) hx hb dL_isLeapYear_10 (by decide) ?_
      refine va_putN (D := kD k) (ci := 3) (v := .long (1 : Int64)) (ty := .long) (C := RX1) (T := TX1) (N := 2) (A := wA a o s.heap.size) (H0 := s.heap) hx hb htg inG_X1 tyX1 tyX1_ok nmX1 hown hGx.1 hP3 hD3 hS2 0 rfl rfl 0 (by decide) (va_Nw.use rfl (gx_nf hGx (q := ("DatesoloLaw", 13, "DatesoloLaw$Out", "n", "J", "DatesoloLaw")) (by decide +kernel))) (fun _ h9 => h9) rfl (by decide +kernel) rfl rfl (Nat.le_of_ble_eq_true rfl) dL_isLeapYear_14 (fun H4 locs4 hP4 _ hS4 => ?_)
      refine lv_goto (tgt := 23) hx hb dL_isLeapYear_17 (by decide) ?_
      refine lv_iconst (v := 0) hx hb dL_isLeapYear_23 (by decide) ?_
      have hP5 : va_P (kD k) vwCl (cW k a (z)) H4 := hP4.sub [1, 2, 3, 4, 5] rfl
      have hO5 : oP k o (1 : Int64) H4 := ⟨w9, hP4.sub [0] rfl⟩
      have hv9 : (if (m_X0_isLeapYear p1 z).1 = 0 then (if (m_X0_isLeapYear p1 z).2 = 0 then (0 : Int64) else 1) else v) = (1 : Int64) := (if_pos h0).trans (if_neg h1)
      rw [hv9]
      exact w_iret hx hb hr hlocks (by rw [h0]; rfl) hP5 hO5 hS4 ⟨Nat.le_of_ble_eq_true rfl, Nat.le_of_ble_eq_true rfl⟩ dL_isLeapYear_24
noncomputable abbrev wsL_field : List Cond := .codeWith yL_field cL_field 5 (some .int) [(0, 11, 14, 19), (0, 11, 18, 21)] :: GL
theorem kw_L_field : (∃ ws', wsL_field = Cond.codeWith yL_field cL_field 5 (some .int) [(0, 11, 14, 19), (0, 11, 18, 21)] :: ws') ∧ yL_field.cls ≠ "java/lang/invoke/MethodHandle" ∧ yL_field.cls ≠ "java/lang/invoke/VarHandle" ∧ (parseMethodDescriptor yL_field.desc).map (fun d => d.parameters.length) = some 4 := ⟨⟨_, rfl⟩, by decide +kernel, by decide +kernel, by decide +kernel⟩
set_option maxRecDepth 100000 in
set_option maxHeartbeats 4000000 in
theorem k_L_field (l : Launch) (hl9 : l.stackTraces = false) (k : Kx) (a : CA) (hD : cD k a) (o : Nat) (p1 : Int32) (p2 : Int32) (z : CS) (v : Int64) (hres : (m_X0_field p1 p2 z).1 = 0 ∨ (m_X0_field p1 p2 z).1 = 1 ∨ (m_X0_field p1 p2 z).1 = 2) : wM l k a o yL_field wsL_field 9 205 2 12 [.ref a.1, .int p1, .int p2, .ref o] z v (wk 1 2 ((m_X0_field p1 p2 z).1)) (z) (if (m_X0_field p1 p2 z).1 = 0 then ((m_X0_field p1 p2 z).2).toInt64 else v) := by
  intro sz
  refine va_MetW (cc := cL_field) (maxL := 5) (ret := (some .int)) (hh := [(0, 11, 14, 19), (0, 11, 18, 21)]) (by decide) rfl ?_
  intro p e s m args below meth c s₁ B hml hv
  obtain ⟨rfl, rfl, hGx, hP, hO, hob, hoa⟩ := hv
  have hx := B.exec
  have hb := B.bytes
  have hr := B.returns
  have hts := atoms_spec (ws := wsL_field) B.pre
  have hown : s.vm.findClass RL = some m.cls := findClass_of_methodNamed B.named
  have hlocks := B.notSynchronized
  have htg : ∀ w ∈ GL, w.before _ s = true := fun w h => hts w (List.mem_cons_of_mem _ h)
  have hC : CallFix p m c cL_field 5 s _ wsL_field RL := ⟨hx, hb, hml, hown, hts⟩
  have htab : c.exceptionTable.toList = tableOf [(0, 11, 14, 19), (0, 11, 18, 21)] := vx_table (x := yL_field) B (hts _ List.mem_cons_self)
  have hl := lv_entry ([.ref a.1, .int p1, .int p2, .ref o]) (n := 5) (Nat.le_of_ble_eq_true rfl)
  rw [lg_entry_eq]
  generalize (lg_sl ([.ref a.1, .int p1, .int p2, .ref o]) ++ List.replicate (5 - (lg_sl ([.ref a.1, .int p1, .int p2, .ref o])).length) Slot.unset).toArray = ls at hl ⊢
  have hl : lv_has ls 5 [(0, .ref a.1), (1, .int p1), (2, .int p2), (3, .ref o)] := hl
  refine lv_aload_n hx hb dL_field_0 rfl (lv_at hl 3 rfl) ?_
  refine lv_aload_n hx hb dL_field_1 rfl (lv_at hl 0 rfl) ?_
  refine lv_iload_n hx hb dL_field_2 rfl (lv_at hl 1 rfl) ?_
  refine lv_iload_n hx hb dL_field_3 rfl (lv_at hl 2 rfl) ?_
  refine cv_V hC hGx hD (c_X0_field l hl9 k a hD p1 p2 z) (gV w_908 w_292 w_293 w_26 w_294) kk_X0_field rfl ⟨Nat.le_of_ble_eq_true rfl, Nat.le_of_ble_eq_true rfl⟩ ⟨Nat.le_of_ble_eq_true rfl, Nat.le_of_ble_eq_true rfl⟩ hP va_S.rf hl.1 rfl rfl (Nat.le_of_ble_eq_true rfl) dL_field_4 (fun h0 ce q H1 locs1 hP1 hS1 hce hcv hcl => ?_) (fun h0 H1 locs1 hP1 hS1 => ?_)
  · obtain ⟨hO1, hS2⟩ := w_pre (z := z) hO hoa hS1
    rcases hres with h | h | h
    · exact absurd h h0
    · have hcl : s.vm.findClass "java/lang/IndexOutOfBoundsException" = some ce.cls := by rw [h] at hcl; exact hcl
      refine vx_catch (E := "java/lang/IndexOutOfBoundsException") hown [] ⟨0, 11, 14, 19⟩ [⟨0, 11, 18, 21⟩] (by rw [htab]; rfl) (List.forall_mem_nil _) (by decide) (by decide) (htg _ w_622) (gx_cast hGx (by decide)) hce hcv hcl ?_
      refine lv_astore (lv' := [(4, .ref q), (0, .ref a.1), (1, .int p1), (2, .int p2), (3, .ref o)]) hx hb dL_field_14 hl (by decide) rfl (fun ls hl => ?_)
      refine lv_iconst (v := 1) hx hb dL_field_16 (by decide) ?_
      have hv9 : (if (m_X0_field p1 p2 z).1 = 0 then ((m_X0_field p1 p2 z).2).toInt64 else v) = v := if_neg h0
      rw [hv9]
      exact w_iret hx hb hr hlocks (by rw [h]; rfl) hP1 hO1 hS2 ⟨Nat.le_of_ble_eq_true rfl, Nat.le_of_ble_eq_true rfl⟩ dL_field_17
    · have hcl : s.vm.findClass "java/lang/IllegalArgumentException" = some ce.cls := by rw [h] at hcl; exact hcl
      refine vx_catch (E := "java/lang/IllegalArgumentException") hown [⟨0, 11, 14, 19⟩] ⟨0, 11, 18, 21⟩ [] (by rw [htab]; rfl) (List.forall_mem_cons.mpr ⟨Or.inr ⟨by decide, "java/lang/IndexOutOfBoundsException", (htg _ w_622), gx_nc hGx (q := ("java/lang/IllegalArgumentException", "java/lang/IndexOutOfBoundsException")) (by decide)⟩, (List.forall_mem_nil _)⟩) (by decide) (by decide) (htg _ w_623) (gx_cast hGx (by decide)) hce hcv hcl ?_
      refine lv_astore (lv' := [(4, .ref q), (0, .ref a.1), (1, .int p1), (2, .int p2), (3, .ref o)]) hx hb dL_field_18 hl (by decide) rfl (fun ls hl => ?_)
      refine lv_iconst (v := 2) hx hb dL_field_20 (by decide) ?_
      have hv9 : (if (m_X0_field p1 p2 z).1 = 0 then ((m_X0_field p1 p2 z).2).toInt64 else v) = v := if_neg h0
      rw [hv9]
      exact w_iret hx hb hr hlocks (by rw [h]; rfl) hP1 hO1 hS2 ⟨Nat.le_of_ble_eq_true rfl, Nat.le_of_ble_eq_true rfl⟩ dL_field_21
  · obtain ⟨hO1, hS2⟩ := w_pre (z := z) hO hoa hS1
    obtain ⟨w9, hO1⟩ := hO1
    have hP3 := va_P.app (w1 := [(o, _)]) hO1 hP1
    have hD3 := w_D (n := s.heap.size) (x := .inr (3, [.long v, w9])) (z := z) hD hoa
    refine lv_i2l hx hb dL_field_7 rfl ?_
    refine va_putN (D := kD k) (ci := 3) (v := .long (((m_X0_field p1 p2 z).2).toInt64)) (ty := .long) (C := RX1) (T := TX1) (N := 2) (A := wA a o s.heap.size) (H0 := s.heap) hx hb htg inG_X1 tyX1 tyX1_ok nmX1 hown hGx.1 hP3 hD3 hS2 0 rfl rfl 0 (by decide) (va_Nw.use rfl (gx_nf hGx (q := ("DatesoloLaw", 13, "DatesoloLaw$Out", "n", "J", "DatesoloLaw")) (by decide +kernel))) (fun _ h9 => h9) rfl (by decide +kernel) rfl rfl (Nat.le_of_ble_eq_true rfl) dL_field_8 (fun H4 locs4 hP4 _ hS4 => ?_)
    refine lv_goto (tgt := 22) hx hb dL_field_11 (by decide) ?_
    refine lv_iconst (v := 0) hx hb dL_field_22 (by decide) ?_
    have hP5 : va_P (kD k) vwCl (cW k a (z)) H4 := hP4.sub [1, 2, 3, 4, 5] rfl
    have hO5 : oP k o (((m_X0_field p1 p2 z).2).toInt64) H4 := ⟨w9, hP4.sub [0] rfl⟩
    have hv9 : (if (m_X0_field p1 p2 z).1 = 0 then ((m_X0_field p1 p2 z).2).toInt64 else v) = ((m_X0_field p1 p2 z).2).toInt64 := if_pos h0
    rw [hv9]
    exact w_iret hx hb hr hlocks (by rw [h0]; rfl) hP5 hO5 hS4 ⟨Nat.le_of_ble_eq_true rfl, Nat.le_of_ble_eq_true rfl⟩ dL_field_23
noncomputable abbrev wsL_toDay : List Cond := .codeWith yL_toDay cL_toDay 4 (some .int) [(0, 10, 13, 19)] :: GL
theorem kw_L_toDay : (∃ ws', wsL_toDay = Cond.codeWith yL_toDay cL_toDay 4 (some .int) [(0, 10, 13, 19)] :: ws') ∧ yL_toDay.cls ≠ "java/lang/invoke/MethodHandle" ∧ yL_toDay.cls ≠ "java/lang/invoke/VarHandle" ∧ (parseMethodDescriptor yL_toDay.desc).map (fun d => d.parameters.length) = some 3 := ⟨⟨_, rfl⟩, by decide +kernel, by decide +kernel, by decide +kernel⟩
set_option maxRecDepth 100000 in
set_option maxHeartbeats 4000000 in
theorem k_L_toDay (l : Launch) (hl9 : l.stackTraces = false) (k : Kx) (a : CA) (hD : cD k a) (o : Nat) (p1 : Int32) (z : CS) (v : Int64) (hres : (m_X0_toDay p1 z).1 = 0 ∨ (m_X0_toDay p1 z).1 = 1) : wM l k a o yL_toDay wsL_toDay 9 202 1 6 [.ref a.1, .int p1, .ref o] z v (wk 1 1 ((m_X0_toDay p1 z).1)) (z) (if (m_X0_toDay p1 z).1 = 0 then ((m_X0_toDay p1 z).2).toInt64 else v) := by
  intro sz
  refine va_MetW (cc := cL_toDay) (maxL := 4) (ret := (some .int)) (hh := [(0, 10, 13, 19)]) (by decide) rfl ?_
  intro p e s m args below meth c s₁ B hml hv
  obtain ⟨rfl, rfl, hGx, hP, hO, hob, hoa⟩ := hv
  have hx := B.exec
  have hb := B.bytes
  have hr := B.returns
  have hts := atoms_spec (ws := wsL_toDay) B.pre
  have hown : s.vm.findClass RL = some m.cls := findClass_of_methodNamed B.named
  have hlocks := B.notSynchronized
  have htg : ∀ w ∈ GL, w.before _ s = true := fun w h => hts w (List.mem_cons_of_mem _ h)
  have hC : CallFix p m c cL_toDay 4 s _ wsL_toDay RL := ⟨hx, hb, hml, hown, hts⟩
  have htab : c.exceptionTable.toList = tableOf [(0, 10, 13, 19)] := vx_table (x := yL_toDay) B (hts _ List.mem_cons_self)
  have hl := lv_entry ([.ref a.1, .int p1, .ref o]) (n := 4) (Nat.le_of_ble_eq_true rfl)
  rw [lg_entry_eq]
  generalize (lg_sl ([.ref a.1, .int p1, .ref o]) ++ List.replicate (4 - (lg_sl ([.ref a.1, .int p1, .ref o])).length) Slot.unset).toArray = ls at hl ⊢
  have hl : lv_has ls 4 [(0, .ref a.1), (1, .int p1), (2, .ref o)] := hl
  refine lv_aload_n hx hb dL_toDay_0 rfl (lv_at hl 2 rfl) ?_
  refine lv_aload_n hx hb dL_toDay_1 rfl (lv_at hl 0 rfl) ?_
  refine lv_iload_n hx hb dL_toDay_2 rfl (lv_at hl 1 rfl) ?_
  refine cv_V hC hGx hD (c_X0_toDay l hl9 k a hD p1 z) (gV w_912 w_243 w_244 w_26 w_245) kk_X0_toDay rfl ⟨Nat.le_of_ble_eq_true rfl, Nat.le_of_ble_eq_true rfl⟩ ⟨Nat.le_of_ble_eq_true rfl, Nat.le_of_ble_eq_true rfl⟩ hP va_S.rf hl.1 rfl rfl (Nat.le_of_ble_eq_true rfl) dL_toDay_3 (fun h0 ce q H1 locs1 hP1 hS1 hce hcv hcl => ?_) (fun h0 H1 locs1 hP1 hS1 => ?_)
  · obtain ⟨hO1, hS2⟩ := w_pre (z := z) hO hoa hS1
    rcases hres with h | h
    · exact absurd h h0
    · have hcl : s.vm.findClass "java/lang/IndexOutOfBoundsException" = some ce.cls := by rw [h] at hcl; exact hcl
      refine vx_catch (E := "java/lang/IndexOutOfBoundsException") hown [] ⟨0, 10, 13, 19⟩ [] (by rw [htab]; rfl) (List.forall_mem_nil _) (by decide) (by decide) (htg _ w_622) (gx_cast hGx (by decide)) hce hcv hcl ?_
      refine lv_astore_n (lv' := [(3, .ref q), (0, .ref a.1), (1, .int p1), (2, .ref o)]) hx hb dL_toDay_13 rfl hl (by decide) rfl (fun ls hl => ?_)
      refine lv_iconst (v := 1) hx hb dL_toDay_14 (by decide) ?_
      have hv9 : (if (m_X0_toDay p1 z).1 = 0 then ((m_X0_toDay p1 z).2).toInt64 else v) = v := if_neg h0
      rw [hv9]
      exact w_iret hx hb hr hlocks (by rw [h]; rfl) hP1 hO1 hS2 ⟨Nat.le_of_ble_eq_true rfl, Nat.le_of_ble_eq_true rfl⟩ dL_toDay_15
  · obtain ⟨hO1, hS2⟩ := w_pre (z := z) hO hoa hS1
    obtain ⟨w9, hO1⟩ := hO1
    have hP3 := va_P.app (w1 := [(o, _)]) hO1 hP1
    have hD3 := w_D (n := s.heap.size) (x := .inr (3, [.long v, w9])) (z := z) hD hoa
    refine lv_i2l hx hb dL_toDay_6 rfl ?_
    refine va_putN (D := kD k) (ci := 3) (v := .long (((m_X0_toDay p1 z).2).toInt64)) (ty := .long) (C := RX1) (T := TX1) (N := 2) (A := wA a o s.heap.size) (H0 := s.heap) hx hb htg inG_X1 tyX1 tyX1_ok nmX1 hown hGx.1 hP3 hD3 hS2 0 rfl rfl 0 (by decide) (va_Nw.use rfl (gx_nf hGx (q := ("DatesoloLaw", 13, "DatesoloLaw$Out", "n", "J", "DatesoloLaw")) (by decide +kernel))) (fun _ h9 => h9) rfl (by decide +kernel) rfl rfl (Nat.le_of_ble_eq_true rfl) dL_toDay_7 (fun H4 locs4 hP4 _ hS4 => ?_)
    refine lv_goto (tgt := 16) hx hb dL_toDay_10 (by decide) ?_
    refine lv_iconst (v := 0) hx hb dL_toDay_16 (by decide) ?_
    have hP5 : va_P (kD k) vwCl (cW k a (z)) H4 := hP4.sub [1, 2, 3, 4, 5] rfl
    have hO5 : oP k o (((m_X0_toDay p1 z).2).toInt64) H4 := ⟨w9, hP4.sub [0] rfl⟩
    have hv9 : (if (m_X0_toDay p1 z).1 = 0 then ((m_X0_toDay p1 z).2).toInt64 else v) = ((m_X0_toDay p1 z).2).toInt64 := if_pos h0
    rw [hv9]
    exact w_iret hx hb hr hlocks (by rw [h0]; rfl) hP5 hO5 hS4 ⟨Nat.le_of_ble_eq_true rfl, Nat.le_of_ble_eq_true rfl⟩ dL_toDay_17
noncomputable abbrev wsL_text : List Cond := .codeWith yL_text cL_text 4 (some .int) [(0, 9, 12, 19)] :: GL
theorem kw_L_text : (∃ ws', wsL_text = Cond.codeWith yL_text cL_text 4 (some .int) [(0, 9, 12, 19)] :: ws') ∧ yL_text.cls ≠ "java/lang/invoke/MethodHandle" ∧ yL_text.cls ≠ "java/lang/invoke/VarHandle" ∧ (parseMethodDescriptor yL_text.desc).map (fun d => d.parameters.length) = some 3 := ⟨⟨_, rfl⟩, by decide +kernel, by decide +kernel, by decide +kernel⟩
set_option maxRecDepth 100000 in
set_option maxHeartbeats 4000000 in
theorem k_L_text (l : Launch) (hl9 : l.stackTraces = false) (k : Kx) (a : CA) (hD : cD k a) (o : Nat) (p1 : Int32) (z : CS) (v : Int64) {rt : Nat × Nat} (hm : o_X0_text p1 z = some rt) (hres : rt.1 = 0 ∨ rt.1 = 1) : wM l k a o yL_text wsL_text 9 465 5 46 [.ref a.1, .int p1, .ref o] z v (wk 1 1 (rt.1)) (z) v := by
  intro sz
  refine va_MetW (cc := cL_text) (maxL := 4) (ret := (some .int)) (hh := [(0, 9, 12, 19)]) (by decide) rfl ?_
  intro p e s m args below meth c s₁ B hml hv
  obtain ⟨rfl, rfl, hGx, hP, hO, hob, hoa⟩ := hv
  have hx := B.exec
  have hb := B.bytes
  have hr := B.returns
  have hts := atoms_spec (ws := wsL_text) B.pre
  have hown : s.vm.findClass RL = some m.cls := findClass_of_methodNamed B.named
  have hlocks := B.notSynchronized
  have htg : ∀ w ∈ GL, w.before _ s = true := fun w h => hts w (List.mem_cons_of_mem _ h)
  have hC : CallFix p m c cL_text 4 s _ wsL_text RL := ⟨hx, hb, hml, hown, hts⟩
  have htab : c.exceptionTable.toList = tableOf [(0, 9, 12, 19)] := vx_table (x := yL_text) B (hts _ List.mem_cons_self)
  have hl := lv_entry ([.ref a.1, .int p1, .ref o]) (n := 4) (Nat.le_of_ble_eq_true rfl)
  rw [lg_entry_eq]
  generalize (lg_sl ([.ref a.1, .int p1, .ref o]) ++ List.replicate (4 - (lg_sl ([.ref a.1, .int p1, .ref o])).length) Slot.unset).toArray = ls at hl ⊢
  have hl : lv_has ls 4 [(0, .ref a.1), (1, .int p1), (2, .ref o)] := hl
  refine lv_aload_n hx hb dL_text_0 rfl (lv_at hl 2 rfl) ?_
  refine lv_aload_n hx hb dL_text_1 rfl (lv_at hl 0 rfl) ?_
  refine lv_iload_n hx hb dL_text_2 rfl (lv_at hl 1 rfl) ?_
  refine cx_Vg hC hGx hD (k_X0_text l hl9 k a hD p1 z hm) (gV w_916 w_322 w_323 w_26 w_324) kk_X0_text rfl ⟨Nat.le_of_ble_eq_true rfl, Nat.le_of_ble_eq_true rfl⟩ ⟨Nat.le_of_ble_eq_true rfl, Nat.le_of_ble_eq_true rfl⟩ hP va_S.rf hl.1 rfl rfl (Nat.le_of_ble_eq_true rfl) dL_text_3 (fun h0 ce q H1 locs1 hP1 hS1 hce hcv hcl => ?_) (fun h0 t H1 locs1 hT hP1 hS1 => ?_)
  · obtain ⟨hO1, hS2⟩ := w_pre (z := z) hO hoa hS1
    rcases hres with h | h
    · exact absurd h h0
    · have hcl : s.vm.findClass "java/lang/IndexOutOfBoundsException" = some ce.cls := by rw [h] at hcl; exact hcl
      refine vx_catch (E := "java/lang/IndexOutOfBoundsException") hown [] ⟨0, 9, 12, 19⟩ [] (by rw [htab]; rfl) (List.forall_mem_nil _) (by decide) (by decide) (htg _ w_622) (gx_cast hGx (by decide)) hce hcv hcl ?_
      refine lv_astore_n (lv' := [(3, .ref q), (0, .ref a.1), (1, .int p1), (2, .ref o)]) hx hb dL_text_12 rfl hl (by decide) rfl (fun ls hl => ?_)
      refine lv_iconst (v := 1) hx hb dL_text_13 (by decide) ?_
      have hv9 : v = v := rfl
      skip
      exact w_iret hx hb hr hlocks (by rw [h]; rfl) hP1 hO1 hS2 ⟨Nat.le_of_ble_eq_true rfl, Nat.le_of_ble_eq_true rfl⟩ dL_text_14
  · obtain ⟨hO1, hS2⟩ := w_pre (z := z) hO hoa hS1
    obtain ⟨w9, hO1⟩ := hO1
    have hP3 := va_P.app (w1 := [(o, _)]) hO1 hP1
    have hD3 := w_D (n := s.heap.size) (x := .inr (3, [.long v, w9])) (z := z) hD hoa
    refine va_putN (D := kD k) (ci := 3) (v := .ref t.1) (ty := .object "java/lang/String") (C := RX1) (T := TX1) (N := 2) (A := wA a o s.heap.size) (H0 := s.heap) hx hb htg inG_X1 tyX1 tyX1_ok nmX1 hown hGx.1 hP3 hD3 hS2 0 rfl rfl 1 (by decide) (va_Nw.use rfl (gx_nf hGx (q := ("DatesoloLaw", 141, "DatesoloLaw$Out", "s", "Ljava/lang/String;", "DatesoloLaw")) (by decide +kernel))) (fun _ h9 => h9) rfl (by decide +kernel) rfl rfl (Nat.le_of_ble_eq_true rfl) dL_text_6 (fun H4 locs4 hP4 _ hS4 => ?_)
    refine lv_goto (tgt := 15) hx hb dL_text_9 (by decide) ?_
    refine lv_iconst (v := 0) hx hb dL_text_15 (by decide) ?_
    have hP5 : va_P (kD k) vwCl (cW k a (z)) H4 := hP4.sub [1, 2, 3, 4, 5] rfl
    have hO5 : oP k o v H4 := ⟨.ref t.1, hP4.sub [0] rfl⟩
    exact w_iret hx hb hr hlocks (by rw [h0]; rfl) hP5 hO5 hS4 ⟨Nat.le_of_ble_eq_true rfl, Nat.le_of_ble_eq_true rfl⟩ dL_text_16
noncomputable abbrev wsL_isDate : List Cond := .codeWith yL_isDate cL_isDate 6 (some .int) [(0, 20, 23, 21)] :: GL
theorem kw_L_isDate : (∃ ws', wsL_isDate = Cond.codeWith yL_isDate cL_isDate 6 (some .int) [(0, 20, 23, 21)] :: ws') ∧ yL_isDate.cls ≠ "java/lang/invoke/MethodHandle" ∧ yL_isDate.cls ≠ "java/lang/invoke/VarHandle" ∧ (parseMethodDescriptor yL_isDate.desc).map (fun d => d.parameters.length) = some 5 := ⟨⟨_, rfl⟩, by decide +kernel, by decide +kernel, by decide +kernel⟩
set_option maxRecDepth 100000 in
set_option maxHeartbeats 4000000 in
theorem k_L_isDate (l : Launch) (hl9 : l.stackTraces = false) (k : Kx) (a : CA) (hD : cD k a) (o : Nat) (p1 : Int32) (p2 : Int32) (p3 : Int32) (z : CS) (v : Int64) (hres : (m_X0_isDate p1 p2 p3 z).1 = 0 ∨ (m_X0_isDate p1 p2 p3 z).1 = 2) : wM l k a o yL_isDate wsL_isDate 9 207 3 18 [.ref a.1, .int p1, .int p2, .int p3, .ref o] z v (wk 2 2 ((m_X0_isDate p1 p2 p3 z).1)) (z) (if (m_X0_isDate p1 p2 p3 z).1 = 0 then (if (m_X0_isDate p1 p2 p3 z).2 = 0 then (0 : Int64) else 1) else v) := by
  intro sz
  refine va_MetW (cc := cL_isDate) (maxL := 6) (ret := (some .int)) (hh := [(0, 20, 23, 21)]) (by decide) rfl ?_
  intro p e s m args below meth c s₁ B hml hv
  obtain ⟨rfl, rfl, hGx, hP, hO, hob, hoa⟩ := hv
  have hx := B.exec
  have hb := B.bytes
  have hr := B.returns
  have hts := atoms_spec (ws := wsL_isDate) B.pre
  have hown : s.vm.findClass RL = some m.cls := findClass_of_methodNamed B.named
  have hlocks := B.notSynchronized
  have htg : ∀ w ∈ GL, w.before _ s = true := fun w h => hts w (List.mem_cons_of_mem _ h)
  have hC : CallFix p m c cL_isDate 6 s _ wsL_isDate RL := ⟨hx, hb, hml, hown, hts⟩
  have htab : c.exceptionTable.toList = tableOf [(0, 20, 23, 21)] := vx_table (x := yL_isDate) B (hts _ List.mem_cons_self)
  have hl := lv_entry ([.ref a.1, .int p1, .int p2, .int p3, .ref o]) (n := 6) (Nat.le_of_ble_eq_true rfl)
  rw [lg_entry_eq]
  generalize (lg_sl ([.ref a.1, .int p1, .int p2, .int p3, .ref o]) ++ List.replicate (6 - (lg_sl ([.ref a.1, .int p1, .int p2, .int p3, .ref o])).length) Slot.unset).toArray = ls at hl ⊢
  have hl : lv_has ls 6 [(0, .ref a.1), (1, .int p1), (2, .int p2), (3, .int p3), (4, .ref o)] := hl
  refine lv_aload hx hb dL_isDate_0 (lv_at hl 4 rfl) ?_
  refine lv_aload_n hx hb dL_isDate_2 rfl (lv_at hl 0 rfl) ?_
  refine lv_iload_n hx hb dL_isDate_3 rfl (lv_at hl 1 rfl) ?_
  refine lv_iload_n hx hb dL_isDate_4 rfl (lv_at hl 2 rfl) ?_
  refine lv_iload_n hx hb dL_isDate_5 rfl (lv_at hl 3 rfl) ?_
  refine cv_V hC hGx hD (c_X0_isDate l hl9 k a hD p1 p2 p3 z) (gV w_920 w_921 w_922 w_26 w_923) kk_X0_isDate rfl ⟨Nat.le_of_ble_eq_true rfl, Nat.le_of_ble_eq_true rfl⟩ ⟨Nat.le_of_ble_eq_true rfl, Nat.le_of_ble_eq_true rfl⟩ hP va_S.rf hl.1 rfl rfl (Nat.le_of_ble_eq_true rfl) dL_isDate_6 (fun h0 ce q H1 locs1 hP1 hS1 hce hcv hcl => ?_) (fun h0 H1 locs1 hP1 hS1 => ?_)
  · obtain ⟨hO1, hS2⟩ := w_pre (z := z) hO hoa hS1
    rcases hres with h | h
    · exact absurd h h0
    · have hcl : s.vm.findClass "java/lang/IllegalArgumentException" = some ce.cls := by rw [h] at hcl; exact hcl
      refine vx_catch (E := "java/lang/IllegalArgumentException") hown [] ⟨0, 20, 23, 21⟩ [] (by rw [htab]; rfl) (List.forall_mem_nil _) (by decide) (by decide) (htg _ w_623) (gx_cast hGx (by decide)) hce hcv hcl ?_
      refine lv_astore (lv' := [(5, .ref q), (0, .ref a.1), (1, .int p1), (2, .int p2), (3, .int p3), (4, .ref o)]) hx hb dL_isDate_23 hl (by decide) rfl (fun ls hl => ?_)
      refine lv_iconst (v := 1) hx hb dL_isDate_25 (by decide) ?_
      have hv9 : (if (m_X0_isDate p1 p2 p3 z).1 = 0 then (if (m_X0_isDate p1 p2 p3 z).2 = 0 then (0 : Int64) else 1) else v) = v := if_neg h0
      rw [hv9]
      exact w_iret hx hb hr hlocks (by rw [h]; rfl) hP1 hO1 hS2 ⟨Nat.le_of_ble_eq_true rfl, Nat.le_of_ble_eq_true rfl⟩ dL_isDate_26
  · obtain ⟨hO1, hS2⟩ := w_pre (z := z) hO hoa hS1
    obtain ⟨w9, hO1⟩ := hO1
    have hP3 := va_P.app (w1 := [(o, _)]) hO1 hP1
    have hD3 := w_D (n := s.heap.size) (x := .inr (3, [.long v, w9])) (z := z) hD hoa
    refine lv_if_eq (tgt := 16) hx hb dL_isDate_9 (by decide) (fun h1 => ?_) (fun h1 => ?_)
    · refine lv_lconst (v := 0) hx hb dL_isDate_16 (by decide) ?_
      refine va_putN (D := kD k) (ci := 3) (v := .long (0 : Int64)) (ty := .long) (C := RX1) (T := TX1) (N := 2) (A := wA a o s.heap.size) (H0 := s.heap) hx hb htg inG_X1 tyX1 tyX1_ok nmX1 hown hGx.1 hP3 hD3 hS2 0 rfl rfl 0 (by decide) (va_Nw.use rfl (gx_nf hGx (q := ("DatesoloLaw", 13, "DatesoloLaw$Out", "n", "J", "DatesoloLaw")) (by decide +kernel))) (fun _ h9 => h9) rfl (by decide +kernel) rfl rfl (Nat.le_of_ble_eq_true rfl) dL_isDate_17 (fun H4 locs4 hP4 _ hS4 => ?_)
      refine lv_goto (tgt := 27) hx hb dL_isDate_20 (by decide) ?_
      refine lv_iconst (v := 0) hx hb dL_isDate_27 (by decide) ?_
      have hP5 : va_P (kD k) vwCl (cW k a (z)) H4 := hP4.sub [1, 2, 3, 4, 5] rfl
      have hO5 : oP k o (0 : Int64) H4 := ⟨w9, hP4.sub [0] rfl⟩
      have hv9 : (if (m_X0_isDate p1 p2 p3 z).1 = 0 then (if (m_X0_isDate p1 p2 p3 z).2 = 0 then (0 : Int64) else 1) else v) = (0 : Int64) := (if_pos h0).trans (if_pos h1)
      rw [hv9]
      exact w_iret hx hb hr hlocks (by rw [h0]; rfl) hP5 hO5 hS4 ⟨Nat.le_of_ble_eq_true rfl, Nat.le_of_ble_eq_true rfl⟩ dL_isDate_28
    · refine lv_lconst (v := 1) hx hb dL_isDate_12 (by decide) ?_
      refine lv_goto (tgt := 17) hx hb dL_isDate_13 (by decide) ?_
      refine va_putN (D := kD k) (ci := 3) (v := .long (1 : Int64)) (ty := .long) (C := RX1) (T := TX1) (N := 2) (A := wA a o s.heap.size) (H0 := s.heap) hx hb htg inG_X1 tyX1 tyX1_ok nmX1 hown hGx.1 hP3 hD3 hS2 0 rfl rfl 0 (by decide) (va_Nw.use rfl (gx_nf hGx (q := ("DatesoloLaw", 13, "DatesoloLaw$Out", "n", "J", "DatesoloLaw")) (by decide +kernel))) (fun _ h9 => h9) rfl (by decide +kernel) rfl rfl (Nat.le_of_ble_eq_true rfl) dL_isDate_17 (fun H4 locs4 hP4 _ hS4 => ?_)
      refine lv_goto (tgt := 27) hx hb dL_isDate_20 (by decide) ?_
      refine lv_iconst (v := 0) hx hb dL_isDate_27 (by decide) ?_
      have hP5 : va_P (kD k) vwCl (cW k a (z)) H4 := hP4.sub [1, 2, 3, 4, 5] rfl
      have hO5 : oP k o (1 : Int64) H4 := ⟨w9, hP4.sub [0] rfl⟩
      have hv9 : (if (m_X0_isDate p1 p2 p3 z).1 = 0 then (if (m_X0_isDate p1 p2 p3 z).2 = 0 then (0 : Int64) else 1) else v) = (1 : Int64) := (if_pos h0).trans (if_neg h1)
      rw [hv9]
      exact w_iret hx hb hr hlocks (by rw [h0]; rfl) hP5 hO5 hS4 ⟨Nat.le_of_ble_eq_true rfl, Nat.le_of_ble_eq_true rfl⟩ dL_isDate_28
noncomputable abbrev wsL_wouldBe : List Cond := .codeWith yL_wouldBe cL_wouldBe 6 (some .int) [(0, 13, 16, 19), (0, 13, 20, 21), (0, 13, 24, 23)] :: GL
theorem kw_L_wouldBe : (∃ ws', wsL_wouldBe = Cond.codeWith yL_wouldBe cL_wouldBe 6 (some .int) [(0, 13, 16, 19), (0, 13, 20, 21), (0, 13, 24, 23)] :: ws') ∧ yL_wouldBe.cls ≠ "java/lang/invoke/MethodHandle" ∧ yL_wouldBe.cls ≠ "java/lang/invoke/VarHandle" ∧ (parseMethodDescriptor yL_wouldBe.desc).map (fun d => d.parameters.length) = some 5 := ⟨⟨_, rfl⟩, by decide +kernel, by decide +kernel, by decide +kernel⟩
set_option maxRecDepth 100000 in
set_option maxHeartbeats 4000000 in
theorem k_L_wouldBe (l : Launch) (hl9 : l.stackTraces = false) (k : Kx) (a : CA) (hD : cD k a) (o : Nat) (p1 : Int32) (p2 : Int32) (p3 : Int32) (z : CS) (v : Int64) (hres : (m_X0_wouldBe p1 p2 p3 z).1 = 0 ∨ (m_X0_wouldBe p1 p2 p3 z).1 = 1 ∨ (m_X0_wouldBe p1 p2 p3 z).1 = 2 ∨ (m_X0_wouldBe p1 p2 p3 z).1 = 3) : wM l k a o yL_wouldBe wsL_wouldBe 9 209 4 24 [.ref a.1, .int p1, .int p2, .int p3, .ref o] z v (wk 1 2 ((m_X0_wouldBe p1 p2 p3 z).1)) (z) (if (m_X0_wouldBe p1 p2 p3 z).1 = 0 then ((m_X0_wouldBe p1 p2 p3 z).2).toInt64 else v) := by
  intro sz
  refine va_MetW (cc := cL_wouldBe) (maxL := 6) (ret := (some .int)) (hh := [(0, 13, 16, 19), (0, 13, 20, 21), (0, 13, 24, 23)]) (by decide) rfl ?_
  intro p e s m args below meth c s₁ B hml hv
  obtain ⟨rfl, rfl, hGx, hP, hO, hob, hoa⟩ := hv
  have hx := B.exec
  have hb := B.bytes
  have hr := B.returns
  have hts := atoms_spec (ws := wsL_wouldBe) B.pre
  have hown : s.vm.findClass RL = some m.cls := findClass_of_methodNamed B.named
  have hlocks := B.notSynchronized
  have htg : ∀ w ∈ GL, w.before _ s = true := fun w h => hts w (List.mem_cons_of_mem _ h)
  have hC : CallFix p m c cL_wouldBe 6 s _ wsL_wouldBe RL := ⟨hx, hb, hml, hown, hts⟩
  have htab : c.exceptionTable.toList = tableOf [(0, 13, 16, 19), (0, 13, 20, 21), (0, 13, 24, 23)] := vx_table (x := yL_wouldBe) B (hts _ List.mem_cons_self)
  have hl := lv_entry ([.ref a.1, .int p1, .int p2, .int p3, .ref o]) (n := 6) (Nat.le_of_ble_eq_true rfl)
  rw [lg_entry_eq]
  generalize (lg_sl ([.ref a.1, .int p1, .int p2, .int p3, .ref o]) ++ List.replicate (6 - (lg_sl ([.ref a.1, .int p1, .int p2, .int p3, .ref o])).length) Slot.unset).toArray = ls at hl ⊢
  have hl : lv_has ls 6 [(0, .ref a.1), (1, .int p1), (2, .int p2), (3, .int p3), (4, .ref o)] := hl
  refine lv_aload hx hb dL_wouldBe_0 (lv_at hl 4 rfl) ?_
  refine lv_aload_n hx hb dL_wouldBe_2 rfl (lv_at hl 0 rfl) ?_
  refine lv_iload_n hx hb dL_wouldBe_3 rfl (lv_at hl 1 rfl) ?_
  refine lv_iload_n hx hb dL_wouldBe_4 rfl (lv_at hl 2 rfl) ?_
  refine lv_iload_n hx hb dL_wouldBe_5 rfl (lv_at hl 3 rfl) ?_
  refine cv_V hC hGx hD (c_X0_wouldBe l hl9 k a hD p1 p2 p3 z) (gV w_927 w_928 w_929 w_26 w_930) kk_X0_wouldBe rfl ⟨Nat.le_of_ble_eq_true rfl, Nat.le_of_ble_eq_true rfl⟩ ⟨Nat.le_of_ble_eq_true rfl, Nat.le_of_ble_eq_true rfl⟩ hP va_S.rf hl.1 rfl rfl (Nat.le_of_ble_eq_true rfl) dL_wouldBe_6 (fun h0 ce q H1 locs1 hP1 hS1 hce hcv hcl => ?_) (fun h0 H1 locs1 hP1 hS1 => ?_)
  · obtain ⟨hO1, hS2⟩ := w_pre (z := z) hO hoa hS1
    rcases hres with h | h | h | h
    · exact absurd h h0
    · have hcl : s.vm.findClass "java/lang/IndexOutOfBoundsException" = some ce.cls := by rw [h] at hcl; exact hcl
      refine vx_catch (E := "java/lang/IndexOutOfBoundsException") hown [] ⟨0, 13, 16, 19⟩ [⟨0, 13, 20, 21⟩, ⟨0, 13, 24, 23⟩] (by rw [htab]; rfl) (List.forall_mem_nil _) (by decide) (by decide) (htg _ w_622) (gx_cast hGx (by decide)) hce hcv hcl ?_
      refine lv_astore (lv' := [(5, .ref q), (0, .ref a.1), (1, .int p1), (2, .int p2), (3, .int p3), (4, .ref o)]) hx hb dL_wouldBe_16 hl (by decide) rfl (fun ls hl => ?_)
      refine lv_iconst (v := 1) hx hb dL_wouldBe_18 (by decide) ?_
      have hv9 : (if (m_X0_wouldBe p1 p2 p3 z).1 = 0 then ((m_X0_wouldBe p1 p2 p3 z).2).toInt64 else v) = v := if_neg h0
      rw [hv9]
      exact w_iret hx hb hr hlocks (by rw [h]; rfl) hP1 hO1 hS2 ⟨Nat.le_of_ble_eq_true rfl, Nat.le_of_ble_eq_true rfl⟩ dL_wouldBe_19
    · have hcl : s.vm.findClass "java/lang/IllegalArgumentException" = some ce.cls := by rw [h] at hcl; exact hcl
      refine vx_catch (E := "java/lang/IllegalArgumentException") hown [⟨0, 13, 16, 19⟩] ⟨0, 13, 20, 21⟩ [⟨0, 13, 24, 23⟩] (by rw [htab]; rfl) (List.forall_mem_cons.mpr ⟨Or.inr ⟨by decide, "java/lang/IndexOutOfBoundsException", (htg _ w_622), gx_nc hGx (q := ("java/lang/IllegalArgumentException", "java/lang/IndexOutOfBoundsException")) (by decide)⟩, (List.forall_mem_nil _)⟩) (by decide) (by decide) (htg _ w_623) (gx_cast hGx (by decide)) hce hcv hcl ?_
      refine lv_astore (lv' := [(5, .ref q), (0, .ref a.1), (1, .int p1), (2, .int p2), (3, .int p3), (4, .ref o)]) hx hb dL_wouldBe_20 hl (by decide) rfl (fun ls hl => ?_)
      refine lv_iconst (v := 2) hx hb dL_wouldBe_22 (by decide) ?_
      have hv9 : (if (m_X0_wouldBe p1 p2 p3 z).1 = 0 then ((m_X0_wouldBe p1 p2 p3 z).2).toInt64 else v) = v := if_neg h0
      rw [hv9]
      exact w_iret hx hb hr hlocks (by rw [h]; rfl) hP1 hO1 hS2 ⟨Nat.le_of_ble_eq_true rfl, Nat.le_of_ble_eq_true rfl⟩ dL_wouldBe_23
    · have hcl : s.vm.findClass "java/lang/IllegalStateException" = some ce.cls := by rw [h] at hcl; exact hcl
      refine vx_catch (E := "java/lang/IllegalStateException") hown [⟨0, 13, 16, 19⟩, ⟨0, 13, 20, 21⟩] ⟨0, 13, 24, 23⟩ [] (by rw [htab]; rfl) (List.forall_mem_cons.mpr ⟨Or.inr ⟨by decide, "java/lang/IndexOutOfBoundsException", (htg _ w_622), gx_nc hGx (q := ("java/lang/IllegalStateException", "java/lang/IndexOutOfBoundsException")) (by decide)⟩, (List.forall_mem_cons.mpr ⟨Or.inr ⟨by decide, "java/lang/IllegalArgumentException", (htg _ w_623), gx_nc hGx (q := ("java/lang/IllegalStateException", "java/lang/IllegalArgumentException")) (by decide)⟩, (List.forall_mem_nil _)⟩)⟩) (by decide) (by decide) (htg _ w_624) (gx_cast hGx (by decide)) hce hcv hcl ?_
      refine lv_astore (lv' := [(5, .ref q), (0, .ref a.1), (1, .int p1), (2, .int p2), (3, .int p3), (4, .ref o)]) hx hb dL_wouldBe_24 hl (by decide) rfl (fun ls hl => ?_)
      refine lv_iconst (v := 3) hx hb dL_wouldBe_26 (by decide) ?_
      have hv9 : (if (m_X0_wouldBe p1 p2 p3 z).1 = 0 then ((m_X0_wouldBe p1 p2 p3 z).2).toInt64 else v) = v := if_neg h0
      rw [hv9]
      exact w_iret hx hb hr hlocks (by rw [h]; rfl) hP1 hO1 hS2 ⟨Nat.le_of_ble_eq_true rfl, Nat.le_of_ble_eq_true rfl⟩ dL_wouldBe_27
  · obtain ⟨hO1, hS2⟩ := w_pre (z := z) hO hoa hS1
    obtain ⟨w9, hO1⟩ := hO1
    have hP3 := va_P.app (w1 := [(o, _)]) hO1 hP1
    have hD3 := w_D (n := s.heap.size) (x := .inr (3, [.long v, w9])) (z := z) hD hoa
    refine lv_i2l hx hb dL_wouldBe_9 rfl ?_
    refine va_putN (D := kD k) (ci := 3) (v := .long (((m_X0_wouldBe p1 p2 p3 z).2).toInt64)) (ty := .long) (C := RX1) (T := TX1) (N := 2) (A := wA a o s.heap.size) (H0 := s.heap) hx hb htg inG_X1 tyX1 tyX1_ok nmX1 hown hGx.1 hP3 hD3 hS2 0 rfl rfl 0 (by decide) (va_Nw.use rfl (gx_nf hGx (q := ("DatesoloLaw", 13, "DatesoloLaw$Out", "n", "J", "DatesoloLaw")) (by decide +kernel))) (fun _ h9 => h9) rfl (by decide +kernel) rfl rfl (Nat.le_of_ble_eq_true rfl) dL_wouldBe_10 (fun H4 locs4 hP4 _ hS4 => ?_)
    refine lv_goto (tgt := 28) hx hb dL_wouldBe_13 (by decide) ?_
    refine lv_iconst (v := 0) hx hb dL_wouldBe_28 (by decide) ?_
    have hP5 : va_P (kD k) vwCl (cW k a (z)) H4 := hP4.sub [1, 2, 3, 4, 5] rfl
    have hO5 : oP k o (((m_X0_wouldBe p1 p2 p3 z).2).toInt64) H4 := ⟨w9, hP4.sub [0] rfl⟩
    have hv9 : (if (m_X0_wouldBe p1 p2 p3 z).1 = 0 then ((m_X0_wouldBe p1 p2 p3 z).2).toInt64 else v) = ((m_X0_wouldBe p1 p2 p3 z).2).toInt64 := if_pos h0
    rw [hv9]
    exact w_iret hx hb hr hlocks (by rw [h0]; rfl) hP5 hO5 hS4 ⟨Nat.le_of_ble_eq_true rfl, Nat.le_of_ble_eq_true rfl⟩ dL_wouldBe_29
noncomputable abbrev wsL_compare : List Cond := .codeWith yL_compare cL_compare 5 (some .int) [(0, 11, 14, 19)] :: GL
theorem kw_L_compare : (∃ ws', wsL_compare = Cond.codeWith yL_compare cL_compare 5 (some .int) [(0, 11, 14, 19)] :: ws') ∧ yL_compare.cls ≠ "java/lang/invoke/MethodHandle" ∧ yL_compare.cls ≠ "java/lang/invoke/VarHandle" ∧ (parseMethodDescriptor yL_compare.desc).map (fun d => d.parameters.length) = some 4 := ⟨⟨_, rfl⟩, by decide +kernel, by decide +kernel, by decide +kernel⟩
set_option maxRecDepth 100000 in
set_option maxHeartbeats 4000000 in
theorem k_L_compare (l : Launch) (hl9 : l.stackTraces = false) (k : Kx) (a : CA) (hD : cD k a) (o : Nat) (p1 : Int32) (p2 : Int32) (z : CS) (v : Int64) (hres : (m_X0_compare p1 p2 z).1 = 0 ∨ (m_X0_compare p1 p2 z).1 = 1) : wM l k a o yL_compare wsL_compare 9 203 2 12 [.ref a.1, .int p1, .int p2, .ref o] z v (wk 1 1 ((m_X0_compare p1 p2 z).1)) (z) (if (m_X0_compare p1 p2 z).1 = 0 then ((m_X0_compare p1 p2 z).2).toInt64 else v) := by
  intro sz
  refine va_MetW (cc := cL_compare) (maxL := 5) (ret := (some .int)) (hh := [(0, 11, 14, 19)]) (by decide) rfl ?_
  intro p e s m args below meth c s₁ B hml hv
  obtain ⟨rfl, rfl, hGx, hP, hO, hob, hoa⟩ := hv
  have hx := B.exec
  have hb := B.bytes
  have hr := B.returns
  have hts := atoms_spec (ws := wsL_compare) B.pre
  have hown : s.vm.findClass RL = some m.cls := findClass_of_methodNamed B.named
  have hlocks := B.notSynchronized
  have htg : ∀ w ∈ GL, w.before _ s = true := fun w h => hts w (List.mem_cons_of_mem _ h)
  have hC : CallFix p m c cL_compare 5 s _ wsL_compare RL := ⟨hx, hb, hml, hown, hts⟩
  have htab : c.exceptionTable.toList = tableOf [(0, 11, 14, 19)] := vx_table (x := yL_compare) B (hts _ List.mem_cons_self)
  have hl := lv_entry ([.ref a.1, .int p1, .int p2, .ref o]) (n := 5) (Nat.le_of_ble_eq_true rfl)
  rw [lg_entry_eq]
  generalize (lg_sl ([.ref a.1, .int p1, .int p2, .ref o]) ++ List.replicate (5 - (lg_sl ([.ref a.1, .int p1, .int p2, .ref o])).length) Slot.unset).toArray = ls at hl ⊢
  have hl : lv_has ls 5 [(0, .ref a.1), (1, .int p1), (2, .int p2), (3, .ref o)] := hl
  refine lv_aload_n hx hb dL_compare_0 rfl (lv_at hl 3 rfl) ?_
  refine lv_aload_n hx hb dL_compare_1 rfl (lv_at hl 0 rfl) ?_
  refine lv_iload_n hx hb dL_compare_2 rfl (lv_at hl 1 rfl) ?_
  refine lv_iload_n hx hb dL_compare_3 rfl (lv_at hl 2 rfl) ?_
  refine cv_V hC hGx hD (c_X0_compare l hl9 k a hD p1 p2 z) (gV w_934 w_585 w_586 w_26 w_587) kk_X0_compare rfl ⟨Nat.le_of_ble_eq_true rfl, Nat.le_of_ble_eq_true rfl⟩ ⟨Nat.le_of_ble_eq_true rfl, Nat.le_of_ble_eq_true rfl⟩ hP va_S.rf hl.1 rfl rfl (Nat.le_of_ble_eq_true rfl) dL_compare_4 (fun h0 ce q H1 locs1 hP1 hS1 hce hcv hcl => ?_) (fun h0 H1 locs1 hP1 hS1 => ?_)
  · obtain ⟨hO1, hS2⟩ := w_pre (z := z) hO hoa hS1
    rcases hres with h | h
    · exact absurd h h0
    · have hcl : s.vm.findClass "java/lang/IndexOutOfBoundsException" = some ce.cls := by rw [h] at hcl; exact hcl
      refine vx_catch (E := "java/lang/IndexOutOfBoundsException") hown [] ⟨0, 11, 14, 19⟩ [] (by rw [htab]; rfl) (List.forall_mem_nil _) (by decide) (by decide) (htg _ w_622) (gx_cast hGx (by decide)) hce hcv hcl ?_
      refine lv_astore (lv' := [(4, .ref q), (0, .ref a.1), (1, .int p1), (2, .int p2), (3, .ref o)]) hx hb dL_compare_14 hl (by decide) rfl (fun ls hl => ?_)
      refine lv_iconst (v := 1) hx hb dL_compare_16 (by decide) ?_
      have hv9 : (if (m_X0_compare p1 p2 z).1 = 0 then ((m_X0_compare p1 p2 z).2).toInt64 else v) = v := if_neg h0
      rw [hv9]
      exact w_iret hx hb hr hlocks (by rw [h]; rfl) hP1 hO1 hS2 ⟨Nat.le_of_ble_eq_true rfl, Nat.le_of_ble_eq_true rfl⟩ dL_compare_17
  · obtain ⟨hO1, hS2⟩ := w_pre (z := z) hO hoa hS1
    obtain ⟨w9, hO1⟩ := hO1
    have hP3 := va_P.app (w1 := [(o, _)]) hO1 hP1
    have hD3 := w_D (n := s.heap.size) (x := .inr (3, [.long v, w9])) (z := z) hD hoa
    refine lv_i2l hx hb dL_compare_7 rfl ?_
    refine va_putN (D := kD k) (ci := 3) (v := .long (((m_X0_compare p1 p2 z).2).toInt64)) (ty := .long) (C := RX1) (T := TX1) (N := 2) (A := wA a o s.heap.size) (H0 := s.heap) hx hb htg inG_X1 tyX1 tyX1_ok nmX1 hown hGx.1 hP3 hD3 hS2 0 rfl rfl 0 (by decide) (va_Nw.use rfl (gx_nf hGx (q := ("DatesoloLaw", 13, "DatesoloLaw$Out", "n", "J", "DatesoloLaw")) (by decide +kernel))) (fun _ h9 => h9) rfl (by decide +kernel) rfl rfl (Nat.le_of_ble_eq_true rfl) dL_compare_8 (fun H4 locs4 hP4 _ hS4 => ?_)
    refine lv_goto (tgt := 18) hx hb dL_compare_11 (by decide) ?_
    refine lv_iconst (v := 0) hx hb dL_compare_18 (by decide) ?_
    have hP5 : va_P (kD k) vwCl (cW k a (z)) H4 := hP4.sub [1, 2, 3, 4, 5] rfl
    have hO5 : oP k o (((m_X0_compare p1 p2 z).2).toInt64) H4 := ⟨w9, hP4.sub [0] rfl⟩
    have hv9 : (if (m_X0_compare p1 p2 z).1 = 0 then ((m_X0_compare p1 p2 z).2).toInt64 else v) = ((m_X0_compare p1 p2 z).2).toInt64 := if_pos h0
    rw [hv9]
    exact w_iret hx hb hr hlocks (by rw [h0]; rfl) hP5 hO5 hS4 ⟨Nat.le_of_ble_eq_true rfl, Nat.le_of_ble_eq_true rfl⟩ dL_compare_19
noncomputable abbrev wsL_isBefore : List Cond := .codeWith yL_isBefore cL_isBefore 5 (some .int) [(0, 18, 21, 19)] :: GL
theorem kw_L_isBefore : (∃ ws', wsL_isBefore = Cond.codeWith yL_isBefore cL_isBefore 5 (some .int) [(0, 18, 21, 19)] :: ws') ∧ yL_isBefore.cls ≠ "java/lang/invoke/MethodHandle" ∧ yL_isBefore.cls ≠ "java/lang/invoke/VarHandle" ∧ (parseMethodDescriptor yL_isBefore.desc).map (fun d => d.parameters.length) = some 4 := ⟨⟨_, rfl⟩, by decide +kernel, by decide +kernel, by decide +kernel⟩
set_option maxRecDepth 100000 in
set_option maxHeartbeats 4000000 in
theorem k_L_isBefore (l : Launch) (hl9 : l.stackTraces = false) (k : Kx) (a : CA) (hD : cD k a) (o : Nat) (p1 : Int32) (p2 : Int32) (z : CS) (v : Int64) (hres : (m_X0_isBefore p1 p2 z).1 = 0 ∨ (m_X0_isBefore p1 p2 z).1 = 1) : wM l k a o yL_isBefore wsL_isBefore 9 203 2 12 [.ref a.1, .int p1, .int p2, .ref o] z v (wk 1 1 ((m_X0_isBefore p1 p2 z).1)) (z) (if (m_X0_isBefore p1 p2 z).1 = 0 then (if (m_X0_isBefore p1 p2 z).2 = 0 then (0 : Int64) else 1) else v) := by
  intro sz
  refine va_MetW (cc := cL_isBefore) (maxL := 5) (ret := (some .int)) (hh := [(0, 18, 21, 19)]) (by decide) rfl ?_
  intro p e s m args below meth c s₁ B hml hv
  obtain ⟨rfl, rfl, hGx, hP, hO, hob, hoa⟩ := hv
  have hx := B.exec
  have hb := B.bytes
  have hr := B.returns
  have hts := atoms_spec (ws := wsL_isBefore) B.pre
  have hown : s.vm.findClass RL = some m.cls := findClass_of_methodNamed B.named
  have hlocks := B.notSynchronized
  have htg : ∀ w ∈ GL, w.before _ s = true := fun w h => hts w (List.mem_cons_of_mem _ h)
  have hC : CallFix p m c cL_isBefore 5 s _ wsL_isBefore RL := ⟨hx, hb, hml, hown, hts⟩
  have htab : c.exceptionTable.toList = tableOf [(0, 18, 21, 19)] := vx_table (x := yL_isBefore) B (hts _ List.mem_cons_self)
  have hl := lv_entry ([.ref a.1, .int p1, .int p2, .ref o]) (n := 5) (Nat.le_of_ble_eq_true rfl)
  rw [lg_entry_eq]
  generalize (lg_sl ([.ref a.1, .int p1, .int p2, .ref o]) ++ List.replicate (5 - (lg_sl ([.ref a.1, .int p1, .int p2, .ref o])).length) Slot.unset).toArray = ls at hl ⊢
  have hl : lv_has ls 5 [(0, .ref a.1), (1, .int p1), (2, .int p2), (3, .ref o)] := hl
  refine lv_aload_n hx hb dL_isBefore_0 rfl (lv_at hl 3 rfl) ?_
  refine lv_aload_n hx hb dL_isBefore_1 rfl (lv_at hl 0 rfl) ?_
  refine lv_iload_n hx hb dL_isBefore_2 rfl (lv_at hl 1 rfl) ?_
  refine lv_iload_n hx hb dL_isBefore_3 rfl (lv_at hl 2 rfl) ?_
  refine cv_V hC hGx hD (c_X0_isBefore l hl9 k a hD p1 p2 z) (gV w_938 w_939 w_940 w_26 w_941) kk_X0_isBefore rfl ⟨Nat.le_of_ble_eq_true rfl, Nat.le_of_ble_eq_true rfl⟩ ⟨Nat.le_of_ble_eq_true rfl, Nat.le_of_ble_eq_true rfl⟩ hP va_S.rf hl.1 rfl rfl (Nat.le_of_ble_eq_true rfl) dL_isBefore_4 (fun h0 ce q H1 locs1 hP1 hS1 hce hcv hcl => ?_) (fun h0 H1 locs1 hP1 hS1 => ?_)
  · obtain ⟨hO1, hS2⟩ := w_pre (z := z) hO hoa hS1
    rcases hres with h | h
    · exact absurd h h0
    · have hcl : s.vm.findClass "java/lang/IndexOutOfBoundsException" = some ce.cls := by rw [h] at hcl; exact hcl
      refine vx_catch (E := "java/lang/IndexOutOfBoundsException") hown [] ⟨0, 18, 21, 19⟩ [] (by rw [htab]; rfl) (List.forall_mem_nil _) (by decide) (by decide) (htg _ w_622) (gx_cast hGx (by decide)) hce hcv hcl ?_
      refine lv_astore (lv' := [(4, .ref q), (0, .ref a.1), (1, .int p1), (2, .int p2), (3, .ref o)]) hx hb dL_isBefore_21 hl (by decide) rfl (fun ls hl => ?_)
      refine lv_iconst (v := 1) hx hb dL_isBefore_23 (by decide) ?_
      have hv9 : (if (m_X0_isBefore p1 p2 z).1 = 0 then (if (m_X0_isBefore p1 p2 z).2 = 0 then (0 : Int64) else 1) else v) = v := if_neg h0
      rw [hv9]
      exact w_iret hx hb hr hlocks (by rw [h]; rfl) hP1 hO1 hS2 ⟨Nat.le_of_ble_eq_true rfl, Nat.le_of_ble_eq_true rfl⟩ dL_isBefore_24
  · obtain ⟨hO1, hS2⟩ := w_pre (z := z) hO hoa hS1
    obtain ⟨w9, hO1⟩ := hO1
    have hP3 := va_P.app (w1 := [(o, _)]) hO1 hP1
    have hD3 := w_D (n := s.heap.size) (x := .inr (3, [.long v, w9])) (z := z) hD hoa
    refine lv_if_eq (tgt := 14) hx hb dL_isBefore_7 (by decide) (fun h1 => ?_) (fun h1 => ?_)
    · refine lv_lconst (v := 0) hx hb dL_isBefore_14 (by decide) ?_
      refine va_putN (D := kD k) (ci := 3) (v := .long (0 : Int64)) (ty := .long) (C := RX1) (T := TX1) (N := 2) (A := wA a o s.heap.size) (H0 := s.heap) hx hb htg inG_X1 tyX1 tyX1_ok nmX1 hown hGx.1 hP3 hD3 hS2 0 rfl rfl 0 (by decide) (va_Nw.use rfl (gx_nf hGx (q := ("DatesoloLaw", 13, "DatesoloLaw$Out", "n", "J", "DatesoloLaw")) (by decide +kernel))) (fun _ h9 => h9) rfl (by decide +kernel) rfl rfl (Nat.le_of_ble_eq_true rfl) dL_isBefore_15 (fun H4 locs4 hP4 _ hS4 => ?_)
      refine lv_goto (tgt := 25) hx hb dL_isBefore_18 (by decide) ?_
      refine lv_iconst (v := 0) hx hb dL_isBefore_25 (by decide) ?_
      have hP5 : va_P (kD k) vwCl (cW k a (z)) H4 := hP4.sub [1, 2, 3, 4, 5] rfl
      have hO5 : oP k o (0 : Int64) H4 := ⟨w9, hP4.sub [0] rfl⟩
      have hv9 : (if (m_X0_isBefore p1 p2 z).1 = 0 then (if (m_X0_isBefore p1 p2 z).2 = 0 then (0 : Int64) else 1) else v) = (0 : Int64) := (if_pos h0).trans (if_pos h1)
      rw [hv9]
      exact w_iret hx hb hr hlocks (by rw [h0]; rfl) hP5 hO5 hS4 ⟨Nat.le_of_ble_eq_true rfl, Nat.le_of_ble_eq_true rfl⟩ dL_isBefore_26
    · refine lv_lconst (v := 1) hx hb dL_isBefore_10 (by decide) ?_
      refine lv_goto (tgt := 15) hx hb dL_isBefore_11 (by decide) ?_
      refine va_putN (D := kD k) (ci := 3) (v := .long (1 : Int64)) (ty := .long) (C := RX1) (T := TX1) (N := 2) (A := wA a o s.heap.size) (H0 := s.heap) hx hb htg inG_X1 tyX1 tyX1_ok nmX1 hown hGx.1 hP3 hD3 hS2 0 rfl rfl 0 (by decide) (va_Nw.use rfl (gx_nf hGx (q := ("DatesoloLaw", 13, "DatesoloLaw$Out", "n", "J", "DatesoloLaw")) (by decide +kernel))) (fun _ h9 => h9) rfl (by decide +kernel) rfl rfl (Nat.le_of_ble_eq_true rfl) dL_isBefore_15 (fun H4 locs4 hP4 _ hS4 => ?_)
      refine lv_goto (tgt := 25) hx hb dL_isBefore_18 (by decide) ?_
      refine lv_iconst (v := 0) hx hb dL_isBefore_25 (by decide) ?_
      have hP5 : va_P (kD k) vwCl (cW k a (z)) H4 := hP4.sub [1, 2, 3, 4, 5] rfl
      have hO5 : oP k o (1 : Int64) H4 := ⟨w9, hP4.sub [0] rfl⟩
      have hv9 : (if (m_X0_isBefore p1 p2 z).1 = 0 then (if (m_X0_isBefore p1 p2 z).2 = 0 then (0 : Int64) else 1) else v) = (1 : Int64) := (if_pos h0).trans (if_neg h1)
      rw [hv9]
      exact w_iret hx hb hr hlocks (by rw [h0]; rfl) hP5 hO5 hS4 ⟨Nat.le_of_ble_eq_true rfl, Nat.le_of_ble_eq_true rfl⟩ dL_isBefore_26
noncomputable abbrev wsL_isAfter : List Cond := .codeWith yL_isAfter cL_isAfter 5 (some .int) [(0, 18, 21, 19)] :: GL
theorem kw_L_isAfter : (∃ ws', wsL_isAfter = Cond.codeWith yL_isAfter cL_isAfter 5 (some .int) [(0, 18, 21, 19)] :: ws') ∧ yL_isAfter.cls ≠ "java/lang/invoke/MethodHandle" ∧ yL_isAfter.cls ≠ "java/lang/invoke/VarHandle" ∧ (parseMethodDescriptor yL_isAfter.desc).map (fun d => d.parameters.length) = some 4 := ⟨⟨_, rfl⟩, by decide +kernel, by decide +kernel, by decide +kernel⟩
set_option maxRecDepth 100000 in
set_option maxHeartbeats 4000000 in
theorem k_L_isAfter (l : Launch) (hl9 : l.stackTraces = false) (k : Kx) (a : CA) (hD : cD k a) (o : Nat) (p1 : Int32) (p2 : Int32) (z : CS) (v : Int64) (hres : (m_X0_isAfter p1 p2 z).1 = 0 ∨ (m_X0_isAfter p1 p2 z).1 = 1) : wM l k a o yL_isAfter wsL_isAfter 9 203 2 12 [.ref a.1, .int p1, .int p2, .ref o] z v (wk 1 1 ((m_X0_isAfter p1 p2 z).1)) (z) (if (m_X0_isAfter p1 p2 z).1 = 0 then (if (m_X0_isAfter p1 p2 z).2 = 0 then (0 : Int64) else 1) else v) := by
  intro sz
  refine va_MetW (cc := cL_isAfter) (maxL := 5) (ret := (some .int)) (hh := [(0, 18, 21, 19)]) (by decide) rfl ?_
  intro p e s m args below meth c s₁ B hml hv
  obtain ⟨rfl, rfl, hGx, hP, hO, hob, hoa⟩ := hv
  have hx := B.exec
  have hb := B.bytes
  have hr := B.returns
  have hts := atoms_spec (ws := wsL_isAfter) B.pre
  have hown : s.vm.findClass RL = some m.cls := findClass_of_methodNamed B.named
  have hlocks := B.notSynchronized
  have htg : ∀ w ∈ GL, w.before _ s = true := fun w h => hts w (List.mem_cons_of_mem _ h)
  have hC : CallFix p m c cL_isAfter 5 s _ wsL_isAfter RL := ⟨hx, hb, hml, hown, hts⟩
  have htab : c.exceptionTable.toList = tableOf [(0, 18, 21, 19)] := vx_table (x := yL_isAfter) B (hts _ List.mem_cons_self)
  have hl := lv_entry ([.ref a.1, .int p1, .int p2, .ref o]) (n := 5) (Nat.le_of_ble_eq_true rfl)
  rw [lg_entry_eq]
  generalize (lg_sl ([.ref a.1, .int p1, .int p2, .ref o]) ++ List.replicate (5 - (lg_sl ([.ref a.1, .int p1, .int p2, .ref o])).length) Slot.unset).toArray = ls at hl ⊢
  have hl : lv_has ls 5 [(0, .ref a.1), (1, .int p1), (2, .int p2), (3, .ref o)] := hl
  refine lv_aload_n hx hb dL_isAfter_0 rfl (lv_at hl 3 rfl) ?_
  refine lv_aload_n hx hb dL_isAfter_1 rfl (lv_at hl 0 rfl) ?_
  refine lv_iload_n hx hb dL_isAfter_2 rfl (lv_at hl 1 rfl) ?_
  refine lv_iload_n hx hb dL_isAfter_3 rfl (lv_at hl 2 rfl) ?_
  refine cv_V hC hGx hD (c_X0_isAfter l hl9 k a hD p1 p2 z) (gV w_945 w_946 w_947 w_26 w_948) kk_X0_isAfter rfl ⟨Nat.le_of_ble_eq_true rfl, Nat.le_of_ble_eq_true rfl⟩ ⟨Nat.le_of_ble_eq_true rfl, Nat.le_of_ble_eq_true rfl⟩ hP va_S.rf hl.1 rfl rfl (Nat.le_of_ble_eq_true rfl) dL_isAfter_4 (fun h0 ce q H1 locs1 hP1 hS1 hce hcv hcl => ?_) (fun h0 H1 locs1 hP1 hS1 => ?_)
  · obtain ⟨hO1, hS2⟩ := w_pre (z := z) hO hoa hS1
    rcases hres with h | h
    · exact absurd h h0
    · have hcl : s.vm.findClass "java/lang/IndexOutOfBoundsException" = some ce.cls := by rw [h] at hcl; exact hcl
      refine vx_catch (E := "java/lang/IndexOutOfBoundsException") hown [] ⟨0, 18, 21, 19⟩ [] (by rw [htab]; rfl) (List.forall_mem_nil _) (by decide) (by decide) (htg _ w_622) (gx_cast hGx (by decide)) hce hcv hcl ?_
      refine lv_astore (lv' := [(4, .ref q), (0, .ref a.1), (1, .int p1), (2, .int p2), (3, .ref o)]) hx hb dL_isAfter_21 hl (by decide) rfl (fun ls hl => ?_)
      refine lv_iconst (v := 1) hx hb dL_isAfter_23 (by decide) ?_
      have hv9 : (if (m_X0_isAfter p1 p2 z).1 = 0 then (if (m_X0_isAfter p1 p2 z).2 = 0 then (0 : Int64) else 1) else v) = v := if_neg h0
      rw [hv9]
      exact w_iret hx hb hr hlocks (by rw [h]; rfl) hP1 hO1 hS2 ⟨Nat.le_of_ble_eq_true rfl, Nat.le_of_ble_eq_true rfl⟩ dL_isAfter_24
  · obtain ⟨hO1, hS2⟩ := w_pre (z := z) hO hoa hS1
    obtain ⟨w9, hO1⟩ := hO1
    have hP3 := va_P.app (w1 := [(o, _)]) hO1 hP1
    have hD3 := w_D (n := s.heap.size) (x := .inr (3, [.long v, w9])) (z := z) hD hoa
    refine lv_if_eq (tgt := 14) hx hb dL_isAfter_7 (by decide) (fun h1 => ?_) (fun h1 => ?_)
    · refine lv_lconst (v := 0) hx hb dL_isAfter_14 (by decide) ?_
      refine va_putN (D := kD k) (ci := 3) (v := .long (0 : Int64)) (ty := .long) (C := RX1) (T := TX1) (N := 2) (A := wA a o s.heap.size) (H0 := s.heap) hx hb htg inG_X1 tyX1 tyX1_ok nmX1 hown hGx.1 hP3 hD3 hS2 0 rfl rfl 0 (by decide) (va_Nw.use rfl (gx_nf hGx (q := ("DatesoloLaw", 13, "DatesoloLaw$Out", "n", "J", "DatesoloLaw")) (by decide +kernel))) (fun _ h9 => h9) rfl (by decide +kernel) rfl rfl (Nat.le_of_ble_eq_true rfl) dL_isAfter_15 (fun H4 locs4 hP4 _ hS4 => ?_)
      refine lv_goto (tgt := 25) hx hb dL_isAfter_18 (by decide) ?_
      refine lv_iconst (v := 0) hx hb dL_isAfter_25 (by decide) ?_
      have hP5 : va_P (kD k) vwCl (cW k a (z)) H4 := hP4.sub [1, 2, 3, 4, 5] rfl
      have hO5 : oP k o (0 : Int64) H4 := ⟨w9, hP4.sub [0] rfl⟩
      have hv9 : (if (m_X0_isAfter p1 p2 z).1 = 0 then (if (m_X0_isAfter p1 p2 z).2 = 0 then (0 : Int64) else 1) else v) = (0 : Int64) := (if_pos h0).trans (if_pos h1)
      rw [hv9]
      exact w_iret hx hb hr hlocks (by rw [h0]; rfl) hP5 hO5 hS4 ⟨Nat.le_of_ble_eq_true rfl, Nat.le_of_ble_eq_true rfl⟩ dL_isAfter_26
    · refine lv_lconst (v := 1) hx hb dL_isAfter_10 (by decide) ?_
      refine lv_goto (tgt := 15) hx hb dL_isAfter_11 (by decide) ?_
      refine va_putN (D := kD k) (ci := 3) (v := .long (1 : Int64)) (ty := .long) (C := RX1) (T := TX1) (N := 2) (A := wA a o s.heap.size) (H0 := s.heap) hx hb htg inG_X1 tyX1 tyX1_ok nmX1 hown hGx.1 hP3 hD3 hS2 0 rfl rfl 0 (by decide) (va_Nw.use rfl (gx_nf hGx (q := ("DatesoloLaw", 13, "DatesoloLaw$Out", "n", "J", "DatesoloLaw")) (by decide +kernel))) (fun _ h9 => h9) rfl (by decide +kernel) rfl rfl (Nat.le_of_ble_eq_true rfl) dL_isAfter_15 (fun H4 locs4 hP4 _ hS4 => ?_)
      refine lv_goto (tgt := 25) hx hb dL_isAfter_18 (by decide) ?_
      refine lv_iconst (v := 0) hx hb dL_isAfter_25 (by decide) ?_
      have hP5 : va_P (kD k) vwCl (cW k a (z)) H4 := hP4.sub [1, 2, 3, 4, 5] rfl
      have hO5 : oP k o (1 : Int64) H4 := ⟨w9, hP4.sub [0] rfl⟩
      have hv9 : (if (m_X0_isAfter p1 p2 z).1 = 0 then (if (m_X0_isAfter p1 p2 z).2 = 0 then (0 : Int64) else 1) else v) = (1 : Int64) := (if_pos h0).trans (if_neg h1)
      rw [hv9]
      exact w_iret hx hb hr hlocks (by rw [h0]; rfl) hP5 hO5 hS4 ⟨Nat.le_of_ble_eq_true rfl, Nat.le_of_ble_eq_true rfl⟩ dL_isAfter_26
noncomputable abbrev wsL_isSame : List Cond := .codeWith yL_isSame cL_isSame 5 (some .int) [(0, 18, 21, 19)] :: GL
theorem kw_L_isSame : (∃ ws', wsL_isSame = Cond.codeWith yL_isSame cL_isSame 5 (some .int) [(0, 18, 21, 19)] :: ws') ∧ yL_isSame.cls ≠ "java/lang/invoke/MethodHandle" ∧ yL_isSame.cls ≠ "java/lang/invoke/VarHandle" ∧ (parseMethodDescriptor yL_isSame.desc).map (fun d => d.parameters.length) = some 4 := ⟨⟨_, rfl⟩, by decide +kernel, by decide +kernel, by decide +kernel⟩
set_option maxRecDepth 100000 in
set_option maxHeartbeats 4000000 in
theorem k_L_isSame (l : Launch) (hl9 : l.stackTraces = false) (k : Kx) (a : CA) (hD : cD k a) (o : Nat) (p1 : Int32) (p2 : Int32) (z : CS) (v : Int64) (hres : (m_X0_isSame p1 p2 z).1 = 0 ∨ (m_X0_isSame p1 p2 z).1 = 1) : wM l k a o yL_isSame wsL_isSame 9 203 2 12 [.ref a.1, .int p1, .int p2, .ref o] z v (wk 1 1 ((m_X0_isSame p1 p2 z).1)) (z) (if (m_X0_isSame p1 p2 z).1 = 0 then (if (m_X0_isSame p1 p2 z).2 = 0 then (0 : Int64) else 1) else v) := by
  intro sz
  refine va_MetW (cc := cL_isSame) (maxL := 5) (ret := (some .int)) (hh := [(0, 18, 21, 19)]) (by decide) rfl ?_
  intro p e s m args below meth c s₁ B hml hv
  obtain ⟨rfl, rfl, hGx, hP, hO, hob, hoa⟩ := hv
  have hx := B.exec
  have hb := B.bytes
  have hr := B.returns
  have hts := atoms_spec (ws := wsL_isSame) B.pre
  have hown : s.vm.findClass RL = some m.cls := findClass_of_methodNamed B.named
  have hlocks := B.notSynchronized
  have htg : ∀ w ∈ GL, w.before _ s = true := fun w h => hts w (List.mem_cons_of_mem _ h)
  have hC : CallFix p m c cL_isSame 5 s _ wsL_isSame RL := ⟨hx, hb, hml, hown, hts⟩
  have htab : c.exceptionTable.toList = tableOf [(0, 18, 21, 19)] := vx_table (x := yL_isSame) B (hts _ List.mem_cons_self)
  have hl := lv_entry ([.ref a.1, .int p1, .int p2, .ref o]) (n := 5) (Nat.le_of_ble_eq_true rfl)
  rw [lg_entry_eq]
  generalize (lg_sl ([.ref a.1, .int p1, .int p2, .ref o]) ++ List.replicate (5 - (lg_sl ([.ref a.1, .int p1, .int p2, .ref o])).length) Slot.unset).toArray = ls at hl ⊢
  have hl : lv_has ls 5 [(0, .ref a.1), (1, .int p1), (2, .int p2), (3, .ref o)] := hl
  refine lv_aload_n hx hb dL_isSame_0 rfl (lv_at hl 3 rfl) ?_
  refine lv_aload_n hx hb dL_isSame_1 rfl (lv_at hl 0 rfl) ?_
  refine lv_iload_n hx hb dL_isSame_2 rfl (lv_at hl 1 rfl) ?_
  refine lv_iload_n hx hb dL_isSame_3 rfl (lv_at hl 2 rfl) ?_
  refine cv_V hC hGx hD (c_X0_isSame l hl9 k a hD p1 p2 z) (gV w_952 w_953 w_954 w_26 w_955) kk_X0_isSame rfl ⟨Nat.le_of_ble_eq_true rfl, Nat.le_of_ble_eq_true rfl⟩ ⟨Nat.le_of_ble_eq_true rfl, Nat.le_of_ble_eq_true rfl⟩ hP va_S.rf hl.1 rfl rfl (Nat.le_of_ble_eq_true rfl) dL_isSame_4 (fun h0 ce q H1 locs1 hP1 hS1 hce hcv hcl => ?_) (fun h0 H1 locs1 hP1 hS1 => ?_)
  · obtain ⟨hO1, hS2⟩ := w_pre (z := z) hO hoa hS1
    rcases hres with h | h
    · exact absurd h h0
    · have hcl : s.vm.findClass "java/lang/IndexOutOfBoundsException" = some ce.cls := by rw [h] at hcl; exact hcl
      refine vx_catch (E := "java/lang/IndexOutOfBoundsException") hown [] ⟨0, 18, 21, 19⟩ [] (by rw [htab]; rfl) (List.forall_mem_nil _) (by decide) (by decide) (htg _ w_622) (gx_cast hGx (by decide)) hce hcv hcl ?_
      refine lv_astore (lv' := [(4, .ref q), (0, .ref a.1), (1, .int p1), (2, .int p2), (3, .ref o)]) hx hb dL_isSame_21 hl (by decide) rfl (fun ls hl => ?_)
      refine lv_iconst (v := 1) hx hb dL_isSame_23 (by decide) ?_
      have hv9 : (if (m_X0_isSame p1 p2 z).1 = 0 then (if (m_X0_isSame p1 p2 z).2 = 0 then (0 : Int64) else 1) else v) = v := if_neg h0
      rw [hv9]
      exact w_iret hx hb hr hlocks (by rw [h]; rfl) hP1 hO1 hS2 ⟨Nat.le_of_ble_eq_true rfl, Nat.le_of_ble_eq_true rfl⟩ dL_isSame_24
  · obtain ⟨hO1, hS2⟩ := w_pre (z := z) hO hoa hS1
    obtain ⟨w9, hO1⟩ := hO1
    have hP3 := va_P.app (w1 := [(o, _)]) hO1 hP1
    have hD3 := w_D (n := s.heap.size) (x := .inr (3, [.long v, w9])) (z := z) hD hoa
    refine lv_if_eq (tgt := 14) hx hb dL_isSame_7 (by decide) (fun h1 => ?_) (fun h1 => ?_)
    · refine lv_lconst (v := 0) hx hb dL_isSame_14 (by decide) ?_
      refine va_putN (D := kD k) (ci := 3) (v := .long (0 : Int64)) (ty := .long) (C := RX1) (T := TX1) (N := 2) (A := wA a o s.heap.size) (H0 := s.heap) hx hb htg inG_X1 tyX1 tyX1_ok nmX1 hown hGx.1 hP3 hD3 hS2 0 rfl rfl 0 (by decide) (va_Nw.use rfl (gx_nf hGx (q := ("DatesoloLaw", 13, "DatesoloLaw$Out", "n", "J", "DatesoloLaw")) (by decide +kernel))) (fun _ h9 => h9) rfl (by decide +kernel) rfl rfl (Nat.le_of_ble_eq_true rfl) dL_isSame_15 (fun H4 locs4 hP4 _ hS4 => ?_)
      refine lv_goto (tgt := 25) hx hb dL_isSame_18 (by decide) ?_
      refine lv_iconst (v := 0) hx hb dL_isSame_25 (by decide) ?_
      have hP5 : va_P (kD k) vwCl (cW k a (z)) H4 := hP4.sub [1, 2, 3, 4, 5] rfl
      have hO5 : oP k o (0 : Int64) H4 := ⟨w9, hP4.sub [0] rfl⟩
      have hv9 : (if (m_X0_isSame p1 p2 z).1 = 0 then (if (m_X0_isSame p1 p2 z).2 = 0 then (0 : Int64) else 1) else v) = (0 : Int64) := (if_pos h0).trans (if_pos h1)
      rw [hv9]
      exact w_iret hx hb hr hlocks (by rw [h0]; rfl) hP5 hO5 hS4 ⟨Nat.le_of_ble_eq_true rfl, Nat.le_of_ble_eq_true rfl⟩ dL_isSame_26
    · refine lv_lconst (v := 1) hx hb dL_isSame_10 (by decide) ?_
      refine lv_goto (tgt := 15) hx hb dL_isSame_11 (by decide) ?_
      refine va_putN (D := kD k) (ci := 3) (v := .long (1 : Int64)) (ty := .long) (C := RX1) (T := TX1) (N := 2) (A := wA a o s.heap.size) (H0 := s.heap) hx hb htg inG_X1 tyX1 tyX1_ok nmX1 hown hGx.1 hP3 hD3 hS2 0 rfl rfl 0 (by decide) (va_Nw.use rfl (gx_nf hGx (q := ("DatesoloLaw", 13, "DatesoloLaw$Out", "n", "J", "DatesoloLaw")) (by decide +kernel))) (fun _ h9 => h9) rfl (by decide +kernel) rfl rfl (Nat.le_of_ble_eq_true rfl) dL_isSame_15 (fun H4 locs4 hP4 _ hS4 => ?_)
      refine lv_goto (tgt := 25) hx hb dL_isSame_18 (by decide) ?_
      refine lv_iconst (v := 0) hx hb dL_isSame_25 (by decide) ?_
      have hP5 : va_P (kD k) vwCl (cW k a (z)) H4 := hP4.sub [1, 2, 3, 4, 5] rfl
      have hO5 : oP k o (1 : Int64) H4 := ⟨w9, hP4.sub [0] rfl⟩
      have hv9 : (if (m_X0_isSame p1 p2 z).1 = 0 then (if (m_X0_isSame p1 p2 z).2 = 0 then (0 : Int64) else 1) else v) = (1 : Int64) := (if_pos h0).trans (if_neg h1)
      rw [hv9]
      exact w_iret hx hb hr hlocks (by rw [h0]; rfl) hP5 hO5 hS4 ⟨Nat.le_of_ble_eq_true rfl, Nat.le_of_ble_eq_true rfl⟩ dL_isSame_26
noncomputable abbrev wsL_between : List Cond := .codeWith yL_between cL_between 6 (some .int) [(0, 13, 16, 19), (0, 13, 20, 21)] :: GL
theorem kw_L_between : (∃ ws', wsL_between = Cond.codeWith yL_between cL_between 6 (some .int) [(0, 13, 16, 19), (0, 13, 20, 21)] :: ws') ∧ yL_between.cls ≠ "java/lang/invoke/MethodHandle" ∧ yL_between.cls ≠ "java/lang/invoke/VarHandle" ∧ (parseMethodDescriptor yL_between.desc).map (fun d => d.parameters.length) = some 5 := ⟨⟨_, rfl⟩, by decide +kernel, by decide +kernel, by decide +kernel⟩
set_option maxRecDepth 100000 in
set_option maxHeartbeats 4000000 in
theorem k_L_between (l : Launch) (hl9 : l.stackTraces = false) (k : Kx) (a : CA) (hD : cD k a) (o : Nat) (p1 : Int32) (p2 : Int32) (p3 : Int32) (z : CS) (v : Int64) (hres : (m_X0_between p1 p2 p3 z).1 = 0 ∨ (m_X0_between p1 p2 p3 z).1 = 1 ∨ (m_X0_between p1 p2 p3 z).1 = 2) : wM l k a o yL_between wsL_between 9 209 3 18 [.ref a.1, .int p1, .int p2, .int p3, .ref o] z v (wk 1 2 ((m_X0_between p1 p2 p3 z).1)) (z) (if (m_X0_between p1 p2 p3 z).1 = 0 then ((m_X0_between p1 p2 p3 z).2).toInt64 else v) := by
  intro sz
  refine va_MetW (cc := cL_between) (maxL := 6) (ret := (some .int)) (hh := [(0, 13, 16, 19), (0, 13, 20, 21)]) (by decide) rfl ?_
  intro p e s m args below meth c s₁ B hml hv
  obtain ⟨rfl, rfl, hGx, hP, hO, hob, hoa⟩ := hv
  have hx := B.exec
  have hb := B.bytes
  have hr := B.returns
  have hts := atoms_spec (ws := wsL_between) B.pre
  have hown : s.vm.findClass RL = some m.cls := findClass_of_methodNamed B.named
  have hlocks := B.notSynchronized
  have htg : ∀ w ∈ GL, w.before _ s = true := fun w h => hts w (List.mem_cons_of_mem _ h)
  have hC : CallFix p m c cL_between 6 s _ wsL_between RL := ⟨hx, hb, hml, hown, hts⟩
  have htab : c.exceptionTable.toList = tableOf [(0, 13, 16, 19), (0, 13, 20, 21)] := vx_table (x := yL_between) B (hts _ List.mem_cons_self)
  have hl := lv_entry ([.ref a.1, .int p1, .int p2, .int p3, .ref o]) (n := 6) (Nat.le_of_ble_eq_true rfl)
  rw [lg_entry_eq]
  generalize (lg_sl ([.ref a.1, .int p1, .int p2, .int p3, .ref o]) ++ List.replicate (6 - (lg_sl ([.ref a.1, .int p1, .int p2, .int p3, .ref o])).length) Slot.unset).toArray = ls at hl ⊢
  have hl : lv_has ls 6 [(0, .ref a.1), (1, .int p1), (2, .int p2), (3, .int p3), (4, .ref o)] := hl
  refine lv_aload hx hb dL_between_0 (lv_at hl 4 rfl) ?_
  refine lv_aload_n hx hb dL_between_2 rfl (lv_at hl 0 rfl) ?_
  refine lv_iload_n hx hb dL_between_3 rfl (lv_at hl 1 rfl) ?_
  refine lv_iload_n hx hb dL_between_4 rfl (lv_at hl 2 rfl) ?_
  refine lv_iload_n hx hb dL_between_5 rfl (lv_at hl 3 rfl) ?_
  refine cv_V hC hGx hD (c_X0_between l hl9 k a hD p1 p2 p3 z) (gV w_959 w_592 w_593 w_26 w_594) kk_X0_between rfl ⟨Nat.le_of_ble_eq_true rfl, Nat.le_of_ble_eq_true rfl⟩ ⟨Nat.le_of_ble_eq_true rfl, Nat.le_of_ble_eq_true rfl⟩ hP va_S.rf hl.1 rfl rfl (Nat.le_of_ble_eq_true rfl) dL_between_6 (fun h0 ce q H1 locs1 hP1 hS1 hce hcv hcl => ?_) (fun h0 H1 locs1 hP1 hS1 => ?_)
  · obtain ⟨hO1, hS2⟩ := w_pre (z := z) hO hoa hS1
    rcases hres with h | h | h
    · exact absurd h h0
    · have hcl : s.vm.findClass "java/lang/IndexOutOfBoundsException" = some ce.cls := by rw [h] at hcl; exact hcl
      refine vx_catch (E := "java/lang/IndexOutOfBoundsException") hown [] ⟨0, 13, 16, 19⟩ [⟨0, 13, 20, 21⟩] (by rw [htab]; rfl) (List.forall_mem_nil _) (by decide) (by decide) (htg _ w_622) (gx_cast hGx (by decide)) hce hcv hcl ?_
      refine lv_astore (lv' := [(5, .ref q), (0, .ref a.1), (1, .int p1), (2, .int p2), (3, .int p3), (4, .ref o)]) hx hb dL_between_16 hl (by decide) rfl (fun ls hl => ?_)
      refine lv_iconst (v := 1) hx hb dL_between_18 (by decide) ?_
      have hv9 : (if (m_X0_between p1 p2 p3 z).1 = 0 then ((m_X0_between p1 p2 p3 z).2).toInt64 else v) = v := if_neg h0
      rw [hv9]
      exact w_iret hx hb hr hlocks (by rw [h]; rfl) hP1 hO1 hS2 ⟨Nat.le_of_ble_eq_true rfl, Nat.le_of_ble_eq_true rfl⟩ dL_between_19
    · have hcl : s.vm.findClass "java/lang/IllegalArgumentException" = some ce.cls := by rw [h] at hcl; exact hcl
      refine vx_catch (E := "java/lang/IllegalArgumentException") hown [⟨0, 13, 16, 19⟩] ⟨0, 13, 20, 21⟩ [] (by rw [htab]; rfl) (List.forall_mem_cons.mpr ⟨Or.inr ⟨by decide, "java/lang/IndexOutOfBoundsException", (htg _ w_622), gx_nc hGx (q := ("java/lang/IllegalArgumentException", "java/lang/IndexOutOfBoundsException")) (by decide)⟩, (List.forall_mem_nil _)⟩) (by decide) (by decide) (htg _ w_623) (gx_cast hGx (by decide)) hce hcv hcl ?_
      refine lv_astore (lv' := [(5, .ref q), (0, .ref a.1), (1, .int p1), (2, .int p2), (3, .int p3), (4, .ref o)]) hx hb dL_between_20 hl (by decide) rfl (fun ls hl => ?_)
      refine lv_iconst (v := 2) hx hb dL_between_22 (by decide) ?_
      have hv9 : (if (m_X0_between p1 p2 p3 z).1 = 0 then ((m_X0_between p1 p2 p3 z).2).toInt64 else v) = v := if_neg h0
      rw [hv9]
      exact w_iret hx hb hr hlocks (by rw [h]; rfl) hP1 hO1 hS2 ⟨Nat.le_of_ble_eq_true rfl, Nat.le_of_ble_eq_true rfl⟩ dL_between_23
  · obtain ⟨hO1, hS2⟩ := w_pre (z := z) hO hoa hS1
    obtain ⟨w9, hO1⟩ := hO1
    have hP3 := va_P.app (w1 := [(o, _)]) hO1 hP1
    have hD3 := w_D (n := s.heap.size) (x := .inr (3, [.long v, w9])) (z := z) hD hoa
    refine lv_i2l hx hb dL_between_9 rfl ?_
    refine va_putN (D := kD k) (ci := 3) (v := .long (((m_X0_between p1 p2 p3 z).2).toInt64)) (ty := .long) (C := RX1) (T := TX1) (N := 2) (A := wA a o s.heap.size) (H0 := s.heap) hx hb htg inG_X1 tyX1 tyX1_ok nmX1 hown hGx.1 hP3 hD3 hS2 0 rfl rfl 0 (by decide) (va_Nw.use rfl (gx_nf hGx (q := ("DatesoloLaw", 13, "DatesoloLaw$Out", "n", "J", "DatesoloLaw")) (by decide +kernel))) (fun _ h9 => h9) rfl (by decide +kernel) rfl rfl (Nat.le_of_ble_eq_true rfl) dL_between_10 (fun H4 locs4 hP4 _ hS4 => ?_)
    refine lv_goto (tgt := 24) hx hb dL_between_13 (by decide) ?_
    refine lv_iconst (v := 0) hx hb dL_between_24 (by decide) ?_
    have hP5 : va_P (kD k) vwCl (cW k a (z)) H4 := hP4.sub [1, 2, 3, 4, 5] rfl
    have hO5 : oP k o (((m_X0_between p1 p2 p3 z).2).toInt64) H4 := ⟨w9, hP4.sub [0] rfl⟩
    have hv9 : (if (m_X0_between p1 p2 p3 z).1 = 0 then ((m_X0_between p1 p2 p3 z).2).toInt64 else v) = ((m_X0_between p1 p2 p3 z).2).toInt64 := if_pos h0
    rw [hv9]
    exact w_iret hx hb hr hlocks (by rw [h0]; rfl) hP5 hO5 hS4 ⟨Nat.le_of_ble_eq_true rfl, Nat.le_of_ble_eq_true rfl⟩ dL_between_25
noncomputable abbrev wsL_apart : List Cond := .codeWith yL_apart cL_apart 6 (some .int) [(0, 13, 16, 19), (0, 13, 20, 21), (0, 13, 24, 23)] :: GL
theorem kw_L_apart : (∃ ws', wsL_apart = Cond.codeWith yL_apart cL_apart 6 (some .int) [(0, 13, 16, 19), (0, 13, 20, 21), (0, 13, 24, 23)] :: ws') ∧ yL_apart.cls ≠ "java/lang/invoke/MethodHandle" ∧ yL_apart.cls ≠ "java/lang/invoke/VarHandle" ∧ (parseMethodDescriptor yL_apart.desc).map (fun d => d.parameters.length) = some 5 := ⟨⟨_, rfl⟩, by decide +kernel, by decide +kernel, by decide +kernel⟩
set_option maxRecDepth 100000 in
set_option maxHeartbeats 4000000 in
theorem k_L_apart (l : Launch) (hl9 : l.stackTraces = false) (k : Kx) (a : CA) (hD : cD k a) (o : Nat) (p1 : Int32) (p2 : Int32) (p3 : Int32) (z : CS) (v : Int64) (hres : (m_X0_apart p1 p2 p3 z).1 = 0 ∨ (m_X0_apart p1 p2 p3 z).1 = 1 ∨ (m_X0_apart p1 p2 p3 z).1 = 2 ∨ (m_X0_apart p1 p2 p3 z).1 = 3) : wM l k a o yL_apart wsL_apart 9 208 4 24 [.ref a.1, .int p1, .int p2, .int p3, .ref o] z v (wk 1 2 ((m_X0_apart p1 p2 p3 z).1)) (z) (if (m_X0_apart p1 p2 p3 z).1 = 0 then ((m_X0_apart p1 p2 p3 z).2).toInt64 else v) := by
  intro sz
  refine va_MetW (cc := cL_apart) (maxL := 6) (ret := (some .int)) (hh := [(0, 13, 16, 19), (0, 13, 20, 21), (0, 13, 24, 23)]) (by decide) rfl ?_
  intro p e s m args below meth c s₁ B hml hv
  obtain ⟨rfl, rfl, hGx, hP, hO, hob, hoa⟩ := hv
  have hx := B.exec
  have hb := B.bytes
  have hr := B.returns
  have hts := atoms_spec (ws := wsL_apart) B.pre
  have hown : s.vm.findClass RL = some m.cls := findClass_of_methodNamed B.named
  have hlocks := B.notSynchronized
  have htg : ∀ w ∈ GL, w.before _ s = true := fun w h => hts w (List.mem_cons_of_mem _ h)
  have hC : CallFix p m c cL_apart 6 s _ wsL_apart RL := ⟨hx, hb, hml, hown, hts⟩
  have htab : c.exceptionTable.toList = tableOf [(0, 13, 16, 19), (0, 13, 20, 21), (0, 13, 24, 23)] := vx_table (x := yL_apart) B (hts _ List.mem_cons_self)
  have hl := lv_entry ([.ref a.1, .int p1, .int p2, .int p3, .ref o]) (n := 6) (Nat.le_of_ble_eq_true rfl)
  rw [lg_entry_eq]
  generalize (lg_sl ([.ref a.1, .int p1, .int p2, .int p3, .ref o]) ++ List.replicate (6 - (lg_sl ([.ref a.1, .int p1, .int p2, .int p3, .ref o])).length) Slot.unset).toArray = ls at hl ⊢
  have hl : lv_has ls 6 [(0, .ref a.1), (1, .int p1), (2, .int p2), (3, .int p3), (4, .ref o)] := hl
  refine lv_aload hx hb dL_apart_0 (lv_at hl 4 rfl) ?_
  refine lv_aload_n hx hb dL_apart_2 rfl (lv_at hl 0 rfl) ?_
  refine lv_iload_n hx hb dL_apart_3 rfl (lv_at hl 1 rfl) ?_
  refine lv_iload_n hx hb dL_apart_4 rfl (lv_at hl 2 rfl) ?_
  refine lv_iload_n hx hb dL_apart_5 rfl (lv_at hl 3 rfl) ?_
  refine cv_V hC hGx hD (c_X0_apart l hl9 k a hD p1 p2 p3 z) (gV w_963 w_964 w_965 w_26 w_966) kk_X0_apart rfl ⟨Nat.le_of_ble_eq_true rfl, Nat.le_of_ble_eq_true rfl⟩ ⟨Nat.le_of_ble_eq_true rfl, Nat.le_of_ble_eq_true rfl⟩ hP va_S.rf hl.1 rfl rfl (Nat.le_of_ble_eq_true rfl) dL_apart_6 (fun h0 ce q H1 locs1 hP1 hS1 hce hcv hcl => ?_) (fun h0 H1 locs1 hP1 hS1 => ?_)
  · obtain ⟨hO1, hS2⟩ := w_pre (z := z) hO hoa hS1
    rcases hres with h | h | h | h
    · exact absurd h h0
    · have hcl : s.vm.findClass "java/lang/IndexOutOfBoundsException" = some ce.cls := by rw [h] at hcl; exact hcl
      refine vx_catch (E := "java/lang/IndexOutOfBoundsException") hown [] ⟨0, 13, 16, 19⟩ [⟨0, 13, 20, 21⟩, ⟨0, 13, 24, 23⟩] (by rw [htab]; rfl) (List.forall_mem_nil _) (by decide) (by decide) (htg _ w_622) (gx_cast hGx (by decide)) hce hcv hcl ?_
      refine lv_astore (lv' := [(5, .ref q), (0, .ref a.1), (1, .int p1), (2, .int p2), (3, .int p3), (4, .ref o)]) hx hb dL_apart_16 hl (by decide) rfl (fun ls hl => ?_)
      refine lv_iconst (v := 1) hx hb dL_apart_18 (by decide) ?_
      have hv9 : (if (m_X0_apart p1 p2 p3 z).1 = 0 then ((m_X0_apart p1 p2 p3 z).2).toInt64 else v) = v := if_neg h0
      rw [hv9]
      exact w_iret hx hb hr hlocks (by rw [h]; rfl) hP1 hO1 hS2 ⟨Nat.le_of_ble_eq_true rfl, Nat.le_of_ble_eq_true rfl⟩ dL_apart_19
    · have hcl : s.vm.findClass "java/lang/IllegalArgumentException" = some ce.cls := by rw [h] at hcl; exact hcl
      refine vx_catch (E := "java/lang/IllegalArgumentException") hown [⟨0, 13, 16, 19⟩] ⟨0, 13, 20, 21⟩ [⟨0, 13, 24, 23⟩] (by rw [htab]; rfl) (List.forall_mem_cons.mpr ⟨Or.inr ⟨by decide, "java/lang/IndexOutOfBoundsException", (htg _ w_622), gx_nc hGx (q := ("java/lang/IllegalArgumentException", "java/lang/IndexOutOfBoundsException")) (by decide)⟩, (List.forall_mem_nil _)⟩) (by decide) (by decide) (htg _ w_623) (gx_cast hGx (by decide)) hce hcv hcl ?_
      refine lv_astore (lv' := [(5, .ref q), (0, .ref a.1), (1, .int p1), (2, .int p2), (3, .int p3), (4, .ref o)]) hx hb dL_apart_20 hl (by decide) rfl (fun ls hl => ?_)
      refine lv_iconst (v := 2) hx hb dL_apart_22 (by decide) ?_
      have hv9 : (if (m_X0_apart p1 p2 p3 z).1 = 0 then ((m_X0_apart p1 p2 p3 z).2).toInt64 else v) = v := if_neg h0
      rw [hv9]
      exact w_iret hx hb hr hlocks (by rw [h]; rfl) hP1 hO1 hS2 ⟨Nat.le_of_ble_eq_true rfl, Nat.le_of_ble_eq_true rfl⟩ dL_apart_23
    · have hcl : s.vm.findClass "java/lang/IllegalStateException" = some ce.cls := by rw [h] at hcl; exact hcl
      refine vx_catch (E := "java/lang/IllegalStateException") hown [⟨0, 13, 16, 19⟩, ⟨0, 13, 20, 21⟩] ⟨0, 13, 24, 23⟩ [] (by rw [htab]; rfl) (List.forall_mem_cons.mpr ⟨Or.inr ⟨by decide, "java/lang/IndexOutOfBoundsException", (htg _ w_622), gx_nc hGx (q := ("java/lang/IllegalStateException", "java/lang/IndexOutOfBoundsException")) (by decide)⟩, (List.forall_mem_cons.mpr ⟨Or.inr ⟨by decide, "java/lang/IllegalArgumentException", (htg _ w_623), gx_nc hGx (q := ("java/lang/IllegalStateException", "java/lang/IllegalArgumentException")) (by decide)⟩, (List.forall_mem_nil _)⟩)⟩) (by decide) (by decide) (htg _ w_624) (gx_cast hGx (by decide)) hce hcv hcl ?_
      refine lv_astore (lv' := [(5, .ref q), (0, .ref a.1), (1, .int p1), (2, .int p2), (3, .int p3), (4, .ref o)]) hx hb dL_apart_24 hl (by decide) rfl (fun ls hl => ?_)
      refine lv_iconst (v := 3) hx hb dL_apart_26 (by decide) ?_
      have hv9 : (if (m_X0_apart p1 p2 p3 z).1 = 0 then ((m_X0_apart p1 p2 p3 z).2).toInt64 else v) = v := if_neg h0
      rw [hv9]
      exact w_iret hx hb hr hlocks (by rw [h]; rfl) hP1 hO1 hS2 ⟨Nat.le_of_ble_eq_true rfl, Nat.le_of_ble_eq_true rfl⟩ dL_apart_27
  · obtain ⟨hO1, hS2⟩ := w_pre (z := z) hO hoa hS1
    obtain ⟨w9, hO1⟩ := hO1
    have hP3 := va_P.app (w1 := [(o, _)]) hO1 hP1
    have hD3 := w_D (n := s.heap.size) (x := .inr (3, [.long v, w9])) (z := z) hD hoa
    refine lv_i2l hx hb dL_apart_9 rfl ?_
    refine va_putN (D := kD k) (ci := 3) (v := .long (((m_X0_apart p1 p2 p3 z).2).toInt64)) (ty := .long) (C := RX1) (T := TX1) (N := 2) (A := wA a o s.heap.size) (H0 := s.heap) hx hb htg inG_X1 tyX1 tyX1_ok nmX1 hown hGx.1 hP3 hD3 hS2 0 rfl rfl 0 (by decide) (va_Nw.use rfl (gx_nf hGx (q := ("DatesoloLaw", 13, "DatesoloLaw$Out", "n", "J", "DatesoloLaw")) (by decide +kernel))) (fun _ h9 => h9) rfl (by decide +kernel) rfl rfl (Nat.le_of_ble_eq_true rfl) dL_apart_10 (fun H4 locs4 hP4 _ hS4 => ?_)
    refine lv_goto (tgt := 28) hx hb dL_apart_13 (by decide) ?_
    refine lv_iconst (v := 0) hx hb dL_apart_28 (by decide) ?_
    have hP5 : va_P (kD k) vwCl (cW k a (z)) H4 := hP4.sub [1, 2, 3, 4, 5] rfl
    have hO5 : oP k o (((m_X0_apart p1 p2 p3 z).2).toInt64) H4 := ⟨w9, hP4.sub [0] rfl⟩
    have hv9 : (if (m_X0_apart p1 p2 p3 z).1 = 0 then ((m_X0_apart p1 p2 p3 z).2).toInt64 else v) = ((m_X0_apart p1 p2 p3 z).2).toInt64 := if_pos h0
    rw [hv9]
    exact w_iret hx hb hr hlocks (by rw [h0]; rfl) hP5 hO5 hS4 ⟨Nat.le_of_ble_eq_true rfl, Nat.le_of_ble_eq_true rfl⟩ dL_apart_29
noncomputable abbrev wsL_daysToYearEnd : List Cond := .codeWith yL_daysToYearEnd cL_daysToYearEnd 4 (some .int) [(0, 10, 13, 19)] :: GL
theorem kw_L_daysToYearEnd : (∃ ws', wsL_daysToYearEnd = Cond.codeWith yL_daysToYearEnd cL_daysToYearEnd 4 (some .int) [(0, 10, 13, 19)] :: ws') ∧ yL_daysToYearEnd.cls ≠ "java/lang/invoke/MethodHandle" ∧ yL_daysToYearEnd.cls ≠ "java/lang/invoke/VarHandle" ∧ (parseMethodDescriptor yL_daysToYearEnd.desc).map (fun d => d.parameters.length) = some 3 := ⟨⟨_, rfl⟩, by decide +kernel, by decide +kernel, by decide +kernel⟩
set_option maxRecDepth 100000 in
set_option maxHeartbeats 4000000 in
theorem k_L_daysToYearEnd (l : Launch) (hl9 : l.stackTraces = false) (k : Kx) (a : CA) (hD : cD k a) (o : Nat) (p1 : Int32) (z : CS) (v : Int64) (hres : (m_X0_daysToYearEnd p1 z).1 = 0 ∨ (m_X0_daysToYearEnd p1 z).1 = 1) : wM l k a o yL_daysToYearEnd wsL_daysToYearEnd 9 204 1 6 [.ref a.1, .int p1, .ref o] z v (wk 1 1 ((m_X0_daysToYearEnd p1 z).1)) (z) (if (m_X0_daysToYearEnd p1 z).1 = 0 then ((m_X0_daysToYearEnd p1 z).2).toInt64 else v) := by
  intro sz
  refine va_MetW (cc := cL_daysToYearEnd) (maxL := 4) (ret := (some .int)) (hh := [(0, 10, 13, 19)]) (by decide) rfl ?_
  intro p e s m args below meth c s₁ B hml hv
  obtain ⟨rfl, rfl, hGx, hP, hO, hob, hoa⟩ := hv
  have hx := B.exec
  have hb := B.bytes
  have hr := B.returns
  have hts := atoms_spec (ws := wsL_daysToYearEnd) B.pre
  have hown : s.vm.findClass RL = some m.cls := findClass_of_methodNamed B.named
  have hlocks := B.notSynchronized
  have htg : ∀ w ∈ GL, w.before _ s = true := fun w h => hts w (List.mem_cons_of_mem _ h)
  have hC : CallFix p m c cL_daysToYearEnd 4 s _ wsL_daysToYearEnd RL := ⟨hx, hb, hml, hown, hts⟩
  have htab : c.exceptionTable.toList = tableOf [(0, 10, 13, 19)] := vx_table (x := yL_daysToYearEnd) B (hts _ List.mem_cons_self)
  have hl := lv_entry ([.ref a.1, .int p1, .ref o]) (n := 4) (Nat.le_of_ble_eq_true rfl)
  rw [lg_entry_eq]
  generalize (lg_sl ([.ref a.1, .int p1, .ref o]) ++ List.replicate (4 - (lg_sl ([.ref a.1, .int p1, .ref o])).length) Slot.unset).toArray = ls at hl ⊢
  have hl : lv_has ls 4 [(0, .ref a.1), (1, .int p1), (2, .ref o)] := hl
  refine lv_aload_n hx hb dL_daysToYearEnd_0 rfl (lv_at hl 2 rfl) ?_
  refine lv_aload_n hx hb dL_daysToYearEnd_1 rfl (lv_at hl 0 rfl) ?_
  refine lv_iload_n hx hb dL_daysToYearEnd_2 rfl (lv_at hl 1 rfl) ?_
  refine cv_V hC hGx hD (c_X0_daysToYearEnd l hl9 k a hD p1 z) (gV w_970 w_971 w_972 w_26 w_973) kk_X0_daysToYearEnd rfl ⟨Nat.le_of_ble_eq_true rfl, Nat.le_of_ble_eq_true rfl⟩ ⟨Nat.le_of_ble_eq_true rfl, Nat.le_of_ble_eq_true rfl⟩ hP va_S.rf hl.1 rfl rfl (Nat.le_of_ble_eq_true rfl) dL_daysToYearEnd_3 (fun h0 ce q H1 locs1 hP1 hS1 hce hcv hcl => ?_) (fun h0 H1 locs1 hP1 hS1 => ?_)
  · obtain ⟨hO1, hS2⟩ := w_pre (z := z) hO hoa hS1
    rcases hres with h | h
    · exact absurd h h0
    · have hcl : s.vm.findClass "java/lang/IndexOutOfBoundsException" = some ce.cls := by rw [h] at hcl; exact hcl
      refine vx_catch (E := "java/lang/IndexOutOfBoundsException") hown [] ⟨0, 10, 13, 19⟩ [] (by rw [htab]; rfl) (List.forall_mem_nil _) (by decide) (by decide) (htg _ w_622) (gx_cast hGx (by decide)) hce hcv hcl ?_
      refine lv_astore_n (lv' := [(3, .ref q), (0, .ref a.1), (1, .int p1), (2, .ref o)]) hx hb dL_daysToYearEnd_13 rfl hl (by decide) rfl (fun ls hl => ?_)
      refine lv_iconst (v := 1) hx hb dL_daysToYearEnd_14 (by decide) ?_
      have hv9 : (if (m_X0_daysToYearEnd p1 z).1 = 0 then ((m_X0_daysToYearEnd p1 z).2).toInt64 else v) = v := if_neg h0
      rw [hv9]
      exact w_iret hx hb hr hlocks (by rw [h]; rfl) hP1 hO1 hS2 ⟨Nat.le_of_ble_eq_true rfl, Nat.le_of_ble_eq_true rfl⟩ dL_daysToYearEnd_15
  · obtain ⟨hO1, hS2⟩ := w_pre (z := z) hO hoa hS1
    obtain ⟨w9, hO1⟩ := hO1
    have hP3 := va_P.app (w1 := [(o, _)]) hO1 hP1
    have hD3 := w_D (n := s.heap.size) (x := .inr (3, [.long v, w9])) (z := z) hD hoa
    refine lv_i2l hx hb dL_daysToYearEnd_6 rfl ?_
    refine va_putN (D := kD k) (ci := 3) (v := .long (((m_X0_daysToYearEnd p1 z).2).toInt64)) (ty := .long) (C := RX1) (T := TX1) (N := 2) (A := wA a o s.heap.size) (H0 := s.heap) hx hb htg inG_X1 tyX1 tyX1_ok nmX1 hown hGx.1 hP3 hD3 hS2 0 rfl rfl 0 (by decide) (va_Nw.use rfl (gx_nf hGx (q := ("DatesoloLaw", 13, "DatesoloLaw$Out", "n", "J", "DatesoloLaw")) (by decide +kernel))) (fun _ h9 => h9) rfl (by decide +kernel) rfl rfl (Nat.le_of_ble_eq_true rfl) dL_daysToYearEnd_7 (fun H4 locs4 hP4 _ hS4 => ?_)
    refine lv_goto (tgt := 16) hx hb dL_daysToYearEnd_10 (by decide) ?_
    refine lv_iconst (v := 0) hx hb dL_daysToYearEnd_16 (by decide) ?_
    have hP5 : va_P (kD k) vwCl (cW k a (z)) H4 := hP4.sub [1, 2, 3, 4, 5] rfl
    have hO5 : oP k o (((m_X0_daysToYearEnd p1 z).2).toInt64) H4 := ⟨w9, hP4.sub [0] rfl⟩
    have hv9 : (if (m_X0_daysToYearEnd p1 z).1 = 0 then ((m_X0_daysToYearEnd p1 z).2).toInt64 else v) = ((m_X0_daysToYearEnd p1 z).2).toInt64 := if_pos h0
    rw [hv9]
    exact w_iret hx hb hr hlocks (by rw [h0]; rfl) hP5 hO5 hS4 ⟨Nat.le_of_ble_eq_true rfl, Nat.le_of_ble_eq_true rfl⟩ dL_daysToYearEnd_17
noncomputable abbrev wsL_sameDay : List Cond := .codeWith yL_sameDay cL_sameDay 5 (some .int) [(0, 11, 14, 19), (0, 11, 18, 21)] :: GL
theorem kw_L_sameDay : (∃ ws', wsL_sameDay = Cond.codeWith yL_sameDay cL_sameDay 5 (some .int) [(0, 11, 14, 19), (0, 11, 18, 21)] :: ws') ∧ yL_sameDay.cls ≠ "java/lang/invoke/MethodHandle" ∧ yL_sameDay.cls ≠ "java/lang/invoke/VarHandle" ∧ (parseMethodDescriptor yL_sameDay.desc).map (fun d => d.parameters.length) = some 4 := ⟨⟨_, rfl⟩, by decide +kernel, by decide +kernel, by decide +kernel⟩
set_option maxRecDepth 100000 in
set_option maxHeartbeats 4000000 in
theorem k_L_sameDay (l : Launch) (hl9 : l.stackTraces = false) (k : Kx) (a : CA) (hD : cD k a) (o : Nat) (p1 : Int32) (p2 : Int32) (z : CS) (v : Int64) (hres : (m_X0_sameDay p1 p2 z).1 = 0 ∨ (m_X0_sameDay p1 p2 z).1 = 1 ∨ (m_X0_sameDay p1 p2 z).1 = 2) : wM l k a o yL_sameDay wsL_sameDay 9 205 2 12 [.ref a.1, .int p1, .int p2, .ref o] z v (wk 1 2 ((m_X0_sameDay p1 p2 z).1)) (z) (if (m_X0_sameDay p1 p2 z).1 = 0 then ((m_X0_sameDay p1 p2 z).2).toInt64 else v) := by
  intro sz
  refine va_MetW (cc := cL_sameDay) (maxL := 5) (ret := (some .int)) (hh := [(0, 11, 14, 19), (0, 11, 18, 21)]) (by decide) rfl ?_
  intro p e s m args below meth c s₁ B hml hv
  obtain ⟨rfl, rfl, hGx, hP, hO, hob, hoa⟩ := hv
  have hx := B.exec
  have hb := B.bytes
  have hr := B.returns
  have hts := atoms_spec (ws := wsL_sameDay) B.pre
  have hown : s.vm.findClass RL = some m.cls := findClass_of_methodNamed B.named
  have hlocks := B.notSynchronized
  have htg : ∀ w ∈ GL, w.before _ s = true := fun w h => hts w (List.mem_cons_of_mem _ h)
  have hC : CallFix p m c cL_sameDay 5 s _ wsL_sameDay RL := ⟨hx, hb, hml, hown, hts⟩
  have htab : c.exceptionTable.toList = tableOf [(0, 11, 14, 19), (0, 11, 18, 21)] := vx_table (x := yL_sameDay) B (hts _ List.mem_cons_self)
  have hl := lv_entry ([.ref a.1, .int p1, .int p2, .ref o]) (n := 5) (Nat.le_of_ble_eq_true rfl)
  rw [lg_entry_eq]
  generalize (lg_sl ([.ref a.1, .int p1, .int p2, .ref o]) ++ List.replicate (5 - (lg_sl ([.ref a.1, .int p1, .int p2, .ref o])).length) Slot.unset).toArray = ls at hl ⊢
  have hl : lv_has ls 5 [(0, .ref a.1), (1, .int p1), (2, .int p2), (3, .ref o)] := hl
  refine lv_aload_n hx hb dL_sameDay_0 rfl (lv_at hl 3 rfl) ?_
  refine lv_aload_n hx hb dL_sameDay_1 rfl (lv_at hl 0 rfl) ?_
  refine lv_iload_n hx hb dL_sameDay_2 rfl (lv_at hl 1 rfl) ?_
  refine lv_iload_n hx hb dL_sameDay_3 rfl (lv_at hl 2 rfl) ?_
  refine cv_V hC hGx hD (c_X0_sameDay l hl9 k a hD p1 p2 z) (gV w_977 w_978 w_979 w_26 w_980) kk_X0_sameDay rfl ⟨Nat.le_of_ble_eq_true rfl, Nat.le_of_ble_eq_true rfl⟩ ⟨Nat.le_of_ble_eq_true rfl, Nat.le_of_ble_eq_true rfl⟩ hP va_S.rf hl.1 rfl rfl (Nat.le_of_ble_eq_true rfl) dL_sameDay_4 (fun h0 ce q H1 locs1 hP1 hS1 hce hcv hcl => ?_) (fun h0 H1 locs1 hP1 hS1 => ?_)
  · obtain ⟨hO1, hS2⟩ := w_pre (z := z) hO hoa hS1
    rcases hres with h | h | h
    · exact absurd h h0
    · have hcl : s.vm.findClass "java/lang/IndexOutOfBoundsException" = some ce.cls := by rw [h] at hcl; exact hcl
      refine vx_catch (E := "java/lang/IndexOutOfBoundsException") hown [] ⟨0, 11, 14, 19⟩ [⟨0, 11, 18, 21⟩] (by rw [htab]; rfl) (List.forall_mem_nil _) (by decide) (by decide) (htg _ w_622) (gx_cast hGx (by decide)) hce hcv hcl ?_
      refine lv_astore (lv' := [(4, .ref q), (0, .ref a.1), (1, .int p1), (2, .int p2), (3, .ref o)]) hx hb dL_sameDay_14 hl (by decide) rfl (fun ls hl => ?_)
      refine lv_iconst (v := 1) hx hb dL_sameDay_16 (by decide) ?_
      have hv9 : (if (m_X0_sameDay p1 p2 z).1 = 0 then ((m_X0_sameDay p1 p2 z).2).toInt64 else v) = v := if_neg h0
      rw [hv9]
      exact w_iret hx hb hr hlocks (by rw [h]; rfl) hP1 hO1 hS2 ⟨Nat.le_of_ble_eq_true rfl, Nat.le_of_ble_eq_true rfl⟩ dL_sameDay_17
    · have hcl : s.vm.findClass "java/lang/IllegalArgumentException" = some ce.cls := by rw [h] at hcl; exact hcl
      refine vx_catch (E := "java/lang/IllegalArgumentException") hown [⟨0, 11, 14, 19⟩] ⟨0, 11, 18, 21⟩ [] (by rw [htab]; rfl) (List.forall_mem_cons.mpr ⟨Or.inr ⟨by decide, "java/lang/IndexOutOfBoundsException", (htg _ w_622), gx_nc hGx (q := ("java/lang/IllegalArgumentException", "java/lang/IndexOutOfBoundsException")) (by decide)⟩, (List.forall_mem_nil _)⟩) (by decide) (by decide) (htg _ w_623) (gx_cast hGx (by decide)) hce hcv hcl ?_
      refine lv_astore (lv' := [(4, .ref q), (0, .ref a.1), (1, .int p1), (2, .int p2), (3, .ref o)]) hx hb dL_sameDay_18 hl (by decide) rfl (fun ls hl => ?_)
      refine lv_iconst (v := 2) hx hb dL_sameDay_20 (by decide) ?_
      have hv9 : (if (m_X0_sameDay p1 p2 z).1 = 0 then ((m_X0_sameDay p1 p2 z).2).toInt64 else v) = v := if_neg h0
      rw [hv9]
      exact w_iret hx hb hr hlocks (by rw [h]; rfl) hP1 hO1 hS2 ⟨Nat.le_of_ble_eq_true rfl, Nat.le_of_ble_eq_true rfl⟩ dL_sameDay_21
  · obtain ⟨hO1, hS2⟩ := w_pre (z := z) hO hoa hS1
    obtain ⟨w9, hO1⟩ := hO1
    have hP3 := va_P.app (w1 := [(o, _)]) hO1 hP1
    have hD3 := w_D (n := s.heap.size) (x := .inr (3, [.long v, w9])) (z := z) hD hoa
    refine lv_i2l hx hb dL_sameDay_7 rfl ?_
    refine va_putN (D := kD k) (ci := 3) (v := .long (((m_X0_sameDay p1 p2 z).2).toInt64)) (ty := .long) (C := RX1) (T := TX1) (N := 2) (A := wA a o s.heap.size) (H0 := s.heap) hx hb htg inG_X1 tyX1 tyX1_ok nmX1 hown hGx.1 hP3 hD3 hS2 0 rfl rfl 0 (by decide) (va_Nw.use rfl (gx_nf hGx (q := ("DatesoloLaw", 13, "DatesoloLaw$Out", "n", "J", "DatesoloLaw")) (by decide +kernel))) (fun _ h9 => h9) rfl (by decide +kernel) rfl rfl (Nat.le_of_ble_eq_true rfl) dL_sameDay_8 (fun H4 locs4 hP4 _ hS4 => ?_)
    refine lv_goto (tgt := 22) hx hb dL_sameDay_11 (by decide) ?_
    refine lv_iconst (v := 0) hx hb dL_sameDay_22 (by decide) ?_
    have hP5 : va_P (kD k) vwCl (cW k a (z)) H4 := hP4.sub [1, 2, 3, 4, 5] rfl
    have hO5 : oP k o (((m_X0_sameDay p1 p2 z).2).toInt64) H4 := ⟨w9, hP4.sub [0] rfl⟩
    have hv9 : (if (m_X0_sameDay p1 p2 z).1 = 0 then ((m_X0_sameDay p1 p2 z).2).toInt64 else v) = ((m_X0_sameDay p1 p2 z).2).toInt64 := if_pos h0
    rw [hv9]
    exact w_iret hx hb hr hlocks (by rw [h0]; rfl) hP5 hO5 hS4 ⟨Nat.le_of_ble_eq_true rfl, Nat.le_of_ble_eq_true rfl⟩ dL_sameDay_23
noncomputable abbrev wsL_house : List Cond := .codeWith yL_house cL_house 4 (some .int) [(0, 10, 13, 21)] :: GL
theorem kw_L_house : (∃ ws', wsL_house = Cond.codeWith yL_house cL_house 4 (some .int) [(0, 10, 13, 21)] :: ws') ∧ yL_house.cls ≠ "java/lang/invoke/MethodHandle" ∧ yL_house.cls ≠ "java/lang/invoke/VarHandle" ∧ (parseMethodDescriptor yL_house.desc).map (fun d => d.parameters.length) = some 3 := ⟨⟨_, rfl⟩, by decide +kernel, by decide +kernel, by decide +kernel⟩
set_option maxRecDepth 100000 in
set_option maxHeartbeats 4000000 in
theorem k_L_house (l : Launch) (hl9 : l.stackTraces = false) (k : Kx) (a : CA) (hD : cD k a) (o : Nat) (p1 : Int32) (z : CS) (v : Int64) (hres : (m_X0_house p1 z).1 = 0 ∨ (m_X0_house p1 z).1 = 2) : wM l k a o yL_house wsL_house 11 245 7 42 [.ref a.1, .int p1, .ref o] z v (wk 2 2 ((m_X0_house p1 z).1)) (z) (if (m_X0_house p1 z).1 = 0 then ((m_X0_house p1 z).2).toInt64 else v) := by
  intro sz
  refine va_MetW (cc := cL_house) (maxL := 4) (ret := (some .int)) (hh := [(0, 10, 13, 21)]) (by decide) rfl ?_
  intro p e s m args below meth c s₁ B hml hv
  obtain ⟨rfl, rfl, hGx, hP, hO, hob, hoa⟩ := hv
  have hx := B.exec
  have hb := B.bytes
  have hr := B.returns
  have hts := atoms_spec (ws := wsL_house) B.pre
  have hown : s.vm.findClass RL = some m.cls := findClass_of_methodNamed B.named
  have hlocks := B.notSynchronized
  have htg : ∀ w ∈ GL, w.before _ s = true := fun w h => hts w (List.mem_cons_of_mem _ h)
  have hC : CallFix p m c cL_house 4 s _ wsL_house RL := ⟨hx, hb, hml, hown, hts⟩
  have htab : c.exceptionTable.toList = tableOf [(0, 10, 13, 21)] := vx_table (x := yL_house) B (hts _ List.mem_cons_self)
  have hl := lv_entry ([.ref a.1, .int p1, .ref o]) (n := 4) (Nat.le_of_ble_eq_true rfl)
  rw [lg_entry_eq]
  generalize (lg_sl ([.ref a.1, .int p1, .ref o]) ++ List.replicate (4 - (lg_sl ([.ref a.1, .int p1, .ref o])).length) Slot.unset).toArray = ls at hl ⊢
  have hl : lv_has ls 4 [(0, .ref a.1), (1, .int p1), (2, .ref o)] := hl
  refine lv_aload_n hx hb dL_house_0 rfl (lv_at hl 2 rfl) ?_
  refine lv_aload_n hx hb dL_house_1 rfl (lv_at hl 0 rfl) ?_
  refine lv_iload_n hx hb dL_house_2 rfl (lv_at hl 1 rfl) ?_
  refine cv_V hC hGx hD (c_X0_house l hl9 k a hD p1 z) (gV w_984 w_602 w_603 w_26 w_604) kk_X0_house rfl ⟨Nat.le_of_ble_eq_true rfl, Nat.le_of_ble_eq_true rfl⟩ ⟨Nat.le_of_ble_eq_true rfl, Nat.le_of_ble_eq_true rfl⟩ hP va_S.rf hl.1 rfl rfl (Nat.le_of_ble_eq_true rfl) dL_house_3 (fun h0 ce q H1 locs1 hP1 hS1 hce hcv hcl => ?_) (fun h0 H1 locs1 hP1 hS1 => ?_)
  · obtain ⟨hO1, hS2⟩ := w_pre (z := z) hO hoa hS1
    rcases hres with h | h
    · exact absurd h h0
    · have hcl : s.vm.findClass "java/lang/IllegalArgumentException" = some ce.cls := by rw [h] at hcl; exact hcl
      refine vx_catch (E := "java/lang/IllegalArgumentException") hown [] ⟨0, 10, 13, 21⟩ [] (by rw [htab]; rfl) (List.forall_mem_nil _) (by decide) (by decide) (htg _ w_623) (gx_cast hGx (by decide)) hce hcv hcl ?_
      refine lv_astore_n (lv' := [(3, .ref q), (0, .ref a.1), (1, .int p1), (2, .ref o)]) hx hb dL_house_13 rfl hl (by decide) rfl (fun ls hl => ?_)
      refine lv_iconst (v := 1) hx hb dL_house_14 (by decide) ?_
      have hv9 : (if (m_X0_house p1 z).1 = 0 then ((m_X0_house p1 z).2).toInt64 else v) = v := if_neg h0
      rw [hv9]
      exact w_iret hx hb hr hlocks (by rw [h]; rfl) hP1 hO1 hS2 ⟨Nat.le_of_ble_eq_true rfl, Nat.le_of_ble_eq_true rfl⟩ dL_house_15
  · obtain ⟨hO1, hS2⟩ := w_pre (z := z) hO hoa hS1
    obtain ⟨w9, hO1⟩ := hO1
    have hP3 := va_P.app (w1 := [(o, _)]) hO1 hP1
    have hD3 := w_D (n := s.heap.size) (x := .inr (3, [.long v, w9])) (z := z) hD hoa
    refine lv_i2l hx hb dL_house_6 rfl ?_
    refine va_putN (D := kD k) (ci := 3) (v := .long (((m_X0_house p1 z).2).toInt64)) (ty := .long) (C := RX1) (T := TX1) (N := 2) (A := wA a o s.heap.size) (H0 := s.heap) hx hb htg inG_X1 tyX1 tyX1_ok nmX1 hown hGx.1 hP3 hD3 hS2 0 rfl rfl 0 (by decide) (va_Nw.use rfl (gx_nf hGx (q := ("DatesoloLaw", 13, "DatesoloLaw$Out", "n", "J", "DatesoloLaw")) (by decide +kernel))) (fun _ h9 => h9) rfl (by decide +kernel) rfl rfl (Nat.le_of_ble_eq_true rfl) dL_house_7 (fun H4 locs4 hP4 _ hS4 => ?_)
    refine lv_goto (tgt := 16) hx hb dL_house_10 (by decide) ?_
    refine lv_iconst (v := 0) hx hb dL_house_16 (by decide) ?_
    have hP5 : va_P (kD k) vwCl (cW k a (z)) H4 := hP4.sub [1, 2, 3, 4, 5] rfl
    have hO5 : oP k o (((m_X0_house p1 z).2).toInt64) H4 := ⟨w9, hP4.sub [0] rfl⟩
    have hv9 : (if (m_X0_house p1 z).1 = 0 then ((m_X0_house p1 z).2).toInt64 else v) = ((m_X0_house p1 z).2).toInt64 := if_pos h0
    rw [hv9]
    exact w_iret hx hb hr hlocks (by rw [h0]; rfl) hP5 hO5 hS4 ⟨Nat.le_of_ble_eq_true rfl, Nat.le_of_ble_eq_true rfl⟩ dL_house_17
