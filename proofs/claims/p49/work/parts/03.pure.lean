def m_J9_floorDiv_f86c9 (p0 : Int64) (p1 : Int64) : Int64 := (if 0 ≤ lg_cmp (p0 ^^^ p1) (0 : Int64) then p0 / p1 else (if lg_cmp ((p0 / p1) * p1) p0 = 0 then p0 / p1 else (p0 / p1) - (1 : Int64)))
theorem kk_J9_floorDiv_f86c9 : pK yJ9_floorDiv_f86c9 wsJ9_floorDiv_f86c9 cJ9_floorDiv_f86c9 6 (some .long) 2 := ⟨⟨_, rfl⟩, by decide +kernel, by decide +kernel, by decide +kernel⟩
set_option maxRecDepth 100000 in
set_option maxHeartbeats 4000000 in
theorem c_J9_floorDiv_f86c9 (l : Launch) (p0 : Int64) (p1 : Int64) (hz_p1 : ¬ p1 = 0) : pM l yJ9_floorDiv_f86c9 wsJ9_floorDiv_f86c9 0 0 [.long p0, .long p1] (.long (m_J9_floorDiv_f86c9 p0 p1)) := by
  refine va_MetF (cc := cJ9_floorDiv_f86c9) (maxL := 6) (ret := (some .long)) (by decide +kernel) rfl ?_
  intro p e s m args below meth c s₁ B hml hv
  subst hv
  have hx := B.exec
  have hb := B.bytes
  have hr := B.returns
  have hts := atoms_spec (ws := wsJ9_floorDiv_f86c9) B.pre
  have hown : s.vm.findClass RJ9 = some m.cls := findClass_of_methodNamed B.named
  have hlocks := B.notSynchronized
  have htg : ∀ w ∈ GL, w.before _ s = true := fun w h => hts w (List.mem_cons_of_mem _ h)
  have hC : CallFix p m c cJ9_floorDiv_f86c9 6 s _ wsJ9_floorDiv_f86c9 RJ9 := ⟨hx, hb, hml, hown, hts⟩
  have hl := lv_entry ([.long p0, .long p1]) (n := 6) (Nat.le_of_ble_eq_true rfl)
  rw [lg_entry_eq]
  generalize (lg_sl ([.long p0, .long p1]) ++ List.replicate (6 - (lg_sl ([.long p0, .long p1])).length) Slot.unset).toArray = ls at hl ⊢
  have hl : lv_has ls 6 [(0, .long p0), (2, .long p1)] := hl
  have hm : m_J9_floorDiv_f86c9 p0 p1 = m_J9_floorDiv_f86c9 p0 p1 := rfl
  refine lv_lload_n hx hb dJ9_floorDiv_f86c9_0 rfl (lv_at hl 0 rfl) ?_
  refine lv_lload_n hx hb dJ9_floorDiv_f86c9_1 rfl (lv_at hl 1 rfl) ?_
  refine lv_ldiv hx hb dJ9_floorDiv_f86c9_2 hz_p1 ?_
  refine lv_lstore (lv' := [(4, .long (p0 / p1)), (0, .long p0), (2, .long p1)]) hx hb dJ9_floorDiv_f86c9_3 hl (by decide) rfl (fun ls hl => ?_)
  refine lv_lload_n hx hb dJ9_floorDiv_f86c9_5 rfl (lv_at hl 1 rfl) ?_
  refine lv_lload_n hx hb dJ9_floorDiv_f86c9_6 rfl (lv_at hl 2 rfl) ?_
  refine lv_lxor hx hb dJ9_floorDiv_f86c9_7 ?_
  refine lv_lconst (v := 0) hx hb dJ9_floorDiv_f86c9_8 (by decide) ?_
  refine W.lcmp hx hb dJ9_floorDiv_f86c9_9 ?_
  refine lv_if_ge (tgt := 27) hx hb dJ9_floorDiv_f86c9_10 (by decide) (fun h_1 => ?_) (fun h_1 => ?_)
  · have hm := hm.trans (if_pos h_1)
    refine lv_lload hx hb dJ9_floorDiv_f86c9_27 (lv_at hl 0 rfl) ?_
    have hm : m_J9_floorDiv_f86c9 p0 p1 = p0 / p1 := hm
    exact W.lret (v := p0 / p1) hx hb hr (fun t ht _ => ⟨by rw [hm], ht⟩) (fun _ h => absurd h List.not_mem_nil) dJ9_floorDiv_f86c9_29
  · have hm := hm.trans (if_neg h_1)
    refine lv_lload hx hb dJ9_floorDiv_f86c9_13 (lv_at hl 0 rfl) ?_
    refine lv_lload_n hx hb dJ9_floorDiv_f86c9_15 rfl (lv_at hl 2 rfl) ?_
    refine lv_lmul hx hb dJ9_floorDiv_f86c9_16 ?_
    refine lv_lload_n hx hb dJ9_floorDiv_f86c9_17 rfl (lv_at hl 1 rfl) ?_
    refine W.lcmp hx hb dJ9_floorDiv_f86c9_18 ?_
    refine lv_if_eq (tgt := 27) hx hb dJ9_floorDiv_f86c9_19 (by decide) (fun h_2 => ?_) (fun h_2 => ?_)
    · have hm := hm.trans (if_pos h_2)
      refine lv_lload hx hb dJ9_floorDiv_f86c9_27 (lv_at hl 0 rfl) ?_
      have hm : m_J9_floorDiv_f86c9 p0 p1 = p0 / p1 := hm
      exact W.lret (v := p0 / p1) hx hb hr (fun t ht _ => ⟨by rw [hm], ht⟩) (fun _ h => absurd h List.not_mem_nil) dJ9_floorDiv_f86c9_29
    · have hm := hm.trans (if_neg h_2)
      refine lv_lload hx hb dJ9_floorDiv_f86c9_22 (lv_at hl 0 rfl) ?_
      refine lv_lconst (v := 1) hx hb dJ9_floorDiv_f86c9_24 (by decide) ?_
      refine lv_lsub hx hb dJ9_floorDiv_f86c9_25 ?_
      have hm : m_J9_floorDiv_f86c9 p0 p1 = (p0 / p1) - (1 : Int64) := hm
      exact W.lret (v := (p0 / p1) - (1 : Int64)) hx hb hr (fun t ht _ => ⟨by rw [hm], ht⟩) (fun _ h => absurd h List.not_mem_nil) dJ9_floorDiv_f86c9_26
def m_J9_floorMod_f86c9 (p0 : Int64) (p1 : Int64) : Int64 := (if 0 ≤ lg_cmp (p0 ^^^ p1) (0 : Int64) then p0 - p0 / p1 * p1 else (if lg_cmp (p0 - p0 / p1 * p1) (0 : Int64) = 0 then p0 - p0 / p1 * p1 else (p0 - p0 / p1 * p1) + p1))
theorem kk_J9_floorMod_f86c9 : pK yJ9_floorMod_f86c9 wsJ9_floorMod_f86c9 cJ9_floorMod_f86c9 6 (some .long) 2 := ⟨⟨_, rfl⟩, by decide +kernel, by decide +kernel, by decide +kernel⟩
set_option maxRecDepth 100000 in
set_option maxHeartbeats 4000000 in
theorem c_J9_floorMod_f86c9 (l : Launch) (p0 : Int64) (p1 : Int64) (hz_p1 : ¬ p1 = 0) : pM l yJ9_floorMod_f86c9 wsJ9_floorMod_f86c9 0 0 [.long p0, .long p1] (.long (m_J9_floorMod_f86c9 p0 p1)) := by
  refine va_MetF (cc := cJ9_floorMod_f86c9) (maxL := 6) (ret := (some .long)) (by decide +kernel) rfl ?_
  intro p e s m args below meth c s₁ B hml hv
  subst hv
  have hx := B.exec
  have hb := B.bytes
  have hr := B.returns
  have hts := atoms_spec (ws := wsJ9_floorMod_f86c9) B.pre
  have hown : s.vm.findClass RJ9 = some m.cls := findClass_of_methodNamed B.named
  have hlocks := B.notSynchronized
  have htg : ∀ w ∈ GL, w.before _ s = true := fun w h => hts w (List.mem_cons_of_mem _ h)
  have hC : CallFix p m c cJ9_floorMod_f86c9 6 s _ wsJ9_floorMod_f86c9 RJ9 := ⟨hx, hb, hml, hown, hts⟩
  have hl := lv_entry ([.long p0, .long p1]) (n := 6) (Nat.le_of_ble_eq_true rfl)
  rw [lg_entry_eq]
  generalize (lg_sl ([.long p0, .long p1]) ++ List.replicate (6 - (lg_sl ([.long p0, .long p1])).length) Slot.unset).toArray = ls at hl ⊢
  have hl : lv_has ls 6 [(0, .long p0), (2, .long p1)] := hl
  have hm : m_J9_floorMod_f86c9 p0 p1 = m_J9_floorMod_f86c9 p0 p1 := rfl
  refine lv_lload_n hx hb dJ9_floorMod_f86c9_0 rfl (lv_at hl 0 rfl) ?_
  refine lv_lload_n hx hb dJ9_floorMod_f86c9_1 rfl (lv_at hl 1 rfl) ?_
  refine lv_lrem hx hb dJ9_floorMod_f86c9_2 hz_p1 ?_
  refine lv_lstore (lv' := [(4, .long (p0 - p0 / p1 * p1)), (0, .long p0), (2, .long p1)]) hx hb dJ9_floorMod_f86c9_3 hl (by decide) rfl (fun ls hl => ?_)
  refine lv_lload_n hx hb dJ9_floorMod_f86c9_5 rfl (lv_at hl 1 rfl) ?_
  refine lv_lload_n hx hb dJ9_floorMod_f86c9_6 rfl (lv_at hl 2 rfl) ?_
  refine lv_lxor hx hb dJ9_floorMod_f86c9_7 ?_
  refine lv_lconst (v := 0) hx hb dJ9_floorMod_f86c9_8 (by decide) ?_
  refine W.lcmp hx hb dJ9_floorMod_f86c9_9 ?_
  refine lv_if_ge (tgt := 25) hx hb dJ9_floorMod_f86c9_10 (by decide) (fun h_1 => ?_) (fun h_1 => ?_)
  · have hm := hm.trans (if_pos h_1)
    refine lv_lload hx hb dJ9_floorMod_f86c9_25 (lv_at hl 0 rfl) ?_
    have hm : m_J9_floorMod_f86c9 p0 p1 = p0 - p0 / p1 * p1 := hm
    exact W.lret (v := p0 - p0 / p1 * p1) hx hb hr (fun t ht _ => ⟨by rw [hm], ht⟩) (fun _ h => absurd h List.not_mem_nil) dJ9_floorMod_f86c9_27
  · have hm := hm.trans (if_neg h_1)
    refine lv_lload hx hb dJ9_floorMod_f86c9_13 (lv_at hl 0 rfl) ?_
    refine lv_lconst (v := 0) hx hb dJ9_floorMod_f86c9_15 (by decide) ?_
    refine W.lcmp hx hb dJ9_floorMod_f86c9_16 ?_
    refine lv_if_eq (tgt := 25) hx hb dJ9_floorMod_f86c9_17 (by decide) (fun h_2 => ?_) (fun h_2 => ?_)
    · have hm := hm.trans (if_pos h_2)
      refine lv_lload hx hb dJ9_floorMod_f86c9_25 (lv_at hl 0 rfl) ?_
      have hm : m_J9_floorMod_f86c9 p0 p1 = p0 - p0 / p1 * p1 := hm
      exact W.lret (v := p0 - p0 / p1 * p1) hx hb hr (fun t ht _ => ⟨by rw [hm], ht⟩) (fun _ h => absurd h List.not_mem_nil) dJ9_floorMod_f86c9_27
    · have hm := hm.trans (if_neg h_2)
      refine lv_lload hx hb dJ9_floorMod_f86c9_20 (lv_at hl 0 rfl) ?_
      refine lv_lload_n hx hb dJ9_floorMod_f86c9_22 rfl (lv_at hl 2 rfl) ?_
      refine lv_ladd hx hb dJ9_floorMod_f86c9_23 ?_
      have hm : m_J9_floorMod_f86c9 p0 p1 = (p0 - p0 / p1 * p1) + p1 := hm
      exact W.lret (v := (p0 - p0 / p1 * p1) + p1) hx hb hr (fun t ht _ => ⟨by rw [hm], ht⟩) (fun _ h => absurd h List.not_mem_nil) dJ9_floorMod_f86c9_24
def m_J9_floorMod_7cf53 (p0 : Int32) (p1 : Int32) : Int32 := (if 0 ≤ p0 ^^^ p1 then p0 - p0 / p1 * p1 else (if p0 - p0 / p1 * p1 = 0 then p0 - p0 / p1 * p1 else (p0 - p0 / p1 * p1) + p1))
theorem kk_J9_floorMod_7cf53 : pK yJ9_floorMod_7cf53 wsJ9_floorMod_7cf53 cJ9_floorMod_7cf53 3 (some .int) 2 := ⟨⟨_, rfl⟩, by decide +kernel, by decide +kernel, by decide +kernel⟩
set_option maxRecDepth 100000 in
set_option maxHeartbeats 4000000 in
theorem c_J9_floorMod_7cf53 (l : Launch) (p0 : Int32) (p1 : Int32) (hz_p1 : ¬ p1 = 0) : pM l yJ9_floorMod_7cf53 wsJ9_floorMod_7cf53 0 0 [.int p0, .int p1] (.int (m_J9_floorMod_7cf53 p0 p1)) := by
  refine va_MetF (cc := cJ9_floorMod_7cf53) (maxL := 3) (ret := (some .int)) (by decide +kernel) rfl ?_
  intro p e s m args below meth c s₁ B hml hv
  subst hv
  have hx := B.exec
  have hb := B.bytes
  have hr := B.returns
  have hts := atoms_spec (ws := wsJ9_floorMod_7cf53) B.pre
  have hown : s.vm.findClass RJ9 = some m.cls := findClass_of_methodNamed B.named
  have hlocks := B.notSynchronized
  have htg : ∀ w ∈ GL, w.before _ s = true := fun w h => hts w (List.mem_cons_of_mem _ h)
  have hC : CallFix p m c cJ9_floorMod_7cf53 3 s _ wsJ9_floorMod_7cf53 RJ9 := ⟨hx, hb, hml, hown, hts⟩
  have hl := lv_entry ([.int p0, .int p1]) (n := 3) (Nat.le_of_ble_eq_true rfl)
  rw [lg_entry_eq]
  generalize (lg_sl ([.int p0, .int p1]) ++ List.replicate (3 - (lg_sl ([.int p0, .int p1])).length) Slot.unset).toArray = ls at hl ⊢
  have hl : lv_has ls 3 [(0, .int p0), (1, .int p1)] := hl
  have hm : m_J9_floorMod_7cf53 p0 p1 = m_J9_floorMod_7cf53 p0 p1 := rfl
  refine lv_iload_n hx hb dJ9_floorMod_7cf53_0 rfl (lv_at hl 0 rfl) ?_
  refine lv_iload_n hx hb dJ9_floorMod_7cf53_1 rfl (lv_at hl 1 rfl) ?_
  refine lv_irem hx hb dJ9_floorMod_7cf53_2 hz_p1 ?_
  refine lv_istore_n (lv' := [(2, .int (p0 - p0 / p1 * p1)), (0, .int p0), (1, .int p1)]) hx hb dJ9_floorMod_7cf53_3 rfl hl (by decide) rfl (fun ls hl => ?_)
  refine lv_iload_n hx hb dJ9_floorMod_7cf53_4 rfl (lv_at hl 1 rfl) ?_
  refine lv_iload_n hx hb dJ9_floorMod_7cf53_5 rfl (lv_at hl 2 rfl) ?_
  refine lv_ixor hx hb dJ9_floorMod_7cf53_6 ?_
  refine lv_if_ge (tgt := 18) hx hb dJ9_floorMod_7cf53_7 (by decide) (fun h_1 => ?_) (fun h_1 => ?_)
  · have hm := hm.trans (if_pos h_1)
    refine lv_iload_n hx hb dJ9_floorMod_7cf53_18 rfl (lv_at hl 0 rfl) ?_
    have hm : m_J9_floorMod_7cf53 p0 p1 = p0 - p0 / p1 * p1 := hm
    exact W.iret (v := p0 - p0 / p1 * p1) hx hb hr (fun t ht _ => ⟨by rw [hm], ht⟩) (fun _ h => absurd h List.not_mem_nil) dJ9_floorMod_7cf53_19
  · have hm := hm.trans (if_neg h_1)
    refine lv_iload_n hx hb dJ9_floorMod_7cf53_10 rfl (lv_at hl 0 rfl) ?_
    refine lv_if_eq (tgt := 18) hx hb dJ9_floorMod_7cf53_11 (by decide) (fun h_2 => ?_) (fun h_2 => ?_)
    · have hm := hm.trans (if_pos h_2)
      refine lv_iload_n hx hb dJ9_floorMod_7cf53_18 rfl (lv_at hl 0 rfl) ?_
      have hm : m_J9_floorMod_7cf53 p0 p1 = p0 - p0 / p1 * p1 := hm
      exact W.iret (v := p0 - p0 / p1 * p1) hx hb hr (fun t ht _ => ⟨by rw [hm], ht⟩) (fun _ h => absurd h List.not_mem_nil) dJ9_floorMod_7cf53_19
    · have hm := hm.trans (if_neg h_2)
      refine lv_iload_n hx hb dJ9_floorMod_7cf53_14 rfl (lv_at hl 0 rfl) ?_
      refine lv_iload_n hx hb dJ9_floorMod_7cf53_15 rfl (lv_at hl 2 rfl) ?_
      refine lv_iadd hx hb dJ9_floorMod_7cf53_16 ?_
      have hm : m_J9_floorMod_7cf53 p0 p1 = (p0 - p0 / p1 * p1) + p1 := hm
      exact W.iret (v := (p0 - p0 / p1 * p1) + p1) hx hb hr (fun t ht _ => ⟨by rw [hm], ht⟩) (fun _ h => absurd h List.not_mem_nil) dJ9_floorMod_7cf53_17
def m_J13_compare_74951 (p0 : Int64) (p1 : Int64) : Int32 := (if 0 ≤ lg_cmp p0 p1 then (if lg_cmp p0 p1 = 0 then (0 : Int32) else (1 : Int32)) else (-1 : Int32))
theorem kk_J13_compare_74951 : pK yJ13_compare_74951 wsJ13_compare_74951 cJ13_compare_74951 4 (some .int) 2 := ⟨⟨_, rfl⟩, by decide +kernel, by decide +kernel, by decide +kernel⟩
set_option maxRecDepth 100000 in
set_option maxHeartbeats 4000000 in
theorem c_J13_compare_74951 (l : Launch) (p0 : Int64) (p1 : Int64) : pM l yJ13_compare_74951 wsJ13_compare_74951 0 0 [.long p0, .long p1] (.int (m_J13_compare_74951 p0 p1)) := by
  refine Met.ofW (cc := cJ13_compare_74951) (maxL := 4) (ret := (some .int)) (by decide) rfl ?_
  intro p e s m args below meth c s₁ B hml hv
  subst hv
  have hx := B.exec
  have hb := B.bytes
  have hr := B.returns
  have hts := atoms_spec (ws := wsJ13_compare_74951) B.pre
  have hown : s.vm.findClass RJ13 = some m.cls := findClass_of_methodNamed B.named
  have hlocks := B.notSynchronized
  have htg : ∀ w ∈ GL, w.before _ s = true := fun w h => hts w (List.mem_cons_of_mem _ h)
  have hC : CallFix p m c cJ13_compare_74951 4 s _ wsJ13_compare_74951 RJ13 := ⟨hx, hb, hml, hown, hts⟩
  have hl := lv_entry ([.long p0, .long p1]) (n := 4) (Nat.le_of_ble_eq_true rfl)
  rw [lg_entry_eq]
  generalize (lg_sl ([.long p0, .long p1]) ++ List.replicate (4 - (lg_sl ([.long p0, .long p1])).length) Slot.unset).toArray = ls at hl ⊢
  have hl : lv_has ls 4 [(0, .long p0), (2, .long p1)] := hl
  have hm : m_J13_compare_74951 p0 p1 = m_J13_compare_74951 p0 p1 := rfl
  refine lv_lload_n hx hb dJ13_compare_74951_0 rfl (lv_at hl 0 rfl) ?_
  refine lv_lload_n hx hb dJ13_compare_74951_1 rfl (lv_at hl 1 rfl) ?_
  refine W.lcmp hx hb dJ13_compare_74951_2 ?_
  refine lv_if_ge (tgt := 10) hx hb dJ13_compare_74951_3 (by decide) (fun h_1 => ?_) (fun h_1 => ?_)
  · have hm := hm.trans (if_pos h_1)
    refine lv_lload_n hx hb dJ13_compare_74951_10 rfl (lv_at hl 0 rfl) ?_
    refine lv_lload_n hx hb dJ13_compare_74951_11 rfl (lv_at hl 1 rfl) ?_
    refine W.lcmp hx hb dJ13_compare_74951_12 ?_
    refine lv_if_ne (tgt := 20) hx hb dJ13_compare_74951_13 (by decide) (fun h_2 => ?_) (fun h_2 => ?_)
    · have hm := hm.trans (if_neg h_2)
      refine lv_iconst (v := 1) hx hb dJ13_compare_74951_20 (by decide) ?_
      have hm : m_J13_compare_74951 p0 p1 = (1 : Int32) := hm
      exact W.iret (v := (1 : Int32)) hx hb hr (fun t ht _ => ⟨by rw [hm], ht⟩) (fun _ h => absurd h List.not_mem_nil) dJ13_compare_74951_21
    · have hm := hm.trans (if_pos h_2)
      refine lv_iconst (v := 0) hx hb dJ13_compare_74951_16 (by decide) ?_
      refine lv_goto (tgt := 21) hx hb dJ13_compare_74951_17 (by decide) ?_
      have hm : m_J13_compare_74951 p0 p1 = (0 : Int32) := hm
      exact W.iret (v := (0 : Int32)) hx hb hr (fun t ht _ => ⟨by rw [hm], ht⟩) (fun _ h => absurd h List.not_mem_nil) dJ13_compare_74951_21
  · have hm := hm.trans (if_neg h_1)
    refine lv_iconst (v := (-1)) hx hb dJ13_compare_74951_6 (by decide) ?_
    refine lv_goto (tgt := 21) hx hb dJ13_compare_74951_7 (by decide) ?_
    have hm : m_J13_compare_74951 p0 p1 = (-1 : Int32) := hm
    exact W.iret (v := (-1 : Int32)) hx hb hr (fun t ht _ => ⟨by rw [hm], ht⟩) (fun _ h => absurd h List.not_mem_nil) dJ13_compare_74951_21
def m_X0_yearIn (p0 : Int64) : Int64 := p0 >>> ((9 : Int32).toInt64 &&& 63)
theorem kk_X0_yearIn : pK yX0_yearIn wsX0_yearIn cX0_yearIn 2 (some .long) 1 := ⟨⟨_, rfl⟩, by decide +kernel, by decide +kernel, by decide +kernel⟩
set_option maxRecDepth 100000 in
set_option maxHeartbeats 4000000 in
theorem c_X0_yearIn (l : Launch) (p0 : Int64) : pM l yX0_yearIn wsX0_yearIn 0 0 [.long p0] (.long (m_X0_yearIn p0)) := by
  refine Met.ofW (cc := cX0_yearIn) (maxL := 2) (ret := (some .long)) (by decide) rfl ?_
  intro p e s m args below meth c s₁ B hml hv
  subst hv
  have hx := B.exec
  have hb := B.bytes
  have hr := B.returns
  have hts := atoms_spec (ws := wsX0_yearIn) B.pre
  have hown : s.vm.findClass RX0 = some m.cls := findClass_of_methodNamed B.named
  have hlocks := B.notSynchronized
  have htg : ∀ w ∈ GL, w.before _ s = true := fun w h => hts w (List.mem_cons_of_mem _ h)
  have hC : CallFix p m c cX0_yearIn 2 s _ wsX0_yearIn RX0 := ⟨hx, hb, hml, hown, hts⟩
  have hl := lv_entry ([.long p0]) (n := 2) (Nat.le_of_ble_eq_true rfl)
  rw [lg_entry_eq]
  generalize (lg_sl ([.long p0]) ++ List.replicate (2 - (lg_sl ([.long p0])).length) Slot.unset).toArray = ls at hl ⊢
  have hl : lv_has ls 2 [(0, .long p0)] := hl
  have hm : m_X0_yearIn p0 = m_X0_yearIn p0 := rfl
  refine lv_lload_n hx hb dX0_yearIn_0 rfl (lv_at hl 0 rfl) ?_
  refine lv_bipush (v := 9) hx hb dX0_yearIn_1 (by decide) ?_
  refine lv_lshr hx hb dX0_yearIn_3 rfl ?_
  have hm : m_X0_yearIn p0 = p0 >>> ((9 : Int32).toInt64 &&& 63) := hm
  exact W.lret (v := p0 >>> ((9 : Int32).toInt64 &&& 63)) hx hb hr (fun t ht _ => ⟨by rw [hm], ht⟩) (fun _ h => absurd h List.not_mem_nil) dX0_yearIn_4
def m_X0_monthIn (p0 : Int64) : Int32 := ((p0 >>> ((5 : Int32).toInt64 &&& 63)).toInt32) &&& (15 : Int32)
theorem kk_X0_monthIn : pK yX0_monthIn wsX0_monthIn cX0_monthIn 2 (some .int) 1 := ⟨⟨_, rfl⟩, by decide +kernel, by decide +kernel, by decide +kernel⟩
set_option maxRecDepth 100000 in
set_option maxHeartbeats 4000000 in
theorem c_X0_monthIn (l : Launch) (p0 : Int64) : pM l yX0_monthIn wsX0_monthIn 0 0 [.long p0] (.int (m_X0_monthIn p0)) := by
  refine Met.ofW (cc := cX0_monthIn) (maxL := 2) (ret := (some .int)) (by decide) rfl ?_
  intro p e s m args below meth c s₁ B hml hv
  subst hv
  have hx := B.exec
  have hb := B.bytes
  have hr := B.returns
  have hts := atoms_spec (ws := wsX0_monthIn) B.pre
  have hown : s.vm.findClass RX0 = some m.cls := findClass_of_methodNamed B.named
  have hlocks := B.notSynchronized
  have htg : ∀ w ∈ GL, w.before _ s = true := fun w h => hts w (List.mem_cons_of_mem _ h)
  have hC : CallFix p m c cX0_monthIn 2 s _ wsX0_monthIn RX0 := ⟨hx, hb, hml, hown, hts⟩
  have hl := lv_entry ([.long p0]) (n := 2) (Nat.le_of_ble_eq_true rfl)
  rw [lg_entry_eq]
  generalize (lg_sl ([.long p0]) ++ List.replicate (2 - (lg_sl ([.long p0])).length) Slot.unset).toArray = ls at hl ⊢
  have hl : lv_has ls 2 [(0, .long p0)] := hl
  have hm : m_X0_monthIn p0 = m_X0_monthIn p0 := rfl
  refine lv_lload_n hx hb dX0_monthIn_0 rfl (lv_at hl 0 rfl) ?_
  refine lv_iconst (v := 5) hx hb dX0_monthIn_1 (by decide) ?_
  refine lv_lshr hx hb dX0_monthIn_2 rfl ?_
  refine lv_l2i hx hb dX0_monthIn_3 rfl ?_
  refine lv_bipush (v := 15) hx hb dX0_monthIn_4 (by decide) ?_
  refine lv_iand hx hb dX0_monthIn_6 ?_
  have hm : m_X0_monthIn p0 = ((p0 >>> ((5 : Int32).toInt64 &&& 63)).toInt32) &&& (15 : Int32) := hm
  exact W.iret (v := ((p0 >>> ((5 : Int32).toInt64 &&& 63)).toInt32) &&& (15 : Int32)) hx hb hr (fun t ht _ => ⟨by rw [hm], ht⟩) (fun _ h => absurd h List.not_mem_nil) dX0_monthIn_7
def m_X0_dayIn (p0 : Int64) : Int32 := p0.toInt32 &&& (31 : Int32)
theorem kk_X0_dayIn : pK yX0_dayIn wsX0_dayIn cX0_dayIn 2 (some .int) 1 := ⟨⟨_, rfl⟩, by decide +kernel, by decide +kernel, by decide +kernel⟩
set_option maxRecDepth 100000 in
set_option maxHeartbeats 4000000 in
theorem c_X0_dayIn (l : Launch) (p0 : Int64) : pM l yX0_dayIn wsX0_dayIn 0 0 [.long p0] (.int (m_X0_dayIn p0)) := by
  refine Met.ofW (cc := cX0_dayIn) (maxL := 2) (ret := (some .int)) (by decide) rfl ?_
  intro p e s m args below meth c s₁ B hml hv
  subst hv
  have hx := B.exec
  have hb := B.bytes
  have hr := B.returns
  have hts := atoms_spec (ws := wsX0_dayIn) B.pre
  have hown : s.vm.findClass RX0 = some m.cls := findClass_of_methodNamed B.named
  have hlocks := B.notSynchronized
  have htg : ∀ w ∈ GL, w.before _ s = true := fun w h => hts w (List.mem_cons_of_mem _ h)
  have hC : CallFix p m c cX0_dayIn 2 s _ wsX0_dayIn RX0 := ⟨hx, hb, hml, hown, hts⟩
  have hl := lv_entry ([.long p0]) (n := 2) (Nat.le_of_ble_eq_true rfl)
  rw [lg_entry_eq]
  generalize (lg_sl ([.long p0]) ++ List.replicate (2 - (lg_sl ([.long p0])).length) Slot.unset).toArray = ls at hl ⊢
  have hl : lv_has ls 2 [(0, .long p0)] := hl
  have hm : m_X0_dayIn p0 = m_X0_dayIn p0 := rfl
  refine lv_lload_n hx hb dX0_dayIn_0 rfl (lv_at hl 0 rfl) ?_
  refine lv_l2i hx hb dX0_dayIn_1 rfl ?_
  refine lv_bipush (v := 31) hx hb dX0_dayIn_2 (by decide) ?_
  refine lv_iand hx hb dX0_dayIn_4 ?_
  have hm : m_X0_dayIn p0 = p0.toInt32 &&& (31 : Int32) := hm
  exact W.iret (v := p0.toInt32 &&& (31 : Int32)) hx hb hr (fun t ht _ => ⟨by rw [hm], ht⟩) (fun _ h => absurd h List.not_mem_nil) dX0_dayIn_5
def m_X0_dateOf (p0 : Int64) (p1 : Int32) (p2 : Int32) : Int64 := ((p0 <<< ((9 : Int32).toInt64 &&& 63)) + ((p1 <<< ((5 : Int32) &&& 31)).toInt64)) + p2.toInt64
theorem kk_X0_dateOf : pK yX0_dateOf wsX0_dateOf cX0_dateOf 4 (some .long) 3 := ⟨⟨_, rfl⟩, by decide +kernel, by decide +kernel, by decide +kernel⟩
set_option maxRecDepth 100000 in
set_option maxHeartbeats 4000000 in
theorem c_X0_dateOf (l : Launch) (p0 : Int64) (p1 : Int32) (p2 : Int32) : pM l yX0_dateOf wsX0_dateOf 0 0 [.long p0, .int p1, .int p2] (.long (m_X0_dateOf p0 p1 p2)) := by
  refine Met.ofW (cc := cX0_dateOf) (maxL := 4) (ret := (some .long)) (by decide) rfl ?_
  intro p e s m args below meth c s₁ B hml hv
  subst hv
  have hx := B.exec
  have hb := B.bytes
  have hr := B.returns
  have hts := atoms_spec (ws := wsX0_dateOf) B.pre
  have hown : s.vm.findClass RX0 = some m.cls := findClass_of_methodNamed B.named
  have hlocks := B.notSynchronized
  have htg : ∀ w ∈ GL, w.before _ s = true := fun w h => hts w (List.mem_cons_of_mem _ h)
  have hC : CallFix p m c cX0_dateOf 4 s _ wsX0_dateOf RX0 := ⟨hx, hb, hml, hown, hts⟩
  have hl := lv_entry ([.long p0, .int p1, .int p2]) (n := 4) (Nat.le_of_ble_eq_true rfl)
  rw [lg_entry_eq]
  generalize (lg_sl ([.long p0, .int p1, .int p2]) ++ List.replicate (4 - (lg_sl ([.long p0, .int p1, .int p2])).length) Slot.unset).toArray = ls at hl ⊢
  have hl : lv_has ls 4 [(0, .long p0), (2, .int p1), (3, .int p2)] := hl
  have hm : m_X0_dateOf p0 p1 p2 = m_X0_dateOf p0 p1 p2 := rfl
  refine lv_lload_n hx hb dX0_dateOf_0 rfl (lv_at hl 0 rfl) ?_
  refine lv_bipush (v := 9) hx hb dX0_dateOf_1 (by decide) ?_
  refine lv_lshl hx hb dX0_dateOf_3 rfl ?_
  refine lv_iload_n hx hb dX0_dateOf_4 rfl (lv_at hl 1 rfl) ?_
  refine lv_iconst (v := 5) hx hb dX0_dateOf_5 (by decide) ?_
  refine lv_ishl hx hb dX0_dateOf_6 ?_
  refine lv_i2l hx hb dX0_dateOf_7 rfl ?_
  refine lv_ladd hx hb dX0_dateOf_8 ?_
  refine lv_iload_n hx hb dX0_dateOf_9 rfl (lv_at hl 2 rfl) ?_
  refine lv_i2l hx hb dX0_dateOf_10 rfl ?_
  refine lv_ladd hx hb dX0_dateOf_11 ?_
  have hm : m_X0_dateOf p0 p1 p2 = ((p0 <<< ((9 : Int32).toInt64 &&& 63)) + ((p1 <<< ((5 : Int32) &&& 31)).toInt64)) + p2.toInt64 := hm
  exact W.lret (v := ((p0 <<< ((9 : Int32).toInt64 &&& 63)) + ((p1 <<< ((5 : Int32) &&& 31)).toInt64)) + p2.toInt64) hx hb hr (fun t ht _ => ⟨by rw [hm], ht⟩) (fun _ h => absurd h List.not_mem_nil) dX0_dateOf_12
def m_X0_isLeap (p0 : Int64) : Int32 := (if lg_cmp (p0 - p0 / (4 : Int64) * (4 : Int64)) (0 : Int64) = 0 then (if lg_cmp (p0 - p0 / (100 : Int64) * (100 : Int64)) (0 : Int64) = 0 then (if lg_cmp (p0 - p0 / (400 : Int64) * (400 : Int64)) (0 : Int64) = 0 then (1 : Int32) else (0 : Int32)) else (1 : Int32)) else (0 : Int32))
theorem kk_X0_isLeap : pK yX0_isLeap wsX0_isLeap cX0_isLeap 2 (some .boolean) 1 := ⟨⟨_, rfl⟩, by decide +kernel, by decide +kernel, by decide +kernel⟩
theorem nb_X0_isLeap (p0 : Int64) : narrow .boolean (.int (m_X0_isLeap p0)) = .int (m_X0_isLeap p0) := by
  unfold m_X0_isLeap
  repeat' split
  all_goals rfl
set_option maxRecDepth 100000 in
set_option maxHeartbeats 4000000 in
theorem c_X0_isLeap (l : Launch) (p0 : Int64) : pM l yX0_isLeap wsX0_isLeap 0 0 [.long p0] (.int (m_X0_isLeap p0)) := by
  refine Met.ofW (cc := cX0_isLeap) (maxL := 2) (ret := (some .boolean)) (by decide) rfl ?_
  intro p e s m args below meth c s₁ B hml hv
  subst hv
  have hx := B.exec
  have hb := B.bytes
  have hr := B.returns
  have hts := atoms_spec (ws := wsX0_isLeap) B.pre
  have hown : s.vm.findClass RX0 = some m.cls := findClass_of_methodNamed B.named
  have hlocks := B.notSynchronized
  have htg : ∀ w ∈ GL, w.before _ s = true := fun w h => hts w (List.mem_cons_of_mem _ h)
  have hC : CallFix p m c cX0_isLeap 2 s _ wsX0_isLeap RX0 := ⟨hx, hb, hml, hown, hts⟩
  have hl := lv_entry ([.long p0]) (n := 2) (Nat.le_of_ble_eq_true rfl)
  rw [lg_entry_eq]
  generalize (lg_sl ([.long p0]) ++ List.replicate (2 - (lg_sl ([.long p0])).length) Slot.unset).toArray = ls at hl ⊢
  have hl : lv_has ls 2 [(0, .long p0)] := hl
  have hm : m_X0_isLeap p0 = m_X0_isLeap p0 := rfl
  refine lv_lload_n hx hb dX0_isLeap_0 rfl (lv_at hl 0 rfl) ?_
  refine lv_ldc2 hx hb hown (htg _ w_174) dX0_isLeap_1 ?_
  refine lv_lrem hx hb dX0_isLeap_4 (by decide) ?_
  refine lv_lconst (v := 0) hx hb dX0_isLeap_5 (by decide) ?_
  refine W.lcmp hx hb dX0_isLeap_6 ?_
  refine lv_if_ne (tgt := 34) hx hb dX0_isLeap_7 (by decide) (fun h_1 => ?_) (fun h_1 => ?_)
  · have hm := hm.trans (if_neg h_1)
    refine lv_iconst (v := 0) hx hb dX0_isLeap_34 (by decide) ?_
    have hm : m_X0_isLeap p0 = (0 : Int32) := hm
    exact W.zret (v := (0 : Int32)) (ty := .boolean) hx hb hr rfl (fun t ht _ => ⟨by rw [hm], ht⟩) (fun _ h => absurd h List.not_mem_nil) dX0_isLeap_35
  · have hm := hm.trans (if_pos h_1)
    refine lv_lload_n hx hb dX0_isLeap_10 rfl (lv_at hl 0 rfl) ?_
    refine lv_ldc2 hx hb hown (htg _ w_178) dX0_isLeap_11 ?_
    refine lv_lrem hx hb dX0_isLeap_14 (by decide) ?_
    refine lv_lconst (v := 0) hx hb dX0_isLeap_15 (by decide) ?_
    refine W.lcmp hx hb dX0_isLeap_16 ?_
    refine lv_if_ne (tgt := 30) hx hb dX0_isLeap_17 (by decide) (fun h_2 => ?_) (fun h_2 => ?_)
    · have hm := hm.trans (if_neg h_2)
      refine lv_iconst (v := 1) hx hb dX0_isLeap_30 (by decide) ?_
      refine lv_goto (tgt := 35) hx hb dX0_isLeap_31 (by decide) ?_
      have hm : m_X0_isLeap p0 = (1 : Int32) := hm
      exact W.zret (v := (1 : Int32)) (ty := .boolean) hx hb hr rfl (fun t ht _ => ⟨by rw [hm], ht⟩) (fun _ h => absurd h List.not_mem_nil) dX0_isLeap_35
    · have hm := hm.trans (if_pos h_2)
      refine lv_lload_n hx hb dX0_isLeap_20 rfl (lv_at hl 0 rfl) ?_
      refine lv_ldc2 hx hb hown (htg _ w_179) dX0_isLeap_21 ?_
      refine lv_lrem hx hb dX0_isLeap_24 (by decide) ?_
      refine lv_lconst (v := 0) hx hb dX0_isLeap_25 (by decide) ?_
      refine W.lcmp hx hb dX0_isLeap_26 ?_
      refine lv_if_ne (tgt := 34) hx hb dX0_isLeap_27 (by decide) (fun h_3 => ?_) (fun h_3 => ?_)
      · have hm := hm.trans (if_neg h_3)
        refine lv_iconst (v := 0) hx hb dX0_isLeap_34 (by decide) ?_
        have hm : m_X0_isLeap p0 = (0 : Int32) := hm
        exact W.zret (v := (0 : Int32)) (ty := .boolean) hx hb hr rfl (fun t ht _ => ⟨by rw [hm], ht⟩) (fun _ h => absurd h List.not_mem_nil) dX0_isLeap_35
      · have hm := hm.trans (if_pos h_3)
        refine lv_iconst (v := 1) hx hb dX0_isLeap_30 (by decide) ?_
        refine lv_goto (tgt := 35) hx hb dX0_isLeap_31 (by decide) ?_
        have hm : m_X0_isLeap p0 = (1 : Int32) := hm
        exact W.zret (v := (1 : Int32)) (ty := .boolean) hx hb hr rfl (fun t ht _ => ⟨by rw [hm], ht⟩) (fun _ h => absurd h List.not_mem_nil) dX0_isLeap_35
def m_X0_monthLength (p0 : Int32) (p1 : Int32) : Int32 := (if p0 = 2 then (if p1 = 0 then (28 : Int32) else (29 : Int32)) else (if p0 = 3 then (31 : Int32) else (if p0 = 4 then (30 : Int32) else (if p0 = 5 then (31 : Int32) else (if p0 = 6 then (30 : Int32) else (if p0 = 7 then (31 : Int32) else (if p0 = 8 then (31 : Int32) else (if p0 = 9 then (30 : Int32) else (if p0 = 10 then (31 : Int32) else (if p0 = 11 then (30 : Int32) else (31 : Int32)))))))))))
theorem kk_X0_monthLength : pK yX0_monthLength wsX0_monthLength cX0_monthLength 2 (some .int) 2 := ⟨⟨_, rfl⟩, by decide +kernel, by decide +kernel, by decide +kernel⟩
set_option maxRecDepth 100000 in
set_option maxHeartbeats 4000000 in
theorem c_X0_monthLength (l : Launch) (p0 : Int32) (p1 : Int32) : pM l yX0_monthLength wsX0_monthLength 0 0 [.int p0, .int p1] (.int (m_X0_monthLength p0 p1)) := by
  refine Met.ofW (cc := cX0_monthLength) (maxL := 2) (ret := (some .int)) (by decide) rfl ?_
  intro p e s m args below meth c s₁ B hml hv
  subst hv
  have hx := B.exec
  have hb := B.bytes
  have hr := B.returns
  have hts := atoms_spec (ws := wsX0_monthLength) B.pre
  have hown : s.vm.findClass RX0 = some m.cls := findClass_of_methodNamed B.named
  have hlocks := B.notSynchronized
  have htg : ∀ w ∈ GL, w.before _ s = true := fun w h => hts w (List.mem_cons_of_mem _ h)
  have hC : CallFix p m c cX0_monthLength 2 s _ wsX0_monthLength RX0 := ⟨hx, hb, hml, hown, hts⟩
  have hl := lv_entry ([.int p0, .int p1]) (n := 2) (Nat.le_of_ble_eq_true rfl)
  rw [lg_entry_eq]
  generalize (lg_sl ([.int p0, .int p1]) ++ List.replicate (2 - (lg_sl ([.int p0, .int p1])).length) Slot.unset).toArray = ls at hl ⊢
  have hl : lv_has ls 2 [(0, .int p0), (1, .int p1)] := hl
  have hm : m_X0_monthLength p0 p1 = m_X0_monthLength p0 p1 := rfl
  refine lv_iload_n hx hb dX0_monthLength_0 rfl (lv_at hl 0 rfl) ?_
  by_cases h_1 : p0 = 2
  · have hm := hm.trans (if_pos h_1)
    refine lv_tableIn (off := 55) (tgt := 56) hx hb dX0_monthLength_1 (by rw [h_1]; decide) (by rw [h_1]; decide) (by rw [h_1]; rfl) (by decide) ?_
    refine lv_iload_n hx hb dX0_monthLength_56 rfl (lv_at hl 1 rfl) ?_
    refine lv_if_eq (tgt := 65) hx hb dX0_monthLength_57 (by decide) (fun h_2 => ?_) (fun h_2 => ?_)
    · have hm := hm.trans (if_pos h_2)
      refine lv_bipush (v := 28) hx hb dX0_monthLength_65 (by decide) ?_
      have hm : m_X0_monthLength p0 p1 = (28 : Int32) := hm
      exact W.iret (v := (28 : Int32)) hx hb hr (fun t ht _ => ⟨by rw [hm], ht⟩) (fun _ h => absurd h List.not_mem_nil) dX0_monthLength_67
    · have hm := hm.trans (if_neg h_2)
      refine lv_bipush (v := 29) hx hb dX0_monthLength_60 (by decide) ?_
      refine lv_goto (tgt := 67) hx hb dX0_monthLength_62 (by decide) ?_
      have hm : m_X0_monthLength p0 p1 = (29 : Int32) := hm
      exact W.iret (v := (29 : Int32)) hx hb hr (fun t ht _ => ⟨by rw [hm], ht⟩) (fun _ h => absurd h List.not_mem_nil) dX0_monthLength_67
  · have hm := hm.trans (if_neg h_1)
    by_cases h_3 : p0 = 3
    · have hm := hm.trans (if_pos h_3)
      refine lv_tableIn (off := 70) (tgt := 71) hx hb dX0_monthLength_1 (by rw [h_3]; decide) (by rw [h_3]; decide) (by rw [h_3]; rfl) (by decide) ?_
      refine lv_bipush (v := 31) hx hb dX0_monthLength_71 (by decide) ?_
      have hm : m_X0_monthLength p0 p1 = (31 : Int32) := hm
      exact W.iret (v := (31 : Int32)) hx hb hr (fun t ht _ => ⟨by rw [hm], ht⟩) (fun _ h => absurd h List.not_mem_nil) dX0_monthLength_73
    · have hm := hm.trans (if_neg h_3)
      by_cases h_4 : p0 = 4
      · have hm := hm.trans (if_pos h_4)
        refine lv_tableIn (off := 67) (tgt := 68) hx hb dX0_monthLength_1 (by rw [h_4]; decide) (by rw [h_4]; decide) (by rw [h_4]; rfl) (by decide) ?_
        refine lv_bipush (v := 30) hx hb dX0_monthLength_68 (by decide) ?_
        have hm : m_X0_monthLength p0 p1 = (30 : Int32) := hm
        exact W.iret (v := (30 : Int32)) hx hb hr (fun t ht _ => ⟨by rw [hm], ht⟩) (fun _ h => absurd h List.not_mem_nil) dX0_monthLength_70
      · have hm := hm.trans (if_neg h_4)
        by_cases h_5 : p0 = 5
        · have hm := hm.trans (if_pos h_5)
          refine lv_tableIn (off := 70) (tgt := 71) hx hb dX0_monthLength_1 (by rw [h_5]; decide) (by rw [h_5]; decide) (by rw [h_5]; rfl) (by decide) ?_
          refine lv_bipush (v := 31) hx hb dX0_monthLength_71 (by decide) ?_
          have hm : m_X0_monthLength p0 p1 = (31 : Int32) := hm
          exact W.iret (v := (31 : Int32)) hx hb hr (fun t ht _ => ⟨by rw [hm], ht⟩) (fun _ h => absurd h List.not_mem_nil) dX0_monthLength_73
        · have hm := hm.trans (if_neg h_5)
          by_cases h_6 : p0 = 6
          · have hm := hm.trans (if_pos h_6)
            refine lv_tableIn (off := 67) (tgt := 68) hx hb dX0_monthLength_1 (by rw [h_6]; decide) (by rw [h_6]; decide) (by rw [h_6]; rfl) (by decide) ?_
            refine lv_bipush (v := 30) hx hb dX0_monthLength_68 (by decide) ?_
            have hm : m_X0_monthLength p0 p1 = (30 : Int32) := hm
            exact W.iret (v := (30 : Int32)) hx hb hr (fun t ht _ => ⟨by rw [hm], ht⟩) (fun _ h => absurd h List.not_mem_nil) dX0_monthLength_70
          · have hm := hm.trans (if_neg h_6)
            by_cases h_7 : p0 = 7
            · have hm := hm.trans (if_pos h_7)
              refine lv_tableIn (off := 70) (tgt := 71) hx hb dX0_monthLength_1 (by rw [h_7]; decide) (by rw [h_7]; decide) (by rw [h_7]; rfl) (by decide) ?_
              refine lv_bipush (v := 31) hx hb dX0_monthLength_71 (by decide) ?_
              have hm : m_X0_monthLength p0 p1 = (31 : Int32) := hm
              exact W.iret (v := (31 : Int32)) hx hb hr (fun t ht _ => ⟨by rw [hm], ht⟩) (fun _ h => absurd h List.not_mem_nil) dX0_monthLength_73
            · have hm := hm.trans (if_neg h_7)
              by_cases h_8 : p0 = 8
              · have hm := hm.trans (if_pos h_8)
                refine lv_tableIn (off := 70) (tgt := 71) hx hb dX0_monthLength_1 (by rw [h_8]; decide) (by rw [h_8]; decide) (by rw [h_8]; rfl) (by decide) ?_
                refine lv_bipush (v := 31) hx hb dX0_monthLength_71 (by decide) ?_
                have hm : m_X0_monthLength p0 p1 = (31 : Int32) := hm
                exact W.iret (v := (31 : Int32)) hx hb hr (fun t ht _ => ⟨by rw [hm], ht⟩) (fun _ h => absurd h List.not_mem_nil) dX0_monthLength_73
              · have hm := hm.trans (if_neg h_8)
                by_cases h_9 : p0 = 9
                · have hm := hm.trans (if_pos h_9)
                  refine lv_tableIn (off := 67) (tgt := 68) hx hb dX0_monthLength_1 (by rw [h_9]; decide) (by rw [h_9]; decide) (by rw [h_9]; rfl) (by decide) ?_
                  refine lv_bipush (v := 30) hx hb dX0_monthLength_68 (by decide) ?_
                  have hm : m_X0_monthLength p0 p1 = (30 : Int32) := hm
                  exact W.iret (v := (30 : Int32)) hx hb hr (fun t ht _ => ⟨by rw [hm], ht⟩) (fun _ h => absurd h List.not_mem_nil) dX0_monthLength_70
                · have hm := hm.trans (if_neg h_9)
                  by_cases h_10 : p0 = 10
                  · have hm := hm.trans (if_pos h_10)
                    refine lv_tableIn (off := 70) (tgt := 71) hx hb dX0_monthLength_1 (by rw [h_10]; decide) (by rw [h_10]; decide) (by rw [h_10]; rfl) (by decide) ?_
                    refine lv_bipush (v := 31) hx hb dX0_monthLength_71 (by decide) ?_
                    have hm : m_X0_monthLength p0 p1 = (31 : Int32) := hm
                    exact W.iret (v := (31 : Int32)) hx hb hr (fun t ht _ => ⟨by rw [hm], ht⟩) (fun _ h => absurd h List.not_mem_nil) dX0_monthLength_73
                  · have hm := hm.trans (if_neg h_10)
                    by_cases h_11 : p0 = 11
                    · have hm := hm.trans (if_pos h_11)
                      refine lv_tableIn (off := 67) (tgt := 68) hx hb dX0_monthLength_1 (by rw [h_11]; decide) (by rw [h_11]; decide) (by rw [h_11]; rfl) (by decide) ?_
                      refine lv_bipush (v := 30) hx hb dX0_monthLength_68 (by decide) ?_
                      have hm : m_X0_monthLength p0 p1 = (30 : Int32) := hm
                      exact W.iret (v := (30 : Int32)) hx hb hr (fun t ht _ => ⟨by rw [hm], ht⟩) (fun _ h => absurd h List.not_mem_nil) dX0_monthLength_70
                    · have hm := hm.trans (if_neg h_11)
                      refine lv_tableOut (tgt := 71) hx hb dX0_monthLength_1 (by have hh : (p0).toInt ≠ 2 ∧ (p0).toInt ≠ 3 ∧ (p0).toInt ≠ 4 ∧ (p0).toInt ≠ 5 ∧ (p0).toInt ≠ 6 ∧ (p0).toInt ≠ 7 ∧ (p0).toInt ≠ 8 ∧ (p0).toInt ≠ 9 ∧ (p0).toInt ≠ 10 ∧ (p0).toInt ≠ 11 := ⟨fun q => h_1 (Int32.toInt_inj.mp (q.trans (by decide))), fun q => h_3 (Int32.toInt_inj.mp (q.trans (by decide))), fun q => h_4 (Int32.toInt_inj.mp (q.trans (by decide))), fun q => h_5 (Int32.toInt_inj.mp (q.trans (by decide))), fun q => h_6 (Int32.toInt_inj.mp (q.trans (by decide))), fun q => h_7 (Int32.toInt_inj.mp (q.trans (by decide))), fun q => h_8 (Int32.toInt_inj.mp (q.trans (by decide))), fun q => h_9 (Int32.toInt_inj.mp (q.trans (by decide))), fun q => h_10 (Int32.toInt_inj.mp (q.trans (by decide))), fun q => h_11 (Int32.toInt_inj.mp (q.trans (by decide)))⟩; omega) (by decide) ?_
                      refine lv_bipush (v := 31) hx hb dX0_monthLength_71 (by decide) ?_
                      have hm : m_X0_monthLength p0 p1 = (31 : Int32) := hm
                      exact W.iret (v := (31 : Int32)) hx hb hr (fun t ht _ => ⟨by rw [hm], ht⟩) (fun _ h => absurd h List.not_mem_nil) dX0_monthLength_73
def m_X0_yearLength (p0 : Int64) : Int32 := (if m_X0_isLeap p0 = 0 then (365 : Int32) else (366 : Int32))
theorem kk_X0_yearLength : pK yX0_yearLength wsX0_yearLength cX0_yearLength 2 (some .int) 1 := ⟨⟨_, rfl⟩, by decide +kernel, by decide +kernel, by decide +kernel⟩
set_option maxRecDepth 100000 in
set_option maxHeartbeats 4000000 in
theorem c_X0_yearLength (l : Launch) (p0 : Int64) : pM l yX0_yearLength wsX0_yearLength 1 21 [.long p0] (.int (m_X0_yearLength p0)) := by
  refine Met.ofW (cc := cX0_yearLength) (maxL := 2) (ret := (some .int)) (by decide) rfl ?_
  intro p e s m args below meth c s₁ B hml hv
  subst hv
  have hx := B.exec
  have hb := B.bytes
  have hr := B.returns
  have hts := atoms_spec (ws := wsX0_yearLength) B.pre
  have hown : s.vm.findClass RX0 = some m.cls := findClass_of_methodNamed B.named
  have hlocks := B.notSynchronized
  have htg : ∀ w ∈ GL, w.before _ s = true := fun w h => hts w (List.mem_cons_of_mem _ h)
  have hC : CallFix p m c cX0_yearLength 2 s _ wsX0_yearLength RX0 := ⟨hx, hb, hml, hown, hts⟩
  have hl := lv_entry ([.long p0]) (n := 2) (Nat.le_of_ble_eq_true rfl)
  rw [lg_entry_eq]
  generalize (lg_sl ([.long p0]) ++ List.replicate (2 - (lg_sl ([.long p0])).length) Slot.unset).toArray = ls at hl ⊢
  have hl : lv_has ls 2 [(0, .long p0)] := hl
  have hm : m_X0_yearLength p0 = m_X0_yearLength p0 := rfl
  refine lv_lload_n hx hb dX0_yearLength_0 rfl (lv_at hl 0 rfl) ?_
  refine pc_S hC (c_X0_isLeap l p0) (gS w_186 w_187 w_26 w_188) kk_X0_isLeap ⟨Nat.le_of_ble_eq_true rfl, Nat.le_of_ble_eq_true rfl⟩ ⟨Nat.le_of_ble_eq_true rfl, Nat.le_of_ble_eq_true rfl⟩ hl.1 rfl rfl (Nat.le_of_ble_eq_true rfl) dX0_yearLength_1 ?_
  refine lv_if_eq (tgt := 13) hx hb dX0_yearLength_4 (by decide) (fun h_1 => ?_) (fun h_1 => ?_)
  · have hm := hm.trans (if_pos h_1)
    refine lv_sipush (v := 365) hx hb dX0_yearLength_13 (by decide) ?_
    have hm : m_X0_yearLength p0 = (365 : Int32) := hm
    exact W.iret (v := (365 : Int32)) hx hb hr (fun t ht _ => ⟨by rw [hm], ht⟩) (fun _ h => absurd h List.not_mem_nil) dX0_yearLength_16
  · have hm := hm.trans (if_neg h_1)
    refine lv_sipush (v := 366) hx hb dX0_yearLength_7 (by decide) ?_
    refine lv_goto (tgt := 16) hx hb dX0_yearLength_10 (by decide) ?_
    have hm : m_X0_yearLength p0 = (366 : Int32) := hm
    exact W.iret (v := (366 : Int32)) hx hb hr (fun t ht _ => ⟨by rw [hm], ht⟩) (fun _ h => absurd h List.not_mem_nil) dX0_yearLength_16
def m_X0_fittedDate (p0 : Int64) (p1 : Int32) (p2 : Int32) : Int64 := m_X0_dateOf p0 p1 (if m_X0_monthLength p1 (m_X0_isLeap p0) < p2 then m_X0_monthLength p1 (m_X0_isLeap p0) else p2)
theorem kk_X0_fittedDate : pK yX0_fittedDate wsX0_fittedDate cX0_fittedDate 4 (some .long) 3 := ⟨⟨_, rfl⟩, by decide +kernel, by decide +kernel, by decide +kernel⟩
set_option maxRecDepth 100000 in
set_option maxHeartbeats 4000000 in
theorem c_X0_fittedDate (l : Launch) (p0 : Int64) (p1 : Int32) (p2 : Int32) : pM l yX0_fittedDate wsX0_fittedDate 1 40 [.long p0, .int p1, .int p2] (.long (m_X0_fittedDate p0 p1 p2)) := by
  refine Met.ofW (cc := cX0_fittedDate) (maxL := 4) (ret := (some .long)) (by decide) rfl ?_
  intro p e s m args below meth c s₁ B hml hv
  subst hv
  have hx := B.exec
  have hb := B.bytes
  have hr := B.returns
  have hts := atoms_spec (ws := wsX0_fittedDate) B.pre
  have hown : s.vm.findClass RX0 = some m.cls := findClass_of_methodNamed B.named
  have hlocks := B.notSynchronized
  have htg : ∀ w ∈ GL, w.before _ s = true := fun w h => hts w (List.mem_cons_of_mem _ h)
  have hC : CallFix p m c cX0_fittedDate 4 s _ wsX0_fittedDate RX0 := ⟨hx, hb, hml, hown, hts⟩
  have hl := lv_entry ([.long p0, .int p1, .int p2]) (n := 4) (Nat.le_of_ble_eq_true rfl)
  rw [lg_entry_eq]
  generalize (lg_sl ([.long p0, .int p1, .int p2]) ++ List.replicate (4 - (lg_sl ([.long p0, .int p1, .int p2])).length) Slot.unset).toArray = ls at hl ⊢
  have hl : lv_has ls 4 [(0, .long p0), (2, .int p1), (3, .int p2)] := hl
  have hm : m_X0_fittedDate p0 p1 p2 = m_X0_fittedDate p0 p1 p2 := rfl
  refine lv_lload_n hx hb dX0_fittedDate_0 rfl (lv_at hl 0 rfl) ?_
  refine lv_iload_n hx hb dX0_fittedDate_1 rfl (lv_at hl 1 rfl) ?_
  refine lv_iload_n hx hb dX0_fittedDate_2 rfl (lv_at hl 2 rfl) ?_
  refine lv_iload_n hx hb dX0_fittedDate_3 rfl (lv_at hl 1 rfl) ?_
  refine lv_lload_n hx hb dX0_fittedDate_4 rfl (lv_at hl 0 rfl) ?_
  refine pc_S hC (c_X0_isLeap l p0) (gS w_186 w_187 w_26 w_188) kk_X0_isLeap ⟨Nat.le_of_ble_eq_true rfl, Nat.le_of_ble_eq_true rfl⟩ ⟨Nat.le_of_ble_eq_true rfl, Nat.le_of_ble_eq_true rfl⟩ hl.1 rfl rfl (Nat.le_of_ble_eq_true rfl) dX0_fittedDate_5 ?_
  refine pc_S hC (c_X0_monthLength l p1 (m_X0_isLeap p0)) (gS w_195 w_196 w_26 w_197) kk_X0_monthLength ⟨Nat.le_of_ble_eq_true rfl, Nat.le_of_ble_eq_true rfl⟩ ⟨Nat.le_of_ble_eq_true rfl, Nat.le_of_ble_eq_true rfl⟩ hl.1 rfl rfl (Nat.le_of_ble_eq_true rfl) dX0_fittedDate_8 ?_
  refine va_mmin hx hb (hml.trans hl.1.symm) hown (htg _ w_214) (htg _ w_215) (htg _ w_36) (htg _ w_216) (Nat.le_of_ble_eq_true rfl) (Nat.le_of_ble_eq_true rfl) (Nat.le_of_ble_eq_true rfl) (Nat.le_of_ble_eq_true rfl) dX0_fittedDate_11 ?_
  refine pc_S hC (c_X0_dateOf l p0 p1 (if m_X0_monthLength p1 (m_X0_isLeap p0) < p2 then m_X0_monthLength p1 (m_X0_isLeap p0) else p2)) (gS w_208 w_209 w_26 w_210) kk_X0_dateOf ⟨Nat.le_of_ble_eq_true rfl, Nat.le_of_ble_eq_true rfl⟩ ⟨Nat.le_of_ble_eq_true rfl, Nat.le_of_ble_eq_true rfl⟩ hl.1 rfl rfl (Nat.le_of_ble_eq_true rfl) dX0_fittedDate_14 ?_
  have hm : m_X0_fittedDate p0 p1 p2 = m_X0_dateOf p0 p1 (if m_X0_monthLength p1 (m_X0_isLeap p0) < p2 then m_X0_monthLength p1 (m_X0_isLeap p0) else p2) := hm
  exact W.lret (v := m_X0_dateOf p0 p1 (if m_X0_monthLength p1 (m_X0_isLeap p0) < p2 then m_X0_monthLength p1 (m_X0_isLeap p0) else p2)) hx hb hr (fun t ht _ => ⟨by rw [hm], ht⟩) (fun _ h => absurd h List.not_mem_nil) dX0_fittedDate_17
def m_X0_firstNumberOf (p0 : Int64) : Int64 := (((365 : Int64) * (p0 - (1970 : Int64))) + (((m_J9_floorDiv_f86c9 (p0 - (1 : Int64)) (4 : Int64)) - (m_J9_floorDiv_f86c9 (p0 - (1 : Int64)) (100 : Int64))) + (m_J9_floorDiv_f86c9 (p0 - (1 : Int64)) (400 : Int64)))) - (477 : Int64)
theorem kk_X0_firstNumberOf : pK yX0_firstNumberOf wsX0_firstNumberOf cX0_firstNumberOf 6 (some .long) 1 := ⟨⟨_, rfl⟩, by decide +kernel, by decide +kernel, by decide +kernel⟩
set_option maxRecDepth 100000 in
set_option maxHeartbeats 4000000 in
theorem c_X0_firstNumberOf (l : Launch) (p0 : Int64) : pM l yX0_firstNumberOf wsX0_firstNumberOf 1 25 [.long p0] (.long (m_X0_firstNumberOf p0)) := by
  refine Met.ofW (cc := cX0_firstNumberOf) (maxL := 6) (ret := (some .long)) (by decide) rfl ?_
  intro p e s m args below meth c s₁ B hml hv
  subst hv
  have hx := B.exec
  have hb := B.bytes
  have hr := B.returns
  have hts := atoms_spec (ws := wsX0_firstNumberOf) B.pre
  have hown : s.vm.findClass RX0 = some m.cls := findClass_of_methodNamed B.named
  have hlocks := B.notSynchronized
  have htg : ∀ w ∈ GL, w.before _ s = true := fun w h => hts w (List.mem_cons_of_mem _ h)
  have hC : CallFix p m c cX0_firstNumberOf 6 s _ wsX0_firstNumberOf RX0 := ⟨hx, hb, hml, hown, hts⟩
  have hl := lv_entry ([.long p0]) (n := 6) (Nat.le_of_ble_eq_true rfl)
  rw [lg_entry_eq]
  generalize (lg_sl ([.long p0]) ++ List.replicate (6 - (lg_sl ([.long p0])).length) Slot.unset).toArray = ls at hl ⊢
  have hl : lv_has ls 6 [(0, .long p0)] := hl
  have hm : m_X0_firstNumberOf p0 = m_X0_firstNumberOf p0 := rfl
  refine lv_lload_n hx hb dX0_firstNumberOf_0 rfl (lv_at hl 0 rfl) ?_
  refine lv_lconst (v := 1) hx hb dX0_firstNumberOf_1 (by decide) ?_
  refine lv_lsub hx hb dX0_firstNumberOf_2 ?_
  refine lv_lstore_n (lv' := [(2, .long (p0 - (1 : Int64))), (0, .long p0)]) hx hb dX0_firstNumberOf_3 rfl hl (by decide) rfl (fun ls hl => ?_)
  refine lv_lload_n hx hb dX0_firstNumberOf_4 rfl (lv_at hl 0 rfl) ?_
  refine lv_ldc2 hx hb hown (htg _ w_174) dX0_firstNumberOf_5 ?_
  refine pc_S hC (c_J9_floorDiv_f86c9 l (p0 - (1 : Int64)) (4 : Int64) (by decide)) (gS w_175 w_176 w_36 w_177) kk_J9_floorDiv_f86c9 ⟨Nat.le_of_ble_eq_true rfl, Nat.le_of_ble_eq_true rfl⟩ ⟨Nat.le_of_ble_eq_true rfl, Nat.le_of_ble_eq_true rfl⟩ hl.1 rfl rfl (Nat.le_of_ble_eq_true rfl) dX0_firstNumberOf_8 ?_
  refine lv_lload_n hx hb dX0_firstNumberOf_11 rfl (lv_at hl 0 rfl) ?_
  refine lv_ldc2 hx hb hown (htg _ w_178) dX0_firstNumberOf_12 ?_
  refine pc_S hC (c_J9_floorDiv_f86c9 l (p0 - (1 : Int64)) (100 : Int64) (by decide)) (gS w_175 w_176 w_36 w_177) kk_J9_floorDiv_f86c9 ⟨Nat.le_of_ble_eq_true rfl, Nat.le_of_ble_eq_true rfl⟩ ⟨Nat.le_of_ble_eq_true rfl, Nat.le_of_ble_eq_true rfl⟩ hl.1 rfl rfl (Nat.le_of_ble_eq_true rfl) dX0_firstNumberOf_15 ?_
  refine lv_lsub hx hb dX0_firstNumberOf_18 ?_
  refine lv_lload_n hx hb dX0_firstNumberOf_19 rfl (lv_at hl 0 rfl) ?_
  refine lv_ldc2 hx hb hown (htg _ w_179) dX0_firstNumberOf_20 ?_
  refine pc_S hC (c_J9_floorDiv_f86c9 l (p0 - (1 : Int64)) (400 : Int64) (by decide)) (gS w_175 w_176 w_36 w_177) kk_J9_floorDiv_f86c9 ⟨Nat.le_of_ble_eq_true rfl, Nat.le_of_ble_eq_true rfl⟩ ⟨Nat.le_of_ble_eq_true rfl, Nat.le_of_ble_eq_true rfl⟩ hl.1 rfl rfl (Nat.le_of_ble_eq_true rfl) dX0_firstNumberOf_23 ?_
  refine lv_ladd hx hb dX0_firstNumberOf_26 ?_
  refine lv_lstore (lv' := [(4, .long (((m_J9_floorDiv_f86c9 (p0 - (1 : Int64)) (4 : Int64)) - (m_J9_floorDiv_f86c9 (p0 - (1 : Int64)) (100 : Int64))) + (m_J9_floorDiv_f86c9 (p0 - (1 : Int64)) (400 : Int64)))), (2, .long (p0 - (1 : Int64))), (0, .long p0)]) hx hb dX0_firstNumberOf_27 hl (by decide) rfl (fun ls hl => ?_)
  refine lv_ldc2 hx hb hown (htg _ w_180) dX0_firstNumberOf_29 ?_
  refine lv_lload_n hx hb dX0_firstNumberOf_32 rfl (lv_at hl 2 rfl) ?_
  refine lv_ldc2 hx hb hown (htg _ w_181) dX0_firstNumberOf_33 ?_
  refine lv_lsub hx hb dX0_firstNumberOf_36 ?_
  refine lv_lmul hx hb dX0_firstNumberOf_37 ?_
  refine lv_lload hx hb dX0_firstNumberOf_38 (lv_at hl 0 rfl) ?_
  refine lv_ladd hx hb dX0_firstNumberOf_40 ?_
  refine lv_ldc2 hx hb hown (htg _ w_182) dX0_firstNumberOf_41 ?_
  refine lv_lsub hx hb dX0_firstNumberOf_44 ?_
  have hm : m_X0_firstNumberOf p0 = (((365 : Int64) * (p0 - (1970 : Int64))) + (((m_J9_floorDiv_f86c9 (p0 - (1 : Int64)) (4 : Int64)) - (m_J9_floorDiv_f86c9 (p0 - (1 : Int64)) (100 : Int64))) + (m_J9_floorDiv_f86c9 (p0 - (1 : Int64)) (400 : Int64)))) - (477 : Int64) := hm
  exact W.lret (v := (((365 : Int64) * (p0 - (1970 : Int64))) + (((m_J9_floorDiv_f86c9 (p0 - (1 : Int64)) (4 : Int64)) - (m_J9_floorDiv_f86c9 (p0 - (1 : Int64)) (100 : Int64))) + (m_J9_floorDiv_f86c9 (p0 - (1 : Int64)) (400 : Int64)))) - (477 : Int64)) hx hb hr (fun t ht _ => ⟨by rw [hm], ht⟩) (fun _ h => absurd h List.not_mem_nil) dX0_firstNumberOf_45
def m_X0_yearOfNumber (p0 : Int64) : Int64 := (if 0 ≤ lg_cmp p0 (m_X0_firstNumberOf ((1970 : Int64) + (m_J9_floorDiv_f86c9 (p0 * (400 : Int64)) (146097 : Int64)))) then (if 0 ≤ lg_cmp p0 (m_X0_firstNumberOf (((1970 : Int64) + (m_J9_floorDiv_f86c9 (p0 * (400 : Int64)) (146097 : Int64))) + (1 : Int64))) then ((1970 : Int64) + (m_J9_floorDiv_f86c9 (p0 * (400 : Int64)) (146097 : Int64))) + (1 : Int64) else (1970 : Int64) + (m_J9_floorDiv_f86c9 (p0 * (400 : Int64)) (146097 : Int64))) else ((1970 : Int64) + (m_J9_floorDiv_f86c9 (p0 * (400 : Int64)) (146097 : Int64))) - (1 : Int64))
theorem kk_X0_yearOfNumber : pK yX0_yearOfNumber wsX0_yearOfNumber cX0_yearOfNumber 4 (some .long) 1 := ⟨⟨_, rfl⟩, by decide +kernel, by decide +kernel, by decide +kernel⟩
set_option maxRecDepth 100000 in
set_option maxHeartbeats 4000000 in
theorem c_X0_yearOfNumber (l : Launch) (p0 : Int64) : pM l yX0_yearOfNumber wsX0_yearOfNumber 2 50 [.long p0] (.long (m_X0_yearOfNumber p0)) := by
  refine Met.ofW (cc := cX0_yearOfNumber) (maxL := 4) (ret := (some .long)) (by decide) rfl ?_
  intro p e s m args below meth c s₁ B hml hv
  subst hv
  have hx := B.exec
  have hb := B.bytes
  have hr := B.returns
  have hts := atoms_spec (ws := wsX0_yearOfNumber) B.pre
  have hown : s.vm.findClass RX0 = some m.cls := findClass_of_methodNamed B.named
  have hlocks := B.notSynchronized
  have htg : ∀ w ∈ GL, w.before _ s = true := fun w h => hts w (List.mem_cons_of_mem _ h)
  have hC : CallFix p m c cX0_yearOfNumber 4 s _ wsX0_yearOfNumber RX0 := ⟨hx, hb, hml, hown, hts⟩
  have hl := lv_entry ([.long p0]) (n := 4) (Nat.le_of_ble_eq_true rfl)
  rw [lg_entry_eq]
  generalize (lg_sl ([.long p0]) ++ List.replicate (4 - (lg_sl ([.long p0])).length) Slot.unset).toArray = ls at hl ⊢
  have hl : lv_has ls 4 [(0, .long p0)] := hl
  have hm : m_X0_yearOfNumber p0 = m_X0_yearOfNumber p0 := rfl
  refine lv_ldc2 hx hb hown (htg _ w_181) dX0_yearOfNumber_0 ?_
  refine lv_lload_n hx hb dX0_yearOfNumber_3 rfl (lv_at hl 0 rfl) ?_
  refine lv_ldc2 hx hb hown (htg _ w_179) dX0_yearOfNumber_4 ?_
  refine lv_lmul hx hb dX0_yearOfNumber_7 ?_
  refine lv_ldc2 hx hb hown (htg _ w_204) dX0_yearOfNumber_8 ?_
  refine pc_S hC (c_J9_floorDiv_f86c9 l (p0 * (400 : Int64)) (146097 : Int64) (by decide)) (gS w_175 w_176 w_36 w_177) kk_J9_floorDiv_f86c9 ⟨Nat.le_of_ble_eq_true rfl, Nat.le_of_ble_eq_true rfl⟩ ⟨Nat.le_of_ble_eq_true rfl, Nat.le_of_ble_eq_true rfl⟩ hl.1 rfl rfl (Nat.le_of_ble_eq_true rfl) dX0_yearOfNumber_11 ?_
  refine lv_ladd hx hb dX0_yearOfNumber_14 ?_
  refine lv_lstore_n (lv' := [(2, .long ((1970 : Int64) + (m_J9_floorDiv_f86c9 (p0 * (400 : Int64)) (146097 : Int64)))), (0, .long p0)]) hx hb dX0_yearOfNumber_15 rfl hl (by decide) rfl (fun ls hl => ?_)
  refine lv_lload_n hx hb dX0_yearOfNumber_16 rfl (lv_at hl 1 rfl) ?_
  refine lv_lload_n hx hb dX0_yearOfNumber_17 rfl (lv_at hl 0 rfl) ?_
  refine pc_S hC (c_X0_firstNumberOf l ((1970 : Int64) + (m_J9_floorDiv_f86c9 (p0 * (400 : Int64)) (146097 : Int64)))) (gS w_171 w_172 w_26 w_173) kk_X0_firstNumberOf ⟨Nat.le_of_ble_eq_true rfl, Nat.le_of_ble_eq_true rfl⟩ ⟨Nat.le_of_ble_eq_true rfl, Nat.le_of_ble_eq_true rfl⟩ hl.1 rfl rfl (Nat.le_of_ble_eq_true rfl) dX0_yearOfNumber_18 ?_
  refine W.lcmp hx hb dX0_yearOfNumber_21 ?_
  refine lv_if_ge (tgt := 29) hx hb dX0_yearOfNumber_22 (by decide) (fun h_1 => ?_) (fun h_1 => ?_)
  · have hm := hm.trans (if_pos h_1)
    refine lv_lload_n hx hb dX0_yearOfNumber_29 rfl (lv_at hl 1 rfl) ?_
    refine lv_lload_n hx hb dX0_yearOfNumber_30 rfl (lv_at hl 0 rfl) ?_
    refine lv_lconst (v := 1) hx hb dX0_yearOfNumber_31 (by decide) ?_
    refine lv_ladd hx hb dX0_yearOfNumber_32 ?_
    refine pc_S hC (c_X0_firstNumberOf l (((1970 : Int64) + (m_J9_floorDiv_f86c9 (p0 * (400 : Int64)) (146097 : Int64))) + (1 : Int64))) (gS w_171 w_172 w_26 w_173) kk_X0_firstNumberOf ⟨Nat.le_of_ble_eq_true rfl, Nat.le_of_ble_eq_true rfl⟩ ⟨Nat.le_of_ble_eq_true rfl, Nat.le_of_ble_eq_true rfl⟩ hl.1 rfl rfl (Nat.le_of_ble_eq_true rfl) dX0_yearOfNumber_33 ?_
    refine W.lcmp hx hb dX0_yearOfNumber_36 ?_
    refine lv_if_ge (tgt := 44) hx hb dX0_yearOfNumber_37 (by decide) (fun h_2 => ?_) (fun h_2 => ?_)
    · have hm := hm.trans (if_pos h_2)
      refine lv_lload_n hx hb dX0_yearOfNumber_44 rfl (lv_at hl 0 rfl) ?_
      refine lv_lconst (v := 1) hx hb dX0_yearOfNumber_45 (by decide) ?_
      refine lv_ladd hx hb dX0_yearOfNumber_46 ?_
      have hm : m_X0_yearOfNumber p0 = ((1970 : Int64) + (m_J9_floorDiv_f86c9 (p0 * (400 : Int64)) (146097 : Int64))) + (1 : Int64) := hm
      exact W.lret (v := ((1970 : Int64) + (m_J9_floorDiv_f86c9 (p0 * (400 : Int64)) (146097 : Int64))) + (1 : Int64)) hx hb hr (fun t ht _ => ⟨by rw [hm], ht⟩) (fun _ h => absurd h List.not_mem_nil) dX0_yearOfNumber_47
    · have hm := hm.trans (if_neg h_2)
      refine lv_lload_n hx hb dX0_yearOfNumber_40 rfl (lv_at hl 0 rfl) ?_
      refine lv_goto (tgt := 47) hx hb dX0_yearOfNumber_41 (by decide) ?_
      have hm : m_X0_yearOfNumber p0 = (1970 : Int64) + (m_J9_floorDiv_f86c9 (p0 * (400 : Int64)) (146097 : Int64)) := hm
      exact W.lret (v := (1970 : Int64) + (m_J9_floorDiv_f86c9 (p0 * (400 : Int64)) (146097 : Int64))) hx hb hr (fun t ht _ => ⟨by rw [hm], ht⟩) (fun _ h => absurd h List.not_mem_nil) dX0_yearOfNumber_47
  · have hm := hm.trans (if_neg h_1)
    refine lv_lload_n hx hb dX0_yearOfNumber_25 rfl (lv_at hl 0 rfl) ?_
    refine lv_lconst (v := 1) hx hb dX0_yearOfNumber_26 (by decide) ?_
    refine lv_lsub hx hb dX0_yearOfNumber_27 ?_
    have hm : m_X0_yearOfNumber p0 = ((1970 : Int64) + (m_J9_floorDiv_f86c9 (p0 * (400 : Int64)) (146097 : Int64))) - (1 : Int64) := hm
    exact W.lret (v := ((1970 : Int64) + (m_J9_floorDiv_f86c9 (p0 * (400 : Int64)) (146097 : Int64))) - (1 : Int64)) hx hb hr (fun t ht _ => ⟨by rw [hm], ht⟩) (fun _ h => absurd h List.not_mem_nil) dX0_yearOfNumber_28
def l_X0_dayInYear (p0 : Int64) : Nat → Int32 → Int32 → Option Int32
  | 0, _, _ => none
  | n + 1, x4, x3 => (if m_X0_monthIn p0 ≤ x4 then some (x3) else l_X0_dayInYear p0 n (x4 + 1) (x3 + (m_X0_monthLength x4 (m_X0_isLeap (m_X0_yearIn p0)))))
def o_X0_dayInYear (p0 : Int64) : Option Int32 := l_X0_dayInYear p0 20 (1 : Int32) (m_X0_dayIn p0)
theorem kk_X0_dayInYear : pK yX0_dayInYear wsX0_dayInYear cX0_dayInYear 5 (some .int) 1 := ⟨⟨_, rfl⟩, by decide +kernel, by decide +kernel, by decide +kernel⟩
set_option maxRecDepth 100000 in
set_option maxHeartbeats 4000000 in
theorem k_X0_dayInYear (l : Launch) (p0 : Int64) {r : Int32} (hm0 : o_X0_dayInYear p0 = some r) : pM l yX0_dayInYear wsX0_dayInYear 1 21 [.long p0] (.int r) := by
  refine Met.ofW (cc := cX0_dayInYear) (maxL := 5) (ret := (some .int)) (by decide) rfl ?_
  intro p e s m args below meth c s₁ B hml hv
  subst hv
  have hx := B.exec
  have hb := B.bytes
  have hr := B.returns
  have hts := atoms_spec (ws := wsX0_dayInYear) B.pre
  have hown : s.vm.findClass RX0 = some m.cls := findClass_of_methodNamed B.named
  have hlocks := B.notSynchronized
  have htg : ∀ w ∈ GL, w.before _ s = true := fun w h => hts w (List.mem_cons_of_mem _ h)
  have hC : CallFix p m c cX0_dayInYear 5 s _ wsX0_dayInYear RX0 := ⟨hx, hb, hml, hown, hts⟩
  have hl := lv_entry ([.long p0]) (n := 5) (Nat.le_of_ble_eq_true rfl)
  rw [lg_entry_eq]
  generalize (lg_sl ([.long p0]) ++ List.replicate (5 - (lg_sl ([.long p0])).length) Slot.unset).toArray = ls at hl ⊢
  have hl : lv_has ls 5 [(0, .long p0)] := hl
  refine lv_lload_n hx hb dX0_dayInYear_0 rfl (lv_at hl 0 rfl) ?_
  refine pc_S hC (c_X0_yearIn l p0) (gS w_168 w_169 w_26 w_170) kk_X0_yearIn ⟨Nat.le_of_ble_eq_true rfl, Nat.le_of_ble_eq_true rfl⟩ ⟨Nat.le_of_ble_eq_true rfl, Nat.le_of_ble_eq_true rfl⟩ hl.1 rfl rfl (Nat.le_of_ble_eq_true rfl) dX0_dayInYear_1 ?_
  refine pc_S hC (c_X0_isLeap l (m_X0_yearIn p0)) (gS w_186 w_187 w_26 w_188) kk_X0_isLeap ⟨Nat.le_of_ble_eq_true rfl, Nat.le_of_ble_eq_true rfl⟩ ⟨Nat.le_of_ble_eq_true rfl, Nat.le_of_ble_eq_true rfl⟩ hl.1 rfl rfl (Nat.le_of_ble_eq_true rfl) dX0_dayInYear_4 ?_
  refine lv_istore_n (lv' := [(2, .int (m_X0_isLeap (m_X0_yearIn p0))), (0, .long p0)]) hx hb dX0_dayInYear_7 rfl hl (by decide) rfl (fun ls hl => ?_)
  refine lv_lload_n hx hb dX0_dayInYear_8 rfl (lv_at hl 1 rfl) ?_
  refine pc_S hC (c_X0_dayIn l p0) (gS w_189 w_190 w_26 w_191) kk_X0_dayIn ⟨Nat.le_of_ble_eq_true rfl, Nat.le_of_ble_eq_true rfl⟩ ⟨Nat.le_of_ble_eq_true rfl, Nat.le_of_ble_eq_true rfl⟩ hl.1 rfl rfl (Nat.le_of_ble_eq_true rfl) dX0_dayInYear_9 ?_
  refine lv_istore_n (lv' := [(3, .int (m_X0_dayIn p0)), (2, .int (m_X0_isLeap (m_X0_yearIn p0))), (0, .long p0)]) hx hb dX0_dayInYear_12 rfl hl (by decide) rfl (fun ls hl => ?_)
  refine lv_iconst (v := 1) hx hb dX0_dayInYear_13 (by decide) ?_
  refine lv_istore (lv' := [(4, .int (1 : Int32)), (3, .int (m_X0_dayIn p0)), (2, .int (m_X0_isLeap (m_X0_yearIn p0))), (0, .long p0)]) hx hb dX0_dayInYear_14 hl (by decide) rfl (fun ls hl => ?_)
  have J : ∀ (n : Nat) (x4 : Int32) (x3 : Int32) (ls : Array Slot), lv_has ls 5 [(4, .int x4), (3, .int x3), (2, .int (m_X0_isLeap (m_X0_yearIn p0))), (0, .long p0)] → l_X0_dayInYear p0 n x4 x3 = some r → W p l e (headSpec wsX0_dayInYear { frames := 1, cells := 0, slots := 0, locals := 21 }).room s m ([.long p0] : List Value).toArray below meth c s.heap [] 0 0 (MQ below (pQ (.int r)) ([.long p0] : List Value).toArray s 0 0 (fun _ => False)) (F0 m 16 ls []) := by
    intro n
    induction n with
    | zero => intro x4 x3 ls hl hm0; cases hm0
    | succ n ih =>
      intro x4 x3 ls hl hm0
      have hm : l_X0_dayInYear p0 (n + 1) x4 x3 = l_X0_dayInYear p0 (n + 1) x4 x3 := rfl
      refine lv_iload hx hb dX0_dayInYear_16 (lv_at hl 0 rfl) ?_
      refine lv_lload_n hx hb dX0_dayInYear_18 rfl (lv_at hl 3 rfl) ?_
      refine pc_S hC (c_X0_monthIn l p0) (gS w_192 w_193 w_26 w_194) kk_X0_monthIn ⟨Nat.le_of_ble_eq_true rfl, Nat.le_of_ble_eq_true rfl⟩ ⟨Nat.le_of_ble_eq_true rfl, Nat.le_of_ble_eq_true rfl⟩ hl.1 rfl rfl (Nat.le_of_ble_eq_true rfl) dX0_dayInYear_19 ?_
      refine lv_icmp_ge (tgt := 40) hx hb dX0_dayInYear_22 (by decide) (fun h_1 => ?_) (fun h_1 => ?_)
      · have hm := hm.trans (if_pos h_1)
        refine lv_iload_n hx hb dX0_dayInYear_40 rfl (lv_at hl 1 rfl) ?_
        have hm : some (x3) = some r := hm.symm.trans hm0
        exact W.iret (v := x3) hx hb hr (fun t ht _ => ⟨by rw [Option.some.inj hm], ht⟩) (fun _ h => absurd h List.not_mem_nil) dX0_dayInYear_41
      · have hm := hm.trans (if_neg h_1)
        refine lv_iload_n hx hb dX0_dayInYear_25 rfl (lv_at hl 1 rfl) ?_
        refine lv_iload hx hb dX0_dayInYear_26 (lv_at hl 0 rfl) ?_
        refine lv_iload_n hx hb dX0_dayInYear_28 rfl (lv_at hl 2 rfl) ?_
        refine pc_S hC (c_X0_monthLength l x4 (m_X0_isLeap (m_X0_yearIn p0))) (gS w_195 w_196 w_26 w_197) kk_X0_monthLength ⟨Nat.le_of_ble_eq_true rfl, Nat.le_of_ble_eq_true rfl⟩ ⟨Nat.le_of_ble_eq_true rfl, Nat.le_of_ble_eq_true rfl⟩ hl.1 rfl rfl (Nat.le_of_ble_eq_true rfl) dX0_dayInYear_29 ?_
        refine lv_iadd hx hb dX0_dayInYear_32 ?_
        refine lv_istore_n (lv' := [(3, .int (x3 + (m_X0_monthLength x4 (m_X0_isLeap (m_X0_yearIn p0))))), (4, .int x4), (2, .int (m_X0_isLeap (m_X0_yearIn p0))), (0, .long p0)]) hx hb dX0_dayInYear_33 rfl hl (by decide) rfl (fun ls hl => ?_)
        refine lv_iinc (v := x4 + 1) (lv' := [(4, .int (x4 + 1)), (3, .int (x3 + (m_X0_monthLength x4 (m_X0_isLeap (m_X0_yearIn p0))))), (2, .int (m_X0_isLeap (m_X0_yearIn p0))), (0, .long p0)]) hx hb dX0_dayInYear_34 hl (k := 1) rfl rfl (by decide) rfl (fun ls hl => ?_)
        refine lv_goto (tgt := 16) hx hb dX0_dayInYear_37 (by decide) ?_
        exact ih (x4 + 1) (x3 + (m_X0_monthLength x4 (m_X0_isLeap (m_X0_yearIn p0)))) ls (lv_sub hl [0, 1, 2, 3] rfl) (hm.symm.trans hm0)
  exact J 20 (1 : Int32) (m_X0_dayIn p0) ls (lv_sub hl [0, 1, 2, 3] rfl) (hm0)
def l_X0_dateOfYearDay (p0 : Int64) (p1 : Int32) : Nat → Int32 → Int32 → Option Int64
  | 0, _, _ => none
  | n + 1, x4, x5 => (if (12 : Int32) ≤ x4 then some (m_X0_dateOf p0 x4 x5) else (if x5 ≤ m_X0_monthLength x4 (m_X0_isLeap p0) then some (m_X0_dateOf p0 x4 x5) else l_X0_dateOfYearDay p0 p1 n (x4 + 1) (x5 - (m_X0_monthLength x4 (m_X0_isLeap p0)))))
def o_X0_dateOfYearDay (p0 : Int64) (p1 : Int32) : Option Int64 := l_X0_dateOfYearDay p0 p1 20 (1 : Int32) p1
theorem kk_X0_dateOfYearDay : pK yX0_dateOfYearDay wsX0_dateOfYearDay cX0_dateOfYearDay 6 (some .long) 2 := ⟨⟨_, rfl⟩, by decide +kernel, by decide +kernel, by decide +kernel⟩
set_option maxRecDepth 100000 in
set_option maxHeartbeats 4000000 in
theorem k_X0_dateOfYearDay (l : Launch) (p0 : Int64) (p1 : Int32) {r : Int64} (hm0 : o_X0_dateOfYearDay p0 p1 = some r) : pM l yX0_dateOfYearDay wsX0_dateOfYearDay 1 23 [.long p0, .int p1] (.long r) := by
  refine Met.ofW (cc := cX0_dateOfYearDay) (maxL := 6) (ret := (some .long)) (by decide) rfl ?_
  intro p e s m args below meth c s₁ B hml hv
  subst hv
  have hx := B.exec
  have hb := B.bytes
  have hr := B.returns
  have hts := atoms_spec (ws := wsX0_dateOfYearDay) B.pre
  have hown : s.vm.findClass RX0 = some m.cls := findClass_of_methodNamed B.named
  have hlocks := B.notSynchronized
  have htg : ∀ w ∈ GL, w.before _ s = true := fun w h => hts w (List.mem_cons_of_mem _ h)
  have hC : CallFix p m c cX0_dateOfYearDay 6 s _ wsX0_dateOfYearDay RX0 := ⟨hx, hb, hml, hown, hts⟩
  have hl := lv_entry ([.long p0, .int p1]) (n := 6) (Nat.le_of_ble_eq_true rfl)
  rw [lg_entry_eq]
  generalize (lg_sl ([.long p0, .int p1]) ++ List.replicate (6 - (lg_sl ([.long p0, .int p1])).length) Slot.unset).toArray = ls at hl ⊢
  have hl : lv_has ls 6 [(0, .long p0), (2, .int p1)] := hl
  refine lv_lload_n hx hb dX0_dateOfYearDay_0 rfl (lv_at hl 0 rfl) ?_
  refine pc_S hC (c_X0_isLeap l p0) (gS w_186 w_187 w_26 w_188) kk_X0_isLeap ⟨Nat.le_of_ble_eq_true rfl, Nat.le_of_ble_eq_true rfl⟩ ⟨Nat.le_of_ble_eq_true rfl, Nat.le_of_ble_eq_true rfl⟩ hl.1 rfl rfl (Nat.le_of_ble_eq_true rfl) dX0_dateOfYearDay_1 ?_
  refine lv_istore_n (lv' := [(3, .int (m_X0_isLeap p0)), (0, .long p0), (2, .int p1)]) hx hb dX0_dateOfYearDay_4 rfl hl (by decide) rfl (fun ls hl => ?_)
  refine lv_iconst (v := 1) hx hb dX0_dateOfYearDay_5 (by decide) ?_
  refine lv_istore (lv' := [(4, .int (1 : Int32)), (3, .int (m_X0_isLeap p0)), (0, .long p0), (2, .int p1)]) hx hb dX0_dateOfYearDay_6 hl (by decide) rfl (fun ls hl => ?_)
  refine lv_iload_n hx hb dX0_dateOfYearDay_8 rfl (lv_at hl 3 rfl) ?_
  refine lv_istore (lv' := [(5, .int p1), (4, .int (1 : Int32)), (3, .int (m_X0_isLeap p0)), (0, .long p0), (2, .int p1)]) hx hb dX0_dateOfYearDay_9 hl (by decide) rfl (fun ls hl => ?_)
  have J : ∀ (n : Nat) (x4 : Int32) (x5 : Int32) (ls : Array Slot), lv_has ls 6 [(5, .int x5), (4, .int x4), (3, .int (m_X0_isLeap p0)), (0, .long p0), (2, .int p1)] → l_X0_dateOfYearDay p0 p1 n x4 x5 = some r → W p l e (headSpec wsX0_dateOfYearDay { frames := 1, cells := 0, slots := 0, locals := 23 }).room s m ([.long p0, .int p1] : List Value).toArray below meth c s.heap [] 0 0 (MQ below (pQ (.long r)) ([.long p0, .int p1] : List Value).toArray s 0 0 (fun _ => False)) (F0 m 11 ls []) := by
    intro n
    induction n with
    | zero => intro x4 x5 ls hl hm0; cases hm0
    | succ n ih =>
      intro x4 x5 ls hl hm0
      have hm : l_X0_dateOfYearDay p0 p1 (n + 1) x4 x5 = l_X0_dateOfYearDay p0 p1 (n + 1) x4 x5 := rfl
      refine lv_iload hx hb dX0_dateOfYearDay_11 (lv_at hl 1 rfl) ?_
      refine lv_bipush (v := 12) hx hb dX0_dateOfYearDay_13 (by decide) ?_
      refine lv_icmp_ge (tgt := 46) hx hb dX0_dateOfYearDay_15 (by decide) (fun h_1 => ?_) (fun h_1 => ?_)
      · have hm := hm.trans (if_pos h_1)
        refine lv_lload_n hx hb dX0_dateOfYearDay_46 rfl (lv_at hl 3 rfl) ?_
        refine lv_iload hx hb dX0_dateOfYearDay_47 (lv_at hl 1 rfl) ?_
        refine lv_iload hx hb dX0_dateOfYearDay_49 (lv_at hl 0 rfl) ?_
        refine pc_S hC (c_X0_dateOf l p0 x4 x5) (gS w_208 w_209 w_26 w_210) kk_X0_dateOf ⟨Nat.le_of_ble_eq_true rfl, Nat.le_of_ble_eq_true rfl⟩ ⟨Nat.le_of_ble_eq_true rfl, Nat.le_of_ble_eq_true rfl⟩ hl.1 rfl rfl (Nat.le_of_ble_eq_true rfl) dX0_dateOfYearDay_51 ?_
        have hm : some (m_X0_dateOf p0 x4 x5) = some r := hm.symm.trans hm0
        exact W.lret (v := m_X0_dateOf p0 x4 x5) hx hb hr (fun t ht _ => ⟨by rw [Option.some.inj hm], ht⟩) (fun _ h => absurd h List.not_mem_nil) dX0_dateOfYearDay_54
      · have hm := hm.trans (if_neg h_1)
        refine lv_iload hx hb dX0_dateOfYearDay_18 (lv_at hl 0 rfl) ?_
        refine lv_iload hx hb dX0_dateOfYearDay_20 (lv_at hl 1 rfl) ?_
        refine lv_iload_n hx hb dX0_dateOfYearDay_22 rfl (lv_at hl 2 rfl) ?_
        refine pc_S hC (c_X0_monthLength l x4 (m_X0_isLeap p0)) (gS w_195 w_196 w_26 w_197) kk_X0_monthLength ⟨Nat.le_of_ble_eq_true rfl, Nat.le_of_ble_eq_true rfl⟩ ⟨Nat.le_of_ble_eq_true rfl, Nat.le_of_ble_eq_true rfl⟩ hl.1 rfl rfl (Nat.le_of_ble_eq_true rfl) dX0_dateOfYearDay_23 ?_
        refine lv_icmp_le (tgt := 46) hx hb dX0_dateOfYearDay_26 (by decide) (fun h_2 => ?_) (fun h_2 => ?_)
        · have hm := hm.trans (if_pos h_2)
          refine lv_lload_n hx hb dX0_dateOfYearDay_46 rfl (lv_at hl 3 rfl) ?_
          refine lv_iload hx hb dX0_dateOfYearDay_47 (lv_at hl 1 rfl) ?_
          refine lv_iload hx hb dX0_dateOfYearDay_49 (lv_at hl 0 rfl) ?_
          refine pc_S hC (c_X0_dateOf l p0 x4 x5) (gS w_208 w_209 w_26 w_210) kk_X0_dateOf ⟨Nat.le_of_ble_eq_true rfl, Nat.le_of_ble_eq_true rfl⟩ ⟨Nat.le_of_ble_eq_true rfl, Nat.le_of_ble_eq_true rfl⟩ hl.1 rfl rfl (Nat.le_of_ble_eq_true rfl) dX0_dateOfYearDay_51 ?_
          have hm : some (m_X0_dateOf p0 x4 x5) = some r := hm.symm.trans hm0
          exact W.lret (v := m_X0_dateOf p0 x4 x5) hx hb hr (fun t ht _ => ⟨by rw [Option.some.inj hm], ht⟩) (fun _ h => absurd h List.not_mem_nil) dX0_dateOfYearDay_54
        · have hm := hm.trans (if_neg h_2)
          refine lv_iload hx hb dX0_dateOfYearDay_29 (lv_at hl 0 rfl) ?_
          refine lv_iload hx hb dX0_dateOfYearDay_31 (lv_at hl 1 rfl) ?_
          refine lv_iload_n hx hb dX0_dateOfYearDay_33 rfl (lv_at hl 2 rfl) ?_
          refine pc_S hC (c_X0_monthLength l x4 (m_X0_isLeap p0)) (gS w_195 w_196 w_26 w_197) kk_X0_monthLength ⟨Nat.le_of_ble_eq_true rfl, Nat.le_of_ble_eq_true rfl⟩ ⟨Nat.le_of_ble_eq_true rfl, Nat.le_of_ble_eq_true rfl⟩ hl.1 rfl rfl (Nat.le_of_ble_eq_true rfl) dX0_dateOfYearDay_34 ?_
          refine lv_isub hx hb dX0_dateOfYearDay_37 ?_
          refine lv_istore (lv' := [(5, .int (x5 - (m_X0_monthLength x4 (m_X0_isLeap p0)))), (4, .int x4), (3, .int (m_X0_isLeap p0)), (0, .long p0), (2, .int p1)]) hx hb dX0_dateOfYearDay_38 hl (by decide) rfl (fun ls hl => ?_)
          refine lv_iinc (v := x4 + 1) (lv' := [(4, .int (x4 + 1)), (5, .int (x5 - (m_X0_monthLength x4 (m_X0_isLeap p0)))), (3, .int (m_X0_isLeap p0)), (0, .long p0), (2, .int p1)]) hx hb dX0_dateOfYearDay_40 hl (k := 1) rfl rfl (by decide) rfl (fun ls hl => ?_)
          refine lv_goto (tgt := 11) hx hb dX0_dateOfYearDay_43 (by decide) ?_
          exact ih (x4 + 1) (x5 - (m_X0_monthLength x4 (m_X0_isLeap p0))) ls (lv_sub hl [1, 0, 2, 3, 4] rfl) (hm.symm.trans hm0)
  exact J 20 (1 : Int32) p1 ls (lv_sub hl [0, 1, 2, 3, 4] rfl) (hm0)
theorem tot_X0_dayInYear (p0 : Int64) : ∃ r, o_X0_dayInYear p0 = some r := by
  obtain ⟨i, hi, he⟩ := pk_andE ((p0 >>> ((5 : Int32).toInt64 &&& 63)).toInt32) (m := 15) 4 (by decide)
  have key : ∀ (n j : Nat) (x : Int32), 16 ≤ n + j → j < 2 ^ 20 → n < 2 ^ 20 → ∃ r, l_X0_dayInYear p0 (n + 1) (nI j) x = some r := by
    intro n
    induction n with
    | zero => intro j x h h2 _; exact ⟨x, if_pos (by show m_X0_monthIn p0 ≤ nI j; unfold m_X0_monthIn; rw [he]; exact nI_le (by omega) (by omega))⟩
    | succ n ih =>
      intro j x h h2 h3
      by_cases hc : m_X0_monthIn p0 ≤ nI j
      · exact ⟨x, if_pos hc⟩
      · by_cases hj : j + 1 < 2 ^ 20
        · obtain ⟨r, hr⟩ := ih (j + 1) (x + (m_X0_monthLength (nI j) (m_X0_isLeap (m_X0_yearIn p0)))) (by omega) hj (by omega)
          exact ⟨r, (if_neg hc).trans (by rw [nI_1]; exact hr)⟩
        · exact absurd (show m_X0_monthIn p0 ≤ nI j by unfold m_X0_monthIn; rw [he]; exact nI_le (by omega) (by omega)) hc
  exact key 19 1 (m_X0_dayIn p0) (by decide) (by decide) (by decide)
def m_X0_dayInYear (p0 : Int64) : Int32 := (o_X0_dayInYear p0).getD 0
theorem c_X0_dayInYear (l : Launch) (p0 : Int64) : pM l yX0_dayInYear wsX0_dayInYear 1 21 [.long p0] (.int (m_X0_dayInYear p0)) := by
  obtain ⟨r, h⟩ := tot_X0_dayInYear p0
  have e : m_X0_dayInYear p0 = r := by unfold m_X0_dayInYear; rw [h]; rfl
  rw [e]
  exact k_X0_dayInYear l p0 h
theorem tot_X0_dateOfYearDay (p0 : Int64) (p1 : Int32) : ∃ r, o_X0_dateOfYearDay p0 p1 = some r := by
  have key : ∀ (n j : Nat) (x : Int32), 12 ≤ n + j → j < 2 ^ 20 → ∃ r, l_X0_dateOfYearDay p0 p1 (n + 1) (nI j) x = some r := by
    intro n
    induction n with
    | zero => intro j x h h2; exact ⟨_, if_pos (show (nI 12) ≤ nI j from nI_le (by omega) (by omega))⟩
    | succ n ih =>
      intro j x h h2
      by_cases hc : (12 : Int32) ≤ nI j
      · exact ⟨_, if_pos hc⟩
      · by_cases hd : x ≤ m_X0_monthLength (nI j) (m_X0_isLeap p0)
        · exact ⟨_, (if_neg hc).trans (if_pos hd)⟩
        · by_cases hj : j + 1 < 2 ^ 20
          · obtain ⟨r, hr⟩ := ih (j + 1) (x - (m_X0_monthLength (nI j) (m_X0_isLeap p0))) (by omega) hj
            exact ⟨r, (if_neg hc).trans ((if_neg hd).trans (by rw [nI_1]; exact hr))⟩
          · exact absurd (show (nI 12) ≤ nI j from nI_le (by omega) (by omega)) hc
  exact key 19 1 p1 (by decide) (by decide)
def m_X0_dateOfYearDay (p0 : Int64) (p1 : Int32) : Int64 := (o_X0_dateOfYearDay p0 p1).getD 0
theorem c_X0_dateOfYearDay (l : Launch) (p0 : Int64) (p1 : Int32) : pM l yX0_dateOfYearDay wsX0_dateOfYearDay 1 23 [.long p0, .int p1] (.long (m_X0_dateOfYearDay p0 p1)) := by
  obtain ⟨r, h⟩ := tot_X0_dateOfYearDay p0 p1
  have e : m_X0_dateOfYearDay p0 p1 = r := by unfold m_X0_dateOfYearDay; rw [h]; rfl
  rw [e]
  exact k_X0_dateOfYearDay l p0 p1 h

def m_X0_numberOf (p0 : Int64) : Int64 := ((m_X0_firstNumberOf (m_X0_yearIn p0)) + ((m_X0_dayInYear p0).toInt64)) - (1 : Int64)
theorem kk_X0_numberOf : pK yX0_numberOf wsX0_numberOf cX0_numberOf 2 (some .long) 1 := ⟨⟨_, rfl⟩, by decide +kernel, by decide +kernel, by decide +kernel⟩
set_option maxRecDepth 100000 in
set_option maxHeartbeats 4000000 in
theorem c_X0_numberOf (l : Launch) (p0 : Int64) : pM l yX0_numberOf wsX0_numberOf 2 50 [.long p0] (.long (m_X0_numberOf p0)) := by
  refine Met.ofW (cc := cX0_numberOf) (maxL := 2) (ret := (some .long)) (by decide) rfl ?_
  intro p e s m args below meth c s₁ B hml hv
  subst hv
  have hx := B.exec
  have hb := B.bytes
  have hr := B.returns
  have hts := atoms_spec (ws := wsX0_numberOf) B.pre
  have hown : s.vm.findClass RX0 = some m.cls := findClass_of_methodNamed B.named
  have hlocks := B.notSynchronized
  have htg : ∀ w ∈ GL, w.before _ s = true := fun w h => hts w (List.mem_cons_of_mem _ h)
  have hC : CallFix p m c cX0_numberOf 2 s _ wsX0_numberOf RX0 := ⟨hx, hb, hml, hown, hts⟩
  have hl := lv_entry ([.long p0]) (n := 2) (Nat.le_of_ble_eq_true rfl)
  rw [lg_entry_eq]
  generalize (lg_sl ([.long p0]) ++ List.replicate (2 - (lg_sl ([.long p0])).length) Slot.unset).toArray = ls at hl ⊢
  have hl : lv_has ls 2 [(0, .long p0)] := hl
  have hm : m_X0_numberOf p0 = m_X0_numberOf p0 := rfl
  refine lv_lload_n hx hb dX0_numberOf_0 rfl (lv_at hl 0 rfl) ?_
  refine pc_S hC (c_X0_yearIn l p0) (gS w_168 w_169 w_26 w_170) kk_X0_yearIn ⟨Nat.le_of_ble_eq_true rfl, Nat.le_of_ble_eq_true rfl⟩ ⟨Nat.le_of_ble_eq_true rfl, Nat.le_of_ble_eq_true rfl⟩ hl.1 rfl rfl (Nat.le_of_ble_eq_true rfl) dX0_numberOf_1 ?_
  refine pc_S hC (c_X0_firstNumberOf l (m_X0_yearIn p0)) (gS w_171 w_172 w_26 w_173) kk_X0_firstNumberOf ⟨Nat.le_of_ble_eq_true rfl, Nat.le_of_ble_eq_true rfl⟩ ⟨Nat.le_of_ble_eq_true rfl, Nat.le_of_ble_eq_true rfl⟩ hl.1 rfl rfl (Nat.le_of_ble_eq_true rfl) dX0_numberOf_4 ?_
  refine lv_lload_n hx hb dX0_numberOf_7 rfl (lv_at hl 0 rfl) ?_
  refine pc_S hC (c_X0_dayInYear l p0) (gS w_183 w_184 w_26 w_185) kk_X0_dayInYear ⟨Nat.le_of_ble_eq_true rfl, Nat.le_of_ble_eq_true rfl⟩ ⟨Nat.le_of_ble_eq_true rfl, Nat.le_of_ble_eq_true rfl⟩ hl.1 rfl rfl (Nat.le_of_ble_eq_true rfl) dX0_numberOf_8 ?_
  refine lv_i2l hx hb dX0_numberOf_11 rfl ?_
  refine lv_ladd hx hb dX0_numberOf_12 ?_
  refine lv_lconst (v := 1) hx hb dX0_numberOf_13 (by decide) ?_
  refine lv_lsub hx hb dX0_numberOf_14 ?_
  have hm : m_X0_numberOf p0 = ((m_X0_firstNumberOf (m_X0_yearIn p0)) + ((m_X0_dayInYear p0).toInt64)) - (1 : Int64) := hm
  exact W.lret (v := ((m_X0_firstNumberOf (m_X0_yearIn p0)) + ((m_X0_dayInYear p0).toInt64)) - (1 : Int64)) hx hb hr (fun t ht _ => ⟨by rw [hm], ht⟩) (fun _ h => absurd h List.not_mem_nil) dX0_numberOf_15
def m_X0_dateOfNumber (p0 : Int64) : Int64 := m_X0_dateOfYearDay (m_X0_yearOfNumber p0) (((p0 - (m_X0_firstNumberOf (m_X0_yearOfNumber p0))).toInt32) + (1 : Int32))
theorem kk_X0_dateOfNumber : pK yX0_dateOfNumber wsX0_dateOfNumber cX0_dateOfNumber 4 (some .long) 1 := ⟨⟨_, rfl⟩, by decide +kernel, by decide +kernel, by decide +kernel⟩
set_option maxRecDepth 100000 in
set_option maxHeartbeats 4000000 in
theorem c_X0_dateOfNumber (l : Launch) (p0 : Int64) : pM l yX0_dateOfNumber wsX0_dateOfNumber 3 73 [.long p0] (.long (m_X0_dateOfNumber p0)) := by
  refine Met.ofW (cc := cX0_dateOfNumber) (maxL := 4) (ret := (some .long)) (by decide) rfl ?_
  intro p e s m args below meth c s₁ B hml hv
  subst hv
  have hx := B.exec
  have hb := B.bytes
  have hr := B.returns
  have hts := atoms_spec (ws := wsX0_dateOfNumber) B.pre
  have hown : s.vm.findClass RX0 = some m.cls := findClass_of_methodNamed B.named
  have hlocks := B.notSynchronized
  have htg : ∀ w ∈ GL, w.before _ s = true := fun w h => hts w (List.mem_cons_of_mem _ h)
  have hC : CallFix p m c cX0_dateOfNumber 4 s _ wsX0_dateOfNumber RX0 := ⟨hx, hb, hml, hown, hts⟩
  have hl := lv_entry ([.long p0]) (n := 4) (Nat.le_of_ble_eq_true rfl)
  rw [lg_entry_eq]
  generalize (lg_sl ([.long p0]) ++ List.replicate (4 - (lg_sl ([.long p0])).length) Slot.unset).toArray = ls at hl ⊢
  have hl : lv_has ls 4 [(0, .long p0)] := hl
  have hm : m_X0_dateOfNumber p0 = m_X0_dateOfNumber p0 := rfl
  refine lv_lload_n hx hb dX0_dateOfNumber_0 rfl (lv_at hl 0 rfl) ?_
  refine pc_S hC (c_X0_yearOfNumber l p0) (gS w_201 w_202 w_26 w_203) kk_X0_yearOfNumber ⟨Nat.le_of_ble_eq_true rfl, Nat.le_of_ble_eq_true rfl⟩ ⟨Nat.le_of_ble_eq_true rfl, Nat.le_of_ble_eq_true rfl⟩ hl.1 rfl rfl (Nat.le_of_ble_eq_true rfl) dX0_dateOfNumber_1 ?_
  refine lv_lstore_n (lv' := [(2, .long (m_X0_yearOfNumber p0)), (0, .long p0)]) hx hb dX0_dateOfNumber_4 rfl hl (by decide) rfl (fun ls hl => ?_)
  refine lv_lload_n hx hb dX0_dateOfNumber_5 rfl (lv_at hl 0 rfl) ?_
  refine lv_lload_n hx hb dX0_dateOfNumber_6 rfl (lv_at hl 1 rfl) ?_
  refine lv_lload_n hx hb dX0_dateOfNumber_7 rfl (lv_at hl 0 rfl) ?_
  refine pc_S hC (c_X0_firstNumberOf l (m_X0_yearOfNumber p0)) (gS w_171 w_172 w_26 w_173) kk_X0_firstNumberOf ⟨Nat.le_of_ble_eq_true rfl, Nat.le_of_ble_eq_true rfl⟩ ⟨Nat.le_of_ble_eq_true rfl, Nat.le_of_ble_eq_true rfl⟩ hl.1 rfl rfl (Nat.le_of_ble_eq_true rfl) dX0_dateOfNumber_8 ?_
  refine lv_lsub hx hb dX0_dateOfNumber_11 ?_
  refine lv_l2i hx hb dX0_dateOfNumber_12 rfl ?_
  refine lv_iconst (v := 1) hx hb dX0_dateOfNumber_13 (by decide) ?_
  refine lv_iadd hx hb dX0_dateOfNumber_14 ?_
  refine pc_S hC (c_X0_dateOfYearDay l (m_X0_yearOfNumber p0) (((p0 - (m_X0_firstNumberOf (m_X0_yearOfNumber p0))).toInt32) + (1 : Int32))) (gS w_205 w_206 w_26 w_207) kk_X0_dateOfYearDay ⟨Nat.le_of_ble_eq_true rfl, Nat.le_of_ble_eq_true rfl⟩ ⟨Nat.le_of_ble_eq_true rfl, Nat.le_of_ble_eq_true rfl⟩ hl.1 rfl rfl (Nat.le_of_ble_eq_true rfl) dX0_dateOfNumber_15 ?_
  have hm : m_X0_dateOfNumber p0 = m_X0_dateOfYearDay (m_X0_yearOfNumber p0) (((p0 - (m_X0_firstNumberOf (m_X0_yearOfNumber p0))).toInt32) + (1 : Int32)) := hm
  exact W.lret (v := m_X0_dateOfYearDay (m_X0_yearOfNumber p0) (((p0 - (m_X0_firstNumberOf (m_X0_yearOfNumber p0))).toInt32) + (1 : Int32))) hx hb hr (fun t ht _ => ⟨by rw [hm], ht⟩) (fun _ h => absurd h List.not_mem_nil) dX0_dateOfNumber_18
def m_X0_dayInWeek (p0 : Int32) : Int32 := (m_J9_floorMod_7cf53 (p0 + (3 : Int32)) (7 : Int32)) + (1 : Int32)
theorem kk_X0_dayInWeek : pK yX0_dayInWeek wsX0_dayInWeek cX0_dayInWeek 1 (some .int) 1 := ⟨⟨_, rfl⟩, by decide +kernel, by decide +kernel, by decide +kernel⟩
set_option maxRecDepth 100000 in
set_option maxHeartbeats 4000000 in
theorem c_X0_dayInWeek (l : Launch) (p0 : Int32) : pM l yX0_dayInWeek wsX0_dayInWeek 1 22 [.int p0] (.int (m_X0_dayInWeek p0)) := by
  refine Met.ofW (cc := cX0_dayInWeek) (maxL := 1) (ret := (some .int)) (by decide) rfl ?_
  intro p e s m args below meth c s₁ B hml hv
  subst hv
  have hx := B.exec
  have hb := B.bytes
  have hr := B.returns
  have hts := atoms_spec (ws := wsX0_dayInWeek) B.pre
  have hown : s.vm.findClass RX0 = some m.cls := findClass_of_methodNamed B.named
  have hlocks := B.notSynchronized
  have htg : ∀ w ∈ GL, w.before _ s = true := fun w h => hts w (List.mem_cons_of_mem _ h)
  have hC : CallFix p m c cX0_dayInWeek 1 s _ wsX0_dayInWeek RX0 := ⟨hx, hb, hml, hown, hts⟩
  have hl := lv_entry ([.int p0]) (n := 1) (Nat.le_of_ble_eq_true rfl)
  rw [lg_entry_eq]
  generalize (lg_sl ([.int p0]) ++ List.replicate (1 - (lg_sl ([.int p0])).length) Slot.unset).toArray = ls at hl ⊢
  have hl : lv_has ls 1 [(0, .int p0)] := hl
  have hm : m_X0_dayInWeek p0 = m_X0_dayInWeek p0 := rfl
  refine lv_iload_n hx hb dX0_dayInWeek_0 rfl (lv_at hl 0 rfl) ?_
  refine lv_iconst (v := 3) hx hb dX0_dayInWeek_1 (by decide) ?_
  refine lv_iadd hx hb dX0_dayInWeek_2 ?_
  refine lv_bipush (v := 7) hx hb dX0_dayInWeek_3 (by decide) ?_
  refine pc_S hC (c_J9_floorMod_7cf53 l (p0 + (3 : Int32)) (7 : Int32) (by decide)) (gS w_273 w_274 w_36 w_275) kk_J9_floorMod_7cf53 ⟨Nat.le_of_ble_eq_true rfl, Nat.le_of_ble_eq_true rfl⟩ ⟨Nat.le_of_ble_eq_true rfl, Nat.le_of_ble_eq_true rfl⟩ hl.1 rfl rfl (Nat.le_of_ble_eq_true rfl) dX0_dayInWeek_5 ?_
  refine lv_iconst (v := 1) hx hb dX0_dayInWeek_8 (by decide) ?_
  refine lv_iadd hx hb dX0_dayInWeek_9 ?_
  have hm : m_X0_dayInWeek p0 = (m_J9_floorMod_7cf53 (p0 + (3 : Int32)) (7 : Int32)) + (1 : Int32) := hm
  exact W.iret (v := (m_J9_floorMod_7cf53 (p0 + (3 : Int32)) (7 : Int32)) + (1 : Int32)) hx hb hr (fun t ht _ => ⟨by rw [hm], ht⟩) (fun _ h => absurd h List.not_mem_nil) dX0_dayInWeek_10
def m_X0_placeInRound (p0 : Int32) : Int32 := ((p0 - (1 : Int32)) - (p0 - (1 : Int32)) / (7 : Int32) * (7 : Int32)) + (1 : Int32)
theorem kk_X0_placeInRound : pK yX0_placeInRound wsX0_placeInRound cX0_placeInRound 1 (some .int) 1 := ⟨⟨_, rfl⟩, by decide +kernel, by decide +kernel, by decide +kernel⟩
set_option maxRecDepth 100000 in
set_option maxHeartbeats 4000000 in
theorem c_X0_placeInRound (l : Launch) (p0 : Int32) : pM l yX0_placeInRound wsX0_placeInRound 0 0 [.int p0] (.int (m_X0_placeInRound p0)) := by
  refine Met.ofW (cc := cX0_placeInRound) (maxL := 1) (ret := (some .int)) (by decide) rfl ?_
  intro p e s m args below meth c s₁ B hml hv
  subst hv
  have hx := B.exec
  have hb := B.bytes
  have hr := B.returns
  have hts := atoms_spec (ws := wsX0_placeInRound) B.pre
  have hown : s.vm.findClass RX0 = some m.cls := findClass_of_methodNamed B.named
  have hlocks := B.notSynchronized
  have htg : ∀ w ∈ GL, w.before _ s = true := fun w h => hts w (List.mem_cons_of_mem _ h)
  have hC : CallFix p m c cX0_placeInRound 1 s _ wsX0_placeInRound RX0 := ⟨hx, hb, hml, hown, hts⟩
  have hl := lv_entry ([.int p0]) (n := 1) (Nat.le_of_ble_eq_true rfl)
  rw [lg_entry_eq]
  generalize (lg_sl ([.int p0]) ++ List.replicate (1 - (lg_sl ([.int p0])).length) Slot.unset).toArray = ls at hl ⊢
  have hl : lv_has ls 1 [(0, .int p0)] := hl
  have hm : m_X0_placeInRound p0 = m_X0_placeInRound p0 := rfl
  refine lv_iload_n hx hb dX0_placeInRound_0 rfl (lv_at hl 0 rfl) ?_
  refine lv_iconst (v := 1) hx hb dX0_placeInRound_1 (by decide) ?_
  refine lv_isub hx hb dX0_placeInRound_2 ?_
  refine lv_bipush (v := 7) hx hb dX0_placeInRound_3 (by decide) ?_
  refine lv_irem hx hb dX0_placeInRound_5 (by decide) ?_
  refine lv_iconst (v := 1) hx hb dX0_placeInRound_6 (by decide) ?_
  refine lv_iadd hx hb dX0_placeInRound_7 ?_
  have hm : m_X0_placeInRound p0 = ((p0 - (1 : Int32)) - (p0 - (1 : Int32)) / (7 : Int32) * (7 : Int32)) + (1 : Int32) := hm
  exact W.iret (v := ((p0 - (1 : Int32)) - (p0 - (1 : Int32)) / (7 : Int32) * (7 : Int32)) + (1 : Int32)) hx hb hr (fun t ht _ => ⟨by rw [hm], ht⟩) (fun _ h => absurd h List.not_mem_nil) dX0_placeInRound_8
def m_X0_roundOf (p0 : Int32) : Int32 := ((p0 - (1 : Int32)) / (7 : Int32)) + (1 : Int32)
theorem kk_X0_roundOf : pK yX0_roundOf wsX0_roundOf cX0_roundOf 1 (some .int) 1 := ⟨⟨_, rfl⟩, by decide +kernel, by decide +kernel, by decide +kernel⟩
set_option maxRecDepth 100000 in
set_option maxHeartbeats 4000000 in
theorem c_X0_roundOf (l : Launch) (p0 : Int32) : pM l yX0_roundOf wsX0_roundOf 0 0 [.int p0] (.int (m_X0_roundOf p0)) := by
  refine Met.ofW (cc := cX0_roundOf) (maxL := 1) (ret := (some .int)) (by decide) rfl ?_
  intro p e s m args below meth c s₁ B hml hv
  subst hv
  have hx := B.exec
  have hb := B.bytes
  have hr := B.returns
  have hts := atoms_spec (ws := wsX0_roundOf) B.pre
  have hown : s.vm.findClass RX0 = some m.cls := findClass_of_methodNamed B.named
  have hlocks := B.notSynchronized
  have htg : ∀ w ∈ GL, w.before _ s = true := fun w h => hts w (List.mem_cons_of_mem _ h)
  have hC : CallFix p m c cX0_roundOf 1 s _ wsX0_roundOf RX0 := ⟨hx, hb, hml, hown, hts⟩
  have hl := lv_entry ([.int p0]) (n := 1) (Nat.le_of_ble_eq_true rfl)
  rw [lg_entry_eq]
  generalize (lg_sl ([.int p0]) ++ List.replicate (1 - (lg_sl ([.int p0])).length) Slot.unset).toArray = ls at hl ⊢
  have hl : lv_has ls 1 [(0, .int p0)] := hl
  have hm : m_X0_roundOf p0 = m_X0_roundOf p0 := rfl
  refine lv_iload_n hx hb dX0_roundOf_0 rfl (lv_at hl 0 rfl) ?_
  refine lv_iconst (v := 1) hx hb dX0_roundOf_1 (by decide) ?_
  refine lv_isub hx hb dX0_roundOf_2 ?_
  refine lv_bipush (v := 7) hx hb dX0_roundOf_3 (by decide) ?_
  refine lv_idiv hx hb dX0_roundOf_5 (by decide) ?_
  refine lv_iconst (v := 1) hx hb dX0_roundOf_6 (by decide) ?_
  refine lv_iadd hx hb dX0_roundOf_7 ?_
  have hm : m_X0_roundOf p0 = ((p0 - (1 : Int32)) / (7 : Int32)) + (1 : Int32) := hm
  exact W.iret (v := ((p0 - (1 : Int32)) / (7 : Int32)) + (1 : Int32)) hx hb hr (fun t ht _ => ⟨by rw [hm], ht⟩) (fun _ h => absurd h List.not_mem_nil) dX0_roundOf_8
def m_X0_yearOfEra (p0 : Int32) : Int32 := (if p0 < (1 : Int32) then (1 : Int32) - p0 else p0)
theorem kk_X0_yearOfEra : pK yX0_yearOfEra wsX0_yearOfEra cX0_yearOfEra 1 (some .int) 1 := ⟨⟨_, rfl⟩, by decide +kernel, by decide +kernel, by decide +kernel⟩
set_option maxRecDepth 100000 in
set_option maxHeartbeats 4000000 in
theorem c_X0_yearOfEra (l : Launch) (p0 : Int32) : pM l yX0_yearOfEra wsX0_yearOfEra 0 0 [.int p0] (.int (m_X0_yearOfEra p0)) := by
  refine Met.ofW (cc := cX0_yearOfEra) (maxL := 1) (ret := (some .int)) (by decide) rfl ?_
  intro p e s m args below meth c s₁ B hml hv
  subst hv
  have hx := B.exec
  have hb := B.bytes
  have hr := B.returns
  have hts := atoms_spec (ws := wsX0_yearOfEra) B.pre
  have hown : s.vm.findClass RX0 = some m.cls := findClass_of_methodNamed B.named
  have hlocks := B.notSynchronized
  have htg : ∀ w ∈ GL, w.before _ s = true := fun w h => hts w (List.mem_cons_of_mem _ h)
  have hC : CallFix p m c cX0_yearOfEra 1 s _ wsX0_yearOfEra RX0 := ⟨hx, hb, hml, hown, hts⟩
  have hl := lv_entry ([.int p0]) (n := 1) (Nat.le_of_ble_eq_true rfl)
  rw [lg_entry_eq]
  generalize (lg_sl ([.int p0]) ++ List.replicate (1 - (lg_sl ([.int p0])).length) Slot.unset).toArray = ls at hl ⊢
  have hl : lv_has ls 1 [(0, .int p0)] := hl
  have hm : m_X0_yearOfEra p0 = m_X0_yearOfEra p0 := rfl
  refine lv_iload_n hx hb dX0_yearOfEra_0 rfl (lv_at hl 0 rfl) ?_
  refine lv_iconst (v := 1) hx hb dX0_yearOfEra_1 (by decide) ?_
  refine lv_icmp_lt (tgt := 9) hx hb dX0_yearOfEra_2 (by decide) (fun h_1 => ?_) (fun h_1 => ?_)
  · have hm := hm.trans (if_pos h_1)
    refine lv_iconst (v := 1) hx hb dX0_yearOfEra_9 (by decide) ?_
    refine lv_iload_n hx hb dX0_yearOfEra_10 rfl (lv_at hl 0 rfl) ?_
    refine lv_isub hx hb dX0_yearOfEra_11 ?_
    have hm : m_X0_yearOfEra p0 = (1 : Int32) - p0 := hm
    exact W.iret (v := (1 : Int32) - p0) hx hb hr (fun t ht _ => ⟨by rw [hm], ht⟩) (fun _ h => absurd h List.not_mem_nil) dX0_yearOfEra_12
  · have hm := hm.trans (if_neg h_1)
    refine lv_iload_n hx hb dX0_yearOfEra_5 rfl (lv_at hl 0 rfl) ?_
    refine lv_goto (tgt := 12) hx hb dX0_yearOfEra_6 (by decide) ?_
    have hm : m_X0_yearOfEra p0 = p0 := hm
    exact W.iret (v := p0) hx hb hr (fun t ht _ => ⟨by rw [hm], ht⟩) (fun _ h => absurd h List.not_mem_nil) dX0_yearOfEra_12
def m_X0_daysLater (p0 : Int64) (p1 : Int64) : Int64 := m_X0_dateOfNumber ((m_X0_numberOf p0) + p1)
theorem kk_X0_daysLater : pK yX0_daysLater wsX0_daysLater cX0_daysLater 4 (some .long) 2 := ⟨⟨_, rfl⟩, by decide +kernel, by decide +kernel, by decide +kernel⟩
set_option maxRecDepth 100000 in
set_option maxHeartbeats 4000000 in
theorem c_X0_daysLater (l : Launch) (p0 : Int64) (p1 : Int64) : pM l yX0_daysLater wsX0_daysLater 4 96 [.long p0, .long p1] (.long (m_X0_daysLater p0 p1)) := by
  refine Met.ofW (cc := cX0_daysLater) (maxL := 4) (ret := (some .long)) (by decide) rfl ?_
  intro p e s m args below meth c s₁ B hml hv
  subst hv
  have hx := B.exec
  have hb := B.bytes
  have hr := B.returns
  have hts := atoms_spec (ws := wsX0_daysLater) B.pre
  have hown : s.vm.findClass RX0 = some m.cls := findClass_of_methodNamed B.named
  have hlocks := B.notSynchronized
  have htg : ∀ w ∈ GL, w.before _ s = true := fun w h => hts w (List.mem_cons_of_mem _ h)
  have hC : CallFix p m c cX0_daysLater 4 s _ wsX0_daysLater RX0 := ⟨hx, hb, hml, hown, hts⟩
  have hl := lv_entry ([.long p0, .long p1]) (n := 4) (Nat.le_of_ble_eq_true rfl)
  rw [lg_entry_eq]
  generalize (lg_sl ([.long p0, .long p1]) ++ List.replicate (4 - (lg_sl ([.long p0, .long p1])).length) Slot.unset).toArray = ls at hl ⊢
  have hl : lv_has ls 4 [(0, .long p0), (2, .long p1)] := hl
  have hm : m_X0_daysLater p0 p1 = m_X0_daysLater p0 p1 := rfl
  refine lv_lload_n hx hb dX0_daysLater_0 rfl (lv_at hl 0 rfl) ?_
  refine pc_S hC (c_X0_numberOf l p0) (gS w_165 w_166 w_26 w_167) kk_X0_numberOf ⟨Nat.le_of_ble_eq_true rfl, Nat.le_of_ble_eq_true rfl⟩ ⟨Nat.le_of_ble_eq_true rfl, Nat.le_of_ble_eq_true rfl⟩ hl.1 rfl rfl (Nat.le_of_ble_eq_true rfl) dX0_daysLater_1 ?_
  refine lv_lload_n hx hb dX0_daysLater_4 rfl (lv_at hl 1 rfl) ?_
  refine lv_ladd hx hb dX0_daysLater_5 ?_
  refine pc_S hC (c_X0_dateOfNumber l ((m_X0_numberOf p0) + p1)) (gS w_198 w_199 w_26 w_200) kk_X0_dateOfNumber ⟨Nat.le_of_ble_eq_true rfl, Nat.le_of_ble_eq_true rfl⟩ ⟨Nat.le_of_ble_eq_true rfl, Nat.le_of_ble_eq_true rfl⟩ hl.1 rfl rfl (Nat.le_of_ble_eq_true rfl) dX0_daysLater_6 ?_
  have hm : m_X0_daysLater p0 p1 = m_X0_dateOfNumber ((m_X0_numberOf p0) + p1) := hm
  exact W.lret (v := m_X0_dateOfNumber ((m_X0_numberOf p0) + p1)) hx hb hr (fun t ht _ => ⟨by rw [hm], ht⟩) (fun _ h => absurd h List.not_mem_nil) dX0_daysLater_9
def m_X0_monthsLater (p0 : Int64) (p1 : Int64) : Int64 := m_X0_fittedDate (m_J9_floorDiv_f86c9 (((((12 : Int64) * (m_X0_yearIn p0)) + ((m_X0_monthIn p0).toInt64)) - (1 : Int64)) + p1) (12 : Int64)) (((m_J9_floorMod_f86c9 (((((12 : Int64) * (m_X0_yearIn p0)) + ((m_X0_monthIn p0).toInt64)) - (1 : Int64)) + p1) (12 : Int64)).toInt32) + (1 : Int32)) (m_X0_dayIn p0)
theorem kk_X0_monthsLater : pK yX0_monthsLater wsX0_monthsLater cX0_monthsLater 6 (some .long) 2 := ⟨⟨_, rfl⟩, by decide +kernel, by decide +kernel, by decide +kernel⟩
set_option maxRecDepth 100000 in
set_option maxHeartbeats 4000000 in
theorem c_X0_monthsLater (l : Launch) (p0 : Int64) (p1 : Int64) : pM l yX0_monthsLater wsX0_monthsLater 2 63 [.long p0, .long p1] (.long (m_X0_monthsLater p0 p1)) := by
  refine Met.ofW (cc := cX0_monthsLater) (maxL := 6) (ret := (some .long)) (by decide) rfl ?_
  intro p e s m args below meth c s₁ B hml hv
  subst hv
  have hx := B.exec
  have hb := B.bytes
  have hr := B.returns
  have hts := atoms_spec (ws := wsX0_monthsLater) B.pre
  have hown : s.vm.findClass RX0 = some m.cls := findClass_of_methodNamed B.named
  have hlocks := B.notSynchronized
  have htg : ∀ w ∈ GL, w.before _ s = true := fun w h => hts w (List.mem_cons_of_mem _ h)
  have hC : CallFix p m c cX0_monthsLater 6 s _ wsX0_monthsLater RX0 := ⟨hx, hb, hml, hown, hts⟩
  have hl := lv_entry ([.long p0, .long p1]) (n := 6) (Nat.le_of_ble_eq_true rfl)
  rw [lg_entry_eq]
  generalize (lg_sl ([.long p0, .long p1]) ++ List.replicate (6 - (lg_sl ([.long p0, .long p1])).length) Slot.unset).toArray = ls at hl ⊢
  have hl : lv_has ls 6 [(0, .long p0), (2, .long p1)] := hl
  have hm : m_X0_monthsLater p0 p1 = m_X0_monthsLater p0 p1 := rfl
  refine lv_ldc2 hx hb hown (htg _ w_227) dX0_monthsLater_0 ?_
  refine lv_lload_n hx hb dX0_monthsLater_3 rfl (lv_at hl 0 rfl) ?_
  refine pc_S hC (c_X0_yearIn l p0) (gS w_168 w_169 w_26 w_170) kk_X0_yearIn ⟨Nat.le_of_ble_eq_true rfl, Nat.le_of_ble_eq_true rfl⟩ ⟨Nat.le_of_ble_eq_true rfl, Nat.le_of_ble_eq_true rfl⟩ hl.1 rfl rfl (Nat.le_of_ble_eq_true rfl) dX0_monthsLater_4 ?_
  refine lv_lmul hx hb dX0_monthsLater_7 ?_
  refine lv_lload_n hx hb dX0_monthsLater_8 rfl (lv_at hl 0 rfl) ?_
  refine pc_S hC (c_X0_monthIn l p0) (gS w_192 w_193 w_26 w_194) kk_X0_monthIn ⟨Nat.le_of_ble_eq_true rfl, Nat.le_of_ble_eq_true rfl⟩ ⟨Nat.le_of_ble_eq_true rfl, Nat.le_of_ble_eq_true rfl⟩ hl.1 rfl rfl (Nat.le_of_ble_eq_true rfl) dX0_monthsLater_9 ?_
  refine lv_i2l hx hb dX0_monthsLater_12 rfl ?_
  refine lv_ladd hx hb dX0_monthsLater_13 ?_
  refine lv_lconst (v := 1) hx hb dX0_monthsLater_14 (by decide) ?_
  refine lv_lsub hx hb dX0_monthsLater_15 ?_
  refine lv_lload_n hx hb dX0_monthsLater_16 rfl (lv_at hl 1 rfl) ?_
  refine lv_ladd hx hb dX0_monthsLater_17 ?_
  refine lv_lstore (lv' := [(4, .long (((((12 : Int64) * (m_X0_yearIn p0)) + ((m_X0_monthIn p0).toInt64)) - (1 : Int64)) + p1)), (0, .long p0), (2, .long p1)]) hx hb dX0_monthsLater_18 hl (by decide) rfl (fun ls hl => ?_)
  refine lv_lload hx hb dX0_monthsLater_20 (lv_at hl 0 rfl) ?_
  refine lv_ldc2 hx hb hown (htg _ w_227) dX0_monthsLater_22 ?_
  refine pc_S hC (c_J9_floorDiv_f86c9 l (((((12 : Int64) * (m_X0_yearIn p0)) + ((m_X0_monthIn p0).toInt64)) - (1 : Int64)) + p1) (12 : Int64) (by decide)) (gS w_175 w_176 w_36 w_177) kk_J9_floorDiv_f86c9 ⟨Nat.le_of_ble_eq_true rfl, Nat.le_of_ble_eq_true rfl⟩ ⟨Nat.le_of_ble_eq_true rfl, Nat.le_of_ble_eq_true rfl⟩ hl.1 rfl rfl (Nat.le_of_ble_eq_true rfl) dX0_monthsLater_25 ?_
  refine lv_lload hx hb dX0_monthsLater_28 (lv_at hl 0 rfl) ?_
  refine lv_ldc2 hx hb hown (htg _ w_227) dX0_monthsLater_30 ?_
  refine pc_S hC (c_J9_floorMod_f86c9 l (((((12 : Int64) * (m_X0_yearIn p0)) + ((m_X0_monthIn p0).toInt64)) - (1 : Int64)) + p1) (12 : Int64) (by decide)) (gS w_228 w_229 w_36 w_230) kk_J9_floorMod_f86c9 ⟨Nat.le_of_ble_eq_true rfl, Nat.le_of_ble_eq_true rfl⟩ ⟨Nat.le_of_ble_eq_true rfl, Nat.le_of_ble_eq_true rfl⟩ hl.1 rfl rfl (Nat.le_of_ble_eq_true rfl) dX0_monthsLater_33 ?_
  refine lv_l2i hx hb dX0_monthsLater_36 rfl ?_
  refine lv_iconst (v := 1) hx hb dX0_monthsLater_37 (by decide) ?_
  refine lv_iadd hx hb dX0_monthsLater_38 ?_
  refine lv_lload_n hx hb dX0_monthsLater_39 rfl (lv_at hl 1 rfl) ?_
  refine pc_S hC (c_X0_dayIn l p0) (gS w_189 w_190 w_26 w_191) kk_X0_dayIn ⟨Nat.le_of_ble_eq_true rfl, Nat.le_of_ble_eq_true rfl⟩ ⟨Nat.le_of_ble_eq_true rfl, Nat.le_of_ble_eq_true rfl⟩ hl.1 rfl rfl (Nat.le_of_ble_eq_true rfl) dX0_monthsLater_40 ?_
  refine pc_S hC (c_X0_fittedDate l (m_J9_floorDiv_f86c9 (((((12 : Int64) * (m_X0_yearIn p0)) + ((m_X0_monthIn p0).toInt64)) - (1 : Int64)) + p1) (12 : Int64)) (((m_J9_floorMod_f86c9 (((((12 : Int64) * (m_X0_yearIn p0)) + ((m_X0_monthIn p0).toInt64)) - (1 : Int64)) + p1) (12 : Int64)).toInt32) + (1 : Int32)) (m_X0_dayIn p0)) (gS w_211 w_212 w_26 w_213) kk_X0_fittedDate ⟨Nat.le_of_ble_eq_true rfl, Nat.le_of_ble_eq_true rfl⟩ ⟨Nat.le_of_ble_eq_true rfl, Nat.le_of_ble_eq_true rfl⟩ hl.1 rfl rfl (Nat.le_of_ble_eq_true rfl) dX0_monthsLater_43 ?_
  have hm : m_X0_monthsLater p0 p1 = m_X0_fittedDate (m_J9_floorDiv_f86c9 (((((12 : Int64) * (m_X0_yearIn p0)) + ((m_X0_monthIn p0).toInt64)) - (1 : Int64)) + p1) (12 : Int64)) (((m_J9_floorMod_f86c9 (((((12 : Int64) * (m_X0_yearIn p0)) + ((m_X0_monthIn p0).toInt64)) - (1 : Int64)) + p1) (12 : Int64)).toInt32) + (1 : Int32)) (m_X0_dayIn p0) := hm
  exact W.lret (v := m_X0_fittedDate (m_J9_floorDiv_f86c9 (((((12 : Int64) * (m_X0_yearIn p0)) + ((m_X0_monthIn p0).toInt64)) - (1 : Int64)) + p1) (12 : Int64)) (((m_J9_floorMod_f86c9 (((((12 : Int64) * (m_X0_yearIn p0)) + ((m_X0_monthIn p0).toInt64)) - (1 : Int64)) + p1) (12 : Int64)).toInt32) + (1 : Int32)) (m_X0_dayIn p0)) hx hb hr (fun t ht _ => ⟨by rw [hm], ht⟩) (fun _ h => absurd h List.not_mem_nil) dX0_monthsLater_46
def m_X0_unitsLater (p0 : Int64) (p1 : Int32) (p2 : Int32) : Int64 := (if p1 = 0 then m_X0_daysLater p0 p2.toInt64 else (if p1 = 1 then m_X0_daysLater p0 ((7 : Int64) * p2.toInt64) else (if p1 = 2 then m_X0_monthsLater p0 p2.toInt64 else (if p1 = 3 then m_X0_monthsLater p0 ((12 : Int64) * p2.toInt64) else (if p1 = 4 then m_X0_monthsLater p0 ((120 : Int64) * p2.toInt64) else (if p1 = 5 then m_X0_monthsLater p0 ((1200 : Int64) * p2.toInt64) else m_X0_monthsLater p0 ((12000 : Int64) * p2.toInt64)))))))
theorem kk_X0_unitsLater : pK yX0_unitsLater wsX0_unitsLater cX0_unitsLater 4 (some .long) 3 := ⟨⟨_, rfl⟩, by decide +kernel, by decide +kernel, by decide +kernel⟩
set_option maxRecDepth 100000 in
set_option maxHeartbeats 4000000 in
theorem c_X0_unitsLater (l : Launch) (p0 : Int64) (p1 : Int32) (p2 : Int32) : pM l yX0_unitsLater wsX0_unitsLater 5 119 [.long p0, .int p1, .int p2] (.long (m_X0_unitsLater p0 p1 p2)) := by
  refine Met.ofW (cc := cX0_unitsLater) (maxL := 4) (ret := (some .long)) (by decide) rfl ?_
  intro p e s m args below meth c s₁ B hml hv
  subst hv
  have hx := B.exec
  have hb := B.bytes
  have hr := B.returns
  have hts := atoms_spec (ws := wsX0_unitsLater) B.pre
  have hown : s.vm.findClass RX0 = some m.cls := findClass_of_methodNamed B.named
  have hlocks := B.notSynchronized
  have htg : ∀ w ∈ GL, w.before _ s = true := fun w h => hts w (List.mem_cons_of_mem _ h)
  have hC : CallFix p m c cX0_unitsLater 4 s _ wsX0_unitsLater RX0 := ⟨hx, hb, hml, hown, hts⟩
  have hl := lv_entry ([.long p0, .int p1, .int p2]) (n := 4) (Nat.le_of_ble_eq_true rfl)
  rw [lg_entry_eq]
  generalize (lg_sl ([.long p0, .int p1, .int p2]) ++ List.replicate (4 - (lg_sl ([.long p0, .int p1, .int p2])).length) Slot.unset).toArray = ls at hl ⊢
  have hl : lv_has ls 4 [(0, .long p0), (2, .int p1), (3, .int p2)] := hl
  have hm : m_X0_unitsLater p0 p1 p2 = m_X0_unitsLater p0 p1 p2 := rfl
  refine lv_iload_n hx hb dX0_unitsLater_0 rfl (lv_at hl 1 rfl) ?_
  by_cases h_1 : p1 = 0
  · have hm := hm.trans (if_pos h_1)
    refine lv_tableIn (off := 39) (tgt := 40) hx hb dX0_unitsLater_1 (by rw [h_1]; decide) (by rw [h_1]; decide) (by rw [h_1]; rfl) (by decide) ?_
    refine lv_lload_n hx hb dX0_unitsLater_40 rfl (lv_at hl 0 rfl) ?_
    refine lv_iload_n hx hb dX0_unitsLater_41 rfl (lv_at hl 2 rfl) ?_
    refine lv_i2l hx hb dX0_unitsLater_42 rfl ?_
    refine pc_S hC (c_X0_daysLater l p0 p2.toInt64) (gS w_162 w_163 w_26 w_164) kk_X0_daysLater ⟨Nat.le_of_ble_eq_true rfl, Nat.le_of_ble_eq_true rfl⟩ ⟨Nat.le_of_ble_eq_true rfl, Nat.le_of_ble_eq_true rfl⟩ hl.1 rfl rfl (Nat.le_of_ble_eq_true rfl) dX0_unitsLater_43 ?_
    have hm : m_X0_unitsLater p0 p1 p2 = m_X0_daysLater p0 p2.toInt64 := hm
    exact W.lret (v := m_X0_daysLater p0 p2.toInt64) hx hb hr (fun t ht _ => ⟨by rw [hm], ht⟩) (fun _ h => absurd h List.not_mem_nil) dX0_unitsLater_46
  · have hm := hm.trans (if_neg h_1)
    by_cases h_2 : p1 = 1
    · have hm := hm.trans (if_pos h_2)
      refine lv_tableIn (off := 46) (tgt := 47) hx hb dX0_unitsLater_1 (by rw [h_2]; decide) (by rw [h_2]; decide) (by rw [h_2]; rfl) (by decide) ?_
      refine lv_lload_n hx hb dX0_unitsLater_47 rfl (lv_at hl 0 rfl) ?_
      refine lv_ldc2 hx hb hown (htg _ w_760) dX0_unitsLater_48 ?_
      refine lv_iload_n hx hb dX0_unitsLater_51 rfl (lv_at hl 2 rfl) ?_
      refine lv_i2l hx hb dX0_unitsLater_52 rfl ?_
      refine lv_lmul hx hb dX0_unitsLater_53 ?_
      refine pc_S hC (c_X0_daysLater l p0 ((7 : Int64) * p2.toInt64)) (gS w_162 w_163 w_26 w_164) kk_X0_daysLater ⟨Nat.le_of_ble_eq_true rfl, Nat.le_of_ble_eq_true rfl⟩ ⟨Nat.le_of_ble_eq_true rfl, Nat.le_of_ble_eq_true rfl⟩ hl.1 rfl rfl (Nat.le_of_ble_eq_true rfl) dX0_unitsLater_54 ?_
      have hm : m_X0_unitsLater p0 p1 p2 = m_X0_daysLater p0 ((7 : Int64) * p2.toInt64) := hm
      exact W.lret (v := m_X0_daysLater p0 ((7 : Int64) * p2.toInt64)) hx hb hr (fun t ht _ => ⟨by rw [hm], ht⟩) (fun _ h => absurd h List.not_mem_nil) dX0_unitsLater_57
    · have hm := hm.trans (if_neg h_2)
      by_cases h_3 : p1 = 2
      · have hm := hm.trans (if_pos h_3)
        refine lv_tableIn (off := 57) (tgt := 58) hx hb dX0_unitsLater_1 (by rw [h_3]; decide) (by rw [h_3]; decide) (by rw [h_3]; rfl) (by decide) ?_
        refine lv_lload_n hx hb dX0_unitsLater_58 rfl (lv_at hl 0 rfl) ?_
        refine lv_iload_n hx hb dX0_unitsLater_59 rfl (lv_at hl 2 rfl) ?_
        refine lv_i2l hx hb dX0_unitsLater_60 rfl ?_
        refine pc_S hC (c_X0_monthsLater l p0 p2.toInt64) (gS w_224 w_225 w_26 w_226) kk_X0_monthsLater ⟨Nat.le_of_ble_eq_true rfl, Nat.le_of_ble_eq_true rfl⟩ ⟨Nat.le_of_ble_eq_true rfl, Nat.le_of_ble_eq_true rfl⟩ hl.1 rfl rfl (Nat.le_of_ble_eq_true rfl) dX0_unitsLater_61 ?_
        have hm : m_X0_unitsLater p0 p1 p2 = m_X0_monthsLater p0 p2.toInt64 := hm
        exact W.lret (v := m_X0_monthsLater p0 p2.toInt64) hx hb hr (fun t ht _ => ⟨by rw [hm], ht⟩) (fun _ h => absurd h List.not_mem_nil) dX0_unitsLater_64
      · have hm := hm.trans (if_neg h_3)
        by_cases h_4 : p1 = 3
        · have hm := hm.trans (if_pos h_4)
          refine lv_tableIn (off := 64) (tgt := 65) hx hb dX0_unitsLater_1 (by rw [h_4]; decide) (by rw [h_4]; decide) (by rw [h_4]; rfl) (by decide) ?_
          refine lv_lload_n hx hb dX0_unitsLater_65 rfl (lv_at hl 0 rfl) ?_
          refine lv_ldc2 hx hb hown (htg _ w_227) dX0_unitsLater_66 ?_
          refine lv_iload_n hx hb dX0_unitsLater_69 rfl (lv_at hl 2 rfl) ?_
          refine lv_i2l hx hb dX0_unitsLater_70 rfl ?_
          refine lv_lmul hx hb dX0_unitsLater_71 ?_
          refine pc_S hC (c_X0_monthsLater l p0 ((12 : Int64) * p2.toInt64)) (gS w_224 w_225 w_26 w_226) kk_X0_monthsLater ⟨Nat.le_of_ble_eq_true rfl, Nat.le_of_ble_eq_true rfl⟩ ⟨Nat.le_of_ble_eq_true rfl, Nat.le_of_ble_eq_true rfl⟩ hl.1 rfl rfl (Nat.le_of_ble_eq_true rfl) dX0_unitsLater_72 ?_
          have hm : m_X0_unitsLater p0 p1 p2 = m_X0_monthsLater p0 ((12 : Int64) * p2.toInt64) := hm
          exact W.lret (v := m_X0_monthsLater p0 ((12 : Int64) * p2.toInt64)) hx hb hr (fun t ht _ => ⟨by rw [hm], ht⟩) (fun _ h => absurd h List.not_mem_nil) dX0_unitsLater_75
        · have hm := hm.trans (if_neg h_4)
          by_cases h_5 : p1 = 4
          · have hm := hm.trans (if_pos h_5)
            refine lv_tableIn (off := 75) (tgt := 76) hx hb dX0_unitsLater_1 (by rw [h_5]; decide) (by rw [h_5]; decide) (by rw [h_5]; rfl) (by decide) ?_
            refine lv_lload_n hx hb dX0_unitsLater_76 rfl (lv_at hl 0 rfl) ?_
            refine lv_ldc2 hx hb hown (htg _ w_761) dX0_unitsLater_77 ?_
            refine lv_iload_n hx hb dX0_unitsLater_80 rfl (lv_at hl 2 rfl) ?_
            refine lv_i2l hx hb dX0_unitsLater_81 rfl ?_
            refine lv_lmul hx hb dX0_unitsLater_82 ?_
            refine pc_S hC (c_X0_monthsLater l p0 ((120 : Int64) * p2.toInt64)) (gS w_224 w_225 w_26 w_226) kk_X0_monthsLater ⟨Nat.le_of_ble_eq_true rfl, Nat.le_of_ble_eq_true rfl⟩ ⟨Nat.le_of_ble_eq_true rfl, Nat.le_of_ble_eq_true rfl⟩ hl.1 rfl rfl (Nat.le_of_ble_eq_true rfl) dX0_unitsLater_83 ?_
            have hm : m_X0_unitsLater p0 p1 p2 = m_X0_monthsLater p0 ((120 : Int64) * p2.toInt64) := hm
            exact W.lret (v := m_X0_monthsLater p0 ((120 : Int64) * p2.toInt64)) hx hb hr (fun t ht _ => ⟨by rw [hm], ht⟩) (fun _ h => absurd h List.not_mem_nil) dX0_unitsLater_86
          · have hm := hm.trans (if_neg h_5)
            by_cases h_6 : p1 = 5
            · have hm := hm.trans (if_pos h_6)
              refine lv_tableIn (off := 86) (tgt := 87) hx hb dX0_unitsLater_1 (by rw [h_6]; decide) (by rw [h_6]; decide) (by rw [h_6]; rfl) (by decide) ?_
              refine lv_lload_n hx hb dX0_unitsLater_87 rfl (lv_at hl 0 rfl) ?_
              refine lv_ldc2 hx hb hown (htg _ w_762) dX0_unitsLater_88 ?_
              refine lv_iload_n hx hb dX0_unitsLater_91 rfl (lv_at hl 2 rfl) ?_
              refine lv_i2l hx hb dX0_unitsLater_92 rfl ?_
              refine lv_lmul hx hb dX0_unitsLater_93 ?_
              refine pc_S hC (c_X0_monthsLater l p0 ((1200 : Int64) * p2.toInt64)) (gS w_224 w_225 w_26 w_226) kk_X0_monthsLater ⟨Nat.le_of_ble_eq_true rfl, Nat.le_of_ble_eq_true rfl⟩ ⟨Nat.le_of_ble_eq_true rfl, Nat.le_of_ble_eq_true rfl⟩ hl.1 rfl rfl (Nat.le_of_ble_eq_true rfl) dX0_unitsLater_94 ?_
              have hm : m_X0_unitsLater p0 p1 p2 = m_X0_monthsLater p0 ((1200 : Int64) * p2.toInt64) := hm
              exact W.lret (v := m_X0_monthsLater p0 ((1200 : Int64) * p2.toInt64)) hx hb hr (fun t ht _ => ⟨by rw [hm], ht⟩) (fun _ h => absurd h List.not_mem_nil) dX0_unitsLater_97
            · have hm := hm.trans (if_neg h_6)
              refine lv_tableOut (tgt := 98) hx hb dX0_unitsLater_1 (by have hh : (p1).toInt ≠ 0 ∧ (p1).toInt ≠ 1 ∧ (p1).toInt ≠ 2 ∧ (p1).toInt ≠ 3 ∧ (p1).toInt ≠ 4 ∧ (p1).toInt ≠ 5 := ⟨fun q => h_1 (Int32.toInt_inj.mp (q.trans (by decide))), fun q => h_2 (Int32.toInt_inj.mp (q.trans (by decide))), fun q => h_3 (Int32.toInt_inj.mp (q.trans (by decide))), fun q => h_4 (Int32.toInt_inj.mp (q.trans (by decide))), fun q => h_5 (Int32.toInt_inj.mp (q.trans (by decide))), fun q => h_6 (Int32.toInt_inj.mp (q.trans (by decide)))⟩; omega) (by decide) ?_
              refine lv_lload_n hx hb dX0_unitsLater_98 rfl (lv_at hl 0 rfl) ?_
              refine lv_ldc2 hx hb hown (htg _ w_763) dX0_unitsLater_99 ?_
              refine lv_iload_n hx hb dX0_unitsLater_102 rfl (lv_at hl 2 rfl) ?_
              refine lv_i2l hx hb dX0_unitsLater_103 rfl ?_
              refine lv_lmul hx hb dX0_unitsLater_104 ?_
              refine pc_S hC (c_X0_monthsLater l p0 ((12000 : Int64) * p2.toInt64)) (gS w_224 w_225 w_26 w_226) kk_X0_monthsLater ⟨Nat.le_of_ble_eq_true rfl, Nat.le_of_ble_eq_true rfl⟩ ⟨Nat.le_of_ble_eq_true rfl, Nat.le_of_ble_eq_true rfl⟩ hl.1 rfl rfl (Nat.le_of_ble_eq_true rfl) dX0_unitsLater_105 ?_
              have hm : m_X0_unitsLater p0 p1 p2 = m_X0_monthsLater p0 ((12000 : Int64) * p2.toInt64) := hm
              exact W.lret (v := m_X0_monthsLater p0 ((12000 : Int64) * p2.toInt64)) hx hb hr (fun t ht _ => ⟨by rw [hm], ht⟩) (fun _ h => absurd h List.not_mem_nil) dX0_unitsLater_108
def m_X0_monthsUpTo (p0 : Int64) (p1 : Int64) : Int32 := (if m_X0_dayIn p0 ≤ m_X0_dayIn p1 then (((12 : Int32) * (((m_X0_yearIn p1) - (m_X0_yearIn p0)).toInt32)) + (m_X0_monthIn p1)) - (m_X0_monthIn p0) else ((((12 : Int32) * (((m_X0_yearIn p1) - (m_X0_yearIn p0)).toInt32)) + (m_X0_monthIn p1)) - (m_X0_monthIn p0)) - (1 : Int32))
theorem kk_X0_monthsUpTo : pK yX0_monthsUpTo wsX0_monthsUpTo cX0_monthsUpTo 5 (some .int) 2 := ⟨⟨_, rfl⟩, by decide +kernel, by decide +kernel, by decide +kernel⟩
set_option maxRecDepth 100000 in
set_option maxHeartbeats 4000000 in
theorem c_X0_monthsUpTo (l : Launch) (p0 : Int64) (p1 : Int64) : pM l yX0_monthsUpTo wsX0_monthsUpTo 1 21 [.long p0, .long p1] (.int (m_X0_monthsUpTo p0 p1)) := by
  refine Met.ofW (cc := cX0_monthsUpTo) (maxL := 5) (ret := (some .int)) (by decide) rfl ?_
  intro p e s m args below meth c s₁ B hml hv
  subst hv
  have hx := B.exec
  have hb := B.bytes
  have hr := B.returns
  have hts := atoms_spec (ws := wsX0_monthsUpTo) B.pre
  have hown : s.vm.findClass RX0 = some m.cls := findClass_of_methodNamed B.named
  have hlocks := B.notSynchronized
  have htg : ∀ w ∈ GL, w.before _ s = true := fun w h => hts w (List.mem_cons_of_mem _ h)
  have hC : CallFix p m c cX0_monthsUpTo 5 s _ wsX0_monthsUpTo RX0 := ⟨hx, hb, hml, hown, hts⟩
  have hl := lv_entry ([.long p0, .long p1]) (n := 5) (Nat.le_of_ble_eq_true rfl)
  rw [lg_entry_eq]
  generalize (lg_sl ([.long p0, .long p1]) ++ List.replicate (5 - (lg_sl ([.long p0, .long p1])).length) Slot.unset).toArray = ls at hl ⊢
  have hl : lv_has ls 5 [(0, .long p0), (2, .long p1)] := hl
  have hm : m_X0_monthsUpTo p0 p1 = m_X0_monthsUpTo p0 p1 := rfl
  refine lv_bipush (v := 12) hx hb dX0_monthsUpTo_0 (by decide) ?_
  refine lv_lload_n hx hb dX0_monthsUpTo_2 rfl (lv_at hl 1 rfl) ?_
  refine pc_S hC (c_X0_yearIn l p1) (gS w_168 w_169 w_26 w_170) kk_X0_yearIn ⟨Nat.le_of_ble_eq_true rfl, Nat.le_of_ble_eq_true rfl⟩ ⟨Nat.le_of_ble_eq_true rfl, Nat.le_of_ble_eq_true rfl⟩ hl.1 rfl rfl (Nat.le_of_ble_eq_true rfl) dX0_monthsUpTo_3 ?_
  refine lv_lload_n hx hb dX0_monthsUpTo_6 rfl (lv_at hl 0 rfl) ?_
  refine pc_S hC (c_X0_yearIn l p0) (gS w_168 w_169 w_26 w_170) kk_X0_yearIn ⟨Nat.le_of_ble_eq_true rfl, Nat.le_of_ble_eq_true rfl⟩ ⟨Nat.le_of_ble_eq_true rfl, Nat.le_of_ble_eq_true rfl⟩ hl.1 rfl rfl (Nat.le_of_ble_eq_true rfl) dX0_monthsUpTo_7 ?_
  refine lv_lsub hx hb dX0_monthsUpTo_10 ?_
  refine lv_l2i hx hb dX0_monthsUpTo_11 rfl ?_
  refine lv_imul hx hb dX0_monthsUpTo_12 ?_
  refine lv_lload_n hx hb dX0_monthsUpTo_13 rfl (lv_at hl 1 rfl) ?_
  refine pc_S hC (c_X0_monthIn l p1) (gS w_192 w_193 w_26 w_194) kk_X0_monthIn ⟨Nat.le_of_ble_eq_true rfl, Nat.le_of_ble_eq_true rfl⟩ ⟨Nat.le_of_ble_eq_true rfl, Nat.le_of_ble_eq_true rfl⟩ hl.1 rfl rfl (Nat.le_of_ble_eq_true rfl) dX0_monthsUpTo_14 ?_
  refine lv_iadd hx hb dX0_monthsUpTo_17 ?_
  refine lv_lload_n hx hb dX0_monthsUpTo_18 rfl (lv_at hl 0 rfl) ?_
  refine pc_S hC (c_X0_monthIn l p0) (gS w_192 w_193 w_26 w_194) kk_X0_monthIn ⟨Nat.le_of_ble_eq_true rfl, Nat.le_of_ble_eq_true rfl⟩ ⟨Nat.le_of_ble_eq_true rfl, Nat.le_of_ble_eq_true rfl⟩ hl.1 rfl rfl (Nat.le_of_ble_eq_true rfl) dX0_monthsUpTo_19 ?_
  refine lv_isub hx hb dX0_monthsUpTo_22 ?_
  refine lv_istore (lv' := [(4, .int ((((12 : Int32) * (((m_X0_yearIn p1) - (m_X0_yearIn p0)).toInt32)) + (m_X0_monthIn p1)) - (m_X0_monthIn p0))), (0, .long p0), (2, .long p1)]) hx hb dX0_monthsUpTo_23 hl (by decide) rfl (fun ls hl => ?_)
  refine lv_lload_n hx hb dX0_monthsUpTo_25 rfl (lv_at hl 2 rfl) ?_
  refine pc_S hC (c_X0_dayIn l p1) (gS w_189 w_190 w_26 w_191) kk_X0_dayIn ⟨Nat.le_of_ble_eq_true rfl, Nat.le_of_ble_eq_true rfl⟩ ⟨Nat.le_of_ble_eq_true rfl, Nat.le_of_ble_eq_true rfl⟩ hl.1 rfl rfl (Nat.le_of_ble_eq_true rfl) dX0_monthsUpTo_26 ?_
  refine lv_lload_n hx hb dX0_monthsUpTo_29 rfl (lv_at hl 1 rfl) ?_
  refine pc_S hC (c_X0_dayIn l p0) (gS w_189 w_190 w_26 w_191) kk_X0_dayIn ⟨Nat.le_of_ble_eq_true rfl, Nat.le_of_ble_eq_true rfl⟩ ⟨Nat.le_of_ble_eq_true rfl, Nat.le_of_ble_eq_true rfl⟩ hl.1 rfl rfl (Nat.le_of_ble_eq_true rfl) dX0_monthsUpTo_30 ?_
  refine lv_icmp_ge (tgt := 43) hx hb dX0_monthsUpTo_33 (by decide) (fun h_1 => ?_) (fun h_1 => ?_)
  · have hm := hm.trans (if_pos h_1)
    refine lv_iload hx hb dX0_monthsUpTo_43 (lv_at hl 0 rfl) ?_
    have hm : m_X0_monthsUpTo p0 p1 = (((12 : Int32) * (((m_X0_yearIn p1) - (m_X0_yearIn p0)).toInt32)) + (m_X0_monthIn p1)) - (m_X0_monthIn p0) := hm
    exact W.iret (v := (((12 : Int32) * (((m_X0_yearIn p1) - (m_X0_yearIn p0)).toInt32)) + (m_X0_monthIn p1)) - (m_X0_monthIn p0)) hx hb hr (fun t ht _ => ⟨by rw [hm], ht⟩) (fun _ h => absurd h List.not_mem_nil) dX0_monthsUpTo_45
  · have hm := hm.trans (if_neg h_1)
    refine lv_iload hx hb dX0_monthsUpTo_36 (lv_at hl 0 rfl) ?_
    refine lv_iconst (v := 1) hx hb dX0_monthsUpTo_38 (by decide) ?_
    refine lv_isub hx hb dX0_monthsUpTo_39 ?_
    refine lv_goto (tgt := 45) hx hb dX0_monthsUpTo_40 (by decide) ?_
    have hm : m_X0_monthsUpTo p0 p1 = ((((12 : Int32) * (((m_X0_yearIn p1) - (m_X0_yearIn p0)).toInt32)) + (m_X0_monthIn p1)) - (m_X0_monthIn p0)) - (1 : Int32) := hm
    exact W.iret (v := ((((12 : Int32) * (((m_X0_yearIn p1) - (m_X0_yearIn p0)).toInt32)) + (m_X0_monthIn p1)) - (m_X0_monthIn p0)) - (1 : Int32)) hx hb hr (fun t ht _ => ⟨by rw [hm], ht⟩) (fun _ h => absurd h List.not_mem_nil) dX0_monthsUpTo_45
def m_X0_unitsUpTo (p0 : Int64) (p1 : Int64) (p2 : Int32) : Int32 := (if p2 = 0 then ((m_X0_numberOf p1) - (m_X0_numberOf p0)).toInt32 else (if p2 = 1 then (((m_X0_numberOf p1) - (m_X0_numberOf p0)).toInt32) / (7 : Int32) else (if p2 = 2 then m_X0_monthsUpTo p0 p1 else (if p2 = 3 then (m_X0_monthsUpTo p0 p1) / (12 : Int32) else (if p2 = 4 then (m_X0_monthsUpTo p0 p1) / (120 : Int32) else (if p2 = 5 then (m_X0_monthsUpTo p0 p1) / (1200 : Int32) else (m_X0_monthsUpTo p0 p1) / (12000 : Int32)))))))
theorem kk_X0_unitsUpTo : pK yX0_unitsUpTo wsX0_unitsUpTo cX0_unitsUpTo 5 (some .int) 3 := ⟨⟨_, rfl⟩, by decide +kernel, by decide +kernel, by decide +kernel⟩
set_option maxRecDepth 100000 in
set_option maxHeartbeats 4000000 in
theorem c_X0_unitsUpTo (l : Launch) (p0 : Int64) (p1 : Int64) (p2 : Int32) : pM l yX0_unitsUpTo wsX0_unitsUpTo 3 71 [.long p0, .long p1, .int p2] (.int (m_X0_unitsUpTo p0 p1 p2)) := by
  refine Met.ofW (cc := cX0_unitsUpTo) (maxL := 5) (ret := (some .int)) (by decide) rfl ?_
  intro p e s m args below meth c s₁ B hml hv
  subst hv
  have hx := B.exec
  have hb := B.bytes
  have hr := B.returns
  have hts := atoms_spec (ws := wsX0_unitsUpTo) B.pre
  have hown : s.vm.findClass RX0 = some m.cls := findClass_of_methodNamed B.named
  have hlocks := B.notSynchronized
  have htg : ∀ w ∈ GL, w.before _ s = true := fun w h => hts w (List.mem_cons_of_mem _ h)
  have hC : CallFix p m c cX0_unitsUpTo 5 s _ wsX0_unitsUpTo RX0 := ⟨hx, hb, hml, hown, hts⟩
  have hl := lv_entry ([.long p0, .long p1, .int p2]) (n := 5) (Nat.le_of_ble_eq_true rfl)
  rw [lg_entry_eq]
  generalize (lg_sl ([.long p0, .long p1, .int p2]) ++ List.replicate (5 - (lg_sl ([.long p0, .long p1, .int p2])).length) Slot.unset).toArray = ls at hl ⊢
  have hl : lv_has ls 5 [(0, .long p0), (2, .long p1), (4, .int p2)] := hl
  have hm : m_X0_unitsUpTo p0 p1 p2 = m_X0_unitsUpTo p0 p1 p2 := rfl
  refine lv_iload hx hb dX0_unitsUpTo_0 (lv_at hl 2 rfl) ?_
  by_cases h_1 : p2 = 0
  · have hm := hm.trans (if_pos h_1)
    refine lv_tableIn (off := 38) (tgt := 40) hx hb dX0_unitsUpTo_2 (by rw [h_1]; decide) (by rw [h_1]; decide) (by rw [h_1]; rfl) (by decide) ?_
    refine lv_lload_n hx hb dX0_unitsUpTo_40 rfl (lv_at hl 1 rfl) ?_
    refine pc_S hC (c_X0_numberOf l p1) (gS w_165 w_166 w_26 w_167) kk_X0_numberOf ⟨Nat.le_of_ble_eq_true rfl, Nat.le_of_ble_eq_true rfl⟩ ⟨Nat.le_of_ble_eq_true rfl, Nat.le_of_ble_eq_true rfl⟩ hl.1 rfl rfl (Nat.le_of_ble_eq_true rfl) dX0_unitsUpTo_41 ?_
    refine lv_lload_n hx hb dX0_unitsUpTo_44 rfl (lv_at hl 0 rfl) ?_
    refine pc_S hC (c_X0_numberOf l p0) (gS w_165 w_166 w_26 w_167) kk_X0_numberOf ⟨Nat.le_of_ble_eq_true rfl, Nat.le_of_ble_eq_true rfl⟩ ⟨Nat.le_of_ble_eq_true rfl, Nat.le_of_ble_eq_true rfl⟩ hl.1 rfl rfl (Nat.le_of_ble_eq_true rfl) dX0_unitsUpTo_45 ?_
    refine lv_lsub hx hb dX0_unitsUpTo_48 ?_
    refine lv_l2i hx hb dX0_unitsUpTo_49 rfl ?_
    have hm : m_X0_unitsUpTo p0 p1 p2 = ((m_X0_numberOf p1) - (m_X0_numberOf p0)).toInt32 := hm
    exact W.iret (v := ((m_X0_numberOf p1) - (m_X0_numberOf p0)).toInt32) hx hb hr (fun t ht _ => ⟨by rw [hm], ht⟩) (fun _ h => absurd h List.not_mem_nil) dX0_unitsUpTo_50
  · have hm := hm.trans (if_neg h_1)
    by_cases h_2 : p2 = 1
    · have hm := hm.trans (if_pos h_2)
      refine lv_tableIn (off := 49) (tgt := 51) hx hb dX0_unitsUpTo_2 (by rw [h_2]; decide) (by rw [h_2]; decide) (by rw [h_2]; rfl) (by decide) ?_
      refine lv_lload_n hx hb dX0_unitsUpTo_51 rfl (lv_at hl 1 rfl) ?_
      refine pc_S hC (c_X0_numberOf l p1) (gS w_165 w_166 w_26 w_167) kk_X0_numberOf ⟨Nat.le_of_ble_eq_true rfl, Nat.le_of_ble_eq_true rfl⟩ ⟨Nat.le_of_ble_eq_true rfl, Nat.le_of_ble_eq_true rfl⟩ hl.1 rfl rfl (Nat.le_of_ble_eq_true rfl) dX0_unitsUpTo_52 ?_
      refine lv_lload_n hx hb dX0_unitsUpTo_55 rfl (lv_at hl 0 rfl) ?_
      refine pc_S hC (c_X0_numberOf l p0) (gS w_165 w_166 w_26 w_167) kk_X0_numberOf ⟨Nat.le_of_ble_eq_true rfl, Nat.le_of_ble_eq_true rfl⟩ ⟨Nat.le_of_ble_eq_true rfl, Nat.le_of_ble_eq_true rfl⟩ hl.1 rfl rfl (Nat.le_of_ble_eq_true rfl) dX0_unitsUpTo_56 ?_
      refine lv_lsub hx hb dX0_unitsUpTo_59 ?_
      refine lv_l2i hx hb dX0_unitsUpTo_60 rfl ?_
      refine lv_bipush (v := 7) hx hb dX0_unitsUpTo_61 (by decide) ?_
      refine lv_idiv hx hb dX0_unitsUpTo_63 (by decide) ?_
      have hm : m_X0_unitsUpTo p0 p1 p2 = (((m_X0_numberOf p1) - (m_X0_numberOf p0)).toInt32) / (7 : Int32) := hm
      exact W.iret (v := (((m_X0_numberOf p1) - (m_X0_numberOf p0)).toInt32) / (7 : Int32)) hx hb hr (fun t ht _ => ⟨by rw [hm], ht⟩) (fun _ h => absurd h List.not_mem_nil) dX0_unitsUpTo_64
    · have hm := hm.trans (if_neg h_2)
      by_cases h_3 : p2 = 2
      · have hm := hm.trans (if_pos h_3)
        refine lv_tableIn (off := 63) (tgt := 65) hx hb dX0_unitsUpTo_2 (by rw [h_3]; decide) (by rw [h_3]; decide) (by rw [h_3]; rfl) (by decide) ?_
        refine lv_lload_n hx hb dX0_unitsUpTo_65 rfl (lv_at hl 0 rfl) ?_
        refine lv_lload_n hx hb dX0_unitsUpTo_66 rfl (lv_at hl 1 rfl) ?_
        refine pc_S hC (c_X0_monthsUpTo l p0 p1) (gS w_221 w_222 w_26 w_223) kk_X0_monthsUpTo ⟨Nat.le_of_ble_eq_true rfl, Nat.le_of_ble_eq_true rfl⟩ ⟨Nat.le_of_ble_eq_true rfl, Nat.le_of_ble_eq_true rfl⟩ hl.1 rfl rfl (Nat.le_of_ble_eq_true rfl) dX0_unitsUpTo_67 ?_
        have hm : m_X0_unitsUpTo p0 p1 p2 = m_X0_monthsUpTo p0 p1 := hm
        exact W.iret (v := m_X0_monthsUpTo p0 p1) hx hb hr (fun t ht _ => ⟨by rw [hm], ht⟩) (fun _ h => absurd h List.not_mem_nil) dX0_unitsUpTo_70
      · have hm := hm.trans (if_neg h_3)
        by_cases h_4 : p2 = 3
        · have hm := hm.trans (if_pos h_4)
          refine lv_tableIn (off := 69) (tgt := 71) hx hb dX0_unitsUpTo_2 (by rw [h_4]; decide) (by rw [h_4]; decide) (by rw [h_4]; rfl) (by decide) ?_
          refine lv_lload_n hx hb dX0_unitsUpTo_71 rfl (lv_at hl 0 rfl) ?_
          refine lv_lload_n hx hb dX0_unitsUpTo_72 rfl (lv_at hl 1 rfl) ?_
          refine pc_S hC (c_X0_monthsUpTo l p0 p1) (gS w_221 w_222 w_26 w_223) kk_X0_monthsUpTo ⟨Nat.le_of_ble_eq_true rfl, Nat.le_of_ble_eq_true rfl⟩ ⟨Nat.le_of_ble_eq_true rfl, Nat.le_of_ble_eq_true rfl⟩ hl.1 rfl rfl (Nat.le_of_ble_eq_true rfl) dX0_unitsUpTo_73 ?_
          refine lv_bipush (v := 12) hx hb dX0_unitsUpTo_76 (by decide) ?_
          refine lv_idiv hx hb dX0_unitsUpTo_78 (by decide) ?_
          have hm : m_X0_unitsUpTo p0 p1 p2 = (m_X0_monthsUpTo p0 p1) / (12 : Int32) := hm
          exact W.iret (v := (m_X0_monthsUpTo p0 p1) / (12 : Int32)) hx hb hr (fun t ht _ => ⟨by rw [hm], ht⟩) (fun _ h => absurd h List.not_mem_nil) dX0_unitsUpTo_79
        · have hm := hm.trans (if_neg h_4)
          by_cases h_5 : p2 = 4
          · have hm := hm.trans (if_pos h_5)
            refine lv_tableIn (off := 78) (tgt := 80) hx hb dX0_unitsUpTo_2 (by rw [h_5]; decide) (by rw [h_5]; decide) (by rw [h_5]; rfl) (by decide) ?_
            refine lv_lload_n hx hb dX0_unitsUpTo_80 rfl (lv_at hl 0 rfl) ?_
            refine lv_lload_n hx hb dX0_unitsUpTo_81 rfl (lv_at hl 1 rfl) ?_
            refine pc_S hC (c_X0_monthsUpTo l p0 p1) (gS w_221 w_222 w_26 w_223) kk_X0_monthsUpTo ⟨Nat.le_of_ble_eq_true rfl, Nat.le_of_ble_eq_true rfl⟩ ⟨Nat.le_of_ble_eq_true rfl, Nat.le_of_ble_eq_true rfl⟩ hl.1 rfl rfl (Nat.le_of_ble_eq_true rfl) dX0_unitsUpTo_82 ?_
            refine lv_bipush (v := 120) hx hb dX0_unitsUpTo_85 (by decide) ?_
            refine lv_idiv hx hb dX0_unitsUpTo_87 (by decide) ?_
            have hm : m_X0_unitsUpTo p0 p1 p2 = (m_X0_monthsUpTo p0 p1) / (120 : Int32) := hm
            exact W.iret (v := (m_X0_monthsUpTo p0 p1) / (120 : Int32)) hx hb hr (fun t ht _ => ⟨by rw [hm], ht⟩) (fun _ h => absurd h List.not_mem_nil) dX0_unitsUpTo_88
          · have hm := hm.trans (if_neg h_5)
            by_cases h_6 : p2 = 5
            · have hm := hm.trans (if_pos h_6)
              refine lv_tableIn (off := 87) (tgt := 89) hx hb dX0_unitsUpTo_2 (by rw [h_6]; decide) (by rw [h_6]; decide) (by rw [h_6]; rfl) (by decide) ?_
              refine lv_lload_n hx hb dX0_unitsUpTo_89 rfl (lv_at hl 0 rfl) ?_
              refine lv_lload_n hx hb dX0_unitsUpTo_90 rfl (lv_at hl 1 rfl) ?_
              refine pc_S hC (c_X0_monthsUpTo l p0 p1) (gS w_221 w_222 w_26 w_223) kk_X0_monthsUpTo ⟨Nat.le_of_ble_eq_true rfl, Nat.le_of_ble_eq_true rfl⟩ ⟨Nat.le_of_ble_eq_true rfl, Nat.le_of_ble_eq_true rfl⟩ hl.1 rfl rfl (Nat.le_of_ble_eq_true rfl) dX0_unitsUpTo_91 ?_
              refine lv_sipush (v := 1200) hx hb dX0_unitsUpTo_94 (by decide) ?_
              refine lv_idiv hx hb dX0_unitsUpTo_97 (by decide) ?_
              have hm : m_X0_unitsUpTo p0 p1 p2 = (m_X0_monthsUpTo p0 p1) / (1200 : Int32) := hm
              exact W.iret (v := (m_X0_monthsUpTo p0 p1) / (1200 : Int32)) hx hb hr (fun t ht _ => ⟨by rw [hm], ht⟩) (fun _ h => absurd h List.not_mem_nil) dX0_unitsUpTo_98
            · have hm := hm.trans (if_neg h_6)
              refine lv_tableOut (tgt := 99) hx hb dX0_unitsUpTo_2 (by have hh : (p2).toInt ≠ 0 ∧ (p2).toInt ≠ 1 ∧ (p2).toInt ≠ 2 ∧ (p2).toInt ≠ 3 ∧ (p2).toInt ≠ 4 ∧ (p2).toInt ≠ 5 := ⟨fun q => h_1 (Int32.toInt_inj.mp (q.trans (by decide))), fun q => h_2 (Int32.toInt_inj.mp (q.trans (by decide))), fun q => h_3 (Int32.toInt_inj.mp (q.trans (by decide))), fun q => h_4 (Int32.toInt_inj.mp (q.trans (by decide))), fun q => h_5 (Int32.toInt_inj.mp (q.trans (by decide))), fun q => h_6 (Int32.toInt_inj.mp (q.trans (by decide)))⟩; omega) (by decide) ?_
              refine lv_lload_n hx hb dX0_unitsUpTo_99 rfl (lv_at hl 0 rfl) ?_
              refine lv_lload_n hx hb dX0_unitsUpTo_100 rfl (lv_at hl 1 rfl) ?_
              refine pc_S hC (c_X0_monthsUpTo l p0 p1) (gS w_221 w_222 w_26 w_223) kk_X0_monthsUpTo ⟨Nat.le_of_ble_eq_true rfl, Nat.le_of_ble_eq_true rfl⟩ ⟨Nat.le_of_ble_eq_true rfl, Nat.le_of_ble_eq_true rfl⟩ hl.1 rfl rfl (Nat.le_of_ble_eq_true rfl) dX0_unitsUpTo_101 ?_
              refine lv_sipush (v := 12000) hx hb dX0_unitsUpTo_104 (by decide) ?_
              refine lv_idiv hx hb dX0_unitsUpTo_107 (by decide) ?_
              have hm : m_X0_unitsUpTo p0 p1 p2 = (m_X0_monthsUpTo p0 p1) / (12000 : Int32) := hm
              exact W.iret (v := (m_X0_monthsUpTo p0 p1) / (12000 : Int32)) hx hb hr (fun t ht _ => ⟨by rw [hm], ht⟩) (fun _ h => absurd h List.not_mem_nil) dX0_unitsUpTo_108
def m_X0_daysBehindMonths (p0 : Int64) (p1 : Int64) : Int32 := ((m_X0_numberOf p1) - (m_X0_numberOf (m_X0_monthsLater p0 ((m_X0_monthsUpTo p0 p1).toInt64)))).toInt32
theorem kk_X0_daysBehindMonths : pK yX0_daysBehindMonths wsX0_daysBehindMonths cX0_daysBehindMonths 6 (some .int) 2 := ⟨⟨_, rfl⟩, by decide +kernel, by decide +kernel, by decide +kernel⟩
set_option maxRecDepth 100000 in
set_option maxHeartbeats 4000000 in
theorem c_X0_daysBehindMonths (l : Launch) (p0 : Int64) (p1 : Int64) : pM l yX0_daysBehindMonths wsX0_daysBehindMonths 3 88 [.long p0, .long p1] (.int (m_X0_daysBehindMonths p0 p1)) := by
  refine Met.ofW (cc := cX0_daysBehindMonths) (maxL := 6) (ret := (some .int)) (by decide) rfl ?_
  intro p e s m args below meth c s₁ B hml hv
  subst hv
  have hx := B.exec
  have hb := B.bytes
  have hr := B.returns
  have hts := atoms_spec (ws := wsX0_daysBehindMonths) B.pre
  have hown : s.vm.findClass RX0 = some m.cls := findClass_of_methodNamed B.named
  have hlocks := B.notSynchronized
  have htg : ∀ w ∈ GL, w.before _ s = true := fun w h => hts w (List.mem_cons_of_mem _ h)
  have hC : CallFix p m c cX0_daysBehindMonths 6 s _ wsX0_daysBehindMonths RX0 := ⟨hx, hb, hml, hown, hts⟩
  have hl := lv_entry ([.long p0, .long p1]) (n := 6) (Nat.le_of_ble_eq_true rfl)
  rw [lg_entry_eq]
  generalize (lg_sl ([.long p0, .long p1]) ++ List.replicate (6 - (lg_sl ([.long p0, .long p1])).length) Slot.unset).toArray = ls at hl ⊢
  have hl : lv_has ls 6 [(0, .long p0), (2, .long p1)] := hl
  have hm : m_X0_daysBehindMonths p0 p1 = m_X0_daysBehindMonths p0 p1 := rfl
  refine lv_lload_n hx hb dX0_daysBehindMonths_0 rfl (lv_at hl 0 rfl) ?_
  refine lv_lload_n hx hb dX0_daysBehindMonths_1 rfl (lv_at hl 0 rfl) ?_
  refine lv_lload_n hx hb dX0_daysBehindMonths_2 rfl (lv_at hl 1 rfl) ?_
  refine pc_S hC (c_X0_monthsUpTo l p0 p1) (gS w_221 w_222 w_26 w_223) kk_X0_monthsUpTo ⟨Nat.le_of_ble_eq_true rfl, Nat.le_of_ble_eq_true rfl⟩ ⟨Nat.le_of_ble_eq_true rfl, Nat.le_of_ble_eq_true rfl⟩ hl.1 rfl rfl (Nat.le_of_ble_eq_true rfl) dX0_daysBehindMonths_3 ?_
  refine lv_i2l hx hb dX0_daysBehindMonths_6 rfl ?_
  refine pc_S hC (c_X0_monthsLater l p0 ((m_X0_monthsUpTo p0 p1).toInt64)) (gS w_224 w_225 w_26 w_226) kk_X0_monthsLater ⟨Nat.le_of_ble_eq_true rfl, Nat.le_of_ble_eq_true rfl⟩ ⟨Nat.le_of_ble_eq_true rfl, Nat.le_of_ble_eq_true rfl⟩ hl.1 rfl rfl (Nat.le_of_ble_eq_true rfl) dX0_daysBehindMonths_7 ?_
  refine lv_lstore (lv' := [(4, .long (m_X0_monthsLater p0 ((m_X0_monthsUpTo p0 p1).toInt64))), (0, .long p0), (2, .long p1)]) hx hb dX0_daysBehindMonths_10 hl (by decide) rfl (fun ls hl => ?_)
  refine lv_lload_n hx hb dX0_daysBehindMonths_12 rfl (lv_at hl 2 rfl) ?_
  refine pc_S hC (c_X0_numberOf l p1) (gS w_165 w_166 w_26 w_167) kk_X0_numberOf ⟨Nat.le_of_ble_eq_true rfl, Nat.le_of_ble_eq_true rfl⟩ ⟨Nat.le_of_ble_eq_true rfl, Nat.le_of_ble_eq_true rfl⟩ hl.1 rfl rfl (Nat.le_of_ble_eq_true rfl) dX0_daysBehindMonths_13 ?_
  refine lv_lload hx hb dX0_daysBehindMonths_16 (lv_at hl 0 rfl) ?_
  refine pc_S hC (c_X0_numberOf l (m_X0_monthsLater p0 ((m_X0_monthsUpTo p0 p1).toInt64))) (gS w_165 w_166 w_26 w_167) kk_X0_numberOf ⟨Nat.le_of_ble_eq_true rfl, Nat.le_of_ble_eq_true rfl⟩ ⟨Nat.le_of_ble_eq_true rfl, Nat.le_of_ble_eq_true rfl⟩ hl.1 rfl rfl (Nat.le_of_ble_eq_true rfl) dX0_daysBehindMonths_18 ?_
  refine lv_lsub hx hb dX0_daysBehindMonths_21 ?_
  refine lv_l2i hx hb dX0_daysBehindMonths_22 rfl ?_
  have hm : m_X0_daysBehindMonths p0 p1 = ((m_X0_numberOf p1) - (m_X0_numberOf (m_X0_monthsLater p0 ((m_X0_monthsUpTo p0 p1).toInt64)))).toInt32 := hm
  exact W.iret (v := ((m_X0_numberOf p1) - (m_X0_numberOf (m_X0_monthsLater p0 ((m_X0_monthsUpTo p0 p1).toInt64)))).toInt32) hx hb hr (fun t ht _ => ⟨by rw [hm], ht⟩) (fun _ h => absurd h List.not_mem_nil) dX0_daysBehindMonths_23
def m_X0_isSoundAlone (p0 : Int64) : Int32 := (if lg_cmp (m_X0_fittedDate (m_X0_yearIn p0) (m_X0_monthIn p0) (m_X0_dayIn p0)) p0 = 0 then (if lg_cmp (m_X0_dateOfNumber (m_X0_numberOf p0)) p0 = 0 then (if lg_cmp (m_X0_dateOfYearDay (m_X0_yearIn p0) (m_X0_dayInYear p0)) p0 = 0 then (if 0 ≤ lg_cmp p0 (m_X0_daysLater p0 (1 : Int64)) then (0 : Int32) else (if lg_cmp (m_X0_daysLater (m_X0_daysLater p0 (1 : Int64)) (-1 : Int64)) p0 = 0 then (1 : Int32) else (0 : Int32))) else (0 : Int32)) else (0 : Int32)) else (0 : Int32))
theorem kk_X0_isSoundAlone : pK yX0_isSoundAlone wsX0_isSoundAlone cX0_isSoundAlone 4 (some .boolean) 1 := ⟨⟨_, rfl⟩, by decide +kernel, by decide +kernel, by decide +kernel⟩
theorem nb_X0_isSoundAlone (p0 : Int64) : narrow .boolean (.int (m_X0_isSoundAlone p0)) = .int (m_X0_isSoundAlone p0) := by
  unfold m_X0_isSoundAlone
  repeat' split
  all_goals rfl
set_option maxRecDepth 100000 in
set_option maxHeartbeats 4000000 in
theorem c_X0_isSoundAlone (l : Launch) (p0 : Int64) : pM l yX0_isSoundAlone wsX0_isSoundAlone 5 119 [.long p0] (.int (m_X0_isSoundAlone p0)) := by
  refine Met.ofW (cc := cX0_isSoundAlone) (maxL := 4) (ret := (some .boolean)) (by decide) rfl ?_
  intro p e s m args below meth c s₁ B hml hv
  subst hv
  have hx := B.exec
  have hb := B.bytes
  have hr := B.returns
  have hts := atoms_spec (ws := wsX0_isSoundAlone) B.pre
  have hown : s.vm.findClass RX0 = some m.cls := findClass_of_methodNamed B.named
  have hlocks := B.notSynchronized
  have htg : ∀ w ∈ GL, w.before _ s = true := fun w h => hts w (List.mem_cons_of_mem _ h)
  have hC : CallFix p m c cX0_isSoundAlone 4 s _ wsX0_isSoundAlone RX0 := ⟨hx, hb, hml, hown, hts⟩
  have hl := lv_entry ([.long p0]) (n := 4) (Nat.le_of_ble_eq_true rfl)
  rw [lg_entry_eq]
  generalize (lg_sl ([.long p0]) ++ List.replicate (4 - (lg_sl ([.long p0])).length) Slot.unset).toArray = ls at hl ⊢
  have hl : lv_has ls 4 [(0, .long p0)] := hl
  have hm : m_X0_isSoundAlone p0 = m_X0_isSoundAlone p0 := rfl
  refine lv_lload_n hx hb dX0_isSoundAlone_0 rfl (lv_at hl 0 rfl) ?_
  refine lv_lconst (v := 1) hx hb dX0_isSoundAlone_1 (by decide) ?_
  refine pc_S hC (c_X0_daysLater l p0 (1 : Int64)) (gS w_162 w_163 w_26 w_164) kk_X0_daysLater ⟨Nat.le_of_ble_eq_true rfl, Nat.le_of_ble_eq_true rfl⟩ ⟨Nat.le_of_ble_eq_true rfl, Nat.le_of_ble_eq_true rfl⟩ hl.1 rfl rfl (Nat.le_of_ble_eq_true rfl) dX0_isSoundAlone_2 ?_
  refine lv_lstore_n (lv' := [(2, .long (m_X0_daysLater p0 (1 : Int64))), (0, .long p0)]) hx hb dX0_isSoundAlone_5 rfl hl (by decide) rfl (fun ls hl => ?_)
  refine lv_lload_n hx hb dX0_isSoundAlone_6 rfl (lv_at hl 1 rfl) ?_
  refine pc_S hC (c_X0_yearIn l p0) (gS w_168 w_169 w_26 w_170) kk_X0_yearIn ⟨Nat.le_of_ble_eq_true rfl, Nat.le_of_ble_eq_true rfl⟩ ⟨Nat.le_of_ble_eq_true rfl, Nat.le_of_ble_eq_true rfl⟩ hl.1 rfl rfl (Nat.le_of_ble_eq_true rfl) dX0_isSoundAlone_7 ?_
  refine lv_lload_n hx hb dX0_isSoundAlone_10 rfl (lv_at hl 1 rfl) ?_
  refine pc_S hC (c_X0_monthIn l p0) (gS w_192 w_193 w_26 w_194) kk_X0_monthIn ⟨Nat.le_of_ble_eq_true rfl, Nat.le_of_ble_eq_true rfl⟩ ⟨Nat.le_of_ble_eq_true rfl, Nat.le_of_ble_eq_true rfl⟩ hl.1 rfl rfl (Nat.le_of_ble_eq_true rfl) dX0_isSoundAlone_11 ?_
  refine lv_lload_n hx hb dX0_isSoundAlone_14 rfl (lv_at hl 1 rfl) ?_
  refine pc_S hC (c_X0_dayIn l p0) (gS w_189 w_190 w_26 w_191) kk_X0_dayIn ⟨Nat.le_of_ble_eq_true rfl, Nat.le_of_ble_eq_true rfl⟩ ⟨Nat.le_of_ble_eq_true rfl, Nat.le_of_ble_eq_true rfl⟩ hl.1 rfl rfl (Nat.le_of_ble_eq_true rfl) dX0_isSoundAlone_15 ?_
  refine pc_S hC (c_X0_fittedDate l (m_X0_yearIn p0) (m_X0_monthIn p0) (m_X0_dayIn p0)) (gS w_211 w_212 w_26 w_213) kk_X0_fittedDate ⟨Nat.le_of_ble_eq_true rfl, Nat.le_of_ble_eq_true rfl⟩ ⟨Nat.le_of_ble_eq_true rfl, Nat.le_of_ble_eq_true rfl⟩ hl.1 rfl rfl (Nat.le_of_ble_eq_true rfl) dX0_isSoundAlone_18 ?_
  refine lv_lload_n hx hb dX0_isSoundAlone_21 rfl (lv_at hl 1 rfl) ?_
  refine W.lcmp hx hb dX0_isSoundAlone_22 ?_
  refine lv_if_ne (tgt := 76) hx hb dX0_isSoundAlone_23 (by decide) (fun h_1 => ?_) (fun h_1 => ?_)
  · have hm := hm.trans (if_neg h_1)
    refine lv_iconst (v := 0) hx hb dX0_isSoundAlone_76 (by decide) ?_
    have hm : m_X0_isSoundAlone p0 = (0 : Int32) := hm
    exact W.zret (v := (0 : Int32)) (ty := .boolean) hx hb hr rfl (fun t ht _ => ⟨by rw [hm], ht⟩) (fun _ h => absurd h List.not_mem_nil) dX0_isSoundAlone_77
  · have hm := hm.trans (if_pos h_1)
    refine lv_lload_n hx hb dX0_isSoundAlone_26 rfl (lv_at hl 1 rfl) ?_
    refine pc_S hC (c_X0_numberOf l p0) (gS w_165 w_166 w_26 w_167) kk_X0_numberOf ⟨Nat.le_of_ble_eq_true rfl, Nat.le_of_ble_eq_true rfl⟩ ⟨Nat.le_of_ble_eq_true rfl, Nat.le_of_ble_eq_true rfl⟩ hl.1 rfl rfl (Nat.le_of_ble_eq_true rfl) dX0_isSoundAlone_27 ?_
    refine pc_S hC (c_X0_dateOfNumber l (m_X0_numberOf p0)) (gS w_198 w_199 w_26 w_200) kk_X0_dateOfNumber ⟨Nat.le_of_ble_eq_true rfl, Nat.le_of_ble_eq_true rfl⟩ ⟨Nat.le_of_ble_eq_true rfl, Nat.le_of_ble_eq_true rfl⟩ hl.1 rfl rfl (Nat.le_of_ble_eq_true rfl) dX0_isSoundAlone_30 ?_
    refine lv_lload_n hx hb dX0_isSoundAlone_33 rfl (lv_at hl 1 rfl) ?_
    refine W.lcmp hx hb dX0_isSoundAlone_34 ?_
    refine lv_if_ne (tgt := 76) hx hb dX0_isSoundAlone_35 (by decide) (fun h_2 => ?_) (fun h_2 => ?_)
    · have hm := hm.trans (if_neg h_2)
      refine lv_iconst (v := 0) hx hb dX0_isSoundAlone_76 (by decide) ?_
      have hm : m_X0_isSoundAlone p0 = (0 : Int32) := hm
      exact W.zret (v := (0 : Int32)) (ty := .boolean) hx hb hr rfl (fun t ht _ => ⟨by rw [hm], ht⟩) (fun _ h => absurd h List.not_mem_nil) dX0_isSoundAlone_77
    · have hm := hm.trans (if_pos h_2)
      refine lv_lload_n hx hb dX0_isSoundAlone_38 rfl (lv_at hl 1 rfl) ?_
      refine pc_S hC (c_X0_yearIn l p0) (gS w_168 w_169 w_26 w_170) kk_X0_yearIn ⟨Nat.le_of_ble_eq_true rfl, Nat.le_of_ble_eq_true rfl⟩ ⟨Nat.le_of_ble_eq_true rfl, Nat.le_of_ble_eq_true rfl⟩ hl.1 rfl rfl (Nat.le_of_ble_eq_true rfl) dX0_isSoundAlone_39 ?_
      refine lv_lload_n hx hb dX0_isSoundAlone_42 rfl (lv_at hl 1 rfl) ?_
      refine pc_S hC (c_X0_dayInYear l p0) (gS w_183 w_184 w_26 w_185) kk_X0_dayInYear ⟨Nat.le_of_ble_eq_true rfl, Nat.le_of_ble_eq_true rfl⟩ ⟨Nat.le_of_ble_eq_true rfl, Nat.le_of_ble_eq_true rfl⟩ hl.1 rfl rfl (Nat.le_of_ble_eq_true rfl) dX0_isSoundAlone_43 ?_
      refine pc_S hC (c_X0_dateOfYearDay l (m_X0_yearIn p0) (m_X0_dayInYear p0)) (gS w_205 w_206 w_26 w_207) kk_X0_dateOfYearDay ⟨Nat.le_of_ble_eq_true rfl, Nat.le_of_ble_eq_true rfl⟩ ⟨Nat.le_of_ble_eq_true rfl, Nat.le_of_ble_eq_true rfl⟩ hl.1 rfl rfl (Nat.le_of_ble_eq_true rfl) dX0_isSoundAlone_46 ?_
      refine lv_lload_n hx hb dX0_isSoundAlone_49 rfl (lv_at hl 1 rfl) ?_
      refine W.lcmp hx hb dX0_isSoundAlone_50 ?_
      refine lv_if_ne (tgt := 76) hx hb dX0_isSoundAlone_51 (by decide) (fun h_3 => ?_) (fun h_3 => ?_)
      · have hm := hm.trans (if_neg h_3)
        refine lv_iconst (v := 0) hx hb dX0_isSoundAlone_76 (by decide) ?_
        have hm : m_X0_isSoundAlone p0 = (0 : Int32) := hm
        exact W.zret (v := (0 : Int32)) (ty := .boolean) hx hb hr rfl (fun t ht _ => ⟨by rw [hm], ht⟩) (fun _ h => absurd h List.not_mem_nil) dX0_isSoundAlone_77
      · have hm := hm.trans (if_pos h_3)
        refine lv_lload_n hx hb dX0_isSoundAlone_54 rfl (lv_at hl 1 rfl) ?_
        refine lv_lload_n hx hb dX0_isSoundAlone_55 rfl (lv_at hl 0 rfl) ?_
        refine W.lcmp hx hb dX0_isSoundAlone_56 ?_
        refine lv_if_ge (tgt := 76) hx hb dX0_isSoundAlone_57 (by decide) (fun h_4 => ?_) (fun h_4 => ?_)
        · have hm := hm.trans (if_pos h_4)
          refine lv_iconst (v := 0) hx hb dX0_isSoundAlone_76 (by decide) ?_
          have hm : m_X0_isSoundAlone p0 = (0 : Int32) := hm
          exact W.zret (v := (0 : Int32)) (ty := .boolean) hx hb hr rfl (fun t ht _ => ⟨by rw [hm], ht⟩) (fun _ h => absurd h List.not_mem_nil) dX0_isSoundAlone_77
        · have hm := hm.trans (if_neg h_4)
          refine lv_lload_n hx hb dX0_isSoundAlone_60 rfl (lv_at hl 0 rfl) ?_
          refine lv_ldc2 hx hb hown (htg _ w_217) dX0_isSoundAlone_61 ?_
          refine pc_S hC (c_X0_daysLater l (m_X0_daysLater p0 (1 : Int64)) (-1 : Int64)) (gS w_162 w_163 w_26 w_164) kk_X0_daysLater ⟨Nat.le_of_ble_eq_true rfl, Nat.le_of_ble_eq_true rfl⟩ ⟨Nat.le_of_ble_eq_true rfl, Nat.le_of_ble_eq_true rfl⟩ hl.1 rfl rfl (Nat.le_of_ble_eq_true rfl) dX0_isSoundAlone_64 ?_
          refine lv_lload_n hx hb dX0_isSoundAlone_67 rfl (lv_at hl 1 rfl) ?_
          refine W.lcmp hx hb dX0_isSoundAlone_68 ?_
          refine lv_if_ne (tgt := 76) hx hb dX0_isSoundAlone_69 (by decide) (fun h_5 => ?_) (fun h_5 => ?_)
          · have hm := hm.trans (if_neg h_5)
            refine lv_iconst (v := 0) hx hb dX0_isSoundAlone_76 (by decide) ?_
            have hm : m_X0_isSoundAlone p0 = (0 : Int32) := hm
            exact W.zret (v := (0 : Int32)) (ty := .boolean) hx hb hr rfl (fun t ht _ => ⟨by rw [hm], ht⟩) (fun _ h => absurd h List.not_mem_nil) dX0_isSoundAlone_77
          · have hm := hm.trans (if_pos h_5)
            refine lv_iconst (v := 1) hx hb dX0_isSoundAlone_72 (by decide) ?_
            refine lv_goto (tgt := 77) hx hb dX0_isSoundAlone_73 (by decide) ?_
            have hm : m_X0_isSoundAlone p0 = (1 : Int32) := hm
            exact W.zret (v := (1 : Int32)) (ty := .boolean) hx hb hr rfl (fun t ht _ => ⟨by rw [hm], ht⟩) (fun _ h => absurd h List.not_mem_nil) dX0_isSoundAlone_77
def m_X0_areSoundTogether (p0 : Int64) (p1 : Int64) : Int32 := (if 0 ≤ lg_cmp p0 p1 then (if 0 ≤ lg_cmp (m_X0_numberOf p0) (m_X0_numberOf p1) then (if 0 ≤ lg_cmp p1 p0 then (if lg_cmp (m_X0_daysLater (m_X0_monthsLater p0 ((m_X0_monthsUpTo p0 p1).toInt64)) ((m_X0_daysBehindMonths p0 p1).toInt64)) p1 = 0 then (1 : Int32) else (0 : Int32)) else (1 : Int32)) else (0 : Int32)) else (if 0 ≤ lg_cmp (m_X0_numberOf p0) (m_X0_numberOf p1) then (0 : Int32) else (if 0 ≤ lg_cmp p1 p0 then (if lg_cmp (m_X0_daysLater (m_X0_monthsLater p0 ((m_X0_monthsUpTo p0 p1).toInt64)) ((m_X0_daysBehindMonths p0 p1).toInt64)) p1 = 0 then (1 : Int32) else (0 : Int32)) else (1 : Int32))))
theorem kk_X0_areSoundTogether : pK yX0_areSoundTogether wsX0_areSoundTogether cX0_areSoundTogether 6 (some .boolean) 2 := ⟨⟨_, rfl⟩, by decide +kernel, by decide +kernel, by decide +kernel⟩
theorem nb_X0_areSoundTogether (p0 : Int64) (p1 : Int64) : narrow .boolean (.int (m_X0_areSoundTogether p0 p1)) = .int (m_X0_areSoundTogether p0 p1) := by
  unfold m_X0_areSoundTogether
  repeat' split
  all_goals rfl
set_option maxRecDepth 100000 in
set_option maxHeartbeats 4000000 in
theorem c_X0_areSoundTogether (l : Launch) (p0 : Int64) (p1 : Int64) : pM l yX0_areSoundTogether wsX0_areSoundTogether 5 119 [.long p0, .long p1] (.int (m_X0_areSoundTogether p0 p1)) := by
  refine Met.ofW (cc := cX0_areSoundTogether) (maxL := 6) (ret := (some .boolean)) (by decide) rfl ?_
  intro p e s m args below meth c s₁ B hml hv
  subst hv
  have hx := B.exec
  have hb := B.bytes
  have hr := B.returns
  have hts := atoms_spec (ws := wsX0_areSoundTogether) B.pre
  have hown : s.vm.findClass RX0 = some m.cls := findClass_of_methodNamed B.named
  have hlocks := B.notSynchronized
  have htg : ∀ w ∈ GL, w.before _ s = true := fun w h => hts w (List.mem_cons_of_mem _ h)
  have hC : CallFix p m c cX0_areSoundTogether 6 s _ wsX0_areSoundTogether RX0 := ⟨hx, hb, hml, hown, hts⟩
  have hl := lv_entry ([.long p0, .long p1]) (n := 6) (Nat.le_of_ble_eq_true rfl)
  rw [lg_entry_eq]
  generalize (lg_sl ([.long p0, .long p1]) ++ List.replicate (6 - (lg_sl ([.long p0, .long p1])).length) Slot.unset).toArray = ls at hl ⊢
  have hl : lv_has ls 6 [(0, .long p0), (2, .long p1)] := hl
  have hm : m_X0_areSoundTogether p0 p1 = m_X0_areSoundTogether p0 p1 := rfl
  refine lv_lload_n hx hb dX0_areSoundTogether_0 rfl (lv_at hl 0 rfl) ?_
  refine lv_lload_n hx hb dX0_areSoundTogether_1 rfl (lv_at hl 1 rfl) ?_
  refine W.lcmp hx hb dX0_areSoundTogether_2 ?_
  refine lv_if_ge (tgt := 10) hx hb dX0_areSoundTogether_3 (by decide) (fun h_1 => ?_) (fun h_1 => ?_)
  · have hm := hm.trans (if_pos h_1)
    refine lv_iconst (v := 0) hx hb dX0_areSoundTogether_10 (by decide) ?_
    refine lv_lload_n hx hb dX0_areSoundTogether_11 rfl (lv_at hl 0 rfl) ?_
    refine pc_S hC (c_X0_numberOf l p0) (gS w_165 w_166 w_26 w_167) kk_X0_numberOf ⟨Nat.le_of_ble_eq_true rfl, Nat.le_of_ble_eq_true rfl⟩ ⟨Nat.le_of_ble_eq_true rfl, Nat.le_of_ble_eq_true rfl⟩ hl.1 rfl rfl (Nat.le_of_ble_eq_true rfl) dX0_areSoundTogether_12 ?_
    refine lv_lload_n hx hb dX0_areSoundTogether_15 rfl (lv_at hl 1 rfl) ?_
    refine pc_S hC (c_X0_numberOf l p1) (gS w_165 w_166 w_26 w_167) kk_X0_numberOf ⟨Nat.le_of_ble_eq_true rfl, Nat.le_of_ble_eq_true rfl⟩ ⟨Nat.le_of_ble_eq_true rfl, Nat.le_of_ble_eq_true rfl⟩ hl.1 rfl rfl (Nat.le_of_ble_eq_true rfl) dX0_areSoundTogether_16 ?_
    refine W.lcmp hx hb dX0_areSoundTogether_19 ?_
    refine lv_if_ge (tgt := 27) hx hb dX0_areSoundTogether_20 (by decide) (fun h_2 => ?_) (fun h_2 => ?_)
    · have hm := hm.trans (if_pos h_2)
      refine lv_iconst (v := 0) hx hb dX0_areSoundTogether_27 (by decide) ?_
      refine lv_icmp_eq (tgt := 33) hx hb dX0_areSoundTogether_28 (by decide) (fun _ => ?_) (fun h => absurd h (by decide))
      refine lv_lload_n hx hb dX0_areSoundTogether_33 rfl (lv_at hl 1 rfl) ?_
      refine lv_lload_n hx hb dX0_areSoundTogether_34 rfl (lv_at hl 0 rfl) ?_
      refine W.lcmp hx hb dX0_areSoundTogether_35 ?_
      refine lv_if_ge (tgt := 41) hx hb dX0_areSoundTogether_36 (by decide) (fun h_3 => ?_) (fun h_3 => ?_)
      · have hm := hm.trans (if_pos h_3)
        refine lv_lload_n hx hb dX0_areSoundTogether_41 rfl (lv_at hl 0 rfl) ?_
        refine lv_lload_n hx hb dX0_areSoundTogether_42 rfl (lv_at hl 1 rfl) ?_
        refine pc_S hC (c_X0_monthsUpTo l p0 p1) (gS w_221 w_222 w_26 w_223) kk_X0_monthsUpTo ⟨Nat.le_of_ble_eq_true rfl, Nat.le_of_ble_eq_true rfl⟩ ⟨Nat.le_of_ble_eq_true rfl, Nat.le_of_ble_eq_true rfl⟩ hl.1 rfl rfl (Nat.le_of_ble_eq_true rfl) dX0_areSoundTogether_43 ?_
        refine lv_i2l hx hb dX0_areSoundTogether_46 rfl ?_
        refine lv_lstore (lv' := [(4, .long ((m_X0_monthsUpTo p0 p1).toInt64)), (0, .long p0), (2, .long p1)]) hx hb dX0_areSoundTogether_47 hl (by decide) rfl (fun ls hl => ?_)
        refine lv_lload_n hx hb dX0_areSoundTogether_49 rfl (lv_at hl 1 rfl) ?_
        refine lv_lload hx hb dX0_areSoundTogether_50 (lv_at hl 0 rfl) ?_
        refine pc_S hC (c_X0_monthsLater l p0 ((m_X0_monthsUpTo p0 p1).toInt64)) (gS w_224 w_225 w_26 w_226) kk_X0_monthsLater ⟨Nat.le_of_ble_eq_true rfl, Nat.le_of_ble_eq_true rfl⟩ ⟨Nat.le_of_ble_eq_true rfl, Nat.le_of_ble_eq_true rfl⟩ hl.1 rfl rfl (Nat.le_of_ble_eq_true rfl) dX0_areSoundTogether_52 ?_
        refine lv_lload_n hx hb dX0_areSoundTogether_55 rfl (lv_at hl 1 rfl) ?_
        refine lv_lload_n hx hb dX0_areSoundTogether_56 rfl (lv_at hl 2 rfl) ?_
        refine pc_S hC (c_X0_daysBehindMonths l p0 p1) (gS w_231 w_232 w_26 w_233) kk_X0_daysBehindMonths ⟨Nat.le_of_ble_eq_true rfl, Nat.le_of_ble_eq_true rfl⟩ ⟨Nat.le_of_ble_eq_true rfl, Nat.le_of_ble_eq_true rfl⟩ hl.1 rfl rfl (Nat.le_of_ble_eq_true rfl) dX0_areSoundTogether_57 ?_
        refine lv_i2l hx hb dX0_areSoundTogether_60 rfl ?_
        refine pc_S hC (c_X0_daysLater l (m_X0_monthsLater p0 ((m_X0_monthsUpTo p0 p1).toInt64)) ((m_X0_daysBehindMonths p0 p1).toInt64)) (gS w_162 w_163 w_26 w_164) kk_X0_daysLater ⟨Nat.le_of_ble_eq_true rfl, Nat.le_of_ble_eq_true rfl⟩ ⟨Nat.le_of_ble_eq_true rfl, Nat.le_of_ble_eq_true rfl⟩ hl.1 rfl rfl (Nat.le_of_ble_eq_true rfl) dX0_areSoundTogether_61 ?_
        refine lv_lload_n hx hb dX0_areSoundTogether_64 rfl (lv_at hl 2 rfl) ?_
        refine W.lcmp hx hb dX0_areSoundTogether_65 ?_
        refine lv_if_ne (tgt := 73) hx hb dX0_areSoundTogether_66 (by decide) (fun h_4 => ?_) (fun h_4 => ?_)
        · have hm := hm.trans (if_neg h_4)
          refine lv_iconst (v := 0) hx hb dX0_areSoundTogether_73 (by decide) ?_
          have hm : m_X0_areSoundTogether p0 p1 = (0 : Int32) := hm
          exact W.zret (v := (0 : Int32)) (ty := .boolean) hx hb hr rfl (fun t ht _ => ⟨by rw [hm], ht⟩) (fun _ h => absurd h List.not_mem_nil) dX0_areSoundTogether_74
        · have hm := hm.trans (if_pos h_4)
          refine lv_iconst (v := 1) hx hb dX0_areSoundTogether_69 (by decide) ?_
          refine lv_goto (tgt := 74) hx hb dX0_areSoundTogether_70 (by decide) ?_
          have hm : m_X0_areSoundTogether p0 p1 = (1 : Int32) := hm
          exact W.zret (v := (1 : Int32)) (ty := .boolean) hx hb hr rfl (fun t ht _ => ⟨by rw [hm], ht⟩) (fun _ h => absurd h List.not_mem_nil) dX0_areSoundTogether_74
      · have hm := hm.trans (if_neg h_3)
        refine lv_iconst (v := 1) hx hb dX0_areSoundTogether_39 (by decide) ?_
        have hm : m_X0_areSoundTogether p0 p1 = (1 : Int32) := hm
        exact W.zret (v := (1 : Int32)) (ty := .boolean) hx hb hr rfl (fun t ht _ => ⟨by rw [hm], ht⟩) (fun _ h => absurd h List.not_mem_nil) dX0_areSoundTogether_40
    · have hm := hm.trans (if_neg h_2)
      refine lv_iconst (v := 1) hx hb dX0_areSoundTogether_23 (by decide) ?_
      refine lv_goto (tgt := 28) hx hb dX0_areSoundTogether_24 (by decide) ?_
      refine lv_icmp_eq (tgt := 33) hx hb dX0_areSoundTogether_28 (by decide) (fun h => absurd h (by decide)) (fun _ => ?_)
      refine lv_iconst (v := 0) hx hb dX0_areSoundTogether_31 (by decide) ?_
      have hm : m_X0_areSoundTogether p0 p1 = (0 : Int32) := hm
      exact W.zret (v := (0 : Int32)) (ty := .boolean) hx hb hr rfl (fun t ht _ => ⟨by rw [hm], ht⟩) (fun _ h => absurd h List.not_mem_nil) dX0_areSoundTogether_32
  · have hm := hm.trans (if_neg h_1)
    refine lv_iconst (v := 1) hx hb dX0_areSoundTogether_6 (by decide) ?_
    refine lv_goto (tgt := 11) hx hb dX0_areSoundTogether_7 (by decide) ?_
    refine lv_lload_n hx hb dX0_areSoundTogether_11 rfl (lv_at hl 0 rfl) ?_
    refine pc_S hC (c_X0_numberOf l p0) (gS w_165 w_166 w_26 w_167) kk_X0_numberOf ⟨Nat.le_of_ble_eq_true rfl, Nat.le_of_ble_eq_true rfl⟩ ⟨Nat.le_of_ble_eq_true rfl, Nat.le_of_ble_eq_true rfl⟩ hl.1 rfl rfl (Nat.le_of_ble_eq_true rfl) dX0_areSoundTogether_12 ?_
    refine lv_lload_n hx hb dX0_areSoundTogether_15 rfl (lv_at hl 1 rfl) ?_
    refine pc_S hC (c_X0_numberOf l p1) (gS w_165 w_166 w_26 w_167) kk_X0_numberOf ⟨Nat.le_of_ble_eq_true rfl, Nat.le_of_ble_eq_true rfl⟩ ⟨Nat.le_of_ble_eq_true rfl, Nat.le_of_ble_eq_true rfl⟩ hl.1 rfl rfl (Nat.le_of_ble_eq_true rfl) dX0_areSoundTogether_16 ?_
    refine W.lcmp hx hb dX0_areSoundTogether_19 ?_
    refine lv_if_ge (tgt := 27) hx hb dX0_areSoundTogether_20 (by decide) (fun h_5 => ?_) (fun h_5 => ?_)
    · have hm := hm.trans (if_pos h_5)
      refine lv_iconst (v := 0) hx hb dX0_areSoundTogether_27 (by decide) ?_
      refine lv_icmp_eq (tgt := 33) hx hb dX0_areSoundTogether_28 (by decide) (fun h => absurd h (by decide)) (fun _ => ?_)
      refine lv_iconst (v := 0) hx hb dX0_areSoundTogether_31 (by decide) ?_
      have hm : m_X0_areSoundTogether p0 p1 = (0 : Int32) := hm
      exact W.zret (v := (0 : Int32)) (ty := .boolean) hx hb hr rfl (fun t ht _ => ⟨by rw [hm], ht⟩) (fun _ h => absurd h List.not_mem_nil) dX0_areSoundTogether_32
    · have hm := hm.trans (if_neg h_5)
      refine lv_iconst (v := 1) hx hb dX0_areSoundTogether_23 (by decide) ?_
      refine lv_goto (tgt := 28) hx hb dX0_areSoundTogether_24 (by decide) ?_
      refine lv_icmp_eq (tgt := 33) hx hb dX0_areSoundTogether_28 (by decide) (fun _ => ?_) (fun h => absurd h (by decide))
      refine lv_lload_n hx hb dX0_areSoundTogether_33 rfl (lv_at hl 1 rfl) ?_
      refine lv_lload_n hx hb dX0_areSoundTogether_34 rfl (lv_at hl 0 rfl) ?_
      refine W.lcmp hx hb dX0_areSoundTogether_35 ?_
      refine lv_if_ge (tgt := 41) hx hb dX0_areSoundTogether_36 (by decide) (fun h_6 => ?_) (fun h_6 => ?_)
      · have hm := hm.trans (if_pos h_6)
        refine lv_lload_n hx hb dX0_areSoundTogether_41 rfl (lv_at hl 0 rfl) ?_
        refine lv_lload_n hx hb dX0_areSoundTogether_42 rfl (lv_at hl 1 rfl) ?_
        refine pc_S hC (c_X0_monthsUpTo l p0 p1) (gS w_221 w_222 w_26 w_223) kk_X0_monthsUpTo ⟨Nat.le_of_ble_eq_true rfl, Nat.le_of_ble_eq_true rfl⟩ ⟨Nat.le_of_ble_eq_true rfl, Nat.le_of_ble_eq_true rfl⟩ hl.1 rfl rfl (Nat.le_of_ble_eq_true rfl) dX0_areSoundTogether_43 ?_
        refine lv_i2l hx hb dX0_areSoundTogether_46 rfl ?_
        refine lv_lstore (lv' := [(4, .long ((m_X0_monthsUpTo p0 p1).toInt64)), (0, .long p0), (2, .long p1)]) hx hb dX0_areSoundTogether_47 hl (by decide) rfl (fun ls hl => ?_)
        refine lv_lload_n hx hb dX0_areSoundTogether_49 rfl (lv_at hl 1 rfl) ?_
        refine lv_lload hx hb dX0_areSoundTogether_50 (lv_at hl 0 rfl) ?_
        refine pc_S hC (c_X0_monthsLater l p0 ((m_X0_monthsUpTo p0 p1).toInt64)) (gS w_224 w_225 w_26 w_226) kk_X0_monthsLater ⟨Nat.le_of_ble_eq_true rfl, Nat.le_of_ble_eq_true rfl⟩ ⟨Nat.le_of_ble_eq_true rfl, Nat.le_of_ble_eq_true rfl⟩ hl.1 rfl rfl (Nat.le_of_ble_eq_true rfl) dX0_areSoundTogether_52 ?_
        refine lv_lload_n hx hb dX0_areSoundTogether_55 rfl (lv_at hl 1 rfl) ?_
        refine lv_lload_n hx hb dX0_areSoundTogether_56 rfl (lv_at hl 2 rfl) ?_
        refine pc_S hC (c_X0_daysBehindMonths l p0 p1) (gS w_231 w_232 w_26 w_233) kk_X0_daysBehindMonths ⟨Nat.le_of_ble_eq_true rfl, Nat.le_of_ble_eq_true rfl⟩ ⟨Nat.le_of_ble_eq_true rfl, Nat.le_of_ble_eq_true rfl⟩ hl.1 rfl rfl (Nat.le_of_ble_eq_true rfl) dX0_areSoundTogether_57 ?_
        refine lv_i2l hx hb dX0_areSoundTogether_60 rfl ?_
        refine pc_S hC (c_X0_daysLater l (m_X0_monthsLater p0 ((m_X0_monthsUpTo p0 p1).toInt64)) ((m_X0_daysBehindMonths p0 p1).toInt64)) (gS w_162 w_163 w_26 w_164) kk_X0_daysLater ⟨Nat.le_of_ble_eq_true rfl, Nat.le_of_ble_eq_true rfl⟩ ⟨Nat.le_of_ble_eq_true rfl, Nat.le_of_ble_eq_true rfl⟩ hl.1 rfl rfl (Nat.le_of_ble_eq_true rfl) dX0_areSoundTogether_61 ?_
        refine lv_lload_n hx hb dX0_areSoundTogether_64 rfl (lv_at hl 2 rfl) ?_
        refine W.lcmp hx hb dX0_areSoundTogether_65 ?_
        refine lv_if_ne (tgt := 73) hx hb dX0_areSoundTogether_66 (by decide) (fun h_7 => ?_) (fun h_7 => ?_)
        · have hm := hm.trans (if_neg h_7)
          refine lv_iconst (v := 0) hx hb dX0_areSoundTogether_73 (by decide) ?_
          have hm : m_X0_areSoundTogether p0 p1 = (0 : Int32) := hm
          exact W.zret (v := (0 : Int32)) (ty := .boolean) hx hb hr rfl (fun t ht _ => ⟨by rw [hm], ht⟩) (fun _ h => absurd h List.not_mem_nil) dX0_areSoundTogether_74
        · have hm := hm.trans (if_pos h_7)
          refine lv_iconst (v := 1) hx hb dX0_areSoundTogether_69 (by decide) ?_
          refine lv_goto (tgt := 74) hx hb dX0_areSoundTogether_70 (by decide) ?_
          have hm : m_X0_areSoundTogether p0 p1 = (1 : Int32) := hm
          exact W.zret (v := (1 : Int32)) (ty := .boolean) hx hb hr rfl (fun t ht _ => ⟨by rw [hm], ht⟩) (fun _ h => absurd h List.not_mem_nil) dX0_areSoundTogether_74
      · have hm := hm.trans (if_neg h_6)
        refine lv_iconst (v := 1) hx hb dX0_areSoundTogether_39 (by decide) ?_
        have hm : m_X0_areSoundTogether p0 p1 = (1 : Int32) := hm
        exact W.zret (v := (1 : Int32)) (ty := .boolean) hx hb hr rfl (fun t ht _ => ⟨by rw [hm], ht⟩) (fun _ h => absurd h List.not_mem_nil) dX0_areSoundTogether_40
def m_X0_digestValue (p0 : Int64) (p1 : Int64) : Int64 := (p0 * (31 : Int64)) + p1
theorem kk_X0_digestValue : pK yX0_digestValue wsX0_digestValue cX0_digestValue 4 (some .long) 2 := ⟨⟨_, rfl⟩, by decide +kernel, by decide +kernel, by decide +kernel⟩
set_option maxRecDepth 100000 in
set_option maxHeartbeats 4000000 in
theorem c_X0_digestValue (l : Launch) (p0 : Int64) (p1 : Int64) : pM l yX0_digestValue wsX0_digestValue 0 0 [.long p0, .long p1] (.long (m_X0_digestValue p0 p1)) := by
  refine Met.ofW (cc := cX0_digestValue) (maxL := 4) (ret := (some .long)) (by decide) rfl ?_
  intro p e s m args below meth c s₁ B hml hv
  subst hv
  have hx := B.exec
  have hb := B.bytes
  have hr := B.returns
  have hts := atoms_spec (ws := wsX0_digestValue) B.pre
  have hown : s.vm.findClass RX0 = some m.cls := findClass_of_methodNamed B.named
  have hlocks := B.notSynchronized
  have htg : ∀ w ∈ GL, w.before _ s = true := fun w h => hts w (List.mem_cons_of_mem _ h)
  have hC : CallFix p m c cX0_digestValue 4 s _ wsX0_digestValue RX0 := ⟨hx, hb, hml, hown, hts⟩
  have hl := lv_entry ([.long p0, .long p1]) (n := 4) (Nat.le_of_ble_eq_true rfl)
  rw [lg_entry_eq]
  generalize (lg_sl ([.long p0, .long p1]) ++ List.replicate (4 - (lg_sl ([.long p0, .long p1])).length) Slot.unset).toArray = ls at hl ⊢
  have hl : lv_has ls 4 [(0, .long p0), (2, .long p1)] := hl
  have hm : m_X0_digestValue p0 p1 = m_X0_digestValue p0 p1 := rfl
  refine lv_lload_n hx hb dX0_digestValue_0 rfl (lv_at hl 0 rfl) ?_
  refine lv_ldc2 hx hb hown (htg _ w_249) dX0_digestValue_1 ?_
  refine lv_lmul hx hb dX0_digestValue_4 ?_
  refine lv_lload_n hx hb dX0_digestValue_5 rfl (lv_at hl 1 rfl) ?_
  refine lv_ladd hx hb dX0_digestValue_6 ?_
  have hm : m_X0_digestValue p0 p1 = (p0 * (31 : Int64)) + p1 := hm
  exact W.lret (v := (p0 * (31 : Int64)) + p1) hx hb hr (fun t ht _ => ⟨by rw [hm], ht⟩) (fun _ h => absurd h List.not_mem_nil) dX0_digestValue_7
