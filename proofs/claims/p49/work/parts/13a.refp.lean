def m_X3_isIn (p0 : Int64) (p1 : Int64) (p2 : Int64) : Int32 := (if lg_cmp p0 p1 < 0 then (0 : Int32) else (if 0 < lg_cmp p0 p2 then (0 : Int32) else (1 : Int32)))
theorem kk_X3_isIn : pK yX3_isIn wsX3_isIn cX3_isIn 6 (some .boolean) 3 := ⟨⟨_, rfl⟩, by decide +kernel, by decide +kernel, by decide +kernel⟩
theorem nb_X3_isIn (p0 : Int64) (p1 : Int64) (p2 : Int64) : narrow .boolean (.int (m_X3_isIn p0 p1 p2)) = .int (m_X3_isIn p0 p1 p2) := by
  unfold m_X3_isIn
  repeat' split
  all_goals rfl
set_option maxRecDepth 100000 in
set_option maxHeartbeats 4000000 in
theorem c_X3_isIn (l : Launch) (p0 : Int64) (p1 : Int64) (p2 : Int64) : pM l yX3_isIn wsX3_isIn 0 0 [.long p0, .long p1, .long p2] (.int (m_X3_isIn p0 p1 p2)) := by
  refine Met.ofW (cc := cX3_isIn) (maxL := 6) (ret := (some .boolean)) (by decide) rfl ?_
  intro p e s m args below meth c s₁ B hml hv
  subst hv
  have hx := B.exec
  have hb := B.bytes
  have hr := B.returns
  have hts := atoms_spec (ws := wsX3_isIn) B.pre
  have hown : s.vm.findClass RX3 = some m.cls := findClass_of_methodNamed B.named
  have hlocks := B.notSynchronized
  have htg : ∀ w ∈ GL, w.before _ s = true := fun w h => hts w (List.mem_cons_of_mem _ h)
  have hC : CallFix p m c cX3_isIn 6 s _ wsX3_isIn RX3 := ⟨hx, hb, hml, hown, hts⟩
  have hl := lv_entry ([.long p0, .long p1, .long p2]) (n := 6) (Nat.le_of_ble_eq_true rfl)
  rw [lg_entry_eq]
  generalize (lg_sl ([.long p0, .long p1, .long p2]) ++ List.replicate (6 - (lg_sl ([.long p0, .long p1, .long p2])).length) Slot.unset).toArray = ls at hl ⊢
  have hl : lv_has ls 6 [(0, .long p0), (2, .long p1), (4, .long p2)] := hl
  have hm : m_X3_isIn p0 p1 p2 = m_X3_isIn p0 p1 p2 := rfl
  refine lv_lload_n hx hb dX3_isIn_0 rfl (lv_at hl 0 rfl) ?_
  refine lv_lload_n hx hb dX3_isIn_1 rfl (lv_at hl 1 rfl) ?_
  refine W.lcmp hx hb dX3_isIn_2 ?_
  refine lv_if_lt (tgt := 17) hx hb dX3_isIn_3 (by decide) (fun h_1 => ?_) (fun h_1 => ?_)
  · have hm := hm.trans (if_pos h_1)
    refine lv_iconst (v := 0) hx hb dX3_isIn_17 (by decide) ?_
    have hm : m_X3_isIn p0 p1 p2 = (0 : Int32) := hm
    exact W.zret (v := (0 : Int32)) (ty := .boolean) hx hb hr rfl (fun t ht _ => ⟨by rw [hm], ht⟩) (fun _ h => absurd h List.not_mem_nil) dX3_isIn_18
  · have hm := hm.trans (if_neg h_1)
    refine lv_lload_n hx hb dX3_isIn_6 rfl (lv_at hl 0 rfl) ?_
    refine lv_lload hx hb dX3_isIn_7 (lv_at hl 2 rfl) ?_
    refine W.lcmp hx hb dX3_isIn_9 ?_
    refine lv_if_gt (tgt := 17) hx hb dX3_isIn_10 (by decide) (fun h_2 => ?_) (fun h_2 => ?_)
    · have hm := hm.trans (if_pos h_2)
      refine lv_iconst (v := 0) hx hb dX3_isIn_17 (by decide) ?_
      have hm : m_X3_isIn p0 p1 p2 = (0 : Int32) := hm
      exact W.zret (v := (0 : Int32)) (ty := .boolean) hx hb hr rfl (fun t ht _ => ⟨by rw [hm], ht⟩) (fun _ h => absurd h List.not_mem_nil) dX3_isIn_18
    · have hm := hm.trans (if_neg h_2)
      refine lv_iconst (v := 1) hx hb dX3_isIn_13 (by decide) ?_
      refine lv_goto (tgt := 18) hx hb dX3_isIn_14 (by decide) ?_
      have hm : m_X3_isIn p0 p1 p2 = (1 : Int32) := hm
      exact W.zret (v := (1 : Int32)) (ty := .boolean) hx hb hr rfl (fun t ht _ => ⟨by rw [hm], ht⟩) (fun _ h => absurd h List.not_mem_nil) dX3_isIn_18
def m_X3_one (p0 : Int32) : Int32 := (if p0 = 0 then (0 : Int32) else (1 : Int32))
theorem kk_X3_one : pK yX3_one wsX3_one cX3_one 1 (some .int) 1 := ⟨⟨_, rfl⟩, by decide +kernel, by decide +kernel, by decide +kernel⟩
set_option maxRecDepth 100000 in
set_option maxHeartbeats 4000000 in
theorem c_X3_one (l : Launch) (p0 : Int32) : pM l yX3_one wsX3_one 0 0 [.int p0] (.int (m_X3_one p0)) := by
  refine Met.ofW (cc := cX3_one) (maxL := 1) (ret := (some .int)) (by decide) rfl ?_
  intro p e s m args below meth c s₁ B hml hv
  subst hv
  have hx := B.exec
  have hb := B.bytes
  have hr := B.returns
  have hts := atoms_spec (ws := wsX3_one) B.pre
  have hown : s.vm.findClass RX3 = some m.cls := findClass_of_methodNamed B.named
  have hlocks := B.notSynchronized
  have htg : ∀ w ∈ GL, w.before _ s = true := fun w h => hts w (List.mem_cons_of_mem _ h)
  have hC : CallFix p m c cX3_one 1 s _ wsX3_one RX3 := ⟨hx, hb, hml, hown, hts⟩
  have hl := lv_entry ([.int p0]) (n := 1) (Nat.le_of_ble_eq_true rfl)
  rw [lg_entry_eq]
  generalize (lg_sl ([.int p0]) ++ List.replicate (1 - (lg_sl ([.int p0])).length) Slot.unset).toArray = ls at hl ⊢
  have hl : lv_has ls 1 [(0, .int p0)] := hl
  have hm : m_X3_one p0 = m_X3_one p0 := rfl
  refine lv_iload_n hx hb dX3_one_0 rfl (lv_at hl 0 rfl) ?_
  refine lv_if_eq (tgt := 8) hx hb dX3_one_1 (by decide) (fun h_1 => ?_) (fun h_1 => ?_)
  · have hm := hm.trans (if_pos h_1)
    refine lv_iconst (v := 0) hx hb dX3_one_8 (by decide) ?_
    have hm : m_X3_one p0 = (0 : Int32) := hm
    exact W.iret (v := (0 : Int32)) hx hb hr (fun t ht _ => ⟨by rw [hm], ht⟩) (fun _ h => absurd h List.not_mem_nil) dX3_one_9
  · have hm := hm.trans (if_neg h_1)
    refine lv_iconst (v := 1) hx hb dX3_one_4 (by decide) ?_
    refine lv_goto (tgt := 9) hx hb dX3_one_5 (by decide) ?_
    have hm : m_X3_one p0 = (1 : Int32) := hm
    exact W.iret (v := (1 : Int32)) hx hb hr (fun t ht _ => ⟨by rw [hm], ht⟩) (fun _ h => absurd h List.not_mem_nil) dX3_one_9
def m_X3_share (p0 : Int64) (p1 : Int64) : Int64 := (if lg_cmp p0 (0 : Int64) < 0 then -(((p1 - (1 : Int64)) - p0) / p1) else p0 / p1)
theorem kk_X3_share : pK yX3_share wsX3_share cX3_share 4 (some .long) 2 := ⟨⟨_, rfl⟩, by decide +kernel, by decide +kernel, by decide +kernel⟩
set_option maxRecDepth 100000 in
set_option maxHeartbeats 4000000 in
theorem c_X3_share (l : Launch) (p0 : Int64) (p1 : Int64) (hz_p1 : ¬ p1 = 0) : pM l yX3_share wsX3_share 0 0 [.long p0, .long p1] (.long (m_X3_share p0 p1)) := by
  refine Met.ofW (cc := cX3_share) (maxL := 4) (ret := (some .long)) (by decide) rfl ?_
  intro p e s m args below meth c s₁ B hml hv
  subst hv
  have hx := B.exec
  have hb := B.bytes
  have hr := B.returns
  have hts := atoms_spec (ws := wsX3_share) B.pre
  have hown : s.vm.findClass RX3 = some m.cls := findClass_of_methodNamed B.named
  have hlocks := B.notSynchronized
  have htg : ∀ w ∈ GL, w.before _ s = true := fun w h => hts w (List.mem_cons_of_mem _ h)
  have hC : CallFix p m c cX3_share 4 s _ wsX3_share RX3 := ⟨hx, hb, hml, hown, hts⟩
  have hl := lv_entry ([.long p0, .long p1]) (n := 4) (Nat.le_of_ble_eq_true rfl)
  rw [lg_entry_eq]
  generalize (lg_sl ([.long p0, .long p1]) ++ List.replicate (4 - (lg_sl ([.long p0, .long p1])).length) Slot.unset).toArray = ls at hl ⊢
  have hl : lv_has ls 4 [(0, .long p0), (2, .long p1)] := hl
  have hm : m_X3_share p0 p1 = m_X3_share p0 p1 := rfl
  refine lv_lload_n hx hb dX3_share_0 rfl (lv_at hl 0 rfl) ?_
  refine lv_lconst (v := 0) hx hb dX3_share_1 (by decide) ?_
  refine W.lcmp hx hb dX3_share_2 ?_
  refine lv_if_lt (tgt := 12) hx hb dX3_share_3 (by decide) (fun h_1 => ?_) (fun h_1 => ?_)
  · have hm := hm.trans (if_pos h_1)
    refine lv_lload_n hx hb dX3_share_12 rfl (lv_at hl 1 rfl) ?_
    refine lv_lconst (v := 1) hx hb dX3_share_13 (by decide) ?_
    refine lv_lsub hx hb dX3_share_14 ?_
    refine lv_lload_n hx hb dX3_share_15 rfl (lv_at hl 0 rfl) ?_
    refine lv_lsub hx hb dX3_share_16 ?_
    refine lv_lload_n hx hb dX3_share_17 rfl (lv_at hl 1 rfl) ?_
    refine lv_ldiv hx hb dX3_share_18 hz_p1 ?_
    refine lv_lneg hx hb dX3_share_19 ?_
    have hm : m_X3_share p0 p1 = -(((p1 - (1 : Int64)) - p0) / p1) := hm
    exact W.lret (v := -(((p1 - (1 : Int64)) - p0) / p1)) hx hb hr (fun t ht _ => ⟨by rw [hm], ht⟩) (fun _ h => absurd h List.not_mem_nil) dX3_share_20
  · have hm := hm.trans (if_neg h_1)
    refine lv_lload_n hx hb dX3_share_6 rfl (lv_at hl 0 rfl) ?_
    refine lv_lload_n hx hb dX3_share_7 rfl (lv_at hl 1 rfl) ?_
    refine lv_ldiv hx hb dX3_share_8 hz_p1 ?_
    refine lv_goto (tgt := 20) hx hb dX3_share_9 (by decide) ?_
    have hm : m_X3_share p0 p1 = p0 / p1 := hm
    exact W.lret (v := p0 / p1) hx hb hr (fun t ht _ => ⟨by rw [hm], ht⟩) (fun _ h => absurd h List.not_mem_nil) dX3_share_20
def m_X3_rest (p0 : Int64) (p1 : Int64) : Int64 := p0 - (p1 * (m_X3_share p0 p1))
theorem kk_X3_rest : pK yX3_rest wsX3_rest cX3_rest 4 (some .long) 2 := ⟨⟨_, rfl⟩, by decide +kernel, by decide +kernel, by decide +kernel⟩
set_option maxRecDepth 100000 in
set_option maxHeartbeats 4000000 in
theorem c_X3_rest (l : Launch) (p0 : Int64) (p1 : Int64) (hz_p1 : ¬ p1 = 0) : pM l yX3_rest wsX3_rest 1 23 [.long p0, .long p1] (.long (m_X3_rest p0 p1)) := by
  refine Met.ofW (cc := cX3_rest) (maxL := 4) (ret := (some .long)) (by decide) rfl ?_
  intro p e s m args below meth c s₁ B hml hv
  subst hv
  have hx := B.exec
  have hb := B.bytes
  have hr := B.returns
  have hts := atoms_spec (ws := wsX3_rest) B.pre
  have hown : s.vm.findClass RX3 = some m.cls := findClass_of_methodNamed B.named
  have hlocks := B.notSynchronized
  have htg : ∀ w ∈ GL, w.before _ s = true := fun w h => hts w (List.mem_cons_of_mem _ h)
  have hC : CallFix p m c cX3_rest 4 s _ wsX3_rest RX3 := ⟨hx, hb, hml, hown, hts⟩
  have hl := lv_entry ([.long p0, .long p1]) (n := 4) (Nat.le_of_ble_eq_true rfl)
  rw [lg_entry_eq]
  generalize (lg_sl ([.long p0, .long p1]) ++ List.replicate (4 - (lg_sl ([.long p0, .long p1])).length) Slot.unset).toArray = ls at hl ⊢
  have hl : lv_has ls 4 [(0, .long p0), (2, .long p1)] := hl
  have hm : m_X3_rest p0 p1 = m_X3_rest p0 p1 := rfl
  refine lv_lload_n hx hb dX3_rest_0 rfl (lv_at hl 0 rfl) ?_
  refine lv_lload_n hx hb dX3_rest_1 rfl (lv_at hl 1 rfl) ?_
  refine lv_lload_n hx hb dX3_rest_2 rfl (lv_at hl 0 rfl) ?_
  refine lv_lload_n hx hb dX3_rest_3 rfl (lv_at hl 1 rfl) ?_
  refine pc_S hC (c_X3_share l p0 p1 hz_p1) (gS w_1088 w_1067 w_27 w_1068) kk_X3_share ⟨Nat.le_of_ble_eq_true rfl, Nat.le_of_ble_eq_true rfl⟩ ⟨Nat.le_of_ble_eq_true rfl, Nat.le_of_ble_eq_true rfl⟩ hl.1 rfl rfl (Nat.le_of_ble_eq_true rfl) dX3_rest_4 ?_
  refine lv_lmul hx hb dX3_rest_7 ?_
  refine lv_lsub hx hb dX3_rest_8 ?_
  have hm : m_X3_rest p0 p1 = p0 - (p1 * (m_X3_share p0 p1)) := hm
  exact W.lret (v := p0 - (p1 * (m_X3_share p0 p1))) hx hb hr (fun t ht _ => ⟨by rw [hm], ht⟩) (fun _ h => absurd h List.not_mem_nil) dX3_rest_9
def m_X3_isLeap (p0 : Int32) : Int32 := (if p0 - p0 / (4 : Int32) * (4 : Int32) = 0 then (if p0 - p0 / (100 : Int32) * (100 : Int32) = 0 then (if p0 - p0 / (400 : Int32) * (400 : Int32) = 0 then (1 : Int32) else (0 : Int32)) else (1 : Int32)) else (0 : Int32))
theorem kk_X3_isLeap : pK yX3_isLeap wsX3_isLeap cX3_isLeap 1 (some .boolean) 1 := ⟨⟨_, rfl⟩, by decide +kernel, by decide +kernel, by decide +kernel⟩
theorem nb_X3_isLeap (p0 : Int32) : narrow .boolean (.int (m_X3_isLeap p0)) = .int (m_X3_isLeap p0) := by
  unfold m_X3_isLeap
  repeat' split
  all_goals rfl
set_option maxRecDepth 100000 in
set_option maxHeartbeats 4000000 in
theorem c_X3_isLeap (l : Launch) (p0 : Int32) : pM l yX3_isLeap wsX3_isLeap 0 0 [.int p0] (.int (m_X3_isLeap p0)) := by
  refine Met.ofW (cc := cX3_isLeap) (maxL := 1) (ret := (some .boolean)) (by decide) rfl ?_
  intro p e s m args below meth c s₁ B hml hv
  subst hv
  have hx := B.exec
  have hb := B.bytes
  have hr := B.returns
  have hts := atoms_spec (ws := wsX3_isLeap) B.pre
  have hown : s.vm.findClass RX3 = some m.cls := findClass_of_methodNamed B.named
  have hlocks := B.notSynchronized
  have htg : ∀ w ∈ GL, w.before _ s = true := fun w h => hts w (List.mem_cons_of_mem _ h)
  have hC : CallFix p m c cX3_isLeap 1 s _ wsX3_isLeap RX3 := ⟨hx, hb, hml, hown, hts⟩
  have hl := lv_entry ([.int p0]) (n := 1) (Nat.le_of_ble_eq_true rfl)
  rw [lg_entry_eq]
  generalize (lg_sl ([.int p0]) ++ List.replicate (1 - (lg_sl ([.int p0])).length) Slot.unset).toArray = ls at hl ⊢
  have hl : lv_has ls 1 [(0, .int p0)] := hl
  have hm : m_X3_isLeap p0 = m_X3_isLeap p0 := rfl
  refine lv_iload_n hx hb dX3_isLeap_0 rfl (lv_at hl 0 rfl) ?_
  refine lv_iconst (v := 4) hx hb dX3_isLeap_1 (by decide) ?_
  refine lv_irem hx hb dX3_isLeap_2 (by decide) ?_
  refine lv_if_eq (tgt := 8) hx hb dX3_isLeap_3 (by decide) (fun h_1 => ?_) (fun h_1 => ?_)
  · have hm := hm.trans (if_pos h_1)
    refine lv_iload_n hx hb dX3_isLeap_8 rfl (lv_at hl 0 rfl) ?_
    refine lv_bipush (v := 100) hx hb dX3_isLeap_9 (by decide) ?_
    refine lv_irem hx hb dX3_isLeap_11 (by decide) ?_
    refine lv_if_ne (tgt := 23) hx hb dX3_isLeap_12 (by decide) (fun h_2 => ?_) (fun h_2 => ?_)
    · have hm := hm.trans (if_neg h_2)
      refine lv_iconst (v := 1) hx hb dX3_isLeap_23 (by decide) ?_
      refine lv_goto (tgt := 28) hx hb dX3_isLeap_24 (by decide) ?_
      have hm : m_X3_isLeap p0 = (1 : Int32) := hm
      exact W.zret (v := (1 : Int32)) (ty := .boolean) hx hb hr rfl (fun t ht _ => ⟨by rw [hm], ht⟩) (fun _ h => absurd h List.not_mem_nil) dX3_isLeap_28
    · have hm := hm.trans (if_pos h_2)
      refine lv_iload_n hx hb dX3_isLeap_15 rfl (lv_at hl 0 rfl) ?_
      refine lv_sipush (v := 400) hx hb dX3_isLeap_16 (by decide) ?_
      refine lv_irem hx hb dX3_isLeap_19 (by decide) ?_
      refine lv_if_ne (tgt := 27) hx hb dX3_isLeap_20 (by decide) (fun h_3 => ?_) (fun h_3 => ?_)
      · have hm := hm.trans (if_neg h_3)
        refine lv_iconst (v := 0) hx hb dX3_isLeap_27 (by decide) ?_
        have hm : m_X3_isLeap p0 = (0 : Int32) := hm
        exact W.zret (v := (0 : Int32)) (ty := .boolean) hx hb hr rfl (fun t ht _ => ⟨by rw [hm], ht⟩) (fun _ h => absurd h List.not_mem_nil) dX3_isLeap_28
      · have hm := hm.trans (if_pos h_3)
        refine lv_iconst (v := 1) hx hb dX3_isLeap_23 (by decide) ?_
        refine lv_goto (tgt := 28) hx hb dX3_isLeap_24 (by decide) ?_
        have hm : m_X3_isLeap p0 = (1 : Int32) := hm
        exact W.zret (v := (1 : Int32)) (ty := .boolean) hx hb hr rfl (fun t ht _ => ⟨by rw [hm], ht⟩) (fun _ h => absurd h List.not_mem_nil) dX3_isLeap_28
  · have hm := hm.trans (if_neg h_1)
    refine lv_iconst (v := 0) hx hb dX3_isLeap_6 (by decide) ?_
    have hm : m_X3_isLeap p0 = (0 : Int32) := hm
    exact W.zret (v := (0 : Int32)) (ty := .boolean) hx hb hr rfl (fun t ht _ => ⟨by rw [hm], ht⟩) (fun _ h => absurd h List.not_mem_nil) dX3_isLeap_7
def m_X3_lengthOf (p0 : Int32) : Int32 := (if m_X3_isLeap p0 = 0 then (365 : Int32) else (366 : Int32))
theorem kk_X3_lengthOf : pK yX3_lengthOf wsX3_lengthOf cX3_lengthOf 1 (some .int) 1 := ⟨⟨_, rfl⟩, by decide +kernel, by decide +kernel, by decide +kernel⟩
set_option maxRecDepth 100000 in
set_option maxHeartbeats 4000000 in
theorem c_X3_lengthOf (l : Launch) (p0 : Int32) : pM l yX3_lengthOf wsX3_lengthOf 1 20 [.int p0] (.int (m_X3_lengthOf p0)) := by
  refine Met.ofW (cc := cX3_lengthOf) (maxL := 1) (ret := (some .int)) (by decide) rfl ?_
  intro p e s m args below meth c s₁ B hml hv
  subst hv
  have hx := B.exec
  have hb := B.bytes
  have hr := B.returns
  have hts := atoms_spec (ws := wsX3_lengthOf) B.pre
  have hown : s.vm.findClass RX3 = some m.cls := findClass_of_methodNamed B.named
  have hlocks := B.notSynchronized
  have htg : ∀ w ∈ GL, w.before _ s = true := fun w h => hts w (List.mem_cons_of_mem _ h)
  have hC : CallFix p m c cX3_lengthOf 1 s _ wsX3_lengthOf RX3 := ⟨hx, hb, hml, hown, hts⟩
  have hl := lv_entry ([.int p0]) (n := 1) (Nat.le_of_ble_eq_true rfl)
  rw [lg_entry_eq]
  generalize (lg_sl ([.int p0]) ++ List.replicate (1 - (lg_sl ([.int p0])).length) Slot.unset).toArray = ls at hl ⊢
  have hl : lv_has ls 1 [(0, .int p0)] := hl
  have hm : m_X3_lengthOf p0 = m_X3_lengthOf p0 := rfl
  refine lv_iload_n hx hb dX3_lengthOf_0 rfl (lv_at hl 0 rfl) ?_
  refine pc_S hC (c_X3_isLeap l p0) (gS w_1052 w_1053 w_27 w_1054) kk_X3_isLeap ⟨Nat.le_of_ble_eq_true rfl, Nat.le_of_ble_eq_true rfl⟩ ⟨Nat.le_of_ble_eq_true rfl, Nat.le_of_ble_eq_true rfl⟩ hl.1 rfl rfl (Nat.le_of_ble_eq_true rfl) dX3_lengthOf_1 ?_
  refine lv_if_eq (tgt := 13) hx hb dX3_lengthOf_4 (by decide) (fun h_1 => ?_) (fun h_1 => ?_)
  · have hm := hm.trans (if_pos h_1)
    refine lv_sipush (v := 365) hx hb dX3_lengthOf_13 (by decide) ?_
    have hm : m_X3_lengthOf p0 = (365 : Int32) := hm
    exact W.iret (v := (365 : Int32)) hx hb hr (fun t ht _ => ⟨by rw [hm], ht⟩) (fun _ h => absurd h List.not_mem_nil) dX3_lengthOf_16
  · have hm := hm.trans (if_neg h_1)
    refine lv_sipush (v := 366) hx hb dX3_lengthOf_7 (by decide) ?_
    refine lv_goto (tgt := 16) hx hb dX3_lengthOf_10 (by decide) ?_
    have hm : m_X3_lengthOf p0 = (366 : Int32) := hm
    exact W.iret (v := (366 : Int32)) hx hb hr (fun t ht _ => ⟨by rw [hm], ht⟩) (fun _ h => absurd h List.not_mem_nil) dX3_lengthOf_16
def m_X3_isNo (p0 : Int32) : Int32 := (if m_X3_isIn p0.toInt64 (0 : Int64) (5 : Int64) = 0 then (1 : Int32) else (0 : Int32))
theorem kk_X3_isNo : pK yX3_isNo wsX3_isNo cX3_isNo 1 (some .boolean) 1 := ⟨⟨_, rfl⟩, by decide +kernel, by decide +kernel, by decide +kernel⟩
theorem nb_X3_isNo (p0 : Int32) : narrow .boolean (.int (m_X3_isNo p0)) = .int (m_X3_isNo p0) := by
  unfold m_X3_isNo
  repeat' split
  all_goals rfl
set_option maxRecDepth 100000 in
set_option maxHeartbeats 4000000 in
theorem c_X3_isNo (l : Launch) (p0 : Int32) : pM l yX3_isNo wsX3_isNo 1 25 [.int p0] (.int (m_X3_isNo p0)) := by
  refine Met.ofW (cc := cX3_isNo) (maxL := 1) (ret := (some .boolean)) (by decide) rfl ?_
  intro p e s m args below meth c s₁ B hml hv
  subst hv
  have hx := B.exec
  have hb := B.bytes
  have hr := B.returns
  have hts := atoms_spec (ws := wsX3_isNo) B.pre
  have hown : s.vm.findClass RX3 = some m.cls := findClass_of_methodNamed B.named
  have hlocks := B.notSynchronized
  have htg : ∀ w ∈ GL, w.before _ s = true := fun w h => hts w (List.mem_cons_of_mem _ h)
  have hC : CallFix p m c cX3_isNo 1 s _ wsX3_isNo RX3 := ⟨hx, hb, hml, hown, hts⟩
  have hl := lv_entry ([.int p0]) (n := 1) (Nat.le_of_ble_eq_true rfl)
  rw [lg_entry_eq]
  generalize (lg_sl ([.int p0]) ++ List.replicate (1 - (lg_sl ([.int p0])).length) Slot.unset).toArray = ls at hl ⊢
  have hl : lv_has ls 1 [(0, .int p0)] := hl
  have hm : m_X3_isNo p0 = m_X3_isNo p0 := rfl
  refine lv_iload_n hx hb dX3_isNo_0 rfl (lv_at hl 0 rfl) ?_
  refine lv_i2l hx hb dX3_isNo_1 rfl ?_
  refine lv_lconst (v := 0) hx hb dX3_isNo_2 (by decide) ?_
  refine lv_ldc2 hx hb hown (htg _ w_1048) dX3_isNo_3 ?_
  refine pc_S hC (c_X3_isIn l p0.toInt64 (0 : Int64) (5 : Int64)) (gS w_1040 w_1041 w_27 w_1042) kk_X3_isIn ⟨Nat.le_of_ble_eq_true rfl, Nat.le_of_ble_eq_true rfl⟩ ⟨Nat.le_of_ble_eq_true rfl, Nat.le_of_ble_eq_true rfl⟩ hl.1 rfl rfl (Nat.le_of_ble_eq_true rfl) dX3_isNo_6 ?_
  refine lv_if_ne (tgt := 16) hx hb dX3_isNo_9 (by decide) (fun h_1 => ?_) (fun h_1 => ?_)
  · have hm := hm.trans (if_neg h_1)
    refine lv_iconst (v := 0) hx hb dX3_isNo_16 (by decide) ?_
    have hm : m_X3_isNo p0 = (0 : Int32) := hm
    exact W.zret (v := (0 : Int32)) (ty := .boolean) hx hb hr rfl (fun t ht _ => ⟨by rw [hm], ht⟩) (fun _ h => absurd h List.not_mem_nil) dX3_isNo_17
  · have hm := hm.trans (if_pos h_1)
    refine lv_iconst (v := 1) hx hb dX3_isNo_12 (by decide) ?_
    refine lv_goto (tgt := 17) hx hb dX3_isNo_13 (by decide) ?_
    have hm : m_X3_isNo p0 = (1 : Int32) := hm
    exact W.zret (v := (1 : Int32)) (ty := .boolean) hx hb hr rfl (fun t ht _ => ⟨by rw [hm], ht⟩) (fun _ h => absurd h List.not_mem_nil) dX3_isNo_17
def m_X3_isNoSpan (p0 : Int32) : Int32 := (if m_X3_isIn p0.toInt64 (0 : Int64) (1 : Int64) = 0 then (1 : Int32) else (0 : Int32))
theorem kk_X3_isNoSpan : pK yX3_isNoSpan wsX3_isNoSpan cX3_isNoSpan 1 (some .boolean) 1 := ⟨⟨_, rfl⟩, by decide +kernel, by decide +kernel, by decide +kernel⟩
theorem nb_X3_isNoSpan (p0 : Int32) : narrow .boolean (.int (m_X3_isNoSpan p0)) = .int (m_X3_isNoSpan p0) := by
  unfold m_X3_isNoSpan
  repeat' split
  all_goals rfl
set_option maxRecDepth 100000 in
set_option maxHeartbeats 4000000 in
theorem c_X3_isNoSpan (l : Launch) (p0 : Int32) : pM l yX3_isNoSpan wsX3_isNoSpan 1 25 [.int p0] (.int (m_X3_isNoSpan p0)) := by
  refine Met.ofW (cc := cX3_isNoSpan) (maxL := 1) (ret := (some .boolean)) (by decide) rfl ?_
  intro p e s m args below meth c s₁ B hml hv
  subst hv
  have hx := B.exec
  have hb := B.bytes
  have hr := B.returns
  have hts := atoms_spec (ws := wsX3_isNoSpan) B.pre
  have hown : s.vm.findClass RX3 = some m.cls := findClass_of_methodNamed B.named
  have hlocks := B.notSynchronized
  have htg : ∀ w ∈ GL, w.before _ s = true := fun w h => hts w (List.mem_cons_of_mem _ h)
  have hC : CallFix p m c cX3_isNoSpan 1 s _ wsX3_isNoSpan RX3 := ⟨hx, hb, hml, hown, hts⟩
  have hl := lv_entry ([.int p0]) (n := 1) (Nat.le_of_ble_eq_true rfl)
  rw [lg_entry_eq]
  generalize (lg_sl ([.int p0]) ++ List.replicate (1 - (lg_sl ([.int p0])).length) Slot.unset).toArray = ls at hl ⊢
  have hl : lv_has ls 1 [(0, .int p0)] := hl
  have hm : m_X3_isNoSpan p0 = m_X3_isNoSpan p0 := rfl
  refine lv_iload_n hx hb dX3_isNoSpan_0 rfl (lv_at hl 0 rfl) ?_
  refine lv_i2l hx hb dX3_isNoSpan_1 rfl ?_
  refine lv_lconst (v := 0) hx hb dX3_isNoSpan_2 (by decide) ?_
  refine lv_lconst (v := 1) hx hb dX3_isNoSpan_3 (by decide) ?_
  refine pc_S hC (c_X3_isIn l p0.toInt64 (0 : Int64) (1 : Int64)) (gS w_1040 w_1041 w_27 w_1042) kk_X3_isIn ⟨Nat.le_of_ble_eq_true rfl, Nat.le_of_ble_eq_true rfl⟩ ⟨Nat.le_of_ble_eq_true rfl, Nat.le_of_ble_eq_true rfl⟩ hl.1 rfl rfl (Nat.le_of_ble_eq_true rfl) dX3_isNoSpan_4 ?_
  refine lv_if_ne (tgt := 14) hx hb dX3_isNoSpan_7 (by decide) (fun h_1 => ?_) (fun h_1 => ?_)
  · have hm := hm.trans (if_neg h_1)
    refine lv_iconst (v := 0) hx hb dX3_isNoSpan_14 (by decide) ?_
    have hm : m_X3_isNoSpan p0 = (0 : Int32) := hm
    exact W.zret (v := (0 : Int32)) (ty := .boolean) hx hb hr rfl (fun t ht _ => ⟨by rw [hm], ht⟩) (fun _ h => absurd h List.not_mem_nil) dX3_isNoSpan_15
  · have hm := hm.trans (if_pos h_1)
    refine lv_iconst (v := 1) hx hb dX3_isNoSpan_10 (by decide) ?_
    refine lv_goto (tgt := 15) hx hb dX3_isNoSpan_11 (by decide) ?_
    have hm : m_X3_isNoSpan p0 = (1 : Int32) := hm
    exact W.zret (v := (1 : Int32)) (ty := .boolean) hx hb hr rfl (fun t ht _ => ⟨by rw [hm], ht⟩) (fun _ h => absurd h List.not_mem_nil) dX3_isNoSpan_15
def m_X3_isNoYear (p0 : Int32) : Int32 := (if m_X3_isIn p0.toInt64 (-9999 : Int64) (9999 : Int64) = 0 then (1 : Int32) else (0 : Int32))
theorem kk_X3_isNoYear : pK yX3_isNoYear wsX3_isNoYear cX3_isNoYear 1 (some .boolean) 1 := ⟨⟨_, rfl⟩, by decide +kernel, by decide +kernel, by decide +kernel⟩
theorem nb_X3_isNoYear (p0 : Int32) : narrow .boolean (.int (m_X3_isNoYear p0)) = .int (m_X3_isNoYear p0) := by
  unfold m_X3_isNoYear
  repeat' split
  all_goals rfl
set_option maxRecDepth 100000 in
set_option maxHeartbeats 4000000 in
theorem c_X3_isNoYear (l : Launch) (p0 : Int32) : pM l yX3_isNoYear wsX3_isNoYear 1 25 [.int p0] (.int (m_X3_isNoYear p0)) := by
  refine Met.ofW (cc := cX3_isNoYear) (maxL := 1) (ret := (some .boolean)) (by decide) rfl ?_
  intro p e s m args below meth c s₁ B hml hv
  subst hv
  have hx := B.exec
  have hb := B.bytes
  have hr := B.returns
  have hts := atoms_spec (ws := wsX3_isNoYear) B.pre
  have hown : s.vm.findClass RX3 = some m.cls := findClass_of_methodNamed B.named
  have hlocks := B.notSynchronized
  have htg : ∀ w ∈ GL, w.before _ s = true := fun w h => hts w (List.mem_cons_of_mem _ h)
  have hC : CallFix p m c cX3_isNoYear 1 s _ wsX3_isNoYear RX3 := ⟨hx, hb, hml, hown, hts⟩
  have hl := lv_entry ([.int p0]) (n := 1) (Nat.le_of_ble_eq_true rfl)
  rw [lg_entry_eq]
  generalize (lg_sl ([.int p0]) ++ List.replicate (1 - (lg_sl ([.int p0])).length) Slot.unset).toArray = ls at hl ⊢
  have hl : lv_has ls 1 [(0, .int p0)] := hl
  have hm : m_X3_isNoYear p0 = m_X3_isNoYear p0 := rfl
  refine lv_iload_n hx hb dX3_isNoYear_0 rfl (lv_at hl 0 rfl) ?_
  refine lv_i2l hx hb dX3_isNoYear_1 rfl ?_
  refine lv_ldc2 hx hb hown (htg _ w_1038) dX3_isNoYear_2 ?_
  refine lv_ldc2 hx hb hown (htg _ w_1039) dX3_isNoYear_5 ?_
  refine pc_S hC (c_X3_isIn l p0.toInt64 (-9999 : Int64) (9999 : Int64)) (gS w_1040 w_1041 w_27 w_1042) kk_X3_isIn ⟨Nat.le_of_ble_eq_true rfl, Nat.le_of_ble_eq_true rfl⟩ ⟨Nat.le_of_ble_eq_true rfl, Nat.le_of_ble_eq_true rfl⟩ hl.1 rfl rfl (Nat.le_of_ble_eq_true rfl) dX3_isNoYear_8 ?_
  refine lv_if_ne (tgt := 18) hx hb dX3_isNoYear_11 (by decide) (fun h_1 => ?_) (fun h_1 => ?_)
  · have hm := hm.trans (if_neg h_1)
    refine lv_iconst (v := 0) hx hb dX3_isNoYear_18 (by decide) ?_
    have hm : m_X3_isNoYear p0 = (0 : Int32) := hm
    exact W.zret (v := (0 : Int32)) (ty := .boolean) hx hb hr rfl (fun t ht _ => ⟨by rw [hm], ht⟩) (fun _ h => absurd h List.not_mem_nil) dX3_isNoYear_19
  · have hm := hm.trans (if_pos h_1)
    refine lv_iconst (v := 1) hx hb dX3_isNoYear_14 (by decide) ?_
    refine lv_goto (tgt := 19) hx hb dX3_isNoYear_15 (by decide) ?_
    have hm : m_X3_isNoYear p0 = (1 : Int32) := hm
    exact W.zret (v := (1 : Int32)) (ty := .boolean) hx hb hr rfl (fun t ht _ => ⟨by rw [hm], ht⟩) (fun _ h => absurd h List.not_mem_nil) dX3_isNoYear_19
def m_X3_isNumber (p0 : Int32) : Int32 := m_X3_isIn p0.toInt64 (-100000 : Int64) (100000 : Int64)
theorem kk_X3_isNumber : pK yX3_isNumber wsX3_isNumber cX3_isNumber 1 (some .boolean) 1 := ⟨⟨_, rfl⟩, by decide +kernel, by decide +kernel, by decide +kernel⟩
theorem nb_X3_isNumber (p0 : Int32) : narrow .boolean (.int (m_X3_isNumber p0)) = .int (m_X3_isNumber p0) := by
  unfold m_X3_isNumber
  repeat' split
  all_goals first | rfl | exact nb_X3_isIn _ _ _  | exact nb_X3_isIn _ _ _ 
set_option maxRecDepth 100000 in
set_option maxHeartbeats 4000000 in
theorem c_X3_isNumber (l : Launch) (p0 : Int32) : pM l yX3_isNumber wsX3_isNumber 1 25 [.int p0] (.int (m_X3_isNumber p0)) := by
  refine Met.ofW (cc := cX3_isNumber) (maxL := 1) (ret := (some .boolean)) (by decide) rfl ?_
  intro p e s m args below meth c s₁ B hml hv
  subst hv
  have hx := B.exec
  have hb := B.bytes
  have hr := B.returns
  have hts := atoms_spec (ws := wsX3_isNumber) B.pre
  have hown : s.vm.findClass RX3 = some m.cls := findClass_of_methodNamed B.named
  have hlocks := B.notSynchronized
  have htg : ∀ w ∈ GL, w.before _ s = true := fun w h => hts w (List.mem_cons_of_mem _ h)
  have hC : CallFix p m c cX3_isNumber 1 s _ wsX3_isNumber RX3 := ⟨hx, hb, hml, hown, hts⟩
  have hl := lv_entry ([.int p0]) (n := 1) (Nat.le_of_ble_eq_true rfl)
  rw [lg_entry_eq]
  generalize (lg_sl ([.int p0]) ++ List.replicate (1 - (lg_sl ([.int p0])).length) Slot.unset).toArray = ls at hl ⊢
  have hl : lv_has ls 1 [(0, .int p0)] := hl
  have hm : m_X3_isNumber p0 = m_X3_isNumber p0 := rfl
  refine lv_iload_n hx hb dX3_isNumber_0 rfl (lv_at hl 0 rfl) ?_
  refine lv_i2l hx hb dX3_isNumber_1 rfl ?_
  refine lv_ldc2 hx hb hown (htg _ w_1203) dX3_isNumber_2 ?_
  refine lv_ldc2 hx hb hown (htg _ w_1204) dX3_isNumber_5 ?_
  refine pc_S hC (c_X3_isIn l p0.toInt64 (-100000 : Int64) (100000 : Int64)) (gS w_1040 w_1041 w_27 w_1042) kk_X3_isIn ⟨Nat.le_of_ble_eq_true rfl, Nat.le_of_ble_eq_true rfl⟩ ⟨Nat.le_of_ble_eq_true rfl, Nat.le_of_ble_eq_true rfl⟩ hl.1 rfl rfl (Nat.le_of_ble_eq_true rfl) dX3_isNumber_8 ?_
  have hm : m_X3_isNumber p0 = m_X3_isIn p0.toInt64 (-100000 : Int64) (100000 : Int64) := hm
  exact W.zret (v := m_X3_isIn p0.toInt64 (-100000 : Int64) (100000 : Int64)) (ty := .boolean) hx hb hr (nb_X3_isIn _ _ _ ) (fun t ht _ => ⟨by rw [hm], ht⟩) (fun _ h => absurd h List.not_mem_nil) dX3_isNumber_11
def m_X3_weekDay (p0 : Int64) : Int32 := ((m_X3_rest (p0 + (3 : Int64)) (7 : Int64)).toInt32) + (1 : Int32)
theorem kk_X3_weekDay : pK yX3_weekDay wsX3_weekDay cX3_weekDay 2 (some .int) 1 := ⟨⟨_, rfl⟩, by decide +kernel, by decide +kernel, by decide +kernel⟩
set_option maxRecDepth 100000 in
set_option maxHeartbeats 4000000 in
theorem c_X3_weekDay (l : Launch) (p0 : Int64) : pM l yX3_weekDay wsX3_weekDay 2 46 [.long p0] (.int (m_X3_weekDay p0)) := by
  refine Met.ofW (cc := cX3_weekDay) (maxL := 2) (ret := (some .int)) (by decide) rfl ?_
  intro p e s m args below meth c s₁ B hml hv
  subst hv
  have hx := B.exec
  have hb := B.bytes
  have hr := B.returns
  have hts := atoms_spec (ws := wsX3_weekDay) B.pre
  have hown : s.vm.findClass RX3 = some m.cls := findClass_of_methodNamed B.named
  have hlocks := B.notSynchronized
  have htg : ∀ w ∈ GL, w.before _ s = true := fun w h => hts w (List.mem_cons_of_mem _ h)
  have hC : CallFix p m c cX3_weekDay 2 s _ wsX3_weekDay RX3 := ⟨hx, hb, hml, hown, hts⟩
  have hl := lv_entry ([.long p0]) (n := 2) (Nat.le_of_ble_eq_true rfl)
  rw [lg_entry_eq]
  generalize (lg_sl ([.long p0]) ++ List.replicate (2 - (lg_sl ([.long p0])).length) Slot.unset).toArray = ls at hl ⊢
  have hl : lv_has ls 2 [(0, .long p0)] := hl
  have hm : m_X3_weekDay p0 = m_X3_weekDay p0 := rfl
  refine lv_lload_n hx hb dX3_weekDay_0 rfl (lv_at hl 0 rfl) ?_
  refine lv_ldc2 hx hb hown (htg _ w_1268) dX3_weekDay_1 ?_
  refine lv_ladd hx hb dX3_weekDay_4 ?_
  refine lv_ldc2 hx hb hown (htg _ w_1152) dX3_weekDay_5 ?_
  refine pc_S hC (c_X3_rest l (p0 + (3 : Int64)) (7 : Int64) (by decide)) (gS w_1089 w_1090 w_27 w_1091) kk_X3_rest ⟨Nat.le_of_ble_eq_true rfl, Nat.le_of_ble_eq_true rfl⟩ ⟨Nat.le_of_ble_eq_true rfl, Nat.le_of_ble_eq_true rfl⟩ hl.1 rfl rfl (Nat.le_of_ble_eq_true rfl) dX3_weekDay_8 ?_
  refine lv_l2i hx hb dX3_weekDay_11 rfl ?_
  refine lv_iconst (v := 1) hx hb dX3_weekDay_12 (by decide) ?_
  refine lv_iadd hx hb dX3_weekDay_13 ?_
  have hm : m_X3_weekDay p0 = ((m_X3_rest (p0 + (3 : Int64)) (7 : Int64)).toInt32) + (1 : Int32) := hm
  exact W.iret (v := ((m_X3_rest (p0 + (3 : Int64)) (7 : Int64)).toInt32) + (1 : Int32)) hx hb hr (fun t ht _ => ⟨by rw [hm], ht⟩) (fun _ h => absurd h List.not_mem_nil) dX3_weekDay_14
def m_X3_add (p0 : Int64) (p1 : Int64) : Int64 := (p0 * (31 : Int64)) + p1
theorem kk_X3_add : pK yX3_add wsX3_add cX3_add 4 (some .long) 2 := ⟨⟨_, rfl⟩, by decide +kernel, by decide +kernel, by decide +kernel⟩
set_option maxRecDepth 100000 in
set_option maxHeartbeats 4000000 in
theorem c_X3_add (l : Launch) (p0 : Int64) (p1 : Int64) : pM l yX3_add wsX3_add 0 0 [.long p0, .long p1] (.long (m_X3_add p0 p1)) := by
  refine Met.ofW (cc := cX3_add) (maxL := 4) (ret := (some .long)) (by decide) rfl ?_
  intro p e s m args below meth c s₁ B hml hv
  subst hv
  have hx := B.exec
  have hb := B.bytes
  have hr := B.returns
  have hts := atoms_spec (ws := wsX3_add) B.pre
  have hown : s.vm.findClass RX3 = some m.cls := findClass_of_methodNamed B.named
  have hlocks := B.notSynchronized
  have htg : ∀ w ∈ GL, w.before _ s = true := fun w h => hts w (List.mem_cons_of_mem _ h)
  have hC : CallFix p m c cX3_add 4 s _ wsX3_add RX3 := ⟨hx, hb, hml, hown, hts⟩
  have hl := lv_entry ([.long p0, .long p1]) (n := 4) (Nat.le_of_ble_eq_true rfl)
  rw [lg_entry_eq]
  generalize (lg_sl ([.long p0, .long p1]) ++ List.replicate (4 - (lg_sl ([.long p0, .long p1])).length) Slot.unset).toArray = ls at hl ⊢
  have hl : lv_has ls 4 [(0, .long p0), (2, .long p1)] := hl
  have hm : m_X3_add p0 p1 = m_X3_add p0 p1 := rfl
  refine lv_lload_n hx hb dX3_add_0 rfl (lv_at hl 0 rfl) ?_
  refine lv_ldc2 hx hb hown (htg _ w_1044) dX3_add_1 ?_
  refine lv_lmul hx hb dX3_add_4 ?_
  refine lv_lload_n hx hb dX3_add_5 rfl (lv_at hl 1 rfl) ?_
  refine lv_ladd hx hb dX3_add_6 ?_
  have hm : m_X3_add p0 p1 = (p0 * (31 : Int64)) + p1 := hm
  exact W.lret (v := (p0 * (31 : Int64)) + p1) hx hb hr (fun t ht _ => ⟨by rw [hm], ht⟩) (fun _ h => absurd h List.not_mem_nil) dX3_add_7
