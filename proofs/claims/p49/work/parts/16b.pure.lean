def m_J1_canEncode_fc78d (p0 : Int32) : Int32 := (if (255 : Int32) < p0 then (0 : Int32) else (1 : Int32))
theorem kk_J1_canEncode_fc78d : pK yJ1_canEncode_fc78d wsJ1_canEncode_fc78d cJ1_canEncode_fc78d 1 (some .boolean) 1 := ⟨⟨_, rfl⟩, by decide +kernel, by decide +kernel, by decide +kernel⟩
theorem nb_J1_canEncode_fc78d (p0 : Int32) : narrow .boolean (.int (m_J1_canEncode_fc78d p0)) = .int (m_J1_canEncode_fc78d p0) := by
  unfold m_J1_canEncode_fc78d
  repeat' split
  all_goals rfl
set_option maxRecDepth 100000 in
set_option maxHeartbeats 4000000 in
theorem c_J1_canEncode_fc78d (l : Launch) (p0 : Int32) : pM l yJ1_canEncode_fc78d wsJ1_canEncode_fc78d 0 0 [.int p0] (.int (m_J1_canEncode_fc78d p0)) := by
  refine Met.ofW (cc := cJ1_canEncode_fc78d) (maxL := 1) (ret := (some .boolean)) (by decide) rfl ?_
  intro p e s m args below meth c s₁ B hml hv
  subst hv
  have hx := B.exec
  have hb := B.bytes
  have hr := B.returns
  have hts := atoms_spec (ws := wsJ1_canEncode_fc78d) B.pre
  have hown : s.vm.findClass RJ1 = some m.cls := findClass_of_methodNamed B.named
  have hlocks := B.notSynchronized
  have htg : ∀ w ∈ GL, w.before _ s = true := fun w h => hts w (List.mem_cons_of_mem _ h)
  have hC : CallFix p m c cJ1_canEncode_fc78d 1 s _ wsJ1_canEncode_fc78d RJ1 := ⟨hx, hb, hml, hown, hts⟩
  have hl := lv_entry ([.int p0]) (n := 1) (Nat.le_of_ble_eq_true rfl)
  rw [lg_entry_eq]
  generalize (lg_sl ([.int p0]) ++ List.replicate (1 - (lg_sl ([.int p0])).length) Slot.unset).toArray = ls at hl ⊢
  have hl : lv_has ls 1 [(0, .int p0)] := hl
  have hm : m_J1_canEncode_fc78d p0 = m_J1_canEncode_fc78d p0 := rfl
  refine lv_iload_n hx hb dJ1_canEncode_fc78d_0 rfl (lv_at hl 0 rfl) ?_
  refine lv_sipush (v := 255) hx hb dJ1_canEncode_fc78d_1 (by decide) ?_
  refine lv_icmp_gt (tgt := 11) hx hb dJ1_canEncode_fc78d_4 (by decide) (fun h_1 => ?_) (fun h_1 => ?_)
  · have hm := hm.trans (if_pos h_1)
    refine lv_iconst (v := 0) hx hb dJ1_canEncode_fc78d_11 (by decide) ?_
    have hm : m_J1_canEncode_fc78d p0 = (0 : Int32) := hm
    exact W.zret (v := (0 : Int32)) (ty := .boolean) hx hb hr rfl (fun t ht _ => ⟨by rw [hm], ht⟩) (fun _ h => absurd h List.not_mem_nil) dJ1_canEncode_fc78d_12
  · have hm := hm.trans (if_neg h_1)
    refine lv_iconst (v := 1) hx hb dJ1_canEncode_fc78d_7 (by decide) ?_
    refine lv_goto (tgt := 12) hx hb dJ1_canEncode_fc78d_8 (by decide) ?_
    have hm : m_J1_canEncode_fc78d p0 = (1 : Int32) := hm
    exact W.zret (v := (1 : Int32)) (ty := .boolean) hx hb hr rfl (fun t ht _ => ⟨by rw [hm], ht⟩) (fun _ h => absurd h List.not_mem_nil) dJ1_canEncode_fc78d_12
def l_J6_stringSize_0f7a4 (p0 : Int32) : Nat → Int32 → Int32 → Int32 → Int32 → Option Int32
  | 0, _, _, _, _ => none
  | n + 1, x0, x1, x2, x3 => (if (10 : Int32) ≤ x3 then some ((10 : Int32) + x1) else (if x0 ≤ x2 then l_J6_stringSize_0f7a4 p0 n x0 x1 ((10 : Int32) * x2) (x3 + 1) else some (x3 + x1)))
def o_J6_stringSize_0f7a4 (p0 : Int32) : Option Int32 := (if p0 < 0 then l_J6_stringSize_0f7a4 p0 12 p0 (1 : Int32) (-10 : Int32) (1 : Int32) else l_J6_stringSize_0f7a4 p0 12 (-p0) (0 : Int32) (-10 : Int32) (1 : Int32))
theorem kk_J6_stringSize_0f7a4 : pK yJ6_stringSize_0f7a4 wsJ6_stringSize_0f7a4 cJ6_stringSize_0f7a4 4 (some .int) 1 := ⟨⟨_, rfl⟩, by decide +kernel, by decide +kernel, by decide +kernel⟩
set_option maxRecDepth 100000 in
set_option maxHeartbeats 4000000 in
theorem k_J6_stringSize_0f7a4 (l : Launch) (p0 : Int32) {r : Int32} (hm0 : o_J6_stringSize_0f7a4 p0 = some r) : pM l yJ6_stringSize_0f7a4 wsJ6_stringSize_0f7a4 0 0 [.int p0] (.int r) := by
  refine Met.ofW (cc := cJ6_stringSize_0f7a4) (maxL := 4) (ret := (some .int)) (by decide) rfl ?_
  intro p e s m args below meth c s₁ B hml hv
  subst hv
  have hx := B.exec
  have hb := B.bytes
  have hr := B.returns
  have hts := atoms_spec (ws := wsJ6_stringSize_0f7a4) B.pre
  have hown : s.vm.findClass RJ6 = some m.cls := findClass_of_methodNamed B.named
  have hlocks := B.notSynchronized
  have htg : ∀ w ∈ GL, w.before _ s = true := fun w h => hts w (List.mem_cons_of_mem _ h)
  have hC : CallFix p m c cJ6_stringSize_0f7a4 4 s _ wsJ6_stringSize_0f7a4 RJ6 := ⟨hx, hb, hml, hown, hts⟩
  have hm : o_J6_stringSize_0f7a4 p0 = o_J6_stringSize_0f7a4 p0 := rfl
  have hl := lv_entry ([.int p0]) (n := 4) (Nat.le_of_ble_eq_true rfl)
  rw [lg_entry_eq]
  generalize (lg_sl ([.int p0]) ++ List.replicate (4 - (lg_sl ([.int p0])).length) Slot.unset).toArray = ls at hl ⊢
  have hl : lv_has ls 4 [(0, .int p0)] := hl
  refine lv_iconst (v := 1) hx hb dJ6_stringSize_0f7a4_0 (by decide) ?_
  refine lv_istore_n (lv' := [(1, .int (1 : Int32)), (0, .int p0)]) hx hb dJ6_stringSize_0f7a4_1 rfl hl (by decide) rfl (fun ls hl => ?_)
  refine lv_iload_n hx hb dJ6_stringSize_0f7a4_2 rfl (lv_at hl 1 rfl) ?_
  refine lv_if_lt (tgt := 11) hx hb dJ6_stringSize_0f7a4_3 (by decide) (fun h_1 => ?_) (fun h_1 => ?_)
  · have hm := hm.trans (if_pos h_1)
    refine lv_bipush (v := (-10)) hx hb dJ6_stringSize_0f7a4_11 (by decide) ?_
    refine lv_istore_n (lv' := [(2, .int (-10 : Int32)), (1, .int (1 : Int32)), (0, .int p0)]) hx hb dJ6_stringSize_0f7a4_13 rfl hl (by decide) rfl (fun ls hl => ?_)
    refine lv_iconst (v := 1) hx hb dJ6_stringSize_0f7a4_14 (by decide) ?_
    refine lv_istore_n (lv' := [(3, .int (1 : Int32)), (2, .int (-10 : Int32)), (1, .int (1 : Int32)), (0, .int p0)]) hx hb dJ6_stringSize_0f7a4_15 rfl hl (by decide) rfl (fun ls hl => ?_)
    have J : ∀ (n : Nat) (x0 : Int32) (x1 : Int32) (x2 : Int32) (x3 : Int32) (ls : Array Slot), lv_has ls 4 [(3, .int x3), (2, .int x2), (1, .int x1), (0, .int x0)] → l_J6_stringSize_0f7a4 p0 n x0 x1 x2 x3 = some r → W p l e (headSpec wsJ6_stringSize_0f7a4 { frames := 0, cells := 0, slots := 0, locals := 0 }).room s m ([.int p0] : List Value).toArray below meth c s.heap [] 0 0 (MQ below (pQ (.int r)) ([.int p0] : List Value).toArray s 0 0 (fun _ => False)) (F0 m 16 ls []) := by
      intro n
      induction n with
      | zero => intro x0 x1 x2 x3 ls hl hm0; cases hm0
      | succ n ih =>
        intro x0 x1 x2 x3 ls hl hm0
        have hm : l_J6_stringSize_0f7a4 p0 (n + 1) x0 x1 x2 x3 = l_J6_stringSize_0f7a4 p0 (n + 1) x0 x1 x2 x3 := rfl
        refine lv_iload_n hx hb dJ6_stringSize_0f7a4_16 rfl (lv_at hl 0 rfl) ?_
        refine lv_bipush (v := 10) hx hb dJ6_stringSize_0f7a4_17 (by decide) ?_
        refine lv_icmp_ge (tgt := 42) hx hb dJ6_stringSize_0f7a4_19 (by decide) (fun h_2 => ?_) (fun h_2 => ?_)
        · have hm := hm.trans (if_pos h_2)
          refine lv_bipush (v := 10) hx hb dJ6_stringSize_0f7a4_42 (by decide) ?_
          refine lv_iload_n hx hb dJ6_stringSize_0f7a4_44 rfl (lv_at hl 2 rfl) ?_
          refine lv_iadd hx hb dJ6_stringSize_0f7a4_45 ?_
          have hm : some ((10 : Int32) + x1) = some r := hm.symm.trans hm0
          exact W.iret (v := (10 : Int32) + x1) hx hb hr (fun t ht _ => ⟨by rw [Option.some.inj hm], ht⟩) (fun _ h => absurd h List.not_mem_nil) dJ6_stringSize_0f7a4_46
        · have hm := hm.trans (if_neg h_2)
          refine lv_iload_n hx hb dJ6_stringSize_0f7a4_22 rfl (lv_at hl 3 rfl) ?_
          refine lv_iload_n hx hb dJ6_stringSize_0f7a4_23 rfl (lv_at hl 1 rfl) ?_
          refine lv_icmp_le (tgt := 31) hx hb dJ6_stringSize_0f7a4_24 (by decide) (fun h_3 => ?_) (fun h_3 => ?_)
          · have hm := hm.trans (if_pos h_3)
            refine lv_bipush (v := 10) hx hb dJ6_stringSize_0f7a4_31 (by decide) ?_
            refine lv_iload_n hx hb dJ6_stringSize_0f7a4_33 rfl (lv_at hl 1 rfl) ?_
            refine lv_imul hx hb dJ6_stringSize_0f7a4_34 ?_
            refine lv_istore_n (lv' := [(2, .int ((10 : Int32) * x2)), (3, .int x3), (1, .int x1), (0, .int x0)]) hx hb dJ6_stringSize_0f7a4_35 rfl hl (by decide) rfl (fun ls hl => ?_)
            refine lv_iinc (v := x3 + 1) (lv' := [(3, .int (x3 + 1)), (2, .int ((10 : Int32) * x2)), (1, .int x1), (0, .int x0)]) hx hb dJ6_stringSize_0f7a4_36 hl (k := 1) rfl rfl (by decide) rfl (fun ls hl => ?_)
            refine lv_goto (tgt := 16) hx hb dJ6_stringSize_0f7a4_39 (by decide) ?_
            exact ih x0 x1 ((10 : Int32) * x2) (x3 + 1) ls (lv_sub hl [0, 1, 2, 3] rfl) (hm.symm.trans hm0)
          · have hm := hm.trans (if_neg h_3)
            refine lv_iload_n hx hb dJ6_stringSize_0f7a4_27 rfl (lv_at hl 0 rfl) ?_
            refine lv_iload_n hx hb dJ6_stringSize_0f7a4_28 rfl (lv_at hl 2 rfl) ?_
            refine lv_iadd hx hb dJ6_stringSize_0f7a4_29 ?_
            have hm : some (x3 + x1) = some r := hm.symm.trans hm0
            exact W.iret (v := x3 + x1) hx hb hr (fun t ht _ => ⟨by rw [Option.some.inj hm], ht⟩) (fun _ h => absurd h List.not_mem_nil) dJ6_stringSize_0f7a4_30
    exact J 12 p0 (1 : Int32) (-10 : Int32) (1 : Int32) ls (lv_sub hl [0, 1, 2, 3] rfl) (hm.symm.trans hm0)
  · have hm := hm.trans (if_neg h_1)
    refine lv_iconst (v := 0) hx hb dJ6_stringSize_0f7a4_6 (by decide) ?_
    refine lv_istore_n (lv' := [(1, .int (0 : Int32)), (0, .int p0)]) hx hb dJ6_stringSize_0f7a4_7 rfl hl (by decide) rfl (fun ls hl => ?_)
    refine lv_iload_n hx hb dJ6_stringSize_0f7a4_8 rfl (lv_at hl 1 rfl) ?_
    refine lv_ineg hx hb dJ6_stringSize_0f7a4_9 ?_
    refine lv_istore_n (lv' := [(0, .int (-p0)), (1, .int (0 : Int32))]) hx hb dJ6_stringSize_0f7a4_10 rfl hl (by decide) rfl (fun ls hl => ?_)
    refine lv_bipush (v := (-10)) hx hb dJ6_stringSize_0f7a4_11 (by decide) ?_
    refine lv_istore_n (lv' := [(2, .int (-10 : Int32)), (0, .int (-p0)), (1, .int (0 : Int32))]) hx hb dJ6_stringSize_0f7a4_13 rfl hl (by decide) rfl (fun ls hl => ?_)
    refine lv_iconst (v := 1) hx hb dJ6_stringSize_0f7a4_14 (by decide) ?_
    refine lv_istore_n (lv' := [(3, .int (1 : Int32)), (2, .int (-10 : Int32)), (0, .int (-p0)), (1, .int (0 : Int32))]) hx hb dJ6_stringSize_0f7a4_15 rfl hl (by decide) rfl (fun ls hl => ?_)
    have J : ∀ (n : Nat) (x0 : Int32) (x1 : Int32) (x2 : Int32) (x3 : Int32) (ls : Array Slot), lv_has ls 4 [(3, .int x3), (2, .int x2), (0, .int x0), (1, .int x1)] → l_J6_stringSize_0f7a4 p0 n x0 x1 x2 x3 = some r → W p l e (headSpec wsJ6_stringSize_0f7a4 { frames := 0, cells := 0, slots := 0, locals := 0 }).room s m ([.int p0] : List Value).toArray below meth c s.heap [] 0 0 (MQ below (pQ (.int r)) ([.int p0] : List Value).toArray s 0 0 (fun _ => False)) (F0 m 16 ls []) := by
      intro n
      induction n with
      | zero => intro x0 x1 x2 x3 ls hl hm0; cases hm0
      | succ n ih =>
        intro x0 x1 x2 x3 ls hl hm0
        have hm : l_J6_stringSize_0f7a4 p0 (n + 1) x0 x1 x2 x3 = l_J6_stringSize_0f7a4 p0 (n + 1) x0 x1 x2 x3 := rfl
        refine lv_iload_n hx hb dJ6_stringSize_0f7a4_16 rfl (lv_at hl 0 rfl) ?_
        refine lv_bipush (v := 10) hx hb dJ6_stringSize_0f7a4_17 (by decide) ?_
        refine lv_icmp_ge (tgt := 42) hx hb dJ6_stringSize_0f7a4_19 (by decide) (fun h_4 => ?_) (fun h_4 => ?_)
        · have hm := hm.trans (if_pos h_4)
          refine lv_bipush (v := 10) hx hb dJ6_stringSize_0f7a4_42 (by decide) ?_
          refine lv_iload_n hx hb dJ6_stringSize_0f7a4_44 rfl (lv_at hl 3 rfl) ?_
          refine lv_iadd hx hb dJ6_stringSize_0f7a4_45 ?_
          have hm : some ((10 : Int32) + x1) = some r := hm.symm.trans hm0
          exact W.iret (v := (10 : Int32) + x1) hx hb hr (fun t ht _ => ⟨by rw [Option.some.inj hm], ht⟩) (fun _ h => absurd h List.not_mem_nil) dJ6_stringSize_0f7a4_46
        · have hm := hm.trans (if_neg h_4)
          refine lv_iload_n hx hb dJ6_stringSize_0f7a4_22 rfl (lv_at hl 2 rfl) ?_
          refine lv_iload_n hx hb dJ6_stringSize_0f7a4_23 rfl (lv_at hl 1 rfl) ?_
          refine lv_icmp_le (tgt := 31) hx hb dJ6_stringSize_0f7a4_24 (by decide) (fun h_5 => ?_) (fun h_5 => ?_)
          · have hm := hm.trans (if_pos h_5)
            refine lv_bipush (v := 10) hx hb dJ6_stringSize_0f7a4_31 (by decide) ?_
            refine lv_iload_n hx hb dJ6_stringSize_0f7a4_33 rfl (lv_at hl 1 rfl) ?_
            refine lv_imul hx hb dJ6_stringSize_0f7a4_34 ?_
            refine lv_istore_n (lv' := [(2, .int ((10 : Int32) * x2)), (3, .int x3), (0, .int x0), (1, .int x1)]) hx hb dJ6_stringSize_0f7a4_35 rfl hl (by decide) rfl (fun ls hl => ?_)
            refine lv_iinc (v := x3 + 1) (lv' := [(3, .int (x3 + 1)), (2, .int ((10 : Int32) * x2)), (0, .int x0), (1, .int x1)]) hx hb dJ6_stringSize_0f7a4_36 hl (k := 1) rfl rfl (by decide) rfl (fun ls hl => ?_)
            refine lv_goto (tgt := 16) hx hb dJ6_stringSize_0f7a4_39 (by decide) ?_
            exact ih x0 x1 ((10 : Int32) * x2) (x3 + 1) ls (lv_sub hl [0, 1, 2, 3] rfl) (hm.symm.trans hm0)
          · have hm := hm.trans (if_neg h_5)
            refine lv_iload_n hx hb dJ6_stringSize_0f7a4_27 rfl (lv_at hl 0 rfl) ?_
            refine lv_iload_n hx hb dJ6_stringSize_0f7a4_28 rfl (lv_at hl 3 rfl) ?_
            refine lv_iadd hx hb dJ6_stringSize_0f7a4_29 ?_
            have hm : some (x3 + x1) = some r := hm.symm.trans hm0
            exact W.iret (v := x3 + x1) hx hb hr (fun t ht _ => ⟨by rw [Option.some.inj hm], ht⟩) (fun _ h => absurd h List.not_mem_nil) dJ6_stringSize_0f7a4_30
    exact J 12 (-p0) (0 : Int32) (-10 : Int32) (1 : Int32) ls (lv_sub hl [0, 1, 2, 3] rfl) (hm.symm.trans hm0)
