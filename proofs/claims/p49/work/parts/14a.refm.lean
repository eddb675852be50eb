def o_X3_fails (p0 : Int32) (p1 : Int32) (p2 : Int32) (z : MS) : Option (Int32 × MS) := (if p0 = 0 then (if p1 = 0 then (if p2 = 0 then (if (0 : Int32) ≤ 0 then some ((0 : Int32), ((0 : Int32), z.2.1, z.2.2.1, z.2.2.2.1, z.2.2.2.2.1, z.2.2.2.2.2)) else some ((1 : Int32), ((0 : Int32), z.2.1, z.2.2.1, z.2.2.2.1, z.2.2.2.2.1, z.2.2.2.2.2))) else (if (3 : Int32) ≤ 0 then some ((0 : Int32), ((3 : Int32), z.2.1, z.2.2.1, z.2.2.2.1, z.2.2.2.2.1, z.2.2.2.2.2)) else some ((1 : Int32), ((3 : Int32), z.2.1, z.2.2.1, z.2.2.2.1, z.2.2.2.2.1, z.2.2.2.2.2)))) else (if (2 : Int32) ≤ 0 then some ((0 : Int32), ((2 : Int32), z.2.1, z.2.2.1, z.2.2.2.1, z.2.2.2.2.1, z.2.2.2.2.2)) else some ((1 : Int32), ((2 : Int32), z.2.1, z.2.2.1, z.2.2.2.1, z.2.2.2.2.1, z.2.2.2.2.2)))) else (if (1 : Int32) ≤ 0 then some ((0 : Int32), ((1 : Int32), z.2.1, z.2.2.1, z.2.2.2.1, z.2.2.2.2.1, z.2.2.2.2.2)) else some ((1 : Int32), ((1 : Int32), z.2.1, z.2.2.1, z.2.2.2.1, z.2.2.2.2.1, z.2.2.2.2.2))))
theorem kk_X3_fails : pK yX3_fails wsX3_fails cX3_fails 4 (some .boolean) 3 := ⟨⟨_, rfl⟩, by decide +kernel, by decide +kernel, by decide +kernel⟩
set_option maxRecDepth 100000 in
set_option maxHeartbeats 4000000 in
theorem k_X3_fails (l : Launch) (k : Kx) (b : CA) (L : List Nat) (hD : mD k b L) (p0 : Int32) (p1 : Int32) (p2 : Int32) (z : MS) {r : (Int32 × MS)} (hm : o_X3_fails p0 p1 p2 z = some r) : mM l k b L yX3_fails wsX3_fails 0 0 0 0 [.int p0, .int p1, .int p2] [] z (some (.int r.1)) r.2 := by
  intro sz q
  refine Met.ofW (cc := cX3_fails) (maxL := 4) (ret := (some .boolean)) (by decide) rfl ?_
  intro p e s m args below meth c s₁ B hml hv
  obtain ⟨rfl, rfl, hGx, hV, hLb, hds⟩ := hv
  have hx := B.exec
  have hb := B.bytes
  have hr := B.returns
  have hts := atoms_spec (ws := wsX3_fails) B.pre
  have hown : s.vm.findClass RX3 = some m.cls := findClass_of_methodNamed B.named
  have hlocks := B.notSynchronized
  have htg : ∀ w ∈ GL, w.before _ s = true := fun w h => hts w (List.mem_cons_of_mem _ h)
  have hC : CallFix p m c cX3_fails 4 s _ wsX3_fails RX3 := ⟨hx, hb, hml, hown, hts⟩
  have hA : ∀ q, s.heap.size ≤ q → cA b s.heap.size q := fun q h => cA.new q h
  have hAB : ∀ q, cA b s.heap.size q → kB k ≤ q := hD.high hGx.2.1
  have hS : mS b s.heap s.heap [] := mS.rf
  have hl := lv_entry ([.ref b.1, .int p0, .int p1, .int p2]) (n := 4) (Nat.le_of_ble_eq_true rfl)
  rw [lg_entry_eq]
  generalize (lg_sl ([.ref b.1, .int p0, .int p1, .int p2]) ++ List.replicate (4 - (lg_sl ([.ref b.1, .int p0, .int p1, .int p2])).length) Slot.unset).toArray = ls at hl ⊢
  have hl : lv_has ls 4 [(0, .ref b.1), (1, .int p0), (2, .int p1), (3, .int p2)] := hl
  refine lv_aload_n hx hb dX3_fails_0 rfl (lv_at hl 0 rfl) ?_
  refine lv_iload_n hx hb dX3_fails_1 rfl (lv_at hl 1 rfl) ?_
  refine lv_if_eq (tgt := 9) hx hb dX3_fails_2 (by decide) (fun h_1 => ?_) (fun h_1 => ?_)
  · have hm := (if_pos h_1).symm.trans hm
    refine lv_iload_n hx hb dX3_fails_9 rfl (lv_at hl 2 rfl) ?_
    refine lv_if_eq (tgt := 17) hx hb dX3_fails_10 (by decide) (fun h_2 => ?_) (fun h_2 => ?_)
    · have hm := (if_pos h_2).symm.trans hm
      refine lv_iload_n hx hb dX3_fails_17 rfl (lv_at hl 3 rfl) ?_
      refine lv_if_eq (tgt := 25) hx hb dX3_fails_18 (by decide) (fun h_3 => ?_) (fun h_3 => ?_)
      · have hm := (if_pos h_3).symm.trans hm
        refine lv_iconst (v := 0) hx hb dX3_fails_25 (by decide) ?_
        have hs9 := hS.1.1
        refine m_put (z1 := ((0 : Int32), z.2.1, z.2.2.1, z.2.2.2.1, z.2.2.2.2.1, z.2.2.2.2.2)) 0 hx hb htg hown hGx hD hV hS (by decide) (htg _ w_1011) (by decide +kernel) rfl rfl dX3_fails_26 (fun H locs hV hS hz hq => ?_)
        refine lv_aload_n hx hb dX3_fails_29 rfl (lv_at hl 0 rfl) ?_
        refine va_get (D := kD k) (ci := 5) (v := .int (0 : Int32)) (C := RX3) (T := TX3) (N := 5) hx hb htg inG_X3 hown hGx.1 hV.1 0 rfl rfl 0 (by decide) (htg _ w_1011) (fun _ h9 => h9) rfl dX3_fails_30 ?_
        refine lv_if_le (tgt := 40) hx hb dX3_fails_33 (by decide) (fun h_4 => ?_) (fun h_4 => ?_)
        · have hm := (if_pos h_4).symm.trans hm
          refine lv_iconst (v := 0) hx hb dX3_fails_40 (by decide) ?_
          exact m_zret hx hb hr hlocks rfl (Option.some.inj hm) hV hS ⟨Nat.le_of_ble_eq_true rfl, Nat.le_of_ble_eq_true rfl⟩ dX3_fails_41
        · have hm := (if_neg h_4).symm.trans hm
          refine lv_iconst (v := 1) hx hb dX3_fails_36 (by decide) ?_
          refine lv_goto (tgt := 41) hx hb dX3_fails_37 (by decide) ?_
          exact m_zret hx hb hr hlocks rfl (Option.some.inj hm) hV hS ⟨Nat.le_of_ble_eq_true rfl, Nat.le_of_ble_eq_true rfl⟩ dX3_fails_41
      · have hm := (if_neg h_3).symm.trans hm
        refine lv_iconst (v := 3) hx hb dX3_fails_21 (by decide) ?_
        refine lv_goto (tgt := 26) hx hb dX3_fails_22 (by decide) ?_
        have hs9 := hS.1.1
        refine m_put (z1 := ((3 : Int32), z.2.1, z.2.2.1, z.2.2.2.1, z.2.2.2.2.1, z.2.2.2.2.2)) 0 hx hb htg hown hGx hD hV hS (by decide) (htg _ w_1011) (by decide +kernel) rfl rfl dX3_fails_26 (fun H locs hV hS hz hq => ?_)
        refine lv_aload_n hx hb dX3_fails_29 rfl (lv_at hl 0 rfl) ?_
        refine va_get (D := kD k) (ci := 5) (v := .int (3 : Int32)) (C := RX3) (T := TX3) (N := 5) hx hb htg inG_X3 hown hGx.1 hV.1 0 rfl rfl 0 (by decide) (htg _ w_1011) (fun _ h9 => h9) rfl dX3_fails_30 ?_
        refine lv_if_le (tgt := 40) hx hb dX3_fails_33 (by decide) (fun h_5 => ?_) (fun h_5 => ?_)
        · have hm := (if_pos h_5).symm.trans hm
          refine lv_iconst (v := 0) hx hb dX3_fails_40 (by decide) ?_
          exact m_zret hx hb hr hlocks rfl (Option.some.inj hm) hV hS ⟨Nat.le_of_ble_eq_true rfl, Nat.le_of_ble_eq_true rfl⟩ dX3_fails_41
        · have hm := (if_neg h_5).symm.trans hm
          refine lv_iconst (v := 1) hx hb dX3_fails_36 (by decide) ?_
          refine lv_goto (tgt := 41) hx hb dX3_fails_37 (by decide) ?_
          exact m_zret hx hb hr hlocks rfl (Option.some.inj hm) hV hS ⟨Nat.le_of_ble_eq_true rfl, Nat.le_of_ble_eq_true rfl⟩ dX3_fails_41
    · have hm := (if_neg h_2).symm.trans hm
      refine lv_iconst (v := 2) hx hb dX3_fails_13 (by decide) ?_
      refine lv_goto (tgt := 26) hx hb dX3_fails_14 (by decide) ?_
      have hs9 := hS.1.1
      refine m_put (z1 := ((2 : Int32), z.2.1, z.2.2.1, z.2.2.2.1, z.2.2.2.2.1, z.2.2.2.2.2)) 0 hx hb htg hown hGx hD hV hS (by decide) (htg _ w_1011) (by decide +kernel) rfl rfl dX3_fails_26 (fun H locs hV hS hz hq => ?_)
      refine lv_aload_n hx hb dX3_fails_29 rfl (lv_at hl 0 rfl) ?_
      refine va_get (D := kD k) (ci := 5) (v := .int (2 : Int32)) (C := RX3) (T := TX3) (N := 5) hx hb htg inG_X3 hown hGx.1 hV.1 0 rfl rfl 0 (by decide) (htg _ w_1011) (fun _ h9 => h9) rfl dX3_fails_30 ?_
      refine lv_if_le (tgt := 40) hx hb dX3_fails_33 (by decide) (fun h_6 => ?_) (fun h_6 => ?_)
      · have hm := (if_pos h_6).symm.trans hm
        refine lv_iconst (v := 0) hx hb dX3_fails_40 (by decide) ?_
        exact m_zret hx hb hr hlocks rfl (Option.some.inj hm) hV hS ⟨Nat.le_of_ble_eq_true rfl, Nat.le_of_ble_eq_true rfl⟩ dX3_fails_41
      · have hm := (if_neg h_6).symm.trans hm
        refine lv_iconst (v := 1) hx hb dX3_fails_36 (by decide) ?_
        refine lv_goto (tgt := 41) hx hb dX3_fails_37 (by decide) ?_
        exact m_zret hx hb hr hlocks rfl (Option.some.inj hm) hV hS ⟨Nat.le_of_ble_eq_true rfl, Nat.le_of_ble_eq_true rfl⟩ dX3_fails_41
  · have hm := (if_neg h_1).symm.trans hm
    refine lv_iconst (v := 1) hx hb dX3_fails_5 (by decide) ?_
    refine lv_goto (tgt := 26) hx hb dX3_fails_6 (by decide) ?_
    have hs9 := hS.1.1
    refine m_put (z1 := ((1 : Int32), z.2.1, z.2.2.1, z.2.2.2.1, z.2.2.2.2.1, z.2.2.2.2.2)) 0 hx hb htg hown hGx hD hV hS (by decide) (htg _ w_1011) (by decide +kernel) rfl rfl dX3_fails_26 (fun H locs hV hS hz hq => ?_)
    refine lv_aload_n hx hb dX3_fails_29 rfl (lv_at hl 0 rfl) ?_
    refine va_get (D := kD k) (ci := 5) (v := .int (1 : Int32)) (C := RX3) (T := TX3) (N := 5) hx hb htg inG_X3 hown hGx.1 hV.1 0 rfl rfl 0 (by decide) (htg _ w_1011) (fun _ h9 => h9) rfl dX3_fails_30 ?_
    refine lv_if_le (tgt := 40) hx hb dX3_fails_33 (by decide) (fun h_7 => ?_) (fun h_7 => ?_)
    · have hm := (if_pos h_7).symm.trans hm
      refine lv_iconst (v := 0) hx hb dX3_fails_40 (by decide) ?_
      exact m_zret hx hb hr hlocks rfl (Option.some.inj hm) hV hS ⟨Nat.le_of_ble_eq_true rfl, Nat.le_of_ble_eq_true rfl⟩ dX3_fails_41
    · have hm := (if_neg h_7).symm.trans hm
      refine lv_iconst (v := 1) hx hb dX3_fails_36 (by decide) ?_
      refine lv_goto (tgt := 41) hx hb dX3_fails_37 (by decide) ?_
      exact m_zret hx hb hr hlocks rfl (Option.some.inj hm) hV hS ⟨Nat.le_of_ble_eq_true rfl, Nat.le_of_ble_eq_true rfl⟩ dX3_fails_41
theorem nb_X3_fails {p0 p1 p2 : Int32} {z : MS} {r : Int32 × MS} (h : o_X3_fails p0 p1 p2 z = some r) : narrow .boolean (.int r.1) = .int r.1 := by
  unfold o_X3_fails at h
  repeat' split at h
  all_goals (obtain rfl := Option.some.inj h; first | exact (show narrow .boolean (.int 0) = .int 0 from rfl) | exact (show narrow .boolean (.int 1) = .int 1 from rfl))
def o_X3_gives (p0 : Int32) (p1 : DT) (z : MS) : Option (Int32 × MS) := (if p0 < 0 ∨ 6 ≤ p0.toNatClampNeg then none else ((o_X2_number p1).bind fun x_2 => some (x_2, dput (z.1, z.2.1, z.2.2.1, z.2.2.2.1, z.2.2.2.2.1 + (1 : Int32), z.2.2.2.2.2) p0.toNatClampNeg p1)))
theorem kk_X3_gives : pK yX3_gives wsX3_gives cX3_gives 3 (some .int) 2 := ⟨⟨_, rfl⟩, by decide +kernel, by decide +kernel, by decide +kernel⟩
set_option maxRecDepth 100000 in
set_option maxHeartbeats 4000000 in
theorem k_X3_gives (l : Launch) (k : Kx) (b : CA) (L : List Nat) (hD : mD k b L) (p0 : Int32) (p1 : DT) (q1 : Nat) (z : MS) {r : (Int32 × MS)} (hm : o_X3_gives p0 p1 z = some r) : mM l k b L yX3_gives wsX3_gives 4 86 0 0 [.int p0, .ref q1] [(q1, p1)] z (some (.int r.1)) r.2 := by
  intro sz q
  refine Met.ofW (cc := cX3_gives) (maxL := 3) (ret := (some .int)) (by decide) rfl ?_
  intro p e s m args below meth c s₁ B hml hv
  obtain ⟨rfl, rfl, hGx, hV, hLb, hds⟩ := hv
  have hx := B.exec
  have hb := B.bytes
  have hr := B.returns
  have hts := atoms_spec (ws := wsX3_gives) B.pre
  have hown : s.vm.findClass RX3 = some m.cls := findClass_of_methodNamed B.named
  have hlocks := B.notSynchronized
  have htg : ∀ w ∈ GL, w.before _ s = true := fun w h => hts w (List.mem_cons_of_mem _ h)
  have hC : CallFix p m c cX3_gives 3 s _ wsX3_gives RX3 := ⟨hx, hb, hml, hown, hts⟩
  have hA : ∀ q, s.heap.size ≤ q → cA b s.heap.size q := fun q h => cA.new q h
  have hAB : ∀ q, cA b s.heap.size q → kB k ≤ q := hD.high hGx.2.1
  have hS : mS b s.heap s.heap [] := mS.rf
  have hP_q1 : dF k L q1 p1 s.heap := hds (q1, p1) (List.mem_of_getElem? (i := 0) rfl)
  have hl := lv_entry ([.ref b.1, .int p0, .ref q1]) (n := 3) (Nat.le_of_ble_eq_true rfl)
  rw [lg_entry_eq]
  generalize (lg_sl ([.ref b.1, .int p0, .ref q1]) ++ List.replicate (3 - (lg_sl ([.ref b.1, .int p0, .ref q1])).length) Slot.unset).toArray = ls at hl ⊢
  have hl : lv_has ls 3 [(0, .ref b.1), (1, .int p0), (2, .ref q1)] := hl
  refine lv_aload_n hx hb dX3_gives_0 rfl (lv_at hl 0 rfl) ?_
  refine lv_dup hx hb dX3_gives_1 rfl ?_
  refine va_get (D := kD k) (ci := 5) (v := .int z.2.2.2.2.1) (C := RX3) (T := TX3) (N := 5) hx hb htg inG_X3 hown hGx.1 hV.1 0 rfl rfl 3 (by decide) (htg _ w_1014) (fun _ h9 => h9) rfl dX3_gives_2 ?_
  refine lv_iconst (v := 1) hx hb dX3_gives_5 (by decide) ?_
  refine lv_iadd hx hb dX3_gives_6 ?_
  have hs9 := hS.1.1
  refine m_put (z1 := (z.1, z.2.1, z.2.2.1, z.2.2.2.1, z.2.2.2.2.1 + (1 : Int32), z.2.2.2.2.2)) 3 hx hb htg hown hGx hD hV hS (by decide) (htg _ w_1014) (by decide +kernel) rfl rfl dX3_gives_7 (fun H locs hV hS hz hq => ?_)
  have hP_q1 := hP_q1.up hq
  refine lv_aload_n hx hb dX3_gives_10 rfl (lv_at hl 0 rfl) ?_
  refine va_get (D := kD k) (ci := 5) (v := .ref b.2.1) (C := RX3) (T := TX3) (N := 5) hx hb htg inG_X3 hown hGx.1 hV.1 0 rfl rfl 1 (by decide) (htg _ w_1012) (fun _ h9 => h9) rfl dX3_gives_11 ?_
  refine lv_iload_n hx hb dX3_gives_14 rfl (lv_at hl 1 rfl) ?_
  refine lv_aload_n hx hb dX3_gives_15 rfl (lv_at hl 2 rfl) ?_
  have hs9 := hS.1.1
  by_cases h_1 : p0 < 0 ∨ 6 ≤ p0.toNatClampNeg
  · have hm := (if_pos h_1).symm.trans hm
    cases hm
  have hm := (if_neg h_1).symm.trans hm
  refine m_ast hx hb hGx hD hV hS hP_q1 h_1 dX3_gives_16 (fun H locs hV hS hz hq => ?_)
  generalize va_up q p0.toNatClampNeg q1 = q_1 at hV
  have hP_q1 := hP_q1.up hq
  refine lv_aload_n hx hb dX3_gives_17 rfl (lv_at hl 2 rfl) ?_
  obtain ⟨x_2, hx_2, hm⟩ := Option.bind_eq_some_iff.mp hm
  have hs_2 := hS.1.1
  have hLn_2 := m_hLn hLb hS
  have hL9 := hS.2
  refine qc_V hC hGx (k_X2_number l k p1 q1 hx_2) (gV w_1062 w_1063 w_1064 w_28 w_1065) kk_X2_number rfl hP_q1.1 (List.forall_mem_cons.mpr ⟨hP_q1.1, (List.forall_mem_nil _)⟩) ⟨Nat.le_of_ble_eq_true rfl, Nat.le_of_ble_eq_true rfl⟩ ⟨Nat.le_of_ble_eq_true rfl, Nat.le_of_ble_eq_true rfl⟩ hS.1 hA hAB hl.1 rfl rfl (Nat.le_of_ble_eq_true rfl) dX3_gives_18 (fun v_2 H hv hz hq hS => ?_)
  have hS : mS b s.heap H _ := ⟨hS, hL9⟩
  have hV := hV.up hq
  have hP_q1 := hP_q1.up (fun x h9 _ => hq x h9)
  have hv : v_2 = some (.int x_2) := hv
  subst hv
  exact m_iret hx hb hr hlocks (Option.some.inj hm) hV hS ⟨Nat.le_of_ble_eq_true rfl, Nat.le_of_ble_eq_true rfl⟩ dX3_gives_21
def o_X3_tells (p0 : Int32) (p1 : Int32) (p2 : Int32) (p3 : Int32) (z : MS) : Option (Int32 × MS) := (if p0 < 0 ∨ 2 ≤ p0.toNatClampNeg then none else (if p0 < 0 ∨ 2 ≤ p0.toNatClampNeg then none else (if p0 < 0 ∨ 2 ≤ p0.toNatClampNeg then none else some (p3, sput (sput (sput (z.1, z.2.1, z.2.2.1, z.2.2.2.1, z.2.2.2.2.1 + (1 : Int32), z.2.2.2.2.2) p0.toNatClampNeg (0 : Int32).toNatClampNeg p1) p0.toNatClampNeg (1 : Int32).toNatClampNeg p2) p0.toNatClampNeg (2 : Int32).toNatClampNeg p3))))
theorem kk_X3_tells : pK yX3_tells wsX3_tells cX3_tells 5 (some .int) 4 := ⟨⟨_, rfl⟩, by decide +kernel, by decide +kernel, by decide +kernel⟩
set_option maxRecDepth 100000 in
set_option maxHeartbeats 4000000 in
theorem k_X3_tells (l : Launch) (k : Kx) (b : CA) (L : List Nat) (hD : mD k b L) (p0 : Int32) (p1 : Int32) (p2 : Int32) (p3 : Int32) (z : MS) {r : (Int32 × MS)} (hm : o_X3_tells p0 p1 p2 p3 z = some r) : mM l k b L yX3_tells wsX3_tells 0 0 0 0 [.int p0, .int p1, .int p2, .int p3] [] z (some (.int r.1)) r.2 := by
  intro sz q
  refine Met.ofW (cc := cX3_tells) (maxL := 5) (ret := (some .int)) (by decide) rfl ?_
  intro p e s m args below meth c s₁ B hml hv
  obtain ⟨rfl, rfl, hGx, hV, hLb, hds⟩ := hv
  have hx := B.exec
  have hb := B.bytes
  have hr := B.returns
  have hts := atoms_spec (ws := wsX3_tells) B.pre
  have hown : s.vm.findClass RX3 = some m.cls := findClass_of_methodNamed B.named
  have hlocks := B.notSynchronized
  have htg : ∀ w ∈ GL, w.before _ s = true := fun w h => hts w (List.mem_cons_of_mem _ h)
  have hC : CallFix p m c cX3_tells 5 s _ wsX3_tells RX3 := ⟨hx, hb, hml, hown, hts⟩
  have hA : ∀ q, s.heap.size ≤ q → cA b s.heap.size q := fun q h => cA.new q h
  have hAB : ∀ q, cA b s.heap.size q → kB k ≤ q := hD.high hGx.2.1
  have hS : mS b s.heap s.heap [] := mS.rf
  have hl := lv_entry ([.ref b.1, .int p0, .int p1, .int p2, .int p3]) (n := 5) (Nat.le_of_ble_eq_true rfl)
  rw [lg_entry_eq]
  generalize (lg_sl ([.ref b.1, .int p0, .int p1, .int p2, .int p3]) ++ List.replicate (5 - (lg_sl ([.ref b.1, .int p0, .int p1, .int p2, .int p3])).length) Slot.unset).toArray = ls at hl ⊢
  have hl : lv_has ls 5 [(0, .ref b.1), (1, .int p0), (2, .int p1), (3, .int p2), (4, .int p3)] := hl
  refine lv_aload_n hx hb dX3_tells_0 rfl (lv_at hl 0 rfl) ?_
  refine lv_dup hx hb dX3_tells_1 rfl ?_
  refine va_get (D := kD k) (ci := 5) (v := .int z.2.2.2.2.1) (C := RX3) (T := TX3) (N := 5) hx hb htg inG_X3 hown hGx.1 hV.1 0 rfl rfl 3 (by decide) (htg _ w_1014) (fun _ h9 => h9) rfl dX3_tells_2 ?_
  refine lv_iconst (v := 1) hx hb dX3_tells_5 (by decide) ?_
  refine lv_iadd hx hb dX3_tells_6 ?_
  have hs9 := hS.1.1
  refine m_put (z1 := (z.1, z.2.1, z.2.2.1, z.2.2.2.1, z.2.2.2.2.1 + (1 : Int32), z.2.2.2.2.2)) 3 hx hb htg hown hGx hD hV hS (by decide) (htg _ w_1014) (by decide +kernel) rfl rfl dX3_tells_7 (fun H locs hV hS hz hq => ?_)
  refine lv_aload_n hx hb dX3_tells_10 rfl (lv_at hl 0 rfl) ?_
  refine va_get (D := kD k) (ci := 5) (v := .ref b.2.2.1) (C := RX3) (T := TX3) (N := 5) hx hb htg inG_X3 hown hGx.1 hV.1 0 rfl rfl 2 (by decide) (htg _ w_1013) (fun _ h9 => h9) rfl dX3_tells_11 ?_
  refine lv_iload_n hx hb dX3_tells_14 rfl (lv_at hl 1 rfl) ?_
  by_cases h_1 : p0 < 0 ∨ 2 ≤ p0.toNatClampNeg
  · have hm := (if_pos h_1).symm.trans hm
    cases hm
  have hm := (if_neg h_1).symm.trans hm
  refine m_lds hx hb hGx hV h_1 dX3_tells_15 ?_
  refine lv_iconst (v := 0) hx hb dX3_tells_16 (by decide) ?_
  refine lv_iload_n hx hb dX3_tells_17 rfl (lv_at hl 2 rfl) ?_
  have hs9 := hS.1.1
  refine m_sst hx hb hGx hD hV hS (show ¬ ((0 : Int32) < 0 ∨ 3 ≤ ((0 : Int32)).toNatClampNeg) by decide) dX3_tells_18 (fun H locs hV hS hz hq => ?_)
  refine lv_aload_n hx hb dX3_tells_19 rfl (lv_at hl 0 rfl) ?_
  refine va_get (D := kD k) (ci := 5) (v := .ref b.2.2.1) (C := RX3) (T := TX3) (N := 5) hx hb htg inG_X3 hown hGx.1 hV.1 0 rfl rfl 2 (by decide) (htg _ w_1013) (fun _ h9 => h9) rfl dX3_tells_20 ?_
  refine lv_iload_n hx hb dX3_tells_23 rfl (lv_at hl 1 rfl) ?_
  by_cases h_2 : p0 < 0 ∨ 2 ≤ p0.toNatClampNeg
  · have hm := (if_pos h_2).symm.trans hm
    cases hm
  have hm := (if_neg h_2).symm.trans hm
  refine m_lds hx hb hGx hV h_2 dX3_tells_24 ?_
  refine lv_iconst (v := 1) hx hb dX3_tells_25 (by decide) ?_
  refine lv_iload_n hx hb dX3_tells_26 rfl (lv_at hl 3 rfl) ?_
  have hs9 := hS.1.1
  refine m_sst hx hb hGx hD hV hS (show ¬ ((1 : Int32) < 0 ∨ 3 ≤ ((1 : Int32)).toNatClampNeg) by decide) dX3_tells_27 (fun H locs hV hS hz hq => ?_)
  refine lv_aload_n hx hb dX3_tells_28 rfl (lv_at hl 0 rfl) ?_
  refine va_get (D := kD k) (ci := 5) (v := .ref b.2.2.1) (C := RX3) (T := TX3) (N := 5) hx hb htg inG_X3 hown hGx.1 hV.1 0 rfl rfl 2 (by decide) (htg _ w_1013) (fun _ h9 => h9) rfl dX3_tells_29 ?_
  refine lv_iload_n hx hb dX3_tells_32 rfl (lv_at hl 1 rfl) ?_
  by_cases h_3 : p0 < 0 ∨ 2 ≤ p0.toNatClampNeg
  · have hm := (if_pos h_3).symm.trans hm
    cases hm
  have hm := (if_neg h_3).symm.trans hm
  refine m_lds hx hb hGx hV h_3 dX3_tells_33 ?_
  refine lv_iconst (v := 2) hx hb dX3_tells_34 (by decide) ?_
  refine lv_iload hx hb dX3_tells_35 (lv_at hl 4 rfl) ?_
  have hs9 := hS.1.1
  refine m_sst hx hb hGx hD hV hS (show ¬ ((2 : Int32) < 0 ∨ 3 ≤ ((2 : Int32)).toNatClampNeg) by decide) dX3_tells_37 (fun H locs hV hS hz hq => ?_)
  refine lv_iload hx hb dX3_tells_38 (lv_at hl 4 rfl) ?_
  exact m_iret hx hb hr hlocks (Option.some.inj hm) hV hS ⟨Nat.le_of_ble_eq_true rfl, Nat.le_of_ble_eq_true rfl⟩ dX3_tells_40
def o_X3_areNot (p0 : Int32) (p1 : Int32) (z : MS) : Option (Int32 × MS) := (if m_X3_isNo p0 = 0 then (if m_X3_isNo p1 = 0 then ((o_X3_fails (0 : Int32) (0 : Int32) (0 : Int32) z).bind fun x_2 => some (x_2.1, x_2.2)) else ((o_X3_fails (1 : Int32) (0 : Int32) (0 : Int32) z).bind fun x_3 => some (x_3.1, x_3.2))) else ((o_X3_fails (1 : Int32) (0 : Int32) (0 : Int32) z).bind fun x_1 => some (x_1.1, x_1.2)))
theorem kk_X3_areNot : pK yX3_areNot wsX3_areNot cX3_areNot 3 (some .boolean) 2 := ⟨⟨_, rfl⟩, by decide +kernel, by decide +kernel, by decide +kernel⟩
set_option maxRecDepth 100000 in
set_option maxHeartbeats 4000000 in
theorem k_X3_areNot (l : Launch) (k : Kx) (b : CA) (L : List Nat) (hD : mD k b L) (p0 : Int32) (p1 : Int32) (z : MS) {r : (Int32 × MS)} (hm : o_X3_areNot p0 p1 z = some r) : mM l k b L yX3_areNot wsX3_areNot 2 45 0 0 [.int p0, .int p1] [] z (some (.int r.1)) r.2 := by
  intro sz q
  refine Met.ofW (cc := cX3_areNot) (maxL := 3) (ret := (some .boolean)) (by decide) rfl ?_
  intro p e s m args below meth c s₁ B hml hv
  obtain ⟨rfl, rfl, hGx, hV, hLb, hds⟩ := hv
  have hx := B.exec
  have hb := B.bytes
  have hr := B.returns
  have hts := atoms_spec (ws := wsX3_areNot) B.pre
  have hown : s.vm.findClass RX3 = some m.cls := findClass_of_methodNamed B.named
  have hlocks := B.notSynchronized
  have htg : ∀ w ∈ GL, w.before _ s = true := fun w h => hts w (List.mem_cons_of_mem _ h)
  have hC : CallFix p m c cX3_areNot 3 s _ wsX3_areNot RX3 := ⟨hx, hb, hml, hown, hts⟩
  have hA : ∀ q, s.heap.size ≤ q → cA b s.heap.size q := fun q h => cA.new q h
  have hAB : ∀ q, cA b s.heap.size q → kB k ≤ q := hD.high hGx.2.1
  have hS : mS b s.heap s.heap [] := mS.rf
  have hl := lv_entry ([.ref b.1, .int p0, .int p1]) (n := 3) (Nat.le_of_ble_eq_true rfl)
  rw [lg_entry_eq]
  generalize (lg_sl ([.ref b.1, .int p0, .int p1]) ++ List.replicate (3 - (lg_sl ([.ref b.1, .int p0, .int p1])).length) Slot.unset).toArray = ls at hl ⊢
  have hl : lv_has ls 3 [(0, .ref b.1), (1, .int p0), (2, .int p1)] := hl
  refine lv_aload_n hx hb dX3_areNot_0 rfl (lv_at hl 0 rfl) ?_
  refine lv_iload_n hx hb dX3_areNot_1 rfl (lv_at hl 1 rfl) ?_
  refine pc_S hC (c_X3_isNo l p0) (gS w_1045 w_1046 w_27 w_1047) kk_X3_isNo ⟨Nat.le_of_ble_eq_true rfl, Nat.le_of_ble_eq_true rfl⟩ ⟨Nat.le_of_ble_eq_true rfl, Nat.le_of_ble_eq_true rfl⟩ hl.1 rfl rfl (Nat.le_of_ble_eq_true rfl) dX3_areNot_2 ?_
  refine lv_if_ne (tgt := 15) hx hb dX3_areNot_5 (by decide) (fun h_1 => ?_) (fun h_1 => ?_)
  · have hm := (if_neg h_1).symm.trans hm
    refine lv_iconst (v := 1) hx hb dX3_areNot_15 (by decide) ?_
    refine lv_goto (tgt := 20) hx hb dX3_areNot_16 (by decide) ?_
    refine lv_iconst (v := 0) hx hb dX3_areNot_20 (by decide) ?_
    refine lv_iconst (v := 0) hx hb dX3_areNot_21 (by decide) ?_
    obtain ⟨x_1, hx_1, hm⟩ := Option.bind_eq_some_iff.mp hm
    refine mc_V hC hGx hD (k_X3_fails l k b L hD (1 : Int32) (0 : Int32) (0 : Int32)  z hx_1) (gV w_1056 w_1057 w_18 w_27 w_1058) kk_X3_fails rfl (List.forall_mem_nil _) hLb ⟨Nat.le_of_ble_eq_true rfl, Nat.le_of_ble_eq_true rfl⟩ ⟨Nat.le_of_ble_eq_true rfl, Nat.le_of_ble_eq_true rfl⟩ hV hS hl.1 rfl rfl (Nat.le_of_ble_eq_true rfl) dX3_areNot_22 (fun q_1 H locs hV hS hz hq => ?_)
    exact m_zret hx hb hr hlocks (nb_X3_fails hx_1) (Option.some.inj hm) hV hS ⟨Nat.le_of_ble_eq_true rfl, Nat.le_of_ble_eq_true rfl⟩ dX3_areNot_25
  · have hm := (if_pos h_1).symm.trans hm
    refine lv_iload_n hx hb dX3_areNot_8 rfl (lv_at hl 2 rfl) ?_
    refine pc_S hC (c_X3_isNo l p1) (gS w_1045 w_1046 w_27 w_1047) kk_X3_isNo ⟨Nat.le_of_ble_eq_true rfl, Nat.le_of_ble_eq_true rfl⟩ ⟨Nat.le_of_ble_eq_true rfl, Nat.le_of_ble_eq_true rfl⟩ hl.1 rfl rfl (Nat.le_of_ble_eq_true rfl) dX3_areNot_9 ?_
    refine lv_if_eq (tgt := 19) hx hb dX3_areNot_12 (by decide) (fun h_2 => ?_) (fun h_2 => ?_)
    · have hm := (if_pos h_2).symm.trans hm
      refine lv_iconst (v := 0) hx hb dX3_areNot_19 (by decide) ?_
      refine lv_iconst (v := 0) hx hb dX3_areNot_20 (by decide) ?_
      refine lv_iconst (v := 0) hx hb dX3_areNot_21 (by decide) ?_
      obtain ⟨x_2, hx_2, hm⟩ := Option.bind_eq_some_iff.mp hm
      refine mc_V hC hGx hD (k_X3_fails l k b L hD (0 : Int32) (0 : Int32) (0 : Int32)  z hx_2) (gV w_1056 w_1057 w_18 w_27 w_1058) kk_X3_fails rfl (List.forall_mem_nil _) hLb ⟨Nat.le_of_ble_eq_true rfl, Nat.le_of_ble_eq_true rfl⟩ ⟨Nat.le_of_ble_eq_true rfl, Nat.le_of_ble_eq_true rfl⟩ hV hS hl.1 rfl rfl (Nat.le_of_ble_eq_true rfl) dX3_areNot_22 (fun q_2 H locs hV hS hz hq => ?_)
      exact m_zret hx hb hr hlocks (nb_X3_fails hx_2) (Option.some.inj hm) hV hS ⟨Nat.le_of_ble_eq_true rfl, Nat.le_of_ble_eq_true rfl⟩ dX3_areNot_25
    · have hm := (if_neg h_2).symm.trans hm
      refine lv_iconst (v := 1) hx hb dX3_areNot_15 (by decide) ?_
      refine lv_goto (tgt := 20) hx hb dX3_areNot_16 (by decide) ?_
      refine lv_iconst (v := 0) hx hb dX3_areNot_20 (by decide) ?_
      refine lv_iconst (v := 0) hx hb dX3_areNot_21 (by decide) ?_
      obtain ⟨x_3, hx_3, hm⟩ := Option.bind_eq_some_iff.mp hm
      refine mc_V hC hGx hD (k_X3_fails l k b L hD (1 : Int32) (0 : Int32) (0 : Int32)  z hx_3) (gV w_1056 w_1057 w_18 w_27 w_1058) kk_X3_fails rfl (List.forall_mem_nil _) hLb ⟨Nat.le_of_ble_eq_true rfl, Nat.le_of_ble_eq_true rfl⟩ ⟨Nat.le_of_ble_eq_true rfl, Nat.le_of_ble_eq_true rfl⟩ hV hS hl.1 rfl rfl (Nat.le_of_ble_eq_true rfl) dX3_areNot_22 (fun q_3 H locs hV hS hz hq => ?_)
      exact m_zret hx hb hr hlocks (nb_X3_fails hx_3) (Option.some.inj hm) hV hS ⟨Nat.le_of_ble_eq_true rfl, Nat.le_of_ble_eq_true rfl⟩ dX3_areNot_25
def o_X3_of (p0 : Int32) (p1 : Int32) (p2 : Int32) (p3 : Int32) (z : MS) : Option (Int32 × MS) := (if m_X3_isNoYear p1 = 0 then (if m_X3_isIn p2.toInt64 (1 : Int64) (12 : Int64) = 0 then ((o_X3_fails (m_X3_isNo p0) (1 : Int32) (0 : Int32) z).bind fun x_4 => (if x_4.1 = 0 then ((o_X3_gives p0 (p1, p2, p3) x_4.2).bind fun x_6 => some (x_6.1, x_6.2)) else some ((0 : Int32), x_4.2))) else (if m_X3_isIn p3.toInt64 (1 : Int64) (31 : Int64) = 0 then ((o_X3_fails (m_X3_isNo p0) (1 : Int32) (0 : Int32) z).bind fun x_14 => (if x_14.1 = 0 then ((o_X3_gives p0 (p1, p2, p3) x_14.2).bind fun x_16 => some (x_16.1, x_16.2)) else some ((0 : Int32), x_14.2))) else ((o_X3_lengthOf_ p1 p2).bind fun x_7 => (if p3 ≤ x_7 then ((o_X3_fails (m_X3_isNo p0) (0 : Int32) (0 : Int32) z).bind fun x_8 => (if x_8.1 = 0 then ((o_X3_gives p0 (p1, p2, p3) x_8.2).bind fun x_10 => some (x_10.1, x_10.2)) else some ((0 : Int32), x_8.2))) else ((o_X3_fails (m_X3_isNo p0) (0 : Int32) (1 : Int32) z).bind fun x_11 => (if x_11.1 = 0 then ((o_X3_gives p0 (p1, p2, p3) x_11.2).bind fun x_13 => some (x_13.1, x_13.2)) else some ((0 : Int32), x_11.2))))))) else ((o_X3_fails (m_X3_isNo p0) (1 : Int32) (0 : Int32) z).bind fun x_1 => (if x_1.1 = 0 then ((o_X3_gives p0 (p1, p2, p3) x_1.2).bind fun x_3 => some (x_3.1, x_3.2)) else some ((0 : Int32), x_1.2))))
theorem kk_X3_of : pK yX3_of wsX3_of cX3_of 6 (some .int) 4 := ⟨⟨_, rfl⟩, by decide +kernel, by decide +kernel, by decide +kernel⟩
set_option maxRecDepth 100000 in
set_option maxHeartbeats 4000000 in
theorem k_X3_of (l : Launch) (k : Kx) (b : CA) (L : List Nat) (hD : mD k b L) (p0 : Int32) (p1 : Int32) (p2 : Int32) (p3 : Int32) (z : MS) {r : (Int32 × MS)} (hm : o_X3_of p0 p1 p2 p3 z = some r) : mM l k b L yX3_of wsX3_of 5 108 1 3 [.int p0, .int p1, .int p2, .int p3] [] z (some (.int r.1)) r.2 := by
  intro sz q
  refine Met.ofW (cc := cX3_of) (maxL := 6) (ret := (some .int)) (by decide) rfl ?_
  intro p e s m args below meth c s₁ B hml hv
  obtain ⟨rfl, rfl, hGx, hV, hLb, hds⟩ := hv
  have hx := B.exec
  have hb := B.bytes
  have hr := B.returns
  have hts := atoms_spec (ws := wsX3_of) B.pre
  have hown : s.vm.findClass RX3 = some m.cls := findClass_of_methodNamed B.named
  have hlocks := B.notSynchronized
  have htg : ∀ w ∈ GL, w.before _ s = true := fun w h => hts w (List.mem_cons_of_mem _ h)
  have hC : CallFix p m c cX3_of 6 s _ wsX3_of RX3 := ⟨hx, hb, hml, hown, hts⟩
  have hA : ∀ q, s.heap.size ≤ q → cA b s.heap.size q := fun q h => cA.new q h
  have hAB : ∀ q, cA b s.heap.size q → kB k ≤ q := hD.high hGx.2.1
  have hS : mS b s.heap s.heap [] := mS.rf
  have hl := lv_entry ([.ref b.1, .int p0, .int p1, .int p2, .int p3]) (n := 6) (Nat.le_of_ble_eq_true rfl)
  rw [lg_entry_eq]
  generalize (lg_sl ([.ref b.1, .int p0, .int p1, .int p2, .int p3]) ++ List.replicate (6 - (lg_sl ([.ref b.1, .int p0, .int p1, .int p2, .int p3])).length) Slot.unset).toArray = ls at hl ⊢
  have hl : lv_has ls 6 [(0, .ref b.1), (1, .int p0), (2, .int p1), (3, .int p2), (4, .int p3)] := hl
  refine lv_iload_n hx hb dX3_of_0 rfl (lv_at hl 2 rfl) ?_
  refine pc_S hC (c_X3_isNoYear l p1) (gS w_1035 w_1036 w_27 w_1037) kk_X3_isNoYear ⟨Nat.le_of_ble_eq_true rfl, Nat.le_of_ble_eq_true rfl⟩ ⟨Nat.le_of_ble_eq_true rfl, Nat.le_of_ble_eq_true rfl⟩ hl.1 rfl rfl (Nat.le_of_ble_eq_true rfl) dX3_of_1 ?_
  refine lv_if_ne (tgt := 32) hx hb dX3_of_4 (by decide) (fun h_1 => ?_) (fun h_1 => ?_)
  · have hm := (if_neg h_1).symm.trans hm
    refine lv_iconst (v := 1) hx hb dX3_of_32 (by decide) ?_
    refine lv_goto (tgt := 37) hx hb dX3_of_33 (by decide) ?_
    refine lv_istore (lv' := [(5, .int (1 : Int32)), (0, .ref b.1), (1, .int p0), (2, .int p1), (3, .int p2), (4, .int p3)]) hx hb dX3_of_37 hl (by decide) rfl (fun ls hl => ?_)
    refine lv_aload_n hx hb dX3_of_39 rfl (lv_at hl 1 rfl) ?_
    refine lv_iload_n hx hb dX3_of_40 rfl (lv_at hl 2 rfl) ?_
    refine pc_S hC (c_X3_isNo l p0) (gS w_1045 w_1046 w_27 w_1047) kk_X3_isNo ⟨Nat.le_of_ble_eq_true rfl, Nat.le_of_ble_eq_true rfl⟩ ⟨Nat.le_of_ble_eq_true rfl, Nat.le_of_ble_eq_true rfl⟩ hl.1 rfl rfl (Nat.le_of_ble_eq_true rfl) dX3_of_41 ?_
    refine lv_iload hx hb dX3_of_44 (lv_at hl 0 rfl) ?_
    refine lv_iload hx hb dX3_of_46 (lv_at hl 0 rfl) ?_
    refine lv_if_ne (tgt := 65) hx hb dX3_of_48 (by decide) (fun _ => ?_) (fun h => absurd h (by decide))
    refine lv_iconst (v := 0) hx hb dX3_of_65 (by decide) ?_
    obtain ⟨x_1, hx_1, hm⟩ := Option.bind_eq_some_iff.mp hm
    refine mc_V hC hGx hD (k_X3_fails l k b L hD (m_X3_isNo p0) (1 : Int32) (0 : Int32)  z hx_1) (gV w_1056 w_1057 w_18 w_27 w_1058) kk_X3_fails rfl (List.forall_mem_nil _) hLb ⟨Nat.le_of_ble_eq_true rfl, Nat.le_of_ble_eq_true rfl⟩ ⟨Nat.le_of_ble_eq_true rfl, Nat.le_of_ble_eq_true rfl⟩ hV hS hl.1 rfl rfl (Nat.le_of_ble_eq_true rfl) dX3_of_66 (fun q_1 H locs hV hS hz hq => ?_)
    refine lv_if_eq (tgt := 74) hx hb dX3_of_69 (by decide) (fun h_2 => ?_) (fun h_2 => ?_)
    · have hm := (if_pos h_2).symm.trans hm
      refine lv_aload_n hx hb dX3_of_74 rfl (lv_at hl 1 rfl) ?_
      refine lv_iload_n hx hb dX3_of_75 rfl (lv_at hl 2 rfl) ?_
      have hLn_2 := m_hLn hLb hS
      have hL9 := hS.2
      have hV_2 := hV
      have hs_2 := hS.1.1
      refine m_new2 hx hb htg hown (htg _ w_991) (htg _ w_993) (htg _ w_28) hGx hS.1 ⟨Nat.le_of_ble_eq_true rfl, Nat.le_of_ble_eq_true rfl⟩ dX3_of_76 (fun a_2 H hn_2 hz_2 hN_2 hq hS => ?_)
      have hS : mS b s.heap H _ := ⟨hS, hL9⟩
      have hV := hV.up hq
      have hq_2 := hq
      refine lv_dup hx hb dX3_of_79 rfl ?_
      refine lv_iload_n hx hb dX3_of_80 rfl (lv_at hl 3 rfl) ?_
      refine lv_iload_n hx hb dX3_of_81 rfl (lv_at hl 4 rfl) ?_
      refine lv_iload hx hb dX3_of_82 (lv_at hl 5 rfl) ?_
      have hL9 := hS.2
      refine q_init (v := (p1, p2, p3)) hC hGx (gC w_996) (htg _ w_994) (htg _ w_28) (htg _ w_995) hN_2 (Nat.le_trans hs_2 hn_2) ⟨Nat.le_of_ble_eq_true rfl, Nat.le_of_ble_eq_true rfl⟩ ⟨Nat.le_of_ble_eq_true rfl, Nat.le_of_ble_eq_true rfl⟩ hS.1 hA hAB hl.1 rfl (Nat.le_of_ble_eq_true rfl) dX3_of_84 (fun H hP_2 hz9 hq9 hS => ?_)
      have hq := m_q2 hn_2 hz_2 hq_2 hq9
      have hS : mS b s.heap H _ := ⟨hS, hL9⟩
      have hV := hV_2.up hq
      have hP_2 := dF.made hLn_2 hn_2 hP_2
      have hn_2 := Nat.le_trans hs_2 hn_2
      obtain ⟨x_3, hx_3, hm⟩ := Option.bind_eq_some_iff.mp hm
      refine mc_V hC hGx hD (k_X3_gives l k b L hD p0 (p1, p2, p3) a_2 x_1.2 hx_3) (gV w_1059 w_1060 w_19 w_27 w_1061) kk_X3_gives rfl (List.forall_mem_cons.mpr ⟨hP_2, (List.forall_mem_nil _)⟩) hLb ⟨Nat.le_of_ble_eq_true rfl, Nat.le_of_ble_eq_true rfl⟩ ⟨Nat.le_of_ble_eq_true rfl, Nat.le_of_ble_eq_true rfl⟩ hV hS hl.1 rfl rfl (Nat.le_of_ble_eq_true rfl) dX3_of_87 (fun q_3 H locs hV hS hz hq => ?_)
      exact m_iret hx hb hr hlocks (Option.some.inj hm) hV hS ⟨Nat.le_of_ble_eq_true rfl, Nat.le_of_ble_eq_true rfl⟩ dX3_of_90
    · have hm := (if_neg h_2).symm.trans hm
      refine lv_iconst (v := 0) hx hb dX3_of_72 (by decide) ?_
      exact m_iret hx hb hr hlocks (Option.some.inj hm) hV hS ⟨Nat.le_of_ble_eq_true rfl, Nat.le_of_ble_eq_true rfl⟩ dX3_of_73
  · have hm := (if_pos h_1).symm.trans hm
    refine lv_iload_n hx hb dX3_of_7 rfl (lv_at hl 3 rfl) ?_
    refine lv_i2l hx hb dX3_of_8 rfl ?_
    refine lv_lconst (v := 1) hx hb dX3_of_9 (by decide) ?_
    refine lv_ldc2 hx hb hown (htg _ w_1043) dX3_of_10 ?_
    refine pc_S hC (c_X3_isIn l p2.toInt64 (1 : Int64) (12 : Int64)) (gS w_1040 w_1041 w_27 w_1042) kk_X3_isIn ⟨Nat.le_of_ble_eq_true rfl, Nat.le_of_ble_eq_true rfl⟩ ⟨Nat.le_of_ble_eq_true rfl, Nat.le_of_ble_eq_true rfl⟩ hl.1 rfl rfl (Nat.le_of_ble_eq_true rfl) dX3_of_13 ?_
    refine lv_if_eq (tgt := 32) hx hb dX3_of_16 (by decide) (fun h_3 => ?_) (fun h_3 => ?_)
    · have hm := (if_pos h_3).symm.trans hm
      refine lv_iconst (v := 1) hx hb dX3_of_32 (by decide) ?_
      refine lv_goto (tgt := 37) hx hb dX3_of_33 (by decide) ?_
      refine lv_istore (lv' := [(5, .int (1 : Int32)), (0, .ref b.1), (1, .int p0), (2, .int p1), (3, .int p2), (4, .int p3)]) hx hb dX3_of_37 hl (by decide) rfl (fun ls hl => ?_)
      refine lv_aload_n hx hb dX3_of_39 rfl (lv_at hl 1 rfl) ?_
      refine lv_iload_n hx hb dX3_of_40 rfl (lv_at hl 2 rfl) ?_
      refine pc_S hC (c_X3_isNo l p0) (gS w_1045 w_1046 w_27 w_1047) kk_X3_isNo ⟨Nat.le_of_ble_eq_true rfl, Nat.le_of_ble_eq_true rfl⟩ ⟨Nat.le_of_ble_eq_true rfl, Nat.le_of_ble_eq_true rfl⟩ hl.1 rfl rfl (Nat.le_of_ble_eq_true rfl) dX3_of_41 ?_
      refine lv_iload hx hb dX3_of_44 (lv_at hl 0 rfl) ?_
      refine lv_iload hx hb dX3_of_46 (lv_at hl 0 rfl) ?_
      refine lv_if_ne (tgt := 65) hx hb dX3_of_48 (by decide) (fun _ => ?_) (fun h => absurd h (by decide))
      refine lv_iconst (v := 0) hx hb dX3_of_65 (by decide) ?_
      obtain ⟨x_4, hx_4, hm⟩ := Option.bind_eq_some_iff.mp hm
      refine mc_V hC hGx hD (k_X3_fails l k b L hD (m_X3_isNo p0) (1 : Int32) (0 : Int32)  z hx_4) (gV w_1056 w_1057 w_18 w_27 w_1058) kk_X3_fails rfl (List.forall_mem_nil _) hLb ⟨Nat.le_of_ble_eq_true rfl, Nat.le_of_ble_eq_true rfl⟩ ⟨Nat.le_of_ble_eq_true rfl, Nat.le_of_ble_eq_true rfl⟩ hV hS hl.1 rfl rfl (Nat.le_of_ble_eq_true rfl) dX3_of_66 (fun q_4 H locs hV hS hz hq => ?_)
      refine lv_if_eq (tgt := 74) hx hb dX3_of_69 (by decide) (fun h_4 => ?_) (fun h_4 => ?_)
      · have hm := (if_pos h_4).symm.trans hm
        refine lv_aload_n hx hb dX3_of_74 rfl (lv_at hl 1 rfl) ?_
        refine lv_iload_n hx hb dX3_of_75 rfl (lv_at hl 2 rfl) ?_
        have hLn_5 := m_hLn hLb hS
        have hL9 := hS.2
        have hV_5 := hV
        have hs_5 := hS.1.1
        refine m_new2 hx hb htg hown (htg _ w_991) (htg _ w_993) (htg _ w_28) hGx hS.1 ⟨Nat.le_of_ble_eq_true rfl, Nat.le_of_ble_eq_true rfl⟩ dX3_of_76 (fun a_5 H hn_5 hz_5 hN_5 hq hS => ?_)
        have hS : mS b s.heap H _ := ⟨hS, hL9⟩
        have hV := hV.up hq
        have hq_5 := hq
        refine lv_dup hx hb dX3_of_79 rfl ?_
        refine lv_iload_n hx hb dX3_of_80 rfl (lv_at hl 3 rfl) ?_
        refine lv_iload_n hx hb dX3_of_81 rfl (lv_at hl 4 rfl) ?_
        refine lv_iload hx hb dX3_of_82 (lv_at hl 5 rfl) ?_
        have hL9 := hS.2
        refine q_init (v := (p1, p2, p3)) hC hGx (gC w_996) (htg _ w_994) (htg _ w_28) (htg _ w_995) hN_5 (Nat.le_trans hs_5 hn_5) ⟨Nat.le_of_ble_eq_true rfl, Nat.le_of_ble_eq_true rfl⟩ ⟨Nat.le_of_ble_eq_true rfl, Nat.le_of_ble_eq_true rfl⟩ hS.1 hA hAB hl.1 rfl (Nat.le_of_ble_eq_true rfl) dX3_of_84 (fun H hP_5 hz9 hq9 hS => ?_)
        have hq := m_q2 hn_5 hz_5 hq_5 hq9
        have hS : mS b s.heap H _ := ⟨hS, hL9⟩
        have hV := hV_5.up hq
        have hP_5 := dF.made hLn_5 hn_5 hP_5
        have hn_5 := Nat.le_trans hs_5 hn_5
        obtain ⟨x_6, hx_6, hm⟩ := Option.bind_eq_some_iff.mp hm
        refine mc_V hC hGx hD (k_X3_gives l k b L hD p0 (p1, p2, p3) a_5 x_4.2 hx_6) (gV w_1059 w_1060 w_19 w_27 w_1061) kk_X3_gives rfl (List.forall_mem_cons.mpr ⟨hP_5, (List.forall_mem_nil _)⟩) hLb ⟨Nat.le_of_ble_eq_true rfl, Nat.le_of_ble_eq_true rfl⟩ ⟨Nat.le_of_ble_eq_true rfl, Nat.le_of_ble_eq_true rfl⟩ hV hS hl.1 rfl rfl (Nat.le_of_ble_eq_true rfl) dX3_of_87 (fun q_6 H locs hV hS hz hq => ?_)
        exact m_iret hx hb hr hlocks (Option.some.inj hm) hV hS ⟨Nat.le_of_ble_eq_true rfl, Nat.le_of_ble_eq_true rfl⟩ dX3_of_90
      · have hm := (if_neg h_4).symm.trans hm
        refine lv_iconst (v := 0) hx hb dX3_of_72 (by decide) ?_
        exact m_iret hx hb hr hlocks (Option.some.inj hm) hV hS ⟨Nat.le_of_ble_eq_true rfl, Nat.le_of_ble_eq_true rfl⟩ dX3_of_73
    · have hm := (if_neg h_3).symm.trans hm
      refine lv_iload hx hb dX3_of_19 (lv_at hl 4 rfl) ?_
      refine lv_i2l hx hb dX3_of_21 rfl ?_
      refine lv_lconst (v := 1) hx hb dX3_of_22 (by decide) ?_
      refine lv_ldc2 hx hb hown (htg _ w_1044) dX3_of_23 ?_
      refine pc_S hC (c_X3_isIn l p3.toInt64 (1 : Int64) (31 : Int64)) (gS w_1040 w_1041 w_27 w_1042) kk_X3_isIn ⟨Nat.le_of_ble_eq_true rfl, Nat.le_of_ble_eq_true rfl⟩ ⟨Nat.le_of_ble_eq_true rfl, Nat.le_of_ble_eq_true rfl⟩ hl.1 rfl rfl (Nat.le_of_ble_eq_true rfl) dX3_of_26 ?_
      refine lv_if_ne (tgt := 36) hx hb dX3_of_29 (by decide) (fun h_5 => ?_) (fun h_5 => ?_)
      · have hm := (if_neg h_5).symm.trans hm
        refine lv_iconst (v := 0) hx hb dX3_of_36 (by decide) ?_
        refine lv_istore (lv' := [(5, .int (0 : Int32)), (0, .ref b.1), (1, .int p0), (2, .int p1), (3, .int p2), (4, .int p3)]) hx hb dX3_of_37 hl (by decide) rfl (fun ls hl => ?_)
        refine lv_aload_n hx hb dX3_of_39 rfl (lv_at hl 1 rfl) ?_
        refine lv_iload_n hx hb dX3_of_40 rfl (lv_at hl 2 rfl) ?_
        refine pc_S hC (c_X3_isNo l p0) (gS w_1045 w_1046 w_27 w_1047) kk_X3_isNo ⟨Nat.le_of_ble_eq_true rfl, Nat.le_of_ble_eq_true rfl⟩ ⟨Nat.le_of_ble_eq_true rfl, Nat.le_of_ble_eq_true rfl⟩ hl.1 rfl rfl (Nat.le_of_ble_eq_true rfl) dX3_of_41 ?_
        refine lv_iload hx hb dX3_of_44 (lv_at hl 0 rfl) ?_
        refine lv_iload hx hb dX3_of_46 (lv_at hl 0 rfl) ?_
        refine lv_if_ne (tgt := 65) hx hb dX3_of_48 (by decide) (fun h => absurd h (by decide)) (fun _ => ?_)
        refine lv_iload hx hb dX3_of_51 (lv_at hl 5 rfl) ?_
        refine lv_iload_n hx hb dX3_of_53 rfl (lv_at hl 3 rfl) ?_
        refine lv_iload_n hx hb dX3_of_54 rfl (lv_at hl 4 rfl) ?_
        obtain ⟨x_7, hx_7, hm⟩ := Option.bind_eq_some_iff.mp hm
        have hs_7 := hS.1.1
        have hLn_7 := m_hLn hLb hS
        have hL9 := hS.2
        refine qc_S hC hGx (k_X3_lengthOf_ l k p1 p2  hx_7) (gS w_1049 w_1050 w_27 w_1051) kk_X3_lengthOf_ (List.forall_mem_nil _) ⟨Nat.le_of_ble_eq_true rfl, Nat.le_of_ble_eq_true rfl⟩ ⟨Nat.le_of_ble_eq_true rfl, Nat.le_of_ble_eq_true rfl⟩ hS.1 hA hAB hl.1 rfl rfl (Nat.le_of_ble_eq_true rfl) dX3_of_55 (fun v_7 H hv hz hq hS => ?_)
        have hS : mS b s.heap H _ := ⟨hS, hL9⟩
        have hV := hV.up hq
        have hv : v_7 = some (.int x_7) := hv
        subst hv
        refine lv_icmp_le (tgt := 65) hx hb dX3_of_58 (by decide) (fun h_6 => ?_) (fun h_6 => ?_)
        · have hm := (if_pos h_6).symm.trans hm
          refine lv_iconst (v := 0) hx hb dX3_of_65 (by decide) ?_
          obtain ⟨x_8, hx_8, hm⟩ := Option.bind_eq_some_iff.mp hm
          refine mc_V hC hGx hD (k_X3_fails l k b L hD (m_X3_isNo p0) (0 : Int32) (0 : Int32)  z hx_8) (gV w_1056 w_1057 w_18 w_27 w_1058) kk_X3_fails rfl (List.forall_mem_nil _) hLb ⟨Nat.le_of_ble_eq_true rfl, Nat.le_of_ble_eq_true rfl⟩ ⟨Nat.le_of_ble_eq_true rfl, Nat.le_of_ble_eq_true rfl⟩ hV hS hl.1 rfl rfl (Nat.le_of_ble_eq_true rfl) dX3_of_66 (fun q_8 H locs hV hS hz hq => ?_)
          refine lv_if_eq (tgt := 74) hx hb dX3_of_69 (by decide) (fun h_7 => ?_) (fun h_7 => ?_)
          · have hm := (if_pos h_7).symm.trans hm
            refine lv_aload_n hx hb dX3_of_74 rfl (lv_at hl 1 rfl) ?_
            refine lv_iload_n hx hb dX3_of_75 rfl (lv_at hl 2 rfl) ?_
            have hLn_9 := m_hLn hLb hS
            have hL9 := hS.2
            have hV_9 := hV
            have hs_9 := hS.1.1
            refine m_new2 hx hb htg hown (htg _ w_991) (htg _ w_993) (htg _ w_28) hGx hS.1 ⟨Nat.le_of_ble_eq_true rfl, Nat.le_of_ble_eq_true rfl⟩ dX3_of_76 (fun a_9 H hn_9 hz_9 hN_9 hq hS => ?_)
            have hS : mS b s.heap H _ := ⟨hS, hL9⟩
            have hV := hV.up hq
            have hq_9 := hq
            refine lv_dup hx hb dX3_of_79 rfl ?_
            refine lv_iload_n hx hb dX3_of_80 rfl (lv_at hl 3 rfl) ?_
            refine lv_iload_n hx hb dX3_of_81 rfl (lv_at hl 4 rfl) ?_
            refine lv_iload hx hb dX3_of_82 (lv_at hl 5 rfl) ?_
            have hL9 := hS.2
            refine q_init (v := (p1, p2, p3)) hC hGx (gC w_996) (htg _ w_994) (htg _ w_28) (htg _ w_995) hN_9 (Nat.le_trans hs_9 hn_9) ⟨Nat.le_of_ble_eq_true rfl, Nat.le_of_ble_eq_true rfl⟩ ⟨Nat.le_of_ble_eq_true rfl, Nat.le_of_ble_eq_true rfl⟩ hS.1 hA hAB hl.1 rfl (Nat.le_of_ble_eq_true rfl) dX3_of_84 (fun H hP_9 hz9 hq9 hS => ?_)
            have hq := m_q2 hn_9 hz_9 hq_9 hq9
            have hS : mS b s.heap H _ := ⟨hS, hL9⟩
            have hV := hV_9.up hq
            have hP_9 := dF.made hLn_9 hn_9 hP_9
            have hn_9 := Nat.le_trans hs_9 hn_9
            obtain ⟨x_10, hx_10, hm⟩ := Option.bind_eq_some_iff.mp hm
            refine mc_V hC hGx hD (k_X3_gives l k b L hD p0 (p1, p2, p3) a_9 x_8.2 hx_10) (gV w_1059 w_1060 w_19 w_27 w_1061) kk_X3_gives rfl (List.forall_mem_cons.mpr ⟨hP_9, (List.forall_mem_nil _)⟩) hLb ⟨Nat.le_of_ble_eq_true rfl, Nat.le_of_ble_eq_true rfl⟩ ⟨Nat.le_of_ble_eq_true rfl, Nat.le_of_ble_eq_true rfl⟩ hV hS hl.1 rfl rfl (Nat.le_of_ble_eq_true rfl) dX3_of_87 (fun q_10 H locs hV hS hz hq => ?_)
            exact m_iret hx hb hr hlocks (Option.some.inj hm) hV hS ⟨Nat.le_of_ble_eq_true rfl, Nat.le_of_ble_eq_true rfl⟩ dX3_of_90
          · have hm := (if_neg h_7).symm.trans hm
            refine lv_iconst (v := 0) hx hb dX3_of_72 (by decide) ?_
            exact m_iret hx hb hr hlocks (Option.some.inj hm) hV hS ⟨Nat.le_of_ble_eq_true rfl, Nat.le_of_ble_eq_true rfl⟩ dX3_of_73
        · have hm := (if_neg h_6).symm.trans hm
          refine lv_iconst (v := 1) hx hb dX3_of_61 (by decide) ?_
          refine lv_goto (tgt := 66) hx hb dX3_of_62 (by decide) ?_
          obtain ⟨x_11, hx_11, hm⟩ := Option.bind_eq_some_iff.mp hm
          refine mc_V hC hGx hD (k_X3_fails l k b L hD (m_X3_isNo p0) (0 : Int32) (1 : Int32)  z hx_11) (gV w_1056 w_1057 w_18 w_27 w_1058) kk_X3_fails rfl (List.forall_mem_nil _) hLb ⟨Nat.le_of_ble_eq_true rfl, Nat.le_of_ble_eq_true rfl⟩ ⟨Nat.le_of_ble_eq_true rfl, Nat.le_of_ble_eq_true rfl⟩ hV hS hl.1 rfl rfl (Nat.le_of_ble_eq_true rfl) dX3_of_66 (fun q_11 H locs hV hS hz hq => ?_)
          refine lv_if_eq (tgt := 74) hx hb dX3_of_69 (by decide) (fun h_8 => ?_) (fun h_8 => ?_)
          · have hm := (if_pos h_8).symm.trans hm
            refine lv_aload_n hx hb dX3_of_74 rfl (lv_at hl 1 rfl) ?_
            refine lv_iload_n hx hb dX3_of_75 rfl (lv_at hl 2 rfl) ?_
            have hLn_12 := m_hLn hLb hS
            have hL9 := hS.2
            have hV_12 := hV
            have hs_12 := hS.1.1
            refine m_new2 hx hb htg hown (htg _ w_991) (htg _ w_993) (htg _ w_28) hGx hS.1 ⟨Nat.le_of_ble_eq_true rfl, Nat.le_of_ble_eq_true rfl⟩ dX3_of_76 (fun a_12 H hn_12 hz_12 hN_12 hq hS => ?_)
            have hS : mS b s.heap H _ := ⟨hS, hL9⟩
            have hV := hV.up hq
            have hq_12 := hq
            refine lv_dup hx hb dX3_of_79 rfl ?_
            refine lv_iload_n hx hb dX3_of_80 rfl (lv_at hl 3 rfl) ?_
            refine lv_iload_n hx hb dX3_of_81 rfl (lv_at hl 4 rfl) ?_
            refine lv_iload hx hb dX3_of_82 (lv_at hl 5 rfl) ?_
            have hL9 := hS.2
            refine q_init (v := (p1, p2, p3)) hC hGx (gC w_996) (htg _ w_994) (htg _ w_28) (htg _ w_995) hN_12 (Nat.le_trans hs_12 hn_12) ⟨Nat.le_of_ble_eq_true rfl, Nat.le_of_ble_eq_true rfl⟩ ⟨Nat.le_of_ble_eq_true rfl, Nat.le_of_ble_eq_true rfl⟩ hS.1 hA hAB hl.1 rfl (Nat.le_of_ble_eq_true rfl) dX3_of_84 (fun H hP_12 hz9 hq9 hS => ?_)
            have hq := m_q2 hn_12 hz_12 hq_12 hq9
            have hS : mS b s.heap H _ := ⟨hS, hL9⟩
            have hV := hV_12.up hq
            have hP_12 := dF.made hLn_12 hn_12 hP_12
            have hn_12 := Nat.le_trans hs_12 hn_12
            obtain ⟨x_13, hx_13, hm⟩ := Option.bind_eq_some_iff.mp hm
            refine mc_V hC hGx hD (k_X3_gives l k b L hD p0 (p1, p2, p3) a_12 x_11.2 hx_13) (gV w_1059 w_1060 w_19 w_27 w_1061) kk_X3_gives rfl (List.forall_mem_cons.mpr ⟨hP_12, (List.forall_mem_nil _)⟩) hLb ⟨Nat.le_of_ble_eq_true rfl, Nat.le_of_ble_eq_true rfl⟩ ⟨Nat.le_of_ble_eq_true rfl, Nat.le_of_ble_eq_true rfl⟩ hV hS hl.1 rfl rfl (Nat.le_of_ble_eq_true rfl) dX3_of_87 (fun q_13 H locs hV hS hz hq => ?_)
            exact m_iret hx hb hr hlocks (Option.some.inj hm) hV hS ⟨Nat.le_of_ble_eq_true rfl, Nat.le_of_ble_eq_true rfl⟩ dX3_of_90
          · have hm := (if_neg h_8).symm.trans hm
            refine lv_iconst (v := 0) hx hb dX3_of_72 (by decide) ?_
            exact m_iret hx hb hr hlocks (Option.some.inj hm) hV hS ⟨Nat.le_of_ble_eq_true rfl, Nat.le_of_ble_eq_true rfl⟩ dX3_of_73
      · have hm := (if_pos h_5).symm.trans hm
        refine lv_iconst (v := 1) hx hb dX3_of_32 (by decide) ?_
        refine lv_goto (tgt := 37) hx hb dX3_of_33 (by decide) ?_
        refine lv_istore (lv' := [(5, .int (1 : Int32)), (0, .ref b.1), (1, .int p0), (2, .int p1), (3, .int p2), (4, .int p3)]) hx hb dX3_of_37 hl (by decide) rfl (fun ls hl => ?_)
        refine lv_aload_n hx hb dX3_of_39 rfl (lv_at hl 1 rfl) ?_
        refine lv_iload_n hx hb dX3_of_40 rfl (lv_at hl 2 rfl) ?_
        refine pc_S hC (c_X3_isNo l p0) (gS w_1045 w_1046 w_27 w_1047) kk_X3_isNo ⟨Nat.le_of_ble_eq_true rfl, Nat.le_of_ble_eq_true rfl⟩ ⟨Nat.le_of_ble_eq_true rfl, Nat.le_of_ble_eq_true rfl⟩ hl.1 rfl rfl (Nat.le_of_ble_eq_true rfl) dX3_of_41 ?_
        refine lv_iload hx hb dX3_of_44 (lv_at hl 0 rfl) ?_
        refine lv_iload hx hb dX3_of_46 (lv_at hl 0 rfl) ?_
        refine lv_if_ne (tgt := 65) hx hb dX3_of_48 (by decide) (fun _ => ?_) (fun h => absurd h (by decide))
        refine lv_iconst (v := 0) hx hb dX3_of_65 (by decide) ?_
        obtain ⟨x_14, hx_14, hm⟩ := Option.bind_eq_some_iff.mp hm
        refine mc_V hC hGx hD (k_X3_fails l k b L hD (m_X3_isNo p0) (1 : Int32) (0 : Int32)  z hx_14) (gV w_1056 w_1057 w_18 w_27 w_1058) kk_X3_fails rfl (List.forall_mem_nil _) hLb ⟨Nat.le_of_ble_eq_true rfl, Nat.le_of_ble_eq_true rfl⟩ ⟨Nat.le_of_ble_eq_true rfl, Nat.le_of_ble_eq_true rfl⟩ hV hS hl.1 rfl rfl (Nat.le_of_ble_eq_true rfl) dX3_of_66 (fun q_14 H locs hV hS hz hq => ?_)
        refine lv_if_eq (tgt := 74) hx hb dX3_of_69 (by decide) (fun h_9 => ?_) (fun h_9 => ?_)
        · have hm := (if_pos h_9).symm.trans hm
          refine lv_aload_n hx hb dX3_of_74 rfl (lv_at hl 1 rfl) ?_
          refine lv_iload_n hx hb dX3_of_75 rfl (lv_at hl 2 rfl) ?_
          have hLn_15 := m_hLn hLb hS
          have hL9 := hS.2
          have hV_15 := hV
          have hs_15 := hS.1.1
          refine m_new2 hx hb htg hown (htg _ w_991) (htg _ w_993) (htg _ w_28) hGx hS.1 ⟨Nat.le_of_ble_eq_true rfl, Nat.le_of_ble_eq_true rfl⟩ dX3_of_76 (fun a_15 H hn_15 hz_15 hN_15 hq hS => ?_)
          have hS : mS b s.heap H _ := ⟨hS, hL9⟩
          have hV := hV.up hq
          have hq_15 := hq
          refine lv_dup hx hb dX3_of_79 rfl ?_
          refine lv_iload_n hx hb dX3_of_80 rfl (lv_at hl 3 rfl) ?_
          refine lv_iload_n hx hb dX3_of_81 rfl (lv_at hl 4 rfl) ?_
          refine lv_iload hx hb dX3_of_82 (lv_at hl 5 rfl) ?_
          have hL9 := hS.2
          refine q_init (v := (p1, p2, p3)) hC hGx (gC w_996) (htg _ w_994) (htg _ w_28) (htg _ w_995) hN_15 (Nat.le_trans hs_15 hn_15) ⟨Nat.le_of_ble_eq_true rfl, Nat.le_of_ble_eq_true rfl⟩ ⟨Nat.le_of_ble_eq_true rfl, Nat.le_of_ble_eq_true rfl⟩ hS.1 hA hAB hl.1 rfl (Nat.le_of_ble_eq_true rfl) dX3_of_84 (fun H hP_15 hz9 hq9 hS => ?_)
          have hq := m_q2 hn_15 hz_15 hq_15 hq9
          have hS : mS b s.heap H _ := ⟨hS, hL9⟩
          have hV := hV_15.up hq
          have hP_15 := dF.made hLn_15 hn_15 hP_15
          have hn_15 := Nat.le_trans hs_15 hn_15
          obtain ⟨x_16, hx_16, hm⟩ := Option.bind_eq_some_iff.mp hm
          refine mc_V hC hGx hD (k_X3_gives l k b L hD p0 (p1, p2, p3) a_15 x_14.2 hx_16) (gV w_1059 w_1060 w_19 w_27 w_1061) kk_X3_gives rfl (List.forall_mem_cons.mpr ⟨hP_15, (List.forall_mem_nil _)⟩) hLb ⟨Nat.le_of_ble_eq_true rfl, Nat.le_of_ble_eq_true rfl⟩ ⟨Nat.le_of_ble_eq_true rfl, Nat.le_of_ble_eq_true rfl⟩ hV hS hl.1 rfl rfl (Nat.le_of_ble_eq_true rfl) dX3_of_87 (fun q_16 H locs hV hS hz hq => ?_)
          exact m_iret hx hb hr hlocks (Option.some.inj hm) hV hS ⟨Nat.le_of_ble_eq_true rfl, Nat.le_of_ble_eq_true rfl⟩ dX3_of_90
        · have hm := (if_neg h_9).symm.trans hm
          refine lv_iconst (v := 0) hx hb dX3_of_72 (by decide) ?_
          exact m_iret hx hb hr hlocks (Option.some.inj hm) hV hS ⟨Nat.le_of_ble_eq_true rfl, Nat.le_of_ble_eq_true rfl⟩ dX3_of_73
def o_X3_ofDay (p0 : Int32) (p1 : Int32) (z : MS) : Option (Int32 × MS) := (if m_X3_isIn p1.toInt64 (-4371587 : Int64) (2932896 : Int64) = 0 then ((o_X3_fails (m_X3_isNo p0) (1 : Int32) (0 : Int32) z).bind fun x_4 => (if x_4.1 = 0 then ((o_X3_ofNumber p1).bind fun x_5 => ((o_X3_gives p0 x_5 x_4.2).bind fun x_6 => some (x_6.1, x_6.2))) else some ((0 : Int32), x_4.2))) else ((o_X3_fails (m_X3_isNo p0) (0 : Int32) (0 : Int32) z).bind fun x_1 => (if x_1.1 = 0 then ((o_X3_ofNumber p1).bind fun x_2 => ((o_X3_gives p0 x_2 x_1.2).bind fun x_3 => some (x_3.1, x_3.2))) else some ((0 : Int32), x_1.2))))
theorem kk_X3_ofDay : pK yX3_ofDay wsX3_ofDay cX3_ofDay 3 (some .int) 2 := ⟨⟨_, rfl⟩, by decide +kernel, by decide +kernel, by decide +kernel⟩
set_option maxRecDepth 100000 in
set_option maxHeartbeats 4000000 in
theorem k_X3_ofDay (l : Launch) (k : Kx) (b : CA) (L : List Nat) (hD : mD k b L) (p0 : Int32) (p1 : Int32) (z : MS) {r : (Int32 × MS)} (hm : o_X3_ofDay p0 p1 z = some r) : mM l k b L yX3_ofDay wsX3_ofDay 5 108 1 3 [.int p0, .int p1] [] z (some (.int r.1)) r.2 := by
  intro sz q
  refine Met.ofW (cc := cX3_ofDay) (maxL := 3) (ret := (some .int)) (by decide) rfl ?_
  intro p e s m args below meth c s₁ B hml hv
  obtain ⟨rfl, rfl, hGx, hV, hLb, hds⟩ := hv
  have hx := B.exec
  have hb := B.bytes
  have hr := B.returns
  have hts := atoms_spec (ws := wsX3_ofDay) B.pre
  have hown : s.vm.findClass RX3 = some m.cls := findClass_of_methodNamed B.named
  have hlocks := B.notSynchronized
  have htg : ∀ w ∈ GL, w.before _ s = true := fun w h => hts w (List.mem_cons_of_mem _ h)
  have hC : CallFix p m c cX3_ofDay 3 s _ wsX3_ofDay RX3 := ⟨hx, hb, hml, hown, hts⟩
  have hA : ∀ q, s.heap.size ≤ q → cA b s.heap.size q := fun q h => cA.new q h
  have hAB : ∀ q, cA b s.heap.size q → kB k ≤ q := hD.high hGx.2.1
  have hS : mS b s.heap s.heap [] := mS.rf
  have hl := lv_entry ([.ref b.1, .int p0, .int p1]) (n := 3) (Nat.le_of_ble_eq_true rfl)
  rw [lg_entry_eq]
  generalize (lg_sl ([.ref b.1, .int p0, .int p1]) ++ List.replicate (3 - (lg_sl ([.ref b.1, .int p0, .int p1])).length) Slot.unset).toArray = ls at hl ⊢
  have hl : lv_has ls 3 [(0, .ref b.1), (1, .int p0), (2, .int p1)] := hl
  refine lv_aload_n hx hb dX3_ofDay_0 rfl (lv_at hl 0 rfl) ?_
  refine lv_iload_n hx hb dX3_ofDay_1 rfl (lv_at hl 1 rfl) ?_
  refine pc_S hC (c_X3_isNo l p0) (gS w_1045 w_1046 w_27 w_1047) kk_X3_isNo ⟨Nat.le_of_ble_eq_true rfl, Nat.le_of_ble_eq_true rfl⟩ ⟨Nat.le_of_ble_eq_true rfl, Nat.le_of_ble_eq_true rfl⟩ hl.1 rfl rfl (Nat.le_of_ble_eq_true rfl) dX3_ofDay_2 ?_
  refine lv_iload_n hx hb dX3_ofDay_5 rfl (lv_at hl 2 rfl) ?_
  refine lv_i2l hx hb dX3_ofDay_6 rfl ?_
  refine lv_ldc2 hx hb hown (htg _ w_1081) dX3_ofDay_7 ?_
  refine lv_ldc2 hx hb hown (htg _ w_1082) dX3_ofDay_10 ?_
  refine pc_S hC (c_X3_isIn l p1.toInt64 (-4371587 : Int64) (2932896 : Int64)) (gS w_1040 w_1041 w_27 w_1042) kk_X3_isIn ⟨Nat.le_of_ble_eq_true rfl, Nat.le_of_ble_eq_true rfl⟩ ⟨Nat.le_of_ble_eq_true rfl, Nat.le_of_ble_eq_true rfl⟩ hl.1 rfl rfl (Nat.le_of_ble_eq_true rfl) dX3_ofDay_13 ?_
  refine lv_if_ne (tgt := 23) hx hb dX3_ofDay_16 (by decide) (fun h_1 => ?_) (fun h_1 => ?_)
  · have hm := (if_neg h_1).symm.trans hm
    refine lv_iconst (v := 0) hx hb dX3_ofDay_23 (by decide) ?_
    refine lv_iconst (v := 0) hx hb dX3_ofDay_24 (by decide) ?_
    obtain ⟨x_1, hx_1, hm⟩ := Option.bind_eq_some_iff.mp hm
    refine mc_V hC hGx hD (k_X3_fails l k b L hD (m_X3_isNo p0) (0 : Int32) (0 : Int32)  z hx_1) (gV w_1056 w_1057 w_18 w_27 w_1058) kk_X3_fails rfl (List.forall_mem_nil _) hLb ⟨Nat.le_of_ble_eq_true rfl, Nat.le_of_ble_eq_true rfl⟩ ⟨Nat.le_of_ble_eq_true rfl, Nat.le_of_ble_eq_true rfl⟩ hV hS hl.1 rfl rfl (Nat.le_of_ble_eq_true rfl) dX3_ofDay_25 (fun q_1 H locs hV hS hz hq => ?_)
    refine lv_if_eq (tgt := 35) hx hb dX3_ofDay_28 (by decide) (fun h_2 => ?_) (fun h_2 => ?_)
    · have hm := (if_pos h_2).symm.trans hm
      refine lv_aload_n hx hb dX3_ofDay_35 rfl (lv_at hl 0 rfl) ?_
      refine lv_iload_n hx hb dX3_ofDay_36 rfl (lv_at hl 1 rfl) ?_
      refine lv_iload_n hx hb dX3_ofDay_37 rfl (lv_at hl 2 rfl) ?_
      obtain ⟨x_2, hx_2, hm⟩ := Option.bind_eq_some_iff.mp hm
      have hs_2 := hS.1.1
      have hLn_2 := m_hLn hLb hS
      have hL9 := hS.2
      refine qc_S hC hGx (k_X3_ofNumber l k p1  hx_2) (gS w_1083 w_1084 w_27 w_1085) kk_X3_ofNumber (List.forall_mem_nil _) ⟨Nat.le_of_ble_eq_true rfl, Nat.le_of_ble_eq_true rfl⟩ ⟨Nat.le_of_ble_eq_true rfl, Nat.le_of_ble_eq_true rfl⟩ hS.1 hA hAB hl.1 rfl rfl (Nat.le_of_ble_eq_true rfl) dX3_ofDay_38 (fun v_2 H hv hz hq hS => ?_)
      have hS : mS b s.heap H _ := ⟨hS, hL9⟩
      have hV := hV.up hq
      obtain ⟨a_2, rfl, hn_2, hP_2⟩ := hv
      have hP_2 := dF.made hLn_2 hn_2 hP_2
      have hn_2 := Nat.le_trans hs_2 hn_2
      obtain ⟨x_3, hx_3, hm⟩ := Option.bind_eq_some_iff.mp hm
      refine mc_V hC hGx hD (k_X3_gives l k b L hD p0 x_2 a_2 x_1.2 hx_3) (gV w_1059 w_1060 w_19 w_27 w_1061) kk_X3_gives rfl (List.forall_mem_cons.mpr ⟨hP_2, (List.forall_mem_nil _)⟩) hLb ⟨Nat.le_of_ble_eq_true rfl, Nat.le_of_ble_eq_true rfl⟩ ⟨Nat.le_of_ble_eq_true rfl, Nat.le_of_ble_eq_true rfl⟩ hV hS hl.1 rfl rfl (Nat.le_of_ble_eq_true rfl) dX3_ofDay_41 (fun q_3 H locs hV hS hz hq => ?_)
      exact m_iret hx hb hr hlocks (Option.some.inj hm) hV hS ⟨Nat.le_of_ble_eq_true rfl, Nat.le_of_ble_eq_true rfl⟩ dX3_ofDay_44
    · have hm := (if_neg h_2).symm.trans hm
      refine lv_iconst (v := 0) hx hb dX3_ofDay_31 (by decide) ?_
      refine lv_goto (tgt := 44) hx hb dX3_ofDay_32 (by decide) ?_
      exact m_iret hx hb hr hlocks (Option.some.inj hm) hV hS ⟨Nat.le_of_ble_eq_true rfl, Nat.le_of_ble_eq_true rfl⟩ dX3_ofDay_44
  · have hm := (if_pos h_1).symm.trans hm
    refine lv_iconst (v := 1) hx hb dX3_ofDay_19 (by decide) ?_
    refine lv_goto (tgt := 24) hx hb dX3_ofDay_20 (by decide) ?_
    refine lv_iconst (v := 0) hx hb dX3_ofDay_24 (by decide) ?_
    obtain ⟨x_4, hx_4, hm⟩ := Option.bind_eq_some_iff.mp hm
    refine mc_V hC hGx hD (k_X3_fails l k b L hD (m_X3_isNo p0) (1 : Int32) (0 : Int32)  z hx_4) (gV w_1056 w_1057 w_18 w_27 w_1058) kk_X3_fails rfl (List.forall_mem_nil _) hLb ⟨Nat.le_of_ble_eq_true rfl, Nat.le_of_ble_eq_true rfl⟩ ⟨Nat.le_of_ble_eq_true rfl, Nat.le_of_ble_eq_true rfl⟩ hV hS hl.1 rfl rfl (Nat.le_of_ble_eq_true rfl) dX3_ofDay_25 (fun q_4 H locs hV hS hz hq => ?_)
    refine lv_if_eq (tgt := 35) hx hb dX3_ofDay_28 (by decide) (fun h_3 => ?_) (fun h_3 => ?_)
    · have hm := (if_pos h_3).symm.trans hm
      refine lv_aload_n hx hb dX3_ofDay_35 rfl (lv_at hl 0 rfl) ?_
      refine lv_iload_n hx hb dX3_ofDay_36 rfl (lv_at hl 1 rfl) ?_
      refine lv_iload_n hx hb dX3_ofDay_37 rfl (lv_at hl 2 rfl) ?_
      obtain ⟨x_5, hx_5, hm⟩ := Option.bind_eq_some_iff.mp hm
      have hs_5 := hS.1.1
      have hLn_5 := m_hLn hLb hS
      have hL9 := hS.2
      refine qc_S hC hGx (k_X3_ofNumber l k p1  hx_5) (gS w_1083 w_1084 w_27 w_1085) kk_X3_ofNumber (List.forall_mem_nil _) ⟨Nat.le_of_ble_eq_true rfl, Nat.le_of_ble_eq_true rfl⟩ ⟨Nat.le_of_ble_eq_true rfl, Nat.le_of_ble_eq_true rfl⟩ hS.1 hA hAB hl.1 rfl rfl (Nat.le_of_ble_eq_true rfl) dX3_ofDay_38 (fun v_5 H hv hz hq hS => ?_)
      have hS : mS b s.heap H _ := ⟨hS, hL9⟩
      have hV := hV.up hq
      obtain ⟨a_5, rfl, hn_5, hP_5⟩ := hv
      have hP_5 := dF.made hLn_5 hn_5 hP_5
      have hn_5 := Nat.le_trans hs_5 hn_5
      obtain ⟨x_6, hx_6, hm⟩ := Option.bind_eq_some_iff.mp hm
      refine mc_V hC hGx hD (k_X3_gives l k b L hD p0 x_5 a_5 x_4.2 hx_6) (gV w_1059 w_1060 w_19 w_27 w_1061) kk_X3_gives rfl (List.forall_mem_cons.mpr ⟨hP_5, (List.forall_mem_nil _)⟩) hLb ⟨Nat.le_of_ble_eq_true rfl, Nat.le_of_ble_eq_true rfl⟩ ⟨Nat.le_of_ble_eq_true rfl, Nat.le_of_ble_eq_true rfl⟩ hV hS hl.1 rfl rfl (Nat.le_of_ble_eq_true rfl) dX3_ofDay_41 (fun q_6 H locs hV hS hz hq => ?_)
      exact m_iret hx hb hr hlocks (Option.some.inj hm) hV hS ⟨Nat.le_of_ble_eq_true rfl, Nat.le_of_ble_eq_true rfl⟩ dX3_ofDay_44
    · have hm := (if_neg h_3).symm.trans hm
      refine lv_iconst (v := 0) hx hb dX3_ofDay_31 (by decide) ?_
      refine lv_goto (tgt := 44) hx hb dX3_ofDay_32 (by decide) ?_
      exact m_iret hx hb hr hlocks (Option.some.inj hm) hV hS ⟨Nat.le_of_ble_eq_true rfl, Nat.le_of_ble_eq_true rfl⟩ dX3_ofDay_44
def o_X3_ofYearDay (p0 : Int32) (p1 : Int32) (p2 : Int32) (z : MS) : Option (Int32 × MS) := (if m_X3_isNoYear p1 = 0 then (if m_X3_isIn p2.toInt64 (1 : Int64) (366 : Int64) = 0 then ((o_X3_fails (m_X3_isNo p0) (1 : Int32) (0 : Int32) z).bind fun x_10 => (if x_10.1 = 0 then ((o_X3_ofYearAndDay p1 p2).bind fun x_11 => ((o_X3_gives p0 x_11 x_10.2).bind fun x_12 => some (x_12.1, x_12.2))) else some ((0 : Int32), x_10.2))) else (if p2 ≤ m_X3_lengthOf p1 then ((o_X3_fails (m_X3_isNo p0) (0 : Int32) (0 : Int32) z).bind fun x_4 => (if x_4.1 = 0 then ((o_X3_ofYearAndDay p1 p2).bind fun x_5 => ((o_X3_gives p0 x_5 x_4.2).bind fun x_6 => some (x_6.1, x_6.2))) else some ((0 : Int32), x_4.2))) else ((o_X3_fails (m_X3_isNo p0) (0 : Int32) (1 : Int32) z).bind fun x_7 => (if x_7.1 = 0 then ((o_X3_ofYearAndDay p1 p2).bind fun x_8 => ((o_X3_gives p0 x_8 x_7.2).bind fun x_9 => some (x_9.1, x_9.2))) else some ((0 : Int32), x_7.2))))) else ((o_X3_fails (m_X3_isNo p0) (1 : Int32) (0 : Int32) z).bind fun x_1 => (if x_1.1 = 0 then ((o_X3_ofYearAndDay p1 p2).bind fun x_2 => ((o_X3_gives p0 x_2 x_1.2).bind fun x_3 => some (x_3.1, x_3.2))) else some ((0 : Int32), x_1.2))))
theorem kk_X3_ofYearDay : pK yX3_ofYearDay wsX3_ofYearDay cX3_ofYearDay 5 (some .int) 3 := ⟨⟨_, rfl⟩, by decide +kernel, by decide +kernel, by decide +kernel⟩
set_option maxRecDepth 100000 in
set_option maxHeartbeats 4000000 in
theorem k_X3_ofYearDay (l : Launch) (k : Kx) (b : CA) (L : List Nat) (hD : mD k b L) (p0 : Int32) (p1 : Int32) (p2 : Int32) (z : MS) {r : (Int32 × MS)} (hm : o_X3_ofYearDay p0 p1 p2 z = some r) : mM l k b L yX3_ofYearDay wsX3_ofYearDay 5 108 1 3 [.int p0, .int p1, .int p2] [] z (some (.int r.1)) r.2 := by
  intro sz q
  refine Met.ofW (cc := cX3_ofYearDay) (maxL := 5) (ret := (some .int)) (by decide) rfl ?_
  intro p e s m args below meth c s₁ B hml hv
  obtain ⟨rfl, rfl, hGx, hV, hLb, hds⟩ := hv
  have hx := B.exec
  have hb := B.bytes
  have hr := B.returns
  have hts := atoms_spec (ws := wsX3_ofYearDay) B.pre
  have hown : s.vm.findClass RX3 = some m.cls := findClass_of_methodNamed B.named
  have hlocks := B.notSynchronized
  have htg : ∀ w ∈ GL, w.before _ s = true := fun w h => hts w (List.mem_cons_of_mem _ h)
  have hC : CallFix p m c cX3_ofYearDay 5 s _ wsX3_ofYearDay RX3 := ⟨hx, hb, hml, hown, hts⟩
  have hA : ∀ q, s.heap.size ≤ q → cA b s.heap.size q := fun q h => cA.new q h
  have hAB : ∀ q, cA b s.heap.size q → kB k ≤ q := hD.high hGx.2.1
  have hS : mS b s.heap s.heap [] := mS.rf
  have hl := lv_entry ([.ref b.1, .int p0, .int p1, .int p2]) (n := 5) (Nat.le_of_ble_eq_true rfl)
  rw [lg_entry_eq]
  generalize (lg_sl ([.ref b.1, .int p0, .int p1, .int p2]) ++ List.replicate (5 - (lg_sl ([.ref b.1, .int p0, .int p1, .int p2])).length) Slot.unset).toArray = ls at hl ⊢
  have hl : lv_has ls 5 [(0, .ref b.1), (1, .int p0), (2, .int p1), (3, .int p2)] := hl
  refine lv_iload_n hx hb dX3_ofYearDay_0 rfl (lv_at hl 2 rfl) ?_
  refine pc_S hC (c_X3_isNoYear l p1) (gS w_1035 w_1036 w_27 w_1037) kk_X3_isNoYear ⟨Nat.le_of_ble_eq_true rfl, Nat.le_of_ble_eq_true rfl⟩ ⟨Nat.le_of_ble_eq_true rfl, Nat.le_of_ble_eq_true rfl⟩ hl.1 rfl rfl (Nat.le_of_ble_eq_true rfl) dX3_ofYearDay_1 ?_
  refine lv_if_ne (tgt := 19) hx hb dX3_ofYearDay_4 (by decide) (fun h_1 => ?_) (fun h_1 => ?_)
  · have hm := (if_neg h_1).symm.trans hm
    refine lv_iconst (v := 1) hx hb dX3_ofYearDay_19 (by decide) ?_
    refine lv_goto (tgt := 24) hx hb dX3_ofYearDay_20 (by decide) ?_
    refine lv_istore (lv' := [(4, .int (1 : Int32)), (0, .ref b.1), (1, .int p0), (2, .int p1), (3, .int p2)]) hx hb dX3_ofYearDay_24 hl (by decide) rfl (fun ls hl => ?_)
    refine lv_aload_n hx hb dX3_ofYearDay_26 rfl (lv_at hl 1 rfl) ?_
    refine lv_iload_n hx hb dX3_ofYearDay_27 rfl (lv_at hl 2 rfl) ?_
    refine pc_S hC (c_X3_isNo l p0) (gS w_1045 w_1046 w_27 w_1047) kk_X3_isNo ⟨Nat.le_of_ble_eq_true rfl, Nat.le_of_ble_eq_true rfl⟩ ⟨Nat.le_of_ble_eq_true rfl, Nat.le_of_ble_eq_true rfl⟩ hl.1 rfl rfl (Nat.le_of_ble_eq_true rfl) dX3_ofYearDay_28 ?_
    refine lv_iload hx hb dX3_ofYearDay_31 (lv_at hl 0 rfl) ?_
    refine lv_iload hx hb dX3_ofYearDay_33 (lv_at hl 0 rfl) ?_
    refine lv_if_ne (tgt := 50) hx hb dX3_ofYearDay_35 (by decide) (fun _ => ?_) (fun h => absurd h (by decide))
    refine lv_iconst (v := 0) hx hb dX3_ofYearDay_50 (by decide) ?_
    obtain ⟨x_1, hx_1, hm⟩ := Option.bind_eq_some_iff.mp hm
    refine mc_V hC hGx hD (k_X3_fails l k b L hD (m_X3_isNo p0) (1 : Int32) (0 : Int32)  z hx_1) (gV w_1056 w_1057 w_18 w_27 w_1058) kk_X3_fails rfl (List.forall_mem_nil _) hLb ⟨Nat.le_of_ble_eq_true rfl, Nat.le_of_ble_eq_true rfl⟩ ⟨Nat.le_of_ble_eq_true rfl, Nat.le_of_ble_eq_true rfl⟩ hV hS hl.1 rfl rfl (Nat.le_of_ble_eq_true rfl) dX3_ofYearDay_51 (fun q_1 H locs hV hS hz hq => ?_)
    refine lv_if_eq (tgt := 61) hx hb dX3_ofYearDay_54 (by decide) (fun h_2 => ?_) (fun h_2 => ?_)
    · have hm := (if_pos h_2).symm.trans hm
      refine lv_aload_n hx hb dX3_ofYearDay_61 rfl (lv_at hl 1 rfl) ?_
      refine lv_iload_n hx hb dX3_ofYearDay_62 rfl (lv_at hl 2 rfl) ?_
      refine lv_iload_n hx hb dX3_ofYearDay_63 rfl (lv_at hl 3 rfl) ?_
      refine lv_iload_n hx hb dX3_ofYearDay_64 rfl (lv_at hl 4 rfl) ?_
      obtain ⟨x_2, hx_2, hm⟩ := Option.bind_eq_some_iff.mp hm
      have hs_2 := hS.1.1
      have hLn_2 := m_hLn hLb hS
      have hL9 := hS.2
      refine qc_S hC hGx (k_X3_ofYearAndDay l k p1 p2  hx_2) (gS w_1092 w_1093 w_27 w_1094) kk_X3_ofYearAndDay (List.forall_mem_nil _) ⟨Nat.le_of_ble_eq_true rfl, Nat.le_of_ble_eq_true rfl⟩ ⟨Nat.le_of_ble_eq_true rfl, Nat.le_of_ble_eq_true rfl⟩ hS.1 hA hAB hl.1 rfl rfl (Nat.le_of_ble_eq_true rfl) dX3_ofYearDay_65 (fun v_2 H hv hz hq hS => ?_)
      have hS : mS b s.heap H _ := ⟨hS, hL9⟩
      have hV := hV.up hq
      obtain ⟨a_2, rfl, hn_2, hP_2⟩ := hv
      have hP_2 := dF.made hLn_2 hn_2 hP_2
      have hn_2 := Nat.le_trans hs_2 hn_2
      obtain ⟨x_3, hx_3, hm⟩ := Option.bind_eq_some_iff.mp hm
      refine mc_V hC hGx hD (k_X3_gives l k b L hD p0 x_2 a_2 x_1.2 hx_3) (gV w_1059 w_1060 w_19 w_27 w_1061) kk_X3_gives rfl (List.forall_mem_cons.mpr ⟨hP_2, (List.forall_mem_nil _)⟩) hLb ⟨Nat.le_of_ble_eq_true rfl, Nat.le_of_ble_eq_true rfl⟩ ⟨Nat.le_of_ble_eq_true rfl, Nat.le_of_ble_eq_true rfl⟩ hV hS hl.1 rfl rfl (Nat.le_of_ble_eq_true rfl) dX3_ofYearDay_68 (fun q_3 H locs hV hS hz hq => ?_)
      exact m_iret hx hb hr hlocks (Option.some.inj hm) hV hS ⟨Nat.le_of_ble_eq_true rfl, Nat.le_of_ble_eq_true rfl⟩ dX3_ofYearDay_71
    · have hm := (if_neg h_2).symm.trans hm
      refine lv_iconst (v := 0) hx hb dX3_ofYearDay_57 (by decide) ?_
      refine lv_goto (tgt := 71) hx hb dX3_ofYearDay_58 (by decide) ?_
      exact m_iret hx hb hr hlocks (Option.some.inj hm) hV hS ⟨Nat.le_of_ble_eq_true rfl, Nat.le_of_ble_eq_true rfl⟩ dX3_ofYearDay_71
  · have hm := (if_pos h_1).symm.trans hm
    refine lv_iload_n hx hb dX3_ofYearDay_7 rfl (lv_at hl 3 rfl) ?_
    refine lv_i2l hx hb dX3_ofYearDay_8 rfl ?_
    refine lv_lconst (v := 1) hx hb dX3_ofYearDay_9 (by decide) ?_
    refine lv_ldc2 hx hb hown (htg _ w_1100) dX3_ofYearDay_10 ?_
    refine pc_S hC (c_X3_isIn l p2.toInt64 (1 : Int64) (366 : Int64)) (gS w_1040 w_1041 w_27 w_1042) kk_X3_isIn ⟨Nat.le_of_ble_eq_true rfl, Nat.le_of_ble_eq_true rfl⟩ ⟨Nat.le_of_ble_eq_true rfl, Nat.le_of_ble_eq_true rfl⟩ hl.1 rfl rfl (Nat.le_of_ble_eq_true rfl) dX3_ofYearDay_13 ?_
    refine lv_if_ne (tgt := 23) hx hb dX3_ofYearDay_16 (by decide) (fun h_3 => ?_) (fun h_3 => ?_)
    · have hm := (if_neg h_3).symm.trans hm
      refine lv_iconst (v := 0) hx hb dX3_ofYearDay_23 (by decide) ?_
      refine lv_istore (lv' := [(4, .int (0 : Int32)), (0, .ref b.1), (1, .int p0), (2, .int p1), (3, .int p2)]) hx hb dX3_ofYearDay_24 hl (by decide) rfl (fun ls hl => ?_)
      refine lv_aload_n hx hb dX3_ofYearDay_26 rfl (lv_at hl 1 rfl) ?_
      refine lv_iload_n hx hb dX3_ofYearDay_27 rfl (lv_at hl 2 rfl) ?_
      refine pc_S hC (c_X3_isNo l p0) (gS w_1045 w_1046 w_27 w_1047) kk_X3_isNo ⟨Nat.le_of_ble_eq_true rfl, Nat.le_of_ble_eq_true rfl⟩ ⟨Nat.le_of_ble_eq_true rfl, Nat.le_of_ble_eq_true rfl⟩ hl.1 rfl rfl (Nat.le_of_ble_eq_true rfl) dX3_ofYearDay_28 ?_
      refine lv_iload hx hb dX3_ofYearDay_31 (lv_at hl 0 rfl) ?_
      refine lv_iload hx hb dX3_ofYearDay_33 (lv_at hl 0 rfl) ?_
      refine lv_if_ne (tgt := 50) hx hb dX3_ofYearDay_35 (by decide) (fun h => absurd h (by decide)) (fun _ => ?_)
      refine lv_iload_n hx hb dX3_ofYearDay_38 rfl (lv_at hl 4 rfl) ?_
      refine lv_iload_n hx hb dX3_ofYearDay_39 rfl (lv_at hl 3 rfl) ?_
      refine pc_S hC (c_X3_lengthOf l p1) (gS w_1095 w_1071 w_27 w_1072) kk_X3_lengthOf ⟨Nat.le_of_ble_eq_true rfl, Nat.le_of_ble_eq_true rfl⟩ ⟨Nat.le_of_ble_eq_true rfl, Nat.le_of_ble_eq_true rfl⟩ hl.1 rfl rfl (Nat.le_of_ble_eq_true rfl) dX3_ofYearDay_40 ?_
      refine lv_icmp_le (tgt := 50) hx hb dX3_ofYearDay_43 (by decide) (fun h_4 => ?_) (fun h_4 => ?_)
      · have hm := (if_pos h_4).symm.trans hm
        refine lv_iconst (v := 0) hx hb dX3_ofYearDay_50 (by decide) ?_
        obtain ⟨x_4, hx_4, hm⟩ := Option.bind_eq_some_iff.mp hm
        refine mc_V hC hGx hD (k_X3_fails l k b L hD (m_X3_isNo p0) (0 : Int32) (0 : Int32)  z hx_4) (gV w_1056 w_1057 w_18 w_27 w_1058) kk_X3_fails rfl (List.forall_mem_nil _) hLb ⟨Nat.le_of_ble_eq_true rfl, Nat.le_of_ble_eq_true rfl⟩ ⟨Nat.le_of_ble_eq_true rfl, Nat.le_of_ble_eq_true rfl⟩ hV hS hl.1 rfl rfl (Nat.le_of_ble_eq_true rfl) dX3_ofYearDay_51 (fun q_4 H locs hV hS hz hq => ?_)
        refine lv_if_eq (tgt := 61) hx hb dX3_ofYearDay_54 (by decide) (fun h_5 => ?_) (fun h_5 => ?_)
        · have hm := (if_pos h_5).symm.trans hm
          refine lv_aload_n hx hb dX3_ofYearDay_61 rfl (lv_at hl 1 rfl) ?_
          refine lv_iload_n hx hb dX3_ofYearDay_62 rfl (lv_at hl 2 rfl) ?_
          refine lv_iload_n hx hb dX3_ofYearDay_63 rfl (lv_at hl 3 rfl) ?_
          refine lv_iload_n hx hb dX3_ofYearDay_64 rfl (lv_at hl 4 rfl) ?_
          obtain ⟨x_5, hx_5, hm⟩ := Option.bind_eq_some_iff.mp hm
          have hs_5 := hS.1.1
          have hLn_5 := m_hLn hLb hS
          have hL9 := hS.2
          refine qc_S hC hGx (k_X3_ofYearAndDay l k p1 p2  hx_5) (gS w_1092 w_1093 w_27 w_1094) kk_X3_ofYearAndDay (List.forall_mem_nil _) ⟨Nat.le_of_ble_eq_true rfl, Nat.le_of_ble_eq_true rfl⟩ ⟨Nat.le_of_ble_eq_true rfl, Nat.le_of_ble_eq_true rfl⟩ hS.1 hA hAB hl.1 rfl rfl (Nat.le_of_ble_eq_true rfl) dX3_ofYearDay_65 (fun v_5 H hv hz hq hS => ?_)
          have hS : mS b s.heap H _ := ⟨hS, hL9⟩
          have hV := hV.up hq
          obtain ⟨a_5, rfl, hn_5, hP_5⟩ := hv
          have hP_5 := dF.made hLn_5 hn_5 hP_5
          have hn_5 := Nat.le_trans hs_5 hn_5
          obtain ⟨x_6, hx_6, hm⟩ := Option.bind_eq_some_iff.mp hm
          refine mc_V hC hGx hD (k_X3_gives l k b L hD p0 x_5 a_5 x_4.2 hx_6) (gV w_1059 w_1060 w_19 w_27 w_1061) kk_X3_gives rfl (List.forall_mem_cons.mpr ⟨hP_5, (List.forall_mem_nil _)⟩) hLb ⟨Nat.le_of_ble_eq_true rfl, Nat.le_of_ble_eq_true rfl⟩ ⟨Nat.le_of_ble_eq_true rfl, Nat.le_of_ble_eq_true rfl⟩ hV hS hl.1 rfl rfl (Nat.le_of_ble_eq_true rfl) dX3_ofYearDay_68 (fun q_6 H locs hV hS hz hq => ?_)
          exact m_iret hx hb hr hlocks (Option.some.inj hm) hV hS ⟨Nat.le_of_ble_eq_true rfl, Nat.le_of_ble_eq_true rfl⟩ dX3_ofYearDay_71
        · have hm := (if_neg h_5).symm.trans hm
          refine lv_iconst (v := 0) hx hb dX3_ofYearDay_57 (by decide) ?_
          refine lv_goto (tgt := 71) hx hb dX3_ofYearDay_58 (by decide) ?_
          exact m_iret hx hb hr hlocks (Option.some.inj hm) hV hS ⟨Nat.le_of_ble_eq_true rfl, Nat.le_of_ble_eq_true rfl⟩ dX3_ofYearDay_71
      · have hm := (if_neg h_4).symm.trans hm
        refine lv_iconst (v := 1) hx hb dX3_ofYearDay_46 (by decide) ?_
        refine lv_goto (tgt := 51) hx hb dX3_ofYearDay_47 (by decide) ?_
        obtain ⟨x_7, hx_7, hm⟩ := Option.bind_eq_some_iff.mp hm
        refine mc_V hC hGx hD (k_X3_fails l k b L hD (m_X3_isNo p0) (0 : Int32) (1 : Int32)  z hx_7) (gV w_1056 w_1057 w_18 w_27 w_1058) kk_X3_fails rfl (List.forall_mem_nil _) hLb ⟨Nat.le_of_ble_eq_true rfl, Nat.le_of_ble_eq_true rfl⟩ ⟨Nat.le_of_ble_eq_true rfl, Nat.le_of_ble_eq_true rfl⟩ hV hS hl.1 rfl rfl (Nat.le_of_ble_eq_true rfl) dX3_ofYearDay_51 (fun q_7 H locs hV hS hz hq => ?_)
        refine lv_if_eq (tgt := 61) hx hb dX3_ofYearDay_54 (by decide) (fun h_6 => ?_) (fun h_6 => ?_)
        · have hm := (if_pos h_6).symm.trans hm
          refine lv_aload_n hx hb dX3_ofYearDay_61 rfl (lv_at hl 1 rfl) ?_
          refine lv_iload_n hx hb dX3_ofYearDay_62 rfl (lv_at hl 2 rfl) ?_
          refine lv_iload_n hx hb dX3_ofYearDay_63 rfl (lv_at hl 3 rfl) ?_
          refine lv_iload_n hx hb dX3_ofYearDay_64 rfl (lv_at hl 4 rfl) ?_
          obtain ⟨x_8, hx_8, hm⟩ := Option.bind_eq_some_iff.mp hm
          have hs_8 := hS.1.1
          have hLn_8 := m_hLn hLb hS
          have hL9 := hS.2
          refine qc_S hC hGx (k_X3_ofYearAndDay l k p1 p2  hx_8) (gS w_1092 w_1093 w_27 w_1094) kk_X3_ofYearAndDay (List.forall_mem_nil _) ⟨Nat.le_of_ble_eq_true rfl, Nat.le_of_ble_eq_true rfl⟩ ⟨Nat.le_of_ble_eq_true rfl, Nat.le_of_ble_eq_true rfl⟩ hS.1 hA hAB hl.1 rfl rfl (Nat.le_of_ble_eq_true rfl) dX3_ofYearDay_65 (fun v_8 H hv hz hq hS => ?_)
          have hS : mS b s.heap H _ := ⟨hS, hL9⟩
          have hV := hV.up hq
          obtain ⟨a_8, rfl, hn_8, hP_8⟩ := hv
          have hP_8 := dF.made hLn_8 hn_8 hP_8
          have hn_8 := Nat.le_trans hs_8 hn_8
          obtain ⟨x_9, hx_9, hm⟩ := Option.bind_eq_some_iff.mp hm
          refine mc_V hC hGx hD (k_X3_gives l k b L hD p0 x_8 a_8 x_7.2 hx_9) (gV w_1059 w_1060 w_19 w_27 w_1061) kk_X3_gives rfl (List.forall_mem_cons.mpr ⟨hP_8, (List.forall_mem_nil _)⟩) hLb ⟨Nat.le_of_ble_eq_true rfl, Nat.le_of_ble_eq_true rfl⟩ ⟨Nat.le_of_ble_eq_true rfl, Nat.le_of_ble_eq_true rfl⟩ hV hS hl.1 rfl rfl (Nat.le_of_ble_eq_true rfl) dX3_ofYearDay_68 (fun q_9 H locs hV hS hz hq => ?_)
          exact m_iret hx hb hr hlocks (Option.some.inj hm) hV hS ⟨Nat.le_of_ble_eq_true rfl, Nat.le_of_ble_eq_true rfl⟩ dX3_ofYearDay_71
        · have hm := (if_neg h_6).symm.trans hm
          refine lv_iconst (v := 0) hx hb dX3_ofYearDay_57 (by decide) ?_
          refine lv_goto (tgt := 71) hx hb dX3_ofYearDay_58 (by decide) ?_
          exact m_iret hx hb hr hlocks (Option.some.inj hm) hV hS ⟨Nat.le_of_ble_eq_true rfl, Nat.le_of_ble_eq_true rfl⟩ dX3_ofYearDay_71
    · have hm := (if_pos h_3).symm.trans hm
      refine lv_iconst (v := 1) hx hb dX3_ofYearDay_19 (by decide) ?_
      refine lv_goto (tgt := 24) hx hb dX3_ofYearDay_20 (by decide) ?_
      refine lv_istore (lv' := [(4, .int (1 : Int32)), (0, .ref b.1), (1, .int p0), (2, .int p1), (3, .int p2)]) hx hb dX3_ofYearDay_24 hl (by decide) rfl (fun ls hl => ?_)
      refine lv_aload_n hx hb dX3_ofYearDay_26 rfl (lv_at hl 1 rfl) ?_
      refine lv_iload_n hx hb dX3_ofYearDay_27 rfl (lv_at hl 2 rfl) ?_
      refine pc_S hC (c_X3_isNo l p0) (gS w_1045 w_1046 w_27 w_1047) kk_X3_isNo ⟨Nat.le_of_ble_eq_true rfl, Nat.le_of_ble_eq_true rfl⟩ ⟨Nat.le_of_ble_eq_true rfl, Nat.le_of_ble_eq_true rfl⟩ hl.1 rfl rfl (Nat.le_of_ble_eq_true rfl) dX3_ofYearDay_28 ?_
      refine lv_iload hx hb dX3_ofYearDay_31 (lv_at hl 0 rfl) ?_
      refine lv_iload hx hb dX3_ofYearDay_33 (lv_at hl 0 rfl) ?_
      refine lv_if_ne (tgt := 50) hx hb dX3_ofYearDay_35 (by decide) (fun _ => ?_) (fun h => absurd h (by decide))
      refine lv_iconst (v := 0) hx hb dX3_ofYearDay_50 (by decide) ?_
      obtain ⟨x_10, hx_10, hm⟩ := Option.bind_eq_some_iff.mp hm
      refine mc_V hC hGx hD (k_X3_fails l k b L hD (m_X3_isNo p0) (1 : Int32) (0 : Int32)  z hx_10) (gV w_1056 w_1057 w_18 w_27 w_1058) kk_X3_fails rfl (List.forall_mem_nil _) hLb ⟨Nat.le_of_ble_eq_true rfl, Nat.le_of_ble_eq_true rfl⟩ ⟨Nat.le_of_ble_eq_true rfl, Nat.le_of_ble_eq_true rfl⟩ hV hS hl.1 rfl rfl (Nat.le_of_ble_eq_true rfl) dX3_ofYearDay_51 (fun q_10 H locs hV hS hz hq => ?_)
      refine lv_if_eq (tgt := 61) hx hb dX3_ofYearDay_54 (by decide) (fun h_7 => ?_) (fun h_7 => ?_)
      · have hm := (if_pos h_7).symm.trans hm
        refine lv_aload_n hx hb dX3_ofYearDay_61 rfl (lv_at hl 1 rfl) ?_
        refine lv_iload_n hx hb dX3_ofYearDay_62 rfl (lv_at hl 2 rfl) ?_
        refine lv_iload_n hx hb dX3_ofYearDay_63 rfl (lv_at hl 3 rfl) ?_
        refine lv_iload_n hx hb dX3_ofYearDay_64 rfl (lv_at hl 4 rfl) ?_
        obtain ⟨x_11, hx_11, hm⟩ := Option.bind_eq_some_iff.mp hm
        have hs_11 := hS.1.1
        have hLn_11 := m_hLn hLb hS
        have hL9 := hS.2
        refine qc_S hC hGx (k_X3_ofYearAndDay l k p1 p2  hx_11) (gS w_1092 w_1093 w_27 w_1094) kk_X3_ofYearAndDay (List.forall_mem_nil _) ⟨Nat.le_of_ble_eq_true rfl, Nat.le_of_ble_eq_true rfl⟩ ⟨Nat.le_of_ble_eq_true rfl, Nat.le_of_ble_eq_true rfl⟩ hS.1 hA hAB hl.1 rfl rfl (Nat.le_of_ble_eq_true rfl) dX3_ofYearDay_65 (fun v_11 H hv hz hq hS => ?_)
        have hS : mS b s.heap H _ := ⟨hS, hL9⟩
        have hV := hV.up hq
        obtain ⟨a_11, rfl, hn_11, hP_11⟩ := hv
        have hP_11 := dF.made hLn_11 hn_11 hP_11
        have hn_11 := Nat.le_trans hs_11 hn_11
        obtain ⟨x_12, hx_12, hm⟩ := Option.bind_eq_some_iff.mp hm
        refine mc_V hC hGx hD (k_X3_gives l k b L hD p0 x_11 a_11 x_10.2 hx_12) (gV w_1059 w_1060 w_19 w_27 w_1061) kk_X3_gives rfl (List.forall_mem_cons.mpr ⟨hP_11, (List.forall_mem_nil _)⟩) hLb ⟨Nat.le_of_ble_eq_true rfl, Nat.le_of_ble_eq_true rfl⟩ ⟨Nat.le_of_ble_eq_true rfl, Nat.le_of_ble_eq_true rfl⟩ hV hS hl.1 rfl rfl (Nat.le_of_ble_eq_true rfl) dX3_ofYearDay_68 (fun q_12 H locs hV hS hz hq => ?_)
        exact m_iret hx hb hr hlocks (Option.some.inj hm) hV hS ⟨Nat.le_of_ble_eq_true rfl, Nat.le_of_ble_eq_true rfl⟩ dX3_ofYearDay_71
      · have hm := (if_neg h_7).symm.trans hm
        refine lv_iconst (v := 0) hx hb dX3_ofYearDay_57 (by decide) ?_
        refine lv_goto (tgt := 71) hx hb dX3_ofYearDay_58 (by decide) ?_
        exact m_iret hx hb hr hlocks (Option.some.inj hm) hV hS ⟨Nat.le_of_ble_eq_true rfl, Nat.le_of_ble_eq_true rfl⟩ dX3_ofYearDay_71
def o_X3_copy (p0 : Int32) (p1 : Int32) (z : MS) : Option (Int32 × MS) := (if m_X3_isNo p0 = 0 then (if m_X3_isNo p1 = 0 then ((o_X3_fails (0 : Int32) (0 : Int32) (0 : Int32) z).bind fun x_4 => (if x_4.1 = 0 then (if p1 < 0 ∨ 6 ≤ p1.toNatClampNeg then none else ((o_X3_gives p0 (x_4.2.2.1 p1.toNatClampNeg) x_4.2).bind fun x_6 => some (x_6.1, x_6.2))) else some ((0 : Int32), x_4.2))) else ((o_X3_fails (1 : Int32) (0 : Int32) (0 : Int32) z).bind fun x_7 => (if x_7.1 = 0 then (if p1 < 0 ∨ 6 ≤ p1.toNatClampNeg then none else ((o_X3_gives p0 (x_7.2.2.1 p1.toNatClampNeg) x_7.2).bind fun x_9 => some (x_9.1, x_9.2))) else some ((0 : Int32), x_7.2)))) else ((o_X3_fails (1 : Int32) (0 : Int32) (0 : Int32) z).bind fun x_1 => (if x_1.1 = 0 then (if p1 < 0 ∨ 6 ≤ p1.toNatClampNeg then none else ((o_X3_gives p0 (x_1.2.2.1 p1.toNatClampNeg) x_1.2).bind fun x_3 => some (x_3.1, x_3.2))) else some ((0 : Int32), x_1.2))))
theorem kk_X3_copy : pK yX3_copy wsX3_copy cX3_copy 3 (some .int) 2 := ⟨⟨_, rfl⟩, by decide +kernel, by decide +kernel, by decide +kernel⟩
set_option maxRecDepth 100000 in
set_option maxHeartbeats 4000000 in
theorem k_X3_copy (l : Launch) (k : Kx) (b : CA) (L : List Nat) (hD : mD k b L) (p0 : Int32) (p1 : Int32) (z : MS) {r : (Int32 × MS)} (hm : o_X3_copy p0 p1 z = some r) : mM l k b L yX3_copy wsX3_copy 5 108 0 0 [.int p0, .int p1] [] z (some (.int r.1)) r.2 := by
  intro sz q
  refine Met.ofW (cc := cX3_copy) (maxL := 3) (ret := (some .int)) (by decide) rfl ?_
  intro p e s m args below meth c s₁ B hml hv
  obtain ⟨rfl, rfl, hGx, hV, hLb, hds⟩ := hv
  have hx := B.exec
  have hb := B.bytes
  have hr := B.returns
  have hts := atoms_spec (ws := wsX3_copy) B.pre
  have hown : s.vm.findClass RX3 = some m.cls := findClass_of_methodNamed B.named
  have hlocks := B.notSynchronized
  have htg : ∀ w ∈ GL, w.before _ s = true := fun w h => hts w (List.mem_cons_of_mem _ h)
  have hC : CallFix p m c cX3_copy 3 s _ wsX3_copy RX3 := ⟨hx, hb, hml, hown, hts⟩
  have hA : ∀ q, s.heap.size ≤ q → cA b s.heap.size q := fun q h => cA.new q h
  have hAB : ∀ q, cA b s.heap.size q → kB k ≤ q := hD.high hGx.2.1
  have hS : mS b s.heap s.heap [] := mS.rf
  have hl := lv_entry ([.ref b.1, .int p0, .int p1]) (n := 3) (Nat.le_of_ble_eq_true rfl)
  rw [lg_entry_eq]
  generalize (lg_sl ([.ref b.1, .int p0, .int p1]) ++ List.replicate (3 - (lg_sl ([.ref b.1, .int p0, .int p1])).length) Slot.unset).toArray = ls at hl ⊢
  have hl : lv_has ls 3 [(0, .ref b.1), (1, .int p0), (2, .int p1)] := hl
  refine lv_aload_n hx hb dX3_copy_0 rfl (lv_at hl 0 rfl) ?_
  refine lv_iload_n hx hb dX3_copy_1 rfl (lv_at hl 1 rfl) ?_
  refine pc_S hC (c_X3_isNo l p0) (gS w_1045 w_1046 w_27 w_1047) kk_X3_isNo ⟨Nat.le_of_ble_eq_true rfl, Nat.le_of_ble_eq_true rfl⟩ ⟨Nat.le_of_ble_eq_true rfl, Nat.le_of_ble_eq_true rfl⟩ hl.1 rfl rfl (Nat.le_of_ble_eq_true rfl) dX3_copy_2 ?_
  refine lv_if_ne (tgt := 15) hx hb dX3_copy_5 (by decide) (fun h_1 => ?_) (fun h_1 => ?_)
  · have hm := (if_neg h_1).symm.trans hm
    refine lv_iconst (v := 1) hx hb dX3_copy_15 (by decide) ?_
    refine lv_goto (tgt := 20) hx hb dX3_copy_16 (by decide) ?_
    refine lv_iconst (v := 0) hx hb dX3_copy_20 (by decide) ?_
    refine lv_iconst (v := 0) hx hb dX3_copy_21 (by decide) ?_
    obtain ⟨x_1, hx_1, hm⟩ := Option.bind_eq_some_iff.mp hm
    refine mc_V hC hGx hD (k_X3_fails l k b L hD (1 : Int32) (0 : Int32) (0 : Int32)  z hx_1) (gV w_1056 w_1057 w_18 w_27 w_1058) kk_X3_fails rfl (List.forall_mem_nil _) hLb ⟨Nat.le_of_ble_eq_true rfl, Nat.le_of_ble_eq_true rfl⟩ ⟨Nat.le_of_ble_eq_true rfl, Nat.le_of_ble_eq_true rfl⟩ hV hS hl.1 rfl rfl (Nat.le_of_ble_eq_true rfl) dX3_copy_22 (fun q_1 H locs hV hS hz hq => ?_)
    refine lv_if_eq (tgt := 32) hx hb dX3_copy_25 (by decide) (fun h_2 => ?_) (fun h_2 => ?_)
    · have hm := (if_pos h_2).symm.trans hm
      refine lv_aload_n hx hb dX3_copy_32 rfl (lv_at hl 0 rfl) ?_
      refine lv_iload_n hx hb dX3_copy_33 rfl (lv_at hl 1 rfl) ?_
      refine lv_aload_n hx hb dX3_copy_34 rfl (lv_at hl 0 rfl) ?_
      refine va_get (D := kD k) (ci := 5) (v := .ref b.2.1) (C := RX3) (T := TX3) (N := 5) hx hb htg inG_X3 hown hGx.1 hV.1 0 rfl rfl 1 (by decide) (htg _ w_1012) (fun _ h9 => h9) rfl dX3_copy_35 ?_
      refine lv_iload_n hx hb dX3_copy_38 rfl (lv_at hl 2 rfl) ?_
      by_cases h_3 : p1 < 0 ∨ 6 ≤ p1.toNatClampNeg
      · have hm := (if_pos h_3).symm.trans hm
        cases hm
      have hm := (if_neg h_3).symm.trans hm
      refine m_ald hx hb hGx hV h_3 dX3_copy_39 (fun hP_2 => ?_)
      obtain ⟨x_3, hx_3, hm⟩ := Option.bind_eq_some_iff.mp hm
      refine mc_V hC hGx hD (k_X3_gives l k b L hD p0 (x_1.2.2.1 p1.toNatClampNeg) (q_1 p1.toNatClampNeg) x_1.2 hx_3) (gV w_1059 w_1060 w_19 w_27 w_1061) kk_X3_gives rfl (List.forall_mem_cons.mpr ⟨hP_2, (List.forall_mem_nil _)⟩) hLb ⟨Nat.le_of_ble_eq_true rfl, Nat.le_of_ble_eq_true rfl⟩ ⟨Nat.le_of_ble_eq_true rfl, Nat.le_of_ble_eq_true rfl⟩ hV hS hl.1 rfl rfl (Nat.le_of_ble_eq_true rfl) dX3_copy_40 (fun q_3 H locs hV hS hz hq => ?_)
      exact m_iret hx hb hr hlocks (Option.some.inj hm) hV hS ⟨Nat.le_of_ble_eq_true rfl, Nat.le_of_ble_eq_true rfl⟩ dX3_copy_43
    · have hm := (if_neg h_2).symm.trans hm
      refine lv_iconst (v := 0) hx hb dX3_copy_28 (by decide) ?_
      refine lv_goto (tgt := 43) hx hb dX3_copy_29 (by decide) ?_
      exact m_iret hx hb hr hlocks (Option.some.inj hm) hV hS ⟨Nat.le_of_ble_eq_true rfl, Nat.le_of_ble_eq_true rfl⟩ dX3_copy_43
  · have hm := (if_pos h_1).symm.trans hm
    refine lv_iload_n hx hb dX3_copy_8 rfl (lv_at hl 2 rfl) ?_
    refine pc_S hC (c_X3_isNo l p1) (gS w_1045 w_1046 w_27 w_1047) kk_X3_isNo ⟨Nat.le_of_ble_eq_true rfl, Nat.le_of_ble_eq_true rfl⟩ ⟨Nat.le_of_ble_eq_true rfl, Nat.le_of_ble_eq_true rfl⟩ hl.1 rfl rfl (Nat.le_of_ble_eq_true rfl) dX3_copy_9 ?_
    refine lv_if_eq (tgt := 19) hx hb dX3_copy_12 (by decide) (fun h_4 => ?_) (fun h_4 => ?_)
    · have hm := (if_pos h_4).symm.trans hm
      refine lv_iconst (v := 0) hx hb dX3_copy_19 (by decide) ?_
      refine lv_iconst (v := 0) hx hb dX3_copy_20 (by decide) ?_
      refine lv_iconst (v := 0) hx hb dX3_copy_21 (by decide) ?_
      obtain ⟨x_4, hx_4, hm⟩ := Option.bind_eq_some_iff.mp hm
      refine mc_V hC hGx hD (k_X3_fails l k b L hD (0 : Int32) (0 : Int32) (0 : Int32)  z hx_4) (gV w_1056 w_1057 w_18 w_27 w_1058) kk_X3_fails rfl (List.forall_mem_nil _) hLb ⟨Nat.le_of_ble_eq_true rfl, Nat.le_of_ble_eq_true rfl⟩ ⟨Nat.le_of_ble_eq_true rfl, Nat.le_of_ble_eq_true rfl⟩ hV hS hl.1 rfl rfl (Nat.le_of_ble_eq_true rfl) dX3_copy_22 (fun q_4 H locs hV hS hz hq => ?_)
      refine lv_if_eq (tgt := 32) hx hb dX3_copy_25 (by decide) (fun h_5 => ?_) (fun h_5 => ?_)
      · have hm := (if_pos h_5).symm.trans hm
        refine lv_aload_n hx hb dX3_copy_32 rfl (lv_at hl 0 rfl) ?_
        refine lv_iload_n hx hb dX3_copy_33 rfl (lv_at hl 1 rfl) ?_
        refine lv_aload_n hx hb dX3_copy_34 rfl (lv_at hl 0 rfl) ?_
        refine va_get (D := kD k) (ci := 5) (v := .ref b.2.1) (C := RX3) (T := TX3) (N := 5) hx hb htg inG_X3 hown hGx.1 hV.1 0 rfl rfl 1 (by decide) (htg _ w_1012) (fun _ h9 => h9) rfl dX3_copy_35 ?_
        refine lv_iload_n hx hb dX3_copy_38 rfl (lv_at hl 2 rfl) ?_
        by_cases h_6 : p1 < 0 ∨ 6 ≤ p1.toNatClampNeg
        · have hm := (if_pos h_6).symm.trans hm
          cases hm
        have hm := (if_neg h_6).symm.trans hm
        refine m_ald hx hb hGx hV h_6 dX3_copy_39 (fun hP_5 => ?_)
        obtain ⟨x_6, hx_6, hm⟩ := Option.bind_eq_some_iff.mp hm
        refine mc_V hC hGx hD (k_X3_gives l k b L hD p0 (x_4.2.2.1 p1.toNatClampNeg) (q_4 p1.toNatClampNeg) x_4.2 hx_6) (gV w_1059 w_1060 w_19 w_27 w_1061) kk_X3_gives rfl (List.forall_mem_cons.mpr ⟨hP_5, (List.forall_mem_nil _)⟩) hLb ⟨Nat.le_of_ble_eq_true rfl, Nat.le_of_ble_eq_true rfl⟩ ⟨Nat.le_of_ble_eq_true rfl, Nat.le_of_ble_eq_true rfl⟩ hV hS hl.1 rfl rfl (Nat.le_of_ble_eq_true rfl) dX3_copy_40 (fun q_6 H locs hV hS hz hq => ?_)
        exact m_iret hx hb hr hlocks (Option.some.inj hm) hV hS ⟨Nat.le_of_ble_eq_true rfl, Nat.le_of_ble_eq_true rfl⟩ dX3_copy_43
      · have hm := (if_neg h_5).symm.trans hm
        refine lv_iconst (v := 0) hx hb dX3_copy_28 (by decide) ?_
        refine lv_goto (tgt := 43) hx hb dX3_copy_29 (by decide) ?_
        exact m_iret hx hb hr hlocks (Option.some.inj hm) hV hS ⟨Nat.le_of_ble_eq_true rfl, Nat.le_of_ble_eq_true rfl⟩ dX3_copy_43
    · have hm := (if_neg h_4).symm.trans hm
      refine lv_iconst (v := 1) hx hb dX3_copy_15 (by decide) ?_
      refine lv_goto (tgt := 20) hx hb dX3_copy_16 (by decide) ?_
      refine lv_iconst (v := 0) hx hb dX3_copy_20 (by decide) ?_
      refine lv_iconst (v := 0) hx hb dX3_copy_21 (by decide) ?_
      obtain ⟨x_7, hx_7, hm⟩ := Option.bind_eq_some_iff.mp hm
      refine mc_V hC hGx hD (k_X3_fails l k b L hD (1 : Int32) (0 : Int32) (0 : Int32)  z hx_7) (gV w_1056 w_1057 w_18 w_27 w_1058) kk_X3_fails rfl (List.forall_mem_nil _) hLb ⟨Nat.le_of_ble_eq_true rfl, Nat.le_of_ble_eq_true rfl⟩ ⟨Nat.le_of_ble_eq_true rfl, Nat.le_of_ble_eq_true rfl⟩ hV hS hl.1 rfl rfl (Nat.le_of_ble_eq_true rfl) dX3_copy_22 (fun q_7 H locs hV hS hz hq => ?_)
      refine lv_if_eq (tgt := 32) hx hb dX3_copy_25 (by decide) (fun h_7 => ?_) (fun h_7 => ?_)
      · have hm := (if_pos h_7).symm.trans hm
        refine lv_aload_n hx hb dX3_copy_32 rfl (lv_at hl 0 rfl) ?_
        refine lv_iload_n hx hb dX3_copy_33 rfl (lv_at hl 1 rfl) ?_
        refine lv_aload_n hx hb dX3_copy_34 rfl (lv_at hl 0 rfl) ?_
        refine va_get (D := kD k) (ci := 5) (v := .ref b.2.1) (C := RX3) (T := TX3) (N := 5) hx hb htg inG_X3 hown hGx.1 hV.1 0 rfl rfl 1 (by decide) (htg _ w_1012) (fun _ h9 => h9) rfl dX3_copy_35 ?_
        refine lv_iload_n hx hb dX3_copy_38 rfl (lv_at hl 2 rfl) ?_
        by_cases h_8 : p1 < 0 ∨ 6 ≤ p1.toNatClampNeg
        · have hm := (if_pos h_8).symm.trans hm
          cases hm
        have hm := (if_neg h_8).symm.trans hm
        refine m_ald hx hb hGx hV h_8 dX3_copy_39 (fun hP_8 => ?_)
        obtain ⟨x_9, hx_9, hm⟩ := Option.bind_eq_some_iff.mp hm
        refine mc_V hC hGx hD (k_X3_gives l k b L hD p0 (x_7.2.2.1 p1.toNatClampNeg) (q_7 p1.toNatClampNeg) x_7.2 hx_9) (gV w_1059 w_1060 w_19 w_27 w_1061) kk_X3_gives rfl (List.forall_mem_cons.mpr ⟨hP_8, (List.forall_mem_nil _)⟩) hLb ⟨Nat.le_of_ble_eq_true rfl, Nat.le_of_ble_eq_true rfl⟩ ⟨Nat.le_of_ble_eq_true rfl, Nat.le_of_ble_eq_true rfl⟩ hV hS hl.1 rfl rfl (Nat.le_of_ble_eq_true rfl) dX3_copy_40 (fun q_9 H locs hV hS hz hq => ?_)
        exact m_iret hx hb hr hlocks (Option.some.inj hm) hV hS ⟨Nat.le_of_ble_eq_true rfl, Nat.le_of_ble_eq_true rfl⟩ dX3_copy_43
      · have hm := (if_neg h_7).symm.trans hm
        refine lv_iconst (v := 0) hx hb dX3_copy_28 (by decide) ?_
        refine lv_goto (tgt := 43) hx hb dX3_copy_29 (by decide) ?_
        exact m_iret hx hb hr hlocks (Option.some.inj hm) hV hS ⟨Nat.le_of_ble_eq_true rfl, Nat.le_of_ble_eq_true rfl⟩ dX3_copy_43
def o_X3_epoch (p0 : Int32) (z : MS) : Option (Int32 × MS) := ((o_X3_fails (m_X3_isNo p0) (0 : Int32) (0 : Int32) z).bind fun x_1 => (if x_1.1 = 0 then (if p0 < 0 ∨ 6 ≤ p0.toNatClampNeg then none else ((o_X2_number (x_1.2.2.1 p0.toNatClampNeg)).bind fun x_3 => ((o_X3_gives p0 ((1970 : Int32), (1 : Int32), (1 : Int32)) x_1.2).bind fun x_5 => some (x_3, x_5.2)))) else some ((0 : Int32), x_1.2)))
theorem kk_X3_epoch : pK yX3_epoch wsX3_epoch cX3_epoch 3 (some .int) 1 := ⟨⟨_, rfl⟩, by decide +kernel, by decide +kernel, by decide +kernel⟩
set_option maxRecDepth 100000 in
set_option maxHeartbeats 4000000 in
theorem k_X3_epoch (l : Launch) (k : Kx) (b : CA) (L : List Nat) (hD : mD k b L) (p0 : Int32) (z : MS) {r : (Int32 × MS)} (hm : o_X3_epoch p0 z = some r) : mM l k b L yX3_epoch wsX3_epoch 5 108 1 3 [.int p0] [] z (some (.int r.1)) r.2 := by
  intro sz q
  refine Met.ofW (cc := cX3_epoch) (maxL := 3) (ret := (some .int)) (by decide) rfl ?_
  intro p e s m args below meth c s₁ B hml hv
  obtain ⟨rfl, rfl, hGx, hV, hLb, hds⟩ := hv
  have hx := B.exec
  have hb := B.bytes
  have hr := B.returns
  have hts := atoms_spec (ws := wsX3_epoch) B.pre
  have hown : s.vm.findClass RX3 = some m.cls := findClass_of_methodNamed B.named
  have hlocks := B.notSynchronized
  have htg : ∀ w ∈ GL, w.before _ s = true := fun w h => hts w (List.mem_cons_of_mem _ h)
  have hC : CallFix p m c cX3_epoch 3 s _ wsX3_epoch RX3 := ⟨hx, hb, hml, hown, hts⟩
  have hA : ∀ q, s.heap.size ≤ q → cA b s.heap.size q := fun q h => cA.new q h
  have hAB : ∀ q, cA b s.heap.size q → kB k ≤ q := hD.high hGx.2.1
  have hS : mS b s.heap s.heap [] := mS.rf
  have hl := lv_entry ([.ref b.1, .int p0]) (n := 3) (Nat.le_of_ble_eq_true rfl)
  rw [lg_entry_eq]
  generalize (lg_sl ([.ref b.1, .int p0]) ++ List.replicate (3 - (lg_sl ([.ref b.1, .int p0])).length) Slot.unset).toArray = ls at hl ⊢
  have hl : lv_has ls 3 [(0, .ref b.1), (1, .int p0)] := hl
  refine lv_aload_n hx hb dX3_epoch_0 rfl (lv_at hl 0 rfl) ?_
  refine lv_iload_n hx hb dX3_epoch_1 rfl (lv_at hl 1 rfl) ?_
  refine pc_S hC (c_X3_isNo l p0) (gS w_1045 w_1046 w_27 w_1047) kk_X3_isNo ⟨Nat.le_of_ble_eq_true rfl, Nat.le_of_ble_eq_true rfl⟩ ⟨Nat.le_of_ble_eq_true rfl, Nat.le_of_ble_eq_true rfl⟩ hl.1 rfl rfl (Nat.le_of_ble_eq_true rfl) dX3_epoch_2 ?_
  refine lv_iconst (v := 0) hx hb dX3_epoch_5 (by decide) ?_
  refine lv_iconst (v := 0) hx hb dX3_epoch_6 (by decide) ?_
  obtain ⟨x_1, hx_1, hm⟩ := Option.bind_eq_some_iff.mp hm
  refine mc_V hC hGx hD (k_X3_fails l k b L hD (m_X3_isNo p0) (0 : Int32) (0 : Int32)  z hx_1) (gV w_1056 w_1057 w_18 w_27 w_1058) kk_X3_fails rfl (List.forall_mem_nil _) hLb ⟨Nat.le_of_ble_eq_true rfl, Nat.le_of_ble_eq_true rfl⟩ ⟨Nat.le_of_ble_eq_true rfl, Nat.le_of_ble_eq_true rfl⟩ hV hS hl.1 rfl rfl (Nat.le_of_ble_eq_true rfl) dX3_epoch_7 (fun q_1 H locs hV hS hz hq => ?_)
  refine lv_if_eq (tgt := 15) hx hb dX3_epoch_10 (by decide) (fun h_1 => ?_) (fun h_1 => ?_)
  · have hm := (if_pos h_1).symm.trans hm
    refine lv_aload_n hx hb dX3_epoch_15 rfl (lv_at hl 0 rfl) ?_
    refine va_get (D := kD k) (ci := 5) (v := .ref b.2.1) (C := RX3) (T := TX3) (N := 5) hx hb htg inG_X3 hown hGx.1 hV.1 0 rfl rfl 1 (by decide) (htg _ w_1012) (fun _ h9 => h9) rfl dX3_epoch_16 ?_
    refine lv_iload_n hx hb dX3_epoch_19 rfl (lv_at hl 1 rfl) ?_
    by_cases h_2 : p0 < 0 ∨ 6 ≤ p0.toNatClampNeg
    · have hm := (if_pos h_2).symm.trans hm
      cases hm
    have hm := (if_neg h_2).symm.trans hm
    refine m_ald hx hb hGx hV h_2 dX3_epoch_20 (fun hP_2 => ?_)
    obtain ⟨x_3, hx_3, hm⟩ := Option.bind_eq_some_iff.mp hm
    have hs_3 := hS.1.1
    have hLn_3 := m_hLn hLb hS
    have hL9 := hS.2
    refine qc_V hC hGx (k_X2_number l k (x_1.2.2.1 p0.toNatClampNeg) (q_1 p0.toNatClampNeg) hx_3) (gV w_1062 w_1063 w_1064 w_28 w_1065) kk_X2_number rfl hP_2.1 (List.forall_mem_cons.mpr ⟨hP_2.1, (List.forall_mem_nil _)⟩) ⟨Nat.le_of_ble_eq_true rfl, Nat.le_of_ble_eq_true rfl⟩ ⟨Nat.le_of_ble_eq_true rfl, Nat.le_of_ble_eq_true rfl⟩ hS.1 hA hAB hl.1 rfl rfl (Nat.le_of_ble_eq_true rfl) dX3_epoch_21 (fun v_3 H hv hz hq hS => ?_)
    have hS : mS b s.heap H _ := ⟨hS, hL9⟩
    have hV := hV.up hq
    have hv : v_3 = some (.int x_3) := hv
    subst hv
    refine lv_istore_n (lv' := [(2, .int x_3), (0, .ref b.1), (1, .int p0)]) hx hb dX3_epoch_24 rfl hl (by decide) rfl (fun ls hl => ?_)
    refine lv_aload_n hx hb dX3_epoch_25 rfl (lv_at hl 1 rfl) ?_
    refine lv_iload_n hx hb dX3_epoch_26 rfl (lv_at hl 2 rfl) ?_
    have hLn_4 := m_hLn hLb hS
    have hL9 := hS.2
    have hV_4 := hV
    have hs_4 := hS.1.1
    refine m_new2 hx hb htg hown (htg _ w_991) (htg _ w_993) (htg _ w_28) hGx hS.1 ⟨Nat.le_of_ble_eq_true rfl, Nat.le_of_ble_eq_true rfl⟩ dX3_epoch_27 (fun a_4 H hn_4 hz_4 hN_4 hq hS => ?_)
    have hS : mS b s.heap H _ := ⟨hS, hL9⟩
    have hV := hV.up hq
    have hq_4 := hq
    refine lv_dup hx hb dX3_epoch_30 rfl ?_
    refine lv_sipush (v := 1970) hx hb dX3_epoch_31 (by decide) ?_
    refine lv_iconst (v := 1) hx hb dX3_epoch_34 (by decide) ?_
    refine lv_iconst (v := 1) hx hb dX3_epoch_35 (by decide) ?_
    have hL9 := hS.2
    refine q_init (v := ((1970 : Int32), (1 : Int32), (1 : Int32))) hC hGx (gC w_996) (htg _ w_994) (htg _ w_28) (htg _ w_995) hN_4 (Nat.le_trans hs_4 hn_4) ⟨Nat.le_of_ble_eq_true rfl, Nat.le_of_ble_eq_true rfl⟩ ⟨Nat.le_of_ble_eq_true rfl, Nat.le_of_ble_eq_true rfl⟩ hS.1 hA hAB hl.1 rfl (Nat.le_of_ble_eq_true rfl) dX3_epoch_36 (fun H hP_4 hz9 hq9 hS => ?_)
    have hq := m_q2 hn_4 hz_4 hq_4 hq9
    have hS : mS b s.heap H _ := ⟨hS, hL9⟩
    have hV := hV_4.up hq
    have hP_4 := dF.made hLn_4 hn_4 hP_4
    have hn_4 := Nat.le_trans hs_4 hn_4
    obtain ⟨x_5, hx_5, hm⟩ := Option.bind_eq_some_iff.mp hm
    refine mc_V hC hGx hD (k_X3_gives l k b L hD p0 ((1970 : Int32), (1 : Int32), (1 : Int32)) a_4 x_1.2 hx_5) (gV w_1059 w_1060 w_19 w_27 w_1061) kk_X3_gives rfl (List.forall_mem_cons.mpr ⟨hP_4, (List.forall_mem_nil _)⟩) hLb ⟨Nat.le_of_ble_eq_true rfl, Nat.le_of_ble_eq_true rfl⟩ ⟨Nat.le_of_ble_eq_true rfl, Nat.le_of_ble_eq_true rfl⟩ hV hS hl.1 rfl rfl (Nat.le_of_ble_eq_true rfl) dX3_epoch_39 (fun q_5 H locs hV hS hz hq => ?_)
    refine lv_pop hx hb dX3_epoch_42 rfl ?_
    refine lv_iload_n hx hb dX3_epoch_43 rfl (lv_at hl 0 rfl) ?_
    exact m_iret hx hb hr hlocks (Option.some.inj hm) hV hS ⟨Nat.le_of_ble_eq_true rfl, Nat.le_of_ble_eq_true rfl⟩ dX3_epoch_44
  · have hm := (if_neg h_1).symm.trans hm
    refine lv_iconst (v := 0) hx hb dX3_epoch_13 (by decide) ?_
    exact m_iret hx hb hr hlocks (Option.some.inj hm) hV hS ⟨Nat.le_of_ble_eq_true rfl, Nat.le_of_ble_eq_true rfl⟩ dX3_epoch_14
def o_X3_swap (p0 : Int32) (p1 : Int32) (z : MS) : Option (Int32 × MS) := (if m_X3_isNo p0 = 0 then (if m_X3_isNo p1 = 0 then ((o_X3_fails (0 : Int32) (0 : Int32) (0 : Int32) z).bind fun x_8 => (if x_8.1 = 0 then (if p0 < 0 ∨ 6 ≤ p0.toNatClampNeg then none else (if p1 < 0 ∨ 6 ≤ p1.toNatClampNeg then none else (if p0 < 0 ∨ 6 ≤ p0.toNatClampNeg then none else (if p1 < 0 ∨ 6 ≤ p1.toNatClampNeg then none else (if p0 < 0 ∨ 6 ≤ p0.toNatClampNeg then none else ((o_X2_number (((dput (dput x_8.2 p0.toNatClampNeg (x_8.2.2.1 p1.toNatClampNeg)) p1.toNatClampNeg (x_8.2.2.1 p0.toNatClampNeg)).2.1) p0.toNatClampNeg)).bind fun x_14 => some (x_14, ((dput (dput x_8.2 p0.toNatClampNeg (x_8.2.2.1 p1.toNatClampNeg)) p1.toNatClampNeg (x_8.2.2.1 p0.toNatClampNeg)).1, (dput (dput x_8.2 p0.toNatClampNeg (x_8.2.2.1 p1.toNatClampNeg)) p1.toNatClampNeg (x_8.2.2.1 p0.toNatClampNeg)).2.1, (dput (dput x_8.2 p0.toNatClampNeg (x_8.2.2.1 p1.toNatClampNeg)) p1.toNatClampNeg (x_8.2.2.1 p0.toNatClampNeg)).2.2.1, (dput (dput x_8.2 p0.toNatClampNeg (x_8.2.2.1 p1.toNatClampNeg)) p1.toNatClampNeg (x_8.2.2.1 p0.toNatClampNeg)).2.2.2.1, ((dput (dput x_8.2 p0.toNatClampNeg (x_8.2.2.1 p1.toNatClampNeg)) p1.toNatClampNeg (x_8.2.2.1 p0.toNatClampNeg)).2.2.2.2.1) + (1 : Int32), (dput (dput x_8.2 p0.toNatClampNeg (x_8.2.2.1 p1.toNatClampNeg)) p1.toNatClampNeg (x_8.2.2.1 p0.toNatClampNeg)).2.2.2.2.2)))))))) else some ((0 : Int32), x_8.2))) else ((o_X3_fails (1 : Int32) (0 : Int32) (0 : Int32) z).bind fun x_15 => (if x_15.1 = 0 then (if p0 < 0 ∨ 6 ≤ p0.toNatClampNeg then none else (if p1 < 0 ∨ 6 ≤ p1.toNatClampNeg then none else (if p0 < 0 ∨ 6 ≤ p0.toNatClampNeg then none else (if p1 < 0 ∨ 6 ≤ p1.toNatClampNeg then none else (if p0 < 0 ∨ 6 ≤ p0.toNatClampNeg then none else ((o_X2_number (((dput (dput x_15.2 p0.toNatClampNeg (x_15.2.2.1 p1.toNatClampNeg)) p1.toNatClampNeg (x_15.2.2.1 p0.toNatClampNeg)).2.1) p0.toNatClampNeg)).bind fun x_21 => some (x_21, ((dput (dput x_15.2 p0.toNatClampNeg (x_15.2.2.1 p1.toNatClampNeg)) p1.toNatClampNeg (x_15.2.2.1 p0.toNatClampNeg)).1, (dput (dput x_15.2 p0.toNatClampNeg (x_15.2.2.1 p1.toNatClampNeg)) p1.toNatClampNeg (x_15.2.2.1 p0.toNatClampNeg)).2.1, (dput (dput x_15.2 p0.toNatClampNeg (x_15.2.2.1 p1.toNatClampNeg)) p1.toNatClampNeg (x_15.2.2.1 p0.toNatClampNeg)).2.2.1, (dput (dput x_15.2 p0.toNatClampNeg (x_15.2.2.1 p1.toNatClampNeg)) p1.toNatClampNeg (x_15.2.2.1 p0.toNatClampNeg)).2.2.2.1, ((dput (dput x_15.2 p0.toNatClampNeg (x_15.2.2.1 p1.toNatClampNeg)) p1.toNatClampNeg (x_15.2.2.1 p0.toNatClampNeg)).2.2.2.2.1) + (1 : Int32), (dput (dput x_15.2 p0.toNatClampNeg (x_15.2.2.1 p1.toNatClampNeg)) p1.toNatClampNeg (x_15.2.2.1 p0.toNatClampNeg)).2.2.2.2.2)))))))) else some ((0 : Int32), x_15.2)))) else ((o_X3_fails (1 : Int32) (0 : Int32) (0 : Int32) z).bind fun x_1 => (if x_1.1 = 0 then (if p0 < 0 ∨ 6 ≤ p0.toNatClampNeg then none else (if p1 < 0 ∨ 6 ≤ p1.toNatClampNeg then none else (if p0 < 0 ∨ 6 ≤ p0.toNatClampNeg then none else (if p1 < 0 ∨ 6 ≤ p1.toNatClampNeg then none else (if p0 < 0 ∨ 6 ≤ p0.toNatClampNeg then none else ((o_X2_number (((dput (dput x_1.2 p0.toNatClampNeg (x_1.2.2.1 p1.toNatClampNeg)) p1.toNatClampNeg (x_1.2.2.1 p0.toNatClampNeg)).2.1) p0.toNatClampNeg)).bind fun x_7 => some (x_7, ((dput (dput x_1.2 p0.toNatClampNeg (x_1.2.2.1 p1.toNatClampNeg)) p1.toNatClampNeg (x_1.2.2.1 p0.toNatClampNeg)).1, (dput (dput x_1.2 p0.toNatClampNeg (x_1.2.2.1 p1.toNatClampNeg)) p1.toNatClampNeg (x_1.2.2.1 p0.toNatClampNeg)).2.1, (dput (dput x_1.2 p0.toNatClampNeg (x_1.2.2.1 p1.toNatClampNeg)) p1.toNatClampNeg (x_1.2.2.1 p0.toNatClampNeg)).2.2.1, (dput (dput x_1.2 p0.toNatClampNeg (x_1.2.2.1 p1.toNatClampNeg)) p1.toNatClampNeg (x_1.2.2.1 p0.toNatClampNeg)).2.2.2.1, ((dput (dput x_1.2 p0.toNatClampNeg (x_1.2.2.1 p1.toNatClampNeg)) p1.toNatClampNeg (x_1.2.2.1 p0.toNatClampNeg)).2.2.2.2.1) + (1 : Int32), (dput (dput x_1.2 p0.toNatClampNeg (x_1.2.2.1 p1.toNatClampNeg)) p1.toNatClampNeg (x_1.2.2.1 p0.toNatClampNeg)).2.2.2.2.2)))))))) else some ((0 : Int32), x_1.2))))
theorem kk_X3_swap : pK yX3_swap wsX3_swap cX3_swap 4 (some .int) 2 := ⟨⟨_, rfl⟩, by decide +kernel, by decide +kernel, by decide +kernel⟩
set_option maxRecDepth 100000 in
set_option maxHeartbeats 4000000 in
theorem k_X3_swap (l : Launch) (k : Kx) (b : CA) (L : List Nat) (hD : mD k b L) (p0 : Int32) (p1 : Int32) (z : MS) {r : (Int32 × MS)} (hm : o_X3_swap p0 p1 z = some r) : mM l k b L yX3_swap wsX3_swap 4 86 0 0 [.int p0, .int p1] [] z (some (.int r.1)) r.2 := by
  intro sz q
  refine Met.ofW (cc := cX3_swap) (maxL := 4) (ret := (some .int)) (by decide) rfl ?_
  intro p e s m args below meth c s₁ B hml hv
  obtain ⟨rfl, rfl, hGx, hV, hLb, hds⟩ := hv
  have hx := B.exec
  have hb := B.bytes
  have hr := B.returns
  have hts := atoms_spec (ws := wsX3_swap) B.pre
  have hown : s.vm.findClass RX3 = some m.cls := findClass_of_methodNamed B.named
  have hlocks := B.notSynchronized
  have htg : ∀ w ∈ GL, w.before _ s = true := fun w h => hts w (List.mem_cons_of_mem _ h)
  have hC : CallFix p m c cX3_swap 4 s _ wsX3_swap RX3 := ⟨hx, hb, hml, hown, hts⟩
  have hA : ∀ q, s.heap.size ≤ q → cA b s.heap.size q := fun q h => cA.new q h
  have hAB : ∀ q, cA b s.heap.size q → kB k ≤ q := hD.high hGx.2.1
  have hS : mS b s.heap s.heap [] := mS.rf
  have hl := lv_entry ([.ref b.1, .int p0, .int p1]) (n := 4) (Nat.le_of_ble_eq_true rfl)
  rw [lg_entry_eq]
  generalize (lg_sl ([.ref b.1, .int p0, .int p1]) ++ List.replicate (4 - (lg_sl ([.ref b.1, .int p0, .int p1])).length) Slot.unset).toArray = ls at hl ⊢
  have hl : lv_has ls 4 [(0, .ref b.1), (1, .int p0), (2, .int p1)] := hl
  refine lv_aload_n hx hb dX3_swap_0 rfl (lv_at hl 0 rfl) ?_
  refine lv_iload_n hx hb dX3_swap_1 rfl (lv_at hl 1 rfl) ?_
  refine pc_S hC (c_X3_isNo l p0) (gS w_1045 w_1046 w_27 w_1047) kk_X3_isNo ⟨Nat.le_of_ble_eq_true rfl, Nat.le_of_ble_eq_true rfl⟩ ⟨Nat.le_of_ble_eq_true rfl, Nat.le_of_ble_eq_true rfl⟩ hl.1 rfl rfl (Nat.le_of_ble_eq_true rfl) dX3_swap_2 ?_
  refine lv_if_ne (tgt := 15) hx hb dX3_swap_5 (by decide) (fun h_1 => ?_) (fun h_1 => ?_)
  · have hm := (if_neg h_1).symm.trans hm
    refine lv_iconst (v := 1) hx hb dX3_swap_15 (by decide) ?_
    refine lv_goto (tgt := 20) hx hb dX3_swap_16 (by decide) ?_
    refine lv_iconst (v := 0) hx hb dX3_swap_20 (by decide) ?_
    refine lv_iconst (v := 0) hx hb dX3_swap_21 (by decide) ?_
    obtain ⟨x_1, hx_1, hm⟩ := Option.bind_eq_some_iff.mp hm
    refine mc_V hC hGx hD (k_X3_fails l k b L hD (1 : Int32) (0 : Int32) (0 : Int32)  z hx_1) (gV w_1056 w_1057 w_18 w_27 w_1058) kk_X3_fails rfl (List.forall_mem_nil _) hLb ⟨Nat.le_of_ble_eq_true rfl, Nat.le_of_ble_eq_true rfl⟩ ⟨Nat.le_of_ble_eq_true rfl, Nat.le_of_ble_eq_true rfl⟩ hV hS hl.1 rfl rfl (Nat.le_of_ble_eq_true rfl) dX3_swap_22 (fun q_1 H locs hV hS hz hq => ?_)
    refine lv_if_eq (tgt := 30) hx hb dX3_swap_25 (by decide) (fun h_2 => ?_) (fun h_2 => ?_)
    · have hm := (if_pos h_2).symm.trans hm
      refine lv_aload_n hx hb dX3_swap_30 rfl (lv_at hl 0 rfl) ?_
      refine va_get (D := kD k) (ci := 5) (v := .ref b.2.1) (C := RX3) (T := TX3) (N := 5) hx hb htg inG_X3 hown hGx.1 hV.1 0 rfl rfl 1 (by decide) (htg _ w_1012) (fun _ h9 => h9) rfl dX3_swap_31 ?_
      refine lv_iload_n hx hb dX3_swap_34 rfl (lv_at hl 1 rfl) ?_
      by_cases h_3 : p0 < 0 ∨ 6 ≤ p0.toNatClampNeg
      · have hm := (if_pos h_3).symm.trans hm
        cases hm
      have hm := (if_neg h_3).symm.trans hm
      refine m_ald hx hb hGx hV h_3 dX3_swap_35 (fun hP_2 => ?_)
      refine lv_astore_n (lv' := [(3, .ref (q_1 p0.toNatClampNeg)), (0, .ref b.1), (1, .int p0), (2, .int p1)]) hx hb dX3_swap_36 rfl hl (by decide) rfl (fun ls hl => ?_)
      refine lv_aload_n hx hb dX3_swap_37 rfl (lv_at hl 1 rfl) ?_
      refine va_get (D := kD k) (ci := 5) (v := .ref b.2.1) (C := RX3) (T := TX3) (N := 5) hx hb htg inG_X3 hown hGx.1 hV.1 0 rfl rfl 1 (by decide) (htg _ w_1012) (fun _ h9 => h9) rfl dX3_swap_38 ?_
      refine lv_iload_n hx hb dX3_swap_41 rfl (lv_at hl 2 rfl) ?_
      refine lv_aload_n hx hb dX3_swap_42 rfl (lv_at hl 1 rfl) ?_
      refine va_get (D := kD k) (ci := 5) (v := .ref b.2.1) (C := RX3) (T := TX3) (N := 5) hx hb htg inG_X3 hown hGx.1 hV.1 0 rfl rfl 1 (by decide) (htg _ w_1012) (fun _ h9 => h9) rfl dX3_swap_43 ?_
      refine lv_iload_n hx hb dX3_swap_46 rfl (lv_at hl 3 rfl) ?_
      by_cases h_4 : p1 < 0 ∨ 6 ≤ p1.toNatClampNeg
      · have hm := (if_pos h_4).symm.trans hm
        cases hm
      have hm := (if_neg h_4).symm.trans hm
      refine m_ald hx hb hGx hV h_4 dX3_swap_47 (fun hP_3 => ?_)
      have hs9 := hS.1.1
      by_cases h_5 : p0 < 0 ∨ 6 ≤ p0.toNatClampNeg
      · have hm := (if_pos h_5).symm.trans hm
        cases hm
      have hm := (if_neg h_5).symm.trans hm
      refine m_ast hx hb hGx hD hV hS hP_3 h_5 dX3_swap_48 (fun H locs hV hS hz hq => ?_)
      generalize va_up q_1 p0.toNatClampNeg (q_1 p1.toNatClampNeg) = q_4 at hV
      have hP_2 := hP_2.up hq
      refine lv_aload_n hx hb dX3_swap_49 rfl (lv_at hl 1 rfl) ?_
      refine va_get (D := kD k) (ci := 5) (v := .ref b.2.1) (C := RX3) (T := TX3) (N := 5) hx hb htg inG_X3 hown hGx.1 hV.1 0 rfl rfl 1 (by decide) (htg _ w_1012) (fun _ h9 => h9) rfl dX3_swap_50 ?_
      refine lv_iload_n hx hb dX3_swap_53 rfl (lv_at hl 3 rfl) ?_
      refine lv_aload_n hx hb dX3_swap_54 rfl (lv_at hl 0 rfl) ?_
      have hs9 := hS.1.1
      by_cases h_6 : p1 < 0 ∨ 6 ≤ p1.toNatClampNeg
      · have hm := (if_pos h_6).symm.trans hm
        cases hm
      have hm := (if_neg h_6).symm.trans hm
      refine m_ast hx hb hGx hD hV hS hP_2 h_6 dX3_swap_55 (fun H locs hV hS hz hq => ?_)
      generalize va_up q_4 p1.toNatClampNeg (q_1 p0.toNatClampNeg) = q_5 at hV
      have hP_2 := hP_2.up hq
      refine lv_aload_n hx hb dX3_swap_56 rfl (lv_at hl 1 rfl) ?_
      refine lv_dup hx hb dX3_swap_57 rfl ?_
      refine va_get (D := kD k) (ci := 5) (v := .int ((dput (dput x_1.2 p0.toNatClampNeg (x_1.2.2.1 p1.toNatClampNeg)) p1.toNatClampNeg (x_1.2.2.1 p0.toNatClampNeg)).2.2.2.2.1)) (C := RX3) (T := TX3) (N := 5) hx hb htg inG_X3 hown hGx.1 hV.1 0 rfl rfl 3 (by decide) (htg _ w_1014) (fun _ h9 => h9) rfl dX3_swap_58 ?_
      refine lv_iconst (v := 1) hx hb dX3_swap_61 (by decide) ?_
      refine lv_iadd hx hb dX3_swap_62 ?_
      have hs9 := hS.1.1
      refine m_put (z1 := ((dput (dput x_1.2 p0.toNatClampNeg (x_1.2.2.1 p1.toNatClampNeg)) p1.toNatClampNeg (x_1.2.2.1 p0.toNatClampNeg)).1, (dput (dput x_1.2 p0.toNatClampNeg (x_1.2.2.1 p1.toNatClampNeg)) p1.toNatClampNeg (x_1.2.2.1 p0.toNatClampNeg)).2.1, (dput (dput x_1.2 p0.toNatClampNeg (x_1.2.2.1 p1.toNatClampNeg)) p1.toNatClampNeg (x_1.2.2.1 p0.toNatClampNeg)).2.2.1, (dput (dput x_1.2 p0.toNatClampNeg (x_1.2.2.1 p1.toNatClampNeg)) p1.toNatClampNeg (x_1.2.2.1 p0.toNatClampNeg)).2.2.2.1, ((dput (dput x_1.2 p0.toNatClampNeg (x_1.2.2.1 p1.toNatClampNeg)) p1.toNatClampNeg (x_1.2.2.1 p0.toNatClampNeg)).2.2.2.2.1) + (1 : Int32), (dput (dput x_1.2 p0.toNatClampNeg (x_1.2.2.1 p1.toNatClampNeg)) p1.toNatClampNeg (x_1.2.2.1 p0.toNatClampNeg)).2.2.2.2.2)) 3 hx hb htg hown hGx hD hV hS (by decide) (htg _ w_1014) (by decide +kernel) rfl rfl dX3_swap_63 (fun H locs hV hS hz hq => ?_)
      have hP_2 := hP_2.up hq
      refine lv_aload_n hx hb dX3_swap_66 rfl (lv_at hl 1 rfl) ?_
      refine va_get (D := kD k) (ci := 5) (v := .ref b.2.1) (C := RX3) (T := TX3) (N := 5) hx hb htg inG_X3 hown hGx.1 hV.1 0 rfl rfl 1 (by decide) (htg _ w_1012) (fun _ h9 => h9) rfl dX3_swap_67 ?_
      refine lv_iload_n hx hb dX3_swap_70 rfl (lv_at hl 2 rfl) ?_
      by_cases h_7 : p0 < 0 ∨ 6 ≤ p0.toNatClampNeg
      · have hm := (if_pos h_7).symm.trans hm
        cases hm
      have hm := (if_neg h_7).symm.trans hm
      refine m_ald hx hb hGx hV h_7 dX3_swap_71 (fun hP_6 => ?_)
      obtain ⟨x_7, hx_7, hm⟩ := Option.bind_eq_some_iff.mp hm
      have hs_7 := hS.1.1
      have hLn_7 := m_hLn hLb hS
      have hL9 := hS.2
      refine qc_V hC hGx (k_X2_number l k (((dput (dput x_1.2 p0.toNatClampNeg (x_1.2.2.1 p1.toNatClampNeg)) p1.toNatClampNeg (x_1.2.2.1 p0.toNatClampNeg)).2.1) p0.toNatClampNeg) (q_5 p0.toNatClampNeg) hx_7) (gV w_1062 w_1063 w_1064 w_28 w_1065) kk_X2_number rfl hP_6.1 (List.forall_mem_cons.mpr ⟨hP_6.1, (List.forall_mem_nil _)⟩) ⟨Nat.le_of_ble_eq_true rfl, Nat.le_of_ble_eq_true rfl⟩ ⟨Nat.le_of_ble_eq_true rfl, Nat.le_of_ble_eq_true rfl⟩ hS.1 hA hAB hl.1 rfl rfl (Nat.le_of_ble_eq_true rfl) dX3_swap_72 (fun v_7 H hv hz hq hS => ?_)
      have hS : mS b s.heap H _ := ⟨hS, hL9⟩
      have hV := hV.up hq
      have hP_2 := hP_2.up (fun x h9 _ => hq x h9)
      have hv : v_7 = some (.int x_7) := hv
      subst hv
      exact m_iret hx hb hr hlocks (Option.some.inj hm) hV hS ⟨Nat.le_of_ble_eq_true rfl, Nat.le_of_ble_eq_true rfl⟩ dX3_swap_75
    · have hm := (if_neg h_2).symm.trans hm
      refine lv_iconst (v := 0) hx hb dX3_swap_28 (by decide) ?_
      exact m_iret hx hb hr hlocks (Option.some.inj hm) hV hS ⟨Nat.le_of_ble_eq_true rfl, Nat.le_of_ble_eq_true rfl⟩ dX3_swap_29
  · have hm := (if_pos h_1).symm.trans hm
    refine lv_iload_n hx hb dX3_swap_8 rfl (lv_at hl 2 rfl) ?_
    refine pc_S hC (c_X3_isNo l p1) (gS w_1045 w_1046 w_27 w_1047) kk_X3_isNo ⟨Nat.le_of_ble_eq_true rfl, Nat.le_of_ble_eq_true rfl⟩ ⟨Nat.le_of_ble_eq_true rfl, Nat.le_of_ble_eq_true rfl⟩ hl.1 rfl rfl (Nat.le_of_ble_eq_true rfl) dX3_swap_9 ?_
    refine lv_if_eq (tgt := 19) hx hb dX3_swap_12 (by decide) (fun h_8 => ?_) (fun h_8 => ?_)
    · have hm := (if_pos h_8).symm.trans hm
      refine lv_iconst (v := 0) hx hb dX3_swap_19 (by decide) ?_
      refine lv_iconst (v := 0) hx hb dX3_swap_20 (by decide) ?_
      refine lv_iconst (v := 0) hx hb dX3_swap_21 (by decide) ?_
      obtain ⟨x_8, hx_8, hm⟩ := Option.bind_eq_some_iff.mp hm
      refine mc_V hC hGx hD (k_X3_fails l k b L hD (0 : Int32) (0 : Int32) (0 : Int32)  z hx_8) (gV w_1056 w_1057 w_18 w_27 w_1058) kk_X3_fails rfl (List.forall_mem_nil _) hLb ⟨Nat.le_of_ble_eq_true rfl, Nat.le_of_ble_eq_true rfl⟩ ⟨Nat.le_of_ble_eq_true rfl, Nat.le_of_ble_eq_true rfl⟩ hV hS hl.1 rfl rfl (Nat.le_of_ble_eq_true rfl) dX3_swap_22 (fun q_8 H locs hV hS hz hq => ?_)
      refine lv_if_eq (tgt := 30) hx hb dX3_swap_25 (by decide) (fun h_9 => ?_) (fun h_9 => ?_)
      · have hm := (if_pos h_9).symm.trans hm
        refine lv_aload_n hx hb dX3_swap_30 rfl (lv_at hl 0 rfl) ?_
        refine va_get (D := kD k) (ci := 5) (v := .ref b.2.1) (C := RX3) (T := TX3) (N := 5) hx hb htg inG_X3 hown hGx.1 hV.1 0 rfl rfl 1 (by decide) (htg _ w_1012) (fun _ h9 => h9) rfl dX3_swap_31 ?_
        refine lv_iload_n hx hb dX3_swap_34 rfl (lv_at hl 1 rfl) ?_
        by_cases h_10 : p0 < 0 ∨ 6 ≤ p0.toNatClampNeg
        · have hm := (if_pos h_10).symm.trans hm
          cases hm
        have hm := (if_neg h_10).symm.trans hm
        refine m_ald hx hb hGx hV h_10 dX3_swap_35 (fun hP_9 => ?_)
        refine lv_astore_n (lv' := [(3, .ref (q_8 p0.toNatClampNeg)), (0, .ref b.1), (1, .int p0), (2, .int p1)]) hx hb dX3_swap_36 rfl hl (by decide) rfl (fun ls hl => ?_)
        refine lv_aload_n hx hb dX3_swap_37 rfl (lv_at hl 1 rfl) ?_
        refine va_get (D := kD k) (ci := 5) (v := .ref b.2.1) (C := RX3) (T := TX3) (N := 5) hx hb htg inG_X3 hown hGx.1 hV.1 0 rfl rfl 1 (by decide) (htg _ w_1012) (fun _ h9 => h9) rfl dX3_swap_38 ?_
        refine lv_iload_n hx hb dX3_swap_41 rfl (lv_at hl 2 rfl) ?_
        refine lv_aload_n hx hb dX3_swap_42 rfl (lv_at hl 1 rfl) ?_
        refine va_get (D := kD k) (ci := 5) (v := .ref b.2.1) (C := RX3) (T := TX3) (N := 5) hx hb htg inG_X3 hown hGx.1 hV.1 0 rfl rfl 1 (by decide) (htg _ w_1012) (fun _ h9 => h9) rfl dX3_swap_43 ?_
        refine lv_iload_n hx hb dX3_swap_46 rfl (lv_at hl 3 rfl) ?_
        by_cases h_11 : p1 < 0 ∨ 6 ≤ p1.toNatClampNeg
        · have hm := (if_pos h_11).symm.trans hm
          cases hm
        have hm := (if_neg h_11).symm.trans hm
        refine m_ald hx hb hGx hV h_11 dX3_swap_47 (fun hP_10 => ?_)
        have hs9 := hS.1.1
        by_cases h_12 : p0 < 0 ∨ 6 ≤ p0.toNatClampNeg
        · have hm := (if_pos h_12).symm.trans hm
          cases hm
        have hm := (if_neg h_12).symm.trans hm
        refine m_ast hx hb hGx hD hV hS hP_10 h_12 dX3_swap_48 (fun H locs hV hS hz hq => ?_)
        generalize va_up q_8 p0.toNatClampNeg (q_8 p1.toNatClampNeg) = q_11 at hV
        have hP_9 := hP_9.up hq
        refine lv_aload_n hx hb dX3_swap_49 rfl (lv_at hl 1 rfl) ?_
        refine va_get (D := kD k) (ci := 5) (v := .ref b.2.1) (C := RX3) (T := TX3) (N := 5) hx hb htg inG_X3 hown hGx.1 hV.1 0 rfl rfl 1 (by decide) (htg _ w_1012) (fun _ h9 => h9) rfl dX3_swap_50 ?_
        refine lv_iload_n hx hb dX3_swap_53 rfl (lv_at hl 3 rfl) ?_
        refine lv_aload_n hx hb dX3_swap_54 rfl (lv_at hl 0 rfl) ?_
        have hs9 := hS.1.1
        by_cases h_13 : p1 < 0 ∨ 6 ≤ p1.toNatClampNeg
        · have hm := (if_pos h_13).symm.trans hm
          cases hm
        have hm := (if_neg h_13).symm.trans hm
        refine m_ast hx hb hGx hD hV hS hP_9 h_13 dX3_swap_55 (fun H locs hV hS hz hq => ?_)
        generalize va_up q_11 p1.toNatClampNeg (q_8 p0.toNatClampNeg) = q_12 at hV
        have hP_9 := hP_9.up hq
        refine lv_aload_n hx hb dX3_swap_56 rfl (lv_at hl 1 rfl) ?_
        refine lv_dup hx hb dX3_swap_57 rfl ?_
        refine va_get (D := kD k) (ci := 5) (v := .int ((dput (dput x_8.2 p0.toNatClampNeg (x_8.2.2.1 p1.toNatClampNeg)) p1.toNatClampNeg (x_8.2.2.1 p0.toNatClampNeg)).2.2.2.2.1)) (C := RX3) (T := TX3) (N := 5) hx hb htg inG_X3 hown hGx.1 hV.1 0 rfl rfl 3 (by decide) (htg _ w_1014) (fun _ h9 => h9) rfl dX3_swap_58 ?_
        refine lv_iconst (v := 1) hx hb dX3_swap_61 (by decide) ?_
        refine lv_iadd hx hb dX3_swap_62 ?_
        have hs9 := hS.1.1
        refine m_put (z1 := ((dput (dput x_8.2 p0.toNatClampNeg (x_8.2.2.1 p1.toNatClampNeg)) p1.toNatClampNeg (x_8.2.2.1 p0.toNatClampNeg)).1, (dput (dput x_8.2 p0.toNatClampNeg (x_8.2.2.1 p1.toNatClampNeg)) p1.toNatClampNeg (x_8.2.2.1 p0.toNatClampNeg)).2.1, (dput (dput x_8.2 p0.toNatClampNeg (x_8.2.2.1 p1.toNatClampNeg)) p1.toNatClampNeg (x_8.2.2.1 p0.toNatClampNeg)).2.2.1, (dput (dput x_8.2 p0.toNatClampNeg (x_8.2.2.1 p1.toNatClampNeg)) p1.toNatClampNeg (x_8.2.2.1 p0.toNatClampNeg)).2.2.2.1, ((dput (dput x_8.2 p0.toNatClampNeg (x_8.2.2.1 p1.toNatClampNeg)) p1.toNatClampNeg (x_8.2.2.1 p0.toNatClampNeg)).2.2.2.2.1) + (1 : Int32), (dput (dput x_8.2 p0.toNatClampNeg (x_8.2.2.1 p1.toNatClampNeg)) p1.toNatClampNeg (x_8.2.2.1 p0.toNatClampNeg)).2.2.2.2.2)) 3 hx hb htg hown hGx hD hV hS (by decide) (htg _ w_1014) (by decide +kernel) rfl rfl dX3_swap_63 (fun H locs hV hS hz hq => ?_)
        have hP_9 := hP_9.up hq
        refine lv_aload_n hx hb dX3_swap_66 rfl (lv_at hl 1 rfl) ?_
        refine va_get (D := kD k) (ci := 5) (v := .ref b.2.1) (C := RX3) (T := TX3) (N := 5) hx hb htg inG_X3 hown hGx.1 hV.1 0 rfl rfl 1 (by decide) (htg _ w_1012) (fun _ h9 => h9) rfl dX3_swap_67 ?_
        refine lv_iload_n hx hb dX3_swap_70 rfl (lv_at hl 2 rfl) ?_
        by_cases h_14 : p0 < 0 ∨ 6 ≤ p0.toNatClampNeg
        · have hm := (if_pos h_14).symm.trans hm
          cases hm
        have hm := (if_neg h_14).symm.trans hm
        refine m_ald hx hb hGx hV h_14 dX3_swap_71 (fun hP_13 => ?_)
        obtain ⟨x_14, hx_14, hm⟩ := Option.bind_eq_some_iff.mp hm
        have hs_14 := hS.1.1
        have hLn_14 := m_hLn hLb hS
        have hL9 := hS.2
        refine qc_V hC hGx (k_X2_number l k (((dput (dput x_8.2 p0.toNatClampNeg (x_8.2.2.1 p1.toNatClampNeg)) p1.toNatClampNeg (x_8.2.2.1 p0.toNatClampNeg)).2.1) p0.toNatClampNeg) (q_12 p0.toNatClampNeg) hx_14) (gV w_1062 w_1063 w_1064 w_28 w_1065) kk_X2_number rfl hP_13.1 (List.forall_mem_cons.mpr ⟨hP_13.1, (List.forall_mem_nil _)⟩) ⟨Nat.le_of_ble_eq_true rfl, Nat.le_of_ble_eq_true rfl⟩ ⟨Nat.le_of_ble_eq_true rfl, Nat.le_of_ble_eq_true rfl⟩ hS.1 hA hAB hl.1 rfl rfl (Nat.le_of_ble_eq_true rfl) dX3_swap_72 (fun v_14 H hv hz hq hS => ?_)
        have hS : mS b s.heap H _ := ⟨hS, hL9⟩
        have hV := hV.up hq
        have hP_9 := hP_9.up (fun x h9 _ => hq x h9)
        have hv : v_14 = some (.int x_14) := hv
        subst hv
        exact m_iret hx hb hr hlocks (Option.some.inj hm) hV hS ⟨Nat.le_of_ble_eq_true rfl, Nat.le_of_ble_eq_true rfl⟩ dX3_swap_75
      · have hm := (if_neg h_9).symm.trans hm
        refine lv_iconst (v := 0) hx hb dX3_swap_28 (by decide) ?_
        exact m_iret hx hb hr hlocks (Option.some.inj hm) hV hS ⟨Nat.le_of_ble_eq_true rfl, Nat.le_of_ble_eq_true rfl⟩ dX3_swap_29
    · have hm := (if_neg h_8).symm.trans hm
      refine lv_iconst (v := 1) hx hb dX3_swap_15 (by decide) ?_
      refine lv_goto (tgt := 20) hx hb dX3_swap_16 (by decide) ?_
      refine lv_iconst (v := 0) hx hb dX3_swap_20 (by decide) ?_
      refine lv_iconst (v := 0) hx hb dX3_swap_21 (by decide) ?_
      obtain ⟨x_15, hx_15, hm⟩ := Option.bind_eq_some_iff.mp hm
      refine mc_V hC hGx hD (k_X3_fails l k b L hD (1 : Int32) (0 : Int32) (0 : Int32)  z hx_15) (gV w_1056 w_1057 w_18 w_27 w_1058) kk_X3_fails rfl (List.forall_mem_nil _) hLb ⟨Nat.le_of_ble_eq_true rfl, Nat.le_of_ble_eq_true rfl⟩ ⟨Nat.le_of_ble_eq_true rfl, Nat.le_of_ble_eq_true rfl⟩ hV hS hl.1 rfl rfl (Nat.le_of_ble_eq_true rfl) dX3_swap_22 (fun q_15 H locs hV hS hz hq => ?_)
      refine lv_if_eq (tgt := 30) hx hb dX3_swap_25 (by decide) (fun h_15 => ?_) (fun h_15 => ?_)
      · have hm := (if_pos h_15).symm.trans hm
        refine lv_aload_n hx hb dX3_swap_30 rfl (lv_at hl 0 rfl) ?_
        refine va_get (D := kD k) (ci := 5) (v := .ref b.2.1) (C := RX3) (T := TX3) (N := 5) hx hb htg inG_X3 hown hGx.1 hV.1 0 rfl rfl 1 (by decide) (htg _ w_1012) (fun _ h9 => h9) rfl dX3_swap_31 ?_
        refine lv_iload_n hx hb dX3_swap_34 rfl (lv_at hl 1 rfl) ?_
        by_cases h_16 : p0 < 0 ∨ 6 ≤ p0.toNatClampNeg
        · have hm := (if_pos h_16).symm.trans hm
          cases hm
        have hm := (if_neg h_16).symm.trans hm
        refine m_ald hx hb hGx hV h_16 dX3_swap_35 (fun hP_16 => ?_)
        refine lv_astore_n (lv' := [(3, .ref (q_15 p0.toNatClampNeg)), (0, .ref b.1), (1, .int p0), (2, .int p1)]) hx hb dX3_swap_36 rfl hl (by decide) rfl (fun ls hl => ?_)
        refine lv_aload_n hx hb dX3_swap_37 rfl (lv_at hl 1 rfl) ?_
        refine va_get (D := kD k) (ci := 5) (v := .ref b.2.1) (C := RX3) (T := TX3) (N := 5) hx hb htg inG_X3 hown hGx.1 hV.1 0 rfl rfl 1 (by decide) (htg _ w_1012) (fun _ h9 => h9) rfl dX3_swap_38 ?_
        refine lv_iload_n hx hb dX3_swap_41 rfl (lv_at hl 2 rfl) ?_
        refine lv_aload_n hx hb dX3_swap_42 rfl (lv_at hl 1 rfl) ?_
        refine va_get (D := kD k) (ci := 5) (v := .ref b.2.1) (C := RX3) (T := TX3) (N := 5) hx hb htg inG_X3 hown hGx.1 hV.1 0 rfl rfl 1 (by decide) (htg _ w_1012) (fun _ h9 => h9) rfl dX3_swap_43 ?_
        refine lv_iload_n hx hb dX3_swap_46 rfl (lv_at hl 3 rfl) ?_
        by_cases h_17 : p1 < 0 ∨ 6 ≤ p1.toNatClampNeg
        · have hm := (if_pos h_17).symm.trans hm
          cases hm
        have hm := (if_neg h_17).symm.trans hm
        refine m_ald hx hb hGx hV h_17 dX3_swap_47 (fun hP_17 => ?_)
        have hs9 := hS.1.1
        by_cases h_18 : p0 < 0 ∨ 6 ≤ p0.toNatClampNeg
        · have hm := (if_pos h_18).symm.trans hm
          cases hm
        have hm := (if_neg h_18).symm.trans hm
        refine m_ast hx hb hGx hD hV hS hP_17 h_18 dX3_swap_48 (fun H locs hV hS hz hq => ?_)
        generalize va_up q_15 p0.toNatClampNeg (q_15 p1.toNatClampNeg) = q_18 at hV
        have hP_16 := hP_16.up hq
        refine lv_aload_n hx hb dX3_swap_49 rfl (lv_at hl 1 rfl) ?_
        refine va_get (D := kD k) (ci := 5) (v := .ref b.2.1) (C := RX3) (T := TX3) (N := 5) hx hb htg inG_X3 hown hGx.1 hV.1 0 rfl rfl 1 (by decide) (htg _ w_1012) (fun _ h9 => h9) rfl dX3_swap_50 ?_
        refine lv_iload_n hx hb dX3_swap_53 rfl (lv_at hl 3 rfl) ?_
        refine lv_aload_n hx hb dX3_swap_54 rfl (lv_at hl 0 rfl) ?_
        have hs9 := hS.1.1
        by_cases h_19 : p1 < 0 ∨ 6 ≤ p1.toNatClampNeg
        · have hm := (if_pos h_19).symm.trans hm
          cases hm
        have hm := (if_neg h_19).symm.trans hm
        refine m_ast hx hb hGx hD hV hS hP_16 h_19 dX3_swap_55 (fun H locs hV hS hz hq => ?_)
        generalize va_up q_18 p1.toNatClampNeg (q_15 p0.toNatClampNeg) = q_19 at hV
        have hP_16 := hP_16.up hq
        refine lv_aload_n hx hb dX3_swap_56 rfl (lv_at hl 1 rfl) ?_
        refine lv_dup hx hb dX3_swap_57 rfl ?_
        refine va_get (D := kD k) (ci := 5) (v := .int ((dput (dput x_15.2 p0.toNatClampNeg (x_15.2.2.1 p1.toNatClampNeg)) p1.toNatClampNeg (x_15.2.2.1 p0.toNatClampNeg)).2.2.2.2.1)) (C := RX3) (T := TX3) (N := 5) hx hb htg inG_X3 hown hGx.1 hV.1 0 rfl rfl 3 (by decide) (htg _ w_1014) (fun _ h9 => h9) rfl dX3_swap_58 ?_
        refine lv_iconst (v := 1) hx hb dX3_swap_61 (by decide) ?_
        refine lv_iadd hx hb dX3_swap_62 ?_
        have hs9 := hS.1.1
        refine m_put (z1 := ((dput (dput x_15.2 p0.toNatClampNeg (x_15.2.2.1 p1.toNatClampNeg)) p1.toNatClampNeg (x_15.2.2.1 p0.toNatClampNeg)).1, (dput (dput x_15.2 p0.toNatClampNeg (x_15.2.2.1 p1.toNatClampNeg)) p1.toNatClampNeg (x_15.2.2.1 p0.toNatClampNeg)).2.1, (dput (dput x_15.2 p0.toNatClampNeg (x_15.2.2.1 p1.toNatClampNeg)) p1.toNatClampNeg (x_15.2.2.1 p0.toNatClampNeg)).2.2.1, (dput (dput x_15.2 p0.toNatClampNeg (x_15.2.2.1 p1.toNatClampNeg)) p1.toNatClampNeg (x_15.2.2.1 p0.toNatClampNeg)).2.2.2.1, ((dput (dput x_15.2 p0.toNatClampNeg (x_15.2.2.1 p1.toNatClampNeg)) p1.toNatClampNeg (x_15.2.2.1 p0.toNatClampNeg)).2.2.2.2.1) + (1 : Int32), (dput (dput x_15.2 p0.toNatClampNeg (x_15.2.2.1 p1.toNatClampNeg)) p1.toNatClampNeg (x_15.2.2.1 p0.toNatClampNeg)).2.2.2.2.2)) 3 hx hb htg hown hGx hD hV hS (by decide) (htg _ w_1014) (by decide +kernel) rfl rfl dX3_swap_63 (fun H locs hV hS hz hq => ?_)
        have hP_16 := hP_16.up hq
        refine lv_aload_n hx hb dX3_swap_66 rfl (lv_at hl 1 rfl) ?_
        refine va_get (D := kD k) (ci := 5) (v := .ref b.2.1) (C := RX3) (T := TX3) (N := 5) hx hb htg inG_X3 hown hGx.1 hV.1 0 rfl rfl 1 (by decide) (htg _ w_1012) (fun _ h9 => h9) rfl dX3_swap_67 ?_
        refine lv_iload_n hx hb dX3_swap_70 rfl (lv_at hl 2 rfl) ?_
        by_cases h_20 : p0 < 0 ∨ 6 ≤ p0.toNatClampNeg
        · have hm := (if_pos h_20).symm.trans hm
          cases hm
        have hm := (if_neg h_20).symm.trans hm
        refine m_ald hx hb hGx hV h_20 dX3_swap_71 (fun hP_20 => ?_)
        obtain ⟨x_21, hx_21, hm⟩ := Option.bind_eq_some_iff.mp hm
        have hs_21 := hS.1.1
        have hLn_21 := m_hLn hLb hS
        have hL9 := hS.2
        refine qc_V hC hGx (k_X2_number l k (((dput (dput x_15.2 p0.toNatClampNeg (x_15.2.2.1 p1.toNatClampNeg)) p1.toNatClampNeg (x_15.2.2.1 p0.toNatClampNeg)).2.1) p0.toNatClampNeg) (q_19 p0.toNatClampNeg) hx_21) (gV w_1062 w_1063 w_1064 w_28 w_1065) kk_X2_number rfl hP_20.1 (List.forall_mem_cons.mpr ⟨hP_20.1, (List.forall_mem_nil _)⟩) ⟨Nat.le_of_ble_eq_true rfl, Nat.le_of_ble_eq_true rfl⟩ ⟨Nat.le_of_ble_eq_true rfl, Nat.le_of_ble_eq_true rfl⟩ hS.1 hA hAB hl.1 rfl rfl (Nat.le_of_ble_eq_true rfl) dX3_swap_72 (fun v_21 H hv hz hq hS => ?_)
        have hS : mS b s.heap H _ := ⟨hS, hL9⟩
        have hV := hV.up hq
        have hP_16 := hP_16.up (fun x h9 _ => hq x h9)
        have hv : v_21 = some (.int x_21) := hv
        subst hv
        exact m_iret hx hb hr hlocks (Option.some.inj hm) hV hS ⟨Nat.le_of_ble_eq_true rfl, Nat.le_of_ble_eq_true rfl⟩ dX3_swap_75
      · have hm := (if_neg h_15).symm.trans hm
        refine lv_iconst (v := 0) hx hb dX3_swap_28 (by decide) ?_
        exact m_iret hx hb hr hlocks (Option.some.inj hm) hV hS ⟨Nat.le_of_ble_eq_true rfl, Nat.le_of_ble_eq_true rfl⟩ dX3_swap_29
def o_X3_withYear (p0 : Int32) (p1 : Int32) (z : MS) : Option (Int32 × MS) := ((o_X3_fails (m_X3_isNo p0) (m_X3_isNoYear p1) (0 : Int32) z).bind fun x_1 => (if x_1.1 = 0 then (if p0 < 0 ∨ 6 ≤ p0.toNatClampNeg then none else (if p0 < 0 ∨ 6 ≤ p0.toNatClampNeg then none else ((o_X3_near p1 ((x_1.2.2.1 p0.toNatClampNeg).2.1) ((x_1.2.2.1 p0.toNatClampNeg).2.2)).bind fun x_4 => ((o_X3_gives p0 x_4 x_1.2).bind fun x_5 => some (x_5.1, x_5.2))))) else some ((0 : Int32), x_1.2)))
theorem kk_X3_withYear : pK yX3_withYear wsX3_withYear cX3_withYear 3 (some .int) 2 := ⟨⟨_, rfl⟩, by decide +kernel, by decide +kernel, by decide +kernel⟩
set_option maxRecDepth 100000 in
set_option maxHeartbeats 4000000 in
theorem k_X3_withYear (l : Launch) (k : Kx) (b : CA) (L : List Nat) (hD : mD k b L) (p0 : Int32) (p1 : Int32) (z : MS) {r : (Int32 × MS)} (hm : o_X3_withYear p0 p1 z = some r) : mM l k b L yX3_withYear wsX3_withYear 5 108 1 3 [.int p0, .int p1] [] z (some (.int r.1)) r.2 := by
  intro sz q
  refine Met.ofW (cc := cX3_withYear) (maxL := 3) (ret := (some .int)) (by decide) rfl ?_
  intro p e s m args below meth c s₁ B hml hv
  obtain ⟨rfl, rfl, hGx, hV, hLb, hds⟩ := hv
  have hx := B.exec
  have hb := B.bytes
  have hr := B.returns
  have hts := atoms_spec (ws := wsX3_withYear) B.pre
  have hown : s.vm.findClass RX3 = some m.cls := findClass_of_methodNamed B.named
  have hlocks := B.notSynchronized
  have htg : ∀ w ∈ GL, w.before _ s = true := fun w h => hts w (List.mem_cons_of_mem _ h)
  have hC : CallFix p m c cX3_withYear 3 s _ wsX3_withYear RX3 := ⟨hx, hb, hml, hown, hts⟩
  have hA : ∀ q, s.heap.size ≤ q → cA b s.heap.size q := fun q h => cA.new q h
  have hAB : ∀ q, cA b s.heap.size q → kB k ≤ q := hD.high hGx.2.1
  have hS : mS b s.heap s.heap [] := mS.rf
  have hl := lv_entry ([.ref b.1, .int p0, .int p1]) (n := 3) (Nat.le_of_ble_eq_true rfl)
  rw [lg_entry_eq]
  generalize (lg_sl ([.ref b.1, .int p0, .int p1]) ++ List.replicate (3 - (lg_sl ([.ref b.1, .int p0, .int p1])).length) Slot.unset).toArray = ls at hl ⊢
  have hl : lv_has ls 3 [(0, .ref b.1), (1, .int p0), (2, .int p1)] := hl
  refine lv_aload_n hx hb dX3_withYear_0 rfl (lv_at hl 0 rfl) ?_
  refine lv_iload_n hx hb dX3_withYear_1 rfl (lv_at hl 1 rfl) ?_
  refine pc_S hC (c_X3_isNo l p0) (gS w_1045 w_1046 w_27 w_1047) kk_X3_isNo ⟨Nat.le_of_ble_eq_true rfl, Nat.le_of_ble_eq_true rfl⟩ ⟨Nat.le_of_ble_eq_true rfl, Nat.le_of_ble_eq_true rfl⟩ hl.1 rfl rfl (Nat.le_of_ble_eq_true rfl) dX3_withYear_2 ?_
  refine lv_iload_n hx hb dX3_withYear_5 rfl (lv_at hl 2 rfl) ?_
  refine pc_S hC (c_X3_isNoYear l p1) (gS w_1035 w_1036 w_27 w_1037) kk_X3_isNoYear ⟨Nat.le_of_ble_eq_true rfl, Nat.le_of_ble_eq_true rfl⟩ ⟨Nat.le_of_ble_eq_true rfl, Nat.le_of_ble_eq_true rfl⟩ hl.1 rfl rfl (Nat.le_of_ble_eq_true rfl) dX3_withYear_6 ?_
  refine lv_iconst (v := 0) hx hb dX3_withYear_9 (by decide) ?_
  obtain ⟨x_1, hx_1, hm⟩ := Option.bind_eq_some_iff.mp hm
  refine mc_V hC hGx hD (k_X3_fails l k b L hD (m_X3_isNo p0) (m_X3_isNoYear p1) (0 : Int32)  z hx_1) (gV w_1056 w_1057 w_18 w_27 w_1058) kk_X3_fails rfl (List.forall_mem_nil _) hLb ⟨Nat.le_of_ble_eq_true rfl, Nat.le_of_ble_eq_true rfl⟩ ⟨Nat.le_of_ble_eq_true rfl, Nat.le_of_ble_eq_true rfl⟩ hV hS hl.1 rfl rfl (Nat.le_of_ble_eq_true rfl) dX3_withYear_10 (fun q_1 H locs hV hS hz hq => ?_)
  refine lv_if_eq (tgt := 20) hx hb dX3_withYear_13 (by decide) (fun h_1 => ?_) (fun h_1 => ?_)
  · have hm := (if_pos h_1).symm.trans hm
    refine lv_aload_n hx hb dX3_withYear_20 rfl (lv_at hl 0 rfl) ?_
    refine lv_iload_n hx hb dX3_withYear_21 rfl (lv_at hl 1 rfl) ?_
    refine lv_iload_n hx hb dX3_withYear_22 rfl (lv_at hl 2 rfl) ?_
    refine lv_aload_n hx hb dX3_withYear_23 rfl (lv_at hl 0 rfl) ?_
    refine va_get (D := kD k) (ci := 5) (v := .ref b.2.1) (C := RX3) (T := TX3) (N := 5) hx hb htg inG_X3 hown hGx.1 hV.1 0 rfl rfl 1 (by decide) (htg _ w_1012) (fun _ h9 => h9) rfl dX3_withYear_24 ?_
    refine lv_iload_n hx hb dX3_withYear_27 rfl (lv_at hl 1 rfl) ?_
    by_cases h_2 : p0 < 0 ∨ 6 ≤ p0.toNatClampNeg
    · have hm := (if_pos h_2).symm.trans hm
      cases hm
    have hm := (if_neg h_2).symm.trans hm
    refine m_ald hx hb hGx hV h_2 dX3_withYear_28 (fun hP_2 => ?_)
    refine va_get (D := kD k) (ci := 4) (v := .int ((x_1.2.2.1 p0.toNatClampNeg).2.1)) (C := RX2) (T := TX2) (N := 3) hx hb htg inG_X2 hown hGx.1 hP_2.1 0 rfl rfl 1 (by decide) (htg _ w_1001) (fun _ h9 => h9) rfl dX3_withYear_29 ?_
    refine lv_aload_n hx hb dX3_withYear_32 rfl (lv_at hl 0 rfl) ?_
    refine va_get (D := kD k) (ci := 5) (v := .ref b.2.1) (C := RX3) (T := TX3) (N := 5) hx hb htg inG_X3 hown hGx.1 hV.1 0 rfl rfl 1 (by decide) (htg _ w_1012) (fun _ h9 => h9) rfl dX3_withYear_33 ?_
    refine lv_iload_n hx hb dX3_withYear_36 rfl (lv_at hl 1 rfl) ?_
    by_cases h_3 : p0 < 0 ∨ 6 ≤ p0.toNatClampNeg
    · have hm := (if_pos h_3).symm.trans hm
      cases hm
    have hm := (if_neg h_3).symm.trans hm
    refine m_ald hx hb hGx hV h_3 dX3_withYear_37 (fun hP_3 => ?_)
    refine va_get (D := kD k) (ci := 4) (v := .int ((x_1.2.2.1 p0.toNatClampNeg).2.2)) (C := RX2) (T := TX2) (N := 3) hx hb htg inG_X2 hown hGx.1 hP_3.1 0 rfl rfl 2 (by decide) (htg _ w_1003) (fun _ h9 => h9) rfl dX3_withYear_38 ?_
    obtain ⟨x_4, hx_4, hm⟩ := Option.bind_eq_some_iff.mp hm
    have hs_4 := hS.1.1
    have hLn_4 := m_hLn hLb hS
    have hL9 := hS.2
    refine qc_S hC hGx (k_X3_near l k p1 ((x_1.2.2.1 p0.toNatClampNeg).2.1) ((x_1.2.2.1 p0.toNatClampNeg).2.2)  hx_4) (gS w_1117 w_1118 w_27 w_1119) kk_X3_near (List.forall_mem_nil _) ⟨Nat.le_of_ble_eq_true rfl, Nat.le_of_ble_eq_true rfl⟩ ⟨Nat.le_of_ble_eq_true rfl, Nat.le_of_ble_eq_true rfl⟩ hS.1 hA hAB hl.1 rfl rfl (Nat.le_of_ble_eq_true rfl) dX3_withYear_41 (fun v_4 H hv hz hq hS => ?_)
    have hS : mS b s.heap H _ := ⟨hS, hL9⟩
    have hV := hV.up hq
    obtain ⟨a_4, rfl, hn_4, hP_4⟩ := hv
    have hP_4 := dF.made hLn_4 hn_4 hP_4
    have hn_4 := Nat.le_trans hs_4 hn_4
    obtain ⟨x_5, hx_5, hm⟩ := Option.bind_eq_some_iff.mp hm
    refine mc_V hC hGx hD (k_X3_gives l k b L hD p0 x_4 a_4 x_1.2 hx_5) (gV w_1059 w_1060 w_19 w_27 w_1061) kk_X3_gives rfl (List.forall_mem_cons.mpr ⟨hP_4, (List.forall_mem_nil _)⟩) hLb ⟨Nat.le_of_ble_eq_true rfl, Nat.le_of_ble_eq_true rfl⟩ ⟨Nat.le_of_ble_eq_true rfl, Nat.le_of_ble_eq_true rfl⟩ hV hS hl.1 rfl rfl (Nat.le_of_ble_eq_true rfl) dX3_withYear_44 (fun q_5 H locs hV hS hz hq => ?_)
    exact m_iret hx hb hr hlocks (Option.some.inj hm) hV hS ⟨Nat.le_of_ble_eq_true rfl, Nat.le_of_ble_eq_true rfl⟩ dX3_withYear_47
  · have hm := (if_neg h_1).symm.trans hm
    refine lv_iconst (v := 0) hx hb dX3_withYear_16 (by decide) ?_
    refine lv_goto (tgt := 47) hx hb dX3_withYear_17 (by decide) ?_
    exact m_iret hx hb hr hlocks (Option.some.inj hm) hV hS ⟨Nat.le_of_ble_eq_true rfl, Nat.le_of_ble_eq_true rfl⟩ dX3_withYear_47
def o_X3_withMonth (p0 : Int32) (p1 : Int32) (z : MS) : Option (Int32 × MS) := (if m_X3_isIn p1.toInt64 (1 : Int64) (12 : Int64) = 0 then ((o_X3_fails (m_X3_isNo p0) (1 : Int32) (0 : Int32) z).bind fun x_6 => (if x_6.1 = 0 then (if p0 < 0 ∨ 6 ≤ p0.toNatClampNeg then none else (if p0 < 0 ∨ 6 ≤ p0.toNatClampNeg then none else ((o_X3_near ((x_6.2.2.1 p0.toNatClampNeg).1) p1 ((x_6.2.2.1 p0.toNatClampNeg).2.2)).bind fun x_9 => ((o_X3_gives p0 x_9 x_6.2).bind fun x_10 => some (x_10.1, x_10.2))))) else some ((0 : Int32), x_6.2))) else ((o_X3_fails (m_X3_isNo p0) (0 : Int32) (0 : Int32) z).bind fun x_1 => (if x_1.1 = 0 then (if p0 < 0 ∨ 6 ≤ p0.toNatClampNeg then none else (if p0 < 0 ∨ 6 ≤ p0.toNatClampNeg then none else ((o_X3_near ((x_1.2.2.1 p0.toNatClampNeg).1) p1 ((x_1.2.2.1 p0.toNatClampNeg).2.2)).bind fun x_4 => ((o_X3_gives p0 x_4 x_1.2).bind fun x_5 => some (x_5.1, x_5.2))))) else some ((0 : Int32), x_1.2))))
theorem kk_X3_withMonth : pK yX3_withMonth wsX3_withMonth cX3_withMonth 3 (some .int) 2 := ⟨⟨_, rfl⟩, by decide +kernel, by decide +kernel, by decide +kernel⟩
set_option maxRecDepth 100000 in
set_option maxHeartbeats 4000000 in
theorem k_X3_withMonth (l : Launch) (k : Kx) (b : CA) (L : List Nat) (hD : mD k b L) (p0 : Int32) (p1 : Int32) (z : MS) {r : (Int32 × MS)} (hm : o_X3_withMonth p0 p1 z = some r) : mM l k b L yX3_withMonth wsX3_withMonth 5 108 1 3 [.int p0, .int p1] [] z (some (.int r.1)) r.2 := by
  intro sz q
  refine Met.ofW (cc := cX3_withMonth) (maxL := 3) (ret := (some .int)) (by decide) rfl ?_
  intro p e s m args below meth c s₁ B hml hv
  obtain ⟨rfl, rfl, hGx, hV, hLb, hds⟩ := hv
  have hx := B.exec
  have hb := B.bytes
  have hr := B.returns
  have hts := atoms_spec (ws := wsX3_withMonth) B.pre
  have hown : s.vm.findClass RX3 = some m.cls := findClass_of_methodNamed B.named
  have hlocks := B.notSynchronized
  have htg : ∀ w ∈ GL, w.before _ s = true := fun w h => hts w (List.mem_cons_of_mem _ h)
  have hC : CallFix p m c cX3_withMonth 3 s _ wsX3_withMonth RX3 := ⟨hx, hb, hml, hown, hts⟩
  have hA : ∀ q, s.heap.size ≤ q → cA b s.heap.size q := fun q h => cA.new q h
  have hAB : ∀ q, cA b s.heap.size q → kB k ≤ q := hD.high hGx.2.1
  have hS : mS b s.heap s.heap [] := mS.rf
  have hl := lv_entry ([.ref b.1, .int p0, .int p1]) (n := 3) (Nat.le_of_ble_eq_true rfl)
  rw [lg_entry_eq]
  generalize (lg_sl ([.ref b.1, .int p0, .int p1]) ++ List.replicate (3 - (lg_sl ([.ref b.1, .int p0, .int p1])).length) Slot.unset).toArray = ls at hl ⊢
  have hl : lv_has ls 3 [(0, .ref b.1), (1, .int p0), (2, .int p1)] := hl
  refine lv_aload_n hx hb dX3_withMonth_0 rfl (lv_at hl 0 rfl) ?_
  refine lv_iload_n hx hb dX3_withMonth_1 rfl (lv_at hl 1 rfl) ?_
  refine pc_S hC (c_X3_isNo l p0) (gS w_1045 w_1046 w_27 w_1047) kk_X3_isNo ⟨Nat.le_of_ble_eq_true rfl, Nat.le_of_ble_eq_true rfl⟩ ⟨Nat.le_of_ble_eq_true rfl, Nat.le_of_ble_eq_true rfl⟩ hl.1 rfl rfl (Nat.le_of_ble_eq_true rfl) dX3_withMonth_2 ?_
  refine lv_iload_n hx hb dX3_withMonth_5 rfl (lv_at hl 2 rfl) ?_
  refine lv_i2l hx hb dX3_withMonth_6 rfl ?_
  refine lv_lconst (v := 1) hx hb dX3_withMonth_7 (by decide) ?_
  refine lv_ldc2 hx hb hown (htg _ w_1043) dX3_withMonth_8 ?_
  refine pc_S hC (c_X3_isIn l p1.toInt64 (1 : Int64) (12 : Int64)) (gS w_1040 w_1041 w_27 w_1042) kk_X3_isIn ⟨Nat.le_of_ble_eq_true rfl, Nat.le_of_ble_eq_true rfl⟩ ⟨Nat.le_of_ble_eq_true rfl, Nat.le_of_ble_eq_true rfl⟩ hl.1 rfl rfl (Nat.le_of_ble_eq_true rfl) dX3_withMonth_11 ?_
  refine lv_if_ne (tgt := 21) hx hb dX3_withMonth_14 (by decide) (fun h_1 => ?_) (fun h_1 => ?_)
  · have hm := (if_neg h_1).symm.trans hm
    refine lv_iconst (v := 0) hx hb dX3_withMonth_21 (by decide) ?_
    refine lv_iconst (v := 0) hx hb dX3_withMonth_22 (by decide) ?_
    obtain ⟨x_1, hx_1, hm⟩ := Option.bind_eq_some_iff.mp hm
    refine mc_V hC hGx hD (k_X3_fails l k b L hD (m_X3_isNo p0) (0 : Int32) (0 : Int32)  z hx_1) (gV w_1056 w_1057 w_18 w_27 w_1058) kk_X3_fails rfl (List.forall_mem_nil _) hLb ⟨Nat.le_of_ble_eq_true rfl, Nat.le_of_ble_eq_true rfl⟩ ⟨Nat.le_of_ble_eq_true rfl, Nat.le_of_ble_eq_true rfl⟩ hV hS hl.1 rfl rfl (Nat.le_of_ble_eq_true rfl) dX3_withMonth_23 (fun q_1 H locs hV hS hz hq => ?_)
    refine lv_if_eq (tgt := 33) hx hb dX3_withMonth_26 (by decide) (fun h_2 => ?_) (fun h_2 => ?_)
    · have hm := (if_pos h_2).symm.trans hm
      refine lv_aload_n hx hb dX3_withMonth_33 rfl (lv_at hl 0 rfl) ?_
      refine lv_iload_n hx hb dX3_withMonth_34 rfl (lv_at hl 1 rfl) ?_
      refine lv_aload_n hx hb dX3_withMonth_35 rfl (lv_at hl 0 rfl) ?_
      refine va_get (D := kD k) (ci := 5) (v := .ref b.2.1) (C := RX3) (T := TX3) (N := 5) hx hb htg inG_X3 hown hGx.1 hV.1 0 rfl rfl 1 (by decide) (htg _ w_1012) (fun _ h9 => h9) rfl dX3_withMonth_36 ?_
      refine lv_iload_n hx hb dX3_withMonth_39 rfl (lv_at hl 1 rfl) ?_
      by_cases h_3 : p0 < 0 ∨ 6 ≤ p0.toNatClampNeg
      · have hm := (if_pos h_3).symm.trans hm
        cases hm
      have hm := (if_neg h_3).symm.trans hm
      refine m_ald hx hb hGx hV h_3 dX3_withMonth_40 (fun hP_2 => ?_)
      refine va_get (D := kD k) (ci := 4) (v := .int ((x_1.2.2.1 p0.toNatClampNeg).1)) (C := RX2) (T := TX2) (N := 3) hx hb htg inG_X2 hown hGx.1 hP_2.1 0 rfl rfl 0 (by decide) (htg _ w_999) (fun _ h9 => h9) rfl dX3_withMonth_41 ?_
      refine lv_iload_n hx hb dX3_withMonth_44 rfl (lv_at hl 2 rfl) ?_
      refine lv_aload_n hx hb dX3_withMonth_45 rfl (lv_at hl 0 rfl) ?_
      refine va_get (D := kD k) (ci := 5) (v := .ref b.2.1) (C := RX3) (T := TX3) (N := 5) hx hb htg inG_X3 hown hGx.1 hV.1 0 rfl rfl 1 (by decide) (htg _ w_1012) (fun _ h9 => h9) rfl dX3_withMonth_46 ?_
      refine lv_iload_n hx hb dX3_withMonth_49 rfl (lv_at hl 1 rfl) ?_
      by_cases h_4 : p0 < 0 ∨ 6 ≤ p0.toNatClampNeg
      · have hm := (if_pos h_4).symm.trans hm
        cases hm
      have hm := (if_neg h_4).symm.trans hm
      refine m_ald hx hb hGx hV h_4 dX3_withMonth_50 (fun hP_3 => ?_)
      refine va_get (D := kD k) (ci := 4) (v := .int ((x_1.2.2.1 p0.toNatClampNeg).2.2)) (C := RX2) (T := TX2) (N := 3) hx hb htg inG_X2 hown hGx.1 hP_3.1 0 rfl rfl 2 (by decide) (htg _ w_1003) (fun _ h9 => h9) rfl dX3_withMonth_51 ?_
      obtain ⟨x_4, hx_4, hm⟩ := Option.bind_eq_some_iff.mp hm
      have hs_4 := hS.1.1
      have hLn_4 := m_hLn hLb hS
      have hL9 := hS.2
      refine qc_S hC hGx (k_X3_near l k ((x_1.2.2.1 p0.toNatClampNeg).1) p1 ((x_1.2.2.1 p0.toNatClampNeg).2.2)  hx_4) (gS w_1117 w_1118 w_27 w_1119) kk_X3_near (List.forall_mem_nil _) ⟨Nat.le_of_ble_eq_true rfl, Nat.le_of_ble_eq_true rfl⟩ ⟨Nat.le_of_ble_eq_true rfl, Nat.le_of_ble_eq_true rfl⟩ hS.1 hA hAB hl.1 rfl rfl (Nat.le_of_ble_eq_true rfl) dX3_withMonth_54 (fun v_4 H hv hz hq hS => ?_)
      have hS : mS b s.heap H _ := ⟨hS, hL9⟩
      have hV := hV.up hq
      obtain ⟨a_4, rfl, hn_4, hP_4⟩ := hv
      have hP_4 := dF.made hLn_4 hn_4 hP_4
      have hn_4 := Nat.le_trans hs_4 hn_4
      obtain ⟨x_5, hx_5, hm⟩ := Option.bind_eq_some_iff.mp hm
      refine mc_V hC hGx hD (k_X3_gives l k b L hD p0 x_4 a_4 x_1.2 hx_5) (gV w_1059 w_1060 w_19 w_27 w_1061) kk_X3_gives rfl (List.forall_mem_cons.mpr ⟨hP_4, (List.forall_mem_nil _)⟩) hLb ⟨Nat.le_of_ble_eq_true rfl, Nat.le_of_ble_eq_true rfl⟩ ⟨Nat.le_of_ble_eq_true rfl, Nat.le_of_ble_eq_true rfl⟩ hV hS hl.1 rfl rfl (Nat.le_of_ble_eq_true rfl) dX3_withMonth_57 (fun q_5 H locs hV hS hz hq => ?_)
      exact m_iret hx hb hr hlocks (Option.some.inj hm) hV hS ⟨Nat.le_of_ble_eq_true rfl, Nat.le_of_ble_eq_true rfl⟩ dX3_withMonth_60
    · have hm := (if_neg h_2).symm.trans hm
      refine lv_iconst (v := 0) hx hb dX3_withMonth_29 (by decide) ?_
      refine lv_goto (tgt := 60) hx hb dX3_withMonth_30 (by decide) ?_
      exact m_iret hx hb hr hlocks (Option.some.inj hm) hV hS ⟨Nat.le_of_ble_eq_true rfl, Nat.le_of_ble_eq_true rfl⟩ dX3_withMonth_60
  · have hm := (if_pos h_1).symm.trans hm
    refine lv_iconst (v := 1) hx hb dX3_withMonth_17 (by decide) ?_
    refine lv_goto (tgt := 22) hx hb dX3_withMonth_18 (by decide) ?_
    refine lv_iconst (v := 0) hx hb dX3_withMonth_22 (by decide) ?_
    obtain ⟨x_6, hx_6, hm⟩ := Option.bind_eq_some_iff.mp hm
    refine mc_V hC hGx hD (k_X3_fails l k b L hD (m_X3_isNo p0) (1 : Int32) (0 : Int32)  z hx_6) (gV w_1056 w_1057 w_18 w_27 w_1058) kk_X3_fails rfl (List.forall_mem_nil _) hLb ⟨Nat.le_of_ble_eq_true rfl, Nat.le_of_ble_eq_true rfl⟩ ⟨Nat.le_of_ble_eq_true rfl, Nat.le_of_ble_eq_true rfl⟩ hV hS hl.1 rfl rfl (Nat.le_of_ble_eq_true rfl) dX3_withMonth_23 (fun q_6 H locs hV hS hz hq => ?_)
    refine lv_if_eq (tgt := 33) hx hb dX3_withMonth_26 (by decide) (fun h_5 => ?_) (fun h_5 => ?_)
    · have hm := (if_pos h_5).symm.trans hm
      refine lv_aload_n hx hb dX3_withMonth_33 rfl (lv_at hl 0 rfl) ?_
      refine lv_iload_n hx hb dX3_withMonth_34 rfl (lv_at hl 1 rfl) ?_
      refine lv_aload_n hx hb dX3_withMonth_35 rfl (lv_at hl 0 rfl) ?_
      refine va_get (D := kD k) (ci := 5) (v := .ref b.2.1) (C := RX3) (T := TX3) (N := 5) hx hb htg inG_X3 hown hGx.1 hV.1 0 rfl rfl 1 (by decide) (htg _ w_1012) (fun _ h9 => h9) rfl dX3_withMonth_36 ?_
      refine lv_iload_n hx hb dX3_withMonth_39 rfl (lv_at hl 1 rfl) ?_
      by_cases h_6 : p0 < 0 ∨ 6 ≤ p0.toNatClampNeg
      · have hm := (if_pos h_6).symm.trans hm
        cases hm
      have hm := (if_neg h_6).symm.trans hm
      refine m_ald hx hb hGx hV h_6 dX3_withMonth_40 (fun hP_7 => ?_)
      refine va_get (D := kD k) (ci := 4) (v := .int ((x_6.2.2.1 p0.toNatClampNeg).1)) (C := RX2) (T := TX2) (N := 3) hx hb htg inG_X2 hown hGx.1 hP_7.1 0 rfl rfl 0 (by decide) (htg _ w_999) (fun _ h9 => h9) rfl dX3_withMonth_41 ?_
      refine lv_iload_n hx hb dX3_withMonth_44 rfl (lv_at hl 2 rfl) ?_
      refine lv_aload_n hx hb dX3_withMonth_45 rfl (lv_at hl 0 rfl) ?_
      refine va_get (D := kD k) (ci := 5) (v := .ref b.2.1) (C := RX3) (T := TX3) (N := 5) hx hb htg inG_X3 hown hGx.1 hV.1 0 rfl rfl 1 (by decide) (htg _ w_1012) (fun _ h9 => h9) rfl dX3_withMonth_46 ?_
      refine lv_iload_n hx hb dX3_withMonth_49 rfl (lv_at hl 1 rfl) ?_
      by_cases h_7 : p0 < 0 ∨ 6 ≤ p0.toNatClampNeg
      · have hm := (if_pos h_7).symm.trans hm
        cases hm
      have hm := (if_neg h_7).symm.trans hm
      refine m_ald hx hb hGx hV h_7 dX3_withMonth_50 (fun hP_8 => ?_)
      refine va_get (D := kD k) (ci := 4) (v := .int ((x_6.2.2.1 p0.toNatClampNeg).2.2)) (C := RX2) (T := TX2) (N := 3) hx hb htg inG_X2 hown hGx.1 hP_8.1 0 rfl rfl 2 (by decide) (htg _ w_1003) (fun _ h9 => h9) rfl dX3_withMonth_51 ?_
      obtain ⟨x_9, hx_9, hm⟩ := Option.bind_eq_some_iff.mp hm
      have hs_9 := hS.1.1
      have hLn_9 := m_hLn hLb hS
      have hL9 := hS.2
      refine qc_S hC hGx (k_X3_near l k ((x_6.2.2.1 p0.toNatClampNeg).1) p1 ((x_6.2.2.1 p0.toNatClampNeg).2.2)  hx_9) (gS w_1117 w_1118 w_27 w_1119) kk_X3_near (List.forall_mem_nil _) ⟨Nat.le_of_ble_eq_true rfl, Nat.le_of_ble_eq_true rfl⟩ ⟨Nat.le_of_ble_eq_true rfl, Nat.le_of_ble_eq_true rfl⟩ hS.1 hA hAB hl.1 rfl rfl (Nat.le_of_ble_eq_true rfl) dX3_withMonth_54 (fun v_9 H hv hz hq hS => ?_)
      have hS : mS b s.heap H _ := ⟨hS, hL9⟩
      have hV := hV.up hq
      obtain ⟨a_9, rfl, hn_9, hP_9⟩ := hv
      have hP_9 := dF.made hLn_9 hn_9 hP_9
      have hn_9 := Nat.le_trans hs_9 hn_9
      obtain ⟨x_10, hx_10, hm⟩ := Option.bind_eq_some_iff.mp hm
      refine mc_V hC hGx hD (k_X3_gives l k b L hD p0 x_9 a_9 x_6.2 hx_10) (gV w_1059 w_1060 w_19 w_27 w_1061) kk_X3_gives rfl (List.forall_mem_cons.mpr ⟨hP_9, (List.forall_mem_nil _)⟩) hLb ⟨Nat.le_of_ble_eq_true rfl, Nat.le_of_ble_eq_true rfl⟩ ⟨Nat.le_of_ble_eq_true rfl, Nat.le_of_ble_eq_true rfl⟩ hV hS hl.1 rfl rfl (Nat.le_of_ble_eq_true rfl) dX3_withMonth_57 (fun q_10 H locs hV hS hz hq => ?_)
      exact m_iret hx hb hr hlocks (Option.some.inj hm) hV hS ⟨Nat.le_of_ble_eq_true rfl, Nat.le_of_ble_eq_true rfl⟩ dX3_withMonth_60
    · have hm := (if_neg h_5).symm.trans hm
      refine lv_iconst (v := 0) hx hb dX3_withMonth_29 (by decide) ?_
      refine lv_goto (tgt := 60) hx hb dX3_withMonth_30 (by decide) ?_
      exact m_iret hx hb hr hlocks (Option.some.inj hm) hV hS ⟨Nat.le_of_ble_eq_true rfl, Nat.le_of_ble_eq_true rfl⟩ dX3_withMonth_60
def o_X3_withDay (p0 : Int32) (p1 : Int32) (z : MS) : Option (Int32 × MS) := (if m_X3_isIn p1.toInt64 (1 : Int64) (31 : Int64) = 0 then ((o_X3_fails (m_X3_isNo p0) (1 : Int32) (0 : Int32) z).bind fun x_10 => (if x_10.1 = 0 then (if p0 < 0 ∨ 6 ≤ p0.toNatClampNeg then none else ((o_X3_lengthOf_ ((x_10.2.2.1 p0.toNatClampNeg).1) ((x_10.2.2.1 p0.toNatClampNeg).2.1)).bind fun x_12 => (if p1 ≤ x_12 then ((o_X3_fails (0 : Int32) (0 : Int32) (0 : Int32) x_10.2).bind fun x_13 => (if x_13.1 = 0 then ((o_X3_gives p0 ((x_10.2.2.1 p0.toNatClampNeg).1, (x_10.2.2.1 p0.toNatClampNeg).2.1, p1) x_13.2).bind fun x_15 => some (x_15.1, x_15.2)) else some ((0 : Int32), x_13.2))) else ((o_X3_fails (0 : Int32) (0 : Int32) (1 : Int32) x_10.2).bind fun x_16 => (if x_16.1 = 0 then ((o_X3_gives p0 ((x_10.2.2.1 p0.toNatClampNeg).1, (x_10.2.2.1 p0.toNatClampNeg).2.1, p1) x_16.2).bind fun x_18 => some (x_18.1, x_18.2)) else some ((0 : Int32), x_16.2)))))) else some ((0 : Int32), x_10.2))) else ((o_X3_fails (m_X3_isNo p0) (0 : Int32) (0 : Int32) z).bind fun x_1 => (if x_1.1 = 0 then (if p0 < 0 ∨ 6 ≤ p0.toNatClampNeg then none else ((o_X3_lengthOf_ ((x_1.2.2.1 p0.toNatClampNeg).1) ((x_1.2.2.1 p0.toNatClampNeg).2.1)).bind fun x_3 => (if p1 ≤ x_3 then ((o_X3_fails (0 : Int32) (0 : Int32) (0 : Int32) x_1.2).bind fun x_4 => (if x_4.1 = 0 then ((o_X3_gives p0 ((x_1.2.2.1 p0.toNatClampNeg).1, (x_1.2.2.1 p0.toNatClampNeg).2.1, p1) x_4.2).bind fun x_6 => some (x_6.1, x_6.2)) else some ((0 : Int32), x_4.2))) else ((o_X3_fails (0 : Int32) (0 : Int32) (1 : Int32) x_1.2).bind fun x_7 => (if x_7.1 = 0 then ((o_X3_gives p0 ((x_1.2.2.1 p0.toNatClampNeg).1, (x_1.2.2.1 p0.toNatClampNeg).2.1, p1) x_7.2).bind fun x_9 => some (x_9.1, x_9.2)) else some ((0 : Int32), x_7.2)))))) else some ((0 : Int32), x_1.2))))
theorem kk_X3_withDay : pK yX3_withDay wsX3_withDay cX3_withDay 4 (some .int) 2 := ⟨⟨_, rfl⟩, by decide +kernel, by decide +kernel, by decide +kernel⟩
set_option maxRecDepth 100000 in
set_option maxHeartbeats 4000000 in
theorem k_X3_withDay (l : Launch) (k : Kx) (b : CA) (L : List Nat) (hD : mD k b L) (p0 : Int32) (p1 : Int32) (z : MS) {r : (Int32 × MS)} (hm : o_X3_withDay p0 p1 z = some r) : mM l k b L yX3_withDay wsX3_withDay 5 108 1 3 [.int p0, .int p1] [] z (some (.int r.1)) r.2 := by
  intro sz q
  refine Met.ofW (cc := cX3_withDay) (maxL := 4) (ret := (some .int)) (by decide) rfl ?_
  intro p e s m args below meth c s₁ B hml hv
  obtain ⟨rfl, rfl, hGx, hV, hLb, hds⟩ := hv
  have hx := B.exec
  have hb := B.bytes
  have hr := B.returns
  have hts := atoms_spec (ws := wsX3_withDay) B.pre
  have hown : s.vm.findClass RX3 = some m.cls := findClass_of_methodNamed B.named
  have hlocks := B.notSynchronized
  have htg : ∀ w ∈ GL, w.before _ s = true := fun w h => hts w (List.mem_cons_of_mem _ h)
  have hC : CallFix p m c cX3_withDay 4 s _ wsX3_withDay RX3 := ⟨hx, hb, hml, hown, hts⟩
  have hA : ∀ q, s.heap.size ≤ q → cA b s.heap.size q := fun q h => cA.new q h
  have hAB : ∀ q, cA b s.heap.size q → kB k ≤ q := hD.high hGx.2.1
  have hS : mS b s.heap s.heap [] := mS.rf
  have hl := lv_entry ([.ref b.1, .int p0, .int p1]) (n := 4) (Nat.le_of_ble_eq_true rfl)
  rw [lg_entry_eq]
  generalize (lg_sl ([.ref b.1, .int p0, .int p1]) ++ List.replicate (4 - (lg_sl ([.ref b.1, .int p0, .int p1])).length) Slot.unset).toArray = ls at hl ⊢
  have hl : lv_has ls 4 [(0, .ref b.1), (1, .int p0), (2, .int p1)] := hl
  refine lv_aload_n hx hb dX3_withDay_0 rfl (lv_at hl 0 rfl) ?_
  refine lv_iload_n hx hb dX3_withDay_1 rfl (lv_at hl 1 rfl) ?_
  refine pc_S hC (c_X3_isNo l p0) (gS w_1045 w_1046 w_27 w_1047) kk_X3_isNo ⟨Nat.le_of_ble_eq_true rfl, Nat.le_of_ble_eq_true rfl⟩ ⟨Nat.le_of_ble_eq_true rfl, Nat.le_of_ble_eq_true rfl⟩ hl.1 rfl rfl (Nat.le_of_ble_eq_true rfl) dX3_withDay_2 ?_
  refine lv_iload_n hx hb dX3_withDay_5 rfl (lv_at hl 2 rfl) ?_
  refine lv_i2l hx hb dX3_withDay_6 rfl ?_
  refine lv_lconst (v := 1) hx hb dX3_withDay_7 (by decide) ?_
  refine lv_ldc2 hx hb hown (htg _ w_1044) dX3_withDay_8 ?_
  refine pc_S hC (c_X3_isIn l p1.toInt64 (1 : Int64) (31 : Int64)) (gS w_1040 w_1041 w_27 w_1042) kk_X3_isIn ⟨Nat.le_of_ble_eq_true rfl, Nat.le_of_ble_eq_true rfl⟩ ⟨Nat.le_of_ble_eq_true rfl, Nat.le_of_ble_eq_true rfl⟩ hl.1 rfl rfl (Nat.le_of_ble_eq_true rfl) dX3_withDay_11 ?_
  refine lv_if_ne (tgt := 21) hx hb dX3_withDay_14 (by decide) (fun h_1 => ?_) (fun h_1 => ?_)
  · have hm := (if_neg h_1).symm.trans hm
    refine lv_iconst (v := 0) hx hb dX3_withDay_21 (by decide) ?_
    refine lv_iconst (v := 0) hx hb dX3_withDay_22 (by decide) ?_
    obtain ⟨x_1, hx_1, hm⟩ := Option.bind_eq_some_iff.mp hm
    refine mc_V hC hGx hD (k_X3_fails l k b L hD (m_X3_isNo p0) (0 : Int32) (0 : Int32)  z hx_1) (gV w_1056 w_1057 w_18 w_27 w_1058) kk_X3_fails rfl (List.forall_mem_nil _) hLb ⟨Nat.le_of_ble_eq_true rfl, Nat.le_of_ble_eq_true rfl⟩ ⟨Nat.le_of_ble_eq_true rfl, Nat.le_of_ble_eq_true rfl⟩ hV hS hl.1 rfl rfl (Nat.le_of_ble_eq_true rfl) dX3_withDay_23 (fun q_1 H locs hV hS hz hq => ?_)
    refine lv_if_eq (tgt := 31) hx hb dX3_withDay_26 (by decide) (fun h_2 => ?_) (fun h_2 => ?_)
    · have hm := (if_pos h_2).symm.trans hm
      refine lv_aload_n hx hb dX3_withDay_31 rfl (lv_at hl 0 rfl) ?_
      refine va_get (D := kD k) (ci := 5) (v := .ref b.2.1) (C := RX3) (T := TX3) (N := 5) hx hb htg inG_X3 hown hGx.1 hV.1 0 rfl rfl 1 (by decide) (htg _ w_1012) (fun _ h9 => h9) rfl dX3_withDay_32 ?_
      refine lv_iload_n hx hb dX3_withDay_35 rfl (lv_at hl 1 rfl) ?_
      by_cases h_3 : p0 < 0 ∨ 6 ≤ p0.toNatClampNeg
      · have hm := (if_pos h_3).symm.trans hm
        cases hm
      have hm := (if_neg h_3).symm.trans hm
      refine m_ald hx hb hGx hV h_3 dX3_withDay_36 (fun hP_2 => ?_)
      refine lv_astore_n (lv' := [(3, .ref (q_1 p0.toNatClampNeg)), (0, .ref b.1), (1, .int p0), (2, .int p1)]) hx hb dX3_withDay_37 rfl hl (by decide) rfl (fun ls hl => ?_)
      refine lv_aload_n hx hb dX3_withDay_38 rfl (lv_at hl 1 rfl) ?_
      refine lv_iconst (v := 0) hx hb dX3_withDay_39 (by decide) ?_
      refine lv_iconst (v := 0) hx hb dX3_withDay_40 (by decide) ?_
      refine lv_iload_n hx hb dX3_withDay_41 rfl (lv_at hl 3 rfl) ?_
      refine lv_aload_n hx hb dX3_withDay_42 rfl (lv_at hl 0 rfl) ?_
      refine va_get (D := kD k) (ci := 4) (v := .int ((x_1.2.2.1 p0.toNatClampNeg).1)) (C := RX2) (T := TX2) (N := 3) hx hb htg inG_X2 hown hGx.1 hP_2.1 0 rfl rfl 0 (by decide) (htg _ w_999) (fun _ h9 => h9) rfl dX3_withDay_43 ?_
      refine lv_aload_n hx hb dX3_withDay_46 rfl (lv_at hl 0 rfl) ?_
      refine va_get (D := kD k) (ci := 4) (v := .int ((x_1.2.2.1 p0.toNatClampNeg).2.1)) (C := RX2) (T := TX2) (N := 3) hx hb htg inG_X2 hown hGx.1 hP_2.1 0 rfl rfl 1 (by decide) (htg _ w_1001) (fun _ h9 => h9) rfl dX3_withDay_47 ?_
      obtain ⟨x_3, hx_3, hm⟩ := Option.bind_eq_some_iff.mp hm
      have hs_3 := hS.1.1
      have hLn_3 := m_hLn hLb hS
      have hL9 := hS.2
      refine qc_S hC hGx (k_X3_lengthOf_ l k ((x_1.2.2.1 p0.toNatClampNeg).1) ((x_1.2.2.1 p0.toNatClampNeg).2.1)  hx_3) (gS w_1049 w_1050 w_27 w_1051) kk_X3_lengthOf_ (List.forall_mem_nil _) ⟨Nat.le_of_ble_eq_true rfl, Nat.le_of_ble_eq_true rfl⟩ ⟨Nat.le_of_ble_eq_true rfl, Nat.le_of_ble_eq_true rfl⟩ hS.1 hA hAB hl.1 rfl rfl (Nat.le_of_ble_eq_true rfl) dX3_withDay_50 (fun v_3 H hv hz hq hS => ?_)
      have hS : mS b s.heap H _ := ⟨hS, hL9⟩
      have hV := hV.up hq
      have hP_2 := hP_2.up (fun x h9 _ => hq x h9)
      have hv : v_3 = some (.int x_3) := hv
      subst hv
      refine lv_icmp_le (tgt := 60) hx hb dX3_withDay_53 (by decide) (fun h_4 => ?_) (fun h_4 => ?_)
      · have hm := (if_pos h_4).symm.trans hm
        refine lv_iconst (v := 0) hx hb dX3_withDay_60 (by decide) ?_
        obtain ⟨x_4, hx_4, hm⟩ := Option.bind_eq_some_iff.mp hm
        refine mc_V hC hGx hD (k_X3_fails l k b L hD (0 : Int32) (0 : Int32) (0 : Int32)  x_1.2 hx_4) (gV w_1056 w_1057 w_18 w_27 w_1058) kk_X3_fails rfl (List.forall_mem_nil _) hLb ⟨Nat.le_of_ble_eq_true rfl, Nat.le_of_ble_eq_true rfl⟩ ⟨Nat.le_of_ble_eq_true rfl, Nat.le_of_ble_eq_true rfl⟩ hV hS hl.1 rfl rfl (Nat.le_of_ble_eq_true rfl) dX3_withDay_61 (fun q_4 H locs hV hS hz hq => ?_)
        have hP_2 := hP_2.up hq
        refine lv_if_eq (tgt := 71) hx hb dX3_withDay_64 (by decide) (fun h_5 => ?_) (fun h_5 => ?_)
        · have hm := (if_pos h_5).symm.trans hm
          refine lv_aload_n hx hb dX3_withDay_71 rfl (lv_at hl 1 rfl) ?_
          refine lv_iload_n hx hb dX3_withDay_72 rfl (lv_at hl 2 rfl) ?_
          have hLn_5 := m_hLn hLb hS
          have hL9 := hS.2
          have hV_5 := hV
          have hs_5 := hS.1.1
          have hP_2_5 := hP_2
          refine m_new2 hx hb htg hown (htg _ w_991) (htg _ w_993) (htg _ w_28) hGx hS.1 ⟨Nat.le_of_ble_eq_true rfl, Nat.le_of_ble_eq_true rfl⟩ dX3_withDay_73 (fun a_5 H hn_5 hz_5 hN_5 hq hS => ?_)
          have hS : mS b s.heap H _ := ⟨hS, hL9⟩
          have hV := hV.up hq
          have hq_5 := hq
          have hP_2 := hP_2.up (fun x h9 _ => hq x h9)
          refine lv_dup hx hb dX3_withDay_76 rfl ?_
          refine lv_aload_n hx hb dX3_withDay_77 rfl (lv_at hl 0 rfl) ?_
          refine va_get (D := kD k) (ci := 4) (v := .int ((x_1.2.2.1 p0.toNatClampNeg).1)) (C := RX2) (T := TX2) (N := 3) hx hb htg inG_X2 hown hGx.1 hP_2.1 0 rfl rfl 0 (by decide) (htg _ w_999) (fun _ h9 => h9) rfl dX3_withDay_78 ?_
          refine lv_aload_n hx hb dX3_withDay_81 rfl (lv_at hl 0 rfl) ?_
          refine va_get (D := kD k) (ci := 4) (v := .int ((x_1.2.2.1 p0.toNatClampNeg).2.1)) (C := RX2) (T := TX2) (N := 3) hx hb htg inG_X2 hown hGx.1 hP_2.1 0 rfl rfl 1 (by decide) (htg _ w_1001) (fun _ h9 => h9) rfl dX3_withDay_82 ?_
          refine lv_iload_n hx hb dX3_withDay_85 rfl (lv_at hl 3 rfl) ?_
          have hL9 := hS.2
          refine q_init (v := ((x_1.2.2.1 p0.toNatClampNeg).1, (x_1.2.2.1 p0.toNatClampNeg).2.1, p1)) hC hGx (gC w_996) (htg _ w_994) (htg _ w_28) (htg _ w_995) hN_5 (Nat.le_trans hs_5 hn_5) ⟨Nat.le_of_ble_eq_true rfl, Nat.le_of_ble_eq_true rfl⟩ ⟨Nat.le_of_ble_eq_true rfl, Nat.le_of_ble_eq_true rfl⟩ hS.1 hA hAB hl.1 rfl (Nat.le_of_ble_eq_true rfl) dX3_withDay_86 (fun H hP_5 hz9 hq9 hS => ?_)
          have hq := m_q2 hn_5 hz_5 hq_5 hq9
          have hS : mS b s.heap H _ := ⟨hS, hL9⟩
          have hV := hV_5.up hq
          have hP_5 := dF.made hLn_5 hn_5 hP_5
          have hn_5 := Nat.le_trans hs_5 hn_5
          have hP_2 := hP_2_5.up (fun x h9 _ => hq x h9)
          obtain ⟨x_6, hx_6, hm⟩ := Option.bind_eq_some_iff.mp hm
          refine mc_V hC hGx hD (k_X3_gives l k b L hD p0 ((x_1.2.2.1 p0.toNatClampNeg).1, (x_1.2.2.1 p0.toNatClampNeg).2.1, p1) a_5 x_4.2 hx_6) (gV w_1059 w_1060 w_19 w_27 w_1061) kk_X3_gives rfl (List.forall_mem_cons.mpr ⟨hP_5, (List.forall_mem_nil _)⟩) hLb ⟨Nat.le_of_ble_eq_true rfl, Nat.le_of_ble_eq_true rfl⟩ ⟨Nat.le_of_ble_eq_true rfl, Nat.le_of_ble_eq_true rfl⟩ hV hS hl.1 rfl rfl (Nat.le_of_ble_eq_true rfl) dX3_withDay_89 (fun q_6 H locs hV hS hz hq => ?_)
          have hP_2 := hP_2.up hq
          exact m_iret hx hb hr hlocks (Option.some.inj hm) hV hS ⟨Nat.le_of_ble_eq_true rfl, Nat.le_of_ble_eq_true rfl⟩ dX3_withDay_92
        · have hm := (if_neg h_5).symm.trans hm
          refine lv_iconst (v := 0) hx hb dX3_withDay_67 (by decide) ?_
          refine lv_goto (tgt := 92) hx hb dX3_withDay_68 (by decide) ?_
          exact m_iret hx hb hr hlocks (Option.some.inj hm) hV hS ⟨Nat.le_of_ble_eq_true rfl, Nat.le_of_ble_eq_true rfl⟩ dX3_withDay_92
      · have hm := (if_neg h_4).symm.trans hm
        refine lv_iconst (v := 1) hx hb dX3_withDay_56 (by decide) ?_
        refine lv_goto (tgt := 61) hx hb dX3_withDay_57 (by decide) ?_
        obtain ⟨x_7, hx_7, hm⟩ := Option.bind_eq_some_iff.mp hm
        refine mc_V hC hGx hD (k_X3_fails l k b L hD (0 : Int32) (0 : Int32) (1 : Int32)  x_1.2 hx_7) (gV w_1056 w_1057 w_18 w_27 w_1058) kk_X3_fails rfl (List.forall_mem_nil _) hLb ⟨Nat.le_of_ble_eq_true rfl, Nat.le_of_ble_eq_true rfl⟩ ⟨Nat.le_of_ble_eq_true rfl, Nat.le_of_ble_eq_true rfl⟩ hV hS hl.1 rfl rfl (Nat.le_of_ble_eq_true rfl) dX3_withDay_61 (fun q_7 H locs hV hS hz hq => ?_)
        have hP_2 := hP_2.up hq
        refine lv_if_eq (tgt := 71) hx hb dX3_withDay_64 (by decide) (fun h_6 => ?_) (fun h_6 => ?_)
        · have hm := (if_pos h_6).symm.trans hm
          refine lv_aload_n hx hb dX3_withDay_71 rfl (lv_at hl 1 rfl) ?_
          refine lv_iload_n hx hb dX3_withDay_72 rfl (lv_at hl 2 rfl) ?_
          have hLn_8 := m_hLn hLb hS
          have hL9 := hS.2
          have hV_8 := hV
          have hs_8 := hS.1.1
          have hP_2_8 := hP_2
          refine m_new2 hx hb htg hown (htg _ w_991) (htg _ w_993) (htg _ w_28) hGx hS.1 ⟨Nat.le_of_ble_eq_true rfl, Nat.le_of_ble_eq_true rfl⟩ dX3_withDay_73 (fun a_8 H hn_8 hz_8 hN_8 hq hS => ?_)
          have hS : mS b s.heap H _ := ⟨hS, hL9⟩
          have hV := hV.up hq
          have hq_8 := hq
          have hP_2 := hP_2.up (fun x h9 _ => hq x h9)
          refine lv_dup hx hb dX3_withDay_76 rfl ?_
          refine lv_aload_n hx hb dX3_withDay_77 rfl (lv_at hl 0 rfl) ?_
          refine va_get (D := kD k) (ci := 4) (v := .int ((x_1.2.2.1 p0.toNatClampNeg).1)) (C := RX2) (T := TX2) (N := 3) hx hb htg inG_X2 hown hGx.1 hP_2.1 0 rfl rfl 0 (by decide) (htg _ w_999) (fun _ h9 => h9) rfl dX3_withDay_78 ?_
          refine lv_aload_n hx hb dX3_withDay_81 rfl (lv_at hl 0 rfl) ?_
          refine va_get (D := kD k) (ci := 4) (v := .int ((x_1.2.2.1 p0.toNatClampNeg).2.1)) (C := RX2) (T := TX2) (N := 3) hx hb htg inG_X2 hown hGx.1 hP_2.1 0 rfl rfl 1 (by decide) (htg _ w_1001) (fun _ h9 => h9) rfl dX3_withDay_82 ?_
          refine lv_iload_n hx hb dX3_withDay_85 rfl (lv_at hl 3 rfl) ?_
          have hL9 := hS.2
          refine q_init (v := ((x_1.2.2.1 p0.toNatClampNeg).1, (x_1.2.2.1 p0.toNatClampNeg).2.1, p1)) hC hGx (gC w_996) (htg _ w_994) (htg _ w_28) (htg _ w_995) hN_8 (Nat.le_trans hs_8 hn_8) ⟨Nat.le_of_ble_eq_true rfl, Nat.le_of_ble_eq_true rfl⟩ ⟨Nat.le_of_ble_eq_true rfl, Nat.le_of_ble_eq_true rfl⟩ hS.1 hA hAB hl.1 rfl (Nat.le_of_ble_eq_true rfl) dX3_withDay_86 (fun H hP_8 hz9 hq9 hS => ?_)
          have hq := m_q2 hn_8 hz_8 hq_8 hq9
          have hS : mS b s.heap H _ := ⟨hS, hL9⟩
          have hV := hV_8.up hq
          have hP_8 := dF.made hLn_8 hn_8 hP_8
          have hn_8 := Nat.le_trans hs_8 hn_8
          have hP_2 := hP_2_8.up (fun x h9 _ => hq x h9)
          obtain ⟨x_9, hx_9, hm⟩ := Option.bind_eq_some_iff.mp hm
          refine mc_V hC hGx hD (k_X3_gives l k b L hD p0 ((x_1.2.2.1 p0.toNatClampNeg).1, (x_1.2.2.1 p0.toNatClampNeg).2.1, p1) a_8 x_7.2 hx_9) (gV w_1059 w_1060 w_19 w_27 w_1061) kk_X3_gives rfl (List.forall_mem_cons.mpr ⟨hP_8, (List.forall_mem_nil _)⟩) hLb ⟨Nat.le_of_ble_eq_true rfl, Nat.le_of_ble_eq_true rfl⟩ ⟨Nat.le_of_ble_eq_true rfl, Nat.le_of_ble_eq_true rfl⟩ hV hS hl.1 rfl rfl (Nat.le_of_ble_eq_true rfl) dX3_withDay_89 (fun q_9 H locs hV hS hz hq => ?_)
          have hP_2 := hP_2.up hq
          exact m_iret hx hb hr hlocks (Option.some.inj hm) hV hS ⟨Nat.le_of_ble_eq_true rfl, Nat.le_of_ble_eq_true rfl⟩ dX3_withDay_92
        · have hm := (if_neg h_6).symm.trans hm
          refine lv_iconst (v := 0) hx hb dX3_withDay_67 (by decide) ?_
          refine lv_goto (tgt := 92) hx hb dX3_withDay_68 (by decide) ?_
          exact m_iret hx hb hr hlocks (Option.some.inj hm) hV hS ⟨Nat.le_of_ble_eq_true rfl, Nat.le_of_ble_eq_true rfl⟩ dX3_withDay_92
    · have hm := (if_neg h_2).symm.trans hm
      refine lv_iconst (v := 0) hx hb dX3_withDay_29 (by decide) ?_
      exact m_iret hx hb hr hlocks (Option.some.inj hm) hV hS ⟨Nat.le_of_ble_eq_true rfl, Nat.le_of_ble_eq_true rfl⟩ dX3_withDay_30
  · have hm := (if_pos h_1).symm.trans hm
    refine lv_iconst (v := 1) hx hb dX3_withDay_17 (by decide) ?_
    refine lv_goto (tgt := 22) hx hb dX3_withDay_18 (by decide) ?_
    refine lv_iconst (v := 0) hx hb dX3_withDay_22 (by decide) ?_
    obtain ⟨x_10, hx_10, hm⟩ := Option.bind_eq_some_iff.mp hm
    refine mc_V hC hGx hD (k_X3_fails l k b L hD (m_X3_isNo p0) (1 : Int32) (0 : Int32)  z hx_10) (gV w_1056 w_1057 w_18 w_27 w_1058) kk_X3_fails rfl (List.forall_mem_nil _) hLb ⟨Nat.le_of_ble_eq_true rfl, Nat.le_of_ble_eq_true rfl⟩ ⟨Nat.le_of_ble_eq_true rfl, Nat.le_of_ble_eq_true rfl⟩ hV hS hl.1 rfl rfl (Nat.le_of_ble_eq_true rfl) dX3_withDay_23 (fun q_10 H locs hV hS hz hq => ?_)
    refine lv_if_eq (tgt := 31) hx hb dX3_withDay_26 (by decide) (fun h_7 => ?_) (fun h_7 => ?_)
    · have hm := (if_pos h_7).symm.trans hm
      refine lv_aload_n hx hb dX3_withDay_31 rfl (lv_at hl 0 rfl) ?_
      refine va_get (D := kD k) (ci := 5) (v := .ref b.2.1) (C := RX3) (T := TX3) (N := 5) hx hb htg inG_X3 hown hGx.1 hV.1 0 rfl rfl 1 (by decide) (htg _ w_1012) (fun _ h9 => h9) rfl dX3_withDay_32 ?_
      refine lv_iload_n hx hb dX3_withDay_35 rfl (lv_at hl 1 rfl) ?_
      by_cases h_8 : p0 < 0 ∨ 6 ≤ p0.toNatClampNeg
      · have hm := (if_pos h_8).symm.trans hm
        cases hm
      have hm := (if_neg h_8).symm.trans hm
      refine m_ald hx hb hGx hV h_8 dX3_withDay_36 (fun hP_11 => ?_)
      refine lv_astore_n (lv' := [(3, .ref (q_10 p0.toNatClampNeg)), (0, .ref b.1), (1, .int p0), (2, .int p1)]) hx hb dX3_withDay_37 rfl hl (by decide) rfl (fun ls hl => ?_)
      refine lv_aload_n hx hb dX3_withDay_38 rfl (lv_at hl 1 rfl) ?_
      refine lv_iconst (v := 0) hx hb dX3_withDay_39 (by decide) ?_
      refine lv_iconst (v := 0) hx hb dX3_withDay_40 (by decide) ?_
      refine lv_iload_n hx hb dX3_withDay_41 rfl (lv_at hl 3 rfl) ?_
      refine lv_aload_n hx hb dX3_withDay_42 rfl (lv_at hl 0 rfl) ?_
      refine va_get (D := kD k) (ci := 4) (v := .int ((x_10.2.2.1 p0.toNatClampNeg).1)) (C := RX2) (T := TX2) (N := 3) hx hb htg inG_X2 hown hGx.1 hP_11.1 0 rfl rfl 0 (by decide) (htg _ w_999) (fun _ h9 => h9) rfl dX3_withDay_43 ?_
      refine lv_aload_n hx hb dX3_withDay_46 rfl (lv_at hl 0 rfl) ?_
      refine va_get (D := kD k) (ci := 4) (v := .int ((x_10.2.2.1 p0.toNatClampNeg).2.1)) (C := RX2) (T := TX2) (N := 3) hx hb htg inG_X2 hown hGx.1 hP_11.1 0 rfl rfl 1 (by decide) (htg _ w_1001) (fun _ h9 => h9) rfl dX3_withDay_47 ?_
      obtain ⟨x_12, hx_12, hm⟩ := Option.bind_eq_some_iff.mp hm
      have hs_12 := hS.1.1
      have hLn_12 := m_hLn hLb hS
      have hL9 := hS.2
      refine qc_S hC hGx (k_X3_lengthOf_ l k ((x_10.2.2.1 p0.toNatClampNeg).1) ((x_10.2.2.1 p0.toNatClampNeg).2.1)  hx_12) (gS w_1049 w_1050 w_27 w_1051) kk_X3_lengthOf_ (List.forall_mem_nil _) ⟨Nat.le_of_ble_eq_true rfl, Nat.le_of_ble_eq_true rfl⟩ ⟨Nat.le_of_ble_eq_true rfl, Nat.le_of_ble_eq_true rfl⟩ hS.1 hA hAB hl.1 rfl rfl (Nat.le_of_ble_eq_true rfl) dX3_withDay_50 (fun v_12 H hv hz hq hS => ?_)
      have hS : mS b s.heap H _ := ⟨hS, hL9⟩
      have hV := hV.up hq
      have hP_11 := hP_11.up (fun x h9 _ => hq x h9)
      have hv : v_12 = some (.int x_12) := hv
      subst hv
      refine lv_icmp_le (tgt := 60) hx hb dX3_withDay_53 (by decide) (fun h_9 => ?_) (fun h_9 => ?_)
      · have hm := (if_pos h_9).symm.trans hm
        refine lv_iconst (v := 0) hx hb dX3_withDay_60 (by decide) ?_
        obtain ⟨x_13, hx_13, hm⟩ := Option.bind_eq_some_iff.mp hm
        refine mc_V hC hGx hD (k_X3_fails l k b L hD (0 : Int32) (0 : Int32) (0 : Int32)  x_10.2 hx_13) (gV w_1056 w_1057 w_18 w_27 w_1058) kk_X3_fails rfl (List.forall_mem_nil _) hLb ⟨Nat.le_of_ble_eq_true rfl, Nat.le_of_ble_eq_true rfl⟩ ⟨Nat.le_of_ble_eq_true rfl, Nat.le_of_ble_eq_true rfl⟩ hV hS hl.1 rfl rfl (Nat.le_of_ble_eq_true rfl) dX3_withDay_61 (fun q_13 H locs hV hS hz hq => ?_)
        have hP_11 := hP_11.up hq
        refine lv_if_eq (tgt := 71) hx hb dX3_withDay_64 (by decide) (fun h_10 => ?_) (fun h_10 => ?_)
        · have hm := (if_pos h_10).symm.trans hm
          refine lv_aload_n hx hb dX3_withDay_71 rfl (lv_at hl 1 rfl) ?_
          refine lv_iload_n hx hb dX3_withDay_72 rfl (lv_at hl 2 rfl) ?_
          have hLn_14 := m_hLn hLb hS
          have hL9 := hS.2
          have hV_14 := hV
          have hs_14 := hS.1.1
          have hP_11_14 := hP_11
          refine m_new2 hx hb htg hown (htg _ w_991) (htg _ w_993) (htg _ w_28) hGx hS.1 ⟨Nat.le_of_ble_eq_true rfl, Nat.le_of_ble_eq_true rfl⟩ dX3_withDay_73 (fun a_14 H hn_14 hz_14 hN_14 hq hS => ?_)
          have hS : mS b s.heap H _ := ⟨hS, hL9⟩
          have hV := hV.up hq
          have hq_14 := hq
          have hP_11 := hP_11.up (fun x h9 _ => hq x h9)
          refine lv_dup hx hb dX3_withDay_76 rfl ?_
          refine lv_aload_n hx hb dX3_withDay_77 rfl (lv_at hl 0 rfl) ?_
          refine va_get (D := kD k) (ci := 4) (v := .int ((x_10.2.2.1 p0.toNatClampNeg).1)) (C := RX2) (T := TX2) (N := 3) hx hb htg inG_X2 hown hGx.1 hP_11.1 0 rfl rfl 0 (by decide) (htg _ w_999) (fun _ h9 => h9) rfl dX3_withDay_78 ?_
          refine lv_aload_n hx hb dX3_withDay_81 rfl (lv_at hl 0 rfl) ?_
          refine va_get (D := kD k) (ci := 4) (v := .int ((x_10.2.2.1 p0.toNatClampNeg).2.1)) (C := RX2) (T := TX2) (N := 3) hx hb htg inG_X2 hown hGx.1 hP_11.1 0 rfl rfl 1 (by decide) (htg _ w_1001) (fun _ h9 => h9) rfl dX3_withDay_82 ?_
          refine lv_iload_n hx hb dX3_withDay_85 rfl (lv_at hl 3 rfl) ?_
          have hL9 := hS.2
          refine q_init (v := ((x_10.2.2.1 p0.toNatClampNeg).1, (x_10.2.2.1 p0.toNatClampNeg).2.1, p1)) hC hGx (gC w_996) (htg _ w_994) (htg _ w_28) (htg _ w_995) hN_14 (Nat.le_trans hs_14 hn_14) ⟨Nat.le_of_ble_eq_true rfl, Nat.le_of_ble_eq_true rfl⟩ ⟨Nat.le_of_ble_eq_true rfl, Nat.le_of_ble_eq_true rfl⟩ hS.1 hA hAB hl.1 rfl (Nat.le_of_ble_eq_true rfl) dX3_withDay_86 (fun H hP_14 hz9 hq9 hS => ?_)
          have hq := m_q2 hn_14 hz_14 hq_14 hq9
          have hS : mS b s.heap H _ := ⟨hS, hL9⟩
          have hV := hV_14.up hq
          have hP_14 := dF.made hLn_14 hn_14 hP_14
          have hn_14 := Nat.le_trans hs_14 hn_14
          have hP_11 := hP_11_14.up (fun x h9 _ => hq x h9)
          obtain ⟨x_15, hx_15, hm⟩ := Option.bind_eq_some_iff.mp hm
          refine mc_V hC hGx hD (k_X3_gives l k b L hD p0 ((x_10.2.2.1 p0.toNatClampNeg).1, (x_10.2.2.1 p0.toNatClampNeg).2.1, p1) a_14 x_13.2 hx_15) (gV w_1059 w_1060 w_19 w_27 w_1061) kk_X3_gives rfl (List.forall_mem_cons.mpr ⟨hP_14, (List.forall_mem_nil _)⟩) hLb ⟨Nat.le_of_ble_eq_true rfl, Nat.le_of_ble_eq_true rfl⟩ ⟨Nat.le_of_ble_eq_true rfl, Nat.le_of_ble_eq_true rfl⟩ hV hS hl.1 rfl rfl (Nat.le_of_ble_eq_true rfl) dX3_withDay_89 (fun q_15 H locs hV hS hz hq => ?_)
          have hP_11 := hP_11.up hq
          exact m_iret hx hb hr hlocks (Option.some.inj hm) hV hS ⟨Nat.le_of_ble_eq_true rfl, Nat.le_of_ble_eq_true rfl⟩ dX3_withDay_92
        · have hm := (if_neg h_10).symm.trans hm
          refine lv_iconst (v := 0) hx hb dX3_withDay_67 (by decide) ?_
          refine lv_goto (tgt := 92) hx hb dX3_withDay_68 (by decide) ?_
          exact m_iret hx hb hr hlocks (Option.some.inj hm) hV hS ⟨Nat.le_of_ble_eq_true rfl, Nat.le_of_ble_eq_true rfl⟩ dX3_withDay_92
      · have hm := (if_neg h_9).symm.trans hm
        refine lv_iconst (v := 1) hx hb dX3_withDay_56 (by decide) ?_
        refine lv_goto (tgt := 61) hx hb dX3_withDay_57 (by decide) ?_
        obtain ⟨x_16, hx_16, hm⟩ := Option.bind_eq_some_iff.mp hm
        refine mc_V hC hGx hD (k_X3_fails l k b L hD (0 : Int32) (0 : Int32) (1 : Int32)  x_10.2 hx_16) (gV w_1056 w_1057 w_18 w_27 w_1058) kk_X3_fails rfl (List.forall_mem_nil _) hLb ⟨Nat.le_of_ble_eq_true rfl, Nat.le_of_ble_eq_true rfl⟩ ⟨Nat.le_of_ble_eq_true rfl, Nat.le_of_ble_eq_true rfl⟩ hV hS hl.1 rfl rfl (Nat.le_of_ble_eq_true rfl) dX3_withDay_61 (fun q_16 H locs hV hS hz hq => ?_)
        have hP_11 := hP_11.up hq
        refine lv_if_eq (tgt := 71) hx hb dX3_withDay_64 (by decide) (fun h_11 => ?_) (fun h_11 => ?_)
        · have hm := (if_pos h_11).symm.trans hm
          refine lv_aload_n hx hb dX3_withDay_71 rfl (lv_at hl 1 rfl) ?_
          refine lv_iload_n hx hb dX3_withDay_72 rfl (lv_at hl 2 rfl) ?_
          have hLn_17 := m_hLn hLb hS
          have hL9 := hS.2
          have hV_17 := hV
          have hs_17 := hS.1.1
          have hP_11_17 := hP_11
          refine m_new2 hx hb htg hown (htg _ w_991) (htg _ w_993) (htg _ w_28) hGx hS.1 ⟨Nat.le_of_ble_eq_true rfl, Nat.le_of_ble_eq_true rfl⟩ dX3_withDay_73 (fun a_17 H hn_17 hz_17 hN_17 hq hS => ?_)
          have hS : mS b s.heap H _ := ⟨hS, hL9⟩
          have hV := hV.up hq
          have hq_17 := hq
          have hP_11 := hP_11.up (fun x h9 _ => hq x h9)
          refine lv_dup hx hb dX3_withDay_76 rfl ?_
          refine lv_aload_n hx hb dX3_withDay_77 rfl (lv_at hl 0 rfl) ?_
          refine va_get (D := kD k) (ci := 4) (v := .int ((x_10.2.2.1 p0.toNatClampNeg).1)) (C := RX2) (T := TX2) (N := 3) hx hb htg inG_X2 hown hGx.1 hP_11.1 0 rfl rfl 0 (by decide) (htg _ w_999) (fun _ h9 => h9) rfl dX3_withDay_78 ?_
          refine lv_aload_n hx hb dX3_withDay_81 rfl (lv_at hl 0 rfl) ?_
          refine va_get (D := kD k) (ci := 4) (v := .int ((x_10.2.2.1 p0.toNatClampNeg).2.1)) (C := RX2) (T := TX2) (N := 3) hx hb htg inG_X2 hown hGx.1 hP_11.1 0 rfl rfl 1 (by decide) (htg _ w_1001) (fun _ h9 => h9) rfl dX3_withDay_82 ?_
          refine lv_iload_n hx hb dX3_withDay_85 rfl (lv_at hl 3 rfl) ?_
          have hL9 := hS.2
          refine q_init (v := ((x_10.2.2.1 p0.toNatClampNeg).1, (x_10.2.2.1 p0.toNatClampNeg).2.1, p1)) hC hGx (gC w_996) (htg _ w_994) (htg _ w_28) (htg _ w_995) hN_17 (Nat.le_trans hs_17 hn_17) ⟨Nat.le_of_ble_eq_true rfl, Nat.le_of_ble_eq_true rfl⟩ ⟨Nat.le_of_ble_eq_true rfl, Nat.le_of_ble_eq_true rfl⟩ hS.1 hA hAB hl.1 rfl (Nat.le_of_ble_eq_true rfl) dX3_withDay_86 (fun H hP_17 hz9 hq9 hS => ?_)
          have hq := m_q2 hn_17 hz_17 hq_17 hq9
          have hS : mS b s.heap H _ := ⟨hS, hL9⟩
          have hV := hV_17.up hq
          have hP_17 := dF.made hLn_17 hn_17 hP_17
          have hn_17 := Nat.le_trans hs_17 hn_17
          have hP_11 := hP_11_17.up (fun x h9 _ => hq x h9)
          obtain ⟨x_18, hx_18, hm⟩ := Option.bind_eq_some_iff.mp hm
          refine mc_V hC hGx hD (k_X3_gives l k b L hD p0 ((x_10.2.2.1 p0.toNatClampNeg).1, (x_10.2.2.1 p0.toNatClampNeg).2.1, p1) a_17 x_16.2 hx_18) (gV w_1059 w_1060 w_19 w_27 w_1061) kk_X3_gives rfl (List.forall_mem_cons.mpr ⟨hP_17, (List.forall_mem_nil _)⟩) hLb ⟨Nat.le_of_ble_eq_true rfl, Nat.le_of_ble_eq_true rfl⟩ ⟨Nat.le_of_ble_eq_true rfl, Nat.le_of_ble_eq_true rfl⟩ hV hS hl.1 rfl rfl (Nat.le_of_ble_eq_true rfl) dX3_withDay_89 (fun q_18 H locs hV hS hz hq => ?_)
          have hP_11 := hP_11.up hq
          exact m_iret hx hb hr hlocks (Option.some.inj hm) hV hS ⟨Nat.le_of_ble_eq_true rfl, Nat.le_of_ble_eq_true rfl⟩ dX3_withDay_92
        · have hm := (if_neg h_11).symm.trans hm
          refine lv_iconst (v := 0) hx hb dX3_withDay_67 (by decide) ?_
          refine lv_goto (tgt := 92) hx hb dX3_withDay_68 (by decide) ?_
          exact m_iret hx hb hr hlocks (Option.some.inj hm) hV hS ⟨Nat.le_of_ble_eq_true rfl, Nat.le_of_ble_eq_true rfl⟩ dX3_withDay_92
    · have hm := (if_neg h_7).symm.trans hm
      refine lv_iconst (v := 0) hx hb dX3_withDay_29 (by decide) ?_
      exact m_iret hx hb hr hlocks (Option.some.inj hm) hV hS ⟨Nat.le_of_ble_eq_true rfl, Nat.le_of_ble_eq_true rfl⟩ dX3_withDay_30
def o_X3_withDayOfYear (p0 : Int32) (p1 : Int32) (z : MS) : Option (Int32 × MS) := (if m_X3_isIn p1.toInt64 (1 : Int64) (366 : Int64) = 0 then ((o_X3_fails (m_X3_isNo p0) (1 : Int32) (0 : Int32) z).bind fun x_9 => (if x_9.1 = 0 then (if p0 < 0 ∨ 6 ≤ p0.toNatClampNeg then none else (if p1 ≤ m_X3_lengthOf ((x_9.2.2.1 p0.toNatClampNeg).1) then ((o_X3_fails (0 : Int32) (0 : Int32) (0 : Int32) x_9.2).bind fun x_11 => (if x_11.1 = 0 then ((o_X3_ofYearAndDay ((x_9.2.2.1 p0.toNatClampNeg).1) p1).bind fun x_12 => ((o_X3_gives p0 x_12 x_11.2).bind fun x_13 => some (x_13.1, x_13.2))) else some ((0 : Int32), x_11.2))) else ((o_X3_fails (0 : Int32) (0 : Int32) (1 : Int32) x_9.2).bind fun x_14 => (if x_14.1 = 0 then ((o_X3_ofYearAndDay ((x_9.2.2.1 p0.toNatClampNeg).1) p1).bind fun x_15 => ((o_X3_gives p0 x_15 x_14.2).bind fun x_16 => some (x_16.1, x_16.2))) else some ((0 : Int32), x_14.2))))) else some ((0 : Int32), x_9.2))) else ((o_X3_fails (m_X3_isNo p0) (0 : Int32) (0 : Int32) z).bind fun x_1 => (if x_1.1 = 0 then (if p0 < 0 ∨ 6 ≤ p0.toNatClampNeg then none else (if p1 ≤ m_X3_lengthOf ((x_1.2.2.1 p0.toNatClampNeg).1) then ((o_X3_fails (0 : Int32) (0 : Int32) (0 : Int32) x_1.2).bind fun x_3 => (if x_3.1 = 0 then ((o_X3_ofYearAndDay ((x_1.2.2.1 p0.toNatClampNeg).1) p1).bind fun x_4 => ((o_X3_gives p0 x_4 x_3.2).bind fun x_5 => some (x_5.1, x_5.2))) else some ((0 : Int32), x_3.2))) else ((o_X3_fails (0 : Int32) (0 : Int32) (1 : Int32) x_1.2).bind fun x_6 => (if x_6.1 = 0 then ((o_X3_ofYearAndDay ((x_1.2.2.1 p0.toNatClampNeg).1) p1).bind fun x_7 => ((o_X3_gives p0 x_7 x_6.2).bind fun x_8 => some (x_8.1, x_8.2))) else some ((0 : Int32), x_6.2))))) else some ((0 : Int32), x_1.2))))
theorem kk_X3_withDayOfYear : pK yX3_withDayOfYear wsX3_withDayOfYear cX3_withDayOfYear 4 (some .int) 2 := ⟨⟨_, rfl⟩, by decide +kernel, by decide +kernel, by decide +kernel⟩
set_option maxRecDepth 100000 in
set_option maxHeartbeats 4000000 in
theorem k_X3_withDayOfYear (l : Launch) (k : Kx) (b : CA) (L : List Nat) (hD : mD k b L) (p0 : Int32) (p1 : Int32) (z : MS) {r : (Int32 × MS)} (hm : o_X3_withDayOfYear p0 p1 z = some r) : mM l k b L yX3_withDayOfYear wsX3_withDayOfYear 5 108 1 3 [.int p0, .int p1] [] z (some (.int r.1)) r.2 := by
  intro sz q
  refine Met.ofW (cc := cX3_withDayOfYear) (maxL := 4) (ret := (some .int)) (by decide) rfl ?_
  intro p e s m args below meth c s₁ B hml hv
  obtain ⟨rfl, rfl, hGx, hV, hLb, hds⟩ := hv
  have hx := B.exec
  have hb := B.bytes
  have hr := B.returns
  have hts := atoms_spec (ws := wsX3_withDayOfYear) B.pre
  have hown : s.vm.findClass RX3 = some m.cls := findClass_of_methodNamed B.named
  have hlocks := B.notSynchronized
  have htg : ∀ w ∈ GL, w.before _ s = true := fun w h => hts w (List.mem_cons_of_mem _ h)
  have hC : CallFix p m c cX3_withDayOfYear 4 s _ wsX3_withDayOfYear RX3 := ⟨hx, hb, hml, hown, hts⟩
  have hA : ∀ q, s.heap.size ≤ q → cA b s.heap.size q := fun q h => cA.new q h
  have hAB : ∀ q, cA b s.heap.size q → kB k ≤ q := hD.high hGx.2.1
  have hS : mS b s.heap s.heap [] := mS.rf
  have hl := lv_entry ([.ref b.1, .int p0, .int p1]) (n := 4) (Nat.le_of_ble_eq_true rfl)
  rw [lg_entry_eq]
  generalize (lg_sl ([.ref b.1, .int p0, .int p1]) ++ List.replicate (4 - (lg_sl ([.ref b.1, .int p0, .int p1])).length) Slot.unset).toArray = ls at hl ⊢
  have hl : lv_has ls 4 [(0, .ref b.1), (1, .int p0), (2, .int p1)] := hl
  refine lv_aload_n hx hb dX3_withDayOfYear_0 rfl (lv_at hl 0 rfl) ?_
  refine lv_iload_n hx hb dX3_withDayOfYear_1 rfl (lv_at hl 1 rfl) ?_
  refine pc_S hC (c_X3_isNo l p0) (gS w_1045 w_1046 w_27 w_1047) kk_X3_isNo ⟨Nat.le_of_ble_eq_true rfl, Nat.le_of_ble_eq_true rfl⟩ ⟨Nat.le_of_ble_eq_true rfl, Nat.le_of_ble_eq_true rfl⟩ hl.1 rfl rfl (Nat.le_of_ble_eq_true rfl) dX3_withDayOfYear_2 ?_
  refine lv_iload_n hx hb dX3_withDayOfYear_5 rfl (lv_at hl 2 rfl) ?_
  refine lv_i2l hx hb dX3_withDayOfYear_6 rfl ?_
  refine lv_lconst (v := 1) hx hb dX3_withDayOfYear_7 (by decide) ?_
  refine lv_ldc2 hx hb hown (htg _ w_1100) dX3_withDayOfYear_8 ?_
  refine pc_S hC (c_X3_isIn l p1.toInt64 (1 : Int64) (366 : Int64)) (gS w_1040 w_1041 w_27 w_1042) kk_X3_isIn ⟨Nat.le_of_ble_eq_true rfl, Nat.le_of_ble_eq_true rfl⟩ ⟨Nat.le_of_ble_eq_true rfl, Nat.le_of_ble_eq_true rfl⟩ hl.1 rfl rfl (Nat.le_of_ble_eq_true rfl) dX3_withDayOfYear_11 ?_
  refine lv_if_ne (tgt := 21) hx hb dX3_withDayOfYear_14 (by decide) (fun h_1 => ?_) (fun h_1 => ?_)
  · have hm := (if_neg h_1).symm.trans hm
    refine lv_iconst (v := 0) hx hb dX3_withDayOfYear_21 (by decide) ?_
    refine lv_iconst (v := 0) hx hb dX3_withDayOfYear_22 (by decide) ?_
    obtain ⟨x_1, hx_1, hm⟩ := Option.bind_eq_some_iff.mp hm
    refine mc_V hC hGx hD (k_X3_fails l k b L hD (m_X3_isNo p0) (0 : Int32) (0 : Int32)  z hx_1) (gV w_1056 w_1057 w_18 w_27 w_1058) kk_X3_fails rfl (List.forall_mem_nil _) hLb ⟨Nat.le_of_ble_eq_true rfl, Nat.le_of_ble_eq_true rfl⟩ ⟨Nat.le_of_ble_eq_true rfl, Nat.le_of_ble_eq_true rfl⟩ hV hS hl.1 rfl rfl (Nat.le_of_ble_eq_true rfl) dX3_withDayOfYear_23 (fun q_1 H locs hV hS hz hq => ?_)
    refine lv_if_eq (tgt := 31) hx hb dX3_withDayOfYear_26 (by decide) (fun h_2 => ?_) (fun h_2 => ?_)
    · have hm := (if_pos h_2).symm.trans hm
      refine lv_aload_n hx hb dX3_withDayOfYear_31 rfl (lv_at hl 0 rfl) ?_
      refine va_get (D := kD k) (ci := 5) (v := .ref b.2.1) (C := RX3) (T := TX3) (N := 5) hx hb htg inG_X3 hown hGx.1 hV.1 0 rfl rfl 1 (by decide) (htg _ w_1012) (fun _ h9 => h9) rfl dX3_withDayOfYear_32 ?_
      refine lv_iload_n hx hb dX3_withDayOfYear_35 rfl (lv_at hl 1 rfl) ?_
      by_cases h_3 : p0 < 0 ∨ 6 ≤ p0.toNatClampNeg
      · have hm := (if_pos h_3).symm.trans hm
        cases hm
      have hm := (if_neg h_3).symm.trans hm
      refine m_ald hx hb hGx hV h_3 dX3_withDayOfYear_36 (fun hP_2 => ?_)
      refine lv_astore_n (lv' := [(3, .ref (q_1 p0.toNatClampNeg)), (0, .ref b.1), (1, .int p0), (2, .int p1)]) hx hb dX3_withDayOfYear_37 rfl hl (by decide) rfl (fun ls hl => ?_)
      refine lv_aload_n hx hb dX3_withDayOfYear_38 rfl (lv_at hl 1 rfl) ?_
      refine lv_iconst (v := 0) hx hb dX3_withDayOfYear_39 (by decide) ?_
      refine lv_iconst (v := 0) hx hb dX3_withDayOfYear_40 (by decide) ?_
      refine lv_iload_n hx hb dX3_withDayOfYear_41 rfl (lv_at hl 3 rfl) ?_
      refine lv_aload_n hx hb dX3_withDayOfYear_42 rfl (lv_at hl 0 rfl) ?_
      refine va_get (D := kD k) (ci := 4) (v := .int ((x_1.2.2.1 p0.toNatClampNeg).1)) (C := RX2) (T := TX2) (N := 3) hx hb htg inG_X2 hown hGx.1 hP_2.1 0 rfl rfl 0 (by decide) (htg _ w_999) (fun _ h9 => h9) rfl dX3_withDayOfYear_43 ?_
      refine pc_S hC (c_X3_lengthOf l ((x_1.2.2.1 p0.toNatClampNeg).1)) (gS w_1095 w_1071 w_27 w_1072) kk_X3_lengthOf ⟨Nat.le_of_ble_eq_true rfl, Nat.le_of_ble_eq_true rfl⟩ ⟨Nat.le_of_ble_eq_true rfl, Nat.le_of_ble_eq_true rfl⟩ hl.1 rfl rfl (Nat.le_of_ble_eq_true rfl) dX3_withDayOfYear_46 ?_
      refine lv_icmp_le (tgt := 56) hx hb dX3_withDayOfYear_49 (by decide) (fun h_4 => ?_) (fun h_4 => ?_)
      · have hm := (if_pos h_4).symm.trans hm
        refine lv_iconst (v := 0) hx hb dX3_withDayOfYear_56 (by decide) ?_
        obtain ⟨x_3, hx_3, hm⟩ := Option.bind_eq_some_iff.mp hm
        refine mc_V hC hGx hD (k_X3_fails l k b L hD (0 : Int32) (0 : Int32) (0 : Int32)  x_1.2 hx_3) (gV w_1056 w_1057 w_18 w_27 w_1058) kk_X3_fails rfl (List.forall_mem_nil _) hLb ⟨Nat.le_of_ble_eq_true rfl, Nat.le_of_ble_eq_true rfl⟩ ⟨Nat.le_of_ble_eq_true rfl, Nat.le_of_ble_eq_true rfl⟩ hV hS hl.1 rfl rfl (Nat.le_of_ble_eq_true rfl) dX3_withDayOfYear_57 (fun q_3 H locs hV hS hz hq => ?_)
        have hP_2 := hP_2.up hq
        refine lv_if_eq (tgt := 67) hx hb dX3_withDayOfYear_60 (by decide) (fun h_5 => ?_) (fun h_5 => ?_)
        · have hm := (if_pos h_5).symm.trans hm
          refine lv_aload_n hx hb dX3_withDayOfYear_67 rfl (lv_at hl 1 rfl) ?_
          refine lv_iload_n hx hb dX3_withDayOfYear_68 rfl (lv_at hl 2 rfl) ?_
          refine lv_aload_n hx hb dX3_withDayOfYear_69 rfl (lv_at hl 0 rfl) ?_
          refine va_get (D := kD k) (ci := 4) (v := .int ((x_1.2.2.1 p0.toNatClampNeg).1)) (C := RX2) (T := TX2) (N := 3) hx hb htg inG_X2 hown hGx.1 hP_2.1 0 rfl rfl 0 (by decide) (htg _ w_999) (fun _ h9 => h9) rfl dX3_withDayOfYear_70 ?_
          refine lv_iload_n hx hb dX3_withDayOfYear_73 rfl (lv_at hl 3 rfl) ?_
          obtain ⟨x_4, hx_4, hm⟩ := Option.bind_eq_some_iff.mp hm
          have hs_4 := hS.1.1
          have hLn_4 := m_hLn hLb hS
          have hL9 := hS.2
          refine qc_S hC hGx (k_X3_ofYearAndDay l k ((x_1.2.2.1 p0.toNatClampNeg).1) p1  hx_4) (gS w_1092 w_1093 w_27 w_1094) kk_X3_ofYearAndDay (List.forall_mem_nil _) ⟨Nat.le_of_ble_eq_true rfl, Nat.le_of_ble_eq_true rfl⟩ ⟨Nat.le_of_ble_eq_true rfl, Nat.le_of_ble_eq_true rfl⟩ hS.1 hA hAB hl.1 rfl rfl (Nat.le_of_ble_eq_true rfl) dX3_withDayOfYear_74 (fun v_4 H hv hz hq hS => ?_)
          have hS : mS b s.heap H _ := ⟨hS, hL9⟩
          have hV := hV.up hq
          have hP_2 := hP_2.up (fun x h9 _ => hq x h9)
          obtain ⟨a_4, rfl, hn_4, hP_4⟩ := hv
          have hP_4 := dF.made hLn_4 hn_4 hP_4
          have hn_4 := Nat.le_trans hs_4 hn_4
          obtain ⟨x_5, hx_5, hm⟩ := Option.bind_eq_some_iff.mp hm
          refine mc_V hC hGx hD (k_X3_gives l k b L hD p0 x_4 a_4 x_3.2 hx_5) (gV w_1059 w_1060 w_19 w_27 w_1061) kk_X3_gives rfl (List.forall_mem_cons.mpr ⟨hP_4, (List.forall_mem_nil _)⟩) hLb ⟨Nat.le_of_ble_eq_true rfl, Nat.le_of_ble_eq_true rfl⟩ ⟨Nat.le_of_ble_eq_true rfl, Nat.le_of_ble_eq_true rfl⟩ hV hS hl.1 rfl rfl (Nat.le_of_ble_eq_true rfl) dX3_withDayOfYear_77 (fun q_5 H locs hV hS hz hq => ?_)
          have hP_2 := hP_2.up hq
          exact m_iret hx hb hr hlocks (Option.some.inj hm) hV hS ⟨Nat.le_of_ble_eq_true rfl, Nat.le_of_ble_eq_true rfl⟩ dX3_withDayOfYear_80
        · have hm := (if_neg h_5).symm.trans hm
          refine lv_iconst (v := 0) hx hb dX3_withDayOfYear_63 (by decide) ?_
          refine lv_goto (tgt := 80) hx hb dX3_withDayOfYear_64 (by decide) ?_
          exact m_iret hx hb hr hlocks (Option.some.inj hm) hV hS ⟨Nat.le_of_ble_eq_true rfl, Nat.le_of_ble_eq_true rfl⟩ dX3_withDayOfYear_80
      · have hm := (if_neg h_4).symm.trans hm
        refine lv_iconst (v := 1) hx hb dX3_withDayOfYear_52 (by decide) ?_
        refine lv_goto (tgt := 57) hx hb dX3_withDayOfYear_53 (by decide) ?_
        obtain ⟨x_6, hx_6, hm⟩ := Option.bind_eq_some_iff.mp hm
        refine mc_V hC hGx hD (k_X3_fails l k b L hD (0 : Int32) (0 : Int32) (1 : Int32)  x_1.2 hx_6) (gV w_1056 w_1057 w_18 w_27 w_1058) kk_X3_fails rfl (List.forall_mem_nil _) hLb ⟨Nat.le_of_ble_eq_true rfl, Nat.le_of_ble_eq_true rfl⟩ ⟨Nat.le_of_ble_eq_true rfl, Nat.le_of_ble_eq_true rfl⟩ hV hS hl.1 rfl rfl (Nat.le_of_ble_eq_true rfl) dX3_withDayOfYear_57 (fun q_6 H locs hV hS hz hq => ?_)
        have hP_2 := hP_2.up hq
        refine lv_if_eq (tgt := 67) hx hb dX3_withDayOfYear_60 (by decide) (fun h_6 => ?_) (fun h_6 => ?_)
        · have hm := (if_pos h_6).symm.trans hm
          refine lv_aload_n hx hb dX3_withDayOfYear_67 rfl (lv_at hl 1 rfl) ?_
          refine lv_iload_n hx hb dX3_withDayOfYear_68 rfl (lv_at hl 2 rfl) ?_
          refine lv_aload_n hx hb dX3_withDayOfYear_69 rfl (lv_at hl 0 rfl) ?_
          refine va_get (D := kD k) (ci := 4) (v := .int ((x_1.2.2.1 p0.toNatClampNeg).1)) (C := RX2) (T := TX2) (N := 3) hx hb htg inG_X2 hown hGx.1 hP_2.1 0 rfl rfl 0 (by decide) (htg _ w_999) (fun _ h9 => h9) rfl dX3_withDayOfYear_70 ?_
          refine lv_iload_n hx hb dX3_withDayOfYear_73 rfl (lv_at hl 3 rfl) ?_
          obtain ⟨x_7, hx_7, hm⟩ := Option.bind_eq_some_iff.mp hm
          have hs_7 := hS.1.1
          have hLn_7 := m_hLn hLb hS
          have hL9 := hS.2
          refine qc_S hC hGx (k_X3_ofYearAndDay l k ((x_1.2.2.1 p0.toNatClampNeg).1) p1  hx_7) (gS w_1092 w_1093 w_27 w_1094) kk_X3_ofYearAndDay (List.forall_mem_nil _) ⟨Nat.le_of_ble_eq_true rfl, Nat.le_of_ble_eq_true rfl⟩ ⟨Nat.le_of_ble_eq_true rfl, Nat.le_of_ble_eq_true rfl⟩ hS.1 hA hAB hl.1 rfl rfl (Nat.le_of_ble_eq_true rfl) dX3_withDayOfYear_74 (fun v_7 H hv hz hq hS => ?_)
          have hS : mS b s.heap H _ := ⟨hS, hL9⟩
          have hV := hV.up hq
          have hP_2 := hP_2.up (fun x h9 _ => hq x h9)
          obtain ⟨a_7, rfl, hn_7, hP_7⟩ := hv
          have hP_7 := dF.made hLn_7 hn_7 hP_7
          have hn_7 := Nat.le_trans hs_7 hn_7
          obtain ⟨x_8, hx_8, hm⟩ := Option.bind_eq_some_iff.mp hm
          refine mc_V hC hGx hD (k_X3_gives l k b L hD p0 x_7 a_7 x_6.2 hx_8) (gV w_1059 w_1060 w_19 w_27 w_1061) kk_X3_gives rfl (List.forall_mem_cons.mpr ⟨hP_7, (List.forall_mem_nil _)⟩) hLb ⟨Nat.le_of_ble_eq_true rfl, Nat.le_of_ble_eq_true rfl⟩ ⟨Nat.le_of_ble_eq_true rfl, Nat.le_of_ble_eq_true rfl⟩ hV hS hl.1 rfl rfl (Nat.le_of_ble_eq_true rfl) dX3_withDayOfYear_77 (fun q_8 H locs hV hS hz hq => ?_)
          have hP_2 := hP_2.up hq
          exact m_iret hx hb hr hlocks (Option.some.inj hm) hV hS ⟨Nat.le_of_ble_eq_true rfl, Nat.le_of_ble_eq_true rfl⟩ dX3_withDayOfYear_80
        · have hm := (if_neg h_6).symm.trans hm
          refine lv_iconst (v := 0) hx hb dX3_withDayOfYear_63 (by decide) ?_
          refine lv_goto (tgt := 80) hx hb dX3_withDayOfYear_64 (by decide) ?_
          exact m_iret hx hb hr hlocks (Option.some.inj hm) hV hS ⟨Nat.le_of_ble_eq_true rfl, Nat.le_of_ble_eq_true rfl⟩ dX3_withDayOfYear_80
    · have hm := (if_neg h_2).symm.trans hm
      refine lv_iconst (v := 0) hx hb dX3_withDayOfYear_29 (by decide) ?_
      exact m_iret hx hb hr hlocks (Option.some.inj hm) hV hS ⟨Nat.le_of_ble_eq_true rfl, Nat.le_of_ble_eq_true rfl⟩ dX3_withDayOfYear_30
  · have hm := (if_pos h_1).symm.trans hm
    refine lv_iconst (v := 1) hx hb dX3_withDayOfYear_17 (by decide) ?_
    refine lv_goto (tgt := 22) hx hb dX3_withDayOfYear_18 (by decide) ?_
    refine lv_iconst (v := 0) hx hb dX3_withDayOfYear_22 (by decide) ?_
    obtain ⟨x_9, hx_9, hm⟩ := Option.bind_eq_some_iff.mp hm
    refine mc_V hC hGx hD (k_X3_fails l k b L hD (m_X3_isNo p0) (1 : Int32) (0 : Int32)  z hx_9) (gV w_1056 w_1057 w_18 w_27 w_1058) kk_X3_fails rfl (List.forall_mem_nil _) hLb ⟨Nat.le_of_ble_eq_true rfl, Nat.le_of_ble_eq_true rfl⟩ ⟨Nat.le_of_ble_eq_true rfl, Nat.le_of_ble_eq_true rfl⟩ hV hS hl.1 rfl rfl (Nat.le_of_ble_eq_true rfl) dX3_withDayOfYear_23 (fun q_9 H locs hV hS hz hq => ?_)
    refine lv_if_eq (tgt := 31) hx hb dX3_withDayOfYear_26 (by decide) (fun h_7 => ?_) (fun h_7 => ?_)
    · have hm := (if_pos h_7).symm.trans hm
      refine lv_aload_n hx hb dX3_withDayOfYear_31 rfl (lv_at hl 0 rfl) ?_
      refine va_get (D := kD k) (ci := 5) (v := .ref b.2.1) (C := RX3) (T := TX3) (N := 5) hx hb htg inG_X3 hown hGx.1 hV.1 0 rfl rfl 1 (by decide) (htg _ w_1012) (fun _ h9 => h9) rfl dX3_withDayOfYear_32 ?_
      refine lv_iload_n hx hb dX3_withDayOfYear_35 rfl (lv_at hl 1 rfl) ?_
      by_cases h_8 : p0 < 0 ∨ 6 ≤ p0.toNatClampNeg
      · have hm := (if_pos h_8).symm.trans hm
        cases hm
      have hm := (if_neg h_8).symm.trans hm
      refine m_ald hx hb hGx hV h_8 dX3_withDayOfYear_36 (fun hP_10 => ?_)
      refine lv_astore_n (lv' := [(3, .ref (q_9 p0.toNatClampNeg)), (0, .ref b.1), (1, .int p0), (2, .int p1)]) hx hb dX3_withDayOfYear_37 rfl hl (by decide) rfl (fun ls hl => ?_)
      refine lv_aload_n hx hb dX3_withDayOfYear_38 rfl (lv_at hl 1 rfl) ?_
      refine lv_iconst (v := 0) hx hb dX3_withDayOfYear_39 (by decide) ?_
      refine lv_iconst (v := 0) hx hb dX3_withDayOfYear_40 (by decide) ?_
      refine lv_iload_n hx hb dX3_withDayOfYear_41 rfl (lv_at hl 3 rfl) ?_
      refine lv_aload_n hx hb dX3_withDayOfYear_42 rfl (lv_at hl 0 rfl) ?_
      refine va_get (D := kD k) (ci := 4) (v := .int ((x_9.2.2.1 p0.toNatClampNeg).1)) (C := RX2) (T := TX2) (N := 3) hx hb htg inG_X2 hown hGx.1 hP_10.1 0 rfl rfl 0 (by decide) (htg _ w_999) (fun _ h9 => h9) rfl dX3_withDayOfYear_43 ?_
      refine pc_S hC (c_X3_lengthOf l ((x_9.2.2.1 p0.toNatClampNeg).1)) (gS w_1095 w_1071 w_27 w_1072) kk_X3_lengthOf ⟨Nat.le_of_ble_eq_true rfl, Nat.le_of_ble_eq_true rfl⟩ ⟨Nat.le_of_ble_eq_true rfl, Nat.le_of_ble_eq_true rfl⟩ hl.1 rfl rfl (Nat.le_of_ble_eq_true rfl) dX3_withDayOfYear_46 ?_
      refine lv_icmp_le (tgt := 56) hx hb dX3_withDayOfYear_49 (by decide) (fun h_9 => ?_) (fun h_9 => ?_)
      · have hm := (if_pos h_9).symm.trans hm
        refine lv_iconst (v := 0) hx hb dX3_withDayOfYear_56 (by decide) ?_
        obtain ⟨x_11, hx_11, hm⟩ := Option.bind_eq_some_iff.mp hm
        refine mc_V hC hGx hD (k_X3_fails l k b L hD (0 : Int32) (0 : Int32) (0 : Int32)  x_9.2 hx_11) (gV w_1056 w_1057 w_18 w_27 w_1058) kk_X3_fails rfl (List.forall_mem_nil _) hLb ⟨Nat.le_of_ble_eq_true rfl, Nat.le_of_ble_eq_true rfl⟩ ⟨Nat.le_of_ble_eq_true rfl, Nat.le_of_ble_eq_true rfl⟩ hV hS hl.1 rfl rfl (Nat.le_of_ble_eq_true rfl) dX3_withDayOfYear_57 (fun q_11 H locs hV hS hz hq => ?_)
        have hP_10 := hP_10.up hq
        refine lv_if_eq (tgt := 67) hx hb dX3_withDayOfYear_60 (by decide) (fun h_10 => ?_) (fun h_10 => ?_)
        · have hm := (if_pos h_10).symm.trans hm
          refine lv_aload_n hx hb dX3_withDayOfYear_67 rfl (lv_at hl 1 rfl) ?_
          refine lv_iload_n hx hb dX3_withDayOfYear_68 rfl (lv_at hl 2 rfl) ?_
          refine lv_aload_n hx hb dX3_withDayOfYear_69 rfl (lv_at hl 0 rfl) ?_
          refine va_get (D := kD k) (ci := 4) (v := .int ((x_9.2.2.1 p0.toNatClampNeg).1)) (C := RX2) (T := TX2) (N := 3) hx hb htg inG_X2 hown hGx.1 hP_10.1 0 rfl rfl 0 (by decide) (htg _ w_999) (fun _ h9 => h9) rfl dX3_withDayOfYear_70 ?_
          refine lv_iload_n hx hb dX3_withDayOfYear_73 rfl (lv_at hl 3 rfl) ?_
          obtain ⟨x_12, hx_12, hm⟩ := Option.bind_eq_some_iff.mp hm
          have hs_12 := hS.1.1
          have hLn_12 := m_hLn hLb hS
          have hL9 := hS.2
          refine qc_S hC hGx (k_X3_ofYearAndDay l k ((x_9.2.2.1 p0.toNatClampNeg).1) p1  hx_12) (gS w_1092 w_1093 w_27 w_1094) kk_X3_ofYearAndDay (List.forall_mem_nil _) ⟨Nat.le_of_ble_eq_true rfl, Nat.le_of_ble_eq_true rfl⟩ ⟨Nat.le_of_ble_eq_true rfl, Nat.le_of_ble_eq_true rfl⟩ hS.1 hA hAB hl.1 rfl rfl (Nat.le_of_ble_eq_true rfl) dX3_withDayOfYear_74 (fun v_12 H hv hz hq hS => ?_)
          have hS : mS b s.heap H _ := ⟨hS, hL9⟩
          have hV := hV.up hq
          have hP_10 := hP_10.up (fun x h9 _ => hq x h9)
          obtain ⟨a_12, rfl, hn_12, hP_12⟩ := hv
          have hP_12 := dF.made hLn_12 hn_12 hP_12
          have hn_12 := Nat.le_trans hs_12 hn_12
          obtain ⟨x_13, hx_13, hm⟩ := Option.bind_eq_some_iff.mp hm
          refine mc_V hC hGx hD (k_X3_gives l k b L hD p0 x_12 a_12 x_11.2 hx_13) (gV w_1059 w_1060 w_19 w_27 w_1061) kk_X3_gives rfl (List.forall_mem_cons.mpr ⟨hP_12, (List.forall_mem_nil _)⟩) hLb ⟨Nat.le_of_ble_eq_true rfl, Nat.le_of_ble_eq_true rfl⟩ ⟨Nat.le_of_ble_eq_true rfl, Nat.le_of_ble_eq_true rfl⟩ hV hS hl.1 rfl rfl (Nat.le_of_ble_eq_true rfl) dX3_withDayOfYear_77 (fun q_13 H locs hV hS hz hq => ?_)
          have hP_10 := hP_10.up hq
          exact m_iret hx hb hr hlocks (Option.some.inj hm) hV hS ⟨Nat.le_of_ble_eq_true rfl, Nat.le_of_ble_eq_true rfl⟩ dX3_withDayOfYear_80
        · have hm := (if_neg h_10).symm.trans hm
          refine lv_iconst (v := 0) hx hb dX3_withDayOfYear_63 (by decide) ?_
          refine lv_goto (tgt := 80) hx hb dX3_withDayOfYear_64 (by decide) ?_
          exact m_iret hx hb hr hlocks (Option.some.inj hm) hV hS ⟨Nat.le_of_ble_eq_true rfl, Nat.le_of_ble_eq_true rfl⟩ dX3_withDayOfYear_80
      · have hm := (if_neg h_9).symm.trans hm
        refine lv_iconst (v := 1) hx hb dX3_withDayOfYear_52 (by decide) ?_
        refine lv_goto (tgt := 57) hx hb dX3_withDayOfYear_53 (by decide) ?_
        obtain ⟨x_14, hx_14, hm⟩ := Option.bind_eq_some_iff.mp hm
        refine mc_V hC hGx hD (k_X3_fails l k b L hD (0 : Int32) (0 : Int32) (1 : Int32)  x_9.2 hx_14) (gV w_1056 w_1057 w_18 w_27 w_1058) kk_X3_fails rfl (List.forall_mem_nil _) hLb ⟨Nat.le_of_ble_eq_true rfl, Nat.le_of_ble_eq_true rfl⟩ ⟨Nat.le_of_ble_eq_true rfl, Nat.le_of_ble_eq_true rfl⟩ hV hS hl.1 rfl rfl (Nat.le_of_ble_eq_true rfl) dX3_withDayOfYear_57 (fun q_14 H locs hV hS hz hq => ?_)
        have hP_10 := hP_10.up hq
        refine lv_if_eq (tgt := 67) hx hb dX3_withDayOfYear_60 (by decide) (fun h_11 => ?_) (fun h_11 => ?_)
        · have hm := (if_pos h_11).symm.trans hm
          refine lv_aload_n hx hb dX3_withDayOfYear_67 rfl (lv_at hl 1 rfl) ?_
          refine lv_iload_n hx hb dX3_withDayOfYear_68 rfl (lv_at hl 2 rfl) ?_
          refine lv_aload_n hx hb dX3_withDayOfYear_69 rfl (lv_at hl 0 rfl) ?_
          refine va_get (D := kD k) (ci := 4) (v := .int ((x_9.2.2.1 p0.toNatClampNeg).1)) (C := RX2) (T := TX2) (N := 3) hx hb htg inG_X2 hown hGx.1 hP_10.1 0 rfl rfl 0 (by decide) (htg _ w_999) (fun _ h9 => h9) rfl dX3_withDayOfYear_70 ?_
          refine lv_iload_n hx hb dX3_withDayOfYear_73 rfl (lv_at hl 3 rfl) ?_
          obtain ⟨x_15, hx_15, hm⟩ := Option.bind_eq_some_iff.mp hm
          have hs_15 := hS.1.1
          have hLn_15 := m_hLn hLb hS
          have hL9 := hS.2
          refine qc_S hC hGx (k_X3_ofYearAndDay l k ((x_9.2.2.1 p0.toNatClampNeg).1) p1  hx_15) (gS w_1092 w_1093 w_27 w_1094) kk_X3_ofYearAndDay (List.forall_mem_nil _) ⟨Nat.le_of_ble_eq_true rfl, Nat.le_of_ble_eq_true rfl⟩ ⟨Nat.le_of_ble_eq_true rfl, Nat.le_of_ble_eq_true rfl⟩ hS.1 hA hAB hl.1 rfl rfl (Nat.le_of_ble_eq_true rfl) dX3_withDayOfYear_74 (fun v_15 H hv hz hq hS => ?_)
          have hS : mS b s.heap H _ := ⟨hS, hL9⟩
          have hV := hV.up hq
          have hP_10 := hP_10.up (fun x h9 _ => hq x h9)
          obtain ⟨a_15, rfl, hn_15, hP_15⟩ := hv
          have hP_15 := dF.made hLn_15 hn_15 hP_15
          have hn_15 := Nat.le_trans hs_15 hn_15
          obtain ⟨x_16, hx_16, hm⟩ := Option.bind_eq_some_iff.mp hm
          refine mc_V hC hGx hD (k_X3_gives l k b L hD p0 x_15 a_15 x_14.2 hx_16) (gV w_1059 w_1060 w_19 w_27 w_1061) kk_X3_gives rfl (List.forall_mem_cons.mpr ⟨hP_15, (List.forall_mem_nil _)⟩) hLb ⟨Nat.le_of_ble_eq_true rfl, Nat.le_of_ble_eq_true rfl⟩ ⟨Nat.le_of_ble_eq_true rfl, Nat.le_of_ble_eq_true rfl⟩ hV hS hl.1 rfl rfl (Nat.le_of_ble_eq_true rfl) dX3_withDayOfYear_77 (fun q_16 H locs hV hS hz hq => ?_)
          have hP_10 := hP_10.up hq
          exact m_iret hx hb hr hlocks (Option.some.inj hm) hV hS ⟨Nat.le_of_ble_eq_true rfl, Nat.le_of_ble_eq_true rfl⟩ dX3_withDayOfYear_80
        · have hm := (if_neg h_11).symm.trans hm
          refine lv_iconst (v := 0) hx hb dX3_withDayOfYear_63 (by decide) ?_
          refine lv_goto (tgt := 80) hx hb dX3_withDayOfYear_64 (by decide) ?_
          exact m_iret hx hb hr hlocks (Option.some.inj hm) hV hS ⟨Nat.le_of_ble_eq_true rfl, Nat.le_of_ble_eq_true rfl⟩ dX3_withDayOfYear_80
    · have hm := (if_neg h_7).symm.trans hm
      refine lv_iconst (v := 0) hx hb dX3_withDayOfYear_29 (by decide) ?_
      exact m_iret hx hb hr hlocks (Option.some.inj hm) hV hS ⟨Nat.le_of_ble_eq_true rfl, Nat.le_of_ble_eq_true rfl⟩ dX3_withDayOfYear_30
def o_X3_toFirst (p0 : Int32) (z : MS) : Option (Int32 × MS) := ((o_X3_fails (m_X3_isNo p0) (0 : Int32) (0 : Int32) z).bind fun x_1 => (if x_1.1 = 0 then (if p0 < 0 ∨ 6 ≤ p0.toNatClampNeg then none else (if p0 < 0 ∨ 6 ≤ p0.toNatClampNeg then none else ((o_X3_gives p0 ((x_1.2.2.1 p0.toNatClampNeg).1, (x_1.2.2.1 p0.toNatClampNeg).2.1, (1 : Int32)) x_1.2).bind fun x_5 => some (x_5.1, x_5.2)))) else some ((0 : Int32), x_1.2)))
theorem kk_X3_toFirst : pK yX3_toFirst wsX3_toFirst cX3_toFirst 2 (some .int) 1 := ⟨⟨_, rfl⟩, by decide +kernel, by decide +kernel, by decide +kernel⟩
set_option maxRecDepth 100000 in
set_option maxHeartbeats 4000000 in
theorem k_X3_toFirst (l : Launch) (k : Kx) (b : CA) (L : List Nat) (hD : mD k b L) (p0 : Int32) (z : MS) {r : (Int32 × MS)} (hm : o_X3_toFirst p0 z = some r) : mM l k b L yX3_toFirst wsX3_toFirst 5 108 1 3 [.int p0] [] z (some (.int r.1)) r.2 := by
  intro sz q
  refine Met.ofW (cc := cX3_toFirst) (maxL := 2) (ret := (some .int)) (by decide) rfl ?_
  intro p e s m args below meth c s₁ B hml hv
  obtain ⟨rfl, rfl, hGx, hV, hLb, hds⟩ := hv
  have hx := B.exec
  have hb := B.bytes
  have hr := B.returns
  have hts := atoms_spec (ws := wsX3_toFirst) B.pre
  have hown : s.vm.findClass RX3 = some m.cls := findClass_of_methodNamed B.named
  have hlocks := B.notSynchronized
  have htg : ∀ w ∈ GL, w.before _ s = true := fun w h => hts w (List.mem_cons_of_mem _ h)
  have hC : CallFix p m c cX3_toFirst 2 s _ wsX3_toFirst RX3 := ⟨hx, hb, hml, hown, hts⟩
  have hA : ∀ q, s.heap.size ≤ q → cA b s.heap.size q := fun q h => cA.new q h
  have hAB : ∀ q, cA b s.heap.size q → kB k ≤ q := hD.high hGx.2.1
  have hS : mS b s.heap s.heap [] := mS.rf
  have hl := lv_entry ([.ref b.1, .int p0]) (n := 2) (Nat.le_of_ble_eq_true rfl)
  rw [lg_entry_eq]
  generalize (lg_sl ([.ref b.1, .int p0]) ++ List.replicate (2 - (lg_sl ([.ref b.1, .int p0])).length) Slot.unset).toArray = ls at hl ⊢
  have hl : lv_has ls 2 [(0, .ref b.1), (1, .int p0)] := hl
  refine lv_aload_n hx hb dX3_toFirst_0 rfl (lv_at hl 0 rfl) ?_
  refine lv_iload_n hx hb dX3_toFirst_1 rfl (lv_at hl 1 rfl) ?_
  refine pc_S hC (c_X3_isNo l p0) (gS w_1045 w_1046 w_27 w_1047) kk_X3_isNo ⟨Nat.le_of_ble_eq_true rfl, Nat.le_of_ble_eq_true rfl⟩ ⟨Nat.le_of_ble_eq_true rfl, Nat.le_of_ble_eq_true rfl⟩ hl.1 rfl rfl (Nat.le_of_ble_eq_true rfl) dX3_toFirst_2 ?_
  refine lv_iconst (v := 0) hx hb dX3_toFirst_5 (by decide) ?_
  refine lv_iconst (v := 0) hx hb dX3_toFirst_6 (by decide) ?_
  obtain ⟨x_1, hx_1, hm⟩ := Option.bind_eq_some_iff.mp hm
  refine mc_V hC hGx hD (k_X3_fails l k b L hD (m_X3_isNo p0) (0 : Int32) (0 : Int32)  z hx_1) (gV w_1056 w_1057 w_18 w_27 w_1058) kk_X3_fails rfl (List.forall_mem_nil _) hLb ⟨Nat.le_of_ble_eq_true rfl, Nat.le_of_ble_eq_true rfl⟩ ⟨Nat.le_of_ble_eq_true rfl, Nat.le_of_ble_eq_true rfl⟩ hV hS hl.1 rfl rfl (Nat.le_of_ble_eq_true rfl) dX3_toFirst_7 (fun q_1 H locs hV hS hz hq => ?_)
  refine lv_if_eq (tgt := 17) hx hb dX3_toFirst_10 (by decide) (fun h_1 => ?_) (fun h_1 => ?_)
  · have hm := (if_pos h_1).symm.trans hm
    refine lv_aload_n hx hb dX3_toFirst_17 rfl (lv_at hl 0 rfl) ?_
    refine lv_iload_n hx hb dX3_toFirst_18 rfl (lv_at hl 1 rfl) ?_
    have hLn_2 := m_hLn hLb hS
    have hL9 := hS.2
    have hV_2 := hV
    have hs_2 := hS.1.1
    refine m_new2 hx hb htg hown (htg _ w_991) (htg _ w_993) (htg _ w_28) hGx hS.1 ⟨Nat.le_of_ble_eq_true rfl, Nat.le_of_ble_eq_true rfl⟩ dX3_toFirst_19 (fun a_2 H hn_2 hz_2 hN_2 hq hS => ?_)
    have hS : mS b s.heap H _ := ⟨hS, hL9⟩
    have hV := hV.up hq
    have hq_2 := hq
    refine lv_dup hx hb dX3_toFirst_22 rfl ?_
    refine lv_aload_n hx hb dX3_toFirst_23 rfl (lv_at hl 0 rfl) ?_
    refine va_get (D := kD k) (ci := 5) (v := .ref b.2.1) (C := RX3) (T := TX3) (N := 5) hx hb htg inG_X3 hown hGx.1 hV.1 0 rfl rfl 1 (by decide) (htg _ w_1012) (fun _ h9 => h9) rfl dX3_toFirst_24 ?_
    refine lv_iload_n hx hb dX3_toFirst_27 rfl (lv_at hl 1 rfl) ?_
    by_cases h_2 : p0 < 0 ∨ 6 ≤ p0.toNatClampNeg
    · have hm := (if_pos h_2).symm.trans hm
      cases hm
    have hm := (if_neg h_2).symm.trans hm
    refine m_ald hx hb hGx hV h_2 dX3_toFirst_28 (fun hP_3 => ?_)
    refine va_get (D := kD k) (ci := 4) (v := .int ((x_1.2.2.1 p0.toNatClampNeg).1)) (C := RX2) (T := TX2) (N := 3) hx hb htg inG_X2 hown hGx.1 hP_3.1 0 rfl rfl 0 (by decide) (htg _ w_999) (fun _ h9 => h9) rfl dX3_toFirst_29 ?_
    refine lv_aload_n hx hb dX3_toFirst_32 rfl (lv_at hl 0 rfl) ?_
    refine va_get (D := kD k) (ci := 5) (v := .ref b.2.1) (C := RX3) (T := TX3) (N := 5) hx hb htg inG_X3 hown hGx.1 hV.1 0 rfl rfl 1 (by decide) (htg _ w_1012) (fun _ h9 => h9) rfl dX3_toFirst_33 ?_
    refine lv_iload_n hx hb dX3_toFirst_36 rfl (lv_at hl 1 rfl) ?_
    by_cases h_3 : p0 < 0 ∨ 6 ≤ p0.toNatClampNeg
    · have hm := (if_pos h_3).symm.trans hm
      cases hm
    have hm := (if_neg h_3).symm.trans hm
    refine m_ald hx hb hGx hV h_3 dX3_toFirst_37 (fun hP_4 => ?_)
    refine va_get (D := kD k) (ci := 4) (v := .int ((x_1.2.2.1 p0.toNatClampNeg).2.1)) (C := RX2) (T := TX2) (N := 3) hx hb htg inG_X2 hown hGx.1 hP_4.1 0 rfl rfl 1 (by decide) (htg _ w_1001) (fun _ h9 => h9) rfl dX3_toFirst_38 ?_
    refine lv_iconst (v := 1) hx hb dX3_toFirst_41 (by decide) ?_
    have hL9 := hS.2
    refine q_init (v := ((x_1.2.2.1 p0.toNatClampNeg).1, (x_1.2.2.1 p0.toNatClampNeg).2.1, (1 : Int32))) hC hGx (gC w_996) (htg _ w_994) (htg _ w_28) (htg _ w_995) hN_2 (Nat.le_trans hs_2 hn_2) ⟨Nat.le_of_ble_eq_true rfl, Nat.le_of_ble_eq_true rfl⟩ ⟨Nat.le_of_ble_eq_true rfl, Nat.le_of_ble_eq_true rfl⟩ hS.1 hA hAB hl.1 rfl (Nat.le_of_ble_eq_true rfl) dX3_toFirst_42 (fun H hP_2 hz9 hq9 hS => ?_)
    have hq := m_q2 hn_2 hz_2 hq_2 hq9
    have hS : mS b s.heap H _ := ⟨hS, hL9⟩
    have hV := hV_2.up hq
    have hP_2 := dF.made hLn_2 hn_2 hP_2
    have hn_2 := Nat.le_trans hs_2 hn_2
    obtain ⟨x_5, hx_5, hm⟩ := Option.bind_eq_some_iff.mp hm
    refine mc_V hC hGx hD (k_X3_gives l k b L hD p0 ((x_1.2.2.1 p0.toNatClampNeg).1, (x_1.2.2.1 p0.toNatClampNeg).2.1, (1 : Int32)) a_2 x_1.2 hx_5) (gV w_1059 w_1060 w_19 w_27 w_1061) kk_X3_gives rfl (List.forall_mem_cons.mpr ⟨hP_2, (List.forall_mem_nil _)⟩) hLb ⟨Nat.le_of_ble_eq_true rfl, Nat.le_of_ble_eq_true rfl⟩ ⟨Nat.le_of_ble_eq_true rfl, Nat.le_of_ble_eq_true rfl⟩ hV hS hl.1 rfl rfl (Nat.le_of_ble_eq_true rfl) dX3_toFirst_45 (fun q_5 H locs hV hS hz hq => ?_)
    exact m_iret hx hb hr hlocks (Option.some.inj hm) hV hS ⟨Nat.le_of_ble_eq_true rfl, Nat.le_of_ble_eq_true rfl⟩ dX3_toFirst_48
  · have hm := (if_neg h_1).symm.trans hm
    refine lv_iconst (v := 0) hx hb dX3_toFirst_13 (by decide) ?_
    refine lv_goto (tgt := 48) hx hb dX3_toFirst_14 (by decide) ?_
    exact m_iret hx hb hr hlocks (Option.some.inj hm) hV hS ⟨Nat.le_of_ble_eq_true rfl, Nat.le_of_ble_eq_true rfl⟩ dX3_toFirst_48
def o_X3_toLast (p0 : Int32) (z : MS) : Option (Int32 × MS) := ((o_X3_fails (m_X3_isNo p0) (0 : Int32) (0 : Int32) z).bind fun x_1 => (if x_1.1 = 0 then (if p0 < 0 ∨ 6 ≤ p0.toNatClampNeg then none else (if p0 < 0 ∨ 6 ≤ p0.toNatClampNeg then none else ((o_X3_near ((x_1.2.2.1 p0.toNatClampNeg).1) ((x_1.2.2.1 p0.toNatClampNeg).2.1) (31 : Int32)).bind fun x_4 => ((o_X3_gives p0 x_4 x_1.2).bind fun x_5 => some (x_5.1, x_5.2))))) else some ((0 : Int32), x_1.2)))
theorem kk_X3_toLast : pK yX3_toLast wsX3_toLast cX3_toLast 2 (some .int) 1 := ⟨⟨_, rfl⟩, by decide +kernel, by decide +kernel, by decide +kernel⟩
set_option maxRecDepth 100000 in
set_option maxHeartbeats 4000000 in
theorem k_X3_toLast (l : Launch) (k : Kx) (b : CA) (L : List Nat) (hD : mD k b L) (p0 : Int32) (z : MS) {r : (Int32 × MS)} (hm : o_X3_toLast p0 z = some r) : mM l k b L yX3_toLast wsX3_toLast 5 108 1 3 [.int p0] [] z (some (.int r.1)) r.2 := by
  intro sz q
  refine Met.ofW (cc := cX3_toLast) (maxL := 2) (ret := (some .int)) (by decide) rfl ?_
  intro p e s m args below meth c s₁ B hml hv
  obtain ⟨rfl, rfl, hGx, hV, hLb, hds⟩ := hv
  have hx := B.exec
  have hb := B.bytes
  have hr := B.returns
  have hts := atoms_spec (ws := wsX3_toLast) B.pre
  have hown : s.vm.findClass RX3 = some m.cls := findClass_of_methodNamed B.named
  have hlocks := B.notSynchronized
  have htg : ∀ w ∈ GL, w.before _ s = true := fun w h => hts w (List.mem_cons_of_mem _ h)
  have hC : CallFix p m c cX3_toLast 2 s _ wsX3_toLast RX3 := ⟨hx, hb, hml, hown, hts⟩
  have hA : ∀ q, s.heap.size ≤ q → cA b s.heap.size q := fun q h => cA.new q h
  have hAB : ∀ q, cA b s.heap.size q → kB k ≤ q := hD.high hGx.2.1
  have hS : mS b s.heap s.heap [] := mS.rf
  have hl := lv_entry ([.ref b.1, .int p0]) (n := 2) (Nat.le_of_ble_eq_true rfl)
  rw [lg_entry_eq]
  generalize (lg_sl ([.ref b.1, .int p0]) ++ List.replicate (2 - (lg_sl ([.ref b.1, .int p0])).length) Slot.unset).toArray = ls at hl ⊢
  have hl : lv_has ls 2 [(0, .ref b.1), (1, .int p0)] := hl
  refine lv_aload_n hx hb dX3_toLast_0 rfl (lv_at hl 0 rfl) ?_
  refine lv_iload_n hx hb dX3_toLast_1 rfl (lv_at hl 1 rfl) ?_
  refine pc_S hC (c_X3_isNo l p0) (gS w_1045 w_1046 w_27 w_1047) kk_X3_isNo ⟨Nat.le_of_ble_eq_true rfl, Nat.le_of_ble_eq_true rfl⟩ ⟨Nat.le_of_ble_eq_true rfl, Nat.le_of_ble_eq_true rfl⟩ hl.1 rfl rfl (Nat.le_of_ble_eq_true rfl) dX3_toLast_2 ?_
  refine lv_iconst (v := 0) hx hb dX3_toLast_5 (by decide) ?_
  refine lv_iconst (v := 0) hx hb dX3_toLast_6 (by decide) ?_
  obtain ⟨x_1, hx_1, hm⟩ := Option.bind_eq_some_iff.mp hm
  refine mc_V hC hGx hD (k_X3_fails l k b L hD (m_X3_isNo p0) (0 : Int32) (0 : Int32)  z hx_1) (gV w_1056 w_1057 w_18 w_27 w_1058) kk_X3_fails rfl (List.forall_mem_nil _) hLb ⟨Nat.le_of_ble_eq_true rfl, Nat.le_of_ble_eq_true rfl⟩ ⟨Nat.le_of_ble_eq_true rfl, Nat.le_of_ble_eq_true rfl⟩ hV hS hl.1 rfl rfl (Nat.le_of_ble_eq_true rfl) dX3_toLast_7 (fun q_1 H locs hV hS hz hq => ?_)
  refine lv_if_eq (tgt := 17) hx hb dX3_toLast_10 (by decide) (fun h_1 => ?_) (fun h_1 => ?_)
  · have hm := (if_pos h_1).symm.trans hm
    refine lv_aload_n hx hb dX3_toLast_17 rfl (lv_at hl 0 rfl) ?_
    refine lv_iload_n hx hb dX3_toLast_18 rfl (lv_at hl 1 rfl) ?_
    refine lv_aload_n hx hb dX3_toLast_19 rfl (lv_at hl 0 rfl) ?_
    refine va_get (D := kD k) (ci := 5) (v := .ref b.2.1) (C := RX3) (T := TX3) (N := 5) hx hb htg inG_X3 hown hGx.1 hV.1 0 rfl rfl 1 (by decide) (htg _ w_1012) (fun _ h9 => h9) rfl dX3_toLast_20 ?_
    refine lv_iload_n hx hb dX3_toLast_23 rfl (lv_at hl 1 rfl) ?_
    by_cases h_2 : p0 < 0 ∨ 6 ≤ p0.toNatClampNeg
    · have hm := (if_pos h_2).symm.trans hm
      cases hm
    have hm := (if_neg h_2).symm.trans hm
    refine m_ald hx hb hGx hV h_2 dX3_toLast_24 (fun hP_2 => ?_)
    refine va_get (D := kD k) (ci := 4) (v := .int ((x_1.2.2.1 p0.toNatClampNeg).1)) (C := RX2) (T := TX2) (N := 3) hx hb htg inG_X2 hown hGx.1 hP_2.1 0 rfl rfl 0 (by decide) (htg _ w_999) (fun _ h9 => h9) rfl dX3_toLast_25 ?_
    refine lv_aload_n hx hb dX3_toLast_28 rfl (lv_at hl 0 rfl) ?_
    refine va_get (D := kD k) (ci := 5) (v := .ref b.2.1) (C := RX3) (T := TX3) (N := 5) hx hb htg inG_X3 hown hGx.1 hV.1 0 rfl rfl 1 (by decide) (htg _ w_1012) (fun _ h9 => h9) rfl dX3_toLast_29 ?_
    refine lv_iload_n hx hb dX3_toLast_32 rfl (lv_at hl 1 rfl) ?_
    by_cases h_3 : p0 < 0 ∨ 6 ≤ p0.toNatClampNeg
    · have hm := (if_pos h_3).symm.trans hm
      cases hm
    have hm := (if_neg h_3).symm.trans hm
    refine m_ald hx hb hGx hV h_3 dX3_toLast_33 (fun hP_3 => ?_)
    refine va_get (D := kD k) (ci := 4) (v := .int ((x_1.2.2.1 p0.toNatClampNeg).2.1)) (C := RX2) (T := TX2) (N := 3) hx hb htg inG_X2 hown hGx.1 hP_3.1 0 rfl rfl 1 (by decide) (htg _ w_1001) (fun _ h9 => h9) rfl dX3_toLast_34 ?_
    refine lv_bipush (v := 31) hx hb dX3_toLast_37 (by decide) ?_
    obtain ⟨x_4, hx_4, hm⟩ := Option.bind_eq_some_iff.mp hm
    have hs_4 := hS.1.1
    have hLn_4 := m_hLn hLb hS
    have hL9 := hS.2
    refine qc_S hC hGx (k_X3_near l k ((x_1.2.2.1 p0.toNatClampNeg).1) ((x_1.2.2.1 p0.toNatClampNeg).2.1) (31 : Int32)  hx_4) (gS w_1117 w_1118 w_27 w_1119) kk_X3_near (List.forall_mem_nil _) ⟨Nat.le_of_ble_eq_true rfl, Nat.le_of_ble_eq_true rfl⟩ ⟨Nat.le_of_ble_eq_true rfl, Nat.le_of_ble_eq_true rfl⟩ hS.1 hA hAB hl.1 rfl rfl (Nat.le_of_ble_eq_true rfl) dX3_toLast_39 (fun v_4 H hv hz hq hS => ?_)
    have hS : mS b s.heap H _ := ⟨hS, hL9⟩
    have hV := hV.up hq
    obtain ⟨a_4, rfl, hn_4, hP_4⟩ := hv
    have hP_4 := dF.made hLn_4 hn_4 hP_4
    have hn_4 := Nat.le_trans hs_4 hn_4
    obtain ⟨x_5, hx_5, hm⟩ := Option.bind_eq_some_iff.mp hm
    refine mc_V hC hGx hD (k_X3_gives l k b L hD p0 x_4 a_4 x_1.2 hx_5) (gV w_1059 w_1060 w_19 w_27 w_1061) kk_X3_gives rfl (List.forall_mem_cons.mpr ⟨hP_4, (List.forall_mem_nil _)⟩) hLb ⟨Nat.le_of_ble_eq_true rfl, Nat.le_of_ble_eq_true rfl⟩ ⟨Nat.le_of_ble_eq_true rfl, Nat.le_of_ble_eq_true rfl⟩ hV hS hl.1 rfl rfl (Nat.le_of_ble_eq_true rfl) dX3_toLast_42 (fun q_5 H locs hV hS hz hq => ?_)
    exact m_iret hx hb hr hlocks (Option.some.inj hm) hV hS ⟨Nat.le_of_ble_eq_true rfl, Nat.le_of_ble_eq_true rfl⟩ dX3_toLast_45
  · have hm := (if_neg h_1).symm.trans hm
    refine lv_iconst (v := 0) hx hb dX3_toLast_13 (by decide) ?_
    refine lv_goto (tgt := 45) hx hb dX3_toLast_14 (by decide) ?_
    exact m_iret hx hb hr hlocks (Option.some.inj hm) hV hS ⟨Nat.le_of_ble_eq_true rfl, Nat.le_of_ble_eq_true rfl⟩ dX3_toLast_45
def o_X3_moves (p0 : Int32) (p1 : Int32) (p2 : Int32) (p3 : Int32) (z : MS) : Option (Int32 × MS) := (if m_X3_isIn p2.toInt64 (-200000 : Int64) (200000 : Int64) = 0 then ((o_X3_fails (m_X3_isNo p0) (1 : Int32) (0 : Int32) z).bind fun x_21 => (if x_21.1 = 0 then (if p0 < 0 ∨ 6 ≤ p0.toNatClampNeg then none else (if p3 = 0 then ((o_X3_moved (x_21.2.2.1 p0.toNatClampNeg) p1 p2.toInt64).bind fun x_23 => (Option.elim x_23 (((o_X3_isDateN ).bind fun x_24 => (if x_24 = 0 then ((o_X3_fails (0 : Int32) (0 : Int32) (1 : Int32) x_21.2).bind fun x_26 => (if x_26.1 = 0 then none else some ((0 : Int32), x_26.2))) else ((o_X3_fails (0 : Int32) (0 : Int32) (0 : Int32) x_21.2).bind fun x_25 => (if x_25.1 = 0 then none else some ((0 : Int32), x_25.2)))))) fun d_23 => ((o_X3_isDate d_23).bind fun x_27 => (if x_27 = 0 then ((o_X3_fails (0 : Int32) (0 : Int32) (1 : Int32) x_21.2).bind fun x_30 => (if x_30.1 = 0 then ((o_X3_gives p0 d_23 x_30.2).bind fun x_31 => some (x_31.1, x_31.2)) else some ((0 : Int32), x_30.2))) else ((o_X3_fails (0 : Int32) (0 : Int32) (0 : Int32) x_21.2).bind fun x_28 => (if x_28.1 = 0 then ((o_X3_gives p0 d_23 x_28.2).bind fun x_29 => some (x_29.1, x_29.2)) else some ((0 : Int32), x_28.2))))))) else ((o_X3_moved (x_21.2.2.1 p0.toNatClampNeg) p1 ((-p2).toInt64)).bind fun x_32 => (Option.elim x_32 (((o_X3_isDateN ).bind fun x_33 => (if x_33 = 0 then ((o_X3_fails (0 : Int32) (0 : Int32) (1 : Int32) x_21.2).bind fun x_35 => (if x_35.1 = 0 then none else some ((0 : Int32), x_35.2))) else ((o_X3_fails (0 : Int32) (0 : Int32) (0 : Int32) x_21.2).bind fun x_34 => (if x_34.1 = 0 then none else some ((0 : Int32), x_34.2)))))) fun d_32 => ((o_X3_isDate d_32).bind fun x_36 => (if x_36 = 0 then ((o_X3_fails (0 : Int32) (0 : Int32) (1 : Int32) x_21.2).bind fun x_39 => (if x_39.1 = 0 then ((o_X3_gives p0 d_32 x_39.2).bind fun x_40 => some (x_40.1, x_40.2)) else some ((0 : Int32), x_39.2))) else ((o_X3_fails (0 : Int32) (0 : Int32) (0 : Int32) x_21.2).bind fun x_37 => (if x_37.1 = 0 then ((o_X3_gives p0 d_32 x_37.2).bind fun x_38 => some (x_38.1, x_38.2)) else some ((0 : Int32), x_37.2))))))))) else some ((0 : Int32), x_21.2))) else ((o_X3_fails (m_X3_isNo p0) (0 : Int32) (0 : Int32) z).bind fun x_1 => (if x_1.1 = 0 then (if p0 < 0 ∨ 6 ≤ p0.toNatClampNeg then none else (if p3 = 0 then ((o_X3_moved (x_1.2.2.1 p0.toNatClampNeg) p1 p2.toInt64).bind fun x_3 => (Option.elim x_3 (((o_X3_isDateN ).bind fun x_4 => (if x_4 = 0 then ((o_X3_fails (0 : Int32) (0 : Int32) (1 : Int32) x_1.2).bind fun x_6 => (if x_6.1 = 0 then none else some ((0 : Int32), x_6.2))) else ((o_X3_fails (0 : Int32) (0 : Int32) (0 : Int32) x_1.2).bind fun x_5 => (if x_5.1 = 0 then none else some ((0 : Int32), x_5.2)))))) fun d_3 => ((o_X3_isDate d_3).bind fun x_7 => (if x_7 = 0 then ((o_X3_fails (0 : Int32) (0 : Int32) (1 : Int32) x_1.2).bind fun x_10 => (if x_10.1 = 0 then ((o_X3_gives p0 d_3 x_10.2).bind fun x_11 => some (x_11.1, x_11.2)) else some ((0 : Int32), x_10.2))) else ((o_X3_fails (0 : Int32) (0 : Int32) (0 : Int32) x_1.2).bind fun x_8 => (if x_8.1 = 0 then ((o_X3_gives p0 d_3 x_8.2).bind fun x_9 => some (x_9.1, x_9.2)) else some ((0 : Int32), x_8.2))))))) else ((o_X3_moved (x_1.2.2.1 p0.toNatClampNeg) p1 ((-p2).toInt64)).bind fun x_12 => (Option.elim x_12 (((o_X3_isDateN ).bind fun x_13 => (if x_13 = 0 then ((o_X3_fails (0 : Int32) (0 : Int32) (1 : Int32) x_1.2).bind fun x_15 => (if x_15.1 = 0 then none else some ((0 : Int32), x_15.2))) else ((o_X3_fails (0 : Int32) (0 : Int32) (0 : Int32) x_1.2).bind fun x_14 => (if x_14.1 = 0 then none else some ((0 : Int32), x_14.2)))))) fun d_12 => ((o_X3_isDate d_12).bind fun x_16 => (if x_16 = 0 then ((o_X3_fails (0 : Int32) (0 : Int32) (1 : Int32) x_1.2).bind fun x_19 => (if x_19.1 = 0 then ((o_X3_gives p0 d_12 x_19.2).bind fun x_20 => some (x_20.1, x_20.2)) else some ((0 : Int32), x_19.2))) else ((o_X3_fails (0 : Int32) (0 : Int32) (0 : Int32) x_1.2).bind fun x_17 => (if x_17.1 = 0 then ((o_X3_gives p0 d_12 x_17.2).bind fun x_18 => some (x_18.1, x_18.2)) else some ((0 : Int32), x_17.2))))))))) else some ((0 : Int32), x_1.2))))
theorem kk_X3_moves : pK yX3_moves wsX3_moves cX3_moves 6 (some .int) 4 := ⟨⟨_, rfl⟩, by decide +kernel, by decide +kernel, by decide +kernel⟩
set_option maxRecDepth 100000 in
set_option maxHeartbeats 4000000 in
theorem k_X3_moves (l : Launch) (k : Kx) (b : CA) (L : List Nat) (hD : mD k b L) (p0 : Int32) (p1 : Int32) (p2 : Int32) (p3 : Int32) (z : MS) {r : (Int32 × MS)} (hm : o_X3_moves p0 p1 p2 p3 z = some r) : mM l k b L yX3_moves wsX3_moves 6 158 1 3 [.int p0, .int p1, .int p2, .int p3] [] z (some (.int r.1)) r.2 := by
  intro sz q
  refine Met.ofW (cc := cX3_moves) (maxL := 6) (ret := (some .int)) (by decide) rfl ?_
  intro p e s m args below meth c s₁ B hml hv
  obtain ⟨rfl, rfl, hGx, hV, hLb, hds⟩ := hv
  have hx := B.exec
  have hb := B.bytes
  have hr := B.returns
  have hts := atoms_spec (ws := wsX3_moves) B.pre
  have hown : s.vm.findClass RX3 = some m.cls := findClass_of_methodNamed B.named
  have hlocks := B.notSynchronized
  have htg : ∀ w ∈ GL, w.before _ s = true := fun w h => hts w (List.mem_cons_of_mem _ h)
  have hC : CallFix p m c cX3_moves 6 s _ wsX3_moves RX3 := ⟨hx, hb, hml, hown, hts⟩
  have hA : ∀ q, s.heap.size ≤ q → cA b s.heap.size q := fun q h => cA.new q h
  have hAB : ∀ q, cA b s.heap.size q → kB k ≤ q := hD.high hGx.2.1
  have hS : mS b s.heap s.heap [] := mS.rf
  have hl := lv_entry ([.ref b.1, .int p0, .int p1, .int p2, .int p3]) (n := 6) (Nat.le_of_ble_eq_true rfl)
  rw [lg_entry_eq]
  generalize (lg_sl ([.ref b.1, .int p0, .int p1, .int p2, .int p3]) ++ List.replicate (6 - (lg_sl ([.ref b.1, .int p0, .int p1, .int p2, .int p3])).length) Slot.unset).toArray = ls at hl ⊢
  have hl : lv_has ls 6 [(0, .ref b.1), (1, .int p0), (2, .int p1), (3, .int p2), (4, .int p3)] := hl
  refine lv_aload_n hx hb dX3_moves_0 rfl (lv_at hl 0 rfl) ?_
  refine lv_iload_n hx hb dX3_moves_1 rfl (lv_at hl 1 rfl) ?_
  refine pc_S hC (c_X3_isNo l p0) (gS w_1045 w_1046 w_27 w_1047) kk_X3_isNo ⟨Nat.le_of_ble_eq_true rfl, Nat.le_of_ble_eq_true rfl⟩ ⟨Nat.le_of_ble_eq_true rfl, Nat.le_of_ble_eq_true rfl⟩ hl.1 rfl rfl (Nat.le_of_ble_eq_true rfl) dX3_moves_2 ?_
  refine lv_iload_n hx hb dX3_moves_5 rfl (lv_at hl 3 rfl) ?_
  refine lv_i2l hx hb dX3_moves_6 rfl ?_
  refine lv_ldc2 hx hb hown (htg _ w_1147) dX3_moves_7 ?_
  refine lv_ldc2 hx hb hown (htg _ w_1148) dX3_moves_10 ?_
  refine pc_S hC (c_X3_isIn l p2.toInt64 (-200000 : Int64) (200000 : Int64)) (gS w_1040 w_1041 w_27 w_1042) kk_X3_isIn ⟨Nat.le_of_ble_eq_true rfl, Nat.le_of_ble_eq_true rfl⟩ ⟨Nat.le_of_ble_eq_true rfl, Nat.le_of_ble_eq_true rfl⟩ hl.1 rfl rfl (Nat.le_of_ble_eq_true rfl) dX3_moves_13 ?_
  refine lv_if_ne (tgt := 23) hx hb dX3_moves_16 (by decide) (fun h_1 => ?_) (fun h_1 => ?_)
  · have hm := (if_neg h_1).symm.trans hm
    refine lv_iconst (v := 0) hx hb dX3_moves_23 (by decide) ?_
    refine lv_iconst (v := 0) hx hb dX3_moves_24 (by decide) ?_
    obtain ⟨x_1, hx_1, hm⟩ := Option.bind_eq_some_iff.mp hm
    refine mc_V hC hGx hD (k_X3_fails l k b L hD (m_X3_isNo p0) (0 : Int32) (0 : Int32)  z hx_1) (gV w_1056 w_1057 w_18 w_27 w_1058) kk_X3_fails rfl (List.forall_mem_nil _) hLb ⟨Nat.le_of_ble_eq_true rfl, Nat.le_of_ble_eq_true rfl⟩ ⟨Nat.le_of_ble_eq_true rfl, Nat.le_of_ble_eq_true rfl⟩ hV hS hl.1 rfl rfl (Nat.le_of_ble_eq_true rfl) dX3_moves_25 (fun q_1 H locs hV hS hz hq => ?_)
    refine lv_if_eq (tgt := 33) hx hb dX3_moves_28 (by decide) (fun h_2 => ?_) (fun h_2 => ?_)
    · have hm := (if_pos h_2).symm.trans hm
      refine lv_aload_n hx hb dX3_moves_33 rfl (lv_at hl 0 rfl) ?_
      refine va_get (D := kD k) (ci := 5) (v := .ref b.2.1) (C := RX3) (T := TX3) (N := 5) hx hb htg inG_X3 hown hGx.1 hV.1 0 rfl rfl 1 (by decide) (htg _ w_1012) (fun _ h9 => h9) rfl dX3_moves_34 ?_
      refine lv_iload_n hx hb dX3_moves_37 rfl (lv_at hl 1 rfl) ?_
      by_cases h_3 : p0 < 0 ∨ 6 ≤ p0.toNatClampNeg
      · have hm := (if_pos h_3).symm.trans hm
        cases hm
      have hm := (if_neg h_3).symm.trans hm
      refine m_ald hx hb hGx hV h_3 dX3_moves_38 (fun hP_2 => ?_)
      refine lv_iload_n hx hb dX3_moves_39 rfl (lv_at hl 2 rfl) ?_
      refine lv_iload hx hb dX3_moves_40 (lv_at hl 4 rfl) ?_
      refine lv_if_eq (tgt := 51) hx hb dX3_moves_42 (by decide) (fun h_4 => ?_) (fun h_4 => ?_)
      · have hm := (if_pos h_4).symm.trans hm
        refine lv_iload_n hx hb dX3_moves_51 rfl (lv_at hl 3 rfl) ?_
        refine lv_i2l hx hb dX3_moves_52 rfl ?_
        obtain ⟨x_3, hx_3, hm⟩ := Option.bind_eq_some_iff.mp hm
        have hs_3 := hS.1.1
        have hLn_3 := m_hLn hLb hS
        have hL9 := hS.2
        refine qc_S hC hGx (k_X3_moved l k (x_1.2.2.1 p0.toNatClampNeg) p1 p2.toInt64 (q_1 p0.toNatClampNeg) hx_3) (gS w_1149 w_1150 w_27 w_1151) kk_X3_moved (List.forall_mem_cons.mpr ⟨hP_2.1, (List.forall_mem_nil _)⟩) ⟨Nat.le_of_ble_eq_true rfl, Nat.le_of_ble_eq_true rfl⟩ ⟨Nat.le_of_ble_eq_true rfl, Nat.le_of_ble_eq_true rfl⟩ hS.1 hA hAB hl.1 rfl rfl (Nat.le_of_ble_eq_true rfl) dX3_moves_53 (fun v_3 H hv hz hq hS => ?_)
        have hS : mS b s.heap H _ := ⟨hS, hL9⟩
        have hV := hV.up hq
        cases x_3 with
        | none =>
          rw [Option.elim_none] at hm
          have hv : v_3 = some .null := hv
          subst hv
          refine lv_astoreN (lv' := [(5, .null), (0, .ref b.1), (1, .int p0), (2, .int p1), (3, .int p2), (4, .int p3)]) hx hb dX3_moves_56 hl (by decide) rfl (fun ls hl => ?_)
          refine lv_aload_n hx hb dX3_moves_58 rfl (lv_at hl 1 rfl) ?_
          refine lv_iconst (v := 0) hx hb dX3_moves_59 (by decide) ?_
          refine lv_iconst (v := 0) hx hb dX3_moves_60 (by decide) ?_
          refine lv_aloadN hx hb dX3_moves_61 (lv_at hl 0 rfl) ?_
          obtain ⟨x_4, hx_4, hm⟩ := Option.bind_eq_some_iff.mp hm
          have hs_4 := hS.1.1
          have hLn_4 := m_hLn hLb hS
          have hL9 := hS.2
          refine qc_S hC hGx (k_X3_isDateN l k   hx_4) (gS w_1162 w_1163 w_27 w_1164) kk_X3_isDate (List.forall_mem_nil _) ⟨Nat.le_of_ble_eq_true rfl, Nat.le_of_ble_eq_true rfl⟩ ⟨Nat.le_of_ble_eq_true rfl, Nat.le_of_ble_eq_true rfl⟩ hS.1 hA hAB hl.1 rfl rfl (Nat.le_of_ble_eq_true rfl) dX3_moves_63 (fun v_4 H hv hz hq hS => ?_)
          have hS : mS b s.heap H _ := ⟨hS, hL9⟩
          have hV := hV.up hq
          have hv : v_4 = some (.int x_4) := hv
          subst hv
          refine lv_if_ne (tgt := 73) hx hb dX3_moves_66 (by decide) (fun h_5 => ?_) (fun h_5 => ?_)
          · have hm := (if_neg h_5).symm.trans hm
            refine lv_iconst (v := 0) hx hb dX3_moves_73 (by decide) ?_
            obtain ⟨x_5, hx_5, hm⟩ := Option.bind_eq_some_iff.mp hm
            refine mc_V hC hGx hD (k_X3_fails l k b L hD (0 : Int32) (0 : Int32) (0 : Int32)  x_1.2 hx_5) (gV w_1056 w_1057 w_18 w_27 w_1058) kk_X3_fails rfl (List.forall_mem_nil _) hLb ⟨Nat.le_of_ble_eq_true rfl, Nat.le_of_ble_eq_true rfl⟩ ⟨Nat.le_of_ble_eq_true rfl, Nat.le_of_ble_eq_true rfl⟩ hV hS hl.1 rfl rfl (Nat.le_of_ble_eq_true rfl) dX3_moves_74 (fun q_5 H locs hV hS hz hq => ?_)
            refine lv_if_eq (tgt := 84) hx hb dX3_moves_77 (by decide) (fun h_6 => ?_) (fun h_6 => ?_)
            · have hm := (if_pos h_6).symm.trans hm
              refine lv_aload_n hx hb dX3_moves_84 rfl (lv_at hl 1 rfl) ?_
              refine lv_iload_n hx hb dX3_moves_85 rfl (lv_at hl 2 rfl) ?_
              refine lv_aloadN hx hb dX3_moves_86 (lv_at hl 0 rfl) ?_
              cases hm
            · have hm := (if_neg h_6).symm.trans hm
              refine lv_iconst (v := 0) hx hb dX3_moves_80 (by decide) ?_
              refine lv_goto (tgt := 91) hx hb dX3_moves_81 (by decide) ?_
              exact m_iret hx hb hr hlocks (Option.some.inj hm) hV hS ⟨Nat.le_of_ble_eq_true rfl, Nat.le_of_ble_eq_true rfl⟩ dX3_moves_91
          · have hm := (if_pos h_5).symm.trans hm
            refine lv_iconst (v := 1) hx hb dX3_moves_69 (by decide) ?_
            refine lv_goto (tgt := 74) hx hb dX3_moves_70 (by decide) ?_
            obtain ⟨x_6, hx_6, hm⟩ := Option.bind_eq_some_iff.mp hm
            refine mc_V hC hGx hD (k_X3_fails l k b L hD (0 : Int32) (0 : Int32) (1 : Int32)  x_1.2 hx_6) (gV w_1056 w_1057 w_18 w_27 w_1058) kk_X3_fails rfl (List.forall_mem_nil _) hLb ⟨Nat.le_of_ble_eq_true rfl, Nat.le_of_ble_eq_true rfl⟩ ⟨Nat.le_of_ble_eq_true rfl, Nat.le_of_ble_eq_true rfl⟩ hV hS hl.1 rfl rfl (Nat.le_of_ble_eq_true rfl) dX3_moves_74 (fun q_6 H locs hV hS hz hq => ?_)
            refine lv_if_eq (tgt := 84) hx hb dX3_moves_77 (by decide) (fun h_7 => ?_) (fun h_7 => ?_)
            · have hm := (if_pos h_7).symm.trans hm
              refine lv_aload_n hx hb dX3_moves_84 rfl (lv_at hl 1 rfl) ?_
              refine lv_iload_n hx hb dX3_moves_85 rfl (lv_at hl 2 rfl) ?_
              refine lv_aloadN hx hb dX3_moves_86 (lv_at hl 0 rfl) ?_
              cases hm
            · have hm := (if_neg h_7).symm.trans hm
              refine lv_iconst (v := 0) hx hb dX3_moves_80 (by decide) ?_
              refine lv_goto (tgt := 91) hx hb dX3_moves_81 (by decide) ?_
              exact m_iret hx hb hr hlocks (Option.some.inj hm) hV hS ⟨Nat.le_of_ble_eq_true rfl, Nat.le_of_ble_eq_true rfl⟩ dX3_moves_91
        | some d_3 =>
          rw [Option.elim_some] at hm
          obtain ⟨a_3, rfl, hn_3, hP_3⟩ := hv
          have hP_3 := dF.made hLn_3 hn_3 hP_3
          have hn_3 := Nat.le_trans hs_3 hn_3
          refine lv_astore (lv' := [(5, .ref a_3), (0, .ref b.1), (1, .int p0), (2, .int p1), (3, .int p2), (4, .int p3)]) hx hb dX3_moves_56 hl (by decide) rfl (fun ls hl => ?_)
          refine lv_aload_n hx hb dX3_moves_58 rfl (lv_at hl 1 rfl) ?_
          refine lv_iconst (v := 0) hx hb dX3_moves_59 (by decide) ?_
          refine lv_iconst (v := 0) hx hb dX3_moves_60 (by decide) ?_
          refine lv_aload hx hb dX3_moves_61 (lv_at hl 0 rfl) ?_
          obtain ⟨x_7, hx_7, hm⟩ := Option.bind_eq_some_iff.mp hm
          have hs_7 := hS.1.1
          have hLn_7 := m_hLn hLb hS
          have hL9 := hS.2
          refine qc_S hC hGx (k_X3_isDate l k d_3 a_3 hx_7) (gS w_1162 w_1163 w_27 w_1164) kk_X3_isDate (List.forall_mem_cons.mpr ⟨hP_3.1, (List.forall_mem_nil _)⟩) ⟨Nat.le_of_ble_eq_true rfl, Nat.le_of_ble_eq_true rfl⟩ ⟨Nat.le_of_ble_eq_true rfl, Nat.le_of_ble_eq_true rfl⟩ hS.1 hA hAB hl.1 rfl rfl (Nat.le_of_ble_eq_true rfl) dX3_moves_63 (fun v_7 H hv hz hq hS => ?_)
          have hS : mS b s.heap H _ := ⟨hS, hL9⟩
          have hV := hV.up hq
          have hP_3 := hP_3.up (fun x h9 _ => hq x h9)
          have hv : v_7 = some (.int x_7) := hv
          subst hv
          refine lv_if_ne (tgt := 73) hx hb dX3_moves_66 (by decide) (fun h_8 => ?_) (fun h_8 => ?_)
          · have hm := (if_neg h_8).symm.trans hm
            refine lv_iconst (v := 0) hx hb dX3_moves_73 (by decide) ?_
            obtain ⟨x_8, hx_8, hm⟩ := Option.bind_eq_some_iff.mp hm
            refine mc_V hC hGx hD (k_X3_fails l k b L hD (0 : Int32) (0 : Int32) (0 : Int32)  x_1.2 hx_8) (gV w_1056 w_1057 w_18 w_27 w_1058) kk_X3_fails rfl (List.forall_mem_nil _) hLb ⟨Nat.le_of_ble_eq_true rfl, Nat.le_of_ble_eq_true rfl⟩ ⟨Nat.le_of_ble_eq_true rfl, Nat.le_of_ble_eq_true rfl⟩ hV hS hl.1 rfl rfl (Nat.le_of_ble_eq_true rfl) dX3_moves_74 (fun q_8 H locs hV hS hz hq => ?_)
            have hP_3 := hP_3.up hq
            refine lv_if_eq (tgt := 84) hx hb dX3_moves_77 (by decide) (fun h_9 => ?_) (fun h_9 => ?_)
            · have hm := (if_pos h_9).symm.trans hm
              refine lv_aload_n hx hb dX3_moves_84 rfl (lv_at hl 1 rfl) ?_
              refine lv_iload_n hx hb dX3_moves_85 rfl (lv_at hl 2 rfl) ?_
              refine lv_aload hx hb dX3_moves_86 (lv_at hl 0 rfl) ?_
              obtain ⟨x_9, hx_9, hm⟩ := Option.bind_eq_some_iff.mp hm
              refine mc_V hC hGx hD (k_X3_gives l k b L hD p0 d_3 a_3 x_8.2 hx_9) (gV w_1059 w_1060 w_19 w_27 w_1061) kk_X3_gives rfl (List.forall_mem_cons.mpr ⟨hP_3, (List.forall_mem_nil _)⟩) hLb ⟨Nat.le_of_ble_eq_true rfl, Nat.le_of_ble_eq_true rfl⟩ ⟨Nat.le_of_ble_eq_true rfl, Nat.le_of_ble_eq_true rfl⟩ hV hS hl.1 rfl rfl (Nat.le_of_ble_eq_true rfl) dX3_moves_88 (fun q_9 H locs hV hS hz hq => ?_)
              have hP_3 := hP_3.up hq
              exact m_iret hx hb hr hlocks (Option.some.inj hm) hV hS ⟨Nat.le_of_ble_eq_true rfl, Nat.le_of_ble_eq_true rfl⟩ dX3_moves_91
            · have hm := (if_neg h_9).symm.trans hm
              refine lv_iconst (v := 0) hx hb dX3_moves_80 (by decide) ?_
              refine lv_goto (tgt := 91) hx hb dX3_moves_81 (by decide) ?_
              exact m_iret hx hb hr hlocks (Option.some.inj hm) hV hS ⟨Nat.le_of_ble_eq_true rfl, Nat.le_of_ble_eq_true rfl⟩ dX3_moves_91
          · have hm := (if_pos h_8).symm.trans hm
            refine lv_iconst (v := 1) hx hb dX3_moves_69 (by decide) ?_
            refine lv_goto (tgt := 74) hx hb dX3_moves_70 (by decide) ?_
            obtain ⟨x_10, hx_10, hm⟩ := Option.bind_eq_some_iff.mp hm
            refine mc_V hC hGx hD (k_X3_fails l k b L hD (0 : Int32) (0 : Int32) (1 : Int32)  x_1.2 hx_10) (gV w_1056 w_1057 w_18 w_27 w_1058) kk_X3_fails rfl (List.forall_mem_nil _) hLb ⟨Nat.le_of_ble_eq_true rfl, Nat.le_of_ble_eq_true rfl⟩ ⟨Nat.le_of_ble_eq_true rfl, Nat.le_of_ble_eq_true rfl⟩ hV hS hl.1 rfl rfl (Nat.le_of_ble_eq_true rfl) dX3_moves_74 (fun q_10 H locs hV hS hz hq => ?_)
            have hP_3 := hP_3.up hq
            refine lv_if_eq (tgt := 84) hx hb dX3_moves_77 (by decide) (fun h_10 => ?_) (fun h_10 => ?_)
            · have hm := (if_pos h_10).symm.trans hm
              refine lv_aload_n hx hb dX3_moves_84 rfl (lv_at hl 1 rfl) ?_
              refine lv_iload_n hx hb dX3_moves_85 rfl (lv_at hl 2 rfl) ?_
              refine lv_aload hx hb dX3_moves_86 (lv_at hl 0 rfl) ?_
              obtain ⟨x_11, hx_11, hm⟩ := Option.bind_eq_some_iff.mp hm
              refine mc_V hC hGx hD (k_X3_gives l k b L hD p0 d_3 a_3 x_10.2 hx_11) (gV w_1059 w_1060 w_19 w_27 w_1061) kk_X3_gives rfl (List.forall_mem_cons.mpr ⟨hP_3, (List.forall_mem_nil _)⟩) hLb ⟨Nat.le_of_ble_eq_true rfl, Nat.le_of_ble_eq_true rfl⟩ ⟨Nat.le_of_ble_eq_true rfl, Nat.le_of_ble_eq_true rfl⟩ hV hS hl.1 rfl rfl (Nat.le_of_ble_eq_true rfl) dX3_moves_88 (fun q_11 H locs hV hS hz hq => ?_)
              have hP_3 := hP_3.up hq
              exact m_iret hx hb hr hlocks (Option.some.inj hm) hV hS ⟨Nat.le_of_ble_eq_true rfl, Nat.le_of_ble_eq_true rfl⟩ dX3_moves_91
            · have hm := (if_neg h_10).symm.trans hm
              refine lv_iconst (v := 0) hx hb dX3_moves_80 (by decide) ?_
              refine lv_goto (tgt := 91) hx hb dX3_moves_81 (by decide) ?_
              exact m_iret hx hb hr hlocks (Option.some.inj hm) hV hS ⟨Nat.le_of_ble_eq_true rfl, Nat.le_of_ble_eq_true rfl⟩ dX3_moves_91
      · have hm := (if_neg h_4).symm.trans hm
        refine lv_iload_n hx hb dX3_moves_45 rfl (lv_at hl 3 rfl) ?_
        refine lv_ineg hx hb dX3_moves_46 ?_
        refine lv_i2l hx hb dX3_moves_47 rfl ?_
        refine lv_goto (tgt := 53) hx hb dX3_moves_48 (by decide) ?_
        obtain ⟨x_12, hx_12, hm⟩ := Option.bind_eq_some_iff.mp hm
        have hs_12 := hS.1.1
        have hLn_12 := m_hLn hLb hS
        have hL9 := hS.2
        refine qc_S hC hGx (k_X3_moved l k (x_1.2.2.1 p0.toNatClampNeg) p1 ((-p2).toInt64) (q_1 p0.toNatClampNeg) hx_12) (gS w_1149 w_1150 w_27 w_1151) kk_X3_moved (List.forall_mem_cons.mpr ⟨hP_2.1, (List.forall_mem_nil _)⟩) ⟨Nat.le_of_ble_eq_true rfl, Nat.le_of_ble_eq_true rfl⟩ ⟨Nat.le_of_ble_eq_true rfl, Nat.le_of_ble_eq_true rfl⟩ hS.1 hA hAB hl.1 rfl rfl (Nat.le_of_ble_eq_true rfl) dX3_moves_53 (fun v_12 H hv hz hq hS => ?_)
        have hS : mS b s.heap H _ := ⟨hS, hL9⟩
        have hV := hV.up hq
        cases x_12 with
        | none =>
          rw [Option.elim_none] at hm
          have hv : v_12 = some .null := hv
          subst hv
          refine lv_astoreN (lv' := [(5, .null), (0, .ref b.1), (1, .int p0), (2, .int p1), (3, .int p2), (4, .int p3)]) hx hb dX3_moves_56 hl (by decide) rfl (fun ls hl => ?_)
          refine lv_aload_n hx hb dX3_moves_58 rfl (lv_at hl 1 rfl) ?_
          refine lv_iconst (v := 0) hx hb dX3_moves_59 (by decide) ?_
          refine lv_iconst (v := 0) hx hb dX3_moves_60 (by decide) ?_
          refine lv_aloadN hx hb dX3_moves_61 (lv_at hl 0 rfl) ?_
          obtain ⟨x_13, hx_13, hm⟩ := Option.bind_eq_some_iff.mp hm
          have hs_13 := hS.1.1
          have hLn_13 := m_hLn hLb hS
          have hL9 := hS.2
          refine qc_S hC hGx (k_X3_isDateN l k   hx_13) (gS w_1162 w_1163 w_27 w_1164) kk_X3_isDate (List.forall_mem_nil _) ⟨Nat.le_of_ble_eq_true rfl, Nat.le_of_ble_eq_true rfl⟩ ⟨Nat.le_of_ble_eq_true rfl, Nat.le_of_ble_eq_true rfl⟩ hS.1 hA hAB hl.1 rfl rfl (Nat.le_of_ble_eq_true rfl) dX3_moves_63 (fun v_13 H hv hz hq hS => ?_)
          have hS : mS b s.heap H _ := ⟨hS, hL9⟩
          have hV := hV.up hq
          have hv : v_13 = some (.int x_13) := hv
          subst hv
          refine lv_if_ne (tgt := 73) hx hb dX3_moves_66 (by decide) (fun h_11 => ?_) (fun h_11 => ?_)
          · have hm := (if_neg h_11).symm.trans hm
            refine lv_iconst (v := 0) hx hb dX3_moves_73 (by decide) ?_
            obtain ⟨x_14, hx_14, hm⟩ := Option.bind_eq_some_iff.mp hm
            refine mc_V hC hGx hD (k_X3_fails l k b L hD (0 : Int32) (0 : Int32) (0 : Int32)  x_1.2 hx_14) (gV w_1056 w_1057 w_18 w_27 w_1058) kk_X3_fails rfl (List.forall_mem_nil _) hLb ⟨Nat.le_of_ble_eq_true rfl, Nat.le_of_ble_eq_true rfl⟩ ⟨Nat.le_of_ble_eq_true rfl, Nat.le_of_ble_eq_true rfl⟩ hV hS hl.1 rfl rfl (Nat.le_of_ble_eq_true rfl) dX3_moves_74 (fun q_14 H locs hV hS hz hq => ?_)
            refine lv_if_eq (tgt := 84) hx hb dX3_moves_77 (by decide) (fun h_12 => ?_) (fun h_12 => ?_)
            · have hm := (if_pos h_12).symm.trans hm
              refine lv_aload_n hx hb dX3_moves_84 rfl (lv_at hl 1 rfl) ?_
              refine lv_iload_n hx hb dX3_moves_85 rfl (lv_at hl 2 rfl) ?_
              refine lv_aloadN hx hb dX3_moves_86 (lv_at hl 0 rfl) ?_
              cases hm
            · have hm := (if_neg h_12).symm.trans hm
              refine lv_iconst (v := 0) hx hb dX3_moves_80 (by decide) ?_
              refine lv_goto (tgt := 91) hx hb dX3_moves_81 (by decide) ?_
              exact m_iret hx hb hr hlocks (Option.some.inj hm) hV hS ⟨Nat.le_of_ble_eq_true rfl, Nat.le_of_ble_eq_true rfl⟩ dX3_moves_91
          · have hm := (if_pos h_11).symm.trans hm
            refine lv_iconst (v := 1) hx hb dX3_moves_69 (by decide) ?_
            refine lv_goto (tgt := 74) hx hb dX3_moves_70 (by decide) ?_
            obtain ⟨x_15, hx_15, hm⟩ := Option.bind_eq_some_iff.mp hm
            refine mc_V hC hGx hD (k_X3_fails l k b L hD (0 : Int32) (0 : Int32) (1 : Int32)  x_1.2 hx_15) (gV w_1056 w_1057 w_18 w_27 w_1058) kk_X3_fails rfl (List.forall_mem_nil _) hLb ⟨Nat.le_of_ble_eq_true rfl, Nat.le_of_ble_eq_true rfl⟩ ⟨Nat.le_of_ble_eq_true rfl, Nat.le_of_ble_eq_true rfl⟩ hV hS hl.1 rfl rfl (Nat.le_of_ble_eq_true rfl) dX3_moves_74 (fun q_15 H locs hV hS hz hq => ?_)
            refine lv_if_eq (tgt := 84) hx hb dX3_moves_77 (by decide) (fun h_13 => ?_) (fun h_13 => ?_)
            · have hm := (if_pos h_13).symm.trans hm
              refine lv_aload_n hx hb dX3_moves_84 rfl (lv_at hl 1 rfl) ?_
              refine lv_iload_n hx hb dX3_moves_85 rfl (lv_at hl 2 rfl) ?_
              refine lv_aloadN hx hb dX3_moves_86 (lv_at hl 0 rfl) ?_
              cases hm
            · have hm := (if_neg h_13).symm.trans hm
              refine lv_iconst (v := 0) hx hb dX3_moves_80 (by decide) ?_
              refine lv_goto (tgt := 91) hx hb dX3_moves_81 (by decide) ?_
              exact m_iret hx hb hr hlocks (Option.some.inj hm) hV hS ⟨Nat.le_of_ble_eq_true rfl, Nat.le_of_ble_eq_true rfl⟩ dX3_moves_91
        | some d_12 =>
          rw [Option.elim_some] at hm
          obtain ⟨a_12, rfl, hn_12, hP_12⟩ := hv
          have hP_12 := dF.made hLn_12 hn_12 hP_12
          have hn_12 := Nat.le_trans hs_12 hn_12
          refine lv_astore (lv' := [(5, .ref a_12), (0, .ref b.1), (1, .int p0), (2, .int p1), (3, .int p2), (4, .int p3)]) hx hb dX3_moves_56 hl (by decide) rfl (fun ls hl => ?_)
          refine lv_aload_n hx hb dX3_moves_58 rfl (lv_at hl 1 rfl) ?_
          refine lv_iconst (v := 0) hx hb dX3_moves_59 (by decide) ?_
          refine lv_iconst (v := 0) hx hb dX3_moves_60 (by decide) ?_
          refine lv_aload hx hb dX3_moves_61 (lv_at hl 0 rfl) ?_
          obtain ⟨x_16, hx_16, hm⟩ := Option.bind_eq_some_iff.mp hm
          have hs_16 := hS.1.1
          have hLn_16 := m_hLn hLb hS
          have hL9 := hS.2
          refine qc_S hC hGx (k_X3_isDate l k d_12 a_12 hx_16) (gS w_1162 w_1163 w_27 w_1164) kk_X3_isDate (List.forall_mem_cons.mpr ⟨hP_12.1, (List.forall_mem_nil _)⟩) ⟨Nat.le_of_ble_eq_true rfl, Nat.le_of_ble_eq_true rfl⟩ ⟨Nat.le_of_ble_eq_true rfl, Nat.le_of_ble_eq_true rfl⟩ hS.1 hA hAB hl.1 rfl rfl (Nat.le_of_ble_eq_true rfl) dX3_moves_63 (fun v_16 H hv hz hq hS => ?_)
          have hS : mS b s.heap H _ := ⟨hS, hL9⟩
          have hV := hV.up hq
          have hP_12 := hP_12.up (fun x h9 _ => hq x h9)
          have hv : v_16 = some (.int x_16) := hv
          subst hv
          refine lv_if_ne (tgt := 73) hx hb dX3_moves_66 (by decide) (fun h_14 => ?_) (fun h_14 => ?_)
          · have hm := (if_neg h_14).symm.trans hm
            refine lv_iconst (v := 0) hx hb dX3_moves_73 (by decide) ?_
            obtain ⟨x_17, hx_17, hm⟩ := Option.bind_eq_some_iff.mp hm
            refine mc_V hC hGx hD (k_X3_fails l k b L hD (0 : Int32) (0 : Int32) (0 : Int32)  x_1.2 hx_17) (gV w_1056 w_1057 w_18 w_27 w_1058) kk_X3_fails rfl (List.forall_mem_nil _) hLb ⟨Nat.le_of_ble_eq_true rfl, Nat.le_of_ble_eq_true rfl⟩ ⟨Nat.le_of_ble_eq_true rfl, Nat.le_of_ble_eq_true rfl⟩ hV hS hl.1 rfl rfl (Nat.le_of_ble_eq_true rfl) dX3_moves_74 (fun q_17 H locs hV hS hz hq => ?_)
            have hP_12 := hP_12.up hq
            refine lv_if_eq (tgt := 84) hx hb dX3_moves_77 (by decide) (fun h_15 => ?_) (fun h_15 => ?_)
            · have hm := (if_pos h_15).symm.trans hm
              refine lv_aload_n hx hb dX3_moves_84 rfl (lv_at hl 1 rfl) ?_
              refine lv_iload_n hx hb dX3_moves_85 rfl (lv_at hl 2 rfl) ?_
              refine lv_aload hx hb dX3_moves_86 (lv_at hl 0 rfl) ?_
              obtain ⟨x_18, hx_18, hm⟩ := Option.bind_eq_some_iff.mp hm
              refine mc_V hC hGx hD (k_X3_gives l k b L hD p0 d_12 a_12 x_17.2 hx_18) (gV w_1059 w_1060 w_19 w_27 w_1061) kk_X3_gives rfl (List.forall_mem_cons.mpr ⟨hP_12, (List.forall_mem_nil _)⟩) hLb ⟨Nat.le_of_ble_eq_true rfl, Nat.le_of_ble_eq_true rfl⟩ ⟨Nat.le_of_ble_eq_true rfl, Nat.le_of_ble_eq_true rfl⟩ hV hS hl.1 rfl rfl (Nat.le_of_ble_eq_true rfl) dX3_moves_88 (fun q_18 H locs hV hS hz hq => ?_)
              have hP_12 := hP_12.up hq
              exact m_iret hx hb hr hlocks (Option.some.inj hm) hV hS ⟨Nat.le_of_ble_eq_true rfl, Nat.le_of_ble_eq_true rfl⟩ dX3_moves_91
            · have hm := (if_neg h_15).symm.trans hm
              refine lv_iconst (v := 0) hx hb dX3_moves_80 (by decide) ?_
              refine lv_goto (tgt := 91) hx hb dX3_moves_81 (by decide) ?_
              exact m_iret hx hb hr hlocks (Option.some.inj hm) hV hS ⟨Nat.le_of_ble_eq_true rfl, Nat.le_of_ble_eq_true rfl⟩ dX3_moves_91
          · have hm := (if_pos h_14).symm.trans hm
            refine lv_iconst (v := 1) hx hb dX3_moves_69 (by decide) ?_
            refine lv_goto (tgt := 74) hx hb dX3_moves_70 (by decide) ?_
            obtain ⟨x_19, hx_19, hm⟩ := Option.bind_eq_some_iff.mp hm
            refine mc_V hC hGx hD (k_X3_fails l k b L hD (0 : Int32) (0 : Int32) (1 : Int32)  x_1.2 hx_19) (gV w_1056 w_1057 w_18 w_27 w_1058) kk_X3_fails rfl (List.forall_mem_nil _) hLb ⟨Nat.le_of_ble_eq_true rfl, Nat.le_of_ble_eq_true rfl⟩ ⟨Nat.le_of_ble_eq_true rfl, Nat.le_of_ble_eq_true rfl⟩ hV hS hl.1 rfl rfl (Nat.le_of_ble_eq_true rfl) dX3_moves_74 (fun q_19 H locs hV hS hz hq => ?_)
            have hP_12 := hP_12.up hq
            refine lv_if_eq (tgt := 84) hx hb dX3_moves_77 (by decide) (fun h_16 => ?_) (fun h_16 => ?_)
            · have hm := (if_pos h_16).symm.trans hm
              refine lv_aload_n hx hb dX3_moves_84 rfl (lv_at hl 1 rfl) ?_
              refine lv_iload_n hx hb dX3_moves_85 rfl (lv_at hl 2 rfl) ?_
              refine lv_aload hx hb dX3_moves_86 (lv_at hl 0 rfl) ?_
              obtain ⟨x_20, hx_20, hm⟩ := Option.bind_eq_some_iff.mp hm
              refine mc_V hC hGx hD (k_X3_gives l k b L hD p0 d_12 a_12 x_19.2 hx_20) (gV w_1059 w_1060 w_19 w_27 w_1061) kk_X3_gives rfl (List.forall_mem_cons.mpr ⟨hP_12, (List.forall_mem_nil _)⟩) hLb ⟨Nat.le_of_ble_eq_true rfl, Nat.le_of_ble_eq_true rfl⟩ ⟨Nat.le_of_ble_eq_true rfl, Nat.le_of_ble_eq_true rfl⟩ hV hS hl.1 rfl rfl (Nat.le_of_ble_eq_true rfl) dX3_moves_88 (fun q_20 H locs hV hS hz hq => ?_)
              have hP_12 := hP_12.up hq
              exact m_iret hx hb hr hlocks (Option.some.inj hm) hV hS ⟨Nat.le_of_ble_eq_true rfl, Nat.le_of_ble_eq_true rfl⟩ dX3_moves_91
            · have hm := (if_neg h_16).symm.trans hm
              refine lv_iconst (v := 0) hx hb dX3_moves_80 (by decide) ?_
              refine lv_goto (tgt := 91) hx hb dX3_moves_81 (by decide) ?_
              exact m_iret hx hb hr hlocks (Option.some.inj hm) hV hS ⟨Nat.le_of_ble_eq_true rfl, Nat.le_of_ble_eq_true rfl⟩ dX3_moves_91
    · have hm := (if_neg h_2).symm.trans hm
      refine lv_iconst (v := 0) hx hb dX3_moves_31 (by decide) ?_
      exact m_iret hx hb hr hlocks (Option.some.inj hm) hV hS ⟨Nat.le_of_ble_eq_true rfl, Nat.le_of_ble_eq_true rfl⟩ dX3_moves_32
  · have hm := (if_pos h_1).symm.trans hm
    refine lv_iconst (v := 1) hx hb dX3_moves_19 (by decide) ?_
    refine lv_goto (tgt := 24) hx hb dX3_moves_20 (by decide) ?_
    refine lv_iconst (v := 0) hx hb dX3_moves_24 (by decide) ?_
    obtain ⟨x_21, hx_21, hm⟩ := Option.bind_eq_some_iff.mp hm
    refine mc_V hC hGx hD (k_X3_fails l k b L hD (m_X3_isNo p0) (1 : Int32) (0 : Int32)  z hx_21) (gV w_1056 w_1057 w_18 w_27 w_1058) kk_X3_fails rfl (List.forall_mem_nil _) hLb ⟨Nat.le_of_ble_eq_true rfl, Nat.le_of_ble_eq_true rfl⟩ ⟨Nat.le_of_ble_eq_true rfl, Nat.le_of_ble_eq_true rfl⟩ hV hS hl.1 rfl rfl (Nat.le_of_ble_eq_true rfl) dX3_moves_25 (fun q_21 H locs hV hS hz hq => ?_)
    refine lv_if_eq (tgt := 33) hx hb dX3_moves_28 (by decide) (fun h_17 => ?_) (fun h_17 => ?_)
    · have hm := (if_pos h_17).symm.trans hm
      refine lv_aload_n hx hb dX3_moves_33 rfl (lv_at hl 0 rfl) ?_
      refine va_get (D := kD k) (ci := 5) (v := .ref b.2.1) (C := RX3) (T := TX3) (N := 5) hx hb htg inG_X3 hown hGx.1 hV.1 0 rfl rfl 1 (by decide) (htg _ w_1012) (fun _ h9 => h9) rfl dX3_moves_34 ?_
      refine lv_iload_n hx hb dX3_moves_37 rfl (lv_at hl 1 rfl) ?_
      by_cases h_18 : p0 < 0 ∨ 6 ≤ p0.toNatClampNeg
      · have hm := (if_pos h_18).symm.trans hm
        cases hm
      have hm := (if_neg h_18).symm.trans hm
      refine m_ald hx hb hGx hV h_18 dX3_moves_38 (fun hP_22 => ?_)
      refine lv_iload_n hx hb dX3_moves_39 rfl (lv_at hl 2 rfl) ?_
      refine lv_iload hx hb dX3_moves_40 (lv_at hl 4 rfl) ?_
      refine lv_if_eq (tgt := 51) hx hb dX3_moves_42 (by decide) (fun h_19 => ?_) (fun h_19 => ?_)
      · have hm := (if_pos h_19).symm.trans hm
        refine lv_iload_n hx hb dX3_moves_51 rfl (lv_at hl 3 rfl) ?_
        refine lv_i2l hx hb dX3_moves_52 rfl ?_
        obtain ⟨x_23, hx_23, hm⟩ := Option.bind_eq_some_iff.mp hm
        have hs_23 := hS.1.1
        have hLn_23 := m_hLn hLb hS
        have hL9 := hS.2
        refine qc_S hC hGx (k_X3_moved l k (x_21.2.2.1 p0.toNatClampNeg) p1 p2.toInt64 (q_21 p0.toNatClampNeg) hx_23) (gS w_1149 w_1150 w_27 w_1151) kk_X3_moved (List.forall_mem_cons.mpr ⟨hP_22.1, (List.forall_mem_nil _)⟩) ⟨Nat.le_of_ble_eq_true rfl, Nat.le_of_ble_eq_true rfl⟩ ⟨Nat.le_of_ble_eq_true rfl, Nat.le_of_ble_eq_true rfl⟩ hS.1 hA hAB hl.1 rfl rfl (Nat.le_of_ble_eq_true rfl) dX3_moves_53 (fun v_23 H hv hz hq hS => ?_)
        have hS : mS b s.heap H _ := ⟨hS, hL9⟩
        have hV := hV.up hq
        cases x_23 with
        | none =>
          rw [Option.elim_none] at hm
          have hv : v_23 = some .null := hv
          subst hv
          refine lv_astoreN (lv' := [(5, .null), (0, .ref b.1), (1, .int p0), (2, .int p1), (3, .int p2), (4, .int p3)]) hx hb dX3_moves_56 hl (by decide) rfl (fun ls hl => ?_)
          refine lv_aload_n hx hb dX3_moves_58 rfl (lv_at hl 1 rfl) ?_
          refine lv_iconst (v := 0) hx hb dX3_moves_59 (by decide) ?_
          refine lv_iconst (v := 0) hx hb dX3_moves_60 (by decide) ?_
          refine lv_aloadN hx hb dX3_moves_61 (lv_at hl 0 rfl) ?_
          obtain ⟨x_24, hx_24, hm⟩ := Option.bind_eq_some_iff.mp hm
          have hs_24 := hS.1.1
          have hLn_24 := m_hLn hLb hS
          have hL9 := hS.2
          refine qc_S hC hGx (k_X3_isDateN l k   hx_24) (gS w_1162 w_1163 w_27 w_1164) kk_X3_isDate (List.forall_mem_nil _) ⟨Nat.le_of_ble_eq_true rfl, Nat.le_of_ble_eq_true rfl⟩ ⟨Nat.le_of_ble_eq_true rfl, Nat.le_of_ble_eq_true rfl⟩ hS.1 hA hAB hl.1 rfl rfl (Nat.le_of_ble_eq_true rfl) dX3_moves_63 (fun v_24 H hv hz hq hS => ?_)
          have hS : mS b s.heap H _ := ⟨hS, hL9⟩
          have hV := hV.up hq
          have hv : v_24 = some (.int x_24) := hv
          subst hv
          refine lv_if_ne (tgt := 73) hx hb dX3_moves_66 (by decide) (fun h_20 => ?_) (fun h_20 => ?_)
          · have hm := (if_neg h_20).symm.trans hm
            refine lv_iconst (v := 0) hx hb dX3_moves_73 (by decide) ?_
            obtain ⟨x_25, hx_25, hm⟩ := Option.bind_eq_some_iff.mp hm
            refine mc_V hC hGx hD (k_X3_fails l k b L hD (0 : Int32) (0 : Int32) (0 : Int32)  x_21.2 hx_25) (gV w_1056 w_1057 w_18 w_27 w_1058) kk_X3_fails rfl (List.forall_mem_nil _) hLb ⟨Nat.le_of_ble_eq_true rfl, Nat.le_of_ble_eq_true rfl⟩ ⟨Nat.le_of_ble_eq_true rfl, Nat.le_of_ble_eq_true rfl⟩ hV hS hl.1 rfl rfl (Nat.le_of_ble_eq_true rfl) dX3_moves_74 (fun q_25 H locs hV hS hz hq => ?_)
            refine lv_if_eq (tgt := 84) hx hb dX3_moves_77 (by decide) (fun h_21 => ?_) (fun h_21 => ?_)
            · have hm := (if_pos h_21).symm.trans hm
              refine lv_aload_n hx hb dX3_moves_84 rfl (lv_at hl 1 rfl) ?_
              refine lv_iload_n hx hb dX3_moves_85 rfl (lv_at hl 2 rfl) ?_
              refine lv_aloadN hx hb dX3_moves_86 (lv_at hl 0 rfl) ?_
              cases hm
            · have hm := (if_neg h_21).symm.trans hm
              refine lv_iconst (v := 0) hx hb dX3_moves_80 (by decide) ?_
              refine lv_goto (tgt := 91) hx hb dX3_moves_81 (by decide) ?_
              exact m_iret hx hb hr hlocks (Option.some.inj hm) hV hS ⟨Nat.le_of_ble_eq_true rfl, Nat.le_of_ble_eq_true rfl⟩ dX3_moves_91
          · have hm := (if_pos h_20).symm.trans hm
            refine lv_iconst (v := 1) hx hb dX3_moves_69 (by decide) ?_
            refine lv_goto (tgt := 74) hx hb dX3_moves_70 (by decide) ?_
            obtain ⟨x_26, hx_26, hm⟩ := Option.bind_eq_some_iff.mp hm
            refine mc_V hC hGx hD (k_X3_fails l k b L hD (0 : Int32) (0 : Int32) (1 : Int32)  x_21.2 hx_26) (gV w_1056 w_1057 w_18 w_27 w_1058) kk_X3_fails rfl (List.forall_mem_nil _) hLb ⟨Nat.le_of_ble_eq_true rfl, Nat.le_of_ble_eq_true rfl⟩ ⟨Nat.le_of_ble_eq_true rfl, Nat.le_of_ble_eq_true rfl⟩ hV hS hl.1 rfl rfl (Nat.le_of_ble_eq_true rfl) dX3_moves_74 (fun q_26 H locs hV hS hz hq => ?_)
            refine lv_if_eq (tgt := 84) hx hb dX3_moves_77 (by decide) (fun h_22 => ?_) (fun h_22 => ?_)
            · have hm := (if_pos h_22).symm.trans hm
              refine lv_aload_n hx hb dX3_moves_84 rfl (lv_at hl 1 rfl) ?_
              refine lv_iload_n hx hb dX3_moves_85 rfl (lv_at hl 2 rfl) ?_
              refine lv_aloadN hx hb dX3_moves_86 (lv_at hl 0 rfl) ?_
              cases hm
            · have hm := (if_neg h_22).symm.trans hm
              refine lv_iconst (v := 0) hx hb dX3_moves_80 (by decide) ?_
              refine lv_goto (tgt := 91) hx hb dX3_moves_81 (by decide) ?_
              exact m_iret hx hb hr hlocks (Option.some.inj hm) hV hS ⟨Nat.le_of_ble_eq_true rfl, Nat.le_of_ble_eq_true rfl⟩ dX3_moves_91
        | some d_23 =>
          rw [Option.elim_some] at hm
          obtain ⟨a_23, rfl, hn_23, hP_23⟩ := hv
          have hP_23 := dF.made hLn_23 hn_23 hP_23
          have hn_23 := Nat.le_trans hs_23 hn_23
          refine lv_astore (lv' := [(5, .ref a_23), (0, .ref b.1), (1, .int p0), (2, .int p1), (3, .int p2), (4, .int p3)]) hx hb dX3_moves_56 hl (by decide) rfl (fun ls hl => ?_)
          refine lv_aload_n hx hb dX3_moves_58 rfl (lv_at hl 1 rfl) ?_
          refine lv_iconst (v := 0) hx hb dX3_moves_59 (by decide) ?_
          refine lv_iconst (v := 0) hx hb dX3_moves_60 (by decide) ?_
          refine lv_aload hx hb dX3_moves_61 (lv_at hl 0 rfl) ?_
          obtain ⟨x_27, hx_27, hm⟩ := Option.bind_eq_some_iff.mp hm
          have hs_27 := hS.1.1
          have hLn_27 := m_hLn hLb hS
          have hL9 := hS.2
          refine qc_S hC hGx (k_X3_isDate l k d_23 a_23 hx_27) (gS w_1162 w_1163 w_27 w_1164) kk_X3_isDate (List.forall_mem_cons.mpr ⟨hP_23.1, (List.forall_mem_nil _)⟩) ⟨Nat.le_of_ble_eq_true rfl, Nat.le_of_ble_eq_true rfl⟩ ⟨Nat.le_of_ble_eq_true rfl, Nat.le_of_ble_eq_true rfl⟩ hS.1 hA hAB hl.1 rfl rfl (Nat.le_of_ble_eq_true rfl) dX3_moves_63 (fun v_27 H hv hz hq hS => ?_)
          have hS : mS b s.heap H _ := ⟨hS, hL9⟩
          have hV := hV.up hq
          have hP_23 := hP_23.up (fun x h9 _ => hq x h9)
          have hv : v_27 = some (.int x_27) := hv
          subst hv
          refine lv_if_ne (tgt := 73) hx hb dX3_moves_66 (by decide) (fun h_23 => ?_) (fun h_23 => ?_)
          · have hm := (if_neg h_23).symm.trans hm
            refine lv_iconst (v := 0) hx hb dX3_moves_73 (by decide) ?_
            obtain ⟨x_28, hx_28, hm⟩ := Option.bind_eq_some_iff.mp hm
            refine mc_V hC hGx hD (k_X3_fails l k b L hD (0 : Int32) (0 : Int32) (0 : Int32)  x_21.2 hx_28) (gV w_1056 w_1057 w_18 w_27 w_1058) kk_X3_fails rfl (List.forall_mem_nil _) hLb ⟨Nat.le_of_ble_eq_true rfl, Nat.le_of_ble_eq_true rfl⟩ ⟨Nat.le_of_ble_eq_true rfl, Nat.le_of_ble_eq_true rfl⟩ hV hS hl.1 rfl rfl (Nat.le_of_ble_eq_true rfl) dX3_moves_74 (fun q_28 H locs hV hS hz hq => ?_)
            have hP_23 := hP_23.up hq
            refine lv_if_eq (tgt := 84) hx hb dX3_moves_77 (by decide) (fun h_24 => ?_) (fun h_24 => ?_)
            · have hm := (if_pos h_24).symm.trans hm
              refine lv_aload_n hx hb dX3_moves_84 rfl (lv_at hl 1 rfl) ?_
              refine lv_iload_n hx hb dX3_moves_85 rfl (lv_at hl 2 rfl) ?_
              refine lv_aload hx hb dX3_moves_86 (lv_at hl 0 rfl) ?_
              obtain ⟨x_29, hx_29, hm⟩ := Option.bind_eq_some_iff.mp hm
              refine mc_V hC hGx hD (k_X3_gives l k b L hD p0 d_23 a_23 x_28.2 hx_29) (gV w_1059 w_1060 w_19 w_27 w_1061) kk_X3_gives rfl (List.forall_mem_cons.mpr ⟨hP_23, (List.forall_mem_nil _)⟩) hLb ⟨Nat.le_of_ble_eq_true rfl, Nat.le_of_ble_eq_true rfl⟩ ⟨Nat.le_of_ble_eq_true rfl, Nat.le_of_ble_eq_true rfl⟩ hV hS hl.1 rfl rfl (Nat.le_of_ble_eq_true rfl) dX3_moves_88 (fun q_29 H locs hV hS hz hq => ?_)
              have hP_23 := hP_23.up hq
              exact m_iret hx hb hr hlocks (Option.some.inj hm) hV hS ⟨Nat.le_of_ble_eq_true rfl, Nat.le_of_ble_eq_true rfl⟩ dX3_moves_91
            · have hm := (if_neg h_24).symm.trans hm
              refine lv_iconst (v := 0) hx hb dX3_moves_80 (by decide) ?_
              refine lv_goto (tgt := 91) hx hb dX3_moves_81 (by decide) ?_
              exact m_iret hx hb hr hlocks (Option.some.inj hm) hV hS ⟨Nat.le_of_ble_eq_true rfl, Nat.le_of_ble_eq_true rfl⟩ dX3_moves_91
          · have hm := (if_pos h_23).symm.trans hm
            refine lv_iconst (v := 1) hx hb dX3_moves_69 (by decide) ?_
            refine lv_goto (tgt := 74) hx hb dX3_moves_70 (by decide) ?_
            obtain ⟨x_30, hx_30, hm⟩ := Option.bind_eq_some_iff.mp hm
            refine mc_V hC hGx hD (k_X3_fails l k b L hD (0 : Int32) (0 : Int32) (1 : Int32)  x_21.2 hx_30) (gV w_1056 w_1057 w_18 w_27 w_1058) kk_X3_fails rfl (List.forall_mem_nil _) hLb ⟨Nat.le_of_ble_eq_true rfl, Nat.le_of_ble_eq_true rfl⟩ ⟨Nat.le_of_ble_eq_true rfl, Nat.le_of_ble_eq_true rfl⟩ hV hS hl.1 rfl rfl (Nat.le_of_ble_eq_true rfl) dX3_moves_74 (fun q_30 H locs hV hS hz hq => ?_)
            have hP_23 := hP_23.up hq
            refine lv_if_eq (tgt := 84) hx hb dX3_moves_77 (by decide) (fun h_25 => ?_) (fun h_25 => ?_)
            · have hm := (if_pos h_25).symm.trans hm
              refine lv_aload_n hx hb dX3_moves_84 rfl (lv_at hl 1 rfl) ?_
              refine lv_iload_n hx hb dX3_moves_85 rfl (lv_at hl 2 rfl) ?_
              refine lv_aload hx hb dX3_moves_86 (lv_at hl 0 rfl) ?_
              obtain ⟨x_31, hx_31, hm⟩ := Option.bind_eq_some_iff.mp hm
              refine mc_V hC hGx hD (k_X3_gives l k b L hD p0 d_23 a_23 x_30.2 hx_31) (gV w_1059 w_1060 w_19 w_27 w_1061) kk_X3_gives rfl (List.forall_mem_cons.mpr ⟨hP_23, (List.forall_mem_nil _)⟩) hLb ⟨Nat.le_of_ble_eq_true rfl, Nat.le_of_ble_eq_true rfl⟩ ⟨Nat.le_of_ble_eq_true rfl, Nat.le_of_ble_eq_true rfl⟩ hV hS hl.1 rfl rfl (Nat.le_of_ble_eq_true rfl) dX3_moves_88 (fun q_31 H locs hV hS hz hq => ?_)
              have hP_23 := hP_23.up hq
              exact m_iret hx hb hr hlocks (Option.some.inj hm) hV hS ⟨Nat.le_of_ble_eq_true rfl, Nat.le_of_ble_eq_true rfl⟩ dX3_moves_91
            · have hm := (if_neg h_25).symm.trans hm
              refine lv_iconst (v := 0) hx hb dX3_moves_80 (by decide) ?_
              refine lv_goto (tgt := 91) hx hb dX3_moves_81 (by decide) ?_
              exact m_iret hx hb hr hlocks (Option.some.inj hm) hV hS ⟨Nat.le_of_ble_eq_true rfl, Nat.le_of_ble_eq_true rfl⟩ dX3_moves_91
      · have hm := (if_neg h_19).symm.trans hm
        refine lv_iload_n hx hb dX3_moves_45 rfl (lv_at hl 3 rfl) ?_
        refine lv_ineg hx hb dX3_moves_46 ?_
        refine lv_i2l hx hb dX3_moves_47 rfl ?_
        refine lv_goto (tgt := 53) hx hb dX3_moves_48 (by decide) ?_
        obtain ⟨x_32, hx_32, hm⟩ := Option.bind_eq_some_iff.mp hm
        have hs_32 := hS.1.1
        have hLn_32 := m_hLn hLb hS
        have hL9 := hS.2
        refine qc_S hC hGx (k_X3_moved l k (x_21.2.2.1 p0.toNatClampNeg) p1 ((-p2).toInt64) (q_21 p0.toNatClampNeg) hx_32) (gS w_1149 w_1150 w_27 w_1151) kk_X3_moved (List.forall_mem_cons.mpr ⟨hP_22.1, (List.forall_mem_nil _)⟩) ⟨Nat.le_of_ble_eq_true rfl, Nat.le_of_ble_eq_true rfl⟩ ⟨Nat.le_of_ble_eq_true rfl, Nat.le_of_ble_eq_true rfl⟩ hS.1 hA hAB hl.1 rfl rfl (Nat.le_of_ble_eq_true rfl) dX3_moves_53 (fun v_32 H hv hz hq hS => ?_)
        have hS : mS b s.heap H _ := ⟨hS, hL9⟩
        have hV := hV.up hq
        cases x_32 with
        | none =>
          rw [Option.elim_none] at hm
          have hv : v_32 = some .null := hv
          subst hv
          refine lv_astoreN (lv' := [(5, .null), (0, .ref b.1), (1, .int p0), (2, .int p1), (3, .int p2), (4, .int p3)]) hx hb dX3_moves_56 hl (by decide) rfl (fun ls hl => ?_)
          refine lv_aload_n hx hb dX3_moves_58 rfl (lv_at hl 1 rfl) ?_
          refine lv_iconst (v := 0) hx hb dX3_moves_59 (by decide) ?_
          refine lv_iconst (v := 0) hx hb dX3_moves_60 (by decide) ?_
          refine lv_aloadN hx hb dX3_moves_61 (lv_at hl 0 rfl) ?_
          obtain ⟨x_33, hx_33, hm⟩ := Option.bind_eq_some_iff.mp hm
          have hs_33 := hS.1.1
          have hLn_33 := m_hLn hLb hS
          have hL9 := hS.2
          refine qc_S hC hGx (k_X3_isDateN l k   hx_33) (gS w_1162 w_1163 w_27 w_1164) kk_X3_isDate (List.forall_mem_nil _) ⟨Nat.le_of_ble_eq_true rfl, Nat.le_of_ble_eq_true rfl⟩ ⟨Nat.le_of_ble_eq_true rfl, Nat.le_of_ble_eq_true rfl⟩ hS.1 hA hAB hl.1 rfl rfl (Nat.le_of_ble_eq_true rfl) dX3_moves_63 (fun v_33 H hv hz hq hS => ?_)
          have hS : mS b s.heap H _ := ⟨hS, hL9⟩
          have hV := hV.up hq
          have hv : v_33 = some (.int x_33) := hv
          subst hv
          refine lv_if_ne (tgt := 73) hx hb dX3_moves_66 (by decide) (fun h_26 => ?_) (fun h_26 => ?_)
          · have hm := (if_neg h_26).symm.trans hm
            refine lv_iconst (v := 0) hx hb dX3_moves_73 (by decide) ?_
            obtain ⟨x_34, hx_34, hm⟩ := Option.bind_eq_some_iff.mp hm
            refine mc_V hC hGx hD (k_X3_fails l k b L hD (0 : Int32) (0 : Int32) (0 : Int32)  x_21.2 hx_34) (gV w_1056 w_1057 w_18 w_27 w_1058) kk_X3_fails rfl (List.forall_mem_nil _) hLb ⟨Nat.le_of_ble_eq_true rfl, Nat.le_of_ble_eq_true rfl⟩ ⟨Nat.le_of_ble_eq_true rfl, Nat.le_of_ble_eq_true rfl⟩ hV hS hl.1 rfl rfl (Nat.le_of_ble_eq_true rfl) dX3_moves_74 (fun q_34 H locs hV hS hz hq => ?_)
            refine lv_if_eq (tgt := 84) hx hb dX3_moves_77 (by decide) (fun h_27 => ?_) (fun h_27 => ?_)
            · have hm := (if_pos h_27).symm.trans hm
              refine lv_aload_n hx hb dX3_moves_84 rfl (lv_at hl 1 rfl) ?_
              refine lv_iload_n hx hb dX3_moves_85 rfl (lv_at hl 2 rfl) ?_
              refine lv_aloadN hx hb dX3_moves_86 (lv_at hl 0 rfl) ?_
              cases hm
            · have hm := (if_neg h_27).symm.trans hm
              refine lv_iconst (v := 0) hx hb dX3_moves_80 (by decide) ?_
              refine lv_goto (tgt := 91) hx hb dX3_moves_81 (by decide) ?_
              exact m_iret hx hb hr hlocks (Option.some.inj hm) hV hS ⟨Nat.le_of_ble_eq_true rfl, Nat.le_of_ble_eq_true rfl⟩ dX3_moves_91
          · have hm := (if_pos h_26).symm.trans hm
            refine lv_iconst (v := 1) hx hb dX3_moves_69 (by decide) ?_
            refine lv_goto (tgt := 74) hx hb dX3_moves_70 (by decide) ?_
            obtain ⟨x_35, hx_35, hm⟩ := Option.bind_eq_some_iff.mp hm
            refine mc_V hC hGx hD (k_X3_fails l k b L hD (0 : Int32) (0 : Int32) (1 : Int32)  x_21.2 hx_35) (gV w_1056 w_1057 w_18 w_27 w_1058) kk_X3_fails rfl (List.forall_mem_nil _) hLb ⟨Nat.le_of_ble_eq_true rfl, Nat.le_of_ble_eq_true rfl⟩ ⟨Nat.le_of_ble_eq_true rfl, Nat.le_of_ble_eq_true rfl⟩ hV hS hl.1 rfl rfl (Nat.le_of_ble_eq_true rfl) dX3_moves_74 (fun q_35 H locs hV hS hz hq => ?_)
            refine lv_if_eq (tgt := 84) hx hb dX3_moves_77 (by decide) (fun h_28 => ?_) (fun h_28 => ?_)
            · have hm := (if_pos h_28).symm.trans hm
              refine lv_aload_n hx hb dX3_moves_84 rfl (lv_at hl 1 rfl) ?_
              refine lv_iload_n hx hb dX3_moves_85 rfl (lv_at hl 2 rfl) ?_
              refine lv_aloadN hx hb dX3_moves_86 (lv_at hl 0 rfl) ?_
              cases hm
            · have hm := (if_neg h_28).symm.trans hm
              refine lv_iconst (v := 0) hx hb dX3_moves_80 (by decide) ?_
              refine lv_goto (tgt := 91) hx hb dX3_moves_81 (by decide) ?_
              exact m_iret hx hb hr hlocks (Option.some.inj hm) hV hS ⟨Nat.le_of_ble_eq_true rfl, Nat.le_of_ble_eq_true rfl⟩ dX3_moves_91
        | some d_32 =>
          rw [Option.elim_some] at hm
          obtain ⟨a_32, rfl, hn_32, hP_32⟩ := hv
          have hP_32 := dF.made hLn_32 hn_32 hP_32
          have hn_32 := Nat.le_trans hs_32 hn_32
          refine lv_astore (lv' := [(5, .ref a_32), (0, .ref b.1), (1, .int p0), (2, .int p1), (3, .int p2), (4, .int p3)]) hx hb dX3_moves_56 hl (by decide) rfl (fun ls hl => ?_)
          refine lv_aload_n hx hb dX3_moves_58 rfl (lv_at hl 1 rfl) ?_
          refine lv_iconst (v := 0) hx hb dX3_moves_59 (by decide) ?_
          refine lv_iconst (v := 0) hx hb dX3_moves_60 (by decide) ?_
          refine lv_aload hx hb dX3_moves_61 (lv_at hl 0 rfl) ?_
          obtain ⟨x_36, hx_36, hm⟩ := Option.bind_eq_some_iff.mp hm
          have hs_36 := hS.1.1
          have hLn_36 := m_hLn hLb hS
          have hL9 := hS.2
          refine qc_S hC hGx (k_X3_isDate l k d_32 a_32 hx_36) (gS w_1162 w_1163 w_27 w_1164) kk_X3_isDate (List.forall_mem_cons.mpr ⟨hP_32.1, (List.forall_mem_nil _)⟩) ⟨Nat.le_of_ble_eq_true rfl, Nat.le_of_ble_eq_true rfl⟩ ⟨Nat.le_of_ble_eq_true rfl, Nat.le_of_ble_eq_true rfl⟩ hS.1 hA hAB hl.1 rfl rfl (Nat.le_of_ble_eq_true rfl) dX3_moves_63 (fun v_36 H hv hz hq hS => ?_)
          have hS : mS b s.heap H _ := ⟨hS, hL9⟩
          have hV := hV.up hq
          have hP_32 := hP_32.up (fun x h9 _ => hq x h9)
          have hv : v_36 = some (.int x_36) := hv
          subst hv
          refine lv_if_ne (tgt := 73) hx hb dX3_moves_66 (by decide) (fun h_29 => ?_) (fun h_29 => ?_)
          · have hm := (if_neg h_29).symm.trans hm
            refine lv_iconst (v := 0) hx hb dX3_moves_73 (by decide) ?_
            obtain ⟨x_37, hx_37, hm⟩ := Option.bind_eq_some_iff.mp hm
            refine mc_V hC hGx hD (k_X3_fails l k b L hD (0 : Int32) (0 : Int32) (0 : Int32)  x_21.2 hx_37) (gV w_1056 w_1057 w_18 w_27 w_1058) kk_X3_fails rfl (List.forall_mem_nil _) hLb ⟨Nat.le_of_ble_eq_true rfl, Nat.le_of_ble_eq_true rfl⟩ ⟨Nat.le_of_ble_eq_true rfl, Nat.le_of_ble_eq_true rfl⟩ hV hS hl.1 rfl rfl (Nat.le_of_ble_eq_true rfl) dX3_moves_74 (fun q_37 H locs hV hS hz hq => ?_)
            have hP_32 := hP_32.up hq
            refine lv_if_eq (tgt := 84) hx hb dX3_moves_77 (by decide) (fun h_30 => ?_) (fun h_30 => ?_)
            · have hm := (if_pos h_30).symm.trans hm
              refine lv_aload_n hx hb dX3_moves_84 rfl (lv_at hl 1 rfl) ?_
              refine lv_iload_n hx hb dX3_moves_85 rfl (lv_at hl 2 rfl) ?_
              refine lv_aload hx hb dX3_moves_86 (lv_at hl 0 rfl) ?_
              obtain ⟨x_38, hx_38, hm⟩ := Option.bind_eq_some_iff.mp hm
              refine mc_V hC hGx hD (k_X3_gives l k b L hD p0 d_32 a_32 x_37.2 hx_38) (gV w_1059 w_1060 w_19 w_27 w_1061) kk_X3_gives rfl (List.forall_mem_cons.mpr ⟨hP_32, (List.forall_mem_nil _)⟩) hLb ⟨Nat.le_of_ble_eq_true rfl, Nat.le_of_ble_eq_true rfl⟩ ⟨Nat.le_of_ble_eq_true rfl, Nat.le_of_ble_eq_true rfl⟩ hV hS hl.1 rfl rfl (Nat.le_of_ble_eq_true rfl) dX3_moves_88 (fun q_38 H locs hV hS hz hq => ?_)
              have hP_32 := hP_32.up hq
              exact m_iret hx hb hr hlocks (Option.some.inj hm) hV hS ⟨Nat.le_of_ble_eq_true rfl, Nat.le_of_ble_eq_true rfl⟩ dX3_moves_91
            · have hm := (if_neg h_30).symm.trans hm
              refine lv_iconst (v := 0) hx hb dX3_moves_80 (by decide) ?_
              refine lv_goto (tgt := 91) hx hb dX3_moves_81 (by decide) ?_
              exact m_iret hx hb hr hlocks (Option.some.inj hm) hV hS ⟨Nat.le_of_ble_eq_true rfl, Nat.le_of_ble_eq_true rfl⟩ dX3_moves_91
          · have hm := (if_pos h_29).symm.trans hm
            refine lv_iconst (v := 1) hx hb dX3_moves_69 (by decide) ?_
            refine lv_goto (tgt := 74) hx hb dX3_moves_70 (by decide) ?_
            obtain ⟨x_39, hx_39, hm⟩ := Option.bind_eq_some_iff.mp hm
            refine mc_V hC hGx hD (k_X3_fails l k b L hD (0 : Int32) (0 : Int32) (1 : Int32)  x_21.2 hx_39) (gV w_1056 w_1057 w_18 w_27 w_1058) kk_X3_fails rfl (List.forall_mem_nil _) hLb ⟨Nat.le_of_ble_eq_true rfl, Nat.le_of_ble_eq_true rfl⟩ ⟨Nat.le_of_ble_eq_true rfl, Nat.le_of_ble_eq_true rfl⟩ hV hS hl.1 rfl rfl (Nat.le_of_ble_eq_true rfl) dX3_moves_74 (fun q_39 H locs hV hS hz hq => ?_)
            have hP_32 := hP_32.up hq
            refine lv_if_eq (tgt := 84) hx hb dX3_moves_77 (by decide) (fun h_31 => ?_) (fun h_31 => ?_)
            · have hm := (if_pos h_31).symm.trans hm
              refine lv_aload_n hx hb dX3_moves_84 rfl (lv_at hl 1 rfl) ?_
              refine lv_iload_n hx hb dX3_moves_85 rfl (lv_at hl 2 rfl) ?_
              refine lv_aload hx hb dX3_moves_86 (lv_at hl 0 rfl) ?_
              obtain ⟨x_40, hx_40, hm⟩ := Option.bind_eq_some_iff.mp hm
              refine mc_V hC hGx hD (k_X3_gives l k b L hD p0 d_32 a_32 x_39.2 hx_40) (gV w_1059 w_1060 w_19 w_27 w_1061) kk_X3_gives rfl (List.forall_mem_cons.mpr ⟨hP_32, (List.forall_mem_nil _)⟩) hLb ⟨Nat.le_of_ble_eq_true rfl, Nat.le_of_ble_eq_true rfl⟩ ⟨Nat.le_of_ble_eq_true rfl, Nat.le_of_ble_eq_true rfl⟩ hV hS hl.1 rfl rfl (Nat.le_of_ble_eq_true rfl) dX3_moves_88 (fun q_40 H locs hV hS hz hq => ?_)
              have hP_32 := hP_32.up hq
              exact m_iret hx hb hr hlocks (Option.some.inj hm) hV hS ⟨Nat.le_of_ble_eq_true rfl, Nat.le_of_ble_eq_true rfl⟩ dX3_moves_91
            · have hm := (if_neg h_31).symm.trans hm
              refine lv_iconst (v := 0) hx hb dX3_moves_80 (by decide) ?_
              refine lv_goto (tgt := 91) hx hb dX3_moves_81 (by decide) ?_
              exact m_iret hx hb hr hlocks (Option.some.inj hm) hV hS ⟨Nat.le_of_ble_eq_true rfl, Nat.le_of_ble_eq_true rfl⟩ dX3_moves_91
    · have hm := (if_neg h_17).symm.trans hm
      refine lv_iconst (v := 0) hx hb dX3_moves_31 (by decide) ?_
      exact m_iret hx hb hr hlocks (Option.some.inj hm) hV hS ⟨Nat.le_of_ble_eq_true rfl, Nat.le_of_ble_eq_true rfl⟩ dX3_moves_32
def o_X3_plusDays (p0 : Int32) (p1 : Int32) (z : MS) : Option (Int32 × MS) := ((o_X3_moves p0 (0 : Int32) p1 (0 : Int32) z).bind fun x_1 => some (x_1.1, x_1.2))
theorem kk_X3_plusDays : pK yX3_plusDays wsX3_plusDays cX3_plusDays 3 (some .int) 2 := ⟨⟨_, rfl⟩, by decide +kernel, by decide +kernel, by decide +kernel⟩
set_option maxRecDepth 100000 in
set_option maxHeartbeats 4000000 in
theorem k_X3_plusDays (l : Launch) (k : Kx) (b : CA) (L : List Nat) (hD : mD k b L) (p0 : Int32) (p1 : Int32) (z : MS) {r : (Int32 × MS)} (hm : o_X3_plusDays p0 p1 z = some r) : mM l k b L yX3_plusDays wsX3_plusDays 7 183 1 3 [.int p0, .int p1] [] z (some (.int r.1)) r.2 := by
  intro sz q
  refine Met.ofW (cc := cX3_plusDays) (maxL := 3) (ret := (some .int)) (by decide) rfl ?_
  intro p e s m args below meth c s₁ B hml hv
  obtain ⟨rfl, rfl, hGx, hV, hLb, hds⟩ := hv
  have hx := B.exec
  have hb := B.bytes
  have hr := B.returns
  have hts := atoms_spec (ws := wsX3_plusDays) B.pre
  have hown : s.vm.findClass RX3 = some m.cls := findClass_of_methodNamed B.named
  have hlocks := B.notSynchronized
  have htg : ∀ w ∈ GL, w.before _ s = true := fun w h => hts w (List.mem_cons_of_mem _ h)
  have hC : CallFix p m c cX3_plusDays 3 s _ wsX3_plusDays RX3 := ⟨hx, hb, hml, hown, hts⟩
  have hA : ∀ q, s.heap.size ≤ q → cA b s.heap.size q := fun q h => cA.new q h
  have hAB : ∀ q, cA b s.heap.size q → kB k ≤ q := hD.high hGx.2.1
  have hS : mS b s.heap s.heap [] := mS.rf
  have hl := lv_entry ([.ref b.1, .int p0, .int p1]) (n := 3) (Nat.le_of_ble_eq_true rfl)
  rw [lg_entry_eq]
  generalize (lg_sl ([.ref b.1, .int p0, .int p1]) ++ List.replicate (3 - (lg_sl ([.ref b.1, .int p0, .int p1])).length) Slot.unset).toArray = ls at hl ⊢
  have hl : lv_has ls 3 [(0, .ref b.1), (1, .int p0), (2, .int p1)] := hl
  refine lv_aload_n hx hb dX3_plusDays_0 rfl (lv_at hl 0 rfl) ?_
  refine lv_iload_n hx hb dX3_plusDays_1 rfl (lv_at hl 1 rfl) ?_
  refine lv_iconst (v := 0) hx hb dX3_plusDays_2 (by decide) ?_
  refine lv_iload_n hx hb dX3_plusDays_3 rfl (lv_at hl 2 rfl) ?_
  refine lv_iconst (v := 0) hx hb dX3_plusDays_4 (by decide) ?_
  obtain ⟨x_1, hx_1, hm⟩ := Option.bind_eq_some_iff.mp hm
  refine mc_V hC hGx hD (k_X3_moves l k b L hD p0 (0 : Int32) p1 (0 : Int32)  z hx_1) (gV w_1144 w_1145 w_20 w_27 w_1146) kk_X3_moves rfl (List.forall_mem_nil _) hLb ⟨Nat.le_of_ble_eq_true rfl, Nat.le_of_ble_eq_true rfl⟩ ⟨Nat.le_of_ble_eq_true rfl, Nat.le_of_ble_eq_true rfl⟩ hV hS hl.1 rfl rfl (Nat.le_of_ble_eq_true rfl) dX3_plusDays_5 (fun q_1 H locs hV hS hz hq => ?_)
  exact m_iret hx hb hr hlocks (Option.some.inj hm) hV hS ⟨Nat.le_of_ble_eq_true rfl, Nat.le_of_ble_eq_true rfl⟩ dX3_plusDays_8
