theorem m_end {k : Kx} {H : Heap} {x q1 q r0 r1 d0 d1 d2 d3 d4 d5 n : Nat} {f : Nat → Option Nat}
    (hP : va_P (kD k) vwCl [(x, .inr (5, [.int 0, .ref q1, .ref q, .int 0, .int 0])), (q1, .inl (kT k, 6, .inr (.inr (.inr (.inr f)))))] H)
    (hM : va_P (kD k) vwCl (sW k q r0 r1) H)
    (e0 : f 0 = some d0) (e1 : f 1 = some d1) (e2 : f 2 = some d2) (e3 : f 3 = some d3) (e4 : f 4 = some d4) (e5 : f 5 = some d5)
    (h0 : dP k d0 (1970, 1, 1) H) (h1 : dP k d1 (1970, 1, 1) H) (h2 : dP k d2 (1970, 1, 1) H) (h3 : dP k d3 (1970, 1, 1) H) (h4 : dP k d4 (1970, 1, 1) H) (h5 : dP k d5 (1970, 1, 1) H)
    (g0 : d0 ≠ x ∧ d0 ≠ q1 ∧ n ≤ d0 ∧ d0 ≠ q ∧ d0 ≠ r0 ∧ d0 ≠ r1) (g1 : d1 ≠ x ∧ d1 ≠ q1 ∧ n ≤ d1 ∧ d1 ≠ q ∧ d1 ≠ r0 ∧ d1 ≠ r1) (g2 : d2 ≠ x ∧ d2 ≠ q1 ∧ n ≤ d2 ∧ d2 ≠ q ∧ d2 ≠ r0 ∧ d2 ≠ r1) (g3 : d3 ≠ x ∧ d3 ≠ q1 ∧ n ≤ d3 ∧ d3 ≠ q ∧ d3 ≠ r0 ∧ d3 ≠ r1) (g4 : d4 ≠ x ∧ d4 ≠ q1 ∧ n ≤ d4 ∧ d4 ≠ q ∧ d4 ≠ r0 ∧ d4 ≠ r1) (g5 : d5 ≠ x ∧ d5 ≠ q1 ∧ n ≤ d5 ∧ d5 ≠ q ∧ d5 ≠ r0 ∧ d5 ≠ r1)
    (hq1x : q1 ≠ x) (hq1 : n ≤ q1) (hqr0 : q ≠ r0) (hqr1 : q ≠ r1) (hrr : r0 ≠ r1)
    (hqx : q ≠ x ∧ r0 ≠ x ∧ r1 ≠ x ∧ q ≠ q1 ∧ r0 ≠ q1 ∧ r1 ≠ q1 ∧ n ≤ q ∧ n ≤ r0 ∧ n ≤ r1) :
    ∃ (b : CA) (w : Nat → Nat), b.1 = x ∧ va_D (xA x n) (mW k b w z0M) ∧ mV k b [b.1, b.2.1, b.2.2.1, b.2.2.2.1, b.2.2.2.2] w z0M H ∧ (∀ q, c5 b q → q = x ∨ n ≤ q) ∧ ∀ i : Nat, i < 6 → n ≤ w i := by
  have key : ∀ i : Nat, i < 6 → ∃ d, f i = some d ∧ dP k d (1970, 1, 1) H ∧ (d ≠ x ∧ d ≠ q1 ∧ n ≤ d ∧ d ≠ q ∧ d ≠ r0 ∧ d ≠ r1) := fun i hi => by
    rcases (show i = 0 ∨ i = 1 ∨ i = 2 ∨ i = 3 ∨ i = 4 ∨ i = 5 by omega) with rfl | rfl | rfl | rfl | rfl | rfl
    · exact ⟨d0, e0, h0, g0⟩
    · exact ⟨d1, e1, h1, g1⟩
    · exact ⟨d2, e2, h2, g2⟩
    · exact ⟨d3, e3, h3, g3⟩
    · exact ⟨d4, e4, h4, g4⟩
    · exact ⟨d5, e5, h5, g5⟩
  clear e0 e1 e2 e3 e4 e5 h0 h1 h2 h3 h4 h5 g0 g1 g2 g3 g4 g5
  have hw : ∀ i : Nat, i < 6 → f i = some ((f i).getD 0) ∧ dP k ((f i).getD 0) (1970, 1, 1) H ∧ ((f i).getD 0 ≠ x ∧ (f i).getD 0 ≠ q1 ∧ n ≤ (f i).getD 0 ∧ (f i).getD 0 ≠ q ∧ (f i).getD 0 ≠ r0 ∧ (f i).getD 0 ≠ r1) := fun i hi => by
    obtain ⟨d, e, h⟩ := key i hi
    rw [e]
    exact ⟨rfl, h⟩
  generalize hwe : (fun i => (f i).getD 0) = w at *
  have hw : ∀ i : Nat, i < 6 → f i = some (w i) ∧ dP k (w i) (1970, 1, 1) H ∧ (w i ≠ x ∧ w i ≠ q1 ∧ n ≤ w i ∧ w i ≠ q ∧ w i ≠ r0 ∧ w i ≠ r1) := fun i hi => by
    rw [← hwe]; exact hw i hi
  have hz : ∀ i : Nat, i < 6 → z0M.2.1 i = (1970, 1, 1) := fun i hi => by
    rcases (show i = 0 ∨ i = 1 ∨ i = 2 ∨ i = 3 ∨ i = 4 ∨ i = 5 by omega) with rfl | rfl | rfl | rfl | rfl | rfl <;> rfl
  refine ⟨(x, q1, q, r0, r1), w, rfl, ?_, ⟨?_, fun i hi => ⟨by rw [hz i hi]; exact (hw i hi).2.1, fun y hy => ?_⟩⟩, fun y h => ?_, fun i hi => (hw i hi).2.2.2.2.1⟩
  · refine va_D.app (w1 := [(x, .inr (5, [.int 0, .ref q1, .ref q, .int 0, .int 0])), (q1, .inl (kT k, 6, .inr (.inr (.inr (.inr (fun i => some (w i)))))))]) (w2 := sW k q r0 r1) (va_D2 (Ne.symm hq1x) (Or.inl rfl) (Or.inr hq1)) (va_D3 hqr0 hqr1 hrr (Or.inr hqx.2.2.2.2.2.2.1) (Or.inr hqx.2.2.2.2.2.2.2.1) (Or.inr hqx.2.2.2.2.2.2.2.2)) (fun i j p r hi hj e => ?_)
    match i, j, hi, hj with
    | 0, 0, hi, hj => cases hi; cases hj; exact hqx.1 e.symm
    | 0, 1, hi, hj => cases hi; cases hj; exact hqx.2.1 e.symm
    | 0, 2, hi, hj => cases hi; cases hj; exact hqx.2.2.1 e.symm
    | 1, 0, hi, hj => cases hi; cases hj; exact hqx.2.2.2.1 e.symm
    | 1, 1, hi, hj => cases hi; cases hj; exact hqx.2.2.2.2.1 e.symm
    | 1, 2, hi, hj => cases hi; cases hj; exact hqx.2.2.2.2.2.1 e.symm
    | 0, j + 3, _, hj => cases hj
    | 1, j + 3, _, hj => cases hj
    | i + 2, _, hi, _ => cases hi
  · refine va_P.app (w1 := [(x, .inr (5, [.int 0, .ref q1, .ref q, .int 0, .int 0])), (q1, .inl (kT k, 6, .inr (.inr (.inr (.inr (fun i => some (w i)))))))]) (w2 := sW k q r0 r1) (fun j p hj => ?_) hM
    match j, hj with
    | 0, hj => cases hj; exact hP 0 _ rfl
    | 1, hj =>
      cases hj
      have h9 : H[q1]? = some (arrV (kT k) 6 fun j => va_rf (f j)) := hP 1 _ rfl
      show H[q1]? = some (arrV (kT k) 6 fun j => va_rf (some (w j)))
      rw [h9]
      exact congrArg some (arrV_congr (fun j hj => by rw [(hw j hj).1]))
    | j + 2, hj => cases hj
  · simp only [List.mem_cons, List.not_mem_nil, or_false] at hy
    have := (hw i hi).2.2
    omega
  · rcases h with h | h | h | h | h
    · exact Or.inl h
    · exact Or.inr (h ▸ hq1)
    · exact Or.inr (h ▸ hqx.2.2.2.2.2.2.1)
    · exact Or.inr (h ▸ hqx.2.2.2.2.2.2.2.1)
    · exact Or.inr (h ▸ hqx.2.2.2.2.2.2.2.2)

theorem kk_X3_init : pK yX3_init wsX3_init cX3_init 2 none 0 := ⟨⟨_, rfl⟩, by decide +kernel, by decide +kernel, by decide +kernel⟩
set_option maxRecDepth 100000 in
set_option maxHeartbeats 4000000 in
theorem c_X3_init (l : Launch) (k : Kx) (x : Nat) : Met l yX3_init wsX3_init { frames := 2, cells := 10, slots := 40, locals := 80 } (va_Pc [.ref x] (miPc k x)) (miQ k x) 10 40 (fun q => q = x) := by
  refine Met.ofW (cc := cX3_init) (maxL := 2) (ret := none) (by decide) rfl ?_
  intro p e s m args below meth c s₁ B hml hv
  obtain ⟨rfl, hGx, hN, hxb, hAY⟩ := hv
  have hx := B.exec
  have hb := B.bytes
  have hr := B.returns
  have hts9 := atoms_spec (ws := wsX3_init) B.pre
  have hown : s.vm.findClass RX3 = some m.cls := findClass_of_methodNamed B.named
  have hlocks := B.notSynchronized
  have htg : ∀ w ∈ GL, w.before _ s = true := fun w h => hts9 w (List.mem_cons_of_mem _ h)
  have hC : CallFix p m c cX3_init 2 s _ wsX3_init RX3 := ⟨hx, hb, hml, hown, hts9⟩
  have hl := lv_entry ([.ref x]) (n := 2) (Nat.le_of_ble_eq_true rfl)
  rw [lg_entry_eq]
  generalize (lg_sl ([.ref x]) ++ List.replicate (2 - (lg_sl ([.ref x])).length) Slot.unset).toArray = ls at hl ⊢
  have hl : lv_has ls 2 [(0, .ref x)] := hl
  have hin : meth.name = "<init>" := (name_of_methodNamed B.named B.method).1
  have hxl : x < s.heap.size := (hN 0 _ rfl).lt
  have hN : va_P (kD k) vwCl [(x, .inr (5, [.int 0, .null, .null, .int 0, .int 0]))] s.heap := hN
  refine lv_aload_n hx hb dX3_init_0 rfl (lv_at hl 0 rfl) ?_
  refine W.objInit hx hb hown (htg _ w_990) (htg _ w_54) (htg _ w_55) rfl (by rw [hml]; exact hl.1) rfl dX3_init_1 (Nat.le_of_ble_eq_true rfl) (Nat.le_of_ble_eq_true rfl) ?_
  refine W.eq (g2 := F0 m 4 ls []) rfl ?_
  refine lv_aload_n hx hb dX3_init_4 rfl (lv_at hl 0 rfl) ?_
  refine lv_bipush (v := 6) hx hb dX3_init_5 (by decide) ?_
  refine va_newq (ws := []) (A := nA s.heap.size) (H0 := s.heap) (N' := 6) (C := "DatesoloModel$Date") hx hb hown (htg _ w_991) hGx.2.2.2.2.2.2.2.2.2.2.1 hGx.1 (fun j y h => by cases h) ⟨(fun i j y z h _ _ => by cases h), (fun j y h => by cases h)⟩ va_S.rf (fun q h => h) (by decide) (by decide) (by decide) (Nat.le_of_ble_eq_true rfl) (Nat.le_of_ble_eq_true rfl) dX3_init_7 (fun q1 cA H hK hQ hDq hS0 => ?_)
  have hcA : cA = kT k := Option.some.inj ((hK.2 5 _ rfl).2.choose_spec.choose_spec.2.2.2.symm.trans (hGx.1.2 3 _ rfl).2.choose_spec.choose_spec.2.2.2)
  subst hcA
  have hq1 : s.heap.size ≤ q1 := hDq.2 0 _ rfl
  have hq1x : q1 ≠ x := by omega
  have hQ : va_P (kD k) vwCl [(q1, .inl (kT k, 6, .inr (.inr (.inr (.inr (fun _ => none))))))] H := hQ
  have h0H : ∀ y : Nat, y < s.heap.size → H[y]? = s.heap[y]? := fun y h => hS0.2.1 y h (Nat.not_le.mpr h)
  have hzH := hS0.1
  have hN := va_P.up1 hN (fun h => h0H x h)
  have hlx : ∀ y ∈ ([] : List Loc), y.base = x := fun _ h => absurd h List.not_mem_nil
  refine va_putF (D := kD k) (ci := 5) (v := .ref q1) (ty := .array (.object "DatesoloModel$Date")) (C := RX3) (T := TX3) (N := 5) (A := fun q => q = x) (H0 := H) hx hb htg inG_X3 tyX3 tyX3_ok nmX3 hown hGx.1 hN (va_D1 (A := fun q => q = x) rfl) ⟨Nat.le_refl _, fun _ _ _ => rfl, hlx⟩ 0 rfl rfl 1 (by decide) (htg _ w_1012) (fun _ h9 => h9) rfl hin rfl (by decide +kernel) rfl rfl (Nat.le_of_ble_eq_true rfl) dX3_init_10 (fun H1 locs hN _ hS1 => ?_)
  have hN : va_P (kD k) vwCl [(x, .inr (5, [.int 0, .ref q1, .null, .int 0, .int 0]))] H1 := hN
  have hQ := va_P.up1 hQ (fun h => hS1.2.1 q1 h hq1x)
  have hlx := hS1.2.2
  have hS : va_S (fun q => q = x) s.heap H1 locs := ⟨Nat.le_trans hzH hS1.1, fun y h1 h2 => (hS1.2.1 y (by omega) h2).trans (h0H y h1), hlx⟩
  clear hS1 h0H hzH hS0
  generalize H1 = H at *
  refine lv_aload_n hx hb dX3_init_13 rfl (lv_at hl 0 rfl) ?_
  refine lv_iconst (v := 2) hx hb dX3_init_14 (by decide) ?_
  refine lv_iconst (v := 3) hx hb dX3_init_15 (by decide) ?_
  have hq1l : q1 < H.size := (hQ 0 _ rfl).lt
  have hS9 := hS.1
  refine m_mna hx hb hown (htg _ w_992) hAY (htg _ w_77) hGx hS ⟨Nat.le_of_ble_eq_true rfl, Nat.le_of_ble_eq_true rfl⟩ dX3_init_16 (fun q r0 r1 H1 hqn hr0 hr1 hqr0 hqr1 hrr hM hz1 hk1 hS => ?_)
  have hs9 := hS.1
  have hN := va_P.up1 hN (fun h => hk1 x h)
  have hQ := va_P.up1 hQ (fun h => hk1 q1 h)
  have hxH : x < H.size ∧ s.heap.size ≤ H.size := ⟨by have := hS9; omega, hS9⟩
  have hqx : q ≠ x ∧ r0 ≠ x ∧ r1 ≠ x ∧ q ≠ q1 ∧ r0 ≠ q1 ∧ r1 ≠ q1 ∧ s.heap.size ≤ q ∧ s.heap.size ≤ r0 ∧ s.heap.size ≤ r1 := by omega
  clear hk1 hqn hr0 hr1 hxH hS9 hq1l hz1
  generalize H1 = H at *
  refine va_putF (D := kD k) (ci := 5) (v := .ref q) (ty := .array (.array .int)) (C := RX3) (T := TX3) (N := 5) (A := fun q => q = x) (H0 := H) hx hb htg inG_X3 tyX3 tyX3_ok nmX3 hown hGx.1 hN (va_D1 (A := fun q => q = x) rfl) ⟨Nat.le_refl _, fun _ _ _ => rfl, hlx⟩ 0 rfl rfl 2 (by decide) (htg _ w_1013) (fun _ h9 => h9) rfl hin rfl (by decide +kernel) rfl rfl (Nat.le_of_ble_eq_true rfl) dX3_init_20 (fun H1 locs hN _ hS1 => ?_)
  have hN : va_P (kD k) vwCl [(x, .inr (5, [.int 0, .ref q1, .ref q, .int 0, .int 0]))] H1 := hN
  have hQ := va_P.up1 hQ (fun h => hS1.2.1 q1 h hq1x)
  have hM : va_P (kD k) vwCl (sW k q r0 r1) H1 := va_P.up3 hM (fun j p hj h => hS1.2.1 p.1 h (by
    match j, hj with
    | 0, hj => cases hj; exact hqx.1
    | 1, hj => cases hj; exact hqx.2.1
    | 2, hj => cases hj; exact hqx.2.2.1
    | j + 3, hj => cases hj))
  have hlx := hS1.2.2
  have hS : va_S (xA x s.heap.size) s.heap H1 locs := ⟨Nat.le_trans hs9 hS1.1, fun y h1 h2 => (hS1.2.1 y (by omega) (fun h => h2 (Or.inl h))).trans (hS.2.1 y h1 (fun h => h2 (Or.inl h))), fun y hy => Or.inl (hlx y hy)⟩
  have hlq : ∀ y ∈ locs, y.base = x ∨ y.base = q1 := fun y hy => Or.inl (hlx y hy)
  clear hS1 hlx hs9
  generalize H1 = H at *
  have hA : ∀ q, s.heap.size ≤ q → xA x s.heap.size q := fun q h => Or.inr h
  have hAB : ∀ q, xA x s.heap.size q → kB k ≤ q := fun q h => h.elim (fun e => e ▸ hxb) (fun h => Nat.le_trans hGx.2.1 h)
  have hP : va_P (kD k) vwCl [(x, .inr (5, [.int 0, .ref q1, .ref q, .int 0, .int 0])), (q1, .inl (kT k, 6, .inr (.inr (.inr (.inr (fun _ => none))))))] H := va_P.app (w1 := [(x, _)]) hN hQ
  clear hN hQ
  refine lv_iconst (v := 0) hx hb dX3_init_23 (by decide) ?_
  refine lv_istore_n (lv' := [(1, .int 0), (0, .ref x)]) hx hb dX3_init_24 rfl hl (by decide) rfl (fun ls hl => ?_)
  refine lv_iload_n hx hb dX3_init_25 rfl (lv_at hl 0 rfl) ?_
  refine lv_bipush (v := 6) hx hb dX3_init_26 (by decide) ?_
  refine lv_icmp_ge (tgt := 55) hx hb dX3_init_28 (by decide) (fun h => absurd h (by decide)) (fun _ => ?_)
  refine lv_aload_n hx hb dX3_init_31 rfl (lv_at hl 1 rfl) ?_
  refine va_get (D := kD k) (ci := 5) (v := .ref q1) (C := RX3) (T := TX3) (N := 5) hx hb htg inG_X3 hown hGx.1 hP 0 rfl rfl 1 (by decide) (htg _ w_1012) (fun _ h9 => h9) rfl dX3_init_32 ?_
  refine lv_iload_n hx hb dX3_init_35 rfl (lv_at hl 0 rfl) ?_
  have hsz9 := hS.1
  have h8_0 : q1 < H.size ∧ q < H.size ∧ r0 < H.size ∧ r1 < H.size := ⟨(hP 1 _ rfl).lt, (hM 0 _ rfl).lt, (hM 1 _ rfl).lt, (hM 2 _ rfl).lt⟩
  refine m_new2 hx hb htg hown (htg _ w_991) (htg _ w_993) (htg _ w_28) hGx hS ⟨Nat.le_of_ble_eq_true rfl, Nat.le_of_ble_eq_true rfl⟩ dX3_init_36 (fun d0 H1 hn hz1 hN1 hk1 hS => ?_)
  refine lv_dup hx hb dX3_init_39 rfl ?_
  refine lv_sipush (v := 1970) hx hb dX3_init_40 (by decide) ?_
  refine lv_iconst (v := 1) hx hb dX3_init_43 (by decide) ?_
  refine lv_iconst (v := 1) hx hb dX3_init_44 (by decide) ?_
  refine q_init (v := (1970, 1, 1)) hC hGx (gC w_996) (htg _ w_994) (htg _ w_28) (htg _ w_995) hN1 (Nat.le_trans hsz9 hn) ⟨Nat.le_of_ble_eq_true rfl, Nat.le_of_ble_eq_true rfl⟩ ⟨Nat.le_of_ble_eq_true rfl, Nat.le_of_ble_eq_true rfl⟩ hS hA hAB hl.1 rfl (Nat.le_of_ble_eq_true rfl) dX3_init_45 (fun H2 hd_0 hz2 hk2 hS => ?_)
  have hk : ∀ y : Nat, y < H.size → H2[y]? = H[y]? := fun y h => (hk2 y (by omega) (by omega)).trans (hk1 y h)
  have hP := va_P.up3 hP (fun j p hj h => hk p.1 h)
  have hM := va_P.up3 hM (fun j p hj h => hk p.1 h)
  have hx0 : d0 ≠ x ∧ d0 ≠ q1 ∧ s.heap.size ≤ d0 ∧ d0 ≠ q ∧ d0 ≠ r0 ∧ d0 ≠ r1 := by omega
  clear hk hk1 hk2 hz1 hz2 hn hN1 hsz9 h8_0
  generalize H2 = H at *
  refine va_astqM (D := kD k) (A := fun q => q = x ∨ q = q1) (H0 := H) (E := "DatesoloModel$Date") hx hb hGx.1 hP (va_D2 (Ne.symm hq1x) (Or.inl rfl) (Or.inr rfl)) ⟨Nat.le_refl _, fun _ _ _ => rfl, hlq⟩ 1 3 rfl rfl (dF.any hGx hd_0) (show ¬ ((0 : Int32) < 0 ∨ 6 ≤ (0 : Int32).toNatClampNeg) by decide) dX3_init_48 (fun H1 locs hP _ hS1 => ?_)
  have hP : va_P (kD k) vwCl [(x, .inr (5, [.int 0, .ref q1, .ref q, .int 0, .int 0])), (q1, .inl (kT k, 6, .inr (.inr (.inr (.inr (va_up (fun _ => none) (0 : Int32).toNatClampNeg (some d0)))))))] H1 := hP
  have hM := va_P.up3 hM (fun j p hj h => hS1.2.1 p.1 h (by
    match j, hj with
    | 0, hj => cases hj; exact fun h => h.elim hqx.1 hqx.2.2.2.1
    | 1, hj => cases hj; exact fun h => h.elim hqx.2.1 hqx.2.2.2.2.1
    | 2, hj => cases hj; exact fun h => h.elim hqx.2.2.1 hqx.2.2.2.2.2.1
    | j + 3, hj => cases hj))
  have hd_0 := hd_0.up (hS1.2.1 _ hd_0.lt (fun h => h.elim hx0.1 hx0.2.1))
  have hlq := hS1.2.2
  have hS : va_S (xA x s.heap.size) s.heap H1 locs := ⟨Nat.le_trans hS.1 hS1.1, fun y h1 h2 => (hS1.2.1 y (Nat.lt_of_lt_of_le h1 hS.1) (fun h => h2 (h.elim Or.inl (fun e => Or.inr (e ▸ hq1))))).trans (hS.2.1 y h1 h2), fun y hy => (hlq y hy).elim Or.inl (fun e => Or.inr (e ▸ hq1))⟩
  clear hS1
  generalize H1 = H at *
  refine lv_iinc (v := 1) (lv' := [(1, .int 1), (0, .ref x)]) hx hb dX3_init_49 hl (k := 0) rfl (by decide) (by decide) rfl (fun ls hl => ?_)
  refine lv_goto (tgt := 25) hx hb dX3_init_52 (by decide) ?_
  refine lv_iload_n hx hb dX3_init_25 rfl (lv_at hl 0 rfl) ?_
  refine lv_bipush (v := 6) hx hb dX3_init_26 (by decide) ?_
  refine lv_icmp_ge (tgt := 55) hx hb dX3_init_28 (by decide) (fun h => absurd h (by decide)) (fun _ => ?_)
  refine lv_aload_n hx hb dX3_init_31 rfl (lv_at hl 1 rfl) ?_
  refine va_get (D := kD k) (ci := 5) (v := .ref q1) (C := RX3) (T := TX3) (N := 5) hx hb htg inG_X3 hown hGx.1 hP 0 rfl rfl 1 (by decide) (htg _ w_1012) (fun _ h9 => h9) rfl dX3_init_32 ?_
  refine lv_iload_n hx hb dX3_init_35 rfl (lv_at hl 0 rfl) ?_
  have hsz9 := hS.1
  have h8_1 : q1 < H.size ∧ q < H.size ∧ r0 < H.size ∧ r1 < H.size := ⟨(hP 1 _ rfl).lt, (hM 0 _ rfl).lt, (hM 1 _ rfl).lt, (hM 2 _ rfl).lt⟩
  refine m_new2 hx hb htg hown (htg _ w_991) (htg _ w_993) (htg _ w_28) hGx hS ⟨Nat.le_of_ble_eq_true rfl, Nat.le_of_ble_eq_true rfl⟩ dX3_init_36 (fun d1 H1 hn hz1 hN1 hk1 hS => ?_)
  refine lv_dup hx hb dX3_init_39 rfl ?_
  refine lv_sipush (v := 1970) hx hb dX3_init_40 (by decide) ?_
  refine lv_iconst (v := 1) hx hb dX3_init_43 (by decide) ?_
  refine lv_iconst (v := 1) hx hb dX3_init_44 (by decide) ?_
  refine q_init (v := (1970, 1, 1)) hC hGx (gC w_996) (htg _ w_994) (htg _ w_28) (htg _ w_995) hN1 (Nat.le_trans hsz9 hn) ⟨Nat.le_of_ble_eq_true rfl, Nat.le_of_ble_eq_true rfl⟩ ⟨Nat.le_of_ble_eq_true rfl, Nat.le_of_ble_eq_true rfl⟩ hS hA hAB hl.1 rfl (Nat.le_of_ble_eq_true rfl) dX3_init_45 (fun H2 hd_1 hz2 hk2 hS => ?_)
  have hk : ∀ y : Nat, y < H.size → H2[y]? = H[y]? := fun y h => (hk2 y (by omega) (by omega)).trans (hk1 y h)
  have hP := va_P.up3 hP (fun j p hj h => hk p.1 h)
  have hM := va_P.up3 hM (fun j p hj h => hk p.1 h)
  have hd_0 := hd_0.up (hk _ hd_0.lt)
  have hx1 : d1 ≠ x ∧ d1 ≠ q1 ∧ s.heap.size ≤ d1 ∧ d1 ≠ q ∧ d1 ≠ r0 ∧ d1 ≠ r1 := by omega
  clear hk hk1 hk2 hz1 hz2 hn hN1 hsz9 h8_1
  generalize H2 = H at *
  refine va_astqM (D := kD k) (A := fun q => q = x ∨ q = q1) (H0 := H) (E := "DatesoloModel$Date") hx hb hGx.1 hP (va_D2 (Ne.symm hq1x) (Or.inl rfl) (Or.inr rfl)) ⟨Nat.le_refl _, fun _ _ _ => rfl, hlq⟩ 1 3 rfl rfl (dF.any hGx hd_1) (show ¬ ((1 : Int32) < 0 ∨ 6 ≤ (1 : Int32).toNatClampNeg) by decide) dX3_init_48 (fun H1 locs hP _ hS1 => ?_)
  have hP : va_P (kD k) vwCl [(x, .inr (5, [.int 0, .ref q1, .ref q, .int 0, .int 0])), (q1, .inl (kT k, 6, .inr (.inr (.inr (.inr (va_up (va_up (fun _ => none) (0 : Int32).toNatClampNeg (some d0)) (1 : Int32).toNatClampNeg (some d1)))))))] H1 := hP
  have hM := va_P.up3 hM (fun j p hj h => hS1.2.1 p.1 h (by
    match j, hj with
    | 0, hj => cases hj; exact fun h => h.elim hqx.1 hqx.2.2.2.1
    | 1, hj => cases hj; exact fun h => h.elim hqx.2.1 hqx.2.2.2.2.1
    | 2, hj => cases hj; exact fun h => h.elim hqx.2.2.1 hqx.2.2.2.2.2.1
    | j + 3, hj => cases hj))
  have hd_0 := hd_0.up (hS1.2.1 _ hd_0.lt (fun h => h.elim hx0.1 hx0.2.1))
  have hd_1 := hd_1.up (hS1.2.1 _ hd_1.lt (fun h => h.elim hx1.1 hx1.2.1))
  have hlq := hS1.2.2
  have hS : va_S (xA x s.heap.size) s.heap H1 locs := ⟨Nat.le_trans hS.1 hS1.1, fun y h1 h2 => (hS1.2.1 y (Nat.lt_of_lt_of_le h1 hS.1) (fun h => h2 (h.elim Or.inl (fun e => Or.inr (e ▸ hq1))))).trans (hS.2.1 y h1 h2), fun y hy => (hlq y hy).elim Or.inl (fun e => Or.inr (e ▸ hq1))⟩
  clear hS1
  generalize H1 = H at *
  refine lv_iinc (v := 2) (lv' := [(1, .int 2), (0, .ref x)]) hx hb dX3_init_49 hl (k := 0) rfl (by decide) (by decide) rfl (fun ls hl => ?_)
  refine lv_goto (tgt := 25) hx hb dX3_init_52 (by decide) ?_
  refine lv_iload_n hx hb dX3_init_25 rfl (lv_at hl 0 rfl) ?_
  refine lv_bipush (v := 6) hx hb dX3_init_26 (by decide) ?_
  refine lv_icmp_ge (tgt := 55) hx hb dX3_init_28 (by decide) (fun h => absurd h (by decide)) (fun _ => ?_)
  refine lv_aload_n hx hb dX3_init_31 rfl (lv_at hl 1 rfl) ?_
  refine va_get (D := kD k) (ci := 5) (v := .ref q1) (C := RX3) (T := TX3) (N := 5) hx hb htg inG_X3 hown hGx.1 hP 0 rfl rfl 1 (by decide) (htg _ w_1012) (fun _ h9 => h9) rfl dX3_init_32 ?_
  refine lv_iload_n hx hb dX3_init_35 rfl (lv_at hl 0 rfl) ?_
  have hsz9 := hS.1
  have h8_2 : q1 < H.size ∧ q < H.size ∧ r0 < H.size ∧ r1 < H.size := ⟨(hP 1 _ rfl).lt, (hM 0 _ rfl).lt, (hM 1 _ rfl).lt, (hM 2 _ rfl).lt⟩
  refine m_new2 hx hb htg hown (htg _ w_991) (htg _ w_993) (htg _ w_28) hGx hS ⟨Nat.le_of_ble_eq_true rfl, Nat.le_of_ble_eq_true rfl⟩ dX3_init_36 (fun d2 H1 hn hz1 hN1 hk1 hS => ?_)
  refine lv_dup hx hb dX3_init_39 rfl ?_
  refine lv_sipush (v := 1970) hx hb dX3_init_40 (by decide) ?_
  refine lv_iconst (v := 1) hx hb dX3_init_43 (by decide) ?_
  refine lv_iconst (v := 1) hx hb dX3_init_44 (by decide) ?_
  refine q_init (v := (1970, 1, 1)) hC hGx (gC w_996) (htg _ w_994) (htg _ w_28) (htg _ w_995) hN1 (Nat.le_trans hsz9 hn) ⟨Nat.le_of_ble_eq_true rfl, Nat.le_of_ble_eq_true rfl⟩ ⟨Nat.le_of_ble_eq_true rfl, Nat.le_of_ble_eq_true rfl⟩ hS hA hAB hl.1 rfl (Nat.le_of_ble_eq_true rfl) dX3_init_45 (fun H2 hd_2 hz2 hk2 hS => ?_)
  have hk : ∀ y : Nat, y < H.size → H2[y]? = H[y]? := fun y h => (hk2 y (by omega) (by omega)).trans (hk1 y h)
  have hP := va_P.up3 hP (fun j p hj h => hk p.1 h)
  have hM := va_P.up3 hM (fun j p hj h => hk p.1 h)
  have hd_0 := hd_0.up (hk _ hd_0.lt)
  have hd_1 := hd_1.up (hk _ hd_1.lt)
  have hx2 : d2 ≠ x ∧ d2 ≠ q1 ∧ s.heap.size ≤ d2 ∧ d2 ≠ q ∧ d2 ≠ r0 ∧ d2 ≠ r1 := by omega
  clear hk hk1 hk2 hz1 hz2 hn hN1 hsz9 h8_2
  generalize H2 = H at *
  refine va_astqM (D := kD k) (A := fun q => q = x ∨ q = q1) (H0 := H) (E := "DatesoloModel$Date") hx hb hGx.1 hP (va_D2 (Ne.symm hq1x) (Or.inl rfl) (Or.inr rfl)) ⟨Nat.le_refl _, fun _ _ _ => rfl, hlq⟩ 1 3 rfl rfl (dF.any hGx hd_2) (show ¬ ((2 : Int32) < 0 ∨ 6 ≤ (2 : Int32).toNatClampNeg) by decide) dX3_init_48 (fun H1 locs hP _ hS1 => ?_)
  have hP : va_P (kD k) vwCl [(x, .inr (5, [.int 0, .ref q1, .ref q, .int 0, .int 0])), (q1, .inl (kT k, 6, .inr (.inr (.inr (.inr (va_up (va_up (va_up (fun _ => none) (0 : Int32).toNatClampNeg (some d0)) (1 : Int32).toNatClampNeg (some d1)) (2 : Int32).toNatClampNeg (some d2)))))))] H1 := hP
  have hM := va_P.up3 hM (fun j p hj h => hS1.2.1 p.1 h (by
    match j, hj with
    | 0, hj => cases hj; exact fun h => h.elim hqx.1 hqx.2.2.2.1
    | 1, hj => cases hj; exact fun h => h.elim hqx.2.1 hqx.2.2.2.2.1
    | 2, hj => cases hj; exact fun h => h.elim hqx.2.2.1 hqx.2.2.2.2.2.1
    | j + 3, hj => cases hj))
  have hd_0 := hd_0.up (hS1.2.1 _ hd_0.lt (fun h => h.elim hx0.1 hx0.2.1))
  have hd_1 := hd_1.up (hS1.2.1 _ hd_1.lt (fun h => h.elim hx1.1 hx1.2.1))
  have hd_2 := hd_2.up (hS1.2.1 _ hd_2.lt (fun h => h.elim hx2.1 hx2.2.1))
  have hlq := hS1.2.2
  have hS : va_S (xA x s.heap.size) s.heap H1 locs := ⟨Nat.le_trans hS.1 hS1.1, fun y h1 h2 => (hS1.2.1 y (Nat.lt_of_lt_of_le h1 hS.1) (fun h => h2 (h.elim Or.inl (fun e => Or.inr (e ▸ hq1))))).trans (hS.2.1 y h1 h2), fun y hy => (hlq y hy).elim Or.inl (fun e => Or.inr (e ▸ hq1))⟩
  clear hS1
  generalize H1 = H at *
  refine lv_iinc (v := 3) (lv' := [(1, .int 3), (0, .ref x)]) hx hb dX3_init_49 hl (k := 0) rfl (by decide) (by decide) rfl (fun ls hl => ?_)
  refine lv_goto (tgt := 25) hx hb dX3_init_52 (by decide) ?_
  refine lv_iload_n hx hb dX3_init_25 rfl (lv_at hl 0 rfl) ?_
  refine lv_bipush (v := 6) hx hb dX3_init_26 (by decide) ?_
  refine lv_icmp_ge (tgt := 55) hx hb dX3_init_28 (by decide) (fun h => absurd h (by decide)) (fun _ => ?_)
  refine lv_aload_n hx hb dX3_init_31 rfl (lv_at hl 1 rfl) ?_
  refine va_get (D := kD k) (ci := 5) (v := .ref q1) (C := RX3) (T := TX3) (N := 5) hx hb htg inG_X3 hown hGx.1 hP 0 rfl rfl 1 (by decide) (htg _ w_1012) (fun _ h9 => h9) rfl dX3_init_32 ?_
  refine lv_iload_n hx hb dX3_init_35 rfl (lv_at hl 0 rfl) ?_
  have hsz9 := hS.1
  have h8_3 : q1 < H.size ∧ q < H.size ∧ r0 < H.size ∧ r1 < H.size := ⟨(hP 1 _ rfl).lt, (hM 0 _ rfl).lt, (hM 1 _ rfl).lt, (hM 2 _ rfl).lt⟩
  refine m_new2 hx hb htg hown (htg _ w_991) (htg _ w_993) (htg _ w_28) hGx hS ⟨Nat.le_of_ble_eq_true rfl, Nat.le_of_ble_eq_true rfl⟩ dX3_init_36 (fun d3 H1 hn hz1 hN1 hk1 hS => ?_)
  refine lv_dup hx hb dX3_init_39 rfl ?_
  refine lv_sipush (v := 1970) hx hb dX3_init_40 (by decide) ?_
  refine lv_iconst (v := 1) hx hb dX3_init_43 (by decide) ?_
  refine lv_iconst (v := 1) hx hb dX3_init_44 (by decide) ?_
  refine q_init (v := (1970, 1, 1)) hC hGx (gC w_996) (htg _ w_994) (htg _ w_28) (htg _ w_995) hN1 (Nat.le_trans hsz9 hn) ⟨Nat.le_of_ble_eq_true rfl, Nat.le_of_ble_eq_true rfl⟩ ⟨Nat.le_of_ble_eq_true rfl, Nat.le_of_ble_eq_true rfl⟩ hS hA hAB hl.1 rfl (Nat.le_of_ble_eq_true rfl) dX3_init_45 (fun H2 hd_3 hz2 hk2 hS => ?_)
  have hk : ∀ y : Nat, y < H.size → H2[y]? = H[y]? := fun y h => (hk2 y (by omega) (by omega)).trans (hk1 y h)
  have hP := va_P.up3 hP (fun j p hj h => hk p.1 h)
  have hM := va_P.up3 hM (fun j p hj h => hk p.1 h)
  have hd_0 := hd_0.up (hk _ hd_0.lt)
  have hd_1 := hd_1.up (hk _ hd_1.lt)
  have hd_2 := hd_2.up (hk _ hd_2.lt)
  have hx3 : d3 ≠ x ∧ d3 ≠ q1 ∧ s.heap.size ≤ d3 ∧ d3 ≠ q ∧ d3 ≠ r0 ∧ d3 ≠ r1 := by omega
  clear hk hk1 hk2 hz1 hz2 hn hN1 hsz9 h8_3
  generalize H2 = H at *
  refine va_astqM (D := kD k) (A := fun q => q = x ∨ q = q1) (H0 := H) (E := "DatesoloModel$Date") hx hb hGx.1 hP (va_D2 (Ne.symm hq1x) (Or.inl rfl) (Or.inr rfl)) ⟨Nat.le_refl _, fun _ _ _ => rfl, hlq⟩ 1 3 rfl rfl (dF.any hGx hd_3) (show ¬ ((3 : Int32) < 0 ∨ 6 ≤ (3 : Int32).toNatClampNeg) by decide) dX3_init_48 (fun H1 locs hP _ hS1 => ?_)
  have hP : va_P (kD k) vwCl [(x, .inr (5, [.int 0, .ref q1, .ref q, .int 0, .int 0])), (q1, .inl (kT k, 6, .inr (.inr (.inr (.inr (va_up (va_up (va_up (va_up (fun _ => none) (0 : Int32).toNatClampNeg (some d0)) (1 : Int32).toNatClampNeg (some d1)) (2 : Int32).toNatClampNeg (some d2)) (3 : Int32).toNatClampNeg (some d3)))))))] H1 := hP
  have hM := va_P.up3 hM (fun j p hj h => hS1.2.1 p.1 h (by
    match j, hj with
    | 0, hj => cases hj; exact fun h => h.elim hqx.1 hqx.2.2.2.1
    | 1, hj => cases hj; exact fun h => h.elim hqx.2.1 hqx.2.2.2.2.1
    | 2, hj => cases hj; exact fun h => h.elim hqx.2.2.1 hqx.2.2.2.2.2.1
    | j + 3, hj => cases hj))
  have hd_0 := hd_0.up (hS1.2.1 _ hd_0.lt (fun h => h.elim hx0.1 hx0.2.1))
  have hd_1 := hd_1.up (hS1.2.1 _ hd_1.lt (fun h => h.elim hx1.1 hx1.2.1))
  have hd_2 := hd_2.up (hS1.2.1 _ hd_2.lt (fun h => h.elim hx2.1 hx2.2.1))
  have hd_3 := hd_3.up (hS1.2.1 _ hd_3.lt (fun h => h.elim hx3.1 hx3.2.1))
  have hlq := hS1.2.2
  have hS : va_S (xA x s.heap.size) s.heap H1 locs := ⟨Nat.le_trans hS.1 hS1.1, fun y h1 h2 => (hS1.2.1 y (Nat.lt_of_lt_of_le h1 hS.1) (fun h => h2 (h.elim Or.inl (fun e => Or.inr (e ▸ hq1))))).trans (hS.2.1 y h1 h2), fun y hy => (hlq y hy).elim Or.inl (fun e => Or.inr (e ▸ hq1))⟩
  clear hS1
  generalize H1 = H at *
  refine lv_iinc (v := 4) (lv' := [(1, .int 4), (0, .ref x)]) hx hb dX3_init_49 hl (k := 0) rfl (by decide) (by decide) rfl (fun ls hl => ?_)
  refine lv_goto (tgt := 25) hx hb dX3_init_52 (by decide) ?_
  refine lv_iload_n hx hb dX3_init_25 rfl (lv_at hl 0 rfl) ?_
  refine lv_bipush (v := 6) hx hb dX3_init_26 (by decide) ?_
  refine lv_icmp_ge (tgt := 55) hx hb dX3_init_28 (by decide) (fun h => absurd h (by decide)) (fun _ => ?_)
  refine lv_aload_n hx hb dX3_init_31 rfl (lv_at hl 1 rfl) ?_
  refine va_get (D := kD k) (ci := 5) (v := .ref q1) (C := RX3) (T := TX3) (N := 5) hx hb htg inG_X3 hown hGx.1 hP 0 rfl rfl 1 (by decide) (htg _ w_1012) (fun _ h9 => h9) rfl dX3_init_32 ?_
  refine lv_iload_n hx hb dX3_init_35 rfl (lv_at hl 0 rfl) ?_
  have hsz9 := hS.1
  have h8_4 : q1 < H.size ∧ q < H.size ∧ r0 < H.size ∧ r1 < H.size := ⟨(hP 1 _ rfl).lt, (hM 0 _ rfl).lt, (hM 1 _ rfl).lt, (hM 2 _ rfl).lt⟩
  refine m_new2 hx hb htg hown (htg _ w_991) (htg _ w_993) (htg _ w_28) hGx hS ⟨Nat.le_of_ble_eq_true rfl, Nat.le_of_ble_eq_true rfl⟩ dX3_init_36 (fun d4 H1 hn hz1 hN1 hk1 hS => ?_)
  refine lv_dup hx hb dX3_init_39 rfl ?_
  refine lv_sipush (v := 1970) hx hb dX3_init_40 (by decide) ?_
  refine lv_iconst (v := 1) hx hb dX3_init_43 (by decide) ?_
  refine lv_iconst (v := 1) hx hb dX3_init_44 (by decide) ?_
  refine q_init (v := (1970, 1, 1)) hC hGx (gC w_996) (htg _ w_994) (htg _ w_28) (htg _ w_995) hN1 (Nat.le_trans hsz9 hn) ⟨Nat.le_of_ble_eq_true rfl, Nat.le_of_ble_eq_true rfl⟩ ⟨Nat.le_of_ble_eq_true rfl, Nat.le_of_ble_eq_true rfl⟩ hS hA hAB hl.1 rfl (Nat.le_of_ble_eq_true rfl) dX3_init_45 (fun H2 hd_4 hz2 hk2 hS => ?_)
  have hk : ∀ y : Nat, y < H.size → H2[y]? = H[y]? := fun y h => (hk2 y (by omega) (by omega)).trans (hk1 y h)
  have hP := va_P.up3 hP (fun j p hj h => hk p.1 h)
  have hM := va_P.up3 hM (fun j p hj h => hk p.1 h)
  have hd_0 := hd_0.up (hk _ hd_0.lt)
  have hd_1 := hd_1.up (hk _ hd_1.lt)
  have hd_2 := hd_2.up (hk _ hd_2.lt)
  have hd_3 := hd_3.up (hk _ hd_3.lt)
  have hx4 : d4 ≠ x ∧ d4 ≠ q1 ∧ s.heap.size ≤ d4 ∧ d4 ≠ q ∧ d4 ≠ r0 ∧ d4 ≠ r1 := by omega
  clear hk hk1 hk2 hz1 hz2 hn hN1 hsz9 h8_4
  generalize H2 = H at *
  refine va_astqM (D := kD k) (A := fun q => q = x ∨ q = q1) (H0 := H) (E := "DatesoloModel$Date") hx hb hGx.1 hP (va_D2 (Ne.symm hq1x) (Or.inl rfl) (Or.inr rfl)) ⟨Nat.le_refl _, fun _ _ _ => rfl, hlq⟩ 1 3 rfl rfl (dF.any hGx hd_4) (show ¬ ((4 : Int32) < 0 ∨ 6 ≤ (4 : Int32).toNatClampNeg) by decide) dX3_init_48 (fun H1 locs hP _ hS1 => ?_)
  have hP : va_P (kD k) vwCl [(x, .inr (5, [.int 0, .ref q1, .ref q, .int 0, .int 0])), (q1, .inl (kT k, 6, .inr (.inr (.inr (.inr (va_up (va_up (va_up (va_up (va_up (fun _ => none) (0 : Int32).toNatClampNeg (some d0)) (1 : Int32).toNatClampNeg (some d1)) (2 : Int32).toNatClampNeg (some d2)) (3 : Int32).toNatClampNeg (some d3)) (4 : Int32).toNatClampNeg (some d4)))))))] H1 := hP
  have hM := va_P.up3 hM (fun j p hj h => hS1.2.1 p.1 h (by
    match j, hj with
    | 0, hj => cases hj; exact fun h => h.elim hqx.1 hqx.2.2.2.1
    | 1, hj => cases hj; exact fun h => h.elim hqx.2.1 hqx.2.2.2.2.1
    | 2, hj => cases hj; exact fun h => h.elim hqx.2.2.1 hqx.2.2.2.2.2.1
    | j + 3, hj => cases hj))
  have hd_0 := hd_0.up (hS1.2.1 _ hd_0.lt (fun h => h.elim hx0.1 hx0.2.1))
  have hd_1 := hd_1.up (hS1.2.1 _ hd_1.lt (fun h => h.elim hx1.1 hx1.2.1))
  have hd_2 := hd_2.up (hS1.2.1 _ hd_2.lt (fun h => h.elim hx2.1 hx2.2.1))
  have hd_3 := hd_3.up (hS1.2.1 _ hd_3.lt (fun h => h.elim hx3.1 hx3.2.1))
  have hd_4 := hd_4.up (hS1.2.1 _ hd_4.lt (fun h => h.elim hx4.1 hx4.2.1))
  have hlq := hS1.2.2
  have hS : va_S (xA x s.heap.size) s.heap H1 locs := ⟨Nat.le_trans hS.1 hS1.1, fun y h1 h2 => (hS1.2.1 y (Nat.lt_of_lt_of_le h1 hS.1) (fun h => h2 (h.elim Or.inl (fun e => Or.inr (e ▸ hq1))))).trans (hS.2.1 y h1 h2), fun y hy => (hlq y hy).elim Or.inl (fun e => Or.inr (e ▸ hq1))⟩
  clear hS1
  generalize H1 = H at *
  refine lv_iinc (v := 5) (lv' := [(1, .int 5), (0, .ref x)]) hx hb dX3_init_49 hl (k := 0) rfl (by decide) (by decide) rfl (fun ls hl => ?_)
  refine lv_goto (tgt := 25) hx hb dX3_init_52 (by decide) ?_
  refine lv_iload_n hx hb dX3_init_25 rfl (lv_at hl 0 rfl) ?_
  refine lv_bipush (v := 6) hx hb dX3_init_26 (by decide) ?_
  refine lv_icmp_ge (tgt := 55) hx hb dX3_init_28 (by decide) (fun h => absurd h (by decide)) (fun _ => ?_)
  refine lv_aload_n hx hb dX3_init_31 rfl (lv_at hl 1 rfl) ?_
  refine va_get (D := kD k) (ci := 5) (v := .ref q1) (C := RX3) (T := TX3) (N := 5) hx hb htg inG_X3 hown hGx.1 hP 0 rfl rfl 1 (by decide) (htg _ w_1012) (fun _ h9 => h9) rfl dX3_init_32 ?_
  refine lv_iload_n hx hb dX3_init_35 rfl (lv_at hl 0 rfl) ?_
  have hsz9 := hS.1
  have h8_5 : q1 < H.size ∧ q < H.size ∧ r0 < H.size ∧ r1 < H.size := ⟨(hP 1 _ rfl).lt, (hM 0 _ rfl).lt, (hM 1 _ rfl).lt, (hM 2 _ rfl).lt⟩
  refine m_new2 hx hb htg hown (htg _ w_991) (htg _ w_993) (htg _ w_28) hGx hS ⟨Nat.le_of_ble_eq_true rfl, Nat.le_of_ble_eq_true rfl⟩ dX3_init_36 (fun d5 H1 hn hz1 hN1 hk1 hS => ?_)
  refine lv_dup hx hb dX3_init_39 rfl ?_
  refine lv_sipush (v := 1970) hx hb dX3_init_40 (by decide) ?_
  refine lv_iconst (v := 1) hx hb dX3_init_43 (by decide) ?_
  refine lv_iconst (v := 1) hx hb dX3_init_44 (by decide) ?_
  refine q_init (v := (1970, 1, 1)) hC hGx (gC w_996) (htg _ w_994) (htg _ w_28) (htg _ w_995) hN1 (Nat.le_trans hsz9 hn) ⟨Nat.le_of_ble_eq_true rfl, Nat.le_of_ble_eq_true rfl⟩ ⟨Nat.le_of_ble_eq_true rfl, Nat.le_of_ble_eq_true rfl⟩ hS hA hAB hl.1 rfl (Nat.le_of_ble_eq_true rfl) dX3_init_45 (fun H2 hd_5 hz2 hk2 hS => ?_)
  have hk : ∀ y : Nat, y < H.size → H2[y]? = H[y]? := fun y h => (hk2 y (by omega) (by omega)).trans (hk1 y h)
  have hP := va_P.up3 hP (fun j p hj h => hk p.1 h)
  have hM := va_P.up3 hM (fun j p hj h => hk p.1 h)
  have hd_0 := hd_0.up (hk _ hd_0.lt)
  have hd_1 := hd_1.up (hk _ hd_1.lt)
  have hd_2 := hd_2.up (hk _ hd_2.lt)
  have hd_3 := hd_3.up (hk _ hd_3.lt)
  have hd_4 := hd_4.up (hk _ hd_4.lt)
  have hx5 : d5 ≠ x ∧ d5 ≠ q1 ∧ s.heap.size ≤ d5 ∧ d5 ≠ q ∧ d5 ≠ r0 ∧ d5 ≠ r1 := by omega
  clear hk hk1 hk2 hz1 hz2 hn hN1 hsz9 h8_5
  generalize H2 = H at *
  refine va_astqM (D := kD k) (A := fun q => q = x ∨ q = q1) (H0 := H) (E := "DatesoloModel$Date") hx hb hGx.1 hP (va_D2 (Ne.symm hq1x) (Or.inl rfl) (Or.inr rfl)) ⟨Nat.le_refl _, fun _ _ _ => rfl, hlq⟩ 1 3 rfl rfl (dF.any hGx hd_5) (show ¬ ((5 : Int32) < 0 ∨ 6 ≤ (5 : Int32).toNatClampNeg) by decide) dX3_init_48 (fun H1 locs hP _ hS1 => ?_)
  have hP : va_P (kD k) vwCl [(x, .inr (5, [.int 0, .ref q1, .ref q, .int 0, .int 0])), (q1, .inl (kT k, 6, .inr (.inr (.inr (.inr (va_up (va_up (va_up (va_up (va_up (va_up (fun _ => none) (0 : Int32).toNatClampNeg (some d0)) (1 : Int32).toNatClampNeg (some d1)) (2 : Int32).toNatClampNeg (some d2)) (3 : Int32).toNatClampNeg (some d3)) (4 : Int32).toNatClampNeg (some d4)) (5 : Int32).toNatClampNeg (some d5)))))))] H1 := hP
  have hM := va_P.up3 hM (fun j p hj h => hS1.2.1 p.1 h (by
    match j, hj with
    | 0, hj => cases hj; exact fun h => h.elim hqx.1 hqx.2.2.2.1
    | 1, hj => cases hj; exact fun h => h.elim hqx.2.1 hqx.2.2.2.2.1
    | 2, hj => cases hj; exact fun h => h.elim hqx.2.2.1 hqx.2.2.2.2.2.1
    | j + 3, hj => cases hj))
  have hd_0 := hd_0.up (hS1.2.1 _ hd_0.lt (fun h => h.elim hx0.1 hx0.2.1))
  have hd_1 := hd_1.up (hS1.2.1 _ hd_1.lt (fun h => h.elim hx1.1 hx1.2.1))
  have hd_2 := hd_2.up (hS1.2.1 _ hd_2.lt (fun h => h.elim hx2.1 hx2.2.1))
  have hd_3 := hd_3.up (hS1.2.1 _ hd_3.lt (fun h => h.elim hx3.1 hx3.2.1))
  have hd_4 := hd_4.up (hS1.2.1 _ hd_4.lt (fun h => h.elim hx4.1 hx4.2.1))
  have hd_5 := hd_5.up (hS1.2.1 _ hd_5.lt (fun h => h.elim hx5.1 hx5.2.1))
  have hlq := hS1.2.2
  have hS : va_S (xA x s.heap.size) s.heap H1 locs := ⟨Nat.le_trans hS.1 hS1.1, fun y h1 h2 => (hS1.2.1 y (Nat.lt_of_lt_of_le h1 hS.1) (fun h => h2 (h.elim Or.inl (fun e => Or.inr (e ▸ hq1))))).trans (hS.2.1 y h1 h2), fun y hy => (hlq y hy).elim Or.inl (fun e => Or.inr (e ▸ hq1))⟩
  clear hS1
  generalize H1 = H at *
  refine lv_iinc (v := 6) (lv' := [(1, .int 6), (0, .ref x)]) hx hb dX3_init_49 hl (k := 0) rfl (by decide) (by decide) rfl (fun ls hl => ?_)
  refine lv_goto (tgt := 25) hx hb dX3_init_52 (by decide) ?_
  refine lv_iload_n hx hb dX3_init_25 rfl (lv_at hl 0 rfl) ?_
  refine lv_bipush (v := 6) hx hb dX3_init_26 (by decide) ?_
  refine lv_icmp_ge (tgt := 55) hx hb dX3_init_28 (by decide) (fun _ => ?_) (fun h => absurd h (by decide))
  have hE := m_end (n := s.heap.size) hP hM rfl rfl rfl rfl rfl rfl hd_0 hd_1 hd_2 hd_3 hd_4 hd_5 hx0 hx1 hx2 hx3 hx4 hx5 hq1x hq1 hqr0 hqr1 hrr hqx
  refine m_low ?_
  refine W.widen (k := 10) (n := 40) (Nat.le_of_ble_eq_true rfl) (Nat.le_of_ble_eq_true rfl) ?_
  exact W.vret hx hb hr (fun t ht _ => ⟨rfl, by rw [ht]; exact hE, by rw [ht]; exact hS.1, fun y h1 h2 => by rw [ht]; exact hS.2.1 y h1 (fun h => h.elim h2 (fun h3 => Nat.lt_irrefl _ (Nat.lt_of_lt_of_le h1 h3)))⟩) (fun y hy9 => by
    obtain ⟨h1, h2⟩ := List.mem_filter.mp hy9
    exact (hS.2.2 y h1).elim (fun h => h) (fun h => absurd (of_decide_eq_true h2) (Nat.not_lt.mpr h))) dX3_init_55
