theorem lw_ix {xs : Nat → Int32} {j L : Nat} {c : Int32} (n : Nat) (hc : c = nI n) (h : j + n < L) (hL : L ≤ 2560) : vp_in (nI j + c) L ∧ xs (nI j + c).toNatClampNeg = xs (j + n) := by
  subst hc
  rw [nI_add]
  exact ⟨vp_in_nI h (by omega), by rw [nI_clamp (by omega)]⟩
theorem lw_gt {j L : Nat} (hL : L ≤ 2560) (hj : j ≤ 2560) : Int32.ofNat L - 5 < nI j ↔ L < j + 5 := by
  have e : (5 : Int32) = nI 5 := by decide
  show nI L - 5 < nI j ↔ _
  rw [e, Int32.lt_iff_toInt_lt, pk_sub_toInt (by omega) (by omega), nI_toInt (by omega)]
  omega
def o_law (xs : Nat → Int32) : Nat → Nat → CS → Int64 → MS → Option Unit
  | 0, _, _, _, _ => some ()
  | n + 1, j, z, v, zm => (o_step (xs j &&& 63) (xs (j + 1)) (xs (j + 2)) (xs (j + 3)) (xs (j + 4)) z v zm).bind fun r => o_law xs n (j + 5) r.1 r.2.1 r.2.2
set_option maxRecDepth 100000 in
set_option maxHeartbeats 8000000 in
theorem law_loop {p : Program} {l : Launch} (hl9 : l.stackTraces = false) {e : Env} {s : State} {m : MethodId} {below : List Frame} {meth : Method} {c : Code} {bs L : Nat} {xs : Nat → Int32} {k : Kx} {a b : CA} {o : Nat} {Lb : List Nat} {Q : State → Prop} (hC : CallFix p m c cL_law 7 s #[.ref bs] (Cond.tt :: GL) RL) (hGx : Gx k s) (hLD : LD k a o b Lb s) (hX : va_X bs L xs s s.heap) (hbl : bs < s.heap.size) (hL : L ≤ 2560) (kend : ∀ (H1 : Heap) (ls1 : Array Slot) (cells slots : Nat), va_S (nA s.heap.size) s.heap H1 [] → cells ≤ 450000 → slots ≤ 4000000 → W p l e room_1 s m #[.ref bs] below meth c H1 [] cells slots Q (F0 m 2255 ls1 [])) :
    ∀ (n j : Nat) (z : CS) (v : Int64) (zm : MS) (ls : Array Slot) (H : Heap) (cells slots : Nat), L < j + 5 * n + 5 → j + 5 * n ≤ L → lv_has ls 7 [(4, .int (nI j)), (3, .ref o), (2, .ref b.1), (1, .ref a.1), (0, .ref bs)] → LI k a o b Lb z v zm H → va_S (nA s.heap.size) s.heap H [] → cells + n * 772 ≤ 450000 → slots + n * 6282 ≤ 4000000 → o_law xs n j z v zm = some () → W p l e room_1 s m #[.ref bs] below meth c H [] cells slots Q (F0 m 27 ls []) := by
  have hx := hC.1
  have hb := hC.2.1
  intro n
  induction n with
  | zero =>
    intro j z v zm ls H cells slots h1 h2 hl hI hS hc hs hm
    refine lv_iload hx hb dL_law_27 (lv_at hl 0 rfl) ?_
    refine lv_aload_n hx hb dL_law_29 rfl (lv_at hl 4 rfl) ?_
    refine va_slen hx hb hX hbl (Nat.not_le.mpr hbl) hS dL_law_30 ?_
    refine lv_iconst (v := 5) hx hb dL_law_31 (by decide) ?_
    refine lv_isub hx hb dL_law_32 ?_
    refine lv_icmp_gt (tgt := 2255) hx hb dL_law_33 (by decide) (fun h => ?_) (fun h => absurd ((lw_gt hL (by omega)).mpr (by omega)) h)
    exact kend H ls cells slots hS (by omega) (by omega)
  | succ n ih =>
    intro j z v zm ls H cells slots h1 h2 hl hI hS hc hs hm
    obtain ⟨r, hr1, hm⟩ := Option.bind_eq_some_iff.mp hm
    refine lv_iload hx hb dL_law_27 (lv_at hl 0 rfl) ?_
    refine lv_aload_n hx hb dL_law_29 rfl (lv_at hl 4 rfl) ?_
    refine va_slen hx hb hX hbl (Nat.not_le.mpr hbl) hS dL_law_30 ?_
    refine lv_iconst (v := 5) hx hb dL_law_31 (by decide) ?_
    refine lv_isub hx hb dL_law_32 ?_
    refine lv_icmp_gt (tgt := 2255) hx hb dL_law_33 (by decide) (fun h => absurd ((lw_gt hL (by omega)).mp h) (by omega)) (fun h => ?_)
    refine lv_aload_n hx hb dL_law_36 rfl (lv_at hl 4 rfl) ?_
    refine lv_iload hx hb dL_law_37 (lv_at hl 0 rfl) ?_
    refine lw_sld (q := xs j) hx hb hX hbl hS ⟨vp_in_nI (by omega) (by omega), by rw [nI_clamp (by omega)]⟩ dL_law_39 ?_
    refine lv_bipush (v := 63) hx hb dL_law_40 (by decide) ?_
    refine lv_iand hx hb dL_law_42 ?_
    generalize xs j &&& 63 = t at hr1 ⊢
    have hnx : ∀ (r : CS × Int64 × MS) (H1 : Heap) (ls1 : Array Slot), o_law xs n (j + 5) r.1 r.2.1 r.2.2 = some () → LI k a o b Lb r.1 r.2.1 r.2.2 H1 → va_S (nA s.heap.size) s.heap H1 [] → lv_has ls1 7 [(4, .int (nI j)), (3, .ref o), (2, .ref b.1), (1, .ref a.1), (0, .ref bs)] → W p l e room_1 s m #[.ref bs] below meth c H1 [] (cells + 772) (slots + 6282) Q (F0 m 2249 ls1 []) := by
      intro r H1 ls1 hm hI hS hl
      refine lv_iinc (v := nI j + 5) (lv' := [(4, .int (nI j + 5)), (3, .ref o), (2, .ref b.1), (1, .ref a.1), (0, .ref bs)]) hx hb dL_law_2249 hl (k := 0) rfl rfl (by decide) rfl (fun ls hl => ?_)
      refine lv_goto (tgt := 27) hx hb dL_law_2252 (by decide) ?_
      have e5 : nI j + 5 = nI (j + 5) := nI_add j 5
      rw [e5] at hl
      exact ih (j + 5) r.1 r.2.1 r.2.2 ls H1 _ _ (by omega) (by omega) hl hI hS (by rw [Nat.succ_mul] at hc; omega) (by rw [Nat.succ_mul] at hs; omega) hm
    have ix1 := lw_ix (xs := xs) (j := j) (L := L) (c := (1 : Int32)) 1 (by decide) (by omega) hL
    have ix2 := lw_ix (xs := xs) (j := j) (L := L) (c := (2 : Int32)) 2 (by decide) (by omega) hL
    have ix3 := lw_ix (xs := xs) (j := j) (L := L) (c := (3 : Int32)) 3 (by decide) (by omega) hL
    have ix4 := lw_ix (xs := xs) (j := j) (L := L) (c := (4 : Int32)) 4 (by decide) (by omega) hL
    have hcs : cells + 772 ≤ 450000 ∧ slots + 6282 ≤ 4000000 := ⟨by rw [Nat.succ_mul] at hc; omega, by rw [Nat.succ_mul] at hs; omega⟩
    by_cases g_0 : t = 0
    · have hr1 := (if_pos g_0).symm.trans hr1
      refine lv_tableIn (off := 225) (tgt := 268) hx hb dL_law_43 (by rw [g_0]; decide) (by rw [g_0]; decide) (by rw [g_0]; rfl) (by decide) ?_
      exact lc_0 hl9 hC hGx hLD hX hbl ix1 ix2 ix3 ix4 hl hI hS hcs hr1 (fun H1 ls1 hI hS hl => hnx r H1 ls1 hm hI hS hl)
    have hr1 := (if_neg g_0).symm.trans hr1
    by_cases g_1 : t = 1
    · have hr1 := (if_pos g_1).symm.trans hr1
      refine lv_tableIn (off := 289) (tgt := 332) hx hb dL_law_43 (by rw [g_1]; decide) (by rw [g_1]; decide) (by rw [g_1]; rfl) (by decide) ?_
      exact lc_1 hl9 hC hGx hLD hX hbl ix1 ix2 ix3 ix4 hl hI hS hcs hr1 (fun H1 ls1 hI hS hl => hnx r H1 ls1 hm hI hS hl)
    have hr1 := (if_neg g_1).symm.trans hr1
    by_cases g_2 : t = 2
    · have hr1 := (if_pos g_2).symm.trans hr1
      refine lv_tableIn (off := 329) (tgt := 372) hx hb dL_law_43 (by rw [g_2]; decide) (by rw [g_2]; decide) (by rw [g_2]; rfl) (by decide) ?_
      exact lc_2 hl9 hC hGx hLD hX hbl ix1 ix2 ix3 ix4 hl hI hS hcs hr1 (fun H1 ls1 hI hS hl => hnx r H1 ls1 hm hI hS hl)
    have hr1 := (if_neg g_2).symm.trans hr1
    by_cases g_3 : t = 3
    · have hr1 := (if_pos g_3).symm.trans hr1
      refine lv_tableIn (off := 381) (tgt := 424) hx hb dL_law_43 (by rw [g_3]; decide) (by rw [g_3]; decide) (by rw [g_3]; rfl) (by decide) ?_
      exact lc_3 hl9 hC hGx hLD hX hbl ix1 ix2 ix3 ix4 hl hI hS hcs hr1 (fun H1 ls1 hI hS hl => hnx r H1 ls1 hm hI hS hl)
    have hr1 := (if_neg g_3).symm.trans hr1
    by_cases g_4 : t = 4
    · have hr1 := (if_pos g_4).symm.trans hr1
      refine lv_tableIn (off := 421) (tgt := 464) hx hb dL_law_43 (by rw [g_4]; decide) (by rw [g_4]; decide) (by rw [g_4]; rfl) (by decide) ?_
      exact lc_4 hl9 hC hGx hLD hX hbl ix1 ix2 ix3 ix4 hl hI hS hcs hr1 (fun H1 ls1 hI hS hl => hnx r H1 ls1 hm hI hS hl)
    have hr1 := (if_neg g_4).symm.trans hr1
    by_cases g_5 : t = 5
    · have hr1 := (if_pos g_5).symm.trans hr1
      refine lv_tableIn (off := 449) (tgt := 492) hx hb dL_law_43 (by rw [g_5]; decide) (by rw [g_5]; decide) (by rw [g_5]; rfl) (by decide) ?_
      exact lc_5 hl9 hC hGx hLD hX hbl ix1 ix2 ix3 ix4 hl hI hS hcs hr1 (fun H1 ls1 hI hS hl => hnx r H1 ls1 hm hI hS hl)
    have hr1 := (if_neg g_5).symm.trans hr1
    by_cases g_6 : t = 6
    · have hr1 := (if_pos g_6).symm.trans hr1
      refine lv_tableIn (off := 489) (tgt := 532) hx hb dL_law_43 (by rw [g_6]; decide) (by rw [g_6]; decide) (by rw [g_6]; rfl) (by decide) ?_
      exact lc_6 hl9 hC hGx hLD hX hbl ix1 ix2 ix3 ix4 hl hI hS hcs hr1 (fun H1 ls1 hI hS hl => hnx r H1 ls1 hm hI hS hl)
    have hr1 := (if_neg g_6).symm.trans hr1
    by_cases g_7 : t = 7
    · have hr1 := (if_pos g_7).symm.trans hr1
      refine lv_tableIn (off := 529) (tgt := 572) hx hb dL_law_43 (by rw [g_7]; decide) (by rw [g_7]; decide) (by rw [g_7]; rfl) (by decide) ?_
      exact lc_7 hl9 hC hGx hLD hX hbl ix1 ix2 ix3 ix4 hl hI hS hcs hr1 (fun H1 ls1 hI hS hl => hnx r H1 ls1 hm hI hS hl)
    have hr1 := (if_neg g_7).symm.trans hr1
    by_cases g_8 : t = 8
    · have hr1 := (if_pos g_8).symm.trans hr1
      refine lv_tableIn (off := 569) (tgt := 612) hx hb dL_law_43 (by rw [g_8]; decide) (by rw [g_8]; decide) (by rw [g_8]; rfl) (by decide) ?_
      exact lc_8 hl9 hC hGx hLD hX hbl ix1 ix2 ix3 ix4 hl hI hS hcs hr1 (fun H1 ls1 hI hS hl => hnx r H1 ls1 hm hI hS hl)
    have hr1 := (if_neg g_8).symm.trans hr1
    by_cases g_9 : t = 9
    · have hr1 := (if_pos g_9).symm.trans hr1
      refine lv_tableIn (off := 609) (tgt := 652) hx hb dL_law_43 (by rw [g_9]; decide) (by rw [g_9]; decide) (by rw [g_9]; rfl) (by decide) ?_
      exact lc_9 hl9 hC hGx hLD hX hbl ix1 ix2 ix3 ix4 hl hI hS hcs hr1 (fun H1 ls1 hI hS hl => hnx r H1 ls1 hm hI hS hl)
    have hr1 := (if_neg g_9).symm.trans hr1
    by_cases g_10 : t = 10
    · have hr1 := (if_pos g_10).symm.trans hr1
      refine lv_tableIn (off := 649) (tgt := 692) hx hb dL_law_43 (by rw [g_10]; decide) (by rw [g_10]; decide) (by rw [g_10]; rfl) (by decide) ?_
      exact lc_10 hl9 hC hGx hLD hX hbl ix1 ix2 ix3 ix4 hl hI hS hcs hr1 (fun H1 ls1 hI hS hl => hnx r H1 ls1 hm hI hS hl)
    have hr1 := (if_neg g_10).symm.trans hr1
    by_cases g_11 : t = 11
    · have hr1 := (if_pos g_11).symm.trans hr1
      refine lv_tableIn (off := 677) (tgt := 720) hx hb dL_law_43 (by rw [g_11]; decide) (by rw [g_11]; decide) (by rw [g_11]; rfl) (by decide) ?_
      exact lc_11 hl9 hC hGx hLD hX hbl ix1 ix2 ix3 ix4 hl hI hS hcs hr1 (fun H1 ls1 hI hS hl => hnx r H1 ls1 hm hI hS hl)
    have hr1 := (if_neg g_11).symm.trans hr1
    by_cases g_12 : t = 12
    · have hr1 := (if_pos g_12).symm.trans hr1
      refine lv_tableIn (off := 705) (tgt := 748) hx hb dL_law_43 (by rw [g_12]; decide) (by rw [g_12]; decide) (by rw [g_12]; rfl) (by decide) ?_
      exact lc_12 hl9 hC hGx hLD hX hbl ix1 ix2 ix3 ix4 hl hI hS hcs hr1 (fun H1 ls1 hI hS hl => hnx r H1 ls1 hm hI hS hl)
    have hr1 := (if_neg g_12).symm.trans hr1
    by_cases g_13 : t = 13
    · have hr1 := (if_pos g_13).symm.trans hr1
      refine lv_tableIn (off := 745) (tgt := 788) hx hb dL_law_43 (by rw [g_13]; decide) (by rw [g_13]; decide) (by rw [g_13]; rfl) (by decide) ?_
      exact lc_13 hl9 hC hGx hLD hX hbl ix1 ix2 ix3 ix4 hl hI hS hcs hr1 (fun H1 ls1 hI hS hl => hnx r H1 ls1 hm hI hS hl)
    have hr1 := (if_neg g_13).symm.trans hr1
    by_cases g_14 : t = 14
    · have hr1 := (if_pos g_14).symm.trans hr1
      refine lv_tableIn (off := 785) (tgt := 828) hx hb dL_law_43 (by rw [g_14]; decide) (by rw [g_14]; decide) (by rw [g_14]; rfl) (by decide) ?_
      exact lc_14 hl9 hC hGx hLD hX hbl ix1 ix2 ix3 ix4 hl hI hS hcs hr1 (fun H1 ls1 hI hS hl => hnx r H1 ls1 hm hI hS hl)
    have hr1 := (if_neg g_14).symm.trans hr1
    by_cases g_15 : t = 15
    · have hr1 := (if_pos g_15).symm.trans hr1
      refine lv_tableIn (off := 825) (tgt := 868) hx hb dL_law_43 (by rw [g_15]; decide) (by rw [g_15]; decide) (by rw [g_15]; rfl) (by decide) ?_
      exact lc_15 hl9 hC hGx hLD hX hbl ix1 ix2 ix3 ix4 hl hI hS hcs hr1 (fun H1 ls1 hI hS hl => hnx r H1 ls1 hm hI hS hl)
    have hr1 := (if_neg g_15).symm.trans hr1
    by_cases g_16 : t = 16
    · have hr1 := (if_pos g_16).symm.trans hr1
      refine lv_tableIn (off := 865) (tgt := 908) hx hb dL_law_43 (by rw [g_16]; decide) (by rw [g_16]; decide) (by rw [g_16]; rfl) (by decide) ?_
      exact lc_16 hl9 hC hGx hLD hX hbl ix1 ix2 ix3 ix4 hl hI hS hcs hr1 (fun H1 ls1 hI hS hl => hnx r H1 ls1 hm hI hS hl)
    have hr1 := (if_neg g_16).symm.trans hr1
    by_cases g_17 : t = 17
    · have hr1 := (if_pos g_17).symm.trans hr1
      refine lv_tableIn (off := 905) (tgt := 948) hx hb dL_law_43 (by rw [g_17]; decide) (by rw [g_17]; decide) (by rw [g_17]; rfl) (by decide) ?_
      exact lc_17 hl9 hC hGx hLD hX hbl ix1 ix2 ix3 ix4 hl hI hS hcs hr1 (fun H1 ls1 hI hS hl => hnx r H1 ls1 hm hI hS hl)
    have hr1 := (if_neg g_17).symm.trans hr1
    by_cases g_18 : t = 18
    · have hr1 := (if_pos g_18).symm.trans hr1
      refine lv_tableIn (off := 945) (tgt := 988) hx hb dL_law_43 (by rw [g_18]; decide) (by rw [g_18]; decide) (by rw [g_18]; rfl) (by decide) ?_
      exact lc_18 hl9 hC hGx hLD hX hbl ix1 ix2 ix3 ix4 hl hI hS hcs hr1 (fun H1 ls1 hI hS hl => hnx r H1 ls1 hm hI hS hl)
    have hr1 := (if_neg g_18).symm.trans hr1
    by_cases g_19 : t = 19
    · have hr1 := (if_pos g_19).symm.trans hr1
      refine lv_tableIn (off := 985) (tgt := 1028) hx hb dL_law_43 (by rw [g_19]; decide) (by rw [g_19]; decide) (by rw [g_19]; rfl) (by decide) ?_
      exact lc_19 hl9 hC hGx hLD hX hbl ix1 ix2 ix3 ix4 hl hI hS hcs hr1 (fun H1 ls1 hI hS hl => hnx r H1 ls1 hm hI hS hl)
    have hr1 := (if_neg g_19).symm.trans hr1
    by_cases g_20 : t = 20
    · have hr1 := (if_pos g_20).symm.trans hr1
      refine lv_tableIn (off := 1025) (tgt := 1068) hx hb dL_law_43 (by rw [g_20]; decide) (by rw [g_20]; decide) (by rw [g_20]; rfl) (by decide) ?_
      exact lc_20 hl9 hC hGx hLD hX hbl ix1 ix2 ix3 ix4 hl hI hS hcs hr1 (fun H1 ls1 hI hS hl => hnx r H1 ls1 hm hI hS hl)
    have hr1 := (if_neg g_20).symm.trans hr1
    by_cases g_21 : t = 21
    · have hr1 := (if_pos g_21).symm.trans hr1
      refine lv_tableIn (off := 1089) (tgt := 1132) hx hb dL_law_43 (by rw [g_21]; decide) (by rw [g_21]; decide) (by rw [g_21]; rfl) (by decide) ?_
      exact lc_21 hl9 hC hGx hLD hX hbl ix1 ix2 ix3 ix4 hl hI hS hcs hr1 (fun H1 ls1 hI hS hl => hnx r H1 ls1 hm hI hS hl)
    have hr1 := (if_neg g_21).symm.trans hr1
    by_cases g_22 : t = 22
    · have hr1 := (if_pos g_22).symm.trans hr1
      refine lv_tableIn (off := 1141) (tgt := 1184) hx hb dL_law_43 (by rw [g_22]; decide) (by rw [g_22]; decide) (by rw [g_22]; rfl) (by decide) ?_
      exact lc_22 hl9 hC hGx hLD hX hbl ix1 ix2 ix3 ix4 hl hI hS hcs hr1 (fun H1 ls1 hI hS hl => hnx r H1 ls1 hm hI hS hl)
    have hr1 := (if_neg g_22).symm.trans hr1
    by_cases g_23 : t = 23
    · have hr1 := (if_pos g_23).symm.trans hr1
      refine lv_tableIn (off := 1181) (tgt := 1224) hx hb dL_law_43 (by rw [g_23]; decide) (by rw [g_23]; decide) (by rw [g_23]; rfl) (by decide) ?_
      exact lc_23 hl9 hC hGx hLD hX hbl ix1 ix2 ix3 ix4 hl hI hS hcs hr1 (fun H1 ls1 hI hS hl => hnx r H1 ls1 hm hI hS hl)
    have hr1 := (if_neg g_23).symm.trans hr1
    by_cases g_24 : t = 24
    · have hr1 := (if_pos g_24).symm.trans hr1
      refine lv_tableIn (off := 1221) (tgt := 1264) hx hb dL_law_43 (by rw [g_24]; decide) (by rw [g_24]; decide) (by rw [g_24]; rfl) (by decide) ?_
      exact lc_24 hl9 hC hGx hLD hX hbl ix1 ix2 ix3 ix4 hl hI hS hcs hr1 (fun H1 ls1 hI hS hl => hnx r H1 ls1 hm hI hS hl)
    have hr1 := (if_neg g_24).symm.trans hr1
    by_cases g_25 : t = 25
    · have hr1 := (if_pos g_25).symm.trans hr1
      refine lv_tableIn (off := 1261) (tgt := 1304) hx hb dL_law_43 (by rw [g_25]; decide) (by rw [g_25]; decide) (by rw [g_25]; rfl) (by decide) ?_
      exact lc_25 hl9 hC hGx hLD hX hbl ix1 ix2 ix3 ix4 hl hI hS hcs hr1 (fun H1 ls1 hI hS hl => hnx r H1 ls1 hm hI hS hl)
    have hr1 := (if_neg g_25).symm.trans hr1
    by_cases g_26 : t = 26
    · have hr1 := (if_pos g_26).symm.trans hr1
      refine lv_tableIn (off := 1301) (tgt := 1344) hx hb dL_law_43 (by rw [g_26]; decide) (by rw [g_26]; decide) (by rw [g_26]; rfl) (by decide) ?_
      exact lc_26 hl9 hC hGx hLD hX hbl ix1 ix2 ix3 ix4 hl hI hS hcs hr1 (fun H1 ls1 hI hS hl => hnx r H1 ls1 hm hI hS hl)
    have hr1 := (if_neg g_26).symm.trans hr1
    by_cases g_27 : t = 27
    · have hr1 := (if_pos g_27).symm.trans hr1
      refine lv_tableIn (off := 1329) (tgt := 1372) hx hb dL_law_43 (by rw [g_27]; decide) (by rw [g_27]; decide) (by rw [g_27]; rfl) (by decide) ?_
      exact lc_27 hl9 hC hGx hLD hX hbl ix1 ix2 ix3 ix4 hl hI hS hcs hr1 (fun H1 ls1 hI hS hl => hnx r H1 ls1 hm hI hS hl)
    have hr1 := (if_neg g_27).symm.trans hr1
    by_cases g_28 : t = 28
    · have hr1 := (if_pos g_28).symm.trans hr1
      refine lv_tableIn (off := 1357) (tgt := 1400) hx hb dL_law_43 (by rw [g_28]; decide) (by rw [g_28]; decide) (by rw [g_28]; rfl) (by decide) ?_
      exact lc_28 hl9 hC hGx hLD hX hbl ix1 ix2 ix3 ix4 hl hI hS hcs hr1 (fun H1 ls1 hI hS hl => hnx r H1 ls1 hm hI hS hl)
    have hr1 := (if_neg g_28).symm.trans hr1
    by_cases g_29 : t = 29
    · have hr1 := (if_pos g_29).symm.trans hr1
      refine lv_tableIn (off := 1385) (tgt := 1428) hx hb dL_law_43 (by rw [g_29]; decide) (by rw [g_29]; decide) (by rw [g_29]; rfl) (by decide) ?_
      exact lc_29 hl9 hC hGx hLD hX hbl ix1 ix2 ix3 ix4 hl hI hS hcs hr1 (fun H1 ls1 hI hS hl => hnx r H1 ls1 hm hI hS hl)
    have hr1 := (if_neg g_29).symm.trans hr1
    by_cases g_30 : t = 30
    · have hr1 := (if_pos g_30).symm.trans hr1
      refine lv_tableIn (off := 1413) (tgt := 1456) hx hb dL_law_43 (by rw [g_30]; decide) (by rw [g_30]; decide) (by rw [g_30]; rfl) (by decide) ?_
      exact lc_30 hl9 hC hGx hLD hX hbl ix1 ix2 ix3 ix4 hl hI hS hcs hr1 (fun H1 ls1 hI hS hl => hnx r H1 ls1 hm hI hS hl)
    have hr1 := (if_neg g_30).symm.trans hr1
    by_cases g_31 : t = 31
    · have hr1 := (if_pos g_31).symm.trans hr1
      refine lv_tableIn (off := 1441) (tgt := 1484) hx hb dL_law_43 (by rw [g_31]; decide) (by rw [g_31]; decide) (by rw [g_31]; rfl) (by decide) ?_
      exact lc_31 hl9 hC hGx hLD hX hbl ix1 ix2 ix3 ix4 hl hI hS hcs hr1 (fun H1 ls1 hI hS hl => hnx r H1 ls1 hm hI hS hl)
    have hr1 := (if_neg g_31).symm.trans hr1
    by_cases g_32 : t = 32
    · have hr1 := (if_pos g_32).symm.trans hr1
      refine lv_tableIn (off := 1481) (tgt := 1524) hx hb dL_law_43 (by rw [g_32]; decide) (by rw [g_32]; decide) (by rw [g_32]; rfl) (by decide) ?_
      exact lc_32 hl9 hC hGx hLD hX hbl ix1 ix2 ix3 ix4 hl hI hS hcs hr1 (fun H1 ls1 hI hS hl => hnx r H1 ls1 hm hI hS hl)
    have hr1 := (if_neg g_32).symm.trans hr1
    by_cases g_33 : t = 33
    · have hr1 := (if_pos g_33).symm.trans hr1
      refine lv_tableIn (off := 1509) (tgt := 1552) hx hb dL_law_43 (by rw [g_33]; decide) (by rw [g_33]; decide) (by rw [g_33]; rfl) (by decide) ?_
      exact lc_33 hl9 hC hGx hLD hX hbl ix1 ix2 ix3 ix4 hl hI hS hcs hr1 (fun H1 ls1 hI hS hl => hnx r H1 ls1 hm hI hS hl)
    have hr1 := (if_neg g_33).symm.trans hr1
    by_cases g_34 : t = 34
    · have hr1 := (if_pos g_34).symm.trans hr1
      refine lv_tableIn (off := 1537) (tgt := 1580) hx hb dL_law_43 (by rw [g_34]; decide) (by rw [g_34]; decide) (by rw [g_34]; rfl) (by decide) ?_
      exact lc_34 hl9 hC hGx hLD hX hbl ix1 ix2 ix3 ix4 hl hI hS hcs hr1 (fun H1 ls1 hI hS hl => hnx r H1 ls1 hm hI hS hl)
    have hr1 := (if_neg g_34).symm.trans hr1
    by_cases g_35 : t = 35
    · have hr1 := (if_pos g_35).symm.trans hr1
      refine lv_tableIn (off := 1565) (tgt := 1608) hx hb dL_law_43 (by rw [g_35]; decide) (by rw [g_35]; decide) (by rw [g_35]; rfl) (by decide) ?_
      exact lc_35 hl9 hC hGx hLD hX hbl ix1 ix2 ix3 ix4 hl hI hS hcs hr1 (fun H1 ls1 hI hS hl => hnx r H1 ls1 hm hI hS hl)
    have hr1 := (if_neg g_35).symm.trans hr1
    by_cases g_36 : t = 36
    · have hr1 := (if_pos g_36).symm.trans hr1
      refine lv_tableIn (off := 1605) (tgt := 1648) hx hb dL_law_43 (by rw [g_36]; decide) (by rw [g_36]; decide) (by rw [g_36]; rfl) (by decide) ?_
      exact lc_36 hl9 hC hGx hLD hX hbl ix1 ix2 ix3 ix4 hl hI hS hcs hr1 (fun H1 ls1 hI hS hl => hnx r H1 ls1 hm hI hS hl)
    have hr1 := (if_neg g_36).symm.trans hr1
    by_cases g_37 : t = 37
    · have hr1 := (if_pos g_37).symm.trans hr1
      refine lv_tableIn (off := 1633) (tgt := 1676) hx hb dL_law_43 (by rw [g_37]; decide) (by rw [g_37]; decide) (by rw [g_37]; rfl) (by decide) ?_
      exact lc_37 hl9 hC hGx hLD hX hbl ix1 ix2 ix3 ix4 hl hI hS hcs hr1 (fun H1 ls1 hI hS hl => hnx r H1 ls1 hm hI hS hl)
    have hr1 := (if_neg g_37).symm.trans hr1
    by_cases g_38 : t = 38
    · have hr1 := (if_pos g_38).symm.trans hr1
      refine lv_tableIn (off := 1661) (tgt := 1704) hx hb dL_law_43 (by rw [g_38]; decide) (by rw [g_38]; decide) (by rw [g_38]; rfl) (by decide) ?_
      exact lc_38 hl9 hC hGx hLD hX hbl ix1 ix2 ix3 ix4 hl hI hS hcs hr1 (fun H1 ls1 hI hS hl => hnx r H1 ls1 hm hI hS hl)
    have hr1 := (if_neg g_38).symm.trans hr1
    by_cases g_39 : t = 39
    · have hr1 := (if_pos g_39).symm.trans hr1
      refine lv_tableIn (off := 1713) (tgt := 1756) hx hb dL_law_43 (by rw [g_39]; decide) (by rw [g_39]; decide) (by rw [g_39]; rfl) (by decide) ?_
      exact lc_39 hl9 hC hGx hLD hX hbl ix1 ix2 ix3 ix4 hl hI hS hcs hr1 (fun H1 ls1 hI hS hl => hnx r H1 ls1 hm hI hS hl)
    have hr1 := (if_neg g_39).symm.trans hr1
    by_cases g_40 : t = 40
    · have hr1 := (if_pos g_40).symm.trans hr1
      refine lv_tableIn (off := 1765) (tgt := 1808) hx hb dL_law_43 (by rw [g_40]; decide) (by rw [g_40]; decide) (by rw [g_40]; rfl) (by decide) ?_
      exact lc_40 hl9 hC hGx hLD hX hbl ix1 ix2 ix3 ix4 hl hI hS hcs hr1 (fun H1 ls1 hI hS hl => hnx r H1 ls1 hm hI hS hl)
    have hr1 := (if_neg g_40).symm.trans hr1
    by_cases g_41 : t = 41
    · have hr1 := (if_pos g_41).symm.trans hr1
      refine lv_tableIn (off := 1805) (tgt := 1848) hx hb dL_law_43 (by rw [g_41]; decide) (by rw [g_41]; decide) (by rw [g_41]; rfl) (by decide) ?_
      exact lc_41 hl9 hC hGx hLD hX hbl ix1 ix2 ix3 ix4 hl hI hS hcs hr1 (fun H1 ls1 hI hS hl => hnx r H1 ls1 hm hI hS hl)
    have hr1 := (if_neg g_41).symm.trans hr1
    by_cases g_42 : t = 42
    · have hr1 := (if_pos g_42).symm.trans hr1
      refine lv_tableIn (off := 1845) (tgt := 1888) hx hb dL_law_43 (by rw [g_42]; decide) (by rw [g_42]; decide) (by rw [g_42]; rfl) (by decide) ?_
      exact lc_42 hl9 hC hGx hLD hX hbl ix1 ix2 ix3 ix4 hl hI hS hcs hr1 (fun H1 ls1 hI hS hl => hnx r H1 ls1 hm hI hS hl)
    have hr1 := (if_neg g_42).symm.trans hr1
    by_cases g_43 : t = 43
    · have hr1 := (if_pos g_43).symm.trans hr1
      refine lv_tableIn (off := 1885) (tgt := 1928) hx hb dL_law_43 (by rw [g_43]; decide) (by rw [g_43]; decide) (by rw [g_43]; rfl) (by decide) ?_
      exact lc_43 hl9 hC hGx hLD hX hbl ix1 ix2 ix3 ix4 hl hI hS hcs hr1 (fun H1 ls1 hI hS hl => hnx r H1 ls1 hm hI hS hl)
    have hr1 := (if_neg g_43).symm.trans hr1
    by_cases g_44 : t = 44
    · have hr1 := (if_pos g_44).symm.trans hr1
      refine lv_tableIn (off := 1925) (tgt := 1968) hx hb dL_law_43 (by rw [g_44]; decide) (by rw [g_44]; decide) (by rw [g_44]; rfl) (by decide) ?_
      exact lc_44 hl9 hC hGx hLD hX hbl ix1 ix2 ix3 ix4 hl hI hS hcs hr1 (fun H1 ls1 hI hS hl => hnx r H1 ls1 hm hI hS hl)
    have hr1 := (if_neg g_44).symm.trans hr1
    by_cases g_45 : t = 45
    · have hr1 := (if_pos g_45).symm.trans hr1
      refine lv_tableIn (off := 1977) (tgt := 2020) hx hb dL_law_43 (by rw [g_45]; decide) (by rw [g_45]; decide) (by rw [g_45]; rfl) (by decide) ?_
      exact lc_45 hl9 hC hGx hLD hX hbl ix1 ix2 ix3 ix4 hl hI hS hcs hr1 (fun H1 ls1 hI hS hl => hnx r H1 ls1 hm hI hS hl)
    have hr1 := (if_neg g_45).symm.trans hr1
    by_cases g_46 : t = 46
    · have hr1 := (if_pos g_46).symm.trans hr1
      refine lv_tableIn (off := 2029) (tgt := 2072) hx hb dL_law_43 (by rw [g_46]; decide) (by rw [g_46]; decide) (by rw [g_46]; rfl) (by decide) ?_
      exact lc_46 hl9 hC hGx hLD hX hbl ix1 ix2 ix3 ix4 hl hI hS hcs hr1 (fun H1 ls1 hI hS hl => hnx r H1 ls1 hm hI hS hl)
    have hr1 := (if_neg g_46).symm.trans hr1
    by_cases g_47 : t = 47
    · have hr1 := (if_pos g_47).symm.trans hr1
      refine lv_tableIn (off := 2057) (tgt := 2100) hx hb dL_law_43 (by rw [g_47]; decide) (by rw [g_47]; decide) (by rw [g_47]; rfl) (by decide) ?_
      exact lc_47 hl9 hC hGx hLD hX hbl ix1 ix2 ix3 ix4 hl hI hS hcs hr1 (fun H1 ls1 hI hS hl => hnx r H1 ls1 hm hI hS hl)
    have hr1 := (if_neg g_47).symm.trans hr1
    by_cases g_48 : t = 48
    · have hr1 := (if_pos g_48).symm.trans hr1
      refine lv_tableIn (off := 2126) (tgt := 2169) hx hb dL_law_43 (by rw [g_48]; decide) (by rw [g_48]; decide) (by rw [g_48]; rfl) (by decide) ?_
      exact lc_48 hl9 hC hGx hLD hX hbl ix1 ix2 ix3 ix4 hl hI hS hcs hr1 (fun H1 ls1 hI hS hl => hnx r H1 ls1 hm hI hS hl)
    have hr1 := (if_neg g_48).symm.trans hr1
    by_cases g_49 : t = 49
    · have hr1 := (if_pos g_49).symm.trans hr1
      refine lv_tableIn (off := 2139) (tgt := 2182) hx hb dL_law_43 (by rw [g_49]; decide) (by rw [g_49]; decide) (by rw [g_49]; rfl) (by decide) ?_
      exact lc_49 hl9 hC hGx hLD hX hbl ix1 ix2 ix3 ix4 hl hI hS hcs hr1 (fun H1 ls1 hI hS hl => hnx r H1 ls1 hm hI hS hl)
    have hr1 := (if_neg g_49).symm.trans hr1
    by_cases g_50 : t = 50
    · have hr1 := (if_pos g_50).symm.trans hr1
      refine lv_tableIn (off := 2167) (tgt := 2210) hx hb dL_law_43 (by rw [g_50]; decide) (by rw [g_50]; decide) (by rw [g_50]; rfl) (by decide) ?_
      exact lc_50 hl9 hC hGx hLD hX hbl ix1 ix2 ix3 ix4 hl hI hS hcs hr1 (fun H1 ls1 hI hS hl => hnx r H1 ls1 hm hI hS hl)
    have hr1 := (if_neg g_50).symm.trans hr1
    by_cases g_51 : t = 51
    · have hr1 := (if_pos g_51).symm.trans hr1
      refine lv_tableIn (off := 2180) (tgt := 2223) hx hb dL_law_43 (by rw [g_51]; decide) (by rw [g_51]; decide) (by rw [g_51]; rfl) (by decide) ?_
      exact lc_51 hl9 hC hGx hLD hX hbl ix1 ix2 ix3 ix4 hl hI hS hcs hr1 (fun H1 ls1 hI hS hl => hnx r H1 ls1 hm hI hS hl)
    have hr1 := (if_neg g_51).symm.trans hr1
    by_cases g_52 : t = 52
    · have hr1 := (if_pos g_52).symm.trans hr1
      refine lv_tableIn (off := 2193) (tgt := 2236) hx hb dL_law_43 (by rw [g_52]; decide) (by rw [g_52]; decide) (by rw [g_52]; rfl) (by decide) ?_
      exact lc_52 hl9 hC hGx hLD hX hbl ix1 ix2 ix3 ix4 hl hI hS hcs hr1 (fun H1 ls1 hI hS hl => hnx r H1 ls1 hm hI hS hl)
    have hr1 := (if_neg g_52).symm.trans hr1
    obtain rfl := Option.some.inj hr1
    refine lv_tableOut (tgt := 2249) hx hb dL_law_43 (by have hh : (t).toInt ≠ 0 ∧ (t).toInt ≠ 1 ∧ (t).toInt ≠ 2 ∧ (t).toInt ≠ 3 ∧ (t).toInt ≠ 4 ∧ (t).toInt ≠ 5 ∧ (t).toInt ≠ 6 ∧ (t).toInt ≠ 7 ∧ (t).toInt ≠ 8 ∧ (t).toInt ≠ 9 ∧ (t).toInt ≠ 10 ∧ (t).toInt ≠ 11 ∧ (t).toInt ≠ 12 ∧ (t).toInt ≠ 13 ∧ (t).toInt ≠ 14 ∧ (t).toInt ≠ 15 ∧ (t).toInt ≠ 16 ∧ (t).toInt ≠ 17 ∧ (t).toInt ≠ 18 ∧ (t).toInt ≠ 19 ∧ (t).toInt ≠ 20 ∧ (t).toInt ≠ 21 ∧ (t).toInt ≠ 22 ∧ (t).toInt ≠ 23 ∧ (t).toInt ≠ 24 ∧ (t).toInt ≠ 25 ∧ (t).toInt ≠ 26 ∧ (t).toInt ≠ 27 ∧ (t).toInt ≠ 28 ∧ (t).toInt ≠ 29 ∧ (t).toInt ≠ 30 ∧ (t).toInt ≠ 31 ∧ (t).toInt ≠ 32 ∧ (t).toInt ≠ 33 ∧ (t).toInt ≠ 34 ∧ (t).toInt ≠ 35 ∧ (t).toInt ≠ 36 ∧ (t).toInt ≠ 37 ∧ (t).toInt ≠ 38 ∧ (t).toInt ≠ 39 ∧ (t).toInt ≠ 40 ∧ (t).toInt ≠ 41 ∧ (t).toInt ≠ 42 ∧ (t).toInt ≠ 43 ∧ (t).toInt ≠ 44 ∧ (t).toInt ≠ 45 ∧ (t).toInt ≠ 46 ∧ (t).toInt ≠ 47 ∧ (t).toInt ≠ 48 ∧ (t).toInt ≠ 49 ∧ (t).toInt ≠ 50 ∧ (t).toInt ≠ 51 ∧ (t).toInt ≠ 52 := ⟨fun q => g_0 (Int32.toInt_inj.mp (q.trans (by decide))), fun q => g_1 (Int32.toInt_inj.mp (q.trans (by decide))), fun q => g_2 (Int32.toInt_inj.mp (q.trans (by decide))), fun q => g_3 (Int32.toInt_inj.mp (q.trans (by decide))), fun q => g_4 (Int32.toInt_inj.mp (q.trans (by decide))), fun q => g_5 (Int32.toInt_inj.mp (q.trans (by decide))), fun q => g_6 (Int32.toInt_inj.mp (q.trans (by decide))), fun q => g_7 (Int32.toInt_inj.mp (q.trans (by decide))), fun q => g_8 (Int32.toInt_inj.mp (q.trans (by decide))), fun q => g_9 (Int32.toInt_inj.mp (q.trans (by decide))), fun q => g_10 (Int32.toInt_inj.mp (q.trans (by decide))), fun q => g_11 (Int32.toInt_inj.mp (q.trans (by decide))), fun q => g_12 (Int32.toInt_inj.mp (q.trans (by decide))), fun q => g_13 (Int32.toInt_inj.mp (q.trans (by decide))), fun q => g_14 (Int32.toInt_inj.mp (q.trans (by decide))), fun q => g_15 (Int32.toInt_inj.mp (q.trans (by decide))), fun q => g_16 (Int32.toInt_inj.mp (q.trans (by decide))), fun q => g_17 (Int32.toInt_inj.mp (q.trans (by decide))), fun q => g_18 (Int32.toInt_inj.mp (q.trans (by decide))), fun q => g_19 (Int32.toInt_inj.mp (q.trans (by decide))), fun q => g_20 (Int32.toInt_inj.mp (q.trans (by decide))), fun q => g_21 (Int32.toInt_inj.mp (q.trans (by decide))), fun q => g_22 (Int32.toInt_inj.mp (q.trans (by decide))), fun q => g_23 (Int32.toInt_inj.mp (q.trans (by decide))), fun q => g_24 (Int32.toInt_inj.mp (q.trans (by decide))), fun q => g_25 (Int32.toInt_inj.mp (q.trans (by decide))), fun q => g_26 (Int32.toInt_inj.mp (q.trans (by decide))), fun q => g_27 (Int32.toInt_inj.mp (q.trans (by decide))), fun q => g_28 (Int32.toInt_inj.mp (q.trans (by decide))), fun q => g_29 (Int32.toInt_inj.mp (q.trans (by decide))), fun q => g_30 (Int32.toInt_inj.mp (q.trans (by decide))), fun q => g_31 (Int32.toInt_inj.mp (q.trans (by decide))), fun q => g_32 (Int32.toInt_inj.mp (q.trans (by decide))), fun q => g_33 (Int32.toInt_inj.mp (q.trans (by decide))), fun q => g_34 (Int32.toInt_inj.mp (q.trans (by decide))), fun q => g_35 (Int32.toInt_inj.mp (q.trans (by decide))), fun q => g_36 (Int32.toInt_inj.mp (q.trans (by decide))), fun q => g_37 (Int32.toInt_inj.mp (q.trans (by decide))), fun q => g_38 (Int32.toInt_inj.mp (q.trans (by decide))), fun q => g_39 (Int32.toInt_inj.mp (q.trans (by decide))), fun q => g_40 (Int32.toInt_inj.mp (q.trans (by decide))), fun q => g_41 (Int32.toInt_inj.mp (q.trans (by decide))), fun q => g_42 (Int32.toInt_inj.mp (q.trans (by decide))), fun q => g_43 (Int32.toInt_inj.mp (q.trans (by decide))), fun q => g_44 (Int32.toInt_inj.mp (q.trans (by decide))), fun q => g_45 (Int32.toInt_inj.mp (q.trans (by decide))), fun q => g_46 (Int32.toInt_inj.mp (q.trans (by decide))), fun q => g_47 (Int32.toInt_inj.mp (q.trans (by decide))), fun q => g_48 (Int32.toInt_inj.mp (q.trans (by decide))), fun q => g_49 (Int32.toInt_inj.mp (q.trans (by decide))), fun q => g_50 (Int32.toInt_inj.mp (q.trans (by decide))), fun q => g_51 (Int32.toInt_inj.mp (q.trans (by decide))), fun q => g_52 (Int32.toInt_inj.mp (q.trans (by decide)))⟩; omega) (by decide) ?_
    exact W.widen (k := cells + 772) (n := slots + 6282) (by omega) (by omega) (hnx (z, v, zm) H ls hm hI hS hl)
