set_option maxRecDepth 100000 in
set_option maxHeartbeats 4000000 in
theorem lc_25 {p : Program} {l : Launch} (hl9 : l.stackTraces = false) {e : Env} {s : State} {m : MethodId} {below : List Frame} {meth : Method} {c : Code} {bs L : Nat} {xs : Nat → Int32} {k : Kx} {a b : CA} {o : Nat} {Lb : List Nat} {Q : State → Prop} (hC : CallFix p m c cL_law 7 s #[.ref bs] (Cond.tt :: GL) RL) (hGx : Gx k s) (hLD : LD k a o b Lb s) (hX : va_X bs L xs s s.heap) (hbl : bs < s.heap.size) {i q1 q2 q3 q4 : Int32} (h1 : vp_in (i + (1 : Int32)) L ∧ xs (i + (1 : Int32)).toNatClampNeg = q1) (h2 : vp_in (i + (2 : Int32)) L ∧ xs (i + (2 : Int32)).toNatClampNeg = q2) (h3 : vp_in (i + (3 : Int32)) L ∧ xs (i + (3 : Int32)).toNatClampNeg = q3) (h4 : vp_in (i + (4 : Int32)) L ∧ xs (i + (4 : Int32)).toNatClampNeg = q4) {z : CS} {v : Int64} {zm : MS} {H : Heap} {ls : Array Slot} {cells slots : Nat} (hl : lv_has ls 7 [(4, .int i), (3, .ref o), (2, .ref b.1), (1, .ref a.1), (0, .ref bs)]) (hI : LI k a o b Lb z v zm H) (hS : va_S (nA s.heap.size) s.heap H []) (hc : cells + 772 ≤ 450000 ∧ slots + 6282 ≤ 4000000) {r : CS × Int64 × MS} (hm : o_lc_25 q1 q2 q3 q4 z v zm = some r) (kk : ∀ (H1 : Heap) (ls1 : Array Slot), LI k a o b Lb r.1 r.2.1 r.2.2 H1 → va_S (nA s.heap.size) s.heap H1 [] → lv_has ls1 7 [(4, .int i), (3, .ref o), (2, .ref b.1), (1, .ref a.1), (0, .ref bs)] → W p l e room_1 s m #[.ref bs] below meth c H1 [] (cells + 772) (slots + 6282) Q (F0 m 2249 ls1 [])) : W p l e room_1 s m #[.ref bs] below meth c H [] cells slots Q (F0 m 1304 ls []) := by
  have hx := hC.1
  have hb := hC.2.1
  refine lv_aload_n hx hb dL_law_1304 rfl (lv_at hl 3 rfl) ?_
  refine lv_aload_n hx hb dL_law_1305 rfl (lv_at hl 4 rfl) ?_
  refine lv_iload hx hb dL_law_1306 (lv_at hl 0 rfl) ?_
  refine lv_iconst (v := 1) hx hb dL_law_1308 (by decide) ?_
  refine lv_iadd hx hb dL_law_1309 ?_
  refine lw_sld hx hb hX hbl hS h1 dL_law_1310 ?_
  refine lv_aload_n hx hb dL_law_1311 rfl (lv_at hl 4 rfl) ?_
  refine lv_iload hx hb dL_law_1312 (lv_at hl 0 rfl) ?_
  refine lv_iconst (v := 2) hx hb dL_law_1314 (by decide) ?_
  refine lv_iadd hx hb dL_law_1315 ?_
  refine lw_sld hx hb hX hbl hS h2 dL_law_1316 ?_
  refine lv_aload_n hx hb dL_law_1317 rfl (lv_at hl 1 rfl) ?_
  by_cases h_1 : ¬ ((m_X0_minusSpan q1 q2 z).1 = 0 ∨ (m_X0_minusSpan q1 q2 z).1 = 1 ∨ (m_X0_minusSpan q1 q2 z).1 = 3)
  · have hm := (if_pos h_1).symm.trans hm
    cases hm
  have hm := (if_neg h_1).symm.trans hm
  refine lw_w hC hGx hLD (k_L_minusSpan l hl9 k a hLD.1 o q1 q2 z v (Decidable.of_not_not h_1)) (gSW w_859 w_860 w_25 w_861) kw_L_minusSpan ⟨Nat.le_of_ble_eq_true rfl, Nat.le_of_ble_eq_true rfl⟩ ⟨Nat.le_trans (show cells + 5 ≤ 450000 by omega) rm_c, Nat.le_trans (show slots + 30 ≤ 4000000 by omega) rm_s⟩ hI hS hl.1 rfl rfl (Nat.le_of_ble_eq_true rfl) dL_law_1318 (fun H hI hS => ?_)
  refine lv_istore (lv' := [(5, .int (wk 1 3 ((m_X0_minusSpan q1 q2 z).1))), (4, .int i), (3, .ref o), (2, .ref b.1), (1, .ref a.1), (0, .ref bs)]) hx hb dL_law_1321 hl (by decide) rfl (fun ls hl => ?_)
  refine lv_aload_n hx hb dL_law_1323 rfl (lv_at hl 3 rfl) ?_
  refine lv_aload_n hx hb dL_law_1324 rfl (lv_at hl 5 rfl) ?_
  refine lv_iload hx hb dL_law_1325 (lv_at hl 1 rfl) ?_
  refine lv_iconst (v := 1) hx hb dL_law_1327 (by decide) ?_
  refine lv_iadd hx hb dL_law_1328 ?_
  refine lw_sld hx hb hX hbl hS h1 dL_law_1329 ?_
  refine lv_aload_n hx hb dL_law_1330 rfl (lv_at hl 5 rfl) ?_
  refine lv_iload hx hb dL_law_1331 (lv_at hl 1 rfl) ?_
  refine lv_iconst (v := 2) hx hb dL_law_1333 (by decide) ?_
  refine lv_iadd hx hb dL_law_1334 ?_
  refine lw_sld hx hb hX hbl hS h2 dL_law_1335 ?_
  obtain ⟨x_1, hx_1, hm⟩ := Option.bind_eq_some_iff.mp hm
  refine lw_m hC hGx hLD (k_X3_minusSpan l k b Lb hLD.2.1 q1 q2 zm hx_1) (gV w_1240 w_1241 w_1242 w_27 w_1243) kk_X3_minusSpan rfl ⟨Nat.le_of_ble_eq_true rfl, Nat.le_of_ble_eq_true rfl⟩ ⟨Nat.le_trans (show cells + 7 ≤ 450000 by omega) rm_c, Nat.le_trans (show slots + 36 ≤ 4000000 by omega) rm_s⟩ hI hS hl.1 rfl rfl (Nat.le_of_ble_eq_true rfl) dL_law_1336 (fun H hI hS => ?_)
  refine lv_istore (lv' := [(6, .int x_1.1), (5, .int (wk 1 3 ((m_X0_minusSpan q1 q2 z).1))), (4, .int i), (3, .ref o), (2, .ref b.1), (1, .ref a.1), (0, .ref bs)]) hx hb dL_law_1339 hl (by decide) rfl (fun ls hl => ?_)
  refine lv_goto (tgt := 2249) hx hb dL_law_1341 (by decide) ?_
  obtain rfl := Option.some.inj hm
  exact W.widen (k := cells + 772) (n := slots + 6282) (by omega) (by omega) (kk H ls hI hS (lv_sub hl [2, 3, 4, 5, 6] rfl))
set_option maxRecDepth 100000 in
def o_lc_26 (q1 q2 q3 q4 : Int32) (z : CS) (v : Int64) (zm : MS) : Option (CS × Int64 × MS) := (if ¬ ((m_X0_year q1 z).1 = 0 ∨ (m_X0_year q1 z).1 = 1) then none else ((o_X3_year q1 zm).bind fun x_1 => some (z, (if (m_X0_year q1 z).1 = 0 then ((m_X0_year q1 z).2).toInt64 else v), x_1.2)))
set_option maxRecDepth 100000 in
set_option maxHeartbeats 4000000 in
theorem lc_26 {p : Program} {l : Launch} (hl9 : l.stackTraces = false) {e : Env} {s : State} {m : MethodId} {below : List Frame} {meth : Method} {c : Code} {bs L : Nat} {xs : Nat → Int32} {k : Kx} {a b : CA} {o : Nat} {Lb : List Nat} {Q : State → Prop} (hC : CallFix p m c cL_law 7 s #[.ref bs] (Cond.tt :: GL) RL) (hGx : Gx k s) (hLD : LD k a o b Lb s) (hX : va_X bs L xs s s.heap) (hbl : bs < s.heap.size) {i q1 q2 q3 q4 : Int32} (h1 : vp_in (i + (1 : Int32)) L ∧ xs (i + (1 : Int32)).toNatClampNeg = q1) (h2 : vp_in (i + (2 : Int32)) L ∧ xs (i + (2 : Int32)).toNatClampNeg = q2) (h3 : vp_in (i + (3 : Int32)) L ∧ xs (i + (3 : Int32)).toNatClampNeg = q3) (h4 : vp_in (i + (4 : Int32)) L ∧ xs (i + (4 : Int32)).toNatClampNeg = q4) {z : CS} {v : Int64} {zm : MS} {H : Heap} {ls : Array Slot} {cells slots : Nat} (hl : lv_has ls 7 [(4, .int i), (3, .ref o), (2, .ref b.1), (1, .ref a.1), (0, .ref bs)]) (hI : LI k a o b Lb z v zm H) (hS : va_S (nA s.heap.size) s.heap H []) (hc : cells + 772 ≤ 450000 ∧ slots + 6282 ≤ 4000000) {r : CS × Int64 × MS} (hm : o_lc_26 q1 q2 q3 q4 z v zm = some r) (kk : ∀ (H1 : Heap) (ls1 : Array Slot), LI k a o b Lb r.1 r.2.1 r.2.2 H1 → va_S (nA s.heap.size) s.heap H1 [] → lv_has ls1 7 [(4, .int i), (3, .ref o), (2, .ref b.1), (1, .ref a.1), (0, .ref bs)] → W p l e room_1 s m #[.ref bs] below meth c H1 [] (cells + 772) (slots + 6282) Q (F0 m 2249 ls1 [])) : W p l e room_1 s m #[.ref bs] below meth c H [] cells slots Q (F0 m 1344 ls []) := by
  have hx := hC.1
  have hb := hC.2.1
  refine lv_aload_n hx hb dL_law_1344 rfl (lv_at hl 3 rfl) ?_
  refine lv_aload_n hx hb dL_law_1345 rfl (lv_at hl 4 rfl) ?_
  refine lv_iload hx hb dL_law_1346 (lv_at hl 0 rfl) ?_
  refine lv_iconst (v := 1) hx hb dL_law_1348 (by decide) ?_
  refine lv_iadd hx hb dL_law_1349 ?_
  refine lw_sld hx hb hX hbl hS h1 dL_law_1350 ?_
  refine lv_aload_n hx hb dL_law_1351 rfl (lv_at hl 1 rfl) ?_
  by_cases h_1 : ¬ ((m_X0_year q1 z).1 = 0 ∨ (m_X0_year q1 z).1 = 1)
  · have hm := (if_pos h_1).symm.trans hm
    cases hm
  have hm := (if_neg h_1).symm.trans hm
  refine lw_w hC hGx hLD (k_L_year l hl9 k a hLD.1 o q1 z v (Decidable.of_not_not h_1)) (gSW w_866 w_867 w_25 w_868) kw_L_year ⟨Nat.le_of_ble_eq_true rfl, Nat.le_of_ble_eq_true rfl⟩ ⟨Nat.le_trans (show cells + 1 ≤ 450000 by omega) rm_c, Nat.le_trans (show slots + 6 ≤ 4000000 by omega) rm_s⟩ hI hS hl.1 rfl rfl (Nat.le_of_ble_eq_true rfl) dL_law_1352 (fun H hI hS => ?_)
  refine lv_istore (lv' := [(5, .int (wk 1 1 ((m_X0_year q1 z).1))), (4, .int i), (3, .ref o), (2, .ref b.1), (1, .ref a.1), (0, .ref bs)]) hx hb dL_law_1355 hl (by decide) rfl (fun ls hl => ?_)
  refine lv_aload_n hx hb dL_law_1357 rfl (lv_at hl 3 rfl) ?_
  refine lv_aload_n hx hb dL_law_1358 rfl (lv_at hl 5 rfl) ?_
  refine lv_iload hx hb dL_law_1359 (lv_at hl 1 rfl) ?_
  refine lv_iconst (v := 1) hx hb dL_law_1361 (by decide) ?_
  refine lv_iadd hx hb dL_law_1362 ?_
  refine lw_sld hx hb hX hbl hS h1 dL_law_1363 ?_
  obtain ⟨x_1, hx_1, hm⟩ := Option.bind_eq_some_iff.mp hm
  refine lw_m hC hGx hLD (k_X3_year l k b Lb hLD.2.1 q1 zm hx_1) (gV w_1244 w_1245 w_1246 w_27 w_1247) kk_X3_year rfl ⟨Nat.le_of_ble_eq_true rfl, Nat.le_of_ble_eq_true rfl⟩ ⟨Nat.le_trans (show cells + 1 ≤ 450000 by omega) rm_c, Nat.le_trans (show slots + 6 ≤ 4000000 by omega) rm_s⟩ hI hS hl.1 rfl rfl (Nat.le_of_ble_eq_true rfl) dL_law_1364 (fun H hI hS => ?_)
  refine lv_istore (lv' := [(6, .int x_1.1), (5, .int (wk 1 1 ((m_X0_year q1 z).1))), (4, .int i), (3, .ref o), (2, .ref b.1), (1, .ref a.1), (0, .ref bs)]) hx hb dL_law_1367 hl (by decide) rfl (fun ls hl => ?_)
  refine lv_goto (tgt := 2249) hx hb dL_law_1369 (by decide) ?_
  obtain rfl := Option.some.inj hm
  exact W.widen (k := cells + 772) (n := slots + 6282) (by omega) (by omega) (kk H ls hI hS (lv_sub hl [2, 3, 4, 5, 6] rfl))
set_option maxRecDepth 100000 in
def o_lc_27 (q1 q2 q3 q4 : Int32) (z : CS) (v : Int64) (zm : MS) : Option (CS × Int64 × MS) := (if ¬ ((m_X0_month q1 z).1 = 0 ∨ (m_X0_month q1 z).1 = 1) then none else ((o_X3_month q1 zm).bind fun x_1 => some (z, (if (m_X0_month q1 z).1 = 0 then ((m_X0_month q1 z).2).toInt64 else v), x_1.2)))
set_option maxRecDepth 100000 in
set_option maxHeartbeats 4000000 in
theorem lc_27 {p : Program} {l : Launch} (hl9 : l.stackTraces = false) {e : Env} {s : State} {m : MethodId} {below : List Frame} {meth : Method} {c : Code} {bs L : Nat} {xs : Nat → Int32} {k : Kx} {a b : CA} {o : Nat} {Lb : List Nat} {Q : State → Prop} (hC : CallFix p m c cL_law 7 s #[.ref bs] (Cond.tt :: GL) RL) (hGx : Gx k s) (hLD : LD k a o b Lb s) (hX : va_X bs L xs s s.heap) (hbl : bs < s.heap.size) {i q1 q2 q3 q4 : Int32} (h1 : vp_in (i + (1 : Int32)) L ∧ xs (i + (1 : Int32)).toNatClampNeg = q1) (h2 : vp_in (i + (2 : Int32)) L ∧ xs (i + (2 : Int32)).toNatClampNeg = q2) (h3 : vp_in (i + (3 : Int32)) L ∧ xs (i + (3 : Int32)).toNatClampNeg = q3) (h4 : vp_in (i + (4 : Int32)) L ∧ xs (i + (4 : Int32)).toNatClampNeg = q4) {z : CS} {v : Int64} {zm : MS} {H : Heap} {ls : Array Slot} {cells slots : Nat} (hl : lv_has ls 7 [(4, .int i), (3, .ref o), (2, .ref b.1), (1, .ref a.1), (0, .ref bs)]) (hI : LI k a o b Lb z v zm H) (hS : va_S (nA s.heap.size) s.heap H []) (hc : cells + 772 ≤ 450000 ∧ slots + 6282 ≤ 4000000) {r : CS × Int64 × MS} (hm : o_lc_27 q1 q2 q3 q4 z v zm = some r) (kk : ∀ (H1 : Heap) (ls1 : Array Slot), LI k a o b Lb r.1 r.2.1 r.2.2 H1 → va_S (nA s.heap.size) s.heap H1 [] → lv_has ls1 7 [(4, .int i), (3, .ref o), (2, .ref b.1), (1, .ref a.1), (0, .ref bs)] → W p l e room_1 s m #[.ref bs] below meth c H1 [] (cells + 772) (slots + 6282) Q (F0 m 2249 ls1 [])) : W p l e room_1 s m #[.ref bs] below meth c H [] cells slots Q (F0 m 1372 ls []) := by
  have hx := hC.1
  have hb := hC.2.1
  refine lv_aload_n hx hb dL_law_1372 rfl (lv_at hl 3 rfl) ?_
  refine lv_aload_n hx hb dL_law_1373 rfl (lv_at hl 4 rfl) ?_
  refine lv_iload hx hb dL_law_1374 (lv_at hl 0 rfl) ?_
  refine lv_iconst (v := 1) hx hb dL_law_1376 (by decide) ?_
  refine lv_iadd hx hb dL_law_1377 ?_
  refine lw_sld hx hb hX hbl hS h1 dL_law_1378 ?_
  refine lv_aload_n hx hb dL_law_1379 rfl (lv_at hl 1 rfl) ?_
  by_cases h_1 : ¬ ((m_X0_month q1 z).1 = 0 ∨ (m_X0_month q1 z).1 = 1)
  · have hm := (if_pos h_1).symm.trans hm
    cases hm
  have hm := (if_neg h_1).symm.trans hm
  refine lw_w hC hGx hLD (k_L_month l hl9 k a hLD.1 o q1 z v (Decidable.of_not_not h_1)) (gSW w_870 w_871 w_25 w_872) kw_L_month ⟨Nat.le_of_ble_eq_true rfl, Nat.le_of_ble_eq_true rfl⟩ ⟨Nat.le_trans (show cells + 1 ≤ 450000 by omega) rm_c, Nat.le_trans (show slots + 6 ≤ 4000000 by omega) rm_s⟩ hI hS hl.1 rfl rfl (Nat.le_of_ble_eq_true rfl) dL_law_1380 (fun H hI hS => ?_)
  refine lv_istore (lv' := [(5, .int (wk 1 1 ((m_X0_month q1 z).1))), (4, .int i), (3, .ref o), (2, .ref b.1), (1, .ref a.1), (0, .ref bs)]) hx hb dL_law_1383 hl (by decide) rfl (fun ls hl => ?_)
  refine lv_aload_n hx hb dL_law_1385 rfl (lv_at hl 3 rfl) ?_
  refine lv_aload_n hx hb dL_law_1386 rfl (lv_at hl 5 rfl) ?_
  refine lv_iload hx hb dL_law_1387 (lv_at hl 1 rfl) ?_
  refine lv_iconst (v := 1) hx hb dL_law_1389 (by decide) ?_
  refine lv_iadd hx hb dL_law_1390 ?_
  refine lw_sld hx hb hX hbl hS h1 dL_law_1391 ?_
  obtain ⟨x_1, hx_1, hm⟩ := Option.bind_eq_some_iff.mp hm
  refine lw_m hC hGx hLD (k_X3_month l k b Lb hLD.2.1 q1 zm hx_1) (gV w_1248 w_1249 w_1250 w_27 w_1251) kk_X3_month rfl ⟨Nat.le_of_ble_eq_true rfl, Nat.le_of_ble_eq_true rfl⟩ ⟨Nat.le_trans (show cells + 1 ≤ 450000 by omega) rm_c, Nat.le_trans (show slots + 6 ≤ 4000000 by omega) rm_s⟩ hI hS hl.1 rfl rfl (Nat.le_of_ble_eq_true rfl) dL_law_1392 (fun H hI hS => ?_)
  refine lv_istore (lv' := [(6, .int x_1.1), (5, .int (wk 1 1 ((m_X0_month q1 z).1))), (4, .int i), (3, .ref o), (2, .ref b.1), (1, .ref a.1), (0, .ref bs)]) hx hb dL_law_1395 hl (by decide) rfl (fun ls hl => ?_)
  refine lv_goto (tgt := 2249) hx hb dL_law_1397 (by decide) ?_
  obtain rfl := Option.some.inj hm
  exact W.widen (k := cells + 772) (n := slots + 6282) (by omega) (by omega) (kk H ls hI hS (lv_sub hl [2, 3, 4, 5, 6] rfl))
set_option maxRecDepth 100000 in
def o_lc_28 (q1 q2 q3 q4 : Int32) (z : CS) (v : Int64) (zm : MS) : Option (CS × Int64 × MS) := (if ¬ ((m_X0_day q1 z).1 = 0 ∨ (m_X0_day q1 z).1 = 1) then none else ((o_X3_day q1 zm).bind fun x_1 => some (z, (if (m_X0_day q1 z).1 = 0 then ((m_X0_day q1 z).2).toInt64 else v), x_1.2)))
set_option maxRecDepth 100000 in
set_option maxHeartbeats 4000000 in
theorem lc_28 {p : Program} {l : Launch} (hl9 : l.stackTraces = false) {e : Env} {s : State} {m : MethodId} {below : List Frame} {meth : Method} {c : Code} {bs L : Nat} {xs : Nat → Int32} {k : Kx} {a b : CA} {o : Nat} {Lb : List Nat} {Q : State → Prop} (hC : CallFix p m c cL_law 7 s #[.ref bs] (Cond.tt :: GL) RL) (hGx : Gx k s) (hLD : LD k a o b Lb s) (hX : va_X bs L xs s s.heap) (hbl : bs < s.heap.size) {i q1 q2 q3 q4 : Int32} (h1 : vp_in (i + (1 : Int32)) L ∧ xs (i + (1 : Int32)).toNatClampNeg = q1) (h2 : vp_in (i + (2 : Int32)) L ∧ xs (i + (2 : Int32)).toNatClampNeg = q2) (h3 : vp_in (i + (3 : Int32)) L ∧ xs (i + (3 : Int32)).toNatClampNeg = q3) (h4 : vp_in (i + (4 : Int32)) L ∧ xs (i + (4 : Int32)).toNatClampNeg = q4) {z : CS} {v : Int64} {zm : MS} {H : Heap} {ls : Array Slot} {cells slots : Nat} (hl : lv_has ls 7 [(4, .int i), (3, .ref o), (2, .ref b.1), (1, .ref a.1), (0, .ref bs)]) (hI : LI k a o b Lb z v zm H) (hS : va_S (nA s.heap.size) s.heap H []) (hc : cells + 772 ≤ 450000 ∧ slots + 6282 ≤ 4000000) {r : CS × Int64 × MS} (hm : o_lc_28 q1 q2 q3 q4 z v zm = some r) (kk : ∀ (H1 : Heap) (ls1 : Array Slot), LI k a o b Lb r.1 r.2.1 r.2.2 H1 → va_S (nA s.heap.size) s.heap H1 [] → lv_has ls1 7 [(4, .int i), (3, .ref o), (2, .ref b.1), (1, .ref a.1), (0, .ref bs)] → W p l e room_1 s m #[.ref bs] below meth c H1 [] (cells + 772) (slots + 6282) Q (F0 m 2249 ls1 [])) : W p l e room_1 s m #[.ref bs] below meth c H [] cells slots Q (F0 m 1400 ls []) := by
  have hx := hC.1
  have hb := hC.2.1
  refine lv_aload_n hx hb dL_law_1400 rfl (lv_at hl 3 rfl) ?_
  refine lv_aload_n hx hb dL_law_1401 rfl (lv_at hl 4 rfl) ?_
  refine lv_iload hx hb dL_law_1402 (lv_at hl 0 rfl) ?_
  refine lv_iconst (v := 1) hx hb dL_law_1404 (by decide) ?_
  refine lv_iadd hx hb dL_law_1405 ?_
  refine lw_sld hx hb hX hbl hS h1 dL_law_1406 ?_
  refine lv_aload_n hx hb dL_law_1407 rfl (lv_at hl 1 rfl) ?_
  by_cases h_1 : ¬ ((m_X0_day q1 z).1 = 0 ∨ (m_X0_day q1 z).1 = 1)
  · have hm := (if_pos h_1).symm.trans hm
    cases hm
  have hm := (if_neg h_1).symm.trans hm
  refine lw_w hC hGx hLD (k_L_day l hl9 k a hLD.1 o q1 z v (Decidable.of_not_not h_1)) (gSW w_874 w_875 w_25 w_876) kw_L_day ⟨Nat.le_of_ble_eq_true rfl, Nat.le_of_ble_eq_true rfl⟩ ⟨Nat.le_trans (show cells + 1 ≤ 450000 by omega) rm_c, Nat.le_trans (show slots + 6 ≤ 4000000 by omega) rm_s⟩ hI hS hl.1 rfl rfl (Nat.le_of_ble_eq_true rfl) dL_law_1408 (fun H hI hS => ?_)
  refine lv_istore (lv' := [(5, .int (wk 1 1 ((m_X0_day q1 z).1))), (4, .int i), (3, .ref o), (2, .ref b.1), (1, .ref a.1), (0, .ref bs)]) hx hb dL_law_1411 hl (by decide) rfl (fun ls hl => ?_)
  refine lv_aload_n hx hb dL_law_1413 rfl (lv_at hl 3 rfl) ?_
  refine lv_aload_n hx hb dL_law_1414 rfl (lv_at hl 5 rfl) ?_
  refine lv_iload hx hb dL_law_1415 (lv_at hl 1 rfl) ?_
  refine lv_iconst (v := 1) hx hb dL_law_1417 (by decide) ?_
  refine lv_iadd hx hb dL_law_1418 ?_
  refine lw_sld hx hb hX hbl hS h1 dL_law_1419 ?_
  obtain ⟨x_1, hx_1, hm⟩ := Option.bind_eq_some_iff.mp hm
  refine lw_m hC hGx hLD (k_X3_day l k b Lb hLD.2.1 q1 zm hx_1) (gV w_1252 w_1253 w_1254 w_27 w_1255) kk_X3_day rfl ⟨Nat.le_of_ble_eq_true rfl, Nat.le_of_ble_eq_true rfl⟩ ⟨Nat.le_trans (show cells + 1 ≤ 450000 by omega) rm_c, Nat.le_trans (show slots + 6 ≤ 4000000 by omega) rm_s⟩ hI hS hl.1 rfl rfl (Nat.le_of_ble_eq_true rfl) dL_law_1420 (fun H hI hS => ?_)
  refine lv_istore (lv' := [(6, .int x_1.1), (5, .int (wk 1 1 ((m_X0_day q1 z).1))), (4, .int i), (3, .ref o), (2, .ref b.1), (1, .ref a.1), (0, .ref bs)]) hx hb dL_law_1423 hl (by decide) rfl (fun ls hl => ?_)
  refine lv_goto (tgt := 2249) hx hb dL_law_1425 (by decide) ?_
  obtain rfl := Option.some.inj hm
  exact W.widen (k := cells + 772) (n := slots + 6282) (by omega) (by omega) (kk H ls hI hS (lv_sub hl [2, 3, 4, 5, 6] rfl))
set_option maxRecDepth 100000 in
def o_lc_29 (q1 q2 q3 q4 : Int32) (z : CS) (v : Int64) (zm : MS) : Option (CS × Int64 × MS) := (if ¬ ((m_X0_dayOfYear q1 z).1 = 0 ∨ (m_X0_dayOfYear q1 z).1 = 1) then none else ((o_X3_dayOfYear q1 zm).bind fun x_1 => some (z, (if (m_X0_dayOfYear q1 z).1 = 0 then ((m_X0_dayOfYear q1 z).2).toInt64 else v), x_1.2)))
set_option maxRecDepth 100000 in
set_option maxHeartbeats 4000000 in
theorem lc_29 {p : Program} {l : Launch} (hl9 : l.stackTraces = false) {e : Env} {s : State} {m : MethodId} {below : List Frame} {meth : Method} {c : Code} {bs L : Nat} {xs : Nat → Int32} {k : Kx} {a b : CA} {o : Nat} {Lb : List Nat} {Q : State → Prop} (hC : CallFix p m c cL_law 7 s #[.ref bs] (Cond.tt :: GL) RL) (hGx : Gx k s) (hLD : LD k a o b Lb s) (hX : va_X bs L xs s s.heap) (hbl : bs < s.heap.size) {i q1 q2 q3 q4 : Int32} (h1 : vp_in (i + (1 : Int32)) L ∧ xs (i + (1 : Int32)).toNatClampNeg = q1) (h2 : vp_in (i + (2 : Int32)) L ∧ xs (i + (2 : Int32)).toNatClampNeg = q2) (h3 : vp_in (i + (3 : Int32)) L ∧ xs (i + (3 : Int32)).toNatClampNeg = q3) (h4 : vp_in (i + (4 : Int32)) L ∧ xs (i + (4 : Int32)).toNatClampNeg = q4) {z : CS} {v : Int64} {zm : MS} {H : Heap} {ls : Array Slot} {cells slots : Nat} (hl : lv_has ls 7 [(4, .int i), (3, .ref o), (2, .ref b.1), (1, .ref a.1), (0, .ref bs)]) (hI : LI k a o b Lb z v zm H) (hS : va_S (nA s.heap.size) s.heap H []) (hc : cells + 772 ≤ 450000 ∧ slots + 6282 ≤ 4000000) {r : CS × Int64 × MS} (hm : o_lc_29 q1 q2 q3 q4 z v zm = some r) (kk : ∀ (H1 : Heap) (ls1 : Array Slot), LI k a o b Lb r.1 r.2.1 r.2.2 H1 → va_S (nA s.heap.size) s.heap H1 [] → lv_has ls1 7 [(4, .int i), (3, .ref o), (2, .ref b.1), (1, .ref a.1), (0, .ref bs)] → W p l e room_1 s m #[.ref bs] below meth c H1 [] (cells + 772) (slots + 6282) Q (F0 m 2249 ls1 [])) : W p l e room_1 s m #[.ref bs] below meth c H [] cells slots Q (F0 m 1428 ls []) := by
  have hx := hC.1
  have hb := hC.2.1
  refine lv_aload_n hx hb dL_law_1428 rfl (lv_at hl 3 rfl) ?_
  refine lv_aload_n hx hb dL_law_1429 rfl (lv_at hl 4 rfl) ?_
  refine lv_iload hx hb dL_law_1430 (lv_at hl 0 rfl) ?_
  refine lv_iconst (v := 1) hx hb dL_law_1432 (by decide) ?_
  refine lv_iadd hx hb dL_law_1433 ?_
  refine lw_sld hx hb hX hbl hS h1 dL_law_1434 ?_
  refine lv_aload_n hx hb dL_law_1435 rfl (lv_at hl 1 rfl) ?_
  by_cases h_1 : ¬ ((m_X0_dayOfYear q1 z).1 = 0 ∨ (m_X0_dayOfYear q1 z).1 = 1)
  · have hm := (if_pos h_1).symm.trans hm
    cases hm
  have hm := (if_neg h_1).symm.trans hm
  refine lw_w hC hGx hLD (k_L_dayOfYear l hl9 k a hLD.1 o q1 z v (Decidable.of_not_not h_1)) (gSW w_878 w_879 w_25 w_880) kw_L_dayOfYear ⟨Nat.le_of_ble_eq_true rfl, Nat.le_of_ble_eq_true rfl⟩ ⟨Nat.le_trans (show cells + 1 ≤ 450000 by omega) rm_c, Nat.le_trans (show slots + 6 ≤ 4000000 by omega) rm_s⟩ hI hS hl.1 rfl rfl (Nat.le_of_ble_eq_true rfl) dL_law_1436 (fun H hI hS => ?_)
  refine lv_istore (lv' := [(5, .int (wk 1 1 ((m_X0_dayOfYear q1 z).1))), (4, .int i), (3, .ref o), (2, .ref b.1), (1, .ref a.1), (0, .ref bs)]) hx hb dL_law_1439 hl (by decide) rfl (fun ls hl => ?_)
  refine lv_aload_n hx hb dL_law_1441 rfl (lv_at hl 3 rfl) ?_
  refine lv_aload_n hx hb dL_law_1442 rfl (lv_at hl 5 rfl) ?_
  refine lv_iload hx hb dL_law_1443 (lv_at hl 1 rfl) ?_
  refine lv_iconst (v := 1) hx hb dL_law_1445 (by decide) ?_
  refine lv_iadd hx hb dL_law_1446 ?_
  refine lw_sld hx hb hX hbl hS h1 dL_law_1447 ?_
  obtain ⟨x_1, hx_1, hm⟩ := Option.bind_eq_some_iff.mp hm
  refine lw_m hC hGx hLD (k_X3_dayOfYear l k b Lb hLD.2.1 q1 zm hx_1) (gV w_1256 w_1257 w_1258 w_27 w_1259) kk_X3_dayOfYear rfl ⟨Nat.le_of_ble_eq_true rfl, Nat.le_of_ble_eq_true rfl⟩ ⟨Nat.le_trans (show cells + 1 ≤ 450000 by omega) rm_c, Nat.le_trans (show slots + 6 ≤ 4000000 by omega) rm_s⟩ hI hS hl.1 rfl rfl (Nat.le_of_ble_eq_true rfl) dL_law_1448 (fun H hI hS => ?_)
  refine lv_istore (lv' := [(6, .int x_1.1), (5, .int (wk 1 1 ((m_X0_dayOfYear q1 z).1))), (4, .int i), (3, .ref o), (2, .ref b.1), (1, .ref a.1), (0, .ref bs)]) hx hb dL_law_1451 hl (by decide) rfl (fun ls hl => ?_)
  refine lv_goto (tgt := 2249) hx hb dL_law_1453 (by decide) ?_
  obtain rfl := Option.some.inj hm
  exact W.widen (k := cells + 772) (n := slots + 6282) (by omega) (by omega) (kk H ls hI hS (lv_sub hl [2, 3, 4, 5, 6] rfl))
set_option maxRecDepth 100000 in
def o_lc_30 (q1 q2 q3 q4 : Int32) (z : CS) (v : Int64) (zm : MS) : Option (CS × Int64 × MS) := (if ¬ ((m_X0_dayOfWeek q1 z).1 = 0 ∨ (m_X0_dayOfWeek q1 z).1 = 1) then none else ((o_X3_dayOfWeek q1 zm).bind fun x_1 => some (z, (if (m_X0_dayOfWeek q1 z).1 = 0 then ((m_X0_dayOfWeek q1 z).2).toInt64 else v), x_1.2)))
set_option maxRecDepth 100000 in
set_option maxHeartbeats 4000000 in
theorem lc_30 {p : Program} {l : Launch} (hl9 : l.stackTraces = false) {e : Env} {s : State} {m : MethodId} {below : List Frame} {meth : Method} {c : Code} {bs L : Nat} {xs : Nat → Int32} {k : Kx} {a b : CA} {o : Nat} {Lb : List Nat} {Q : State → Prop} (hC : CallFix p m c cL_law 7 s #[.ref bs] (Cond.tt :: GL) RL) (hGx : Gx k s) (hLD : LD k a o b Lb s) (hX : va_X bs L xs s s.heap) (hbl : bs < s.heap.size) {i q1 q2 q3 q4 : Int32} (h1 : vp_in (i + (1 : Int32)) L ∧ xs (i + (1 : Int32)).toNatClampNeg = q1) (h2 : vp_in (i + (2 : Int32)) L ∧ xs (i + (2 : Int32)).toNatClampNeg = q2) (h3 : vp_in (i + (3 : Int32)) L ∧ xs (i + (3 : Int32)).toNatClampNeg = q3) (h4 : vp_in (i + (4 : Int32)) L ∧ xs (i + (4 : Int32)).toNatClampNeg = q4) {z : CS} {v : Int64} {zm : MS} {H : Heap} {ls : Array Slot} {cells slots : Nat} (hl : lv_has ls 7 [(4, .int i), (3, .ref o), (2, .ref b.1), (1, .ref a.1), (0, .ref bs)]) (hI : LI k a o b Lb z v zm H) (hS : va_S (nA s.heap.size) s.heap H []) (hc : cells + 772 ≤ 450000 ∧ slots + 6282 ≤ 4000000) {r : CS × Int64 × MS} (hm : o_lc_30 q1 q2 q3 q4 z v zm = some r) (kk : ∀ (H1 : Heap) (ls1 : Array Slot), LI k a o b Lb r.1 r.2.1 r.2.2 H1 → va_S (nA s.heap.size) s.heap H1 [] → lv_has ls1 7 [(4, .int i), (3, .ref o), (2, .ref b.1), (1, .ref a.1), (0, .ref bs)] → W p l e room_1 s m #[.ref bs] below meth c H1 [] (cells + 772) (slots + 6282) Q (F0 m 2249 ls1 [])) : W p l e room_1 s m #[.ref bs] below meth c H [] cells slots Q (F0 m 1456 ls []) := by
  have hx := hC.1
  have hb := hC.2.1
  refine lv_aload_n hx hb dL_law_1456 rfl (lv_at hl 3 rfl) ?_
  refine lv_aload_n hx hb dL_law_1457 rfl (lv_at hl 4 rfl) ?_
  refine lv_iload hx hb dL_law_1458 (lv_at hl 0 rfl) ?_
  refine lv_iconst (v := 1) hx hb dL_law_1460 (by decide) ?_
  refine lv_iadd hx hb dL_law_1461 ?_
  refine lw_sld hx hb hX hbl hS h1 dL_law_1462 ?_
  refine lv_aload_n hx hb dL_law_1463 rfl (lv_at hl 1 rfl) ?_
  by_cases h_1 : ¬ ((m_X0_dayOfWeek q1 z).1 = 0 ∨ (m_X0_dayOfWeek q1 z).1 = 1)
  · have hm := (if_pos h_1).symm.trans hm
    cases hm
  have hm := (if_neg h_1).symm.trans hm
  refine lw_w hC hGx hLD (k_L_dayOfWeek l hl9 k a hLD.1 o q1 z v (Decidable.of_not_not h_1)) (gSW w_882 w_883 w_25 w_884) kw_L_dayOfWeek ⟨Nat.le_of_ble_eq_true rfl, Nat.le_of_ble_eq_true rfl⟩ ⟨Nat.le_trans (show cells + 1 ≤ 450000 by omega) rm_c, Nat.le_trans (show slots + 6 ≤ 4000000 by omega) rm_s⟩ hI hS hl.1 rfl rfl (Nat.le_of_ble_eq_true rfl) dL_law_1464 (fun H hI hS => ?_)
  refine lv_istore (lv' := [(5, .int (wk 1 1 ((m_X0_dayOfWeek q1 z).1))), (4, .int i), (3, .ref o), (2, .ref b.1), (1, .ref a.1), (0, .ref bs)]) hx hb dL_law_1467 hl (by decide) rfl (fun ls hl => ?_)
  refine lv_aload_n hx hb dL_law_1469 rfl (lv_at hl 3 rfl) ?_
  refine lv_aload_n hx hb dL_law_1470 rfl (lv_at hl 5 rfl) ?_
  refine lv_iload hx hb dL_law_1471 (lv_at hl 1 rfl) ?_
  refine lv_iconst (v := 1) hx hb dL_law_1473 (by decide) ?_
  refine lv_iadd hx hb dL_law_1474 ?_
  refine lw_sld hx hb hX hbl hS h1 dL_law_1475 ?_
  obtain ⟨x_1, hx_1, hm⟩ := Option.bind_eq_some_iff.mp hm
  refine lw_m hC hGx hLD (k_X3_dayOfWeek l k b Lb hLD.2.1 q1 zm hx_1) (gV w_1261 w_1262 w_1263 w_27 w_1264) kk_X3_dayOfWeek rfl ⟨Nat.le_of_ble_eq_true rfl, Nat.le_of_ble_eq_true rfl⟩ ⟨Nat.le_trans (show cells + 1 ≤ 450000 by omega) rm_c, Nat.le_trans (show slots + 6 ≤ 4000000 by omega) rm_s⟩ hI hS hl.1 rfl rfl (Nat.le_of_ble_eq_true rfl) dL_law_1476 (fun H hI hS => ?_)
  refine lv_istore (lv' := [(6, .int x_1.1), (5, .int (wk 1 1 ((m_X0_dayOfWeek q1 z).1))), (4, .int i), (3, .ref o), (2, .ref b.1), (1, .ref a.1), (0, .ref bs)]) hx hb dL_law_1479 hl (by decide) rfl (fun ls hl => ?_)
  refine lv_goto (tgt := 2249) hx hb dL_law_1481 (by decide) ?_
  obtain rfl := Option.some.inj hm
  exact W.widen (k := cells + 772) (n := slots + 6282) (by omega) (by omega) (kk H ls hI hS (lv_sub hl [2, 3, 4, 5, 6] rfl))
set_option maxRecDepth 100000 in
def o_lc_31 (q1 q2 q3 q4 : Int32) (z : CS) (v : Int64) (zm : MS) : Option (CS × Int64 × MS) := (if ¬ ((m_X0_laterDayOfWeek q1 q2 z).1 = 0 ∨ (m_X0_laterDayOfWeek q1 q2 z).1 = 1 ∨ (m_X0_laterDayOfWeek q1 q2 z).1 = 2) then none else ((o_X3_laterDayOfWeek q1 q2 zm).bind fun x_1 => some (z, (if (m_X0_laterDayOfWeek q1 q2 z).1 = 0 then ((m_X0_laterDayOfWeek q1 q2 z).2).toInt64 else v), x_1.2)))
set_option maxRecDepth 100000 in
set_option maxHeartbeats 4000000 in
theorem lc_31 {p : Program} {l : Launch} (hl9 : l.stackTraces = false) {e : Env} {s : State} {m : MethodId} {below : List Frame} {meth : Method} {c : Code} {bs L : Nat} {xs : Nat → Int32} {k : Kx} {a b : CA} {o : Nat} {Lb : List Nat} {Q : State → Prop} (hC : CallFix p m c cL_law 7 s #[.ref bs] (Cond.tt :: GL) RL) (hGx : Gx k s) (hLD : LD k a o b Lb s) (hX : va_X bs L xs s s.heap) (hbl : bs < s.heap.size) {i q1 q2 q3 q4 : Int32} (h1 : vp_in (i + (1 : Int32)) L ∧ xs (i + (1 : Int32)).toNatClampNeg = q1) (h2 : vp_in (i + (2 : Int32)) L ∧ xs (i + (2 : Int32)).toNatClampNeg = q2) (h3 : vp_in (i + (3 : Int32)) L ∧ xs (i + (3 : Int32)).toNatClampNeg = q3) (h4 : vp_in (i + (4 : Int32)) L ∧ xs (i + (4 : Int32)).toNatClampNeg = q4) {z : CS} {v : Int64} {zm : MS} {H : Heap} {ls : Array Slot} {cells slots : Nat} (hl : lv_has ls 7 [(4, .int i), (3, .ref o), (2, .ref b.1), (1, .ref a.1), (0, .ref bs)]) (hI : LI k a o b Lb z v zm H) (hS : va_S (nA s.heap.size) s.heap H []) (hc : cells + 772 ≤ 450000 ∧ slots + 6282 ≤ 4000000) {r : CS × Int64 × MS} (hm : o_lc_31 q1 q2 q3 q4 z v zm = some r) (kk : ∀ (H1 : Heap) (ls1 : Array Slot), LI k a o b Lb r.1 r.2.1 r.2.2 H1 → va_S (nA s.heap.size) s.heap H1 [] → lv_has ls1 7 [(4, .int i), (3, .ref o), (2, .ref b.1), (1, .ref a.1), (0, .ref bs)] → W p l e room_1 s m #[.ref bs] below meth c H1 [] (cells + 772) (slots + 6282) Q (F0 m 2249 ls1 [])) : W p l e room_1 s m #[.ref bs] below meth c H [] cells slots Q (F0 m 1484 ls []) := by
  have hx := hC.1
  have hb := hC.2.1
  refine lv_aload_n hx hb dL_law_1484 rfl (lv_at hl 3 rfl) ?_
  refine lv_aload_n hx hb dL_law_1485 rfl (lv_at hl 4 rfl) ?_
  refine lv_iload hx hb dL_law_1486 (lv_at hl 0 rfl) ?_
  refine lv_iconst (v := 1) hx hb dL_law_1488 (by decide) ?_
  refine lv_iadd hx hb dL_law_1489 ?_
  refine lw_sld hx hb hX hbl hS h1 dL_law_1490 ?_
  refine lv_aload_n hx hb dL_law_1491 rfl (lv_at hl 4 rfl) ?_
  refine lv_iload hx hb dL_law_1492 (lv_at hl 0 rfl) ?_
  refine lv_iconst (v := 2) hx hb dL_law_1494 (by decide) ?_
  refine lv_iadd hx hb dL_law_1495 ?_
  refine lw_sld hx hb hX hbl hS h2 dL_law_1496 ?_
  refine lv_aload_n hx hb dL_law_1497 rfl (lv_at hl 1 rfl) ?_
  by_cases h_1 : ¬ ((m_X0_laterDayOfWeek q1 q2 z).1 = 0 ∨ (m_X0_laterDayOfWeek q1 q2 z).1 = 1 ∨ (m_X0_laterDayOfWeek q1 q2 z).1 = 2)
  · have hm := (if_pos h_1).symm.trans hm
    cases hm
  have hm := (if_neg h_1).symm.trans hm
  refine lw_w hC hGx hLD (k_L_laterDayOfWeek l hl9 k a hLD.1 o q1 q2 z v (Decidable.of_not_not h_1)) (gSW w_886 w_887 w_25 w_888) kw_L_laterDayOfWeek ⟨Nat.le_of_ble_eq_true rfl, Nat.le_of_ble_eq_true rfl⟩ ⟨Nat.le_trans (show cells + 3 ≤ 450000 by omega) rm_c, Nat.le_trans (show slots + 18 ≤ 4000000 by omega) rm_s⟩ hI hS hl.1 rfl rfl (Nat.le_of_ble_eq_true rfl) dL_law_1498 (fun H hI hS => ?_)
  refine lv_istore (lv' := [(5, .int (wk 1 2 ((m_X0_laterDayOfWeek q1 q2 z).1))), (4, .int i), (3, .ref o), (2, .ref b.1), (1, .ref a.1), (0, .ref bs)]) hx hb dL_law_1501 hl (by decide) rfl (fun ls hl => ?_)
  refine lv_aload_n hx hb dL_law_1503 rfl (lv_at hl 3 rfl) ?_
  refine lv_aload_n hx hb dL_law_1504 rfl (lv_at hl 5 rfl) ?_
  refine lv_iload hx hb dL_law_1505 (lv_at hl 1 rfl) ?_
  refine lv_iconst (v := 1) hx hb dL_law_1507 (by decide) ?_
  refine lv_iadd hx hb dL_law_1508 ?_
  refine lw_sld hx hb hX hbl hS h1 dL_law_1509 ?_
  refine lv_aload_n hx hb dL_law_1510 rfl (lv_at hl 5 rfl) ?_
  refine lv_iload hx hb dL_law_1511 (lv_at hl 1 rfl) ?_
  refine lv_iconst (v := 2) hx hb dL_law_1513 (by decide) ?_
  refine lv_iadd hx hb dL_law_1514 ?_
  refine lw_sld hx hb hX hbl hS h2 dL_law_1515 ?_
  obtain ⟨x_1, hx_1, hm⟩ := Option.bind_eq_some_iff.mp hm
  refine lw_m hC hGx hLD (k_X3_laterDayOfWeek l k b Lb hLD.2.1 q1 q2 zm hx_1) (gV w_1269 w_1270 w_1271 w_27 w_1272) kk_X3_laterDayOfWeek rfl ⟨Nat.le_of_ble_eq_true rfl, Nat.le_of_ble_eq_true rfl⟩ ⟨Nat.le_trans (show cells + 3 ≤ 450000 by omega) rm_c, Nat.le_trans (show slots + 18 ≤ 4000000 by omega) rm_s⟩ hI hS hl.1 rfl rfl (Nat.le_of_ble_eq_true rfl) dL_law_1516 (fun H hI hS => ?_)
  refine lv_istore (lv' := [(6, .int x_1.1), (5, .int (wk 1 2 ((m_X0_laterDayOfWeek q1 q2 z).1))), (4, .int i), (3, .ref o), (2, .ref b.1), (1, .ref a.1), (0, .ref bs)]) hx hb dL_law_1519 hl (by decide) rfl (fun ls hl => ?_)
  refine lv_goto (tgt := 2249) hx hb dL_law_1521 (by decide) ?_
  obtain rfl := Option.some.inj hm
  exact W.widen (k := cells + 772) (n := slots + 6282) (by omega) (by omega) (kk H ls hI hS (lv_sub hl [2, 3, 4, 5, 6] rfl))
set_option maxRecDepth 100000 in
def o_lc_32 (q1 q2 q3 q4 : Int32) (z : CS) (v : Int64) (zm : MS) : Option (CS × Int64 × MS) := (if ¬ ((m_X0_lengthOfMonth q1 z).1 = 0 ∨ (m_X0_lengthOfMonth q1 z).1 = 1) then none else ((o_X3_lengthOfMonth q1 zm).bind fun x_1 => some (z, (if (m_X0_lengthOfMonth q1 z).1 = 0 then ((m_X0_lengthOfMonth q1 z).2).toInt64 else v), x_1.2)))
set_option maxRecDepth 100000 in
set_option maxHeartbeats 4000000 in
theorem lc_32 {p : Program} {l : Launch} (hl9 : l.stackTraces = false) {e : Env} {s : State} {m : MethodId} {below : List Frame} {meth : Method} {c : Code} {bs L : Nat} {xs : Nat → Int32} {k : Kx} {a b : CA} {o : Nat} {Lb : List Nat} {Q : State → Prop} (hC : CallFix p m c cL_law 7 s #[.ref bs] (Cond.tt :: GL) RL) (hGx : Gx k s) (hLD : LD k a o b Lb s) (hX : va_X bs L xs s s.heap) (hbl : bs < s.heap.size) {i q1 q2 q3 q4 : Int32} (h1 : vp_in (i + (1 : Int32)) L ∧ xs (i + (1 : Int32)).toNatClampNeg = q1) (h2 : vp_in (i + (2 : Int32)) L ∧ xs (i + (2 : Int32)).toNatClampNeg = q2) (h3 : vp_in (i + (3 : Int32)) L ∧ xs (i + (3 : Int32)).toNatClampNeg = q3) (h4 : vp_in (i + (4 : Int32)) L ∧ xs (i + (4 : Int32)).toNatClampNeg = q4) {z : CS} {v : Int64} {zm : MS} {H : Heap} {ls : Array Slot} {cells slots : Nat} (hl : lv_has ls 7 [(4, .int i), (3, .ref o), (2, .ref b.1), (1, .ref a.1), (0, .ref bs)]) (hI : LI k a o b Lb z v zm H) (hS : va_S (nA s.heap.size) s.heap H []) (hc : cells + 772 ≤ 450000 ∧ slots + 6282 ≤ 4000000) {r : CS × Int64 × MS} (hm : o_lc_32 q1 q2 q3 q4 z v zm = some r) (kk : ∀ (H1 : Heap) (ls1 : Array Slot), LI k a o b Lb r.1 r.2.1 r.2.2 H1 → va_S (nA s.heap.size) s.heap H1 [] → lv_has ls1 7 [(4, .int i), (3, .ref o), (2, .ref b.1), (1, .ref a.1), (0, .ref bs)] → W p l e room_1 s m #[.ref bs] below meth c H1 [] (cells + 772) (slots + 6282) Q (F0 m 2249 ls1 [])) : W p l e room_1 s m #[.ref bs] below meth c H [] cells slots Q (F0 m 1524 ls []) := by
  have hx := hC.1
  have hb := hC.2.1
  refine lv_aload_n hx hb dL_law_1524 rfl (lv_at hl 3 rfl) ?_
  refine lv_aload_n hx hb dL_law_1525 rfl (lv_at hl 4 rfl) ?_
  refine lv_iload hx hb dL_law_1526 (lv_at hl 0 rfl) ?_
  refine lv_iconst (v := 1) hx hb dL_law_1528 (by decide) ?_
  refine lv_iadd hx hb dL_law_1529 ?_
  refine lw_sld hx hb hX hbl hS h1 dL_law_1530 ?_
  refine lv_aload_n hx hb dL_law_1531 rfl (lv_at hl 1 rfl) ?_
  by_cases h_1 : ¬ ((m_X0_lengthOfMonth q1 z).1 = 0 ∨ (m_X0_lengthOfMonth q1 z).1 = 1)
  · have hm := (if_pos h_1).symm.trans hm
    cases hm
  have hm := (if_neg h_1).symm.trans hm
  refine lw_w hC hGx hLD (k_L_lengthOfMonth l hl9 k a hLD.1 o q1 z v (Decidable.of_not_not h_1)) (gSW w_893 w_894 w_25 w_895) kw_L_lengthOfMonth ⟨Nat.le_of_ble_eq_true rfl, Nat.le_of_ble_eq_true rfl⟩ ⟨Nat.le_trans (show cells + 1 ≤ 450000 by omega) rm_c, Nat.le_trans (show slots + 6 ≤ 4000000 by omega) rm_s⟩ hI hS hl.1 rfl rfl (Nat.le_of_ble_eq_true rfl) dL_law_1532 (fun H hI hS => ?_)
  refine lv_istore (lv' := [(5, .int (wk 1 1 ((m_X0_lengthOfMonth q1 z).1))), (4, .int i), (3, .ref o), (2, .ref b.1), (1, .ref a.1), (0, .ref bs)]) hx hb dL_law_1535 hl (by decide) rfl (fun ls hl => ?_)
  refine lv_aload_n hx hb dL_law_1537 rfl (lv_at hl 3 rfl) ?_
  refine lv_aload_n hx hb dL_law_1538 rfl (lv_at hl 5 rfl) ?_
  refine lv_iload hx hb dL_law_1539 (lv_at hl 1 rfl) ?_
  refine lv_iconst (v := 1) hx hb dL_law_1541 (by decide) ?_
  refine lv_iadd hx hb dL_law_1542 ?_
  refine lw_sld hx hb hX hbl hS h1 dL_law_1543 ?_
  obtain ⟨x_1, hx_1, hm⟩ := Option.bind_eq_some_iff.mp hm
  refine lw_m hC hGx hLD (k_X3_lengthOfMonth l k b Lb hLD.2.1 q1 zm hx_1) (gV w_1273 w_1274 w_1275 w_27 w_1276) kk_X3_lengthOfMonth rfl ⟨Nat.le_of_ble_eq_true rfl, Nat.le_of_ble_eq_true rfl⟩ ⟨Nat.le_trans (show cells + 1 ≤ 450000 by omega) rm_c, Nat.le_trans (show slots + 6 ≤ 4000000 by omega) rm_s⟩ hI hS hl.1 rfl rfl (Nat.le_of_ble_eq_true rfl) dL_law_1544 (fun H hI hS => ?_)
  refine lv_istore (lv' := [(6, .int x_1.1), (5, .int (wk 1 1 ((m_X0_lengthOfMonth q1 z).1))), (4, .int i), (3, .ref o), (2, .ref b.1), (1, .ref a.1), (0, .ref bs)]) hx hb dL_law_1547 hl (by decide) rfl (fun ls hl => ?_)
  refine lv_goto (tgt := 2249) hx hb dL_law_1549 (by decide) ?_
  obtain rfl := Option.some.inj hm
  exact W.widen (k := cells + 772) (n := slots + 6282) (by omega) (by omega) (kk H ls hI hS (lv_sub hl [2, 3, 4, 5, 6] rfl))
set_option maxRecDepth 100000 in
def o_lc_33 (q1 q2 q3 q4 : Int32) (z : CS) (v : Int64) (zm : MS) : Option (CS × Int64 × MS) := (if ¬ ((m_X0_lengthOfYear q1 z).1 = 0 ∨ (m_X0_lengthOfYear q1 z).1 = 1) then none else ((o_X3_lengthOfYear q1 zm).bind fun x_1 => some (z, (if (m_X0_lengthOfYear q1 z).1 = 0 then ((m_X0_lengthOfYear q1 z).2).toInt64 else v), x_1.2)))
set_option maxRecDepth 100000 in
set_option maxHeartbeats 4000000 in
theorem lc_33 {p : Program} {l : Launch} (hl9 : l.stackTraces = false) {e : Env} {s : State} {m : MethodId} {below : List Frame} {meth : Method} {c : Code} {bs L : Nat} {xs : Nat → Int32} {k : Kx} {a b : CA} {o : Nat} {Lb : List Nat} {Q : State → Prop} (hC : CallFix p m c cL_law 7 s #[.ref bs] (Cond.tt :: GL) RL) (hGx : Gx k s) (hLD : LD k a o b Lb s) (hX : va_X bs L xs s s.heap) (hbl : bs < s.heap.size) {i q1 q2 q3 q4 : Int32} (h1 : vp_in (i + (1 : Int32)) L ∧ xs (i + (1 : Int32)).toNatClampNeg = q1) (h2 : vp_in (i + (2 : Int32)) L ∧ xs (i + (2 : Int32)).toNatClampNeg = q2) (h3 : vp_in (i + (3 : Int32)) L ∧ xs (i + (3 : Int32)).toNatClampNeg = q3) (h4 : vp_in (i + (4 : Int32)) L ∧ xs (i + (4 : Int32)).toNatClampNeg = q4) {z : CS} {v : Int64} {zm : MS} {H : Heap} {ls : Array Slot} {cells slots : Nat} (hl : lv_has ls 7 [(4, .int i), (3, .ref o), (2, .ref b.1), (1, .ref a.1), (0, .ref bs)]) (hI : LI k a o b Lb z v zm H) (hS : va_S (nA s.heap.size) s.heap H []) (hc : cells + 772 ≤ 450000 ∧ slots + 6282 ≤ 4000000) {r : CS × Int64 × MS} (hm : o_lc_33 q1 q2 q3 q4 z v zm = some r) (kk : ∀ (H1 : Heap) (ls1 : Array Slot), LI k a o b Lb r.1 r.2.1 r.2.2 H1 → va_S (nA s.heap.size) s.heap H1 [] → lv_has ls1 7 [(4, .int i), (3, .ref o), (2, .ref b.1), (1, .ref a.1), (0, .ref bs)] → W p l e room_1 s m #[.ref bs] below meth c H1 [] (cells + 772) (slots + 6282) Q (F0 m 2249 ls1 [])) : W p l e room_1 s m #[.ref bs] below meth c H [] cells slots Q (F0 m 1552 ls []) := by
  have hx := hC.1
  have hb := hC.2.1
  refine lv_aload_n hx hb dL_law_1552 rfl (lv_at hl 3 rfl) ?_
  refine lv_aload_n hx hb dL_law_1553 rfl (lv_at hl 4 rfl) ?_
  refine lv_iload hx hb dL_law_1554 (lv_at hl 0 rfl) ?_
  refine lv_iconst (v := 1) hx hb dL_law_1556 (by decide) ?_
  refine lv_iadd hx hb dL_law_1557 ?_
  refine lw_sld hx hb hX hbl hS h1 dL_law_1558 ?_
  refine lv_aload_n hx hb dL_law_1559 rfl (lv_at hl 1 rfl) ?_
  by_cases h_1 : ¬ ((m_X0_lengthOfYear q1 z).1 = 0 ∨ (m_X0_lengthOfYear q1 z).1 = 1)
  · have hm := (if_pos h_1).symm.trans hm
    cases hm
  have hm := (if_neg h_1).symm.trans hm
  refine lw_w hC hGx hLD (k_L_lengthOfYear l hl9 k a hLD.1 o q1 z v (Decidable.of_not_not h_1)) (gSW w_897 w_898 w_25 w_899) kw_L_lengthOfYear ⟨Nat.le_of_ble_eq_true rfl, Nat.le_of_ble_eq_true rfl⟩ ⟨Nat.le_trans (show cells + 1 ≤ 450000 by omega) rm_c, Nat.le_trans (show slots + 6 ≤ 4000000 by omega) rm_s⟩ hI hS hl.1 rfl rfl (Nat.le_of_ble_eq_true rfl) dL_law_1560 (fun H hI hS => ?_)
  refine lv_istore (lv' := [(5, .int (wk 1 1 ((m_X0_lengthOfYear q1 z).1))), (4, .int i), (3, .ref o), (2, .ref b.1), (1, .ref a.1), (0, .ref bs)]) hx hb dL_law_1563 hl (by decide) rfl (fun ls hl => ?_)
  refine lv_aload_n hx hb dL_law_1565 rfl (lv_at hl 3 rfl) ?_
  refine lv_aload_n hx hb dL_law_1566 rfl (lv_at hl 5 rfl) ?_
  refine lv_iload hx hb dL_law_1567 (lv_at hl 1 rfl) ?_
  refine lv_iconst (v := 1) hx hb dL_law_1569 (by decide) ?_
  refine lv_iadd hx hb dL_law_1570 ?_
  refine lw_sld hx hb hX hbl hS h1 dL_law_1571 ?_
  obtain ⟨x_1, hx_1, hm⟩ := Option.bind_eq_some_iff.mp hm
  refine lw_m hC hGx hLD (k_X3_lengthOfYear l k b Lb hLD.2.1 q1 zm hx_1) (gV w_1277 w_1278 w_1279 w_27 w_1280) kk_X3_lengthOfYear rfl ⟨Nat.le_of_ble_eq_true rfl, Nat.le_of_ble_eq_true rfl⟩ ⟨Nat.le_trans (show cells + 1 ≤ 450000 by omega) rm_c, Nat.le_trans (show slots + 6 ≤ 4000000 by omega) rm_s⟩ hI hS hl.1 rfl rfl (Nat.le_of_ble_eq_true rfl) dL_law_1572 (fun H hI hS => ?_)
  refine lv_istore (lv' := [(6, .int x_1.1), (5, .int (wk 1 1 ((m_X0_lengthOfYear q1 z).1))), (4, .int i), (3, .ref o), (2, .ref b.1), (1, .ref a.1), (0, .ref bs)]) hx hb dL_law_1575 hl (by decide) rfl (fun ls hl => ?_)
  refine lv_goto (tgt := 2249) hx hb dL_law_1577 (by decide) ?_
  obtain rfl := Option.some.inj hm
  exact W.widen (k := cells + 772) (n := slots + 6282) (by omega) (by omega) (kk H ls hI hS (lv_sub hl [2, 3, 4, 5, 6] rfl))
set_option maxRecDepth 100000 in
def o_lc_34 (q1 q2 q3 q4 : Int32) (z : CS) (v : Int64) (zm : MS) : Option (CS × Int64 × MS) := (if ¬ ((m_X0_isLeapYear q1 z).1 = 0 ∨ (m_X0_isLeapYear q1 z).1 = 1) then none else ((o_X3_isLeapYear q1 zm).bind fun x_1 => some (z, (if (m_X0_isLeapYear q1 z).1 = 0 then (if (m_X0_isLeapYear q1 z).2 = 0 then (0 : Int64) else 1) else v), x_1.2)))
set_option maxRecDepth 100000 in
set_option maxHeartbeats 4000000 in
theorem lc_34 {p : Program} {l : Launch} (hl9 : l.stackTraces = false) {e : Env} {s : State} {m : MethodId} {below : List Frame} {meth : Method} {c : Code} {bs L : Nat} {xs : Nat → Int32} {k : Kx} {a b : CA} {o : Nat} {Lb : List Nat} {Q : State → Prop} (hC : CallFix p m c cL_law 7 s #[.ref bs] (Cond.tt :: GL) RL) (hGx : Gx k s) (hLD : LD k a o b Lb s) (hX : va_X bs L xs s s.heap) (hbl : bs < s.heap.size) {i q1 q2 q3 q4 : Int32} (h1 : vp_in (i + (1 : Int32)) L ∧ xs (i + (1 : Int32)).toNatClampNeg = q1) (h2 : vp_in (i + (2 : Int32)) L ∧ xs (i + (2 : Int32)).toNatClampNeg = q2) (h3 : vp_in (i + (3 : Int32)) L ∧ xs (i + (3 : Int32)).toNatClampNeg = q3) (h4 : vp_in (i + (4 : Int32)) L ∧ xs (i + (4 : Int32)).toNatClampNeg = q4) {z : CS} {v : Int64} {zm : MS} {H : Heap} {ls : Array Slot} {cells slots : Nat} (hl : lv_has ls 7 [(4, .int i), (3, .ref o), (2, .ref b.1), (1, .ref a.1), (0, .ref bs)]) (hI : LI k a o b Lb z v zm H) (hS : va_S (nA s.heap.size) s.heap H []) (hc : cells + 772 ≤ 450000 ∧ slots + 6282 ≤ 4000000) {r : CS × Int64 × MS} (hm : o_lc_34 q1 q2 q3 q4 z v zm = some r) (kk : ∀ (H1 : Heap) (ls1 : Array Slot), LI k a o b Lb r.1 r.2.1 r.2.2 H1 → va_S (nA s.heap.size) s.heap H1 [] → lv_has ls1 7 [(4, .int i), (3, .ref o), (2, .ref b.1), (1, .ref a.1), (0, .ref bs)] → W p l e room_1 s m #[.ref bs] below meth c H1 [] (cells + 772) (slots + 6282) Q (F0 m 2249 ls1 [])) : W p l e room_1 s m #[.ref bs] below meth c H [] cells slots Q (F0 m 1580 ls []) := by
  have hx := hC.1
  have hb := hC.2.1
  refine lv_aload_n hx hb dL_law_1580 rfl (lv_at hl 3 rfl) ?_
  refine lv_aload_n hx hb dL_law_1581 rfl (lv_at hl 4 rfl) ?_
  refine lv_iload hx hb dL_law_1582 (lv_at hl 0 rfl) ?_
  refine lv_iconst (v := 1) hx hb dL_law_1584 (by decide) ?_
  refine lv_iadd hx hb dL_law_1585 ?_
  refine lw_sld hx hb hX hbl hS h1 dL_law_1586 ?_
  refine lv_aload_n hx hb dL_law_1587 rfl (lv_at hl 1 rfl) ?_
  by_cases h_1 : ¬ ((m_X0_isLeapYear q1 z).1 = 0 ∨ (m_X0_isLeapYear q1 z).1 = 1)
  · have hm := (if_pos h_1).symm.trans hm
    cases hm
  have hm := (if_neg h_1).symm.trans hm
  refine lw_w hC hGx hLD (k_L_isLeapYear l hl9 k a hLD.1 o q1 z v (Decidable.of_not_not h_1)) (gSW w_901 w_902 w_25 w_903) kw_L_isLeapYear ⟨Nat.le_of_ble_eq_true rfl, Nat.le_of_ble_eq_true rfl⟩ ⟨Nat.le_trans (show cells + 1 ≤ 450000 by omega) rm_c, Nat.le_trans (show slots + 6 ≤ 4000000 by omega) rm_s⟩ hI hS hl.1 rfl rfl (Nat.le_of_ble_eq_true rfl) dL_law_1588 (fun H hI hS => ?_)
  refine lv_istore (lv' := [(5, .int (wk 1 1 ((m_X0_isLeapYear q1 z).1))), (4, .int i), (3, .ref o), (2, .ref b.1), (1, .ref a.1), (0, .ref bs)]) hx hb dL_law_1591 hl (by decide) rfl (fun ls hl => ?_)
  refine lv_aload_n hx hb dL_law_1593 rfl (lv_at hl 3 rfl) ?_
  refine lv_aload_n hx hb dL_law_1594 rfl (lv_at hl 5 rfl) ?_
  refine lv_iload hx hb dL_law_1595 (lv_at hl 1 rfl) ?_
  refine lv_iconst (v := 1) hx hb dL_law_1597 (by decide) ?_
  refine lv_iadd hx hb dL_law_1598 ?_
  refine lw_sld hx hb hX hbl hS h1 dL_law_1599 ?_
  obtain ⟨x_1, hx_1, hm⟩ := Option.bind_eq_some_iff.mp hm
  refine lw_m hC hGx hLD (k_X3_isLeapYear l k b Lb hLD.2.1 q1 zm hx_1) (gV w_1281 w_1282 w_1283 w_27 w_1284) kk_X3_isLeapYear rfl ⟨Nat.le_of_ble_eq_true rfl, Nat.le_of_ble_eq_true rfl⟩ ⟨Nat.le_trans (show cells + 1 ≤ 450000 by omega) rm_c, Nat.le_trans (show slots + 6 ≤ 4000000 by omega) rm_s⟩ hI hS hl.1 rfl rfl (Nat.le_of_ble_eq_true rfl) dL_law_1600 (fun H hI hS => ?_)
  refine lv_istore (lv' := [(6, .int x_1.1), (5, .int (wk 1 1 ((m_X0_isLeapYear q1 z).1))), (4, .int i), (3, .ref o), (2, .ref b.1), (1, .ref a.1), (0, .ref bs)]) hx hb dL_law_1603 hl (by decide) rfl (fun ls hl => ?_)
  refine lv_goto (tgt := 2249) hx hb dL_law_1605 (by decide) ?_
  obtain rfl := Option.some.inj hm
  exact W.widen (k := cells + 772) (n := slots + 6282) (by omega) (by omega) (kk H ls hI hS (lv_sub hl [2, 3, 4, 5, 6] rfl))
set_option maxRecDepth 100000 in
def o_lc_35 (q1 q2 q3 q4 : Int32) (z : CS) (v : Int64) (zm : MS) : Option (CS × Int64 × MS) := (if ¬ ((m_X0_field q1 q2 z).1 = 0 ∨ (m_X0_field q1 q2 z).1 = 1 ∨ (m_X0_field q1 q2 z).1 = 2) then none else ((o_X3_field q1 q2 zm).bind fun x_1 => some (z, (if (m_X0_field q1 q2 z).1 = 0 then ((m_X0_field q1 q2 z).2).toInt64 else v), x_1.2)))
set_option maxRecDepth 100000 in
set_option maxHeartbeats 4000000 in
theorem lc_35 {p : Program} {l : Launch} (hl9 : l.stackTraces = false) {e : Env} {s : State} {m : MethodId} {below : List Frame} {meth : Method} {c : Code} {bs L : Nat} {xs : Nat → Int32} {k : Kx} {a b : CA} {o : Nat} {Lb : List Nat} {Q : State → Prop} (hC : CallFix p m c cL_law 7 s #[.ref bs] (Cond.tt :: GL) RL) (hGx : Gx k s) (hLD : LD k a o b Lb s) (hX : va_X bs L xs s s.heap) (hbl : bs < s.heap.size) {i q1 q2 q3 q4 : Int32} (h1 : vp_in (i + (1 : Int32)) L ∧ xs (i + (1 : Int32)).toNatClampNeg = q1) (h2 : vp_in (i + (2 : Int32)) L ∧ xs (i + (2 : Int32)).toNatClampNeg = q2) (h3 : vp_in (i + (3 : Int32)) L ∧ xs (i + (3 : Int32)).toNatClampNeg = q3) (h4 : vp_in (i + (4 : Int32)) L ∧ xs (i + (4 : Int32)).toNatClampNeg = q4) {z : CS} {v : Int64} {zm : MS} {H : Heap} {ls : Array Slot} {cells slots : Nat} (hl : lv_has ls 7 [(4, .int i), (3, .ref o), (2, .ref b.1), (1, .ref a.1), (0, .ref bs)]) (hI : LI k a o b Lb z v zm H) (hS : va_S (nA s.heap.size) s.heap H []) (hc : cells + 772 ≤ 450000 ∧ slots + 6282 ≤ 4000000) {r : CS × Int64 × MS} (hm : o_lc_35 q1 q2 q3 q4 z v zm = some r) (kk : ∀ (H1 : Heap) (ls1 : Array Slot), LI k a o b Lb r.1 r.2.1 r.2.2 H1 → va_S (nA s.heap.size) s.heap H1 [] → lv_has ls1 7 [(4, .int i), (3, .ref o), (2, .ref b.1), (1, .ref a.1), (0, .ref bs)] → W p l e room_1 s m #[.ref bs] below meth c H1 [] (cells + 772) (slots + 6282) Q (F0 m 2249 ls1 [])) : W p l e room_1 s m #[.ref bs] below meth c H [] cells slots Q (F0 m 1608 ls []) := by
  have hx := hC.1
  have hb := hC.2.1
  refine lv_aload_n hx hb dL_law_1608 rfl (lv_at hl 3 rfl) ?_
  refine lv_aload_n hx hb dL_law_1609 rfl (lv_at hl 4 rfl) ?_
  refine lv_iload hx hb dL_law_1610 (lv_at hl 0 rfl) ?_
  refine lv_iconst (v := 1) hx hb dL_law_1612 (by decide) ?_
  refine lv_iadd hx hb dL_law_1613 ?_
  refine lw_sld hx hb hX hbl hS h1 dL_law_1614 ?_
  refine lv_aload_n hx hb dL_law_1615 rfl (lv_at hl 4 rfl) ?_
  refine lv_iload hx hb dL_law_1616 (lv_at hl 0 rfl) ?_
  refine lv_iconst (v := 2) hx hb dL_law_1618 (by decide) ?_
  refine lv_iadd hx hb dL_law_1619 ?_
  refine lw_sld hx hb hX hbl hS h2 dL_law_1620 ?_
  refine lv_aload_n hx hb dL_law_1621 rfl (lv_at hl 1 rfl) ?_
  by_cases h_1 : ¬ ((m_X0_field q1 q2 z).1 = 0 ∨ (m_X0_field q1 q2 z).1 = 1 ∨ (m_X0_field q1 q2 z).1 = 2)
  · have hm := (if_pos h_1).symm.trans hm
    cases hm
  have hm := (if_neg h_1).symm.trans hm
  refine lw_w hC hGx hLD (k_L_field l hl9 k a hLD.1 o q1 q2 z v (Decidable.of_not_not h_1)) (gSW w_905 w_906 w_25 w_907) kw_L_field ⟨Nat.le_of_ble_eq_true rfl, Nat.le_of_ble_eq_true rfl⟩ ⟨Nat.le_trans (show cells + 2 ≤ 450000 by omega) rm_c, Nat.le_trans (show slots + 12 ≤ 4000000 by omega) rm_s⟩ hI hS hl.1 rfl rfl (Nat.le_of_ble_eq_true rfl) dL_law_1622 (fun H hI hS => ?_)
  refine lv_istore (lv' := [(5, .int (wk 1 2 ((m_X0_field q1 q2 z).1))), (4, .int i), (3, .ref o), (2, .ref b.1), (1, .ref a.1), (0, .ref bs)]) hx hb dL_law_1625 hl (by decide) rfl (fun ls hl => ?_)
  refine lv_aload_n hx hb dL_law_1627 rfl (lv_at hl 3 rfl) ?_
  refine lv_aload_n hx hb dL_law_1628 rfl (lv_at hl 5 rfl) ?_
  refine lv_iload hx hb dL_law_1629 (lv_at hl 1 rfl) ?_
  refine lv_iconst (v := 1) hx hb dL_law_1631 (by decide) ?_
  refine lv_iadd hx hb dL_law_1632 ?_
  refine lw_sld hx hb hX hbl hS h1 dL_law_1633 ?_
  refine lv_aload_n hx hb dL_law_1634 rfl (lv_at hl 5 rfl) ?_
  refine lv_iload hx hb dL_law_1635 (lv_at hl 1 rfl) ?_
  refine lv_iconst (v := 2) hx hb dL_law_1637 (by decide) ?_
  refine lv_iadd hx hb dL_law_1638 ?_
  refine lw_sld hx hb hX hbl hS h2 dL_law_1639 ?_
  obtain ⟨x_1, hx_1, hm⟩ := Option.bind_eq_some_iff.mp hm
  refine lw_m hC hGx hLD (k_X3_field l k b Lb hLD.2.1 q1 q2 zm hx_1) (gV w_1285 w_1286 w_1287 w_27 w_1288) kk_X3_field rfl ⟨Nat.le_of_ble_eq_true rfl, Nat.le_of_ble_eq_true rfl⟩ ⟨Nat.le_trans (show cells + 2 ≤ 450000 by omega) rm_c, Nat.le_trans (show slots + 12 ≤ 4000000 by omega) rm_s⟩ hI hS hl.1 rfl rfl (Nat.le_of_ble_eq_true rfl) dL_law_1640 (fun H hI hS => ?_)
  refine lv_istore (lv' := [(6, .int x_1.1), (5, .int (wk 1 2 ((m_X0_field q1 q2 z).1))), (4, .int i), (3, .ref o), (2, .ref b.1), (1, .ref a.1), (0, .ref bs)]) hx hb dL_law_1643 hl (by decide) rfl (fun ls hl => ?_)
  refine lv_goto (tgt := 2249) hx hb dL_law_1645 (by decide) ?_
  obtain rfl := Option.some.inj hm
  exact W.widen (k := cells + 772) (n := slots + 6282) (by omega) (by omega) (kk H ls hI hS (lv_sub hl [2, 3, 4, 5, 6] rfl))
set_option maxRecDepth 100000 in
def o_lc_36 (q1 q2 q3 q4 : Int32) (z : CS) (v : Int64) (zm : MS) : Option (CS × Int64 × MS) := (if ¬ ((m_X0_toDay q1 z).1 = 0 ∨ (m_X0_toDay q1 z).1 = 1) then none else ((o_X3_toDay q1 zm).bind fun x_1 => some (z, (if (m_X0_toDay q1 z).1 = 0 then ((m_X0_toDay q1 z).2).toInt64 else v), x_1.2)))
set_option maxRecDepth 100000 in
set_option maxHeartbeats 4000000 in
theorem lc_36 {p : Program} {l : Launch} (hl9 : l.stackTraces = false) {e : Env} {s : State} {m : MethodId} {below : List Frame} {meth : Method} {c : Code} {bs L : Nat} {xs : Nat → Int32} {k : Kx} {a b : CA} {o : Nat} {Lb : List Nat} {Q : State → Prop} (hC : CallFix p m c cL_law 7 s #[.ref bs] (Cond.tt :: GL) RL) (hGx : Gx k s) (hLD : LD k a o b Lb s) (hX : va_X bs L xs s s.heap) (hbl : bs < s.heap.size) {i q1 q2 q3 q4 : Int32} (h1 : vp_in (i + (1 : Int32)) L ∧ xs (i + (1 : Int32)).toNatClampNeg = q1) (h2 : vp_in (i + (2 : Int32)) L ∧ xs (i + (2 : Int32)).toNatClampNeg = q2) (h3 : vp_in (i + (3 : Int32)) L ∧ xs (i + (3 : Int32)).toNatClampNeg = q3) (h4 : vp_in (i + (4 : Int32)) L ∧ xs (i + (4 : Int32)).toNatClampNeg = q4) {z : CS} {v : Int64} {zm : MS} {H : Heap} {ls : Array Slot} {cells slots : Nat} (hl : lv_has ls 7 [(4, .int i), (3, .ref o), (2, .ref b.1), (1, .ref a.1), (0, .ref bs)]) (hI : LI k a o b Lb z v zm H) (hS : va_S (nA s.heap.size) s.heap H []) (hc : cells + 772 ≤ 450000 ∧ slots + 6282 ≤ 4000000) {r : CS × Int64 × MS} (hm : o_lc_36 q1 q2 q3 q4 z v zm = some r) (kk : ∀ (H1 : Heap) (ls1 : Array Slot), LI k a o b Lb r.1 r.2.1 r.2.2 H1 → va_S (nA s.heap.size) s.heap H1 [] → lv_has ls1 7 [(4, .int i), (3, .ref o), (2, .ref b.1), (1, .ref a.1), (0, .ref bs)] → W p l e room_1 s m #[.ref bs] below meth c H1 [] (cells + 772) (slots + 6282) Q (F0 m 2249 ls1 [])) : W p l e room_1 s m #[.ref bs] below meth c H [] cells slots Q (F0 m 1648 ls []) := by
  have hx := hC.1
  have hb := hC.2.1
  refine lv_aload_n hx hb dL_law_1648 rfl (lv_at hl 3 rfl) ?_
  refine lv_aload_n hx hb dL_law_1649 rfl (lv_at hl 4 rfl) ?_
  refine lv_iload hx hb dL_law_1650 (lv_at hl 0 rfl) ?_
  refine lv_iconst (v := 1) hx hb dL_law_1652 (by decide) ?_
  refine lv_iadd hx hb dL_law_1653 ?_
  refine lw_sld hx hb hX hbl hS h1 dL_law_1654 ?_
  refine lv_aload_n hx hb dL_law_1655 rfl (lv_at hl 1 rfl) ?_
  by_cases h_1 : ¬ ((m_X0_toDay q1 z).1 = 0 ∨ (m_X0_toDay q1 z).1 = 1)
  · have hm := (if_pos h_1).symm.trans hm
    cases hm
  have hm := (if_neg h_1).symm.trans hm
  refine lw_w hC hGx hLD (k_L_toDay l hl9 k a hLD.1 o q1 z v (Decidable.of_not_not h_1)) (gSW w_909 w_910 w_25 w_911) kw_L_toDay ⟨Nat.le_of_ble_eq_true rfl, Nat.le_of_ble_eq_true rfl⟩ ⟨Nat.le_trans (show cells + 1 ≤ 450000 by omega) rm_c, Nat.le_trans (show slots + 6 ≤ 4000000 by omega) rm_s⟩ hI hS hl.1 rfl rfl (Nat.le_of_ble_eq_true rfl) dL_law_1656 (fun H hI hS => ?_)
  refine lv_istore (lv' := [(5, .int (wk 1 1 ((m_X0_toDay q1 z).1))), (4, .int i), (3, .ref o), (2, .ref b.1), (1, .ref a.1), (0, .ref bs)]) hx hb dL_law_1659 hl (by decide) rfl (fun ls hl => ?_)
  refine lv_aload_n hx hb dL_law_1661 rfl (lv_at hl 3 rfl) ?_
  refine lv_aload_n hx hb dL_law_1662 rfl (lv_at hl 5 rfl) ?_
  refine lv_iload hx hb dL_law_1663 (lv_at hl 1 rfl) ?_
  refine lv_iconst (v := 1) hx hb dL_law_1665 (by decide) ?_
  refine lv_iadd hx hb dL_law_1666 ?_
  refine lw_sld hx hb hX hbl hS h1 dL_law_1667 ?_
  obtain ⟨x_1, hx_1, hm⟩ := Option.bind_eq_some_iff.mp hm
  refine lw_m hC hGx hLD (k_X3_toDay l k b Lb hLD.2.1 q1 zm hx_1) (gV w_1292 w_1293 w_1294 w_27 w_1295) kk_X3_toDay rfl ⟨Nat.le_of_ble_eq_true rfl, Nat.le_of_ble_eq_true rfl⟩ ⟨Nat.le_trans (show cells + 1 ≤ 450000 by omega) rm_c, Nat.le_trans (show slots + 6 ≤ 4000000 by omega) rm_s⟩ hI hS hl.1 rfl rfl (Nat.le_of_ble_eq_true rfl) dL_law_1668 (fun H hI hS => ?_)
  refine lv_istore (lv' := [(6, .int x_1.1), (5, .int (wk 1 1 ((m_X0_toDay q1 z).1))), (4, .int i), (3, .ref o), (2, .ref b.1), (1, .ref a.1), (0, .ref bs)]) hx hb dL_law_1671 hl (by decide) rfl (fun ls hl => ?_)
  refine lv_goto (tgt := 2249) hx hb dL_law_1673 (by decide) ?_
  obtain rfl := Option.some.inj hm
  exact W.widen (k := cells + 772) (n := slots + 6282) (by omega) (by omega) (kk H ls hI hS (lv_sub hl [2, 3, 4, 5, 6] rfl))
set_option maxRecDepth 100000 in
def o_lc_37 (q1 q2 q3 q4 : Int32) (z : CS) (v : Int64) (zm : MS) : Option (CS × Int64 × MS) := ((o_X0_text q1 z).bind fun x_1 => (if ¬ (x_1.1 = 0 ∨ x_1.1 = 1) then none else ((o_X3_text q1 zm).bind fun x_2 => some (z, v, x_2.2))))
set_option maxRecDepth 100000 in
set_option maxHeartbeats 4000000 in
theorem lc_37 {p : Program} {l : Launch} (hl9 : l.stackTraces = false) {e : Env} {s : State} {m : MethodId} {below : List Frame} {meth : Method} {c : Code} {bs L : Nat} {xs : Nat → Int32} {k : Kx} {a b : CA} {o : Nat} {Lb : List Nat} {Q : State → Prop} (hC : CallFix p m c cL_law 7 s #[.ref bs] (Cond.tt :: GL) RL) (hGx : Gx k s) (hLD : LD k a o b Lb s) (hX : va_X bs L xs s s.heap) (hbl : bs < s.heap.size) {i q1 q2 q3 q4 : Int32} (h1 : vp_in (i + (1 : Int32)) L ∧ xs (i + (1 : Int32)).toNatClampNeg = q1) (h2 : vp_in (i + (2 : Int32)) L ∧ xs (i + (2 : Int32)).toNatClampNeg = q2) (h3 : vp_in (i + (3 : Int32)) L ∧ xs (i + (3 : Int32)).toNatClampNeg = q3) (h4 : vp_in (i + (4 : Int32)) L ∧ xs (i + (4 : Int32)).toNatClampNeg = q4) {z : CS} {v : Int64} {zm : MS} {H : Heap} {ls : Array Slot} {cells slots : Nat} (hl : lv_has ls 7 [(4, .int i), (3, .ref o), (2, .ref b.1), (1, .ref a.1), (0, .ref bs)]) (hI : LI k a o b Lb z v zm H) (hS : va_S (nA s.heap.size) s.heap H []) (hc : cells + 772 ≤ 450000 ∧ slots + 6282 ≤ 4000000) {r : CS × Int64 × MS} (hm : o_lc_37 q1 q2 q3 q4 z v zm = some r) (kk : ∀ (H1 : Heap) (ls1 : Array Slot), LI k a o b Lb r.1 r.2.1 r.2.2 H1 → va_S (nA s.heap.size) s.heap H1 [] → lv_has ls1 7 [(4, .int i), (3, .ref o), (2, .ref b.1), (1, .ref a.1), (0, .ref bs)] → W p l e room_1 s m #[.ref bs] below meth c H1 [] (cells + 772) (slots + 6282) Q (F0 m 2249 ls1 [])) : W p l e room_1 s m #[.ref bs] below meth c H [] cells slots Q (F0 m 1676 ls []) := by
  have hx := hC.1
  have hb := hC.2.1
  refine lv_aload_n hx hb dL_law_1676 rfl (lv_at hl 3 rfl) ?_
  refine lv_aload_n hx hb dL_law_1677 rfl (lv_at hl 4 rfl) ?_
  refine lv_iload hx hb dL_law_1678 (lv_at hl 0 rfl) ?_
  refine lv_iconst (v := 1) hx hb dL_law_1680 (by decide) ?_
  refine lv_iadd hx hb dL_law_1681 ?_
  refine lw_sld hx hb hX hbl hS h1 dL_law_1682 ?_
  refine lv_aload_n hx hb dL_law_1683 rfl (lv_at hl 1 rfl) ?_
  obtain ⟨x_1, hx_1, hm⟩ := Option.bind_eq_some_iff.mp hm
  by_cases h_1 : ¬ (x_1.1 = 0 ∨ x_1.1 = 1)
  · have hm := (if_pos h_1).symm.trans hm
    cases hm
  have hm := (if_neg h_1).symm.trans hm
  refine lw_w hC hGx hLD (k_L_text l hl9 k a hLD.1 o q1 z v hx_1 (Decidable.of_not_not h_1)) (gSW w_913 w_914 w_25 w_915) kw_L_text ⟨Nat.le_of_ble_eq_true rfl, Nat.le_of_ble_eq_true rfl⟩ ⟨Nat.le_trans (show cells + 5 ≤ 450000 by omega) rm_c, Nat.le_trans (show slots + 46 ≤ 4000000 by omega) rm_s⟩ hI hS hl.1 rfl rfl (Nat.le_of_ble_eq_true rfl) dL_law_1684 (fun H hI hS => ?_)
  refine lv_istore (lv' := [(5, .int (wk 1 1 (x_1.1))), (4, .int i), (3, .ref o), (2, .ref b.1), (1, .ref a.1), (0, .ref bs)]) hx hb dL_law_1687 hl (by decide) rfl (fun ls hl => ?_)
  refine lv_aload_n hx hb dL_law_1689 rfl (lv_at hl 3 rfl) ?_
  refine lv_aload_n hx hb dL_law_1690 rfl (lv_at hl 5 rfl) ?_
  refine lv_iload hx hb dL_law_1691 (lv_at hl 1 rfl) ?_
  refine lv_iconst (v := 1) hx hb dL_law_1693 (by decide) ?_
  refine lv_iadd hx hb dL_law_1694 ?_
  refine lw_sld hx hb hX hbl hS h1 dL_law_1695 ?_
  obtain ⟨x_2, hx_2, hm⟩ := Option.bind_eq_some_iff.mp hm
  refine lw_t hC hGx hLD (k_X3_text l k b Lb hLD.2.1 q1 zm hx_2) (gV w_1296 w_1297 w_1298 w_27 w_1299) kk_X3_text rfl ⟨Nat.le_of_ble_eq_true rfl, Nat.le_of_ble_eq_true rfl⟩ ⟨Nat.le_trans (show cells + 69 ≤ 450000 by omega) rm_c, Nat.le_trans (show slots + 686 ≤ 4000000 by omega) rm_s⟩ hI hS hl.1 rfl rfl (Nat.le_of_ble_eq_true rfl) dL_law_1696 (fun t_2 H hT_2 hI hS => ?_)
  refine lv_astore (lv' := [(6, .ref t_2.1), (5, .int (wk 1 1 (x_1.1))), (4, .int i), (3, .ref o), (2, .ref b.1), (1, .ref a.1), (0, .ref bs)]) hx hb dL_law_1699 hl (by decide) rfl (fun ls hl => ?_)
  refine lv_goto (tgt := 2249) hx hb dL_law_1701 (by decide) ?_
  obtain rfl := Option.some.inj hm
  exact W.widen (k := cells + 772) (n := slots + 6282) (by omega) (by omega) (kk H ls hI hS (lv_sub hl [2, 3, 4, 5, 6] rfl))
set_option maxRecDepth 100000 in
def o_lc_38 (q1 q2 q3 q4 : Int32) (z : CS) (v : Int64) (zm : MS) : Option (CS × Int64 × MS) := (if ¬ ((m_X0_isDate q1 q2 q3 z).1 = 0 ∨ (m_X0_isDate q1 q2 q3 z).1 = 2) then none else ((o_X3_isDate_ q1 q2 q3 zm).bind fun x_1 => some (z, (if (m_X0_isDate q1 q2 q3 z).1 = 0 then (if (m_X0_isDate q1 q2 q3 z).2 = 0 then (0 : Int64) else 1) else v), x_1.2)))
set_option maxRecDepth 100000 in
set_option maxHeartbeats 4000000 in
theorem lc_38 {p : Program} {l : Launch} (hl9 : l.stackTraces = false) {e : Env} {s : State} {m : MethodId} {below : List Frame} {meth : Method} {c : Code} {bs L : Nat} {xs : Nat → Int32} {k : Kx} {a b : CA} {o : Nat} {Lb : List Nat} {Q : State → Prop} (hC : CallFix p m c cL_law 7 s #[.ref bs] (Cond.tt :: GL) RL) (hGx : Gx k s) (hLD : LD k a o b Lb s) (hX : va_X bs L xs s s.heap) (hbl : bs < s.heap.size) {i q1 q2 q3 q4 : Int32} (h1 : vp_in (i + (1 : Int32)) L ∧ xs (i + (1 : Int32)).toNatClampNeg = q1) (h2 : vp_in (i + (2 : Int32)) L ∧ xs (i + (2 : Int32)).toNatClampNeg = q2) (h3 : vp_in (i + (3 : Int32)) L ∧ xs (i + (3 : Int32)).toNatClampNeg = q3) (h4 : vp_in (i + (4 : Int32)) L ∧ xs (i + (4 : Int32)).toNatClampNeg = q4) {z : CS} {v : Int64} {zm : MS} {H : Heap} {ls : Array Slot} {cells slots : Nat} (hl : lv_has ls 7 [(4, .int i), (3, .ref o), (2, .ref b.1), (1, .ref a.1), (0, .ref bs)]) (hI : LI k a o b Lb z v zm H) (hS : va_S (nA s.heap.size) s.heap H []) (hc : cells + 772 ≤ 450000 ∧ slots + 6282 ≤ 4000000) {r : CS × Int64 × MS} (hm : o_lc_38 q1 q2 q3 q4 z v zm = some r) (kk : ∀ (H1 : Heap) (ls1 : Array Slot), LI k a o b Lb r.1 r.2.1 r.2.2 H1 → va_S (nA s.heap.size) s.heap H1 [] → lv_has ls1 7 [(4, .int i), (3, .ref o), (2, .ref b.1), (1, .ref a.1), (0, .ref bs)] → W p l e room_1 s m #[.ref bs] below meth c H1 [] (cells + 772) (slots + 6282) Q (F0 m 2249 ls1 [])) : W p l e room_1 s m #[.ref bs] below meth c H [] cells slots Q (F0 m 1704 ls []) := by
  have hx := hC.1
  have hb := hC.2.1
  refine lv_aload_n hx hb dL_law_1704 rfl (lv_at hl 3 rfl) ?_
  refine lv_aload_n hx hb dL_law_1705 rfl (lv_at hl 4 rfl) ?_
  refine lv_iload hx hb dL_law_1706 (lv_at hl 0 rfl) ?_
  refine lv_iconst (v := 1) hx hb dL_law_1708 (by decide) ?_
  refine lv_iadd hx hb dL_law_1709 ?_
  refine lw_sld hx hb hX hbl hS h1 dL_law_1710 ?_
  refine lv_aload_n hx hb dL_law_1711 rfl (lv_at hl 4 rfl) ?_
  refine lv_iload hx hb dL_law_1712 (lv_at hl 0 rfl) ?_
  refine lv_iconst (v := 2) hx hb dL_law_1714 (by decide) ?_
  refine lv_iadd hx hb dL_law_1715 ?_
  refine lw_sld hx hb hX hbl hS h2 dL_law_1716 ?_
  refine lv_aload_n hx hb dL_law_1717 rfl (lv_at hl 4 rfl) ?_
  refine lv_iload hx hb dL_law_1718 (lv_at hl 0 rfl) ?_
  refine lv_iconst (v := 3) hx hb dL_law_1720 (by decide) ?_
  refine lv_iadd hx hb dL_law_1721 ?_
  refine lw_sld hx hb hX hbl hS h3 dL_law_1722 ?_
  refine lv_aload_n hx hb dL_law_1723 rfl (lv_at hl 1 rfl) ?_
  by_cases h_1 : ¬ ((m_X0_isDate q1 q2 q3 z).1 = 0 ∨ (m_X0_isDate q1 q2 q3 z).1 = 2)
  · have hm := (if_pos h_1).symm.trans hm
    cases hm
  have hm := (if_neg h_1).symm.trans hm
  refine lw_w hC hGx hLD (k_L_isDate l hl9 k a hLD.1 o q1 q2 q3 z v (Decidable.of_not_not h_1)) (gSW w_917 w_918 w_25 w_919) kw_L_isDate ⟨Nat.le_of_ble_eq_true rfl, Nat.le_of_ble_eq_true rfl⟩ ⟨Nat.le_trans (show cells + 3 ≤ 450000 by omega) rm_c, Nat.le_trans (show slots + 18 ≤ 4000000 by omega) rm_s⟩ hI hS hl.1 rfl rfl (Nat.le_of_ble_eq_true rfl) dL_law_1724 (fun H hI hS => ?_)
  refine lv_istore (lv' := [(5, .int (wk 2 2 ((m_X0_isDate q1 q2 q3 z).1))), (4, .int i), (3, .ref o), (2, .ref b.1), (1, .ref a.1), (0, .ref bs)]) hx hb dL_law_1727 hl (by decide) rfl (fun ls hl => ?_)
  refine lv_aload_n hx hb dL_law_1729 rfl (lv_at hl 3 rfl) ?_
  refine lv_aload_n hx hb dL_law_1730 rfl (lv_at hl 5 rfl) ?_
  refine lv_iload hx hb dL_law_1731 (lv_at hl 1 rfl) ?_
  refine lv_iconst (v := 1) hx hb dL_law_1733 (by decide) ?_
  refine lv_iadd hx hb dL_law_1734 ?_
  refine lw_sld hx hb hX hbl hS h1 dL_law_1735 ?_
  refine lv_aload_n hx hb dL_law_1736 rfl (lv_at hl 5 rfl) ?_
  refine lv_iload hx hb dL_law_1737 (lv_at hl 1 rfl) ?_
  refine lv_iconst (v := 2) hx hb dL_law_1739 (by decide) ?_
  refine lv_iadd hx hb dL_law_1740 ?_
  refine lw_sld hx hb hX hbl hS h2 dL_law_1741 ?_
  refine lv_aload_n hx hb dL_law_1742 rfl (lv_at hl 5 rfl) ?_
  refine lv_iload hx hb dL_law_1743 (lv_at hl 1 rfl) ?_
  refine lv_iconst (v := 3) hx hb dL_law_1745 (by decide) ?_
  refine lv_iadd hx hb dL_law_1746 ?_
  refine lw_sld hx hb hX hbl hS h3 dL_law_1747 ?_
  obtain ⟨x_1, hx_1, hm⟩ := Option.bind_eq_some_iff.mp hm
  refine lw_m hC hGx hLD (k_X3_isDate_ l k b Lb hLD.2.1 q1 q2 q3 zm hx_1) (gV w_1312 w_1313 w_1314 w_27 w_1315) kk_X3_isDate_ rfl ⟨Nat.le_of_ble_eq_true rfl, Nat.le_of_ble_eq_true rfl⟩ ⟨Nat.le_trans (show cells + 3 ≤ 450000 by omega) rm_c, Nat.le_trans (show slots + 18 ≤ 4000000 by omega) rm_s⟩ hI hS hl.1 rfl rfl (Nat.le_of_ble_eq_true rfl) dL_law_1748 (fun H hI hS => ?_)
  refine lv_istore (lv' := [(6, .int x_1.1), (5, .int (wk 2 2 ((m_X0_isDate q1 q2 q3 z).1))), (4, .int i), (3, .ref o), (2, .ref b.1), (1, .ref a.1), (0, .ref bs)]) hx hb dL_law_1751 hl (by decide) rfl (fun ls hl => ?_)
  refine lv_goto (tgt := 2249) hx hb dL_law_1753 (by decide) ?_
  obtain rfl := Option.some.inj hm
  exact W.widen (k := cells + 772) (n := slots + 6282) (by omega) (by omega) (kk H ls hI hS (lv_sub hl [2, 3, 4, 5, 6] rfl))
set_option maxRecDepth 100000 in
def o_lc_39 (q1 q2 q3 q4 : Int32) (z : CS) (v : Int64) (zm : MS) : Option (CS × Int64 × MS) := (if ¬ ((m_X0_wouldBe q1 q2 q3 z).1 = 0 ∨ (m_X0_wouldBe q1 q2 q3 z).1 = 1 ∨ (m_X0_wouldBe q1 q2 q3 z).1 = 2 ∨ (m_X0_wouldBe q1 q2 q3 z).1 = 3) then none else ((o_X3_wouldBe q1 q2 q3 zm).bind fun x_1 => some (z, (if (m_X0_wouldBe q1 q2 q3 z).1 = 0 then ((m_X0_wouldBe q1 q2 q3 z).2).toInt64 else v), x_1.2)))
set_option maxRecDepth 100000 in
set_option maxHeartbeats 4000000 in
theorem lc_39 {p : Program} {l : Launch} (hl9 : l.stackTraces = false) {e : Env} {s : State} {m : MethodId} {below : List Frame} {meth : Method} {c : Code} {bs L : Nat} {xs : Nat → Int32} {k : Kx} {a b : CA} {o : Nat} {Lb : List Nat} {Q : State → Prop} (hC : CallFix p m c cL_law 7 s #[.ref bs] (Cond.tt :: GL) RL) (hGx : Gx k s) (hLD : LD k a o b Lb s) (hX : va_X bs L xs s s.heap) (hbl : bs < s.heap.size) {i q1 q2 q3 q4 : Int32} (h1 : vp_in (i + (1 : Int32)) L ∧ xs (i + (1 : Int32)).toNatClampNeg = q1) (h2 : vp_in (i + (2 : Int32)) L ∧ xs (i + (2 : Int32)).toNatClampNeg = q2) (h3 : vp_in (i + (3 : Int32)) L ∧ xs (i + (3 : Int32)).toNatClampNeg = q3) (h4 : vp_in (i + (4 : Int32)) L ∧ xs (i + (4 : Int32)).toNatClampNeg = q4) {z : CS} {v : Int64} {zm : MS} {H : Heap} {ls : Array Slot} {cells slots : Nat} (hl : lv_has ls 7 [(4, .int i), (3, .ref o), (2, .ref b.1), (1, .ref a.1), (0, .ref bs)]) (hI : LI k a o b Lb z v zm H) (hS : va_S (nA s.heap.size) s.heap H []) (hc : cells + 772 ≤ 450000 ∧ slots + 6282 ≤ 4000000) {r : CS × Int64 × MS} (hm : o_lc_39 q1 q2 q3 q4 z v zm = some r) (kk : ∀ (H1 : Heap) (ls1 : Array Slot), LI k a o b Lb r.1 r.2.1 r.2.2 H1 → va_S (nA s.heap.size) s.heap H1 [] → lv_has ls1 7 [(4, .int i), (3, .ref o), (2, .ref b.1), (1, .ref a.1), (0, .ref bs)] → W p l e room_1 s m #[.ref bs] below meth c H1 [] (cells + 772) (slots + 6282) Q (F0 m 2249 ls1 [])) : W p l e room_1 s m #[.ref bs] below meth c H [] cells slots Q (F0 m 1756 ls []) := by
  have hx := hC.1
  have hb := hC.2.1
  refine lv_aload_n hx hb dL_law_1756 rfl (lv_at hl 3 rfl) ?_
  refine lv_aload_n hx hb dL_law_1757 rfl (lv_at hl 4 rfl) ?_
  refine lv_iload hx hb dL_law_1758 (lv_at hl 0 rfl) ?_
  refine lv_iconst (v := 1) hx hb dL_law_1760 (by decide) ?_
  refine lv_iadd hx hb dL_law_1761 ?_
  refine lw_sld hx hb hX hbl hS h1 dL_law_1762 ?_
  refine lv_aload_n hx hb dL_law_1763 rfl (lv_at hl 4 rfl) ?_
  refine lv_iload hx hb dL_law_1764 (lv_at hl 0 rfl) ?_
  refine lv_iconst (v := 2) hx hb dL_law_1766 (by decide) ?_
  refine lv_iadd hx hb dL_law_1767 ?_
  refine lw_sld hx hb hX hbl hS h2 dL_law_1768 ?_
  refine lv_aload_n hx hb dL_law_1769 rfl (lv_at hl 4 rfl) ?_
  refine lv_iload hx hb dL_law_1770 (lv_at hl 0 rfl) ?_
  refine lv_iconst (v := 3) hx hb dL_law_1772 (by decide) ?_
  refine lv_iadd hx hb dL_law_1773 ?_
  refine lw_sld hx hb hX hbl hS h3 dL_law_1774 ?_
  refine lv_aload_n hx hb dL_law_1775 rfl (lv_at hl 1 rfl) ?_
  by_cases h_1 : ¬ ((m_X0_wouldBe q1 q2 q3 z).1 = 0 ∨ (m_X0_wouldBe q1 q2 q3 z).1 = 1 ∨ (m_X0_wouldBe q1 q2 q3 z).1 = 2 ∨ (m_X0_wouldBe q1 q2 q3 z).1 = 3)
  · have hm := (if_pos h_1).symm.trans hm
    cases hm
  have hm := (if_neg h_1).symm.trans hm
  refine lw_w hC hGx hLD (k_L_wouldBe l hl9 k a hLD.1 o q1 q2 q3 z v (Decidable.of_not_not h_1)) (gSW w_924 w_925 w_25 w_926) kw_L_wouldBe ⟨Nat.le_of_ble_eq_true rfl, Nat.le_of_ble_eq_true rfl⟩ ⟨Nat.le_trans (show cells + 4 ≤ 450000 by omega) rm_c, Nat.le_trans (show slots + 24 ≤ 4000000 by omega) rm_s⟩ hI hS hl.1 rfl rfl (Nat.le_of_ble_eq_true rfl) dL_law_1776 (fun H hI hS => ?_)
  refine lv_istore (lv' := [(5, .int (wk 1 2 ((m_X0_wouldBe q1 q2 q3 z).1))), (4, .int i), (3, .ref o), (2, .ref b.1), (1, .ref a.1), (0, .ref bs)]) hx hb dL_law_1779 hl (by decide) rfl (fun ls hl => ?_)
  refine lv_aload_n hx hb dL_law_1781 rfl (lv_at hl 3 rfl) ?_
  refine lv_aload_n hx hb dL_law_1782 rfl (lv_at hl 5 rfl) ?_
  refine lv_iload hx hb dL_law_1783 (lv_at hl 1 rfl) ?_
  refine lv_iconst (v := 1) hx hb dL_law_1785 (by decide) ?_
  refine lv_iadd hx hb dL_law_1786 ?_
  refine lw_sld hx hb hX hbl hS h1 dL_law_1787 ?_
  refine lv_aload_n hx hb dL_law_1788 rfl (lv_at hl 5 rfl) ?_
  refine lv_iload hx hb dL_law_1789 (lv_at hl 1 rfl) ?_
  refine lv_iconst (v := 2) hx hb dL_law_1791 (by decide) ?_
  refine lv_iadd hx hb dL_law_1792 ?_
  refine lw_sld hx hb hX hbl hS h2 dL_law_1793 ?_
  refine lv_aload_n hx hb dL_law_1794 rfl (lv_at hl 5 rfl) ?_
  refine lv_iload hx hb dL_law_1795 (lv_at hl 1 rfl) ?_
  refine lv_iconst (v := 3) hx hb dL_law_1797 (by decide) ?_
  refine lv_iadd hx hb dL_law_1798 ?_
  refine lw_sld hx hb hX hbl hS h3 dL_law_1799 ?_
  obtain ⟨x_1, hx_1, hm⟩ := Option.bind_eq_some_iff.mp hm
  refine lw_m hC hGx hLD (k_X3_wouldBe l k b Lb hLD.2.1 q1 q2 q3 zm hx_1) (gV w_1316 w_1317 w_1318 w_27 w_1319) kk_X3_wouldBe rfl ⟨Nat.le_of_ble_eq_true rfl, Nat.le_of_ble_eq_true rfl⟩ ⟨Nat.le_trans (show cells + 5 ≤ 450000 by omega) rm_c, Nat.le_trans (show slots + 27 ≤ 4000000 by omega) rm_s⟩ hI hS hl.1 rfl rfl (Nat.le_of_ble_eq_true rfl) dL_law_1800 (fun H hI hS => ?_)
  refine lv_istore (lv' := [(6, .int x_1.1), (5, .int (wk 1 2 ((m_X0_wouldBe q1 q2 q3 z).1))), (4, .int i), (3, .ref o), (2, .ref b.1), (1, .ref a.1), (0, .ref bs)]) hx hb dL_law_1803 hl (by decide) rfl (fun ls hl => ?_)
  refine lv_goto (tgt := 2249) hx hb dL_law_1805 (by decide) ?_
  obtain rfl := Option.some.inj hm
  exact W.widen (k := cells + 772) (n := slots + 6282) (by omega) (by omega) (kk H ls hI hS (lv_sub hl [2, 3, 4, 5, 6] rfl))
set_option maxRecDepth 100000 in
def o_lc_40 (q1 q2 q3 q4 : Int32) (z : CS) (v : Int64) (zm : MS) : Option (CS × Int64 × MS) := (if ¬ ((m_X0_compare q1 q2 z).1 = 0 ∨ (m_X0_compare q1 q2 z).1 = 1) then none else ((o_X3_compare q1 q2 zm).bind fun x_1 => some (z, (if (m_X0_compare q1 q2 z).1 = 0 then ((m_X0_compare q1 q2 z).2).toInt64 else v), x_1.2)))
set_option maxRecDepth 100000 in
set_option maxHeartbeats 4000000 in
theorem lc_40 {p : Program} {l : Launch} (hl9 : l.stackTraces = false) {e : Env} {s : State} {m : MethodId} {below : List Frame} {meth : Method} {c : Code} {bs L : Nat} {xs : Nat → Int32} {k : Kx} {a b : CA} {o : Nat} {Lb : List Nat} {Q : State → Prop} (hC : CallFix p m c cL_law 7 s #[.ref bs] (Cond.tt :: GL) RL) (hGx : Gx k s) (hLD : LD k a o b Lb s) (hX : va_X bs L xs s s.heap) (hbl : bs < s.heap.size) {i q1 q2 q3 q4 : Int32} (h1 : vp_in (i + (1 : Int32)) L ∧ xs (i + (1 : Int32)).toNatClampNeg = q1) (h2 : vp_in (i + (2 : Int32)) L ∧ xs (i + (2 : Int32)).toNatClampNeg = q2) (h3 : vp_in (i + (3 : Int32)) L ∧ xs (i + (3 : Int32)).toNatClampNeg = q3) (h4 : vp_in (i + (4 : Int32)) L ∧ xs (i + (4 : Int32)).toNatClampNeg = q4) {z : CS} {v : Int64} {zm : MS} {H : Heap} {ls : Array Slot} {cells slots : Nat} (hl : lv_has ls 7 [(4, .int i), (3, .ref o), (2, .ref b.1), (1, .ref a.1), (0, .ref bs)]) (hI : LI k a o b Lb z v zm H) (hS : va_S (nA s.heap.size) s.heap H []) (hc : cells + 772 ≤ 450000 ∧ slots + 6282 ≤ 4000000) {r : CS × Int64 × MS} (hm : o_lc_40 q1 q2 q3 q4 z v zm = some r) (kk : ∀ (H1 : Heap) (ls1 : Array Slot), LI k a o b Lb r.1 r.2.1 r.2.2 H1 → va_S (nA s.heap.size) s.heap H1 [] → lv_has ls1 7 [(4, .int i), (3, .ref o), (2, .ref b.1), (1, .ref a.1), (0, .ref bs)] → W p l e room_1 s m #[.ref bs] below meth c H1 [] (cells + 772) (slots + 6282) Q (F0 m 2249 ls1 [])) : W p l e room_1 s m #[.ref bs] below meth c H [] cells slots Q (F0 m 1808 ls []) := by
  have hx := hC.1
  have hb := hC.2.1
  refine lv_aload_n hx hb dL_law_1808 rfl (lv_at hl 3 rfl) ?_
  refine lv_aload_n hx hb dL_law_1809 rfl (lv_at hl 4 rfl) ?_
  refine lv_iload hx hb dL_law_1810 (lv_at hl 0 rfl) ?_
  refine lv_iconst (v := 1) hx hb dL_law_1812 (by decide) ?_
  refine lv_iadd hx hb dL_law_1813 ?_
  refine lw_sld hx hb hX hbl hS h1 dL_law_1814 ?_
  refine lv_aload_n hx hb dL_law_1815 rfl (lv_at hl 4 rfl) ?_
  refine lv_iload hx hb dL_law_1816 (lv_at hl 0 rfl) ?_
  refine lv_iconst (v := 2) hx hb dL_law_1818 (by decide) ?_
  refine lv_iadd hx hb dL_law_1819 ?_
  refine lw_sld hx hb hX hbl hS h2 dL_law_1820 ?_
  refine lv_aload_n hx hb dL_law_1821 rfl (lv_at hl 1 rfl) ?_
  by_cases h_1 : ¬ ((m_X0_compare q1 q2 z).1 = 0 ∨ (m_X0_compare q1 q2 z).1 = 1)
  · have hm := (if_pos h_1).symm.trans hm
    cases hm
  have hm := (if_neg h_1).symm.trans hm
  refine lw_w hC hGx hLD (k_L_compare l hl9 k a hLD.1 o q1 q2 z v (Decidable.of_not_not h_1)) (gSW w_931 w_932 w_25 w_933) kw_L_compare ⟨Nat.le_of_ble_eq_true rfl, Nat.le_of_ble_eq_true rfl⟩ ⟨Nat.le_trans (show cells + 2 ≤ 450000 by omega) rm_c, Nat.le_trans (show slots + 12 ≤ 4000000 by omega) rm_s⟩ hI hS hl.1 rfl rfl (Nat.le_of_ble_eq_true rfl) dL_law_1822 (fun H hI hS => ?_)
  refine lv_istore (lv' := [(5, .int (wk 1 1 ((m_X0_compare q1 q2 z).1))), (4, .int i), (3, .ref o), (2, .ref b.1), (1, .ref a.1), (0, .ref bs)]) hx hb dL_law_1825 hl (by decide) rfl (fun ls hl => ?_)
  refine lv_aload_n hx hb dL_law_1827 rfl (lv_at hl 3 rfl) ?_
  refine lv_aload_n hx hb dL_law_1828 rfl (lv_at hl 5 rfl) ?_
  refine lv_iload hx hb dL_law_1829 (lv_at hl 1 rfl) ?_
  refine lv_iconst (v := 1) hx hb dL_law_1831 (by decide) ?_
  refine lv_iadd hx hb dL_law_1832 ?_
  refine lw_sld hx hb hX hbl hS h1 dL_law_1833 ?_
  refine lv_aload_n hx hb dL_law_1834 rfl (lv_at hl 5 rfl) ?_
  refine lv_iload hx hb dL_law_1835 (lv_at hl 1 rfl) ?_
  refine lv_iconst (v := 2) hx hb dL_law_1837 (by decide) ?_
  refine lv_iadd hx hb dL_law_1838 ?_
  refine lw_sld hx hb hX hbl hS h2 dL_law_1839 ?_
  obtain ⟨x_1, hx_1, hm⟩ := Option.bind_eq_some_iff.mp hm
  refine lw_m hC hGx hLD (k_X3_compare l k b Lb hLD.2.1 q1 q2 zm hx_1) (gV w_1321 w_1322 w_1323 w_27 w_1324) kk_X3_compare rfl ⟨Nat.le_of_ble_eq_true rfl, Nat.le_of_ble_eq_true rfl⟩ ⟨Nat.le_trans (show cells + 2 ≤ 450000 by omega) rm_c, Nat.le_trans (show slots + 12 ≤ 4000000 by omega) rm_s⟩ hI hS hl.1 rfl rfl (Nat.le_of_ble_eq_true rfl) dL_law_1840 (fun H hI hS => ?_)
  refine lv_istore (lv' := [(6, .int x_1.1), (5, .int (wk 1 1 ((m_X0_compare q1 q2 z).1))), (4, .int i), (3, .ref o), (2, .ref b.1), (1, .ref a.1), (0, .ref bs)]) hx hb dL_law_1843 hl (by decide) rfl (fun ls hl => ?_)
  refine lv_goto (tgt := 2249) hx hb dL_law_1845 (by decide) ?_
  obtain rfl := Option.some.inj hm
  exact W.widen (k := cells + 772) (n := slots + 6282) (by omega) (by omega) (kk H ls hI hS (lv_sub hl [2, 3, 4, 5, 6] rfl))
set_option maxRecDepth 100000 in
def o_lc_41 (q1 q2 q3 q4 : Int32) (z : CS) (v : Int64) (zm : MS) : Option (CS × Int64 × MS) := (if ¬ ((m_X0_isBefore q1 q2 z).1 = 0 ∨ (m_X0_isBefore q1 q2 z).1 = 1) then none else ((o_X3_isBefore q1 q2 zm).bind fun x_1 => some (z, (if (m_X0_isBefore q1 q2 z).1 = 0 then (if (m_X0_isBefore q1 q2 z).2 = 0 then (0 : Int64) else 1) else v), x_1.2)))
set_option maxRecDepth 100000 in
set_option maxHeartbeats 4000000 in
theorem lc_41 {p : Program} {l : Launch} (hl9 : l.stackTraces = false) {e : Env} {s : State} {m : MethodId} {below : List Frame} {meth : Method} {c : Code} {bs L : Nat} {xs : Nat → Int32} {k : Kx} {a b : CA} {o : Nat} {Lb : List Nat} {Q : State → Prop} (hC : CallFix p m c cL_law 7 s #[.ref bs] (Cond.tt :: GL) RL) (hGx : Gx k s) (hLD : LD k a o b Lb s) (hX : va_X bs L xs s s.heap) (hbl : bs < s.heap.size) {i q1 q2 q3 q4 : Int32} (h1 : vp_in (i + (1 : Int32)) L ∧ xs (i + (1 : Int32)).toNatClampNeg = q1) (h2 : vp_in (i + (2 : Int32)) L ∧ xs (i + (2 : Int32)).toNatClampNeg = q2) (h3 : vp_in (i + (3 : Int32)) L ∧ xs (i + (3 : Int32)).toNatClampNeg = q3) (h4 : vp_in (i + (4 : Int32)) L ∧ xs (i + (4 : Int32)).toNatClampNeg = q4) {z : CS} {v : Int64} {zm : MS} {H : Heap} {ls : Array Slot} {cells slots : Nat} (hl : lv_has ls 7 [(4, .int i), (3, .ref o), (2, .ref b.1), (1, .ref a.1), (0, .ref bs)]) (hI : LI k a o b Lb z v zm H) (hS : va_S (nA s.heap.size) s.heap H []) (hc : cells + 772 ≤ 450000 ∧ slots + 6282 ≤ 4000000) {r : CS × Int64 × MS} (hm : o_lc_41 q1 q2 q3 q4 z v zm = some r) (kk : ∀ (H1 : Heap) (ls1 : Array Slot), LI k a o b Lb r.1 r.2.1 r.2.2 H1 → va_S (nA s.heap.size) s.heap H1 [] → lv_has ls1 7 [(4, .int i), (3, .ref o), (2, .ref b.1), (1, .ref a.1), (0, .ref bs)] → W p l e room_1 s m #[.ref bs] below meth c H1 [] (cells + 772) (slots + 6282) Q (F0 m 2249 ls1 [])) : W p l e room_1 s m #[.ref bs] below meth c H [] cells slots Q (F0 m 1848 ls []) := by
  have hx := hC.1
  have hb := hC.2.1
  refine lv_aload_n hx hb dL_law_1848 rfl (lv_at hl 3 rfl) ?_
  refine lv_aload_n hx hb dL_law_1849 rfl (lv_at hl 4 rfl) ?_
  refine lv_iload hx hb dL_law_1850 (lv_at hl 0 rfl) ?_
  refine lv_iconst (v := 1) hx hb dL_law_1852 (by decide) ?_
  refine lv_iadd hx hb dL_law_1853 ?_
  refine lw_sld hx hb hX hbl hS h1 dL_law_1854 ?_
  refine lv_aload_n hx hb dL_law_1855 rfl (lv_at hl 4 rfl) ?_
  refine lv_iload hx hb dL_law_1856 (lv_at hl 0 rfl) ?_
  refine lv_iconst (v := 2) hx hb dL_law_1858 (by decide) ?_
  refine lv_iadd hx hb dL_law_1859 ?_
  refine lw_sld hx hb hX hbl hS h2 dL_law_1860 ?_
  refine lv_aload_n hx hb dL_law_1861 rfl (lv_at hl 1 rfl) ?_
  by_cases h_1 : ¬ ((m_X0_isBefore q1 q2 z).1 = 0 ∨ (m_X0_isBefore q1 q2 z).1 = 1)
  · have hm := (if_pos h_1).symm.trans hm
    cases hm
  have hm := (if_neg h_1).symm.trans hm
  refine lw_w hC hGx hLD (k_L_isBefore l hl9 k a hLD.1 o q1 q2 z v (Decidable.of_not_not h_1)) (gSW w_935 w_936 w_25 w_937) kw_L_isBefore ⟨Nat.le_of_ble_eq_true rfl, Nat.le_of_ble_eq_true rfl⟩ ⟨Nat.le_trans (show cells + 2 ≤ 450000 by omega) rm_c, Nat.le_trans (show slots + 12 ≤ 4000000 by omega) rm_s⟩ hI hS hl.1 rfl rfl (Nat.le_of_ble_eq_true rfl) dL_law_1862 (fun H hI hS => ?_)
  refine lv_istore (lv' := [(5, .int (wk 1 1 ((m_X0_isBefore q1 q2 z).1))), (4, .int i), (3, .ref o), (2, .ref b.1), (1, .ref a.1), (0, .ref bs)]) hx hb dL_law_1865 hl (by decide) rfl (fun ls hl => ?_)
  refine lv_aload_n hx hb dL_law_1867 rfl (lv_at hl 3 rfl) ?_
  refine lv_aload_n hx hb dL_law_1868 rfl (lv_at hl 5 rfl) ?_
  refine lv_iload hx hb dL_law_1869 (lv_at hl 1 rfl) ?_
  refine lv_iconst (v := 1) hx hb dL_law_1871 (by decide) ?_
  refine lv_iadd hx hb dL_law_1872 ?_
  refine lw_sld hx hb hX hbl hS h1 dL_law_1873 ?_
  refine lv_aload_n hx hb dL_law_1874 rfl (lv_at hl 5 rfl) ?_
  refine lv_iload hx hb dL_law_1875 (lv_at hl 1 rfl) ?_
  refine lv_iconst (v := 2) hx hb dL_law_1877 (by decide) ?_
  refine lv_iadd hx hb dL_law_1878 ?_
  refine lw_sld hx hb hX hbl hS h2 dL_law_1879 ?_
  obtain ⟨x_1, hx_1, hm⟩ := Option.bind_eq_some_iff.mp hm
  refine lw_m hC hGx hLD (k_X3_isBefore l k b Lb hLD.2.1 q1 q2 zm hx_1) (gV w_1331 w_1332 w_1333 w_27 w_1334) kk_X3_isBefore rfl ⟨Nat.le_of_ble_eq_true rfl, Nat.le_of_ble_eq_true rfl⟩ ⟨Nat.le_trans (show cells + 2 ≤ 450000 by omega) rm_c, Nat.le_trans (show slots + 12 ≤ 4000000 by omega) rm_s⟩ hI hS hl.1 rfl rfl (Nat.le_of_ble_eq_true rfl) dL_law_1880 (fun H hI hS => ?_)
  refine lv_istore (lv' := [(6, .int x_1.1), (5, .int (wk 1 1 ((m_X0_isBefore q1 q2 z).1))), (4, .int i), (3, .ref o), (2, .ref b.1), (1, .ref a.1), (0, .ref bs)]) hx hb dL_law_1883 hl (by decide) rfl (fun ls hl => ?_)
  refine lv_goto (tgt := 2249) hx hb dL_law_1885 (by decide) ?_
  obtain rfl := Option.some.inj hm
  exact W.widen (k := cells + 772) (n := slots + 6282) (by omega) (by omega) (kk H ls hI hS (lv_sub hl [2, 3, 4, 5, 6] rfl))
set_option maxRecDepth 100000 in
def o_lc_42 (q1 q2 q3 q4 : Int32) (z : CS) (v : Int64) (zm : MS) : Option (CS × Int64 × MS) := (if ¬ ((m_X0_isAfter q1 q2 z).1 = 0 ∨ (m_X0_isAfter q1 q2 z).1 = 1) then none else ((o_X3_isAfter q1 q2 zm).bind fun x_1 => some (z, (if (m_X0_isAfter q1 q2 z).1 = 0 then (if (m_X0_isAfter q1 q2 z).2 = 0 then (0 : Int64) else 1) else v), x_1.2)))
set_option maxRecDepth 100000 in
set_option maxHeartbeats 4000000 in
theorem lc_42 {p : Program} {l : Launch} (hl9 : l.stackTraces = false) {e : Env} {s : State} {m : MethodId} {below : List Frame} {meth : Method} {c : Code} {bs L : Nat} {xs : Nat → Int32} {k : Kx} {a b : CA} {o : Nat} {Lb : List Nat} {Q : State → Prop} (hC : CallFix p m c cL_law 7 s #[.ref bs] (Cond.tt :: GL) RL) (hGx : Gx k s) (hLD : LD k a o b Lb s) (hX : va_X bs L xs s s.heap) (hbl : bs < s.heap.size) {i q1 q2 q3 q4 : Int32} (h1 : vp_in (i + (1 : Int32)) L ∧ xs (i + (1 : Int32)).toNatClampNeg = q1) (h2 : vp_in (i + (2 : Int32)) L ∧ xs (i + (2 : Int32)).toNatClampNeg = q2) (h3 : vp_in (i + (3 : Int32)) L ∧ xs (i + (3 : Int32)).toNatClampNeg = q3) (h4 : vp_in (i + (4 : Int32)) L ∧ xs (i + (4 : Int32)).toNatClampNeg = q4) {z : CS} {v : Int64} {zm : MS} {H : Heap} {ls : Array Slot} {cells slots : Nat} (hl : lv_has ls 7 [(4, .int i), (3, .ref o), (2, .ref b.1), (1, .ref a.1), (0, .ref bs)]) (hI : LI k a o b Lb z v zm H) (hS : va_S (nA s.heap.size) s.heap H []) (hc : cells + 772 ≤ 450000 ∧ slots + 6282 ≤ 4000000) {r : CS × Int64 × MS} (hm : o_lc_42 q1 q2 q3 q4 z v zm = some r) (kk : ∀ (H1 : Heap) (ls1 : Array Slot), LI k a o b Lb r.1 r.2.1 r.2.2 H1 → va_S (nA s.heap.size) s.heap H1 [] → lv_has ls1 7 [(4, .int i), (3, .ref o), (2, .ref b.1), (1, .ref a.1), (0, .ref bs)] → W p l e room_1 s m #[.ref bs] below meth c H1 [] (cells + 772) (slots + 6282) Q (F0 m 2249 ls1 [])) : W p l e room_1 s m #[.ref bs] below meth c H [] cells slots Q (F0 m 1888 ls []) := by
  have hx := hC.1
  have hb := hC.2.1
  refine lv_aload_n hx hb dL_law_1888 rfl (lv_at hl 3 rfl) ?_
  refine lv_aload_n hx hb dL_law_1889 rfl (lv_at hl 4 rfl) ?_
  refine lv_iload hx hb dL_law_1890 (lv_at hl 0 rfl) ?_
  refine lv_iconst (v := 1) hx hb dL_law_1892 (by decide) ?_
  refine lv_iadd hx hb dL_law_1893 ?_
  refine lw_sld hx hb hX hbl hS h1 dL_law_1894 ?_
  refine lv_aload_n hx hb dL_law_1895 rfl (lv_at hl 4 rfl) ?_
  refine lv_iload hx hb dL_law_1896 (lv_at hl 0 rfl) ?_
  refine lv_iconst (v := 2) hx hb dL_law_1898 (by decide) ?_
  refine lv_iadd hx hb dL_law_1899 ?_
  refine lw_sld hx hb hX hbl hS h2 dL_law_1900 ?_
  refine lv_aload_n hx hb dL_law_1901 rfl (lv_at hl 1 rfl) ?_
  by_cases h_1 : ¬ ((m_X0_isAfter q1 q2 z).1 = 0 ∨ (m_X0_isAfter q1 q2 z).1 = 1)
  · have hm := (if_pos h_1).symm.trans hm
    cases hm
  have hm := (if_neg h_1).symm.trans hm
  refine lw_w hC hGx hLD (k_L_isAfter l hl9 k a hLD.1 o q1 q2 z v (Decidable.of_not_not h_1)) (gSW w_942 w_943 w_25 w_944) kw_L_isAfter ⟨Nat.le_of_ble_eq_true rfl, Nat.le_of_ble_eq_true rfl⟩ ⟨Nat.le_trans (show cells + 2 ≤ 450000 by omega) rm_c, Nat.le_trans (show slots + 12 ≤ 4000000 by omega) rm_s⟩ hI hS hl.1 rfl rfl (Nat.le_of_ble_eq_true rfl) dL_law_1902 (fun H hI hS => ?_)
  refine lv_istore (lv' := [(5, .int (wk 1 1 ((m_X0_isAfter q1 q2 z).1))), (4, .int i), (3, .ref o), (2, .ref b.1), (1, .ref a.1), (0, .ref bs)]) hx hb dL_law_1905 hl (by decide) rfl (fun ls hl => ?_)
  refine lv_aload_n hx hb dL_law_1907 rfl (lv_at hl 3 rfl) ?_
  refine lv_aload_n hx hb dL_law_1908 rfl (lv_at hl 5 rfl) ?_
  refine lv_iload hx hb dL_law_1909 (lv_at hl 1 rfl) ?_
  refine lv_iconst (v := 1) hx hb dL_law_1911 (by decide) ?_
  refine lv_iadd hx hb dL_law_1912 ?_
  refine lw_sld hx hb hX hbl hS h1 dL_law_1913 ?_
  refine lv_aload_n hx hb dL_law_1914 rfl (lv_at hl 5 rfl) ?_
  refine lv_iload hx hb dL_law_1915 (lv_at hl 1 rfl) ?_
  refine lv_iconst (v := 2) hx hb dL_law_1917 (by decide) ?_
  refine lv_iadd hx hb dL_law_1918 ?_
  refine lw_sld hx hb hX hbl hS h2 dL_law_1919 ?_
  obtain ⟨x_1, hx_1, hm⟩ := Option.bind_eq_some_iff.mp hm
  refine lw_m hC hGx hLD (k_X3_isAfter l k b Lb hLD.2.1 q1 q2 zm hx_1) (gV w_1335 w_1336 w_1337 w_27 w_1338) kk_X3_isAfter rfl ⟨Nat.le_of_ble_eq_true rfl, Nat.le_of_ble_eq_true rfl⟩ ⟨Nat.le_trans (show cells + 2 ≤ 450000 by omega) rm_c, Nat.le_trans (show slots + 12 ≤ 4000000 by omega) rm_s⟩ hI hS hl.1 rfl rfl (Nat.le_of_ble_eq_true rfl) dL_law_1920 (fun H hI hS => ?_)
  refine lv_istore (lv' := [(6, .int x_1.1), (5, .int (wk 1 1 ((m_X0_isAfter q1 q2 z).1))), (4, .int i), (3, .ref o), (2, .ref b.1), (1, .ref a.1), (0, .ref bs)]) hx hb dL_law_1923 hl (by decide) rfl (fun ls hl => ?_)
  refine lv_goto (tgt := 2249) hx hb dL_law_1925 (by decide) ?_
  obtain rfl := Option.some.inj hm
  exact W.widen (k := cells + 772) (n := slots + 6282) (by omega) (by omega) (kk H ls hI hS (lv_sub hl [2, 3, 4, 5, 6] rfl))
set_option maxRecDepth 100000 in
def o_lc_43 (q1 q2 q3 q4 : Int32) (z : CS) (v : Int64) (zm : MS) : Option (CS × Int64 × MS) := (if ¬ ((m_X0_isSame q1 q2 z).1 = 0 ∨ (m_X0_isSame q1 q2 z).1 = 1) then none else ((o_X3_isSame q1 q2 zm).bind fun x_1 => some (z, (if (m_X0_isSame q1 q2 z).1 = 0 then (if (m_X0_isSame q1 q2 z).2 = 0 then (0 : Int64) else 1) else v), x_1.2)))
set_option maxRecDepth 100000 in
set_option maxHeartbeats 4000000 in
theorem lc_43 {p : Program} {l : Launch} (hl9 : l.stackTraces = false) {e : Env} {s : State} {m : MethodId} {below : List Frame} {meth : Method} {c : Code} {bs L : Nat} {xs : Nat → Int32} {k : Kx} {a b : CA} {o : Nat} {Lb : List Nat} {Q : State → Prop} (hC : CallFix p m c cL_law 7 s #[.ref bs] (Cond.tt :: GL) RL) (hGx : Gx k s) (hLD : LD k a o b Lb s) (hX : va_X bs L xs s s.heap) (hbl : bs < s.heap.size) {i q1 q2 q3 q4 : Int32} (h1 : vp_in (i + (1 : Int32)) L ∧ xs (i + (1 : Int32)).toNatClampNeg = q1) (h2 : vp_in (i + (2 : Int32)) L ∧ xs (i + (2 : Int32)).toNatClampNeg = q2) (h3 : vp_in (i + (3 : Int32)) L ∧ xs (i + (3 : Int32)).toNatClampNeg = q3) (h4 : vp_in (i + (4 : Int32)) L ∧ xs (i + (4 : Int32)).toNatClampNeg = q4) {z : CS} {v : Int64} {zm : MS} {H : Heap} {ls : Array Slot} {cells slots : Nat} (hl : lv_has ls 7 [(4, .int i), (3, .ref o), (2, .ref b.1), (1, .ref a.1), (0, .ref bs)]) (hI : LI k a o b Lb z v zm H) (hS : va_S (nA s.heap.size) s.heap H []) (hc : cells + 772 ≤ 450000 ∧ slots + 6282 ≤ 4000000) {r : CS × Int64 × MS} (hm : o_lc_43 q1 q2 q3 q4 z v zm = some r) (kk : ∀ (H1 : Heap) (ls1 : Array Slot), LI k a o b Lb r.1 r.2.1 r.2.2 H1 → va_S (nA s.heap.size) s.heap H1 [] → lv_has ls1 7 [(4, .int i), (3, .ref o), (2, .ref b.1), (1, .ref a.1), (0, .ref bs)] → W p l e room_1 s m #[.ref bs] below meth c H1 [] (cells + 772) (slots + 6282) Q (F0 m 2249 ls1 [])) : W p l e room_1 s m #[.ref bs] below meth c H [] cells slots Q (F0 m 1928 ls []) := by
  have hx := hC.1
  have hb := hC.2.1
  refine lv_aload_n hx hb dL_law_1928 rfl (lv_at hl 3 rfl) ?_
  refine lv_aload_n hx hb dL_law_1929 rfl (lv_at hl 4 rfl) ?_
  refine lv_iload hx hb dL_law_1930 (lv_at hl 0 rfl) ?_
  refine lv_iconst (v := 1) hx hb dL_law_1932 (by decide) ?_
  refine lv_iadd hx hb dL_law_1933 ?_
  refine lw_sld hx hb hX hbl hS h1 dL_law_1934 ?_
  refine lv_aload_n hx hb dL_law_1935 rfl (lv_at hl 4 rfl) ?_
  refine lv_iload hx hb dL_law_1936 (lv_at hl 0 rfl) ?_
  refine lv_iconst (v := 2) hx hb dL_law_1938 (by decide) ?_
  refine lv_iadd hx hb dL_law_1939 ?_
  refine lw_sld hx hb hX hbl hS h2 dL_law_1940 ?_
  refine lv_aload_n hx hb dL_law_1941 rfl (lv_at hl 1 rfl) ?_
  by_cases h_1 : ¬ ((m_X0_isSame q1 q2 z).1 = 0 ∨ (m_X0_isSame q1 q2 z).1 = 1)
  · have hm := (if_pos h_1).symm.trans hm
    cases hm
  have hm := (if_neg h_1).symm.trans hm
  refine lw_w hC hGx hLD (k_L_isSame l hl9 k a hLD.1 o q1 q2 z v (Decidable.of_not_not h_1)) (gSW w_949 w_950 w_25 w_951) kw_L_isSame ⟨Nat.le_of_ble_eq_true rfl, Nat.le_of_ble_eq_true rfl⟩ ⟨Nat.le_trans (show cells + 2 ≤ 450000 by omega) rm_c, Nat.le_trans (show slots + 12 ≤ 4000000 by omega) rm_s⟩ hI hS hl.1 rfl rfl (Nat.le_of_ble_eq_true rfl) dL_law_1942 (fun H hI hS => ?_)
  refine lv_istore (lv' := [(5, .int (wk 1 1 ((m_X0_isSame q1 q2 z).1))), (4, .int i), (3, .ref o), (2, .ref b.1), (1, .ref a.1), (0, .ref bs)]) hx hb dL_law_1945 hl (by decide) rfl (fun ls hl => ?_)
  refine lv_aload_n hx hb dL_law_1947 rfl (lv_at hl 3 rfl) ?_
  refine lv_aload_n hx hb dL_law_1948 rfl (lv_at hl 5 rfl) ?_
  refine lv_iload hx hb dL_law_1949 (lv_at hl 1 rfl) ?_
  refine lv_iconst (v := 1) hx hb dL_law_1951 (by decide) ?_
  refine lv_iadd hx hb dL_law_1952 ?_
  refine lw_sld hx hb hX hbl hS h1 dL_law_1953 ?_
  refine lv_aload_n hx hb dL_law_1954 rfl (lv_at hl 5 rfl) ?_
  refine lv_iload hx hb dL_law_1955 (lv_at hl 1 rfl) ?_
  refine lv_iconst (v := 2) hx hb dL_law_1957 (by decide) ?_
  refine lv_iadd hx hb dL_law_1958 ?_
  refine lw_sld hx hb hX hbl hS h2 dL_law_1959 ?_
  obtain ⟨x_1, hx_1, hm⟩ := Option.bind_eq_some_iff.mp hm
  refine lw_m hC hGx hLD (k_X3_isSame l k b Lb hLD.2.1 q1 q2 zm hx_1) (gV w_1339 w_1340 w_1341 w_27 w_1342) kk_X3_isSame rfl ⟨Nat.le_of_ble_eq_true rfl, Nat.le_of_ble_eq_true rfl⟩ ⟨Nat.le_trans (show cells + 2 ≤ 450000 by omega) rm_c, Nat.le_trans (show slots + 12 ≤ 4000000 by omega) rm_s⟩ hI hS hl.1 rfl rfl (Nat.le_of_ble_eq_true rfl) dL_law_1960 (fun H hI hS => ?_)
  refine lv_istore (lv' := [(6, .int x_1.1), (5, .int (wk 1 1 ((m_X0_isSame q1 q2 z).1))), (4, .int i), (3, .ref o), (2, .ref b.1), (1, .ref a.1), (0, .ref bs)]) hx hb dL_law_1963 hl (by decide) rfl (fun ls hl => ?_)
  refine lv_goto (tgt := 2249) hx hb dL_law_1965 (by decide) ?_
  obtain rfl := Option.some.inj hm
  exact W.widen (k := cells + 772) (n := slots + 6282) (by omega) (by omega) (kk H ls hI hS (lv_sub hl [2, 3, 4, 5, 6] rfl))
set_option maxRecDepth 100000 in
def o_lc_44 (q1 q2 q3 q4 : Int32) (z : CS) (v : Int64) (zm : MS) : Option (CS × Int64 × MS) := (if ¬ ((m_X0_between q1 q2 q3 z).1 = 0 ∨ (m_X0_between q1 q2 q3 z).1 = 1 ∨ (m_X0_between q1 q2 q3 z).1 = 2) then none else ((o_X3_between q1 q2 q3 zm).bind fun x_1 => some (z, (if (m_X0_between q1 q2 q3 z).1 = 0 then ((m_X0_between q1 q2 q3 z).2).toInt64 else v), x_1.2)))
set_option maxRecDepth 100000 in
set_option maxHeartbeats 4000000 in
theorem lc_44 {p : Program} {l : Launch} (hl9 : l.stackTraces = false) {e : Env} {s : State} {m : MethodId} {below : List Frame} {meth : Method} {c : Code} {bs L : Nat} {xs : Nat → Int32} {k : Kx} {a b : CA} {o : Nat} {Lb : List Nat} {Q : State → Prop} (hC : CallFix p m c cL_law 7 s #[.ref bs] (Cond.tt :: GL) RL) (hGx : Gx k s) (hLD : LD k a o b Lb s) (hX : va_X bs L xs s s.heap) (hbl : bs < s.heap.size) {i q1 q2 q3 q4 : Int32} (h1 : vp_in (i + (1 : Int32)) L ∧ xs (i + (1 : Int32)).toNatClampNeg = q1) (h2 : vp_in (i + (2 : Int32)) L ∧ xs (i + (2 : Int32)).toNatClampNeg = q2) (h3 : vp_in (i + (3 : Int32)) L ∧ xs (i + (3 : Int32)).toNatClampNeg = q3) (h4 : vp_in (i + (4 : Int32)) L ∧ xs (i + (4 : Int32)).toNatClampNeg = q4) {z : CS} {v : Int64} {zm : MS} {H : Heap} {ls : Array Slot} {cells slots : Nat} (hl : lv_has ls 7 [(4, .int i), (3, .ref o), (2, .ref b.1), (1, .ref a.1), (0, .ref bs)]) (hI : LI k a o b Lb z v zm H) (hS : va_S (nA s.heap.size) s.heap H []) (hc : cells + 772 ≤ 450000 ∧ slots + 6282 ≤ 4000000) {r : CS × Int64 × MS} (hm : o_lc_44 q1 q2 q3 q4 z v zm = some r) (kk : ∀ (H1 : Heap) (ls1 : Array Slot), LI k a o b Lb r.1 r.2.1 r.2.2 H1 → va_S (nA s.heap.size) s.heap H1 [] → lv_has ls1 7 [(4, .int i), (3, .ref o), (2, .ref b.1), (1, .ref a.1), (0, .ref bs)] → W p l e room_1 s m #[.ref bs] below meth c H1 [] (cells + 772) (slots + 6282) Q (F0 m 2249 ls1 [])) : W p l e room_1 s m #[.ref bs] below meth c H [] cells slots Q (F0 m 1968 ls []) := by
  have hx := hC.1
  have hb := hC.2.1
  refine lv_aload_n hx hb dL_law_1968 rfl (lv_at hl 3 rfl) ?_
  refine lv_aload_n hx hb dL_law_1969 rfl (lv_at hl 4 rfl) ?_
  refine lv_iload hx hb dL_law_1970 (lv_at hl 0 rfl) ?_
  refine lv_iconst (v := 1) hx hb dL_law_1972 (by decide) ?_
  refine lv_iadd hx hb dL_law_1973 ?_
  refine lw_sld hx hb hX hbl hS h1 dL_law_1974 ?_
  refine lv_aload_n hx hb dL_law_1975 rfl (lv_at hl 4 rfl) ?_
  refine lv_iload hx hb dL_law_1976 (lv_at hl 0 rfl) ?_
  refine lv_iconst (v := 2) hx hb dL_law_1978 (by decide) ?_
  refine lv_iadd hx hb dL_law_1979 ?_
  refine lw_sld hx hb hX hbl hS h2 dL_law_1980 ?_
  refine lv_aload_n hx hb dL_law_1981 rfl (lv_at hl 4 rfl) ?_
  refine lv_iload hx hb dL_law_1982 (lv_at hl 0 rfl) ?_
  refine lv_iconst (v := 3) hx hb dL_law_1984 (by decide) ?_
  refine lv_iadd hx hb dL_law_1985 ?_
  refine lw_sld hx hb hX hbl hS h3 dL_law_1986 ?_
  refine lv_aload_n hx hb dL_law_1987 rfl (lv_at hl 1 rfl) ?_
  by_cases h_1 : ¬ ((m_X0_between q1 q2 q3 z).1 = 0 ∨ (m_X0_between q1 q2 q3 z).1 = 1 ∨ (m_X0_between q1 q2 q3 z).1 = 2)
  · have hm := (if_pos h_1).symm.trans hm
    cases hm
  have hm := (if_neg h_1).symm.trans hm
  refine lw_w hC hGx hLD (k_L_between l hl9 k a hLD.1 o q1 q2 q3 z v (Decidable.of_not_not h_1)) (gSW w_956 w_957 w_25 w_958) kw_L_between ⟨Nat.le_of_ble_eq_true rfl, Nat.le_of_ble_eq_true rfl⟩ ⟨Nat.le_trans (show cells + 3 ≤ 450000 by omega) rm_c, Nat.le_trans (show slots + 18 ≤ 4000000 by omega) rm_s⟩ hI hS hl.1 rfl rfl (Nat.le_of_ble_eq_true rfl) dL_law_1988 (fun H hI hS => ?_)
  refine lv_istore (lv' := [(5, .int (wk 1 2 ((m_X0_between q1 q2 q3 z).1))), (4, .int i), (3, .ref o), (2, .ref b.1), (1, .ref a.1), (0, .ref bs)]) hx hb dL_law_1991 hl (by decide) rfl (fun ls hl => ?_)
  refine lv_aload_n hx hb dL_law_1993 rfl (lv_at hl 3 rfl) ?_
  refine lv_aload_n hx hb dL_law_1994 rfl (lv_at hl 5 rfl) ?_
  refine lv_iload hx hb dL_law_1995 (lv_at hl 1 rfl) ?_
  refine lv_iconst (v := 1) hx hb dL_law_1997 (by decide) ?_
  refine lv_iadd hx hb dL_law_1998 ?_
  refine lw_sld hx hb hX hbl hS h1 dL_law_1999 ?_
  refine lv_aload_n hx hb dL_law_2000 rfl (lv_at hl 5 rfl) ?_
  refine lv_iload hx hb dL_law_2001 (lv_at hl 1 rfl) ?_
  refine lv_iconst (v := 2) hx hb dL_law_2003 (by decide) ?_
  refine lv_iadd hx hb dL_law_2004 ?_
  refine lw_sld hx hb hX hbl hS h2 dL_law_2005 ?_
  refine lv_aload_n hx hb dL_law_2006 rfl (lv_at hl 5 rfl) ?_
  refine lv_iload hx hb dL_law_2007 (lv_at hl 1 rfl) ?_
  refine lv_iconst (v := 3) hx hb dL_law_2009 (by decide) ?_
  refine lv_iadd hx hb dL_law_2010 ?_
  refine lw_sld hx hb hX hbl hS h3 dL_law_2011 ?_
  obtain ⟨x_1, hx_1, hm⟩ := Option.bind_eq_some_iff.mp hm
  refine lw_m hC hGx hLD (k_X3_between l k b Lb hLD.2.1 q1 q2 q3 zm hx_1) (gV w_1347 w_1348 w_1349 w_27 w_1350) kk_X3_between rfl ⟨Nat.le_of_ble_eq_true rfl, Nat.le_of_ble_eq_true rfl⟩ ⟨Nat.le_trans (show cells + 3 ≤ 450000 by omega) rm_c, Nat.le_trans (show slots + 18 ≤ 4000000 by omega) rm_s⟩ hI hS hl.1 rfl rfl (Nat.le_of_ble_eq_true rfl) dL_law_2012 (fun H hI hS => ?_)
  refine lv_istore (lv' := [(6, .int x_1.1), (5, .int (wk 1 2 ((m_X0_between q1 q2 q3 z).1))), (4, .int i), (3, .ref o), (2, .ref b.1), (1, .ref a.1), (0, .ref bs)]) hx hb dL_law_2015 hl (by decide) rfl (fun ls hl => ?_)
  refine lv_goto (tgt := 2249) hx hb dL_law_2017 (by decide) ?_
  obtain rfl := Option.some.inj hm
  exact W.widen (k := cells + 772) (n := slots + 6282) (by omega) (by omega) (kk H ls hI hS (lv_sub hl [2, 3, 4, 5, 6] rfl))
set_option maxRecDepth 100000 in
def o_lc_45 (q1 q2 q3 q4 : Int32) (z : CS) (v : Int64) (zm : MS) : Option (CS × Int64 × MS) := (if ¬ ((m_X0_apart q1 q2 q3 z).1 = 0 ∨ (m_X0_apart q1 q2 q3 z).1 = 1 ∨ (m_X0_apart q1 q2 q3 z).1 = 2 ∨ (m_X0_apart q1 q2 q3 z).1 = 3) then none else ((o_X3_apart q1 q2 q3 zm).bind fun x_1 => some (z, (if (m_X0_apart q1 q2 q3 z).1 = 0 then ((m_X0_apart q1 q2 q3 z).2).toInt64 else v), x_1.2)))
set_option maxRecDepth 100000 in
set_option maxHeartbeats 4000000 in
theorem lc_45 {p : Program} {l : Launch} (hl9 : l.stackTraces = false) {e : Env} {s : State} {m : MethodId} {below : List Frame} {meth : Method} {c : Code} {bs L : Nat} {xs : Nat → Int32} {k : Kx} {a b : CA} {o : Nat} {Lb : List Nat} {Q : State → Prop} (hC : CallFix p m c cL_law 7 s #[.ref bs] (Cond.tt :: GL) RL) (hGx : Gx k s) (hLD : LD k a o b Lb s) (hX : va_X bs L xs s s.heap) (hbl : bs < s.heap.size) {i q1 q2 q3 q4 : Int32} (h1 : vp_in (i + (1 : Int32)) L ∧ xs (i + (1 : Int32)).toNatClampNeg = q1) (h2 : vp_in (i + (2 : Int32)) L ∧ xs (i + (2 : Int32)).toNatClampNeg = q2) (h3 : vp_in (i + (3 : Int32)) L ∧ xs (i + (3 : Int32)).toNatClampNeg = q3) (h4 : vp_in (i + (4 : Int32)) L ∧ xs (i + (4 : Int32)).toNatClampNeg = q4) {z : CS} {v : Int64} {zm : MS} {H : Heap} {ls : Array Slot} {cells slots : Nat} (hl : lv_has ls 7 [(4, .int i), (3, .ref o), (2, .ref b.1), (1, .ref a.1), (0, .ref bs)]) (hI : LI k a o b Lb z v zm H) (hS : va_S (nA s.heap.size) s.heap H []) (hc : cells + 772 ≤ 450000 ∧ slots + 6282 ≤ 4000000) {r : CS × Int64 × MS} (hm : o_lc_45 q1 q2 q3 q4 z v zm = some r) (kk : ∀ (H1 : Heap) (ls1 : Array Slot), LI k a o b Lb r.1 r.2.1 r.2.2 H1 → va_S (nA s.heap.size) s.heap H1 [] → lv_has ls1 7 [(4, .int i), (3, .ref o), (2, .ref b.1), (1, .ref a.1), (0, .ref bs)] → W p l e room_1 s m #[.ref bs] below meth c H1 [] (cells + 772) (slots + 6282) Q (F0 m 2249 ls1 [])) : W p l e room_1 s m #[.ref bs] below meth c H [] cells slots Q (F0 m 2020 ls []) := by
  have hx := hC.1
  have hb := hC.2.1
  refine lv_aload_n hx hb dL_law_2020 rfl (lv_at hl 3 rfl) ?_
  refine lv_aload_n hx hb dL_law_2021 rfl (lv_at hl 4 rfl) ?_
  refine lv_iload hx hb dL_law_2022 (lv_at hl 0 rfl) ?_
  refine lv_iconst (v := 1) hx hb dL_law_2024 (by decide) ?_
  refine lv_iadd hx hb dL_law_2025 ?_
  refine lw_sld hx hb hX hbl hS h1 dL_law_2026 ?_
  refine lv_aload_n hx hb dL_law_2027 rfl (lv_at hl 4 rfl) ?_
  refine lv_iload hx hb dL_law_2028 (lv_at hl 0 rfl) ?_
  refine lv_iconst (v := 2) hx hb dL_law_2030 (by decide) ?_
  refine lv_iadd hx hb dL_law_2031 ?_
  refine lw_sld hx hb hX hbl hS h2 dL_law_2032 ?_
  refine lv_aload_n hx hb dL_law_2033 rfl (lv_at hl 4 rfl) ?_
  refine lv_iload hx hb dL_law_2034 (lv_at hl 0 rfl) ?_
  refine lv_iconst (v := 3) hx hb dL_law_2036 (by decide) ?_
  refine lv_iadd hx hb dL_law_2037 ?_
  refine lw_sld hx hb hX hbl hS h3 dL_law_2038 ?_
  refine lv_aload_n hx hb dL_law_2039 rfl (lv_at hl 1 rfl) ?_
  by_cases h_1 : ¬ ((m_X0_apart q1 q2 q3 z).1 = 0 ∨ (m_X0_apart q1 q2 q3 z).1 = 1 ∨ (m_X0_apart q1 q2 q3 z).1 = 2 ∨ (m_X0_apart q1 q2 q3 z).1 = 3)
  · have hm := (if_pos h_1).symm.trans hm
    cases hm
  have hm := (if_neg h_1).symm.trans hm
  refine lw_w hC hGx hLD (k_L_apart l hl9 k a hLD.1 o q1 q2 q3 z v (Decidable.of_not_not h_1)) (gSW w_960 w_961 w_25 w_962) kw_L_apart ⟨Nat.le_of_ble_eq_true rfl, Nat.le_of_ble_eq_true rfl⟩ ⟨Nat.le_trans (show cells + 4 ≤ 450000 by omega) rm_c, Nat.le_trans (show slots + 24 ≤ 4000000 by omega) rm_s⟩ hI hS hl.1 rfl rfl (Nat.le_of_ble_eq_true rfl) dL_law_2040 (fun H hI hS => ?_)
  refine lv_istore (lv' := [(5, .int (wk 1 2 ((m_X0_apart q1 q2 q3 z).1))), (4, .int i), (3, .ref o), (2, .ref b.1), (1, .ref a.1), (0, .ref bs)]) hx hb dL_law_2043 hl (by decide) rfl (fun ls hl => ?_)
  refine lv_aload_n hx hb dL_law_2045 rfl (lv_at hl 3 rfl) ?_
  refine lv_aload_n hx hb dL_law_2046 rfl (lv_at hl 5 rfl) ?_
  refine lv_iload hx hb dL_law_2047 (lv_at hl 1 rfl) ?_
  refine lv_iconst (v := 1) hx hb dL_law_2049 (by decide) ?_
  refine lv_iadd hx hb dL_law_2050 ?_
  refine lw_sld hx hb hX hbl hS h1 dL_law_2051 ?_
  refine lv_aload_n hx hb dL_law_2052 rfl (lv_at hl 5 rfl) ?_
  refine lv_iload hx hb dL_law_2053 (lv_at hl 1 rfl) ?_
  refine lv_iconst (v := 2) hx hb dL_law_2055 (by decide) ?_
  refine lv_iadd hx hb dL_law_2056 ?_
  refine lw_sld hx hb hX hbl hS h2 dL_law_2057 ?_
  refine lv_aload_n hx hb dL_law_2058 rfl (lv_at hl 5 rfl) ?_
  refine lv_iload hx hb dL_law_2059 (lv_at hl 1 rfl) ?_
  refine lv_iconst (v := 3) hx hb dL_law_2061 (by decide) ?_
  refine lv_iadd hx hb dL_law_2062 ?_
  refine lw_sld hx hb hX hbl hS h3 dL_law_2063 ?_
  obtain ⟨x_1, hx_1, hm⟩ := Option.bind_eq_some_iff.mp hm
  refine lw_m hC hGx hLD (k_X3_apart l k b Lb hLD.2.1 q1 q2 q3 zm hx_1) (gV w_1354 w_1355 w_1356 w_27 w_1357) kk_X3_apart rfl ⟨Nat.le_of_ble_eq_true rfl, Nat.le_of_ble_eq_true rfl⟩ ⟨Nat.le_trans (show cells + 5 ≤ 450000 by omega) rm_c, Nat.le_trans (show slots + 27 ≤ 4000000 by omega) rm_s⟩ hI hS hl.1 rfl rfl (Nat.le_of_ble_eq_true rfl) dL_law_2064 (fun H hI hS => ?_)
  refine lv_istore (lv' := [(6, .int x_1.1), (5, .int (wk 1 2 ((m_X0_apart q1 q2 q3 z).1))), (4, .int i), (3, .ref o), (2, .ref b.1), (1, .ref a.1), (0, .ref bs)]) hx hb dL_law_2067 hl (by decide) rfl (fun ls hl => ?_)
  refine lv_goto (tgt := 2249) hx hb dL_law_2069 (by decide) ?_
  obtain rfl := Option.some.inj hm
  exact W.widen (k := cells + 772) (n := slots + 6282) (by omega) (by omega) (kk H ls hI hS (lv_sub hl [2, 3, 4, 5, 6] rfl))
set_option maxRecDepth 100000 in
def o_lc_46 (q1 q2 q3 q4 : Int32) (z : CS) (v : Int64) (zm : MS) : Option (CS × Int64 × MS) := (if ¬ ((m_X0_daysToYearEnd q1 z).1 = 0 ∨ (m_X0_daysToYearEnd q1 z).1 = 1) then none else ((o_X3_daysToYearEnd q1 zm).bind fun x_1 => some (z, (if (m_X0_daysToYearEnd q1 z).1 = 0 then ((m_X0_daysToYearEnd q1 z).2).toInt64 else v), x_1.2)))
set_option maxRecDepth 100000 in
set_option maxHeartbeats 4000000 in
theorem lc_46 {p : Program} {l : Launch} (hl9 : l.stackTraces = false) {e : Env} {s : State} {m : MethodId} {below : List Frame} {meth : Method} {c : Code} {bs L : Nat} {xs : Nat → Int32} {k : Kx} {a b : CA} {o : Nat} {Lb : List Nat} {Q : State → Prop} (hC : CallFix p m c cL_law 7 s #[.ref bs] (Cond.tt :: GL) RL) (hGx : Gx k s) (hLD : LD k a o b Lb s) (hX : va_X bs L xs s s.heap) (hbl : bs < s.heap.size) {i q1 q2 q3 q4 : Int32} (h1 : vp_in (i + (1 : Int32)) L ∧ xs (i + (1 : Int32)).toNatClampNeg = q1) (h2 : vp_in (i + (2 : Int32)) L ∧ xs (i + (2 : Int32)).toNatClampNeg = q2) (h3 : vp_in (i + (3 : Int32)) L ∧ xs (i + (3 : Int32)).toNatClampNeg = q3) (h4 : vp_in (i + (4 : Int32)) L ∧ xs (i + (4 : Int32)).toNatClampNeg = q4) {z : CS} {v : Int64} {zm : MS} {H : Heap} {ls : Array Slot} {cells slots : Nat} (hl : lv_has ls 7 [(4, .int i), (3, .ref o), (2, .ref b.1), (1, .ref a.1), (0, .ref bs)]) (hI : LI k a o b Lb z v zm H) (hS : va_S (nA s.heap.size) s.heap H []) (hc : cells + 772 ≤ 450000 ∧ slots + 6282 ≤ 4000000) {r : CS × Int64 × MS} (hm : o_lc_46 q1 q2 q3 q4 z v zm = some r) (kk : ∀ (H1 : Heap) (ls1 : Array Slot), LI k a o b Lb r.1 r.2.1 r.2.2 H1 → va_S (nA s.heap.size) s.heap H1 [] → lv_has ls1 7 [(4, .int i), (3, .ref o), (2, .ref b.1), (1, .ref a.1), (0, .ref bs)] → W p l e room_1 s m #[.ref bs] below meth c H1 [] (cells + 772) (slots + 6282) Q (F0 m 2249 ls1 [])) : W p l e room_1 s m #[.ref bs] below meth c H [] cells slots Q (F0 m 2072 ls []) := by
  have hx := hC.1
  have hb := hC.2.1
  refine lv_aload_n hx hb dL_law_2072 rfl (lv_at hl 3 rfl) ?_
  refine lv_aload_n hx hb dL_law_2073 rfl (lv_at hl 4 rfl) ?_
  refine lv_iload hx hb dL_law_2074 (lv_at hl 0 rfl) ?_
  refine lv_iconst (v := 1) hx hb dL_law_2076 (by decide) ?_
  refine lv_iadd hx hb dL_law_2077 ?_
  refine lw_sld hx hb hX hbl hS h1 dL_law_2078 ?_
  refine lv_aload_n hx hb dL_law_2079 rfl (lv_at hl 1 rfl) ?_
  by_cases h_1 : ¬ ((m_X0_daysToYearEnd q1 z).1 = 0 ∨ (m_X0_daysToYearEnd q1 z).1 = 1)
  · have hm := (if_pos h_1).symm.trans hm
    cases hm
  have hm := (if_neg h_1).symm.trans hm
  refine lw_w hC hGx hLD (k_L_daysToYearEnd l hl9 k a hLD.1 o q1 z v (Decidable.of_not_not h_1)) (gSW w_967 w_968 w_25 w_969) kw_L_daysToYearEnd ⟨Nat.le_of_ble_eq_true rfl, Nat.le_of_ble_eq_true rfl⟩ ⟨Nat.le_trans (show cells + 1 ≤ 450000 by omega) rm_c, Nat.le_trans (show slots + 6 ≤ 4000000 by omega) rm_s⟩ hI hS hl.1 rfl rfl (Nat.le_of_ble_eq_true rfl) dL_law_2080 (fun H hI hS => ?_)
  refine lv_istore (lv' := [(5, .int (wk 1 1 ((m_X0_daysToYearEnd q1 z).1))), (4, .int i), (3, .ref o), (2, .ref b.1), (1, .ref a.1), (0, .ref bs)]) hx hb dL_law_2083 hl (by decide) rfl (fun ls hl => ?_)
  refine lv_aload_n hx hb dL_law_2085 rfl (lv_at hl 3 rfl) ?_
  refine lv_aload_n hx hb dL_law_2086 rfl (lv_at hl 5 rfl) ?_
  refine lv_iload hx hb dL_law_2087 (lv_at hl 1 rfl) ?_
  refine lv_iconst (v := 1) hx hb dL_law_2089 (by decide) ?_
  refine lv_iadd hx hb dL_law_2090 ?_
  refine lw_sld hx hb hX hbl hS h1 dL_law_2091 ?_
  obtain ⟨x_1, hx_1, hm⟩ := Option.bind_eq_some_iff.mp hm
  refine lw_m hC hGx hLD (k_X3_daysToYearEnd l k b Lb hLD.2.1 q1 zm hx_1) (gV w_1358 w_1359 w_1360 w_27 w_1361) kk_X3_daysToYearEnd rfl ⟨Nat.le_of_ble_eq_true rfl, Nat.le_of_ble_eq_true rfl⟩ ⟨Nat.le_trans (show cells + 1 ≤ 450000 by omega) rm_c, Nat.le_trans (show slots + 6 ≤ 4000000 by omega) rm_s⟩ hI hS hl.1 rfl rfl (Nat.le_of_ble_eq_true rfl) dL_law_2092 (fun H hI hS => ?_)
  refine lv_istore (lv' := [(6, .int x_1.1), (5, .int (wk 1 1 ((m_X0_daysToYearEnd q1 z).1))), (4, .int i), (3, .ref o), (2, .ref b.1), (1, .ref a.1), (0, .ref bs)]) hx hb dL_law_2095 hl (by decide) rfl (fun ls hl => ?_)
  refine lv_goto (tgt := 2249) hx hb dL_law_2097 (by decide) ?_
  obtain rfl := Option.some.inj hm
  exact W.widen (k := cells + 772) (n := slots + 6282) (by omega) (by omega) (kk H ls hI hS (lv_sub hl [2, 3, 4, 5, 6] rfl))
set_option maxRecDepth 100000 in
def o_lc_47 (q1 q2 q3 q4 : Int32) (z : CS) (v : Int64) (zm : MS) : Option (CS × Int64 × MS) := (if ¬ ((m_X0_sameDay q1 q2 z).1 = 0 ∨ (m_X0_sameDay q1 q2 z).1 = 1 ∨ (m_X0_sameDay q1 q2 z).1 = 2) then none else ((o_X3_sameDay q1 q2 zm).bind fun x_1 => ((o_X3_thrown  x_1.2).bind fun x_2 => (if x_2.1 = wk 1 2 ((m_X0_sameDay q1 q2 z).1) then (if wk 1 2 ((m_X0_sameDay q1 q2 z).1) = 0 then (if lg_cmp (if (m_X0_sameDay q1 q2 z).1 = 0 then ((m_X0_sameDay q1 q2 z).2).toInt64 else v) x_1.1.toInt64 = 0 then some (z, (if (m_X0_sameDay q1 q2 z).1 = 0 then ((m_X0_sameDay q1 q2 z).2).toInt64 else v), x_2.2) else none) else some (z, (if (m_X0_sameDay q1 q2 z).1 = 0 then ((m_X0_sameDay q1 q2 z).2).toInt64 else v), x_2.2)) else none))))
set_option maxRecDepth 100000 in
set_option maxHeartbeats 4000000 in
theorem lc_47 {p : Program} {l : Launch} (hl9 : l.stackTraces = false) {e : Env} {s : State} {m : MethodId} {below : List Frame} {meth : Method} {c : Code} {bs L : Nat} {xs : Nat → Int32} {k : Kx} {a b : CA} {o : Nat} {Lb : List Nat} {Q : State → Prop} (hC : CallFix p m c cL_law 7 s #[.ref bs] (Cond.tt :: GL) RL) (hGx : Gx k s) (hLD : LD k a o b Lb s) (hX : va_X bs L xs s s.heap) (hbl : bs < s.heap.size) {i q1 q2 q3 q4 : Int32} (h1 : vp_in (i + (1 : Int32)) L ∧ xs (i + (1 : Int32)).toNatClampNeg = q1) (h2 : vp_in (i + (2 : Int32)) L ∧ xs (i + (2 : Int32)).toNatClampNeg = q2) (h3 : vp_in (i + (3 : Int32)) L ∧ xs (i + (3 : Int32)).toNatClampNeg = q3) (h4 : vp_in (i + (4 : Int32)) L ∧ xs (i + (4 : Int32)).toNatClampNeg = q4) {z : CS} {v : Int64} {zm : MS} {H : Heap} {ls : Array Slot} {cells slots : Nat} (hl : lv_has ls 7 [(4, .int i), (3, .ref o), (2, .ref b.1), (1, .ref a.1), (0, .ref bs)]) (hI : LI k a o b Lb z v zm H) (hS : va_S (nA s.heap.size) s.heap H []) (hc : cells + 772 ≤ 450000 ∧ slots + 6282 ≤ 4000000) {r : CS × Int64 × MS} (hm : o_lc_47 q1 q2 q3 q4 z v zm = some r) (kk : ∀ (H1 : Heap) (ls1 : Array Slot), LI k a o b Lb r.1 r.2.1 r.2.2 H1 → va_S (nA s.heap.size) s.heap H1 [] → lv_has ls1 7 [(4, .int i), (3, .ref o), (2, .ref b.1), (1, .ref a.1), (0, .ref bs)] → W p l e room_1 s m #[.ref bs] below meth c H1 [] (cells + 772) (slots + 6282) Q (F0 m 2249 ls1 [])) : W p l e room_1 s m #[.ref bs] below meth c H [] cells slots Q (F0 m 2100 ls []) := by
  have hx := hC.1
  have hb := hC.2.1
  refine lv_aload_n hx hb dL_law_2100 rfl (lv_at hl 3 rfl) ?_
  refine lv_aload_n hx hb dL_law_2101 rfl (lv_at hl 4 rfl) ?_
  refine lv_iload hx hb dL_law_2102 (lv_at hl 0 rfl) ?_
  refine lv_iconst (v := 1) hx hb dL_law_2104 (by decide) ?_
  refine lv_iadd hx hb dL_law_2105 ?_
  refine lw_sld hx hb hX hbl hS h1 dL_law_2106 ?_
  refine lv_aload_n hx hb dL_law_2107 rfl (lv_at hl 4 rfl) ?_
  refine lv_iload hx hb dL_law_2108 (lv_at hl 0 rfl) ?_
  refine lv_iconst (v := 2) hx hb dL_law_2110 (by decide) ?_
  refine lv_iadd hx hb dL_law_2111 ?_
  refine lw_sld hx hb hX hbl hS h2 dL_law_2112 ?_
  refine lv_aload_n hx hb dL_law_2113 rfl (lv_at hl 1 rfl) ?_
  by_cases h_1 : ¬ ((m_X0_sameDay q1 q2 z).1 = 0 ∨ (m_X0_sameDay q1 q2 z).1 = 1 ∨ (m_X0_sameDay q1 q2 z).1 = 2)
  · have hm := (if_pos h_1).symm.trans hm
    cases hm
  have hm := (if_neg h_1).symm.trans hm
  refine lw_w hC hGx hLD (k_L_sameDay l hl9 k a hLD.1 o q1 q2 z v (Decidable.of_not_not h_1)) (gSW w_974 w_975 w_25 w_976) kw_L_sameDay ⟨Nat.le_of_ble_eq_true rfl, Nat.le_of_ble_eq_true rfl⟩ ⟨Nat.le_trans (show cells + 2 ≤ 450000 by omega) rm_c, Nat.le_trans (show slots + 12 ≤ 4000000 by omega) rm_s⟩ hI hS hl.1 rfl rfl (Nat.le_of_ble_eq_true rfl) dL_law_2114 (fun H hI hS => ?_)
  refine lv_istore (lv' := [(5, .int (wk 1 2 ((m_X0_sameDay q1 q2 z).1))), (4, .int i), (3, .ref o), (2, .ref b.1), (1, .ref a.1), (0, .ref bs)]) hx hb dL_law_2117 hl (by decide) rfl (fun ls hl => ?_)
  refine lv_aload_n hx hb dL_law_2119 rfl (lv_at hl 3 rfl) ?_
  refine lv_aload_n hx hb dL_law_2120 rfl (lv_at hl 5 rfl) ?_
  refine lv_iload hx hb dL_law_2121 (lv_at hl 1 rfl) ?_
  refine lv_iconst (v := 1) hx hb dL_law_2123 (by decide) ?_
  refine lv_iadd hx hb dL_law_2124 ?_
  refine lw_sld hx hb hX hbl hS h1 dL_law_2125 ?_
  refine lv_aload_n hx hb dL_law_2126 rfl (lv_at hl 5 rfl) ?_
  refine lv_iload hx hb dL_law_2127 (lv_at hl 1 rfl) ?_
  refine lv_iconst (v := 2) hx hb dL_law_2129 (by decide) ?_
  refine lv_iadd hx hb dL_law_2130 ?_
  refine lw_sld hx hb hX hbl hS h2 dL_law_2131 ?_
  obtain ⟨x_1, hx_1, hm⟩ := Option.bind_eq_some_iff.mp hm
  refine lw_m hC hGx hLD (k_X3_sameDay l k b Lb hLD.2.1 q1 q2 zm hx_1) (gV w_1362 w_1363 w_1364 w_27 w_1365) kk_X3_sameDay rfl ⟨Nat.le_of_ble_eq_true rfl, Nat.le_of_ble_eq_true rfl⟩ ⟨Nat.le_trans (show cells + 3 ≤ 450000 by omega) rm_c, Nat.le_trans (show slots + 15 ≤ 4000000 by omega) rm_s⟩ hI hS hl.1 rfl rfl (Nat.le_of_ble_eq_true rfl) dL_law_2132 (fun H hI hS => ?_)
  refine lv_istore (lv' := [(6, .int x_1.1), (5, .int (wk 1 2 ((m_X0_sameDay q1 q2 z).1))), (4, .int i), (3, .ref o), (2, .ref b.1), (1, .ref a.1), (0, .ref bs)]) hx hb dL_law_2135 hl (by decide) rfl (fun ls hl => ?_)
  refine lv_aload_n hx hb dL_law_2137 rfl (lv_at hl 4 rfl) ?_
  obtain ⟨x_2, hx_2, hm⟩ := Option.bind_eq_some_iff.mp hm
  refine lw_m hC hGx hLD (k_X3_thrown l k b Lb hLD.2.1  x_1.2 hx_2) (gV w_1027 w_1028 w_1029 w_27 w_1030) kk_X3_thrown rfl ⟨Nat.le_of_ble_eq_true rfl, Nat.le_of_ble_eq_true rfl⟩ ⟨Nat.le_trans (show cells + 3 ≤ 450000 by omega) rm_c, Nat.le_trans (show slots + 15 ≤ 4000000 by omega) rm_s⟩ hI hS hl.1 rfl rfl (Nat.le_of_ble_eq_true rfl) dL_law_2138 (fun H hI hS => ?_)
  refine lv_iload hx hb dL_law_2141 (lv_at hl 1 rfl) ?_
  refine lv_icmp_eq (tgt := 2148) hx hb dL_law_2143 (by decide) (fun h_2 => ?_) (fun h_2 => ?_)
  · have hm := (if_pos h_2).symm.trans hm
    refine lv_iload hx hb dL_law_2148 (lv_at hl 1 rfl) ?_
    refine lv_if_ne (tgt := 2166) hx hb dL_law_2150 (by decide) (fun h_3 => ?_) (fun h_3 => ?_)
    · have hm := (if_neg h_3).symm.trans hm
      refine lv_goto (tgt := 2249) hx hb dL_law_2166 (by decide) ?_
      obtain rfl := Option.some.inj hm
      exact W.widen (k := cells + 772) (n := slots + 6282) (by omega) (by omega) (kk H ls hI hS (lv_sub hl [2, 3, 4, 5, 6] rfl))
    · have hm := (if_pos h_3).symm.trans hm
      refine lv_aload_n hx hb dL_law_2153 rfl (lv_at hl 3 rfl) ?_
      refine lw_n hx hb (fun w h => hC.2.2.2.2 w (List.mem_cons_of_mem _ h)) hC.2.2.2.1 hGx hI (va_Nw.use rfl (gx_nf hGx (q := ("DatesoloLaw", 13, "DatesoloLaw$Out", "n", "J", "DatesoloLaw")) (by decide +kernel))) dL_law_2154 ?_
      refine lv_iload hx hb dL_law_2157 (lv_at hl 0 rfl) ?_
      refine lv_i2l hx hb dL_law_2159 rfl ?_
      refine W.lcmp hx hb dL_law_2160 ?_
      refine lv_if_eq (tgt := 2166) hx hb dL_law_2161 (by decide) (fun h_4 => ?_) (fun h_4 => ?_)
      · have hm := (if_pos h_4).symm.trans hm
        refine lv_goto (tgt := 2249) hx hb dL_law_2166 (by decide) ?_
        obtain rfl := Option.some.inj hm
        exact W.widen (k := cells + 772) (n := slots + 6282) (by omega) (by omega) (kk H ls hI hS (lv_sub hl [2, 3, 4, 5, 6] rfl))
      · have hm := (if_neg h_4).symm.trans hm
        refine lv_iconst (v := 0) hx hb dL_law_2164 (by decide) ?_
        cases hm
  · have hm := (if_neg h_2).symm.trans hm
    refine lv_iconst (v := 0) hx hb dL_law_2146 (by decide) ?_
    cases hm
set_option maxRecDepth 100000 in
def o_lc_48 (q1 q2 q3 q4 : Int32) (z : CS) (v : Int64) (zm : MS) : Option (CS × Int64 × MS) := (if ¬ (m_X0_reset z).1 = 0 then none else ((o_X3_reset  zm).bind fun x_1 => some ((m_X0_reset z).2.2, v, x_1.2)))
set_option maxRecDepth 100000 in
set_option maxHeartbeats 4000000 in
theorem lc_48 {p : Program} {l : Launch} (hl9 : l.stackTraces = false) {e : Env} {s : State} {m : MethodId} {below : List Frame} {meth : Method} {c : Code} {bs L : Nat} {xs : Nat → Int32} {k : Kx} {a b : CA} {o : Nat} {Lb : List Nat} {Q : State → Prop} (hC : CallFix p m c cL_law 7 s #[.ref bs] (Cond.tt :: GL) RL) (hGx : Gx k s) (hLD : LD k a o b Lb s) (hX : va_X bs L xs s s.heap) (hbl : bs < s.heap.size) {i q1 q2 q3 q4 : Int32} (h1 : vp_in (i + (1 : Int32)) L ∧ xs (i + (1 : Int32)).toNatClampNeg = q1) (h2 : vp_in (i + (2 : Int32)) L ∧ xs (i + (2 : Int32)).toNatClampNeg = q2) (h3 : vp_in (i + (3 : Int32)) L ∧ xs (i + (3 : Int32)).toNatClampNeg = q3) (h4 : vp_in (i + (4 : Int32)) L ∧ xs (i + (4 : Int32)).toNatClampNeg = q4) {z : CS} {v : Int64} {zm : MS} {H : Heap} {ls : Array Slot} {cells slots : Nat} (hl : lv_has ls 7 [(4, .int i), (3, .ref o), (2, .ref b.1), (1, .ref a.1), (0, .ref bs)]) (hI : LI k a o b Lb z v zm H) (hS : va_S (nA s.heap.size) s.heap H []) (hc : cells + 772 ≤ 450000 ∧ slots + 6282 ≤ 4000000) {r : CS × Int64 × MS} (hm : o_lc_48 q1 q2 q3 q4 z v zm = some r) (kk : ∀ (H1 : Heap) (ls1 : Array Slot), LI k a o b Lb r.1 r.2.1 r.2.2 H1 → va_S (nA s.heap.size) s.heap H1 [] → lv_has ls1 7 [(4, .int i), (3, .ref o), (2, .ref b.1), (1, .ref a.1), (0, .ref bs)] → W p l e room_1 s m #[.ref bs] below meth c H1 [] (cells + 772) (slots + 6282) Q (F0 m 2249 ls1 [])) : W p l e room_1 s m #[.ref bs] below meth c H [] cells slots Q (F0 m 2169 ls []) := by
  have hx := hC.1
  have hb := hC.2.1
  refine lv_aload_n hx hb dL_law_2169 rfl (lv_at hl 3 rfl) ?_
  by_cases h_1 : ¬ (m_X0_reset z).1 = 0
  · have hm := (if_pos h_1).symm.trans hm
    cases hm
  have hm := (if_neg h_1).symm.trans hm
  refine lw_c hC hGx hLD (c_X0_reset l hl9 k a hLD.1  z) (Decidable.of_not_not h_1) (gV w_78 w_79 w_80 w_26 w_81) kk_X0_reset rfl ⟨Nat.le_of_ble_eq_true rfl, Nat.le_of_ble_eq_true rfl⟩ ⟨Nat.le_trans (show cells + 2 ≤ 450000 by omega) rm_c, Nat.le_trans (show slots + 12 ≤ 4000000 by omega) rm_s⟩ hI hS hl.1 rfl rfl (Nat.le_of_ble_eq_true rfl) dL_law_2170 (fun H hI hS => ?_)
  refine lv_pop hx hb dL_law_2173 rfl ?_
  refine lv_aload_n hx hb dL_law_2174 rfl (lv_at hl 2 rfl) ?_
  obtain ⟨x_1, hx_1, hm⟩ := Option.bind_eq_some_iff.mp hm
  refine lw_m hC hGx hLD (k_X3_reset l k b Lb hLD.2.1  zm hx_1) (gV w_1366 w_1367 w_1368 w_27 w_1369) kk_X3_reset rfl ⟨Nat.le_of_ble_eq_true rfl, Nat.le_of_ble_eq_true rfl⟩ ⟨Nat.le_trans (show cells + 8 ≤ 450000 by omega) rm_c, Nat.le_trans (show slots + 30 ≤ 4000000 by omega) rm_s⟩ hI hS hl.1 rfl rfl (Nat.le_of_ble_eq_true rfl) dL_law_2175 (fun H hI hS => ?_)
  refine lv_pop hx hb dL_law_2178 rfl ?_
  refine lv_goto (tgt := 2249) hx hb dL_law_2179 (by decide) ?_
  obtain rfl := Option.some.inj hm
  exact W.widen (k := cells + 772) (n := slots + 6282) (by omega) (by omega) (kk H ls hI hS (lv_sub hl [0, 1, 2, 3, 4] rfl))
set_option maxRecDepth 100000 in
def o_lc_49 (q1 q2 q3 q4 : Int32) (z : CS) (v : Int64) (zm : MS) : Option (CS × Int64 × MS) := (if ¬ ((m_X0_house q1 z).1 = 0 ∨ (m_X0_house q1 z).1 = 2) then none else ((o_X3_house q1 zm).bind fun x_1 => some (z, (if (m_X0_house q1 z).1 = 0 then ((m_X0_house q1 z).2).toInt64 else v), x_1.2)))
set_option maxRecDepth 100000 in
set_option maxHeartbeats 4000000 in
theorem lc_49 {p : Program} {l : Launch} (hl9 : l.stackTraces = false) {e : Env} {s : State} {m : MethodId} {below : List Frame} {meth : Method} {c : Code} {bs L : Nat} {xs : Nat → Int32} {k : Kx} {a b : CA} {o : Nat} {Lb : List Nat} {Q : State → Prop} (hC : CallFix p m c cL_law 7 s #[.ref bs] (Cond.tt :: GL) RL) (hGx : Gx k s) (hLD : LD k a o b Lb s) (hX : va_X bs L xs s s.heap) (hbl : bs < s.heap.size) {i q1 q2 q3 q4 : Int32} (h1 : vp_in (i + (1 : Int32)) L ∧ xs (i + (1 : Int32)).toNatClampNeg = q1) (h2 : vp_in (i + (2 : Int32)) L ∧ xs (i + (2 : Int32)).toNatClampNeg = q2) (h3 : vp_in (i + (3 : Int32)) L ∧ xs (i + (3 : Int32)).toNatClampNeg = q3) (h4 : vp_in (i + (4 : Int32)) L ∧ xs (i + (4 : Int32)).toNatClampNeg = q4) {z : CS} {v : Int64} {zm : MS} {H : Heap} {ls : Array Slot} {cells slots : Nat} (hl : lv_has ls 7 [(4, .int i), (3, .ref o), (2, .ref b.1), (1, .ref a.1), (0, .ref bs)]) (hI : LI k a o b Lb z v zm H) (hS : va_S (nA s.heap.size) s.heap H []) (hc : cells + 772 ≤ 450000 ∧ slots + 6282 ≤ 4000000) {r : CS × Int64 × MS} (hm : o_lc_49 q1 q2 q3 q4 z v zm = some r) (kk : ∀ (H1 : Heap) (ls1 : Array Slot), LI k a o b Lb r.1 r.2.1 r.2.2 H1 → va_S (nA s.heap.size) s.heap H1 [] → lv_has ls1 7 [(4, .int i), (3, .ref o), (2, .ref b.1), (1, .ref a.1), (0, .ref bs)] → W p l e room_1 s m #[.ref bs] below meth c H1 [] (cells + 772) (slots + 6282) Q (F0 m 2249 ls1 [])) : W p l e room_1 s m #[.ref bs] below meth c H [] cells slots Q (F0 m 2182 ls []) := by
  have hx := hC.1
  have hb := hC.2.1
  refine lv_aload_n hx hb dL_law_2182 rfl (lv_at hl 3 rfl) ?_
  refine lv_aload_n hx hb dL_law_2183 rfl (lv_at hl 4 rfl) ?_
  refine lv_iload hx hb dL_law_2184 (lv_at hl 0 rfl) ?_
  refine lv_iconst (v := 1) hx hb dL_law_2186 (by decide) ?_
  refine lv_iadd hx hb dL_law_2187 ?_
  refine lw_sld hx hb hX hbl hS h1 dL_law_2188 ?_
  refine lv_aload_n hx hb dL_law_2189 rfl (lv_at hl 1 rfl) ?_
  by_cases h_1 : ¬ ((m_X0_house q1 z).1 = 0 ∨ (m_X0_house q1 z).1 = 2)
  · have hm := (if_pos h_1).symm.trans hm
    cases hm
  have hm := (if_neg h_1).symm.trans hm
  refine lw_w hC hGx hLD (k_L_house l hl9 k a hLD.1 o q1 z v (Decidable.of_not_not h_1)) (gSW w_981 w_982 w_25 w_983) kw_L_house ⟨Nat.le_of_ble_eq_true rfl, Nat.le_of_ble_eq_true rfl⟩ ⟨Nat.le_trans (show cells + 7 ≤ 450000 by omega) rm_c, Nat.le_trans (show slots + 42 ≤ 4000000 by omega) rm_s⟩ hI hS hl.1 rfl rfl (Nat.le_of_ble_eq_true rfl) dL_law_2190 (fun H hI hS => ?_)
  refine lv_istore (lv' := [(5, .int (wk 2 2 ((m_X0_house q1 z).1))), (4, .int i), (3, .ref o), (2, .ref b.1), (1, .ref a.1), (0, .ref bs)]) hx hb dL_law_2193 hl (by decide) rfl (fun ls hl => ?_)
  refine lv_aload_n hx hb dL_law_2195 rfl (lv_at hl 3 rfl) ?_
  refine lv_aload_n hx hb dL_law_2196 rfl (lv_at hl 5 rfl) ?_
  refine lv_iload hx hb dL_law_2197 (lv_at hl 1 rfl) ?_
  refine lv_iconst (v := 1) hx hb dL_law_2199 (by decide) ?_
  refine lv_iadd hx hb dL_law_2200 ?_
  refine lw_sld hx hb hX hbl hS h1 dL_law_2201 ?_
  obtain ⟨x_1, hx_1, hm⟩ := Option.bind_eq_some_iff.mp hm
  refine lw_m hC hGx hLD (k_X3_house l k b Lb hLD.2.1 q1 zm hx_1) (gV w_1370 w_1371 w_1372 w_27 w_1373) kk_X3_house rfl ⟨Nat.le_of_ble_eq_true rfl, Nat.le_of_ble_eq_true rfl⟩ ⟨Nat.le_trans (show cells + 7 ≤ 450000 by omega) rm_c, Nat.le_trans (show slots + 42 ≤ 4000000 by omega) rm_s⟩ hI hS hl.1 rfl rfl (Nat.le_of_ble_eq_true rfl) dL_law_2202 (fun H hI hS => ?_)
  refine lv_istore (lv' := [(6, .int x_1.1), (5, .int (wk 2 2 ((m_X0_house q1 z).1))), (4, .int i), (3, .ref o), (2, .ref b.1), (1, .ref a.1), (0, .ref bs)]) hx hb dL_law_2205 hl (by decide) rfl (fun ls hl => ?_)
  refine lv_goto (tgt := 2249) hx hb dL_law_2207 (by decide) ?_
  obtain rfl := Option.some.inj hm
  exact W.widen (k := cells + 772) (n := slots + 6282) (by omega) (by omega) (kk H ls hI hS (lv_sub hl [2, 3, 4, 5, 6] rfl))
set_option maxRecDepth 100000 in
def o_lc_50 (q1 q2 q3 q4 : Int32) (z : CS) (v : Int64) (zm : MS) : Option (CS × Int64 × MS) := (if ¬ (m_X0_knock z).1 = 0 then none else ((o_X3_knock  zm).bind fun x_1 => some ((m_X0_knock z).2.2, v, x_1.2)))
set_option maxRecDepth 100000 in
set_option maxHeartbeats 4000000 in
theorem lc_50 {p : Program} {l : Launch} (hl9 : l.stackTraces = false) {e : Env} {s : State} {m : MethodId} {below : List Frame} {meth : Method} {c : Code} {bs L : Nat} {xs : Nat → Int32} {k : Kx} {a b : CA} {o : Nat} {Lb : List Nat} {Q : State → Prop} (hC : CallFix p m c cL_law 7 s #[.ref bs] (Cond.tt :: GL) RL) (hGx : Gx k s) (hLD : LD k a o b Lb s) (hX : va_X bs L xs s s.heap) (hbl : bs < s.heap.size) {i q1 q2 q3 q4 : Int32} (h1 : vp_in (i + (1 : Int32)) L ∧ xs (i + (1 : Int32)).toNatClampNeg = q1) (h2 : vp_in (i + (2 : Int32)) L ∧ xs (i + (2 : Int32)).toNatClampNeg = q2) (h3 : vp_in (i + (3 : Int32)) L ∧ xs (i + (3 : Int32)).toNatClampNeg = q3) (h4 : vp_in (i + (4 : Int32)) L ∧ xs (i + (4 : Int32)).toNatClampNeg = q4) {z : CS} {v : Int64} {zm : MS} {H : Heap} {ls : Array Slot} {cells slots : Nat} (hl : lv_has ls 7 [(4, .int i), (3, .ref o), (2, .ref b.1), (1, .ref a.1), (0, .ref bs)]) (hI : LI k a o b Lb z v zm H) (hS : va_S (nA s.heap.size) s.heap H []) (hc : cells + 772 ≤ 450000 ∧ slots + 6282 ≤ 4000000) {r : CS × Int64 × MS} (hm : o_lc_50 q1 q2 q3 q4 z v zm = some r) (kk : ∀ (H1 : Heap) (ls1 : Array Slot), LI k a o b Lb r.1 r.2.1 r.2.2 H1 → va_S (nA s.heap.size) s.heap H1 [] → lv_has ls1 7 [(4, .int i), (3, .ref o), (2, .ref b.1), (1, .ref a.1), (0, .ref bs)] → W p l e room_1 s m #[.ref bs] below meth c H1 [] (cells + 772) (slots + 6282) Q (F0 m 2249 ls1 [])) : W p l e room_1 s m #[.ref bs] below meth c H [] cells slots Q (F0 m 2210 ls []) := by
  have hx := hC.1
  have hb := hC.2.1
  refine lv_aload_n hx hb dL_law_2210 rfl (lv_at hl 3 rfl) ?_
  by_cases h_1 : ¬ (m_X0_knock z).1 = 0
  · have hm := (if_pos h_1).symm.trans hm
    cases hm
  have hm := (if_neg h_1).symm.trans hm
  refine lw_c hC hGx hLD (c_X0_knock l hl9 k a hLD.1  z) (Decidable.of_not_not h_1) (gV w_145 w_146 w_147 w_26 w_148) kk_X0_knock rfl ⟨Nat.le_of_ble_eq_true rfl, Nat.le_of_ble_eq_true rfl⟩ ⟨Nat.le_trans (show cells + 0 ≤ 450000 by omega) rm_c, Nat.le_trans (show slots + 0 ≤ 4000000 by omega) rm_s⟩ hI hS hl.1 rfl rfl (Nat.le_of_ble_eq_true rfl) dL_law_2211 (fun H hI hS => ?_)
  refine lv_pop hx hb dL_law_2214 rfl ?_
  refine lv_aload_n hx hb dL_law_2215 rfl (lv_at hl 2 rfl) ?_
  obtain ⟨x_1, hx_1, hm⟩ := Option.bind_eq_some_iff.mp hm
  refine lw_m hC hGx hLD (k_X3_knock l k b Lb hLD.2.1  zm hx_1) (gV w_1377 w_1378 w_1379 w_27 w_1380) kk_X3_knock rfl ⟨Nat.le_of_ble_eq_true rfl, Nat.le_of_ble_eq_true rfl⟩ ⟨Nat.le_trans (show cells + 0 ≤ 450000 by omega) rm_c, Nat.le_trans (show slots + 0 ≤ 4000000 by omega) rm_s⟩ hI hS hl.1 rfl rfl (Nat.le_of_ble_eq_true rfl) dL_law_2216 (fun H hI hS => ?_)
  refine lv_pop hx hb dL_law_2219 rfl ?_
  refine lv_goto (tgt := 2249) hx hb dL_law_2220 (by decide) ?_
  obtain rfl := Option.some.inj hm
  exact W.widen (k := cells + 772) (n := slots + 6282) (by omega) (by omega) (kk H ls hI hS (lv_sub hl [0, 1, 2, 3, 4] rfl))
set_option maxRecDepth 100000 in
def o_lc_51 (q1 q2 q3 q4 : Int32) (z : CS) (v : Int64) (zm : MS) : Option (CS × Int64 × MS) := (if ¬ (m_X0_isSound z).1 = 0 then none else ((o_X3_isSound  zm).bind fun x_1 => some (z, v, x_1.2)))
set_option maxRecDepth 100000 in
set_option maxHeartbeats 4000000 in
theorem lc_51 {p : Program} {l : Launch} (hl9 : l.stackTraces = false) {e : Env} {s : State} {m : MethodId} {below : List Frame} {meth : Method} {c : Code} {bs L : Nat} {xs : Nat → Int32} {k : Kx} {a b : CA} {o : Nat} {Lb : List Nat} {Q : State → Prop} (hC : CallFix p m c cL_law 7 s #[.ref bs] (Cond.tt :: GL) RL) (hGx : Gx k s) (hLD : LD k a o b Lb s) (hX : va_X bs L xs s s.heap) (hbl : bs < s.heap.size) {i q1 q2 q3 q4 : Int32} (h1 : vp_in (i + (1 : Int32)) L ∧ xs (i + (1 : Int32)).toNatClampNeg = q1) (h2 : vp_in (i + (2 : Int32)) L ∧ xs (i + (2 : Int32)).toNatClampNeg = q2) (h3 : vp_in (i + (3 : Int32)) L ∧ xs (i + (3 : Int32)).toNatClampNeg = q3) (h4 : vp_in (i + (4 : Int32)) L ∧ xs (i + (4 : Int32)).toNatClampNeg = q4) {z : CS} {v : Int64} {zm : MS} {H : Heap} {ls : Array Slot} {cells slots : Nat} (hl : lv_has ls 7 [(4, .int i), (3, .ref o), (2, .ref b.1), (1, .ref a.1), (0, .ref bs)]) (hI : LI k a o b Lb z v zm H) (hS : va_S (nA s.heap.size) s.heap H []) (hc : cells + 772 ≤ 450000 ∧ slots + 6282 ≤ 4000000) {r : CS × Int64 × MS} (hm : o_lc_51 q1 q2 q3 q4 z v zm = some r) (kk : ∀ (H1 : Heap) (ls1 : Array Slot), LI k a o b Lb r.1 r.2.1 r.2.2 H1 → va_S (nA s.heap.size) s.heap H1 [] → lv_has ls1 7 [(4, .int i), (3, .ref o), (2, .ref b.1), (1, .ref a.1), (0, .ref bs)] → W p l e room_1 s m #[.ref bs] below meth c H1 [] (cells + 772) (slots + 6282) Q (F0 m 2249 ls1 [])) : W p l e room_1 s m #[.ref bs] below meth c H [] cells slots Q (F0 m 2223 ls []) := by
  have hx := hC.1
  have hb := hC.2.1
  refine lv_aload_n hx hb dL_law_2223 rfl (lv_at hl 3 rfl) ?_
  by_cases h_1 : ¬ (m_X0_isSound z).1 = 0
  · have hm := (if_pos h_1).symm.trans hm
    cases hm
  have hm := (if_neg h_1).symm.trans hm
  refine lw_c hC hGx hLD (c_X0_isSound l hl9 k a hLD.1  z) (Decidable.of_not_not h_1) (gV w_149 w_150 w_151 w_26 w_152) kk_X0_isSound rfl ⟨Nat.le_of_ble_eq_true rfl, Nat.le_of_ble_eq_true rfl⟩ ⟨Nat.le_trans (show cells + 78 ≤ 450000 by omega) rm_c, Nat.le_trans (show slots + 468 ≤ 4000000 by omega) rm_s⟩ hI hS hl.1 rfl rfl (Nat.le_of_ble_eq_true rfl) dL_law_2224 (fun H hI hS => ?_)
  refine lv_pop hx hb dL_law_2227 rfl ?_
  refine lv_aload_n hx hb dL_law_2228 rfl (lv_at hl 2 rfl) ?_
  obtain ⟨x_1, hx_1, hm⟩ := Option.bind_eq_some_iff.mp hm
  refine lw_m hC hGx hLD (k_X3_isSound l k b Lb hLD.2.1  zm hx_1) (gV w_1381 w_1382 w_1383 w_27 w_1384) kk_X3_isSound rfl ⟨Nat.le_of_ble_eq_true rfl, Nat.le_of_ble_eq_true rfl⟩ ⟨Nat.le_trans (show cells + 78 ≤ 450000 by omega) rm_c, Nat.le_trans (show slots + 468 ≤ 4000000 by omega) rm_s⟩ hI hS hl.1 rfl rfl (Nat.le_of_ble_eq_true rfl) dL_law_2229 (fun H hI hS => ?_)
  refine lv_pop hx hb dL_law_2232 rfl ?_
  refine lv_goto (tgt := 2249) hx hb dL_law_2233 (by decide) ?_
  obtain rfl := Option.some.inj hm
  exact W.widen (k := cells + 772) (n := slots + 6282) (by omega) (by omega) (kk H ls hI hS (lv_sub hl [0, 1, 2, 3, 4] rfl))
set_option maxRecDepth 100000 in
def o_lc_52 (q1 q2 q3 q4 : Int32) (z : CS) (v : Int64) (zm : MS) : Option (CS × Int64 × MS) := ((o_X0_digest  z).bind fun x_1 => (if ¬ x_1.1 = 0 then none else ((o_X3_digest  zm).bind fun x_2 => some (z, v, x_2.2))))
set_option maxRecDepth 100000 in
set_option maxHeartbeats 4000000 in
theorem lc_52 {p : Program} {l : Launch} (hl9 : l.stackTraces = false) {e : Env} {s : State} {m : MethodId} {below : List Frame} {meth : Method} {c : Code} {bs L : Nat} {xs : Nat → Int32} {k : Kx} {a b : CA} {o : Nat} {Lb : List Nat} {Q : State → Prop} (hC : CallFix p m c cL_law 7 s #[.ref bs] (Cond.tt :: GL) RL) (hGx : Gx k s) (hLD : LD k a o b Lb s) (hX : va_X bs L xs s s.heap) (hbl : bs < s.heap.size) {i q1 q2 q3 q4 : Int32} (h1 : vp_in (i + (1 : Int32)) L ∧ xs (i + (1 : Int32)).toNatClampNeg = q1) (h2 : vp_in (i + (2 : Int32)) L ∧ xs (i + (2 : Int32)).toNatClampNeg = q2) (h3 : vp_in (i + (3 : Int32)) L ∧ xs (i + (3 : Int32)).toNatClampNeg = q3) (h4 : vp_in (i + (4 : Int32)) L ∧ xs (i + (4 : Int32)).toNatClampNeg = q4) {z : CS} {v : Int64} {zm : MS} {H : Heap} {ls : Array Slot} {cells slots : Nat} (hl : lv_has ls 7 [(4, .int i), (3, .ref o), (2, .ref b.1), (1, .ref a.1), (0, .ref bs)]) (hI : LI k a o b Lb z v zm H) (hS : va_S (nA s.heap.size) s.heap H []) (hc : cells + 772 ≤ 450000 ∧ slots + 6282 ≤ 4000000) {r : CS × Int64 × MS} (hm : o_lc_52 q1 q2 q3 q4 z v zm = some r) (kk : ∀ (H1 : Heap) (ls1 : Array Slot), LI k a o b Lb r.1 r.2.1 r.2.2 H1 → va_S (nA s.heap.size) s.heap H1 [] → lv_has ls1 7 [(4, .int i), (3, .ref o), (2, .ref b.1), (1, .ref a.1), (0, .ref bs)] → W p l e room_1 s m #[.ref bs] below meth c H1 [] (cells + 772) (slots + 6282) Q (F0 m 2249 ls1 [])) : W p l e room_1 s m #[.ref bs] below meth c H [] cells slots Q (F0 m 2236 ls []) := by
  have hx := hC.1
  have hb := hC.2.1
  refine lv_aload_n hx hb dL_law_2236 rfl (lv_at hl 3 rfl) ?_
  obtain ⟨x_1, hx_1, hm⟩ := Option.bind_eq_some_iff.mp hm
  by_cases h_1 : ¬ x_1.1 = 0
  · have hm := (if_pos h_1).symm.trans hm
    cases hm
  have hm := (if_neg h_1).symm.trans hm
  refine lw_c hC hGx hLD (k_X0_digest l hl9 k a hLD.1  z hx_1) (Decidable.of_not_not h_1) (gV w_234 w_235 w_236 w_26 w_237) kk_X0_digest rfl ⟨Nat.le_of_ble_eq_true rfl, Nat.le_of_ble_eq_true rfl⟩ ⟨Nat.le_trans (show cells + 382 ≤ 450000 by omega) rm_c, Nat.le_trans (show slots + 2388 ≤ 4000000 by omega) rm_s⟩ hI hS hl.1 rfl rfl (Nat.le_of_ble_eq_true rfl) dL_law_2237 (fun H hI hS => ?_)
  refine lv_pop2_2 hx hb dL_law_2240 rfl ?_
  refine lv_aload_n hx hb dL_law_2241 rfl (lv_at hl 2 rfl) ?_
  obtain ⟨x_2, hx_2, hm⟩ := Option.bind_eq_some_iff.mp hm
  refine lw_m hC hGx hLD (k_X3_digest l k b Lb hLD.2.1  zm hx_2) (gV w_1385 w_1386 w_1387 w_27 w_1388) kk_X3_digest rfl ⟨Nat.le_of_ble_eq_true rfl, Nat.le_of_ble_eq_true rfl⟩ ⟨Nat.le_trans (show cells + 772 ≤ 450000 by omega) rm_c, Nat.le_trans (show slots + 6282 ≤ 4000000 by omega) rm_s⟩ hI hS hl.1 rfl rfl (Nat.le_of_ble_eq_true rfl) dL_law_2242 (fun H hI hS => ?_)
  refine lv_pop2_2 hx hb dL_law_2245 rfl ?_
  refine lv_goto (tgt := 2249) hx hb dL_law_2246 (by decide) ?_
  obtain rfl := Option.some.inj hm
  exact W.widen (k := cells + 772) (n := slots + 6282) (by omega) (by omega) (kk H ls hI hS (lv_sub hl [0, 1, 2, 3, 4] rfl))
