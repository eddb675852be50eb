theorem rm_c : 450000 ≤ room_1.cells := Nat.le_of_ble_eq_true rfl
theorem rm_s : 4000000 ≤ room_1.slots := Nat.le_of_ble_eq_true rfl
set_option maxRecDepth 100000 in
def o_lc_0 (q1 q2 q3 q4 : Int32) (z : CS) (v : Int64) (zm : MS) : Option (CS × Int64 × MS) := (if ¬ ((m_X0_of q1 q2 q3 q4 z).1 = 0 ∨ (m_X0_of q1 q2 q3 q4 z).1 = 1 ∨ (m_X0_of q1 q2 q3 q4 z).1 = 2 ∨ (m_X0_of q1 q2 q3 q4 z).1 = 3) then none else ((o_X3_of q1 q2 q3 q4 zm).bind fun x_1 => some ((m_X0_of q1 q2 q3 q4 z).2.2, (if (m_X0_of q1 q2 q3 q4 z).1 = 0 then ((m_X0_of q1 q2 q3 q4 z).2.1).toInt64 else v), x_1.2)))
set_option maxRecDepth 100000 in
set_option maxHeartbeats 4000000 in
theorem lc_0 {p : Program} {l : Launch} (hl9 : l.stackTraces = false) {e : Env} {s : State} {m : MethodId} {below : List Frame} {meth : Method} {c : Code} {bs L : Nat} {xs : Nat → Int32} {k : Kx} {a b : CA} {o : Nat} {Lb : List Nat} {Q : State → Prop} (hC : CallFix p m c cL_law 7 s #[.ref bs] (Cond.tt :: GL) RL) (hGx : Gx k s) (hLD : LD k a o b Lb s) (hX : va_X bs L xs s s.heap) (hbl : bs < s.heap.size) {i q1 q2 q3 q4 : Int32} (h1 : vp_in (i + (1 : Int32)) L ∧ xs (i + (1 : Int32)).toNatClampNeg = q1) (h2 : vp_in (i + (2 : Int32)) L ∧ xs (i + (2 : Int32)).toNatClampNeg = q2) (h3 : vp_in (i + (3 : Int32)) L ∧ xs (i + (3 : Int32)).toNatClampNeg = q3) (h4 : vp_in (i + (4 : Int32)) L ∧ xs (i + (4 : Int32)).toNatClampNeg = q4) {z : CS} {v : Int64} {zm : MS} {H : Heap} {ls : Array Slot} {cells slots : Nat} (hl : lv_has ls 7 [(4, .int i), (3, .ref o), (2, .ref b.1), (1, .ref a.1), (0, .ref bs)]) (hI : LI k a o b Lb z v zm H) (hS : va_S (nA s.heap.size) s.heap H []) (hc : cells + 772 ≤ 450000 ∧ slots + 6282 ≤ 4000000) {r : CS × Int64 × MS} (hm : o_lc_0 q1 q2 q3 q4 z v zm = some r) (kk : ∀ (H1 : Heap) (ls1 : Array Slot), LI k a o b Lb r.1 r.2.1 r.2.2 H1 → va_S (nA s.heap.size) s.heap H1 [] → lv_has ls1 7 [(4, .int i), (3, .ref o), (2, .ref b.1), (1, .ref a.1), (0, .ref bs)] → W p l e room_1 s m #[.ref bs] below meth c H1 [] (cells + 772) (slots + 6282) Q (F0 m 2249 ls1 [])) : W p l e room_1 s m #[.ref bs] below meth c H [] cells slots Q (F0 m 268 ls []) := by
  have hx := hC.1
  have hb := hC.2.1
  refine lv_aload_n hx hb dL_law_268 rfl (lv_at hl 3 rfl) ?_
  refine lv_aload_n hx hb dL_law_269 rfl (lv_at hl 4 rfl) ?_
  refine lv_iload hx hb dL_law_270 (lv_at hl 0 rfl) ?_
  refine lv_iconst (v := 1) hx hb dL_law_272 (by decide) ?_
  refine lv_iadd hx hb dL_law_273 ?_
  refine lw_sld hx hb hX hbl hS h1 dL_law_274 ?_
  refine lv_aload_n hx hb dL_law_275 rfl (lv_at hl 4 rfl) ?_
  refine lv_iload hx hb dL_law_276 (lv_at hl 0 rfl) ?_
  refine lv_iconst (v := 2) hx hb dL_law_278 (by decide) ?_
  refine lv_iadd hx hb dL_law_279 ?_
  refine lw_sld hx hb hX hbl hS h2 dL_law_280 ?_
  refine lv_aload_n hx hb dL_law_281 rfl (lv_at hl 4 rfl) ?_
  refine lv_iload hx hb dL_law_282 (lv_at hl 0 rfl) ?_
  refine lv_iconst (v := 3) hx hb dL_law_284 (by decide) ?_
  refine lv_iadd hx hb dL_law_285 ?_
  refine lw_sld hx hb hX hbl hS h3 dL_law_286 ?_
  refine lv_aload_n hx hb dL_law_287 rfl (lv_at hl 4 rfl) ?_
  refine lv_iload hx hb dL_law_288 (lv_at hl 0 rfl) ?_
  refine lv_iconst (v := 4) hx hb dL_law_290 (by decide) ?_
  refine lv_iadd hx hb dL_law_291 ?_
  refine lw_sld hx hb hX hbl hS h4 dL_law_292 ?_
  refine lv_aload_n hx hb dL_law_293 rfl (lv_at hl 1 rfl) ?_
  by_cases h_1 : ¬ ((m_X0_of q1 q2 q3 q4 z).1 = 0 ∨ (m_X0_of q1 q2 q3 q4 z).1 = 1 ∨ (m_X0_of q1 q2 q3 q4 z).1 = 2 ∨ (m_X0_of q1 q2 q3 q4 z).1 = 3)
  · have hm := (if_pos h_1).symm.trans hm
    cases hm
  have hm := (if_neg h_1).symm.trans hm
  refine lw_w hC hGx hLD (k_L_of l hl9 k a hLD.1 o q1 q2 q3 q4 z v (Decidable.of_not_not h_1)) (gSW w_619 w_620 w_25 w_621) kw_L_of ⟨Nat.le_of_ble_eq_true rfl, Nat.le_of_ble_eq_true rfl⟩ ⟨Nat.le_trans (show cells + 7 ≤ 450000 by omega) rm_c, Nat.le_trans (show slots + 42 ≤ 4000000 by omega) rm_s⟩ hI hS hl.1 rfl rfl (Nat.le_of_ble_eq_true rfl) dL_law_294 (fun H hI hS => ?_)
  refine lv_istore (lv' := [(5, .int (wk 1 2 ((m_X0_of q1 q2 q3 q4 z).1))), (4, .int i), (3, .ref o), (2, .ref b.1), (1, .ref a.1), (0, .ref bs)]) hx hb dL_law_297 hl (by decide) rfl (fun ls hl => ?_)
  refine lv_aload_n hx hb dL_law_299 rfl (lv_at hl 3 rfl) ?_
  refine lv_aload_n hx hb dL_law_300 rfl (lv_at hl 5 rfl) ?_
  refine lv_iload hx hb dL_law_301 (lv_at hl 1 rfl) ?_
  refine lv_iconst (v := 1) hx hb dL_law_303 (by decide) ?_
  refine lv_iadd hx hb dL_law_304 ?_
  refine lw_sld hx hb hX hbl hS h1 dL_law_305 ?_
  refine lv_aload_n hx hb dL_law_306 rfl (lv_at hl 5 rfl) ?_
  refine lv_iload hx hb dL_law_307 (lv_at hl 1 rfl) ?_
  refine lv_iconst (v := 2) hx hb dL_law_309 (by decide) ?_
  refine lv_iadd hx hb dL_law_310 ?_
  refine lw_sld hx hb hX hbl hS h2 dL_law_311 ?_
  refine lv_aload_n hx hb dL_law_312 rfl (lv_at hl 5 rfl) ?_
  refine lv_iload hx hb dL_law_313 (lv_at hl 1 rfl) ?_
  refine lv_iconst (v := 3) hx hb dL_law_315 (by decide) ?_
  refine lv_iadd hx hb dL_law_316 ?_
  refine lw_sld hx hb hX hbl hS h3 dL_law_317 ?_
  refine lv_aload_n hx hb dL_law_318 rfl (lv_at hl 5 rfl) ?_
  refine lv_iload hx hb dL_law_319 (lv_at hl 1 rfl) ?_
  refine lv_iconst (v := 4) hx hb dL_law_321 (by decide) ?_
  refine lv_iadd hx hb dL_law_322 ?_
  refine lw_sld hx hb hX hbl hS h4 dL_law_323 ?_
  obtain ⟨x_1, hx_1, hm⟩ := Option.bind_eq_some_iff.mp hm
  refine lw_m hC hGx hLD (k_X3_of l k b Lb hLD.2.1 q1 q2 q3 q4 zm hx_1) (gV w_1031 w_1032 w_1033 w_27 w_1034) kk_X3_of rfl ⟨Nat.le_of_ble_eq_true rfl, Nat.le_of_ble_eq_true rfl⟩ ⟨Nat.le_trans (show cells + 8 ≤ 450000 by omega) rm_c, Nat.le_trans (show slots + 45 ≤ 4000000 by omega) rm_s⟩ hI hS hl.1 rfl rfl (Nat.le_of_ble_eq_true rfl) dL_law_324 (fun H hI hS => ?_)
  refine lv_istore (lv' := [(6, .int x_1.1), (5, .int (wk 1 2 ((m_X0_of q1 q2 q3 q4 z).1))), (4, .int i), (3, .ref o), (2, .ref b.1), (1, .ref a.1), (0, .ref bs)]) hx hb dL_law_327 hl (by decide) rfl (fun ls hl => ?_)
  refine lv_goto (tgt := 2249) hx hb dL_law_329 (by decide) ?_
  obtain rfl := Option.some.inj hm
  exact W.widen (k := cells + 772) (n := slots + 6282) (by omega) (by omega) (kk H ls hI hS (lv_sub hl [2, 3, 4, 5, 6] rfl))
set_option maxRecDepth 100000 in
def o_lc_1 (q1 q2 q3 q4 : Int32) (z : CS) (v : Int64) (zm : MS) : Option (CS × Int64 × MS) := (if ¬ ((m_X0_ofDay q1 q2 z).1 = 0 ∨ (m_X0_ofDay q1 q2 z).1 = 1 ∨ (m_X0_ofDay q1 q2 z).1 = 2) then none else ((o_X3_ofDay q1 q2 zm).bind fun x_1 => some ((m_X0_ofDay q1 q2 z).2.2, (if (m_X0_ofDay q1 q2 z).1 = 0 then ((m_X0_ofDay q1 q2 z).2.1).toInt64 else v), x_1.2)))
set_option maxRecDepth 100000 in
set_option maxHeartbeats 4000000 in
theorem lc_1 {p : Program} {l : Launch} (hl9 : l.stackTraces = false) {e : Env} {s : State} {m : MethodId} {below : List Frame} {meth : Method} {c : Code} {bs L : Nat} {xs : Nat → Int32} {k : Kx} {a b : CA} {o : Nat} {Lb : List Nat} {Q : State → Prop} (hC : CallFix p m c cL_law 7 s #[.ref bs] (Cond.tt :: GL) RL) (hGx : Gx k s) (hLD : LD k a o b Lb s) (hX : va_X bs L xs s s.heap) (hbl : bs < s.heap.size) {i q1 q2 q3 q4 : Int32} (h1 : vp_in (i + (1 : Int32)) L ∧ xs (i + (1 : Int32)).toNatClampNeg = q1) (h2 : vp_in (i + (2 : Int32)) L ∧ xs (i + (2 : Int32)).toNatClampNeg = q2) (h3 : vp_in (i + (3 : Int32)) L ∧ xs (i + (3 : Int32)).toNatClampNeg = q3) (h4 : vp_in (i + (4 : Int32)) L ∧ xs (i + (4 : Int32)).toNatClampNeg = q4) {z : CS} {v : Int64} {zm : MS} {H : Heap} {ls : Array Slot} {cells slots : Nat} (hl : lv_has ls 7 [(4, .int i), (3, .ref o), (2, .ref b.1), (1, .ref a.1), (0, .ref bs)]) (hI : LI k a o b Lb z v zm H) (hS : va_S (nA s.heap.size) s.heap H []) (hc : cells + 772 ≤ 450000 ∧ slots + 6282 ≤ 4000000) {r : CS × Int64 × MS} (hm : o_lc_1 q1 q2 q3 q4 z v zm = some r) (kk : ∀ (H1 : Heap) (ls1 : Array Slot), LI k a o b Lb r.1 r.2.1 r.2.2 H1 → va_S (nA s.heap.size) s.heap H1 [] → lv_has ls1 7 [(4, .int i), (3, .ref o), (2, .ref b.1), (1, .ref a.1), (0, .ref bs)] → W p l e room_1 s m #[.ref bs] below meth c H1 [] (cells + 772) (slots + 6282) Q (F0 m 2249 ls1 [])) : W p l e room_1 s m #[.ref bs] below meth c H [] cells slots Q (F0 m 332 ls []) := by
  have hx := hC.1
  have hb := hC.2.1
  refine lv_aload_n hx hb dL_law_332 rfl (lv_at hl 3 rfl) ?_
  refine lv_aload_n hx hb dL_law_333 rfl (lv_at hl 4 rfl) ?_
  refine lv_iload hx hb dL_law_334 (lv_at hl 0 rfl) ?_
  refine lv_iconst (v := 1) hx hb dL_law_336 (by decide) ?_
  refine lv_iadd hx hb dL_law_337 ?_
  refine lw_sld hx hb hX hbl hS h1 dL_law_338 ?_
  refine lv_aload_n hx hb dL_law_339 rfl (lv_at hl 4 rfl) ?_
  refine lv_iload hx hb dL_law_340 (lv_at hl 0 rfl) ?_
  refine lv_iconst (v := 2) hx hb dL_law_342 (by decide) ?_
  refine lv_iadd hx hb dL_law_343 ?_
  refine lw_sld hx hb hX hbl hS h2 dL_law_344 ?_
  refine lv_aload_n hx hb dL_law_345 rfl (lv_at hl 1 rfl) ?_
  by_cases h_1 : ¬ ((m_X0_ofDay q1 q2 z).1 = 0 ∨ (m_X0_ofDay q1 q2 z).1 = 1 ∨ (m_X0_ofDay q1 q2 z).1 = 2)
  · have hm := (if_pos h_1).symm.trans hm
    cases hm
  have hm := (if_neg h_1).symm.trans hm
  refine lw_w hC hGx hLD (k_L_ofDay l hl9 k a hLD.1 o q1 q2 z v (Decidable.of_not_not h_1)) (gSW w_660 w_661 w_25 w_662) kw_L_ofDay ⟨Nat.le_of_ble_eq_true rfl, Nat.le_of_ble_eq_true rfl⟩ ⟨Nat.le_trans (show cells + 4 ≤ 450000 by omega) rm_c, Nat.le_trans (show slots + 24 ≤ 4000000 by omega) rm_s⟩ hI hS hl.1 rfl rfl (Nat.le_of_ble_eq_true rfl) dL_law_346 (fun H hI hS => ?_)
  refine lv_istore (lv' := [(5, .int (wk 1 2 ((m_X0_ofDay q1 q2 z).1))), (4, .int i), (3, .ref o), (2, .ref b.1), (1, .ref a.1), (0, .ref bs)]) hx hb dL_law_349 hl (by decide) rfl (fun ls hl => ?_)
  refine lv_aload_n hx hb dL_law_351 rfl (lv_at hl 3 rfl) ?_
  refine lv_aload_n hx hb dL_law_352 rfl (lv_at hl 5 rfl) ?_
  refine lv_iload hx hb dL_law_353 (lv_at hl 1 rfl) ?_
  refine lv_iconst (v := 1) hx hb dL_law_355 (by decide) ?_
  refine lv_iadd hx hb dL_law_356 ?_
  refine lw_sld hx hb hX hbl hS h1 dL_law_357 ?_
  refine lv_aload_n hx hb dL_law_358 rfl (lv_at hl 5 rfl) ?_
  refine lv_iload hx hb dL_law_359 (lv_at hl 1 rfl) ?_
  refine lv_iconst (v := 2) hx hb dL_law_361 (by decide) ?_
  refine lv_iadd hx hb dL_law_362 ?_
  refine lw_sld hx hb hX hbl hS h2 dL_law_363 ?_
  obtain ⟨x_1, hx_1, hm⟩ := Option.bind_eq_some_iff.mp hm
  refine lw_m hC hGx hLD (k_X3_ofDay l k b Lb hLD.2.1 q1 q2 zm hx_1) (gV w_1077 w_1078 w_1079 w_27 w_1080) kk_X3_ofDay rfl ⟨Nat.le_of_ble_eq_true rfl, Nat.le_of_ble_eq_true rfl⟩ ⟨Nat.le_trans (show cells + 5 ≤ 450000 by omega) rm_c, Nat.le_trans (show slots + 27 ≤ 4000000 by omega) rm_s⟩ hI hS hl.1 rfl rfl (Nat.le_of_ble_eq_true rfl) dL_law_364 (fun H hI hS => ?_)
  refine lv_istore (lv' := [(6, .int x_1.1), (5, .int (wk 1 2 ((m_X0_ofDay q1 q2 z).1))), (4, .int i), (3, .ref o), (2, .ref b.1), (1, .ref a.1), (0, .ref bs)]) hx hb dL_law_367 hl (by decide) rfl (fun ls hl => ?_)
  refine lv_goto (tgt := 2249) hx hb dL_law_369 (by decide) ?_
  obtain rfl := Option.some.inj hm
  exact W.widen (k := cells + 772) (n := slots + 6282) (by omega) (by omega) (kk H ls hI hS (lv_sub hl [2, 3, 4, 5, 6] rfl))
set_option maxRecDepth 100000 in
def o_lc_2 (q1 q2 q3 q4 : Int32) (z : CS) (v : Int64) (zm : MS) : Option (CS × Int64 × MS) := (if ¬ ((m_X0_ofYearDay q1 q2 q3 z).1 = 0 ∨ (m_X0_ofYearDay q1 q2 q3 z).1 = 1 ∨ (m_X0_ofYearDay q1 q2 q3 z).1 = 2 ∨ (m_X0_ofYearDay q1 q2 q3 z).1 = 3) then none else ((o_X3_ofYearDay q1 q2 q3 zm).bind fun x_1 => some ((m_X0_ofYearDay q1 q2 q3 z).2.2, (if (m_X0_ofYearDay q1 q2 q3 z).1 = 0 then ((m_X0_ofYearDay q1 q2 q3 z).2.1).toInt64 else v), x_1.2)))
set_option maxRecDepth 100000 in
set_option maxHeartbeats 4000000 in
theorem lc_2 {p : Program} {l : Launch} (hl9 : l.stackTraces = false) {e : Env} {s : State} {m : MethodId} {below : List Frame} {meth : Method} {c : Code} {bs L : Nat} {xs : Nat → Int32} {k : Kx} {a b : CA} {o : Nat} {Lb : List Nat} {Q : State → Prop} (hC : CallFix p m c cL_law 7 s #[.ref bs] (Cond.tt :: GL) RL) (hGx : Gx k s) (hLD : LD k a o b Lb s) (hX : va_X bs L xs s s.heap) (hbl : bs < s.heap.size) {i q1 q2 q3 q4 : Int32} (h1 : vp_in (i + (1 : Int32)) L ∧ xs (i + (1 : Int32)).toNatClampNeg = q1) (h2 : vp_in (i + (2 : Int32)) L ∧ xs (i + (2 : Int32)).toNatClampNeg = q2) (h3 : vp_in (i + (3 : Int32)) L ∧ xs (i + (3 : Int32)).toNatClampNeg = q3) (h4 : vp_in (i + (4 : Int32)) L ∧ xs (i + (4 : Int32)).toNatClampNeg = q4) {z : CS} {v : Int64} {zm : MS} {H : Heap} {ls : Array Slot} {cells slots : Nat} (hl : lv_has ls 7 [(4, .int i), (3, .ref o), (2, .ref b.1), (1, .ref a.1), (0, .ref bs)]) (hI : LI k a o b Lb z v zm H) (hS : va_S (nA s.heap.size) s.heap H []) (hc : cells + 772 ≤ 450000 ∧ slots + 6282 ≤ 4000000) {r : CS × Int64 × MS} (hm : o_lc_2 q1 q2 q3 q4 z v zm = some r) (kk : ∀ (H1 : Heap) (ls1 : Array Slot), LI k a o b Lb r.1 r.2.1 r.2.2 H1 → va_S (nA s.heap.size) s.heap H1 [] → lv_has ls1 7 [(4, .int i), (3, .ref o), (2, .ref b.1), (1, .ref a.1), (0, .ref bs)] → W p l e room_1 s m #[.ref bs] below meth c H1 [] (cells + 772) (slots + 6282) Q (F0 m 2249 ls1 [])) : W p l e room_1 s m #[.ref bs] below meth c H [] cells slots Q (F0 m 372 ls []) := by
  have hx := hC.1
  have hb := hC.2.1
  refine lv_aload_n hx hb dL_law_372 rfl (lv_at hl 3 rfl) ?_
  refine lv_aload_n hx hb dL_law_373 rfl (lv_at hl 4 rfl) ?_
  refine lv_iload hx hb dL_law_374 (lv_at hl 0 rfl) ?_
  refine lv_iconst (v := 1) hx hb dL_law_376 (by decide) ?_
  refine lv_iadd hx hb dL_law_377 ?_
  refine lw_sld hx hb hX hbl hS h1 dL_law_378 ?_
  refine lv_aload_n hx hb dL_law_379 rfl (lv_at hl 4 rfl) ?_
  refine lv_iload hx hb dL_law_380 (lv_at hl 0 rfl) ?_
  refine lv_iconst (v := 2) hx hb dL_law_382 (by decide) ?_
  refine lv_iadd hx hb dL_law_383 ?_
  refine lw_sld hx hb hX hbl hS h2 dL_law_384 ?_
  refine lv_aload_n hx hb dL_law_385 rfl (lv_at hl 4 rfl) ?_
  refine lv_iload hx hb dL_law_386 (lv_at hl 0 rfl) ?_
  refine lv_iconst (v := 3) hx hb dL_law_388 (by decide) ?_
  refine lv_iadd hx hb dL_law_389 ?_
  refine lw_sld hx hb hX hbl hS h3 dL_law_390 ?_
  refine lv_aload_n hx hb dL_law_391 rfl (lv_at hl 1 rfl) ?_
  by_cases h_1 : ¬ ((m_X0_ofYearDay q1 q2 q3 z).1 = 0 ∨ (m_X0_ofYearDay q1 q2 q3 z).1 = 1 ∨ (m_X0_ofYearDay q1 q2 q3 z).1 = 2 ∨ (m_X0_ofYearDay q1 q2 q3 z).1 = 3)
  · have hm := (if_pos h_1).symm.trans hm
    cases hm
  have hm := (if_neg h_1).symm.trans hm
  refine lw_w hC hGx hLD (k_L_ofYearDay l hl9 k a hLD.1 o q1 q2 q3 z v (Decidable.of_not_not h_1)) (gSW w_669 w_670 w_25 w_671) kw_L_ofYearDay ⟨Nat.le_of_ble_eq_true rfl, Nat.le_of_ble_eq_true rfl⟩ ⟨Nat.le_trans (show cells + 5 ≤ 450000 by omega) rm_c, Nat.le_trans (show slots + 30 ≤ 4000000 by omega) rm_s⟩ hI hS hl.1 rfl rfl (Nat.le_of_ble_eq_true rfl) dL_law_392 (fun H hI hS => ?_)
  refine lv_istore (lv' := [(5, .int (wk 1 2 ((m_X0_ofYearDay q1 q2 q3 z).1))), (4, .int i), (3, .ref o), (2, .ref b.1), (1, .ref a.1), (0, .ref bs)]) hx hb dL_law_395 hl (by decide) rfl (fun ls hl => ?_)
  refine lv_aload_n hx hb dL_law_397 rfl (lv_at hl 3 rfl) ?_
  refine lv_aload_n hx hb dL_law_398 rfl (lv_at hl 5 rfl) ?_
  refine lv_iload hx hb dL_law_399 (lv_at hl 1 rfl) ?_
  refine lv_iconst (v := 1) hx hb dL_law_401 (by decide) ?_
  refine lv_iadd hx hb dL_law_402 ?_
  refine lw_sld hx hb hX hbl hS h1 dL_law_403 ?_
  refine lv_aload_n hx hb dL_law_404 rfl (lv_at hl 5 rfl) ?_
  refine lv_iload hx hb dL_law_405 (lv_at hl 1 rfl) ?_
  refine lv_iconst (v := 2) hx hb dL_law_407 (by decide) ?_
  refine lv_iadd hx hb dL_law_408 ?_
  refine lw_sld hx hb hX hbl hS h2 dL_law_409 ?_
  refine lv_aload_n hx hb dL_law_410 rfl (lv_at hl 5 rfl) ?_
  refine lv_iload hx hb dL_law_411 (lv_at hl 1 rfl) ?_
  refine lv_iconst (v := 3) hx hb dL_law_413 (by decide) ?_
  refine lv_iadd hx hb dL_law_414 ?_
  refine lw_sld hx hb hX hbl hS h3 dL_law_415 ?_
  obtain ⟨x_1, hx_1, hm⟩ := Option.bind_eq_some_iff.mp hm
  refine lw_m hC hGx hLD (k_X3_ofYearDay l k b Lb hLD.2.1 q1 q2 q3 zm hx_1) (gV w_1096 w_1097 w_1098 w_27 w_1099) kk_X3_ofYearDay rfl ⟨Nat.le_of_ble_eq_true rfl, Nat.le_of_ble_eq_true rfl⟩ ⟨Nat.le_trans (show cells + 6 ≤ 450000 by omega) rm_c, Nat.le_trans (show slots + 33 ≤ 4000000 by omega) rm_s⟩ hI hS hl.1 rfl rfl (Nat.le_of_ble_eq_true rfl) dL_law_416 (fun H hI hS => ?_)
  refine lv_istore (lv' := [(6, .int x_1.1), (5, .int (wk 1 2 ((m_X0_ofYearDay q1 q2 q3 z).1))), (4, .int i), (3, .ref o), (2, .ref b.1), (1, .ref a.1), (0, .ref bs)]) hx hb dL_law_419 hl (by decide) rfl (fun ls hl => ?_)
  refine lv_goto (tgt := 2249) hx hb dL_law_421 (by decide) ?_
  obtain rfl := Option.some.inj hm
  exact W.widen (k := cells + 772) (n := slots + 6282) (by omega) (by omega) (kk H ls hI hS (lv_sub hl [2, 3, 4, 5, 6] rfl))
set_option maxRecDepth 100000 in
def o_lc_3 (q1 q2 q3 q4 : Int32) (z : CS) (v : Int64) (zm : MS) : Option (CS × Int64 × MS) := (if ¬ ((m_X0_copy q1 q2 z).1 = 0 ∨ (m_X0_copy q1 q2 z).1 = 1) then none else ((o_X3_copy q1 q2 zm).bind fun x_1 => some ((m_X0_copy q1 q2 z).2.2, (if (m_X0_copy q1 q2 z).1 = 0 then ((m_X0_copy q1 q2 z).2.1).toInt64 else v), x_1.2)))
set_option maxRecDepth 100000 in
set_option maxHeartbeats 4000000 in
theorem lc_3 {p : Program} {l : Launch} (hl9 : l.stackTraces = false) {e : Env} {s : State} {m : MethodId} {below : List Frame} {meth : Method} {c : Code} {bs L : Nat} {xs : Nat → Int32} {k : Kx} {a b : CA} {o : Nat} {Lb : List Nat} {Q : State → Prop} (hC : CallFix p m c cL_law 7 s #[.ref bs] (Cond.tt :: GL) RL) (hGx : Gx k s) (hLD : LD k a o b Lb s) (hX : va_X bs L xs s s.heap) (hbl : bs < s.heap.size) {i q1 q2 q3 q4 : Int32} (h1 : vp_in (i + (1 : Int32)) L ∧ xs (i + (1 : Int32)).toNatClampNeg = q1) (h2 : vp_in (i + (2 : Int32)) L ∧ xs (i + (2 : Int32)).toNatClampNeg = q2) (h3 : vp_in (i + (3 : Int32)) L ∧ xs (i + (3 : Int32)).toNatClampNeg = q3) (h4 : vp_in (i + (4 : Int32)) L ∧ xs (i + (4 : Int32)).toNatClampNeg = q4) {z : CS} {v : Int64} {zm : MS} {H : Heap} {ls : Array Slot} {cells slots : Nat} (hl : lv_has ls 7 [(4, .int i), (3, .ref o), (2, .ref b.1), (1, .ref a.1), (0, .ref bs)]) (hI : LI k a o b Lb z v zm H) (hS : va_S (nA s.heap.size) s.heap H []) (hc : cells + 772 ≤ 450000 ∧ slots + 6282 ≤ 4000000) {r : CS × Int64 × MS} (hm : o_lc_3 q1 q2 q3 q4 z v zm = some r) (kk : ∀ (H1 : Heap) (ls1 : Array Slot), LI k a o b Lb r.1 r.2.1 r.2.2 H1 → va_S (nA s.heap.size) s.heap H1 [] → lv_has ls1 7 [(4, .int i), (3, .ref o), (2, .ref b.1), (1, .ref a.1), (0, .ref bs)] → W p l e room_1 s m #[.ref bs] below meth c H1 [] (cells + 772) (slots + 6282) Q (F0 m 2249 ls1 [])) : W p l e room_1 s m #[.ref bs] below meth c H [] cells slots Q (F0 m 424 ls []) := by
  have hx := hC.1
  have hb := hC.2.1
  refine lv_aload_n hx hb dL_law_424 rfl (lv_at hl 3 rfl) ?_
  refine lv_aload_n hx hb dL_law_425 rfl (lv_at hl 4 rfl) ?_
  refine lv_iload hx hb dL_law_426 (lv_at hl 0 rfl) ?_
  refine lv_iconst (v := 1) hx hb dL_law_428 (by decide) ?_
  refine lv_iadd hx hb dL_law_429 ?_
  refine lw_sld hx hb hX hbl hS h1 dL_law_430 ?_
  refine lv_aload_n hx hb dL_law_431 rfl (lv_at hl 4 rfl) ?_
  refine lv_iload hx hb dL_law_432 (lv_at hl 0 rfl) ?_
  refine lv_iconst (v := 2) hx hb dL_law_434 (by decide) ?_
  refine lv_iadd hx hb dL_law_435 ?_
  refine lw_sld hx hb hX hbl hS h2 dL_law_436 ?_
  refine lv_aload_n hx hb dL_law_437 rfl (lv_at hl 1 rfl) ?_
  by_cases h_1 : ¬ ((m_X0_copy q1 q2 z).1 = 0 ∨ (m_X0_copy q1 q2 z).1 = 1)
  · have hm := (if_pos h_1).symm.trans hm
    cases hm
  have hm := (if_neg h_1).symm.trans hm
  refine lw_w hC hGx hLD (k_L_copy l hl9 k a hLD.1 o q1 q2 z v (Decidable.of_not_not h_1)) (gSW w_679 w_680 w_25 w_681) kw_L_copy ⟨Nat.le_of_ble_eq_true rfl, Nat.le_of_ble_eq_true rfl⟩ ⟨Nat.le_trans (show cells + 4 ≤ 450000 by omega) rm_c, Nat.le_trans (show slots + 24 ≤ 4000000 by omega) rm_s⟩ hI hS hl.1 rfl rfl (Nat.le_of_ble_eq_true rfl) dL_law_438 (fun H hI hS => ?_)
  refine lv_istore (lv' := [(5, .int (wk 1 1 ((m_X0_copy q1 q2 z).1))), (4, .int i), (3, .ref o), (2, .ref b.1), (1, .ref a.1), (0, .ref bs)]) hx hb dL_law_441 hl (by decide) rfl (fun ls hl => ?_)
  refine lv_aload_n hx hb dL_law_443 rfl (lv_at hl 3 rfl) ?_
  refine lv_aload_n hx hb dL_law_444 rfl (lv_at hl 5 rfl) ?_
  refine lv_iload hx hb dL_law_445 (lv_at hl 1 rfl) ?_
  refine lv_iconst (v := 1) hx hb dL_law_447 (by decide) ?_
  refine lv_iadd hx hb dL_law_448 ?_
  refine lw_sld hx hb hX hbl hS h1 dL_law_449 ?_
  refine lv_aload_n hx hb dL_law_450 rfl (lv_at hl 5 rfl) ?_
  refine lv_iload hx hb dL_law_451 (lv_at hl 1 rfl) ?_
  refine lv_iconst (v := 2) hx hb dL_law_453 (by decide) ?_
  refine lv_iadd hx hb dL_law_454 ?_
  refine lw_sld hx hb hX hbl hS h2 dL_law_455 ?_
  obtain ⟨x_1, hx_1, hm⟩ := Option.bind_eq_some_iff.mp hm
  refine lw_m hC hGx hLD (k_X3_copy l k b Lb hLD.2.1 q1 q2 zm hx_1) (gV w_1101 w_1102 w_1103 w_27 w_1104) kk_X3_copy rfl ⟨Nat.le_of_ble_eq_true rfl, Nat.le_of_ble_eq_true rfl⟩ ⟨Nat.le_trans (show cells + 4 ≤ 450000 by omega) rm_c, Nat.le_trans (show slots + 24 ≤ 4000000 by omega) rm_s⟩ hI hS hl.1 rfl rfl (Nat.le_of_ble_eq_true rfl) dL_law_456 (fun H hI hS => ?_)
  refine lv_istore (lv' := [(6, .int x_1.1), (5, .int (wk 1 1 ((m_X0_copy q1 q2 z).1))), (4, .int i), (3, .ref o), (2, .ref b.1), (1, .ref a.1), (0, .ref bs)]) hx hb dL_law_459 hl (by decide) rfl (fun ls hl => ?_)
  refine lv_goto (tgt := 2249) hx hb dL_law_461 (by decide) ?_
  obtain rfl := Option.some.inj hm
  exact W.widen (k := cells + 772) (n := slots + 6282) (by omega) (by omega) (kk H ls hI hS (lv_sub hl [2, 3, 4, 5, 6] rfl))
set_option maxRecDepth 100000 in
def o_lc_4 (q1 q2 q3 q4 : Int32) (z : CS) (v : Int64) (zm : MS) : Option (CS × Int64 × MS) := (if ¬ ((m_X0_epoch q1 z).1 = 0 ∨ (m_X0_epoch q1 z).1 = 1) then none else ((o_X3_epoch q1 zm).bind fun x_1 => some ((m_X0_epoch q1 z).2.2, (if (m_X0_epoch q1 z).1 = 0 then ((m_X0_epoch q1 z).2.1).toInt64 else v), x_1.2)))
set_option maxRecDepth 100000 in
set_option maxHeartbeats 4000000 in
theorem lc_4 {p : Program} {l : Launch} (hl9 : l.stackTraces = false) {e : Env} {s : State} {m : MethodId} {below : List Frame} {meth : Method} {c : Code} {bs L : Nat} {xs : Nat → Int32} {k : Kx} {a b : CA} {o : Nat} {Lb : List Nat} {Q : State → Prop} (hC : CallFix p m c cL_law 7 s #[.ref bs] (Cond.tt :: GL) RL) (hGx : Gx k s) (hLD : LD k a o b Lb s) (hX : va_X bs L xs s s.heap) (hbl : bs < s.heap.size) {i q1 q2 q3 q4 : Int32} (h1 : vp_in (i + (1 : Int32)) L ∧ xs (i + (1 : Int32)).toNatClampNeg = q1) (h2 : vp_in (i + (2 : Int32)) L ∧ xs (i + (2 : Int32)).toNatClampNeg = q2) (h3 : vp_in (i + (3 : Int32)) L ∧ xs (i + (3 : Int32)).toNatClampNeg = q3) (h4 : vp_in (i + (4 : Int32)) L ∧ xs (i + (4 : Int32)).toNatClampNeg = q4) {z : CS} {v : Int64} {zm : MS} {H : Heap} {ls : Array Slot} {cells slots : Nat} (hl : lv_has ls 7 [(4, .int i), (3, .ref o), (2, .ref b.1), (1, .ref a.1), (0, .ref bs)]) (hI : LI k a o b Lb z v zm H) (hS : va_S (nA s.heap.size) s.heap H []) (hc : cells + 772 ≤ 450000 ∧ slots + 6282 ≤ 4000000) {r : CS × Int64 × MS} (hm : o_lc_4 q1 q2 q3 q4 z v zm = some r) (kk : ∀ (H1 : Heap) (ls1 : Array Slot), LI k a o b Lb r.1 r.2.1 r.2.2 H1 → va_S (nA s.heap.size) s.heap H1 [] → lv_has ls1 7 [(4, .int i), (3, .ref o), (2, .ref b.1), (1, .ref a.1), (0, .ref bs)] → W p l e room_1 s m #[.ref bs] below meth c H1 [] (cells + 772) (slots + 6282) Q (F0 m 2249 ls1 [])) : W p l e room_1 s m #[.ref bs] below meth c H [] cells slots Q (F0 m 464 ls []) := by
  have hx := hC.1
  have hb := hC.2.1
  refine lv_aload_n hx hb dL_law_464 rfl (lv_at hl 3 rfl) ?_
  refine lv_aload_n hx hb dL_law_465 rfl (lv_at hl 4 rfl) ?_
  refine lv_iload hx hb dL_law_466 (lv_at hl 0 rfl) ?_
  refine lv_iconst (v := 1) hx hb dL_law_468 (by decide) ?_
  refine lv_iadd hx hb dL_law_469 ?_
  refine lw_sld hx hb hX hbl hS h1 dL_law_470 ?_
  refine lv_aload_n hx hb dL_law_471 rfl (lv_at hl 1 rfl) ?_
  by_cases h_1 : ¬ ((m_X0_epoch q1 z).1 = 0 ∨ (m_X0_epoch q1 z).1 = 1)
  · have hm := (if_pos h_1).symm.trans hm
    cases hm
  have hm := (if_neg h_1).symm.trans hm
  refine lw_w hC hGx hLD (k_L_epoch l hl9 k a hLD.1 o q1 z v (Decidable.of_not_not h_1)) (gSW w_686 w_687 w_25 w_688) kw_L_epoch ⟨Nat.le_of_ble_eq_true rfl, Nat.le_of_ble_eq_true rfl⟩ ⟨Nat.le_trans (show cells + 3 ≤ 450000 by omega) rm_c, Nat.le_trans (show slots + 18 ≤ 4000000 by omega) rm_s⟩ hI hS hl.1 rfl rfl (Nat.le_of_ble_eq_true rfl) dL_law_472 (fun H hI hS => ?_)
  refine lv_istore (lv' := [(5, .int (wk 1 1 ((m_X0_epoch q1 z).1))), (4, .int i), (3, .ref o), (2, .ref b.1), (1, .ref a.1), (0, .ref bs)]) hx hb dL_law_475 hl (by decide) rfl (fun ls hl => ?_)
  refine lv_aload_n hx hb dL_law_477 rfl (lv_at hl 3 rfl) ?_
  refine lv_aload_n hx hb dL_law_478 rfl (lv_at hl 5 rfl) ?_
  refine lv_iload hx hb dL_law_479 (lv_at hl 1 rfl) ?_
  refine lv_iconst (v := 1) hx hb dL_law_481 (by decide) ?_
  refine lv_iadd hx hb dL_law_482 ?_
  refine lw_sld hx hb hX hbl hS h1 dL_law_483 ?_
  obtain ⟨x_1, hx_1, hm⟩ := Option.bind_eq_some_iff.mp hm
  refine lw_m hC hGx hLD (k_X3_epoch l k b Lb hLD.2.1 q1 zm hx_1) (gV w_1105 w_1106 w_1107 w_27 w_1108) kk_X3_epoch rfl ⟨Nat.le_of_ble_eq_true rfl, Nat.le_of_ble_eq_true rfl⟩ ⟨Nat.le_trans (show cells + 4 ≤ 450000 by omega) rm_c, Nat.le_trans (show slots + 21 ≤ 4000000 by omega) rm_s⟩ hI hS hl.1 rfl rfl (Nat.le_of_ble_eq_true rfl) dL_law_484 (fun H hI hS => ?_)
  refine lv_istore (lv' := [(6, .int x_1.1), (5, .int (wk 1 1 ((m_X0_epoch q1 z).1))), (4, .int i), (3, .ref o), (2, .ref b.1), (1, .ref a.1), (0, .ref bs)]) hx hb dL_law_487 hl (by decide) rfl (fun ls hl => ?_)
  refine lv_goto (tgt := 2249) hx hb dL_law_489 (by decide) ?_
  obtain rfl := Option.some.inj hm
  exact W.widen (k := cells + 772) (n := slots + 6282) (by omega) (by omega) (kk H ls hI hS (lv_sub hl [2, 3, 4, 5, 6] rfl))
set_option maxRecDepth 100000 in
def o_lc_5 (q1 q2 q3 q4 : Int32) (z : CS) (v : Int64) (zm : MS) : Option (CS × Int64 × MS) := (if ¬ ((m_X0_swap q1 q2 z).1 = 0 ∨ (m_X0_swap q1 q2 z).1 = 1) then none else ((o_X3_swap q1 q2 zm).bind fun x_1 => some ((m_X0_swap q1 q2 z).2.2, (if (m_X0_swap q1 q2 z).1 = 0 then ((m_X0_swap q1 q2 z).2.1).toInt64 else v), x_1.2)))
set_option maxRecDepth 100000 in
set_option maxHeartbeats 4000000 in
theorem lc_5 {p : Program} {l : Launch} (hl9 : l.stackTraces = false) {e : Env} {s : State} {m : MethodId} {below : List Frame} {meth : Method} {c : Code} {bs L : Nat} {xs : Nat → Int32} {k : Kx} {a b : CA} {o : Nat} {Lb : List Nat} {Q : State → Prop} (hC : CallFix p m c cL_law 7 s #[.ref bs] (Cond.tt :: GL) RL) (hGx : Gx k s) (hLD : LD k a o b Lb s) (hX : va_X bs L xs s s.heap) (hbl : bs < s.heap.size) {i q1 q2 q3 q4 : Int32} (h1 : vp_in (i + (1 : Int32)) L ∧ xs (i + (1 : Int32)).toNatClampNeg = q1) (h2 : vp_in (i + (2 : Int32)) L ∧ xs (i + (2 : Int32)).toNatClampNeg = q2) (h3 : vp_in (i + (3 : Int32)) L ∧ xs (i + (3 : Int32)).toNatClampNeg = q3) (h4 : vp_in (i + (4 : Int32)) L ∧ xs (i + (4 : Int32)).toNatClampNeg = q4) {z : CS} {v : Int64} {zm : MS} {H : Heap} {ls : Array Slot} {cells slots : Nat} (hl : lv_has ls 7 [(4, .int i), (3, .ref o), (2, .ref b.1), (1, .ref a.1), (0, .ref bs)]) (hI : LI k a o b Lb z v zm H) (hS : va_S (nA s.heap.size) s.heap H []) (hc : cells + 772 ≤ 450000 ∧ slots + 6282 ≤ 4000000) {r : CS × Int64 × MS} (hm : o_lc_5 q1 q2 q3 q4 z v zm = some r) (kk : ∀ (H1 : Heap) (ls1 : Array Slot), LI k a o b Lb r.1 r.2.1 r.2.2 H1 → va_S (nA s.heap.size) s.heap H1 [] → lv_has ls1 7 [(4, .int i), (3, .ref o), (2, .ref b.1), (1, .ref a.1), (0, .ref bs)] → W p l e room_1 s m #[.ref bs] below meth c H1 [] (cells + 772) (slots + 6282) Q (F0 m 2249 ls1 [])) : W p l e room_1 s m #[.ref bs] below meth c H [] cells slots Q (F0 m 492 ls []) := by
  have hx := hC.1
  have hb := hC.2.1
  refine lv_aload_n hx hb dL_law_492 rfl (lv_at hl 3 rfl) ?_
  refine lv_aload_n hx hb dL_law_493 rfl (lv_at hl 4 rfl) ?_
  refine lv_iload hx hb dL_law_494 (lv_at hl 0 rfl) ?_
  refine lv_iconst (v := 1) hx hb dL_law_496 (by decide) ?_
  refine lv_iadd hx hb dL_law_497 ?_
  refine lw_sld hx hb hX hbl hS h1 dL_law_498 ?_
  refine lv_aload_n hx hb dL_law_499 rfl (lv_at hl 4 rfl) ?_
  refine lv_iload hx hb dL_law_500 (lv_at hl 0 rfl) ?_
  refine lv_iconst (v := 2) hx hb dL_law_502 (by decide) ?_
  refine lv_iadd hx hb dL_law_503 ?_
  refine lw_sld hx hb hX hbl hS h2 dL_law_504 ?_
  refine lv_aload_n hx hb dL_law_505 rfl (lv_at hl 1 rfl) ?_
  by_cases h_1 : ¬ ((m_X0_swap q1 q2 z).1 = 0 ∨ (m_X0_swap q1 q2 z).1 = 1)
  · have hm := (if_pos h_1).symm.trans hm
    cases hm
  have hm := (if_neg h_1).symm.trans hm
  refine lw_w hC hGx hLD (k_L_swap l hl9 k a hLD.1 o q1 q2 z v (Decidable.of_not_not h_1)) (gSW w_693 w_694 w_25 w_695) kw_L_swap ⟨Nat.le_of_ble_eq_true rfl, Nat.le_of_ble_eq_true rfl⟩ ⟨Nat.le_trans (show cells + 5 ≤ 450000 by omega) rm_c, Nat.le_trans (show slots + 30 ≤ 4000000 by omega) rm_s⟩ hI hS hl.1 rfl rfl (Nat.le_of_ble_eq_true rfl) dL_law_506 (fun H hI hS => ?_)
  refine lv_istore (lv' := [(5, .int (wk 1 1 ((m_X0_swap q1 q2 z).1))), (4, .int i), (3, .ref o), (2, .ref b.1), (1, .ref a.1), (0, .ref bs)]) hx hb dL_law_509 hl (by decide) rfl (fun ls hl => ?_)
  refine lv_aload_n hx hb dL_law_511 rfl (lv_at hl 3 rfl) ?_
  refine lv_aload_n hx hb dL_law_512 rfl (lv_at hl 5 rfl) ?_
  refine lv_iload hx hb dL_law_513 (lv_at hl 1 rfl) ?_
  refine lv_iconst (v := 1) hx hb dL_law_515 (by decide) ?_
  refine lv_iadd hx hb dL_law_516 ?_
  refine lw_sld hx hb hX hbl hS h1 dL_law_517 ?_
  refine lv_aload_n hx hb dL_law_518 rfl (lv_at hl 5 rfl) ?_
  refine lv_iload hx hb dL_law_519 (lv_at hl 1 rfl) ?_
  refine lv_iconst (v := 2) hx hb dL_law_521 (by decide) ?_
  refine lv_iadd hx hb dL_law_522 ?_
  refine lw_sld hx hb hX hbl hS h2 dL_law_523 ?_
  obtain ⟨x_1, hx_1, hm⟩ := Option.bind_eq_some_iff.mp hm
  refine lw_m hC hGx hLD (k_X3_swap l k b Lb hLD.2.1 q1 q2 zm hx_1) (gV w_1109 w_1110 w_1111 w_27 w_1112) kk_X3_swap rfl ⟨Nat.le_of_ble_eq_true rfl, Nat.le_of_ble_eq_true rfl⟩ ⟨Nat.le_trans (show cells + 5 ≤ 450000 by omega) rm_c, Nat.le_trans (show slots + 30 ≤ 4000000 by omega) rm_s⟩ hI hS hl.1 rfl rfl (Nat.le_of_ble_eq_true rfl) dL_law_524 (fun H hI hS => ?_)
  refine lv_istore (lv' := [(6, .int x_1.1), (5, .int (wk 1 1 ((m_X0_swap q1 q2 z).1))), (4, .int i), (3, .ref o), (2, .ref b.1), (1, .ref a.1), (0, .ref bs)]) hx hb dL_law_527 hl (by decide) rfl (fun ls hl => ?_)
  refine lv_goto (tgt := 2249) hx hb dL_law_529 (by decide) ?_
  obtain rfl := Option.some.inj hm
  exact W.widen (k := cells + 772) (n := slots + 6282) (by omega) (by omega) (kk H ls hI hS (lv_sub hl [2, 3, 4, 5, 6] rfl))
set_option maxRecDepth 100000 in
def o_lc_6 (q1 q2 q3 q4 : Int32) (z : CS) (v : Int64) (zm : MS) : Option (CS × Int64 × MS) := (if ¬ ((m_X0_withYear q1 q2 z).1 = 0 ∨ (m_X0_withYear q1 q2 z).1 = 1 ∨ (m_X0_withYear q1 q2 z).1 = 2) then none else ((o_X3_withYear q1 q2 zm).bind fun x_1 => some ((m_X0_withYear q1 q2 z).2.2, (if (m_X0_withYear q1 q2 z).1 = 0 then ((m_X0_withYear q1 q2 z).2.1).toInt64 else v), x_1.2)))
set_option maxRecDepth 100000 in
set_option maxHeartbeats 4000000 in
theorem lc_6 {p : Program} {l : Launch} (hl9 : l.stackTraces = false) {e : Env} {s : State} {m : MethodId} {below : List Frame} {meth : Method} {c : Code} {bs L : Nat} {xs : Nat → Int32} {k : Kx} {a b : CA} {o : Nat} {Lb : List Nat} {Q : State → Prop} (hC : CallFix p m c cL_law 7 s #[.ref bs] (Cond.tt :: GL) RL) (hGx : Gx k s) (hLD : LD k a o b Lb s) (hX : va_X bs L xs s s.heap) (hbl : bs < s.heap.size) {i q1 q2 q3 q4 : Int32} (h1 : vp_in (i + (1 : Int32)) L ∧ xs (i + (1 : Int32)).toNatClampNeg = q1) (h2 : vp_in (i + (2 : Int32)) L ∧ xs (i + (2 : Int32)).toNatClampNeg = q2) (h3 : vp_in (i + (3 : Int32)) L ∧ xs (i + (3 : Int32)).toNatClampNeg = q3) (h4 : vp_in (i + (4 : Int32)) L ∧ xs (i + (4 : Int32)).toNatClampNeg = q4) {z : CS} {v : Int64} {zm : MS} {H : Heap} {ls : Array Slot} {cells slots : Nat} (hl : lv_has ls 7 [(4, .int i), (3, .ref o), (2, .ref b.1), (1, .ref a.1), (0, .ref bs)]) (hI : LI k a o b Lb z v zm H) (hS : va_S (nA s.heap.size) s.heap H []) (hc : cells + 772 ≤ 450000 ∧ slots + 6282 ≤ 4000000) {r : CS × Int64 × MS} (hm : o_lc_6 q1 q2 q3 q4 z v zm = some r) (kk : ∀ (H1 : Heap) (ls1 : Array Slot), LI k a o b Lb r.1 r.2.1 r.2.2 H1 → va_S (nA s.heap.size) s.heap H1 [] → lv_has ls1 7 [(4, .int i), (3, .ref o), (2, .ref b.1), (1, .ref a.1), (0, .ref bs)] → W p l e room_1 s m #[.ref bs] below meth c H1 [] (cells + 772) (slots + 6282) Q (F0 m 2249 ls1 [])) : W p l e room_1 s m #[.ref bs] below meth c H [] cells slots Q (F0 m 532 ls []) := by
  have hx := hC.1
  have hb := hC.2.1
  refine lv_aload_n hx hb dL_law_532 rfl (lv_at hl 3 rfl) ?_
  refine lv_aload_n hx hb dL_law_533 rfl (lv_at hl 4 rfl) ?_
  refine lv_iload hx hb dL_law_534 (lv_at hl 0 rfl) ?_
  refine lv_iconst (v := 1) hx hb dL_law_536 (by decide) ?_
  refine lv_iadd hx hb dL_law_537 ?_
  refine lw_sld hx hb hX hbl hS h1 dL_law_538 ?_
  refine lv_aload_n hx hb dL_law_539 rfl (lv_at hl 4 rfl) ?_
  refine lv_iload hx hb dL_law_540 (lv_at hl 0 rfl) ?_
  refine lv_iconst (v := 2) hx hb dL_law_542 (by decide) ?_
  refine lv_iadd hx hb dL_law_543 ?_
  refine lw_sld hx hb hX hbl hS h2 dL_law_544 ?_
  refine lv_aload_n hx hb dL_law_545 rfl (lv_at hl 1 rfl) ?_
  by_cases h_1 : ¬ ((m_X0_withYear q1 q2 z).1 = 0 ∨ (m_X0_withYear q1 q2 z).1 = 1 ∨ (m_X0_withYear q1 q2 z).1 = 2)
  · have hm := (if_pos h_1).symm.trans hm
    cases hm
  have hm := (if_neg h_1).symm.trans hm
  refine lw_w hC hGx hLD (k_L_withYear l hl9 k a hLD.1 o q1 q2 z v (Decidable.of_not_not h_1)) (gSW w_700 w_701 w_25 w_702) kw_L_withYear ⟨Nat.le_of_ble_eq_true rfl, Nat.le_of_ble_eq_true rfl⟩ ⟨Nat.le_trans (show cells + 4 ≤ 450000 by omega) rm_c, Nat.le_trans (show slots + 24 ≤ 4000000 by omega) rm_s⟩ hI hS hl.1 rfl rfl (Nat.le_of_ble_eq_true rfl) dL_law_546 (fun H hI hS => ?_)
  refine lv_istore (lv' := [(5, .int (wk 1 2 ((m_X0_withYear q1 q2 z).1))), (4, .int i), (3, .ref o), (2, .ref b.1), (1, .ref a.1), (0, .ref bs)]) hx hb dL_law_549 hl (by decide) rfl (fun ls hl => ?_)
  refine lv_aload_n hx hb dL_law_551 rfl (lv_at hl 3 rfl) ?_
  refine lv_aload_n hx hb dL_law_552 rfl (lv_at hl 5 rfl) ?_
  refine lv_iload hx hb dL_law_553 (lv_at hl 1 rfl) ?_
  refine lv_iconst (v := 1) hx hb dL_law_555 (by decide) ?_
  refine lv_iadd hx hb dL_law_556 ?_
  refine lw_sld hx hb hX hbl hS h1 dL_law_557 ?_
  refine lv_aload_n hx hb dL_law_558 rfl (lv_at hl 5 rfl) ?_
  refine lv_iload hx hb dL_law_559 (lv_at hl 1 rfl) ?_
  refine lv_iconst (v := 2) hx hb dL_law_561 (by decide) ?_
  refine lv_iadd hx hb dL_law_562 ?_
  refine lw_sld hx hb hX hbl hS h2 dL_law_563 ?_
  obtain ⟨x_1, hx_1, hm⟩ := Option.bind_eq_some_iff.mp hm
  refine lw_m hC hGx hLD (k_X3_withYear l k b Lb hLD.2.1 q1 q2 zm hx_1) (gV w_1113 w_1114 w_1115 w_27 w_1116) kk_X3_withYear rfl ⟨Nat.le_of_ble_eq_true rfl, Nat.le_of_ble_eq_true rfl⟩ ⟨Nat.le_trans (show cells + 5 ≤ 450000 by omega) rm_c, Nat.le_trans (show slots + 27 ≤ 4000000 by omega) rm_s⟩ hI hS hl.1 rfl rfl (Nat.le_of_ble_eq_true rfl) dL_law_564 (fun H hI hS => ?_)
  refine lv_istore (lv' := [(6, .int x_1.1), (5, .int (wk 1 2 ((m_X0_withYear q1 q2 z).1))), (4, .int i), (3, .ref o), (2, .ref b.1), (1, .ref a.1), (0, .ref bs)]) hx hb dL_law_567 hl (by decide) rfl (fun ls hl => ?_)
  refine lv_goto (tgt := 2249) hx hb dL_law_569 (by decide) ?_
  obtain rfl := Option.some.inj hm
  exact W.widen (k := cells + 772) (n := slots + 6282) (by omega) (by omega) (kk H ls hI hS (lv_sub hl [2, 3, 4, 5, 6] rfl))
set_option maxRecDepth 100000 in
def o_lc_7 (q1 q2 q3 q4 : Int32) (z : CS) (v : Int64) (zm : MS) : Option (CS × Int64 × MS) := (if ¬ ((m_X0_withMonth q1 q2 z).1 = 0 ∨ (m_X0_withMonth q1 q2 z).1 = 1 ∨ (m_X0_withMonth q1 q2 z).1 = 2) then none else ((o_X3_withMonth q1 q2 zm).bind fun x_1 => some ((m_X0_withMonth q1 q2 z).2.2, (if (m_X0_withMonth q1 q2 z).1 = 0 then ((m_X0_withMonth q1 q2 z).2.1).toInt64 else v), x_1.2)))
set_option maxRecDepth 100000 in
set_option maxHeartbeats 4000000 in
theorem lc_7 {p : Program} {l : Launch} (hl9 : l.stackTraces = false) {e : Env} {s : State} {m : MethodId} {below : List Frame} {meth : Method} {c : Code} {bs L : Nat} {xs : Nat → Int32} {k : Kx} {a b : CA} {o : Nat} {Lb : List Nat} {Q : State → Prop} (hC : CallFix p m c cL_law 7 s #[.ref bs] (Cond.tt :: GL) RL) (hGx : Gx k s) (hLD : LD k a o b Lb s) (hX : va_X bs L xs s s.heap) (hbl : bs < s.heap.size) {i q1 q2 q3 q4 : Int32} (h1 : vp_in (i + (1 : Int32)) L ∧ xs (i + (1 : Int32)).toNatClampNeg = q1) (h2 : vp_in (i + (2 : Int32)) L ∧ xs (i + (2 : Int32)).toNatClampNeg = q2) (h3 : vp_in (i + (3 : Int32)) L ∧ xs (i + (3 : Int32)).toNatClampNeg = q3) (h4 : vp_in (i + (4 : Int32)) L ∧ xs (i + (4 : Int32)).toNatClampNeg = q4) {z : CS} {v : Int64} {zm : MS} {H : Heap} {ls : Array Slot} {cells slots : Nat} (hl : lv_has ls 7 [(4, .int i), (3, .ref o), (2, .ref b.1), (1, .ref a.1), (0, .ref bs)]) (hI : LI k a o b Lb z v zm H) (hS : va_S (nA s.heap.size) s.heap H []) (hc : cells + 772 ≤ 450000 ∧ slots + 6282 ≤ 4000000) {r : CS × Int64 × MS} (hm : o_lc_7 q1 q2 q3 q4 z v zm = some r) (kk : ∀ (H1 : Heap) (ls1 : Array Slot), LI k a o b Lb r.1 r.2.1 r.2.2 H1 → va_S (nA s.heap.size) s.heap H1 [] → lv_has ls1 7 [(4, .int i), (3, .ref o), (2, .ref b.1), (1, .ref a.1), (0, .ref bs)] → W p l e room_1 s m #[.ref bs] below meth c H1 [] (cells + 772) (slots + 6282) Q (F0 m 2249 ls1 [])) : W p l e room_1 s m #[.ref bs] below meth c H [] cells slots Q (F0 m 572 ls []) := by
  have hx := hC.1
  have hb := hC.2.1
  refine lv_aload_n hx hb dL_law_572 rfl (lv_at hl 3 rfl) ?_
  refine lv_aload_n hx hb dL_law_573 rfl (lv_at hl 4 rfl) ?_
  refine lv_iload hx hb dL_law_574 (lv_at hl 0 rfl) ?_
  refine lv_iconst (v := 1) hx hb dL_law_576 (by decide) ?_
  refine lv_iadd hx hb dL_law_577 ?_
  refine lw_sld hx hb hX hbl hS h1 dL_law_578 ?_
  refine lv_aload_n hx hb dL_law_579 rfl (lv_at hl 4 rfl) ?_
  refine lv_iload hx hb dL_law_580 (lv_at hl 0 rfl) ?_
  refine lv_iconst (v := 2) hx hb dL_law_582 (by decide) ?_
  refine lv_iadd hx hb dL_law_583 ?_
  refine lw_sld hx hb hX hbl hS h2 dL_law_584 ?_
  refine lv_aload_n hx hb dL_law_585 rfl (lv_at hl 1 rfl) ?_
  by_cases h_1 : ¬ ((m_X0_withMonth q1 q2 z).1 = 0 ∨ (m_X0_withMonth q1 q2 z).1 = 1 ∨ (m_X0_withMonth q1 q2 z).1 = 2)
  · have hm := (if_pos h_1).symm.trans hm
    cases hm
  have hm := (if_neg h_1).symm.trans hm
  refine lw_w hC hGx hLD (k_L_withMonth l hl9 k a hLD.1 o q1 q2 z v (Decidable.of_not_not h_1)) (gSW w_707 w_708 w_25 w_709) kw_L_withMonth ⟨Nat.le_of_ble_eq_true rfl, Nat.le_of_ble_eq_true rfl⟩ ⟨Nat.le_trans (show cells + 4 ≤ 450000 by omega) rm_c, Nat.le_trans (show slots + 24 ≤ 4000000 by omega) rm_s⟩ hI hS hl.1 rfl rfl (Nat.le_of_ble_eq_true rfl) dL_law_586 (fun H hI hS => ?_)
  refine lv_istore (lv' := [(5, .int (wk 1 2 ((m_X0_withMonth q1 q2 z).1))), (4, .int i), (3, .ref o), (2, .ref b.1), (1, .ref a.1), (0, .ref bs)]) hx hb dL_law_589 hl (by decide) rfl (fun ls hl => ?_)
  refine lv_aload_n hx hb dL_law_591 rfl (lv_at hl 3 rfl) ?_
  refine lv_aload_n hx hb dL_law_592 rfl (lv_at hl 5 rfl) ?_
  refine lv_iload hx hb dL_law_593 (lv_at hl 1 rfl) ?_
  refine lv_iconst (v := 1) hx hb dL_law_595 (by decide) ?_
  refine lv_iadd hx hb dL_law_596 ?_
  refine lw_sld hx hb hX hbl hS h1 dL_law_597 ?_
  refine lv_aload_n hx hb dL_law_598 rfl (lv_at hl 5 rfl) ?_
  refine lv_iload hx hb dL_law_599 (lv_at hl 1 rfl) ?_
  refine lv_iconst (v := 2) hx hb dL_law_601 (by decide) ?_
  refine lv_iadd hx hb dL_law_602 ?_
  refine lw_sld hx hb hX hbl hS h2 dL_law_603 ?_
  obtain ⟨x_1, hx_1, hm⟩ := Option.bind_eq_some_iff.mp hm
  refine lw_m hC hGx hLD (k_X3_withMonth l k b Lb hLD.2.1 q1 q2 zm hx_1) (gV w_1120 w_1121 w_1122 w_27 w_1123) kk_X3_withMonth rfl ⟨Nat.le_of_ble_eq_true rfl, Nat.le_of_ble_eq_true rfl⟩ ⟨Nat.le_trans (show cells + 5 ≤ 450000 by omega) rm_c, Nat.le_trans (show slots + 27 ≤ 4000000 by omega) rm_s⟩ hI hS hl.1 rfl rfl (Nat.le_of_ble_eq_true rfl) dL_law_604 (fun H hI hS => ?_)
  refine lv_istore (lv' := [(6, .int x_1.1), (5, .int (wk 1 2 ((m_X0_withMonth q1 q2 z).1))), (4, .int i), (3, .ref o), (2, .ref b.1), (1, .ref a.1), (0, .ref bs)]) hx hb dL_law_607 hl (by decide) rfl (fun ls hl => ?_)
  refine lv_goto (tgt := 2249) hx hb dL_law_609 (by decide) ?_
  obtain rfl := Option.some.inj hm
  exact W.widen (k := cells + 772) (n := slots + 6282) (by omega) (by omega) (kk H ls hI hS (lv_sub hl [2, 3, 4, 5, 6] rfl))
set_option maxRecDepth 100000 in
def o_lc_8 (q1 q2 q3 q4 : Int32) (z : CS) (v : Int64) (zm : MS) : Option (CS × Int64 × MS) := (if ¬ ((m_X0_withDay q1 q2 z).1 = 0 ∨ (m_X0_withDay q1 q2 z).1 = 1 ∨ (m_X0_withDay q1 q2 z).1 = 2 ∨ (m_X0_withDay q1 q2 z).1 = 3) then none else ((o_X3_withDay q1 q2 zm).bind fun x_1 => some ((m_X0_withDay q1 q2 z).2.2, (if (m_X0_withDay q1 q2 z).1 = 0 then ((m_X0_withDay q1 q2 z).2.1).toInt64 else v), x_1.2)))
set_option maxRecDepth 100000 in
set_option maxHeartbeats 4000000 in
theorem lc_8 {p : Program} {l : Launch} (hl9 : l.stackTraces = false) {e : Env} {s : State} {m : MethodId} {below : List Frame} {meth : Method} {c : Code} {bs L : Nat} {xs : Nat → Int32} {k : Kx} {a b : CA} {o : Nat} {Lb : List Nat} {Q : State → Prop} (hC : CallFix p m c cL_law 7 s #[.ref bs] (Cond.tt :: GL) RL) (hGx : Gx k s) (hLD : LD k a o b Lb s) (hX : va_X bs L xs s s.heap) (hbl : bs < s.heap.size) {i q1 q2 q3 q4 : Int32} (h1 : vp_in (i + (1 : Int32)) L ∧ xs (i + (1 : Int32)).toNatClampNeg = q1) (h2 : vp_in (i + (2 : Int32)) L ∧ xs (i + (2 : Int32)).toNatClampNeg = q2) (h3 : vp_in (i + (3 : Int32)) L ∧ xs (i + (3 : Int32)).toNatClampNeg = q3) (h4 : vp_in (i + (4 : Int32)) L ∧ xs (i + (4 : Int32)).toNatClampNeg = q4) {z : CS} {v : Int64} {zm : MS} {H : Heap} {ls : Array Slot} {cells slots : Nat} (hl : lv_has ls 7 [(4, .int i), (3, .ref o), (2, .ref b.1), (1, .ref a.1), (0, .ref bs)]) (hI : LI k a o b Lb z v zm H) (hS : va_S (nA s.heap.size) s.heap H []) (hc : cells + 772 ≤ 450000 ∧ slots + 6282 ≤ 4000000) {r : CS × Int64 × MS} (hm : o_lc_8 q1 q2 q3 q4 z v zm = some r) (kk : ∀ (H1 : Heap) (ls1 : Array Slot), LI k a o b Lb r.1 r.2.1 r.2.2 H1 → va_S (nA s.heap.size) s.heap H1 [] → lv_has ls1 7 [(4, .int i), (3, .ref o), (2, .ref b.1), (1, .ref a.1), (0, .ref bs)] → W p l e room_1 s m #[.ref bs] below meth c H1 [] (cells + 772) (slots + 6282) Q (F0 m 2249 ls1 [])) : W p l e room_1 s m #[.ref bs] below meth c H [] cells slots Q (F0 m 612 ls []) := by
  have hx := hC.1
  have hb := hC.2.1
  refine lv_aload_n hx hb dL_law_612 rfl (lv_at hl 3 rfl) ?_
  refine lv_aload_n hx hb dL_law_613 rfl (lv_at hl 4 rfl) ?_
  refine lv_iload hx hb dL_law_614 (lv_at hl 0 rfl) ?_
  refine lv_iconst (v := 1) hx hb dL_law_616 (by decide) ?_
  refine lv_iadd hx hb dL_law_617 ?_
  refine lw_sld hx hb hX hbl hS h1 dL_law_618 ?_
  refine lv_aload_n hx hb dL_law_619 rfl (lv_at hl 4 rfl) ?_
  refine lv_iload hx hb dL_law_620 (lv_at hl 0 rfl) ?_
  refine lv_iconst (v := 2) hx hb dL_law_622 (by decide) ?_
  refine lv_iadd hx hb dL_law_623 ?_
  refine lw_sld hx hb hX hbl hS h2 dL_law_624 ?_
  refine lv_aload_n hx hb dL_law_625 rfl (lv_at hl 1 rfl) ?_
  by_cases h_1 : ¬ ((m_X0_withDay q1 q2 z).1 = 0 ∨ (m_X0_withDay q1 q2 z).1 = 1 ∨ (m_X0_withDay q1 q2 z).1 = 2 ∨ (m_X0_withDay q1 q2 z).1 = 3)
  · have hm := (if_pos h_1).symm.trans hm
    cases hm
  have hm := (if_neg h_1).symm.trans hm
  refine lw_w hC hGx hLD (k_L_withDay l hl9 k a hLD.1 o q1 q2 z v (Decidable.of_not_not h_1)) (gSW w_714 w_715 w_25 w_716) kw_L_withDay ⟨Nat.le_of_ble_eq_true rfl, Nat.le_of_ble_eq_true rfl⟩ ⟨Nat.le_trans (show cells + 5 ≤ 450000 by omega) rm_c, Nat.le_trans (show slots + 30 ≤ 4000000 by omega) rm_s⟩ hI hS hl.1 rfl rfl (Nat.le_of_ble_eq_true rfl) dL_law_626 (fun H hI hS => ?_)
  refine lv_istore (lv' := [(5, .int (wk 1 2 ((m_X0_withDay q1 q2 z).1))), (4, .int i), (3, .ref o), (2, .ref b.1), (1, .ref a.1), (0, .ref bs)]) hx hb dL_law_629 hl (by decide) rfl (fun ls hl => ?_)
  refine lv_aload_n hx hb dL_law_631 rfl (lv_at hl 3 rfl) ?_
  refine lv_aload_n hx hb dL_law_632 rfl (lv_at hl 5 rfl) ?_
  refine lv_iload hx hb dL_law_633 (lv_at hl 1 rfl) ?_
  refine lv_iconst (v := 1) hx hb dL_law_635 (by decide) ?_
  refine lv_iadd hx hb dL_law_636 ?_
  refine lw_sld hx hb hX hbl hS h1 dL_law_637 ?_
  refine lv_aload_n hx hb dL_law_638 rfl (lv_at hl 5 rfl) ?_
  refine lv_iload hx hb dL_law_639 (lv_at hl 1 rfl) ?_
  refine lv_iconst (v := 2) hx hb dL_law_641 (by decide) ?_
  refine lv_iadd hx hb dL_law_642 ?_
  refine lw_sld hx hb hX hbl hS h2 dL_law_643 ?_
  obtain ⟨x_1, hx_1, hm⟩ := Option.bind_eq_some_iff.mp hm
  refine lw_m hC hGx hLD (k_X3_withDay l k b Lb hLD.2.1 q1 q2 zm hx_1) (gV w_1124 w_1125 w_1126 w_27 w_1127) kk_X3_withDay rfl ⟨Nat.le_of_ble_eq_true rfl, Nat.le_of_ble_eq_true rfl⟩ ⟨Nat.le_trans (show cells + 6 ≤ 450000 by omega) rm_c, Nat.le_trans (show slots + 33 ≤ 4000000 by omega) rm_s⟩ hI hS hl.1 rfl rfl (Nat.le_of_ble_eq_true rfl) dL_law_644 (fun H hI hS => ?_)
  refine lv_istore (lv' := [(6, .int x_1.1), (5, .int (wk 1 2 ((m_X0_withDay q1 q2 z).1))), (4, .int i), (3, .ref o), (2, .ref b.1), (1, .ref a.1), (0, .ref bs)]) hx hb dL_law_647 hl (by decide) rfl (fun ls hl => ?_)
  refine lv_goto (tgt := 2249) hx hb dL_law_649 (by decide) ?_
  obtain rfl := Option.some.inj hm
  exact W.widen (k := cells + 772) (n := slots + 6282) (by omega) (by omega) (kk H ls hI hS (lv_sub hl [2, 3, 4, 5, 6] rfl))
set_option maxRecDepth 100000 in
def o_lc_9 (q1 q2 q3 q4 : Int32) (z : CS) (v : Int64) (zm : MS) : Option (CS × Int64 × MS) := (if ¬ ((m_X0_withDayOfYear q1 q2 z).1 = 0 ∨ (m_X0_withDayOfYear q1 q2 z).1 = 1 ∨ (m_X0_withDayOfYear q1 q2 z).1 = 2 ∨ (m_X0_withDayOfYear q1 q2 z).1 = 3) then none else ((o_X3_withDayOfYear q1 q2 zm).bind fun x_1 => some ((m_X0_withDayOfYear q1 q2 z).2.2, (if (m_X0_withDayOfYear q1 q2 z).1 = 0 then ((m_X0_withDayOfYear q1 q2 z).2.1).toInt64 else v), x_1.2)))
set_option maxRecDepth 100000 in
set_option maxHeartbeats 4000000 in
theorem lc_9 {p : Program} {l : Launch} (hl9 : l.stackTraces = false) {e : Env} {s : State} {m : MethodId} {below : List Frame} {meth : Method} {c : Code} {bs L : Nat} {xs : Nat → Int32} {k : Kx} {a b : CA} {o : Nat} {Lb : List Nat} {Q : State → Prop} (hC : CallFix p m c cL_law 7 s #[.ref bs] (Cond.tt :: GL) RL) (hGx : Gx k s) (hLD : LD k a o b Lb s) (hX : va_X bs L xs s s.heap) (hbl : bs < s.heap.size) {i q1 q2 q3 q4 : Int32} (h1 : vp_in (i + (1 : Int32)) L ∧ xs (i + (1 : Int32)).toNatClampNeg = q1) (h2 : vp_in (i + (2 : Int32)) L ∧ xs (i + (2 : Int32)).toNatClampNeg = q2) (h3 : vp_in (i + (3 : Int32)) L ∧ xs (i + (3 : Int32)).toNatClampNeg = q3) (h4 : vp_in (i + (4 : Int32)) L ∧ xs (i + (4 : Int32)).toNatClampNeg = q4) {z : CS} {v : Int64} {zm : MS} {H : Heap} {ls : Array Slot} {cells slots : Nat} (hl : lv_has ls 7 [(4, .int i), (3, .ref o), (2, .ref b.1), (1, .ref a.1), (0, .ref bs)]) (hI : LI k a o b Lb z v zm H) (hS : va_S (nA s.heap.size) s.heap H []) (hc : cells + 772 ≤ 450000 ∧ slots + 6282 ≤ 4000000) {r : CS × Int64 × MS} (hm : o_lc_9 q1 q2 q3 q4 z v zm = some r) (kk : ∀ (H1 : Heap) (ls1 : Array Slot), LI k a o b Lb r.1 r.2.1 r.2.2 H1 → va_S (nA s.heap.size) s.heap H1 [] → lv_has ls1 7 [(4, .int i), (3, .ref o), (2, .ref b.1), (1, .ref a.1), (0, .ref bs)] → W p l e room_1 s m #[.ref bs] below meth c H1 [] (cells + 772) (slots + 6282) Q (F0 m 2249 ls1 [])) : W p l e room_1 s m #[.ref bs] below meth c H [] cells slots Q (F0 m 652 ls []) := by
  have hx := hC.1
  have hb := hC.2.1
  refine lv_aload_n hx hb dL_law_652 rfl (lv_at hl 3 rfl) ?_
  refine lv_aload_n hx hb dL_law_653 rfl (lv_at hl 4 rfl) ?_
  refine lv_iload hx hb dL_law_654 (lv_at hl 0 rfl) ?_
  refine lv_iconst (v := 1) hx hb dL_law_656 (by decide) ?_
  refine lv_iadd hx hb dL_law_657 ?_
  refine lw_sld hx hb hX hbl hS h1 dL_law_658 ?_
  refine lv_aload_n hx hb dL_law_659 rfl (lv_at hl 4 rfl) ?_
  refine lv_iload hx hb dL_law_660 (lv_at hl 0 rfl) ?_
  refine lv_iconst (v := 2) hx hb dL_law_662 (by decide) ?_
  refine lv_iadd hx hb dL_law_663 ?_
  refine lw_sld hx hb hX hbl hS h2 dL_law_664 ?_
  refine lv_aload_n hx hb dL_law_665 rfl (lv_at hl 1 rfl) ?_
  by_cases h_1 : ¬ ((m_X0_withDayOfYear q1 q2 z).1 = 0 ∨ (m_X0_withDayOfYear q1 q2 z).1 = 1 ∨ (m_X0_withDayOfYear q1 q2 z).1 = 2 ∨ (m_X0_withDayOfYear q1 q2 z).1 = 3)
  · have hm := (if_pos h_1).symm.trans hm
    cases hm
  have hm := (if_neg h_1).symm.trans hm
  refine lw_w hC hGx hLD (k_L_withDayOfYear l hl9 k a hLD.1 o q1 q2 z v (Decidable.of_not_not h_1)) (gSW w_721 w_722 w_25 w_723) kw_L_withDayOfYear ⟨Nat.le_of_ble_eq_true rfl, Nat.le_of_ble_eq_true rfl⟩ ⟨Nat.le_trans (show cells + 4 ≤ 450000 by omega) rm_c, Nat.le_trans (show slots + 24 ≤ 4000000 by omega) rm_s⟩ hI hS hl.1 rfl rfl (Nat.le_of_ble_eq_true rfl) dL_law_666 (fun H hI hS => ?_)
  refine lv_istore (lv' := [(5, .int (wk 1 2 ((m_X0_withDayOfYear q1 q2 z).1))), (4, .int i), (3, .ref o), (2, .ref b.1), (1, .ref a.1), (0, .ref bs)]) hx hb dL_law_669 hl (by decide) rfl (fun ls hl => ?_)
  refine lv_aload_n hx hb dL_law_671 rfl (lv_at hl 3 rfl) ?_
  refine lv_aload_n hx hb dL_law_672 rfl (lv_at hl 5 rfl) ?_
  refine lv_iload hx hb dL_law_673 (lv_at hl 1 rfl) ?_
  refine lv_iconst (v := 1) hx hb dL_law_675 (by decide) ?_
  refine lv_iadd hx hb dL_law_676 ?_
  refine lw_sld hx hb hX hbl hS h1 dL_law_677 ?_
  refine lv_aload_n hx hb dL_law_678 rfl (lv_at hl 5 rfl) ?_
  refine lv_iload hx hb dL_law_679 (lv_at hl 1 rfl) ?_
  refine lv_iconst (v := 2) hx hb dL_law_681 (by decide) ?_
  refine lv_iadd hx hb dL_law_682 ?_
  refine lw_sld hx hb hX hbl hS h2 dL_law_683 ?_
  obtain ⟨x_1, hx_1, hm⟩ := Option.bind_eq_some_iff.mp hm
  refine lw_m hC hGx hLD (k_X3_withDayOfYear l k b Lb hLD.2.1 q1 q2 zm hx_1) (gV w_1128 w_1129 w_1130 w_27 w_1131) kk_X3_withDayOfYear rfl ⟨Nat.le_of_ble_eq_true rfl, Nat.le_of_ble_eq_true rfl⟩ ⟨Nat.le_trans (show cells + 5 ≤ 450000 by omega) rm_c, Nat.le_trans (show slots + 27 ≤ 4000000 by omega) rm_s⟩ hI hS hl.1 rfl rfl (Nat.le_of_ble_eq_true rfl) dL_law_684 (fun H hI hS => ?_)
  refine lv_istore (lv' := [(6, .int x_1.1), (5, .int (wk 1 2 ((m_X0_withDayOfYear q1 q2 z).1))), (4, .int i), (3, .ref o), (2, .ref b.1), (1, .ref a.1), (0, .ref bs)]) hx hb dL_law_687 hl (by decide) rfl (fun ls hl => ?_)
  refine lv_goto (tgt := 2249) hx hb dL_law_689 (by decide) ?_
  obtain rfl := Option.some.inj hm
  exact W.widen (k := cells + 772) (n := slots + 6282) (by omega) (by omega) (kk H ls hI hS (lv_sub hl [2, 3, 4, 5, 6] rfl))
set_option maxRecDepth 100000 in
def o_lc_10 (q1 q2 q3 q4 : Int32) (z : CS) (v : Int64) (zm : MS) : Option (CS × Int64 × MS) := (if ¬ ((m_X0_toFirst q1 z).1 = 0 ∨ (m_X0_toFirst q1 z).1 = 1) then none else ((o_X3_toFirst q1 zm).bind fun x_1 => some ((m_X0_toFirst q1 z).2.2, (if (m_X0_toFirst q1 z).1 = 0 then ((m_X0_toFirst q1 z).2.1).toInt64 else v), x_1.2)))
set_option maxRecDepth 100000 in
set_option maxHeartbeats 4000000 in
theorem lc_10 {p : Program} {l : Launch} (hl9 : l.stackTraces = false) {e : Env} {s : State} {m : MethodId} {below : List Frame} {meth : Method} {c : Code} {bs L : Nat} {xs : Nat → Int32} {k : Kx} {a b : CA} {o : Nat} {Lb : List Nat} {Q : State → Prop} (hC : CallFix p m c cL_law 7 s #[.ref bs] (Cond.tt :: GL) RL) (hGx : Gx k s) (hLD : LD k a o b Lb s) (hX : va_X bs L xs s s.heap) (hbl : bs < s.heap.size) {i q1 q2 q3 q4 : Int32} (h1 : vp_in (i + (1 : Int32)) L ∧ xs (i + (1 : Int32)).toNatClampNeg = q1) (h2 : vp_in (i + (2 : Int32)) L ∧ xs (i + (2 : Int32)).toNatClampNeg = q2) (h3 : vp_in (i + (3 : Int32)) L ∧ xs (i + (3 : Int32)).toNatClampNeg = q3) (h4 : vp_in (i + (4 : Int32)) L ∧ xs (i + (4 : Int32)).toNatClampNeg = q4) {z : CS} {v : Int64} {zm : MS} {H : Heap} {ls : Array Slot} {cells slots : Nat} (hl : lv_has ls 7 [(4, .int i), (3, .ref o), (2, .ref b.1), (1, .ref a.1), (0, .ref bs)]) (hI : LI k a o b Lb z v zm H) (hS : va_S (nA s.heap.size) s.heap H []) (hc : cells + 772 ≤ 450000 ∧ slots + 6282 ≤ 4000000) {r : CS × Int64 × MS} (hm : o_lc_10 q1 q2 q3 q4 z v zm = some r) (kk : ∀ (H1 : Heap) (ls1 : Array Slot), LI k a o b Lb r.1 r.2.1 r.2.2 H1 → va_S (nA s.heap.size) s.heap H1 [] → lv_has ls1 7 [(4, .int i), (3, .ref o), (2, .ref b.1), (1, .ref a.1), (0, .ref bs)] → W p l e room_1 s m #[.ref bs] below meth c H1 [] (cells + 772) (slots + 6282) Q (F0 m 2249 ls1 [])) : W p l e room_1 s m #[.ref bs] below meth c H [] cells slots Q (F0 m 692 ls []) := by
  have hx := hC.1
  have hb := hC.2.1
  refine lv_aload_n hx hb dL_law_692 rfl (lv_at hl 3 rfl) ?_
  refine lv_aload_n hx hb dL_law_693 rfl (lv_at hl 4 rfl) ?_
  refine lv_iload hx hb dL_law_694 (lv_at hl 0 rfl) ?_
  refine lv_iconst (v := 1) hx hb dL_law_696 (by decide) ?_
  refine lv_iadd hx hb dL_law_697 ?_
  refine lw_sld hx hb hX hbl hS h1 dL_law_698 ?_
  refine lv_aload_n hx hb dL_law_699 rfl (lv_at hl 1 rfl) ?_
  by_cases h_1 : ¬ ((m_X0_toFirst q1 z).1 = 0 ∨ (m_X0_toFirst q1 z).1 = 1)
  · have hm := (if_pos h_1).symm.trans hm
    cases hm
  have hm := (if_neg h_1).symm.trans hm
  refine lw_w hC hGx hLD (k_L_toFirst l hl9 k a hLD.1 o q1 z v (Decidable.of_not_not h_1)) (gSW w_728 w_729 w_25 w_730) kw_L_toFirst ⟨Nat.le_of_ble_eq_true rfl, Nat.le_of_ble_eq_true rfl⟩ ⟨Nat.le_trans (show cells + 3 ≤ 450000 by omega) rm_c, Nat.le_trans (show slots + 18 ≤ 4000000 by omega) rm_s⟩ hI hS hl.1 rfl rfl (Nat.le_of_ble_eq_true rfl) dL_law_700 (fun H hI hS => ?_)
  refine lv_istore (lv' := [(5, .int (wk 1 1 ((m_X0_toFirst q1 z).1))), (4, .int i), (3, .ref o), (2, .ref b.1), (1, .ref a.1), (0, .ref bs)]) hx hb dL_law_703 hl (by decide) rfl (fun ls hl => ?_)
  refine lv_aload_n hx hb dL_law_705 rfl (lv_at hl 3 rfl) ?_
  refine lv_aload_n hx hb dL_law_706 rfl (lv_at hl 5 rfl) ?_
  refine lv_iload hx hb dL_law_707 (lv_at hl 1 rfl) ?_
  refine lv_iconst (v := 1) hx hb dL_law_709 (by decide) ?_
  refine lv_iadd hx hb dL_law_710 ?_
  refine lw_sld hx hb hX hbl hS h1 dL_law_711 ?_
  obtain ⟨x_1, hx_1, hm⟩ := Option.bind_eq_some_iff.mp hm
  refine lw_m hC hGx hLD (k_X3_toFirst l k b Lb hLD.2.1 q1 zm hx_1) (gV w_1132 w_1133 w_1134 w_27 w_1135) kk_X3_toFirst rfl ⟨Nat.le_of_ble_eq_true rfl, Nat.le_of_ble_eq_true rfl⟩ ⟨Nat.le_trans (show cells + 4 ≤ 450000 by omega) rm_c, Nat.le_trans (show slots + 21 ≤ 4000000 by omega) rm_s⟩ hI hS hl.1 rfl rfl (Nat.le_of_ble_eq_true rfl) dL_law_712 (fun H hI hS => ?_)
  refine lv_istore (lv' := [(6, .int x_1.1), (5, .int (wk 1 1 ((m_X0_toFirst q1 z).1))), (4, .int i), (3, .ref o), (2, .ref b.1), (1, .ref a.1), (0, .ref bs)]) hx hb dL_law_715 hl (by decide) rfl (fun ls hl => ?_)
  refine lv_goto (tgt := 2249) hx hb dL_law_717 (by decide) ?_
  obtain rfl := Option.some.inj hm
  exact W.widen (k := cells + 772) (n := slots + 6282) (by omega) (by omega) (kk H ls hI hS (lv_sub hl [2, 3, 4, 5, 6] rfl))
set_option maxRecDepth 100000 in
def o_lc_11 (q1 q2 q3 q4 : Int32) (z : CS) (v : Int64) (zm : MS) : Option (CS × Int64 × MS) := (if ¬ ((m_X0_toLast q1 z).1 = 0 ∨ (m_X0_toLast q1 z).1 = 1) then none else ((o_X3_toLast q1 zm).bind fun x_1 => some ((m_X0_toLast q1 z).2.2, (if (m_X0_toLast q1 z).1 = 0 then ((m_X0_toLast q1 z).2.1).toInt64 else v), x_1.2)))
set_option maxRecDepth 100000 in
set_option maxHeartbeats 4000000 in
theorem lc_11 {p : Program} {l : Launch} (hl9 : l.stackTraces = false) {e : Env} {s : State} {m : MethodId} {below : List Frame} {meth : Method} {c : Code} {bs L : Nat} {xs : Nat → Int32} {k : Kx} {a b : CA} {o : Nat} {Lb : List Nat} {Q : State → Prop} (hC : CallFix p m c cL_law 7 s #[.ref bs] (Cond.tt :: GL) RL) (hGx : Gx k s) (hLD : LD k a o b Lb s) (hX : va_X bs L xs s s.heap) (hbl : bs < s.heap.size) {i q1 q2 q3 q4 : Int32} (h1 : vp_in (i + (1 : Int32)) L ∧ xs (i + (1 : Int32)).toNatClampNeg = q1) (h2 : vp_in (i + (2 : Int32)) L ∧ xs (i + (2 : Int32)).toNatClampNeg = q2) (h3 : vp_in (i + (3 : Int32)) L ∧ xs (i + (3 : Int32)).toNatClampNeg = q3) (h4 : vp_in (i + (4 : Int32)) L ∧ xs (i + (4 : Int32)).toNatClampNeg = q4) {z : CS} {v : Int64} {zm : MS} {H : Heap} {ls : Array Slot} {cells slots : Nat} (hl : lv_has ls 7 [(4, .int i), (3, .ref o), (2, .ref b.1), (1, .ref a.1), (0, .ref bs)]) (hI : LI k a o b Lb z v zm H) (hS : va_S (nA s.heap.size) s.heap H []) (hc : cells + 772 ≤ 450000 ∧ slots + 6282 ≤ 4000000) {r : CS × Int64 × MS} (hm : o_lc_11 q1 q2 q3 q4 z v zm = some r) (kk : ∀ (H1 : Heap) (ls1 : Array Slot), LI k a o b Lb r.1 r.2.1 r.2.2 H1 → va_S (nA s.heap.size) s.heap H1 [] → lv_has ls1 7 [(4, .int i), (3, .ref o), (2, .ref b.1), (1, .ref a.1), (0, .ref bs)] → W p l e room_1 s m #[.ref bs] below meth c H1 [] (cells + 772) (slots + 6282) Q (F0 m 2249 ls1 [])) : W p l e room_1 s m #[.ref bs] below meth c H [] cells slots Q (F0 m 720 ls []) := by
  have hx := hC.1
  have hb := hC.2.1
  refine lv_aload_n hx hb dL_law_720 rfl (lv_at hl 3 rfl) ?_
  refine lv_aload_n hx hb dL_law_721 rfl (lv_at hl 4 rfl) ?_
  refine lv_iload hx hb dL_law_722 (lv_at hl 0 rfl) ?_
  refine lv_iconst (v := 1) hx hb dL_law_724 (by decide) ?_
  refine lv_iadd hx hb dL_law_725 ?_
  refine lw_sld hx hb hX hbl hS h1 dL_law_726 ?_
  refine lv_aload_n hx hb dL_law_727 rfl (lv_at hl 1 rfl) ?_
  by_cases h_1 : ¬ ((m_X0_toLast q1 z).1 = 0 ∨ (m_X0_toLast q1 z).1 = 1)
  · have hm := (if_pos h_1).symm.trans hm
    cases hm
  have hm := (if_neg h_1).symm.trans hm
  refine lw_w hC hGx hLD (k_L_toLast l hl9 k a hLD.1 o q1 z v (Decidable.of_not_not h_1)) (gSW w_735 w_736 w_25 w_737) kw_L_toLast ⟨Nat.le_of_ble_eq_true rfl, Nat.le_of_ble_eq_true rfl⟩ ⟨Nat.le_trans (show cells + 3 ≤ 450000 by omega) rm_c, Nat.le_trans (show slots + 18 ≤ 4000000 by omega) rm_s⟩ hI hS hl.1 rfl rfl (Nat.le_of_ble_eq_true rfl) dL_law_728 (fun H hI hS => ?_)
  refine lv_istore (lv' := [(5, .int (wk 1 1 ((m_X0_toLast q1 z).1))), (4, .int i), (3, .ref o), (2, .ref b.1), (1, .ref a.1), (0, .ref bs)]) hx hb dL_law_731 hl (by decide) rfl (fun ls hl => ?_)
  refine lv_aload_n hx hb dL_law_733 rfl (lv_at hl 3 rfl) ?_
  refine lv_aload_n hx hb dL_law_734 rfl (lv_at hl 5 rfl) ?_
  refine lv_iload hx hb dL_law_735 (lv_at hl 1 rfl) ?_
  refine lv_iconst (v := 1) hx hb dL_law_737 (by decide) ?_
  refine lv_iadd hx hb dL_law_738 ?_
  refine lw_sld hx hb hX hbl hS h1 dL_law_739 ?_
  obtain ⟨x_1, hx_1, hm⟩ := Option.bind_eq_some_iff.mp hm
  refine lw_m hC hGx hLD (k_X3_toLast l k b Lb hLD.2.1 q1 zm hx_1) (gV w_1136 w_1137 w_1138 w_27 w_1139) kk_X3_toLast rfl ⟨Nat.le_of_ble_eq_true rfl, Nat.le_of_ble_eq_true rfl⟩ ⟨Nat.le_trans (show cells + 4 ≤ 450000 by omega) rm_c, Nat.le_trans (show slots + 21 ≤ 4000000 by omega) rm_s⟩ hI hS hl.1 rfl rfl (Nat.le_of_ble_eq_true rfl) dL_law_740 (fun H hI hS => ?_)
  refine lv_istore (lv' := [(6, .int x_1.1), (5, .int (wk 1 1 ((m_X0_toLast q1 z).1))), (4, .int i), (3, .ref o), (2, .ref b.1), (1, .ref a.1), (0, .ref bs)]) hx hb dL_law_743 hl (by decide) rfl (fun ls hl => ?_)
  refine lv_goto (tgt := 2249) hx hb dL_law_745 (by decide) ?_
  obtain rfl := Option.some.inj hm
  exact W.widen (k := cells + 772) (n := slots + 6282) (by omega) (by omega) (kk H ls hI hS (lv_sub hl [2, 3, 4, 5, 6] rfl))
set_option maxRecDepth 100000 in
def o_lc_12 (q1 q2 q3 q4 : Int32) (z : CS) (v : Int64) (zm : MS) : Option (CS × Int64 × MS) := (if ¬ ((m_X0_plusDays q1 q2 z).1 = 0 ∨ (m_X0_plusDays q1 q2 z).1 = 1 ∨ (m_X0_plusDays q1 q2 z).1 = 2 ∨ (m_X0_plusDays q1 q2 z).1 = 3) then none else ((o_X3_plusDays q1 q2 zm).bind fun x_1 => some ((m_X0_plusDays q1 q2 z).2.2, (if (m_X0_plusDays q1 q2 z).1 = 0 then ((m_X0_plusDays q1 q2 z).2.1).toInt64 else v), x_1.2)))
set_option maxRecDepth 100000 in
set_option maxHeartbeats 4000000 in
theorem lc_12 {p : Program} {l : Launch} (hl9 : l.stackTraces = false) {e : Env} {s : State} {m : MethodId} {below : List Frame} {meth : Method} {c : Code} {bs L : Nat} {xs : Nat → Int32} {k : Kx} {a b : CA} {o : Nat} {Lb : List Nat} {Q : State → Prop} (hC : CallFix p m c cL_law 7 s #[.ref bs] (Cond.tt :: GL) RL) (hGx : Gx k s) (hLD : LD k a o b Lb s) (hX : va_X bs L xs s s.heap) (hbl : bs < s.heap.size) {i q1 q2 q3 q4 : Int32} (h1 : vp_in (i + (1 : Int32)) L ∧ xs (i + (1 : Int32)).toNatClampNeg = q1) (h2 : vp_in (i + (2 : Int32)) L ∧ xs (i + (2 : Int32)).toNatClampNeg = q2) (h3 : vp_in (i + (3 : Int32)) L ∧ xs (i + (3 : Int32)).toNatClampNeg = q3) (h4 : vp_in (i + (4 : Int32)) L ∧ xs (i + (4 : Int32)).toNatClampNeg = q4) {z : CS} {v : Int64} {zm : MS} {H : Heap} {ls : Array Slot} {cells slots : Nat} (hl : lv_has ls 7 [(4, .int i), (3, .ref o), (2, .ref b.1), (1, .ref a.1), (0, .ref bs)]) (hI : LI k a o b Lb z v zm H) (hS : va_S (nA s.heap.size) s.heap H []) (hc : cells + 772 ≤ 450000 ∧ slots + 6282 ≤ 4000000) {r : CS × Int64 × MS} (hm : o_lc_12 q1 q2 q3 q4 z v zm = some r) (kk : ∀ (H1 : Heap) (ls1 : Array Slot), LI k a o b Lb r.1 r.2.1 r.2.2 H1 → va_S (nA s.heap.size) s.heap H1 [] → lv_has ls1 7 [(4, .int i), (3, .ref o), (2, .ref b.1), (1, .ref a.1), (0, .ref bs)] → W p l e room_1 s m #[.ref bs] below meth c H1 [] (cells + 772) (slots + 6282) Q (F0 m 2249 ls1 [])) : W p l e room_1 s m #[.ref bs] below meth c H [] cells slots Q (F0 m 748 ls []) := by
  have hx := hC.1
  have hb := hC.2.1
  refine lv_aload_n hx hb dL_law_748 rfl (lv_at hl 3 rfl) ?_
  refine lv_aload_n hx hb dL_law_749 rfl (lv_at hl 4 rfl) ?_
  refine lv_iload hx hb dL_law_750 (lv_at hl 0 rfl) ?_
  refine lv_iconst (v := 1) hx hb dL_law_752 (by decide) ?_
  refine lv_iadd hx hb dL_law_753 ?_
  refine lw_sld hx hb hX hbl hS h1 dL_law_754 ?_
  refine lv_aload_n hx hb dL_law_755 rfl (lv_at hl 4 rfl) ?_
  refine lv_iload hx hb dL_law_756 (lv_at hl 0 rfl) ?_
  refine lv_iconst (v := 2) hx hb dL_law_758 (by decide) ?_
  refine lv_iadd hx hb dL_law_759 ?_
  refine lw_sld hx hb hX hbl hS h2 dL_law_760 ?_
  refine lv_aload_n hx hb dL_law_761 rfl (lv_at hl 1 rfl) ?_
  by_cases h_1 : ¬ ((m_X0_plusDays q1 q2 z).1 = 0 ∨ (m_X0_plusDays q1 q2 z).1 = 1 ∨ (m_X0_plusDays q1 q2 z).1 = 2 ∨ (m_X0_plusDays q1 q2 z).1 = 3)
  · have hm := (if_pos h_1).symm.trans hm
    cases hm
  have hm := (if_neg h_1).symm.trans hm
  refine lw_w hC hGx hLD (k_L_plusDays l hl9 k a hLD.1 o q1 q2 z v (Decidable.of_not_not h_1)) (gSW w_742 w_743 w_25 w_744) kw_L_plusDays ⟨Nat.le_of_ble_eq_true rfl, Nat.le_of_ble_eq_true rfl⟩ ⟨Nat.le_trans (show cells + 4 ≤ 450000 by omega) rm_c, Nat.le_trans (show slots + 24 ≤ 4000000 by omega) rm_s⟩ hI hS hl.1 rfl rfl (Nat.le_of_ble_eq_true rfl) dL_law_762 (fun H hI hS => ?_)
  refine lv_istore (lv' := [(5, .int (wk 1 2 ((m_X0_plusDays q1 q2 z).1))), (4, .int i), (3, .ref o), (2, .ref b.1), (1, .ref a.1), (0, .ref bs)]) hx hb dL_law_765 hl (by decide) rfl (fun ls hl => ?_)
  refine lv_aload_n hx hb dL_law_767 rfl (lv_at hl 3 rfl) ?_
  refine lv_aload_n hx hb dL_law_768 rfl (lv_at hl 5 rfl) ?_
  refine lv_iload hx hb dL_law_769 (lv_at hl 1 rfl) ?_
  refine lv_iconst (v := 1) hx hb dL_law_771 (by decide) ?_
  refine lv_iadd hx hb dL_law_772 ?_
  refine lw_sld hx hb hX hbl hS h1 dL_law_773 ?_
  refine lv_aload_n hx hb dL_law_774 rfl (lv_at hl 5 rfl) ?_
  refine lv_iload hx hb dL_law_775 (lv_at hl 1 rfl) ?_
  refine lv_iconst (v := 2) hx hb dL_law_777 (by decide) ?_
  refine lv_iadd hx hb dL_law_778 ?_
  refine lw_sld hx hb hX hbl hS h2 dL_law_779 ?_
  obtain ⟨x_1, hx_1, hm⟩ := Option.bind_eq_some_iff.mp hm
  refine lw_m hC hGx hLD (k_X3_plusDays l k b Lb hLD.2.1 q1 q2 zm hx_1) (gV w_1140 w_1141 w_1142 w_27 w_1143) kk_X3_plusDays rfl ⟨Nat.le_of_ble_eq_true rfl, Nat.le_of_ble_eq_true rfl⟩ ⟨Nat.le_trans (show cells + 5 ≤ 450000 by omega) rm_c, Nat.le_trans (show slots + 27 ≤ 4000000 by omega) rm_s⟩ hI hS hl.1 rfl rfl (Nat.le_of_ble_eq_true rfl) dL_law_780 (fun H hI hS => ?_)
  refine lv_istore (lv' := [(6, .int x_1.1), (5, .int (wk 1 2 ((m_X0_plusDays q1 q2 z).1))), (4, .int i), (3, .ref o), (2, .ref b.1), (1, .ref a.1), (0, .ref bs)]) hx hb dL_law_783 hl (by decide) rfl (fun ls hl => ?_)
  refine lv_goto (tgt := 2249) hx hb dL_law_785 (by decide) ?_
  obtain rfl := Option.some.inj hm
  exact W.widen (k := cells + 772) (n := slots + 6282) (by omega) (by omega) (kk H ls hI hS (lv_sub hl [2, 3, 4, 5, 6] rfl))
set_option maxRecDepth 100000 in
def o_lc_13 (q1 q2 q3 q4 : Int32) (z : CS) (v : Int64) (zm : MS) : Option (CS × Int64 × MS) := (if ¬ ((m_X0_plusWeeks q1 q2 z).1 = 0 ∨ (m_X0_plusWeeks q1 q2 z).1 = 1 ∨ (m_X0_plusWeeks q1 q2 z).1 = 2 ∨ (m_X0_plusWeeks q1 q2 z).1 = 3) then none else ((o_X3_plusWeeks q1 q2 zm).bind fun x_1 => some ((m_X0_plusWeeks q1 q2 z).2.2, (if (m_X0_plusWeeks q1 q2 z).1 = 0 then ((m_X0_plusWeeks q1 q2 z).2.1).toInt64 else v), x_1.2)))
set_option maxRecDepth 100000 in
set_option maxHeartbeats 4000000 in
theorem lc_13 {p : Program} {l : Launch} (hl9 : l.stackTraces = false) {e : Env} {s : State} {m : MethodId} {below : List Frame} {meth : Method} {c : Code} {bs L : Nat} {xs : Nat → Int32} {k : Kx} {a b : CA} {o : Nat} {Lb : List Nat} {Q : State → Prop} (hC : CallFix p m c cL_law 7 s #[.ref bs] (Cond.tt :: GL) RL) (hGx : Gx k s) (hLD : LD k a o b Lb s) (hX : va_X bs L xs s s.heap) (hbl : bs < s.heap.size) {i q1 q2 q3 q4 : Int32} (h1 : vp_in (i + (1 : Int32)) L ∧ xs (i + (1 : Int32)).toNatClampNeg = q1) (h2 : vp_in (i + (2 : Int32)) L ∧ xs (i + (2 : Int32)).toNatClampNeg = q2) (h3 : vp_in (i + (3 : Int32)) L ∧ xs (i + (3 : Int32)).toNatClampNeg = q3) (h4 : vp_in (i + (4 : Int32)) L ∧ xs (i + (4 : Int32)).toNatClampNeg = q4) {z : CS} {v : Int64} {zm : MS} {H : Heap} {ls : Array Slot} {cells slots : Nat} (hl : lv_has ls 7 [(4, .int i), (3, .ref o), (2, .ref b.1), (1, .ref a.1), (0, .ref bs)]) (hI : LI k a o b Lb z v zm H) (hS : va_S (nA s.heap.size) s.heap H []) (hc : cells + 772 ≤ 450000 ∧ slots + 6282 ≤ 4000000) {r : CS × Int64 × MS} (hm : o_lc_13 q1 q2 q3 q4 z v zm = some r) (kk : ∀ (H1 : Heap) (ls1 : Array Slot), LI k a o b Lb r.1 r.2.1 r.2.2 H1 → va_S (nA s.heap.size) s.heap H1 [] → lv_has ls1 7 [(4, .int i), (3, .ref o), (2, .ref b.1), (1, .ref a.1), (0, .ref bs)] → W p l e room_1 s m #[.ref bs] below meth c H1 [] (cells + 772) (slots + 6282) Q (F0 m 2249 ls1 [])) : W p l e room_1 s m #[.ref bs] below meth c H [] cells slots Q (F0 m 788 ls []) := by
  have hx := hC.1
  have hb := hC.2.1
  refine lv_aload_n hx hb dL_law_788 rfl (lv_at hl 3 rfl) ?_
  refine lv_aload_n hx hb dL_law_789 rfl (lv_at hl 4 rfl) ?_
  refine lv_iload hx hb dL_law_790 (lv_at hl 0 rfl) ?_
  refine lv_iconst (v := 1) hx hb dL_law_792 (by decide) ?_
  refine lv_iadd hx hb dL_law_793 ?_
  refine lw_sld hx hb hX hbl hS h1 dL_law_794 ?_
  refine lv_aload_n hx hb dL_law_795 rfl (lv_at hl 4 rfl) ?_
  refine lv_iload hx hb dL_law_796 (lv_at hl 0 rfl) ?_
  refine lv_iconst (v := 2) hx hb dL_law_798 (by decide) ?_
  refine lv_iadd hx hb dL_law_799 ?_
  refine lw_sld hx hb hX hbl hS h2 dL_law_800 ?_
  refine lv_aload_n hx hb dL_law_801 rfl (lv_at hl 1 rfl) ?_
  by_cases h_1 : ¬ ((m_X0_plusWeeks q1 q2 z).1 = 0 ∨ (m_X0_plusWeeks q1 q2 z).1 = 1 ∨ (m_X0_plusWeeks q1 q2 z).1 = 2 ∨ (m_X0_plusWeeks q1 q2 z).1 = 3)
  · have hm := (if_pos h_1).symm.trans hm
    cases hm
  have hm := (if_neg h_1).symm.trans hm
  refine lw_w hC hGx hLD (k_L_plusWeeks l hl9 k a hLD.1 o q1 q2 z v (Decidable.of_not_not h_1)) (gSW w_764 w_765 w_25 w_766) kw_L_plusWeeks ⟨Nat.le_of_ble_eq_true rfl, Nat.le_of_ble_eq_true rfl⟩ ⟨Nat.le_trans (show cells + 4 ≤ 450000 by omega) rm_c, Nat.le_trans (show slots + 24 ≤ 4000000 by omega) rm_s⟩ hI hS hl.1 rfl rfl (Nat.le_of_ble_eq_true rfl) dL_law_802 (fun H hI hS => ?_)
  refine lv_istore (lv' := [(5, .int (wk 1 2 ((m_X0_plusWeeks q1 q2 z).1))), (4, .int i), (3, .ref o), (2, .ref b.1), (1, .ref a.1), (0, .ref bs)]) hx hb dL_law_805 hl (by decide) rfl (fun ls hl => ?_)
  refine lv_aload_n hx hb dL_law_807 rfl (lv_at hl 3 rfl) ?_
  refine lv_aload_n hx hb dL_law_808 rfl (lv_at hl 5 rfl) ?_
  refine lv_iload hx hb dL_law_809 (lv_at hl 1 rfl) ?_
  refine lv_iconst (v := 1) hx hb dL_law_811 (by decide) ?_
  refine lv_iadd hx hb dL_law_812 ?_
  refine lw_sld hx hb hX hbl hS h1 dL_law_813 ?_
  refine lv_aload_n hx hb dL_law_814 rfl (lv_at hl 5 rfl) ?_
  refine lv_iload hx hb dL_law_815 (lv_at hl 1 rfl) ?_
  refine lv_iconst (v := 2) hx hb dL_law_817 (by decide) ?_
  refine lv_iadd hx hb dL_law_818 ?_
  refine lw_sld hx hb hX hbl hS h2 dL_law_819 ?_
  obtain ⟨x_1, hx_1, hm⟩ := Option.bind_eq_some_iff.mp hm
  refine lw_m hC hGx hLD (k_X3_plusWeeks l k b Lb hLD.2.1 q1 q2 zm hx_1) (gV w_1165 w_1166 w_1167 w_27 w_1168) kk_X3_plusWeeks rfl ⟨Nat.le_of_ble_eq_true rfl, Nat.le_of_ble_eq_true rfl⟩ ⟨Nat.le_trans (show cells + 5 ≤ 450000 by omega) rm_c, Nat.le_trans (show slots + 27 ≤ 4000000 by omega) rm_s⟩ hI hS hl.1 rfl rfl (Nat.le_of_ble_eq_true rfl) dL_law_820 (fun H hI hS => ?_)
  refine lv_istore (lv' := [(6, .int x_1.1), (5, .int (wk 1 2 ((m_X0_plusWeeks q1 q2 z).1))), (4, .int i), (3, .ref o), (2, .ref b.1), (1, .ref a.1), (0, .ref bs)]) hx hb dL_law_823 hl (by decide) rfl (fun ls hl => ?_)
  refine lv_goto (tgt := 2249) hx hb dL_law_825 (by decide) ?_
  obtain rfl := Option.some.inj hm
  exact W.widen (k := cells + 772) (n := slots + 6282) (by omega) (by omega) (kk H ls hI hS (lv_sub hl [2, 3, 4, 5, 6] rfl))
set_option maxRecDepth 100000 in
def o_lc_14 (q1 q2 q3 q4 : Int32) (z : CS) (v : Int64) (zm : MS) : Option (CS × Int64 × MS) := (if ¬ ((m_X0_plusMonths q1 q2 z).1 = 0 ∨ (m_X0_plusMonths q1 q2 z).1 = 1 ∨ (m_X0_plusMonths q1 q2 z).1 = 2 ∨ (m_X0_plusMonths q1 q2 z).1 = 3) then none else ((o_X3_plusMonths q1 q2 zm).bind fun x_1 => some ((m_X0_plusMonths q1 q2 z).2.2, (if (m_X0_plusMonths q1 q2 z).1 = 0 then ((m_X0_plusMonths q1 q2 z).2.1).toInt64 else v), x_1.2)))
set_option maxRecDepth 100000 in
set_option maxHeartbeats 4000000 in
theorem lc_14 {p : Program} {l : Launch} (hl9 : l.stackTraces = false) {e : Env} {s : State} {m : MethodId} {below : List Frame} {meth : Method} {c : Code} {bs L : Nat} {xs : Nat → Int32} {k : Kx} {a b : CA} {o : Nat} {Lb : List Nat} {Q : State → Prop} (hC : CallFix p m c cL_law 7 s #[.ref bs] (Cond.tt :: GL) RL) (hGx : Gx k s) (hLD : LD k a o b Lb s) (hX : va_X bs L xs s s.heap) (hbl : bs < s.heap.size) {i q1 q2 q3 q4 : Int32} (h1 : vp_in (i + (1 : Int32)) L ∧ xs (i + (1 : Int32)).toNatClampNeg = q1) (h2 : vp_in (i + (2 : Int32)) L ∧ xs (i + (2 : Int32)).toNatClampNeg = q2) (h3 : vp_in (i + (3 : Int32)) L ∧ xs (i + (3 : Int32)).toNatClampNeg = q3) (h4 : vp_in (i + (4 : Int32)) L ∧ xs (i + (4 : Int32)).toNatClampNeg = q4) {z : CS} {v : Int64} {zm : MS} {H : Heap} {ls : Array Slot} {cells slots : Nat} (hl : lv_has ls 7 [(4, .int i), (3, .ref o), (2, .ref b.1), (1, .ref a.1), (0, .ref bs)]) (hI : LI k a o b Lb z v zm H) (hS : va_S (nA s.heap.size) s.heap H []) (hc : cells + 772 ≤ 450000 ∧ slots + 6282 ≤ 4000000) {r : CS × Int64 × MS} (hm : o_lc_14 q1 q2 q3 q4 z v zm = some r) (kk : ∀ (H1 : Heap) (ls1 : Array Slot), LI k a o b Lb r.1 r.2.1 r.2.2 H1 → va_S (nA s.heap.size) s.heap H1 [] → lv_has ls1 7 [(4, .int i), (3, .ref o), (2, .ref b.1), (1, .ref a.1), (0, .ref bs)] → W p l e room_1 s m #[.ref bs] below meth c H1 [] (cells + 772) (slots + 6282) Q (F0 m 2249 ls1 [])) : W p l e room_1 s m #[.ref bs] below meth c H [] cells slots Q (F0 m 828 ls []) := by
  have hx := hC.1
  have hb := hC.2.1
  refine lv_aload_n hx hb dL_law_828 rfl (lv_at hl 3 rfl) ?_
  refine lv_aload_n hx hb dL_law_829 rfl (lv_at hl 4 rfl) ?_
  refine lv_iload hx hb dL_law_830 (lv_at hl 0 rfl) ?_
  refine lv_iconst (v := 1) hx hb dL_law_832 (by decide) ?_
  refine lv_iadd hx hb dL_law_833 ?_
  refine lw_sld hx hb hX hbl hS h1 dL_law_834 ?_
  refine lv_aload_n hx hb dL_law_835 rfl (lv_at hl 4 rfl) ?_
  refine lv_iload hx hb dL_law_836 (lv_at hl 0 rfl) ?_
  refine lv_iconst (v := 2) hx hb dL_law_838 (by decide) ?_
  refine lv_iadd hx hb dL_law_839 ?_
  refine lw_sld hx hb hX hbl hS h2 dL_law_840 ?_
  refine lv_aload_n hx hb dL_law_841 rfl (lv_at hl 1 rfl) ?_
  by_cases h_1 : ¬ ((m_X0_plusMonths q1 q2 z).1 = 0 ∨ (m_X0_plusMonths q1 q2 z).1 = 1 ∨ (m_X0_plusMonths q1 q2 z).1 = 2 ∨ (m_X0_plusMonths q1 q2 z).1 = 3)
  · have hm := (if_pos h_1).symm.trans hm
    cases hm
  have hm := (if_neg h_1).symm.trans hm
  refine lw_w hC hGx hLD (k_L_plusMonths l hl9 k a hLD.1 o q1 q2 z v (Decidable.of_not_not h_1)) (gSW w_771 w_772 w_25 w_773) kw_L_plusMonths ⟨Nat.le_of_ble_eq_true rfl, Nat.le_of_ble_eq_true rfl⟩ ⟨Nat.le_trans (show cells + 4 ≤ 450000 by omega) rm_c, Nat.le_trans (show slots + 24 ≤ 4000000 by omega) rm_s⟩ hI hS hl.1 rfl rfl (Nat.le_of_ble_eq_true rfl) dL_law_842 (fun H hI hS => ?_)
  refine lv_istore (lv' := [(5, .int (wk 1 2 ((m_X0_plusMonths q1 q2 z).1))), (4, .int i), (3, .ref o), (2, .ref b.1), (1, .ref a.1), (0, .ref bs)]) hx hb dL_law_845 hl (by decide) rfl (fun ls hl => ?_)
  refine lv_aload_n hx hb dL_law_847 rfl (lv_at hl 3 rfl) ?_
  refine lv_aload_n hx hb dL_law_848 rfl (lv_at hl 5 rfl) ?_
  refine lv_iload hx hb dL_law_849 (lv_at hl 1 rfl) ?_
  refine lv_iconst (v := 1) hx hb dL_law_851 (by decide) ?_
  refine lv_iadd hx hb dL_law_852 ?_
  refine lw_sld hx hb hX hbl hS h1 dL_law_853 ?_
  refine lv_aload_n hx hb dL_law_854 rfl (lv_at hl 5 rfl) ?_
  refine lv_iload hx hb dL_law_855 (lv_at hl 1 rfl) ?_
  refine lv_iconst (v := 2) hx hb dL_law_857 (by decide) ?_
  refine lv_iadd hx hb dL_law_858 ?_
  refine lw_sld hx hb hX hbl hS h2 dL_law_859 ?_
  obtain ⟨x_1, hx_1, hm⟩ := Option.bind_eq_some_iff.mp hm
  refine lw_m hC hGx hLD (k_X3_plusMonths l k b Lb hLD.2.1 q1 q2 zm hx_1) (gV w_1169 w_1170 w_1171 w_27 w_1172) kk_X3_plusMonths rfl ⟨Nat.le_of_ble_eq_true rfl, Nat.le_of_ble_eq_true rfl⟩ ⟨Nat.le_trans (show cells + 5 ≤ 450000 by omega) rm_c, Nat.le_trans (show slots + 27 ≤ 4000000 by omega) rm_s⟩ hI hS hl.1 rfl rfl (Nat.le_of_ble_eq_true rfl) dL_law_860 (fun H hI hS => ?_)
  refine lv_istore (lv' := [(6, .int x_1.1), (5, .int (wk 1 2 ((m_X0_plusMonths q1 q2 z).1))), (4, .int i), (3, .ref o), (2, .ref b.1), (1, .ref a.1), (0, .ref bs)]) hx hb dL_law_863 hl (by decide) rfl (fun ls hl => ?_)
  refine lv_goto (tgt := 2249) hx hb dL_law_865 (by decide) ?_
  obtain rfl := Option.some.inj hm
  exact W.widen (k := cells + 772) (n := slots + 6282) (by omega) (by omega) (kk H ls hI hS (lv_sub hl [2, 3, 4, 5, 6] rfl))
set_option maxRecDepth 100000 in
def o_lc_15 (q1 q2 q3 q4 : Int32) (z : CS) (v : Int64) (zm : MS) : Option (CS × Int64 × MS) := (if ¬ ((m_X0_plusYears q1 q2 z).1 = 0 ∨ (m_X0_plusYears q1 q2 z).1 = 1 ∨ (m_X0_plusYears q1 q2 z).1 = 2 ∨ (m_X0_plusYears q1 q2 z).1 = 3) then none else ((o_X3_plusYears q1 q2 zm).bind fun x_1 => some ((m_X0_plusYears q1 q2 z).2.2, (if (m_X0_plusYears q1 q2 z).1 = 0 then ((m_X0_plusYears q1 q2 z).2.1).toInt64 else v), x_1.2)))
set_option maxRecDepth 100000 in
set_option maxHeartbeats 4000000 in
theorem lc_15 {p : Program} {l : Launch} (hl9 : l.stackTraces = false) {e : Env} {s : State} {m : MethodId} {below : List Frame} {meth : Method} {c : Code} {bs L : Nat} {xs : Nat → Int32} {k : Kx} {a b : CA} {o : Nat} {Lb : List Nat} {Q : State → Prop} (hC : CallFix p m c cL_law 7 s #[.ref bs] (Cond.tt :: GL) RL) (hGx : Gx k s) (hLD : LD k a o b Lb s) (hX : va_X bs L xs s s.heap) (hbl : bs < s.heap.size) {i q1 q2 q3 q4 : Int32} (h1 : vp_in (i + (1 : Int32)) L ∧ xs (i + (1 : Int32)).toNatClampNeg = q1) (h2 : vp_in (i + (2 : Int32)) L ∧ xs (i + (2 : Int32)).toNatClampNeg = q2) (h3 : vp_in (i + (3 : Int32)) L ∧ xs (i + (3 : Int32)).toNatClampNeg = q3) (h4 : vp_in (i + (4 : Int32)) L ∧ xs (i + (4 : Int32)).toNatClampNeg = q4) {z : CS} {v : Int64} {zm : MS} {H : Heap} {ls : Array Slot} {cells slots : Nat} (hl : lv_has ls 7 [(4, .int i), (3, .ref o), (2, .ref b.1), (1, .ref a.1), (0, .ref bs)]) (hI : LI k a o b Lb z v zm H) (hS : va_S (nA s.heap.size) s.heap H []) (hc : cells + 772 ≤ 450000 ∧ slots + 6282 ≤ 4000000) {r : CS × Int64 × MS} (hm : o_lc_15 q1 q2 q3 q4 z v zm = some r) (kk : ∀ (H1 : Heap) (ls1 : Array Slot), LI k a o b Lb r.1 r.2.1 r.2.2 H1 → va_S (nA s.heap.size) s.heap H1 [] → lv_has ls1 7 [(4, .int i), (3, .ref o), (2, .ref b.1), (1, .ref a.1), (0, .ref bs)] → W p l e room_1 s m #[.ref bs] below meth c H1 [] (cells + 772) (slots + 6282) Q (F0 m 2249 ls1 [])) : W p l e room_1 s m #[.ref bs] below meth c H [] cells slots Q (F0 m 868 ls []) := by
  have hx := hC.1
  have hb := hC.2.1
  refine lv_aload_n hx hb dL_law_868 rfl (lv_at hl 3 rfl) ?_
  refine lv_aload_n hx hb dL_law_869 rfl (lv_at hl 4 rfl) ?_
  refine lv_iload hx hb dL_law_870 (lv_at hl 0 rfl) ?_
  refine lv_iconst (v := 1) hx hb dL_law_872 (by decide) ?_
  refine lv_iadd hx hb dL_law_873 ?_
  refine lw_sld hx hb hX hbl hS h1 dL_law_874 ?_
  refine lv_aload_n hx hb dL_law_875 rfl (lv_at hl 4 rfl) ?_
  refine lv_iload hx hb dL_law_876 (lv_at hl 0 rfl) ?_
  refine lv_iconst (v := 2) hx hb dL_law_878 (by decide) ?_
  refine lv_iadd hx hb dL_law_879 ?_
  refine lw_sld hx hb hX hbl hS h2 dL_law_880 ?_
  refine lv_aload_n hx hb dL_law_881 rfl (lv_at hl 1 rfl) ?_
  by_cases h_1 : ¬ ((m_X0_plusYears q1 q2 z).1 = 0 ∨ (m_X0_plusYears q1 q2 z).1 = 1 ∨ (m_X0_plusYears q1 q2 z).1 = 2 ∨ (m_X0_plusYears q1 q2 z).1 = 3)
  · have hm := (if_pos h_1).symm.trans hm
    cases hm
  have hm := (if_neg h_1).symm.trans hm
  refine lw_w hC hGx hLD (k_L_plusYears l hl9 k a hLD.1 o q1 q2 z v (Decidable.of_not_not h_1)) (gSW w_778 w_779 w_25 w_780) kw_L_plusYears ⟨Nat.le_of_ble_eq_true rfl, Nat.le_of_ble_eq_true rfl⟩ ⟨Nat.le_trans (show cells + 4 ≤ 450000 by omega) rm_c, Nat.le_trans (show slots + 24 ≤ 4000000 by omega) rm_s⟩ hI hS hl.1 rfl rfl (Nat.le_of_ble_eq_true rfl) dL_law_882 (fun H hI hS => ?_)
  refine lv_istore (lv' := [(5, .int (wk 1 2 ((m_X0_plusYears q1 q2 z).1))), (4, .int i), (3, .ref o), (2, .ref b.1), (1, .ref a.1), (0, .ref bs)]) hx hb dL_law_885 hl (by decide) rfl (fun ls hl => ?_)
  refine lv_aload_n hx hb dL_law_887 rfl (lv_at hl 3 rfl) ?_
  refine lv_aload_n hx hb dL_law_888 rfl (lv_at hl 5 rfl) ?_
  refine lv_iload hx hb dL_law_889 (lv_at hl 1 rfl) ?_
  refine lv_iconst (v := 1) hx hb dL_law_891 (by decide) ?_
  refine lv_iadd hx hb dL_law_892 ?_
  refine lw_sld hx hb hX hbl hS h1 dL_law_893 ?_
  refine lv_aload_n hx hb dL_law_894 rfl (lv_at hl 5 rfl) ?_
  refine lv_iload hx hb dL_law_895 (lv_at hl 1 rfl) ?_
  refine lv_iconst (v := 2) hx hb dL_law_897 (by decide) ?_
  refine lv_iadd hx hb dL_law_898 ?_
  refine lw_sld hx hb hX hbl hS h2 dL_law_899 ?_
  obtain ⟨x_1, hx_1, hm⟩ := Option.bind_eq_some_iff.mp hm
  refine lw_m hC hGx hLD (k_X3_plusYears l k b Lb hLD.2.1 q1 q2 zm hx_1) (gV w_1173 w_1174 w_1175 w_27 w_1176) kk_X3_plusYears rfl ⟨Nat.le_of_ble_eq_true rfl, Nat.le_of_ble_eq_true rfl⟩ ⟨Nat.le_trans (show cells + 5 ≤ 450000 by omega) rm_c, Nat.le_trans (show slots + 27 ≤ 4000000 by omega) rm_s⟩ hI hS hl.1 rfl rfl (Nat.le_of_ble_eq_true rfl) dL_law_900 (fun H hI hS => ?_)
  refine lv_istore (lv' := [(6, .int x_1.1), (5, .int (wk 1 2 ((m_X0_plusYears q1 q2 z).1))), (4, .int i), (3, .ref o), (2, .ref b.1), (1, .ref a.1), (0, .ref bs)]) hx hb dL_law_903 hl (by decide) rfl (fun ls hl => ?_)
  refine lv_goto (tgt := 2249) hx hb dL_law_905 (by decide) ?_
  obtain rfl := Option.some.inj hm
  exact W.widen (k := cells + 772) (n := slots + 6282) (by omega) (by omega) (kk H ls hI hS (lv_sub hl [2, 3, 4, 5, 6] rfl))
set_option maxRecDepth 100000 in
def o_lc_16 (q1 q2 q3 q4 : Int32) (z : CS) (v : Int64) (zm : MS) : Option (CS × Int64 × MS) := (if ¬ ((m_X0_minusDays q1 q2 z).1 = 0 ∨ (m_X0_minusDays q1 q2 z).1 = 1 ∨ (m_X0_minusDays q1 q2 z).1 = 2 ∨ (m_X0_minusDays q1 q2 z).1 = 3) then none else ((o_X3_minusDays q1 q2 zm).bind fun x_1 => some ((m_X0_minusDays q1 q2 z).2.2, (if (m_X0_minusDays q1 q2 z).1 = 0 then ((m_X0_minusDays q1 q2 z).2.1).toInt64 else v), x_1.2)))
set_option maxRecDepth 100000 in
set_option maxHeartbeats 4000000 in
theorem lc_16 {p : Program} {l : Launch} (hl9 : l.stackTraces = false) {e : Env} {s : State} {m : MethodId} {below : List Frame} {meth : Method} {c : Code} {bs L : Nat} {xs : Nat → Int32} {k : Kx} {a b : CA} {o : Nat} {Lb : List Nat} {Q : State → Prop} (hC : CallFix p m c cL_law 7 s #[.ref bs] (Cond.tt :: GL) RL) (hGx : Gx k s) (hLD : LD k a o b Lb s) (hX : va_X bs L xs s s.heap) (hbl : bs < s.heap.size) {i q1 q2 q3 q4 : Int32} (h1 : vp_in (i + (1 : Int32)) L ∧ xs (i + (1 : Int32)).toNatClampNeg = q1) (h2 : vp_in (i + (2 : Int32)) L ∧ xs (i + (2 : Int32)).toNatClampNeg = q2) (h3 : vp_in (i + (3 : Int32)) L ∧ xs (i + (3 : Int32)).toNatClampNeg = q3) (h4 : vp_in (i + (4 : Int32)) L ∧ xs (i + (4 : Int32)).toNatClampNeg = q4) {z : CS} {v : Int64} {zm : MS} {H : Heap} {ls : Array Slot} {cells slots : Nat} (hl : lv_has ls 7 [(4, .int i), (3, .ref o), (2, .ref b.1), (1, .ref a.1), (0, .ref bs)]) (hI : LI k a o b Lb z v zm H) (hS : va_S (nA s.heap.size) s.heap H []) (hc : cells + 772 ≤ 450000 ∧ slots + 6282 ≤ 4000000) {r : CS × Int64 × MS} (hm : o_lc_16 q1 q2 q3 q4 z v zm = some r) (kk : ∀ (H1 : Heap) (ls1 : Array Slot), LI k a o b Lb r.1 r.2.1 r.2.2 H1 → va_S (nA s.heap.size) s.heap H1 [] → lv_has ls1 7 [(4, .int i), (3, .ref o), (2, .ref b.1), (1, .ref a.1), (0, .ref bs)] → W p l e room_1 s m #[.ref bs] below meth c H1 [] (cells + 772) (slots + 6282) Q (F0 m 2249 ls1 [])) : W p l e room_1 s m #[.ref bs] below meth c H [] cells slots Q (F0 m 908 ls []) := by
  have hx := hC.1
  have hb := hC.2.1
  refine lv_aload_n hx hb dL_law_908 rfl (lv_at hl 3 rfl) ?_
  refine lv_aload_n hx hb dL_law_909 rfl (lv_at hl 4 rfl) ?_
  refine lv_iload hx hb dL_law_910 (lv_at hl 0 rfl) ?_
  refine lv_iconst (v := 1) hx hb dL_law_912 (by decide) ?_
  refine lv_iadd hx hb dL_law_913 ?_
  refine lw_sld hx hb hX hbl hS h1 dL_law_914 ?_
  refine lv_aload_n hx hb dL_law_915 rfl (lv_at hl 4 rfl) ?_
  refine lv_iload hx hb dL_law_916 (lv_at hl 0 rfl) ?_
  refine lv_iconst (v := 2) hx hb dL_law_918 (by decide) ?_
  refine lv_iadd hx hb dL_law_919 ?_
  refine lw_sld hx hb hX hbl hS h2 dL_law_920 ?_
  refine lv_aload_n hx hb dL_law_921 rfl (lv_at hl 1 rfl) ?_
  by_cases h_1 : ¬ ((m_X0_minusDays q1 q2 z).1 = 0 ∨ (m_X0_minusDays q1 q2 z).1 = 1 ∨ (m_X0_minusDays q1 q2 z).1 = 2 ∨ (m_X0_minusDays q1 q2 z).1 = 3)
  · have hm := (if_pos h_1).symm.trans hm
    cases hm
  have hm := (if_neg h_1).symm.trans hm
  refine lw_w hC hGx hLD (k_L_minusDays l hl9 k a hLD.1 o q1 q2 z v (Decidable.of_not_not h_1)) (gSW w_785 w_786 w_25 w_787) kw_L_minusDays ⟨Nat.le_of_ble_eq_true rfl, Nat.le_of_ble_eq_true rfl⟩ ⟨Nat.le_trans (show cells + 4 ≤ 450000 by omega) rm_c, Nat.le_trans (show slots + 24 ≤ 4000000 by omega) rm_s⟩ hI hS hl.1 rfl rfl (Nat.le_of_ble_eq_true rfl) dL_law_922 (fun H hI hS => ?_)
  refine lv_istore (lv' := [(5, .int (wk 1 2 ((m_X0_minusDays q1 q2 z).1))), (4, .int i), (3, .ref o), (2, .ref b.1), (1, .ref a.1), (0, .ref bs)]) hx hb dL_law_925 hl (by decide) rfl (fun ls hl => ?_)
  refine lv_aload_n hx hb dL_law_927 rfl (lv_at hl 3 rfl) ?_
  refine lv_aload_n hx hb dL_law_928 rfl (lv_at hl 5 rfl) ?_
  refine lv_iload hx hb dL_law_929 (lv_at hl 1 rfl) ?_
  refine lv_iconst (v := 1) hx hb dL_law_931 (by decide) ?_
  refine lv_iadd hx hb dL_law_932 ?_
  refine lw_sld hx hb hX hbl hS h1 dL_law_933 ?_
  refine lv_aload_n hx hb dL_law_934 rfl (lv_at hl 5 rfl) ?_
  refine lv_iload hx hb dL_law_935 (lv_at hl 1 rfl) ?_
  refine lv_iconst (v := 2) hx hb dL_law_937 (by decide) ?_
  refine lv_iadd hx hb dL_law_938 ?_
  refine lw_sld hx hb hX hbl hS h2 dL_law_939 ?_
  obtain ⟨x_1, hx_1, hm⟩ := Option.bind_eq_some_iff.mp hm
  refine lw_m hC hGx hLD (k_X3_minusDays l k b Lb hLD.2.1 q1 q2 zm hx_1) (gV w_1177 w_1178 w_1179 w_27 w_1180) kk_X3_minusDays rfl ⟨Nat.le_of_ble_eq_true rfl, Nat.le_of_ble_eq_true rfl⟩ ⟨Nat.le_trans (show cells + 5 ≤ 450000 by omega) rm_c, Nat.le_trans (show slots + 27 ≤ 4000000 by omega) rm_s⟩ hI hS hl.1 rfl rfl (Nat.le_of_ble_eq_true rfl) dL_law_940 (fun H hI hS => ?_)
  refine lv_istore (lv' := [(6, .int x_1.1), (5, .int (wk 1 2 ((m_X0_minusDays q1 q2 z).1))), (4, .int i), (3, .ref o), (2, .ref b.1), (1, .ref a.1), (0, .ref bs)]) hx hb dL_law_943 hl (by decide) rfl (fun ls hl => ?_)
  refine lv_goto (tgt := 2249) hx hb dL_law_945 (by decide) ?_
  obtain rfl := Option.some.inj hm
  exact W.widen (k := cells + 772) (n := slots + 6282) (by omega) (by omega) (kk H ls hI hS (lv_sub hl [2, 3, 4, 5, 6] rfl))
set_option maxRecDepth 100000 in
def o_lc_17 (q1 q2 q3 q4 : Int32) (z : CS) (v : Int64) (zm : MS) : Option (CS × Int64 × MS) := (if ¬ ((m_X0_minusWeeks q1 q2 z).1 = 0 ∨ (m_X0_minusWeeks q1 q2 z).1 = 1 ∨ (m_X0_minusWeeks q1 q2 z).1 = 2 ∨ (m_X0_minusWeeks q1 q2 z).1 = 3) then none else ((o_X3_minusWeeks q1 q2 zm).bind fun x_1 => some ((m_X0_minusWeeks q1 q2 z).2.2, (if (m_X0_minusWeeks q1 q2 z).1 = 0 then ((m_X0_minusWeeks q1 q2 z).2.1).toInt64 else v), x_1.2)))
set_option maxRecDepth 100000 in
set_option maxHeartbeats 4000000 in
theorem lc_17 {p : Program} {l : Launch} (hl9 : l.stackTraces = false) {e : Env} {s : State} {m : MethodId} {below : List Frame} {meth : Method} {c : Code} {bs L : Nat} {xs : Nat → Int32} {k : Kx} {a b : CA} {o : Nat} {Lb : List Nat} {Q : State → Prop} (hC : CallFix p m c cL_law 7 s #[.ref bs] (Cond.tt :: GL) RL) (hGx : Gx k s) (hLD : LD k a o b Lb s) (hX : va_X bs L xs s s.heap) (hbl : bs < s.heap.size) {i q1 q2 q3 q4 : Int32} (h1 : vp_in (i + (1 : Int32)) L ∧ xs (i + (1 : Int32)).toNatClampNeg = q1) (h2 : vp_in (i + (2 : Int32)) L ∧ xs (i + (2 : Int32)).toNatClampNeg = q2) (h3 : vp_in (i + (3 : Int32)) L ∧ xs (i + (3 : Int32)).toNatClampNeg = q3) (h4 : vp_in (i + (4 : Int32)) L ∧ xs (i + (4 : Int32)).toNatClampNeg = q4) {z : CS} {v : Int64} {zm : MS} {H : Heap} {ls : Array Slot} {cells slots : Nat} (hl : lv_has ls 7 [(4, .int i), (3, .ref o), (2, .ref b.1), (1, .ref a.1), (0, .ref bs)]) (hI : LI k a o b Lb z v zm H) (hS : va_S (nA s.heap.size) s.heap H []) (hc : cells + 772 ≤ 450000 ∧ slots + 6282 ≤ 4000000) {r : CS × Int64 × MS} (hm : o_lc_17 q1 q2 q3 q4 z v zm = some r) (kk : ∀ (H1 : Heap) (ls1 : Array Slot), LI k a o b Lb r.1 r.2.1 r.2.2 H1 → va_S (nA s.heap.size) s.heap H1 [] → lv_has ls1 7 [(4, .int i), (3, .ref o), (2, .ref b.1), (1, .ref a.1), (0, .ref bs)] → W p l e room_1 s m #[.ref bs] below meth c H1 [] (cells + 772) (slots + 6282) Q (F0 m 2249 ls1 [])) : W p l e room_1 s m #[.ref bs] below meth c H [] cells slots Q (F0 m 948 ls []) := by
  have hx := hC.1
  have hb := hC.2.1
  refine lv_aload_n hx hb dL_law_948 rfl (lv_at hl 3 rfl) ?_
  refine lv_aload_n hx hb dL_law_949 rfl (lv_at hl 4 rfl) ?_
  refine lv_iload hx hb dL_law_950 (lv_at hl 0 rfl) ?_
  refine lv_iconst (v := 1) hx hb dL_law_952 (by decide) ?_
  refine lv_iadd hx hb dL_law_953 ?_
  refine lw_sld hx hb hX hbl hS h1 dL_law_954 ?_
  refine lv_aload_n hx hb dL_law_955 rfl (lv_at hl 4 rfl) ?_
  refine lv_iload hx hb dL_law_956 (lv_at hl 0 rfl) ?_
  refine lv_iconst (v := 2) hx hb dL_law_958 (by decide) ?_
  refine lv_iadd hx hb dL_law_959 ?_
  refine lw_sld hx hb hX hbl hS h2 dL_law_960 ?_
  refine lv_aload_n hx hb dL_law_961 rfl (lv_at hl 1 rfl) ?_
  by_cases h_1 : ¬ ((m_X0_minusWeeks q1 q2 z).1 = 0 ∨ (m_X0_minusWeeks q1 q2 z).1 = 1 ∨ (m_X0_minusWeeks q1 q2 z).1 = 2 ∨ (m_X0_minusWeeks q1 q2 z).1 = 3)
  · have hm := (if_pos h_1).symm.trans hm
    cases hm
  have hm := (if_neg h_1).symm.trans hm
  refine lw_w hC hGx hLD (k_L_minusWeeks l hl9 k a hLD.1 o q1 q2 z v (Decidable.of_not_not h_1)) (gSW w_792 w_793 w_25 w_794) kw_L_minusWeeks ⟨Nat.le_of_ble_eq_true rfl, Nat.le_of_ble_eq_true rfl⟩ ⟨Nat.le_trans (show cells + 4 ≤ 450000 by omega) rm_c, Nat.le_trans (show slots + 24 ≤ 4000000 by omega) rm_s⟩ hI hS hl.1 rfl rfl (Nat.le_of_ble_eq_true rfl) dL_law_962 (fun H hI hS => ?_)
  refine lv_istore (lv' := [(5, .int (wk 1 2 ((m_X0_minusWeeks q1 q2 z).1))), (4, .int i), (3, .ref o), (2, .ref b.1), (1, .ref a.1), (0, .ref bs)]) hx hb dL_law_965 hl (by decide) rfl (fun ls hl => ?_)
  refine lv_aload_n hx hb dL_law_967 rfl (lv_at hl 3 rfl) ?_
  refine lv_aload_n hx hb dL_law_968 rfl (lv_at hl 5 rfl) ?_
  refine lv_iload hx hb dL_law_969 (lv_at hl 1 rfl) ?_
  refine lv_iconst (v := 1) hx hb dL_law_971 (by decide) ?_
  refine lv_iadd hx hb dL_law_972 ?_
  refine lw_sld hx hb hX hbl hS h1 dL_law_973 ?_
  refine lv_aload_n hx hb dL_law_974 rfl (lv_at hl 5 rfl) ?_
  refine lv_iload hx hb dL_law_975 (lv_at hl 1 rfl) ?_
  refine lv_iconst (v := 2) hx hb dL_law_977 (by decide) ?_
  refine lv_iadd hx hb dL_law_978 ?_
  refine lw_sld hx hb hX hbl hS h2 dL_law_979 ?_
  obtain ⟨x_1, hx_1, hm⟩ := Option.bind_eq_some_iff.mp hm
  refine lw_m hC hGx hLD (k_X3_minusWeeks l k b Lb hLD.2.1 q1 q2 zm hx_1) (gV w_1181 w_1182 w_1183 w_27 w_1184) kk_X3_minusWeeks rfl ⟨Nat.le_of_ble_eq_true rfl, Nat.le_of_ble_eq_true rfl⟩ ⟨Nat.le_trans (show cells + 5 ≤ 450000 by omega) rm_c, Nat.le_trans (show slots + 27 ≤ 4000000 by omega) rm_s⟩ hI hS hl.1 rfl rfl (Nat.le_of_ble_eq_true rfl) dL_law_980 (fun H hI hS => ?_)
  refine lv_istore (lv' := [(6, .int x_1.1), (5, .int (wk 1 2 ((m_X0_minusWeeks q1 q2 z).1))), (4, .int i), (3, .ref o), (2, .ref b.1), (1, .ref a.1), (0, .ref bs)]) hx hb dL_law_983 hl (by decide) rfl (fun ls hl => ?_)
  refine lv_goto (tgt := 2249) hx hb dL_law_985 (by decide) ?_
  obtain rfl := Option.some.inj hm
  exact W.widen (k := cells + 772) (n := slots + 6282) (by omega) (by omega) (kk H ls hI hS (lv_sub hl [2, 3, 4, 5, 6] rfl))
set_option maxRecDepth 100000 in
def o_lc_18 (q1 q2 q3 q4 : Int32) (z : CS) (v : Int64) (zm : MS) : Option (CS × Int64 × MS) := (if ¬ ((m_X0_minusMonths q1 q2 z).1 = 0 ∨ (m_X0_minusMonths q1 q2 z).1 = 1 ∨ (m_X0_minusMonths q1 q2 z).1 = 2 ∨ (m_X0_minusMonths q1 q2 z).1 = 3) then none else ((o_X3_minusMonths q1 q2 zm).bind fun x_1 => some ((m_X0_minusMonths q1 q2 z).2.2, (if (m_X0_minusMonths q1 q2 z).1 = 0 then ((m_X0_minusMonths q1 q2 z).2.1).toInt64 else v), x_1.2)))
set_option maxRecDepth 100000 in
set_option maxHeartbeats 4000000 in
theorem lc_18 {p : Program} {l : Launch} (hl9 : l.stackTraces = false) {e : Env} {s : State} {m : MethodId} {below : List Frame} {meth : Method} {c : Code} {bs L : Nat} {xs : Nat → Int32} {k : Kx} {a b : CA} {o : Nat} {Lb : List Nat} {Q : State → Prop} (hC : CallFix p m c cL_law 7 s #[.ref bs] (Cond.tt :: GL) RL) (hGx : Gx k s) (hLD : LD k a o b Lb s) (hX : va_X bs L xs s s.heap) (hbl : bs < s.heap.size) {i q1 q2 q3 q4 : Int32} (h1 : vp_in (i + (1 : Int32)) L ∧ xs (i + (1 : Int32)).toNatClampNeg = q1) (h2 : vp_in (i + (2 : Int32)) L ∧ xs (i + (2 : Int32)).toNatClampNeg = q2) (h3 : vp_in (i + (3 : Int32)) L ∧ xs (i + (3 : Int32)).toNatClampNeg = q3) (h4 : vp_in (i + (4 : Int32)) L ∧ xs (i + (4 : Int32)).toNatClampNeg = q4) {z : CS} {v : Int64} {zm : MS} {H : Heap} {ls : Array Slot} {cells slots : Nat} (hl : lv_has ls 7 [(4, .int i), (3, .ref o), (2, .ref b.1), (1, .ref a.1), (0, .ref bs)]) (hI : LI k a o b Lb z v zm H) (hS : va_S (nA s.heap.size) s.heap H []) (hc : cells + 772 ≤ 450000 ∧ slots + 6282 ≤ 4000000) {r : CS × Int64 × MS} (hm : o_lc_18 q1 q2 q3 q4 z v zm = some r) (kk : ∀ (H1 : Heap) (ls1 : Array Slot), LI k a o b Lb r.1 r.2.1 r.2.2 H1 → va_S (nA s.heap.size) s.heap H1 [] → lv_has ls1 7 [(4, .int i), (3, .ref o), (2, .ref b.1), (1, .ref a.1), (0, .ref bs)] → W p l e room_1 s m #[.ref bs] below meth c H1 [] (cells + 772) (slots + 6282) Q (F0 m 2249 ls1 [])) : W p l e room_1 s m #[.ref bs] below meth c H [] cells slots Q (F0 m 988 ls []) := by
  have hx := hC.1
  have hb := hC.2.1
  refine lv_aload_n hx hb dL_law_988 rfl (lv_at hl 3 rfl) ?_
  refine lv_aload_n hx hb dL_law_989 rfl (lv_at hl 4 rfl) ?_
  refine lv_iload hx hb dL_law_990 (lv_at hl 0 rfl) ?_
  refine lv_iconst (v := 1) hx hb dL_law_992 (by decide) ?_
  refine lv_iadd hx hb dL_law_993 ?_
  refine lw_sld hx hb hX hbl hS h1 dL_law_994 ?_
  refine lv_aload_n hx hb dL_law_995 rfl (lv_at hl 4 rfl) ?_
  refine lv_iload hx hb dL_law_996 (lv_at hl 0 rfl) ?_
  refine lv_iconst (v := 2) hx hb dL_law_998 (by decide) ?_
  refine lv_iadd hx hb dL_law_999 ?_
  refine lw_sld hx hb hX hbl hS h2 dL_law_1000 ?_
  refine lv_aload_n hx hb dL_law_1001 rfl (lv_at hl 1 rfl) ?_
  by_cases h_1 : ¬ ((m_X0_minusMonths q1 q2 z).1 = 0 ∨ (m_X0_minusMonths q1 q2 z).1 = 1 ∨ (m_X0_minusMonths q1 q2 z).1 = 2 ∨ (m_X0_minusMonths q1 q2 z).1 = 3)
  · have hm := (if_pos h_1).symm.trans hm
    cases hm
  have hm := (if_neg h_1).symm.trans hm
  refine lw_w hC hGx hLD (k_L_minusMonths l hl9 k a hLD.1 o q1 q2 z v (Decidable.of_not_not h_1)) (gSW w_799 w_800 w_25 w_801) kw_L_minusMonths ⟨Nat.le_of_ble_eq_true rfl, Nat.le_of_ble_eq_true rfl⟩ ⟨Nat.le_trans (show cells + 4 ≤ 450000 by omega) rm_c, Nat.le_trans (show slots + 24 ≤ 4000000 by omega) rm_s⟩ hI hS hl.1 rfl rfl (Nat.le_of_ble_eq_true rfl) dL_law_1002 (fun H hI hS => ?_)
  refine lv_istore (lv' := [(5, .int (wk 1 2 ((m_X0_minusMonths q1 q2 z).1))), (4, .int i), (3, .ref o), (2, .ref b.1), (1, .ref a.1), (0, .ref bs)]) hx hb dL_law_1005 hl (by decide) rfl (fun ls hl => ?_)
  refine lv_aload_n hx hb dL_law_1007 rfl (lv_at hl 3 rfl) ?_
  refine lv_aload_n hx hb dL_law_1008 rfl (lv_at hl 5 rfl) ?_
  refine lv_iload hx hb dL_law_1009 (lv_at hl 1 rfl) ?_
  refine lv_iconst (v := 1) hx hb dL_law_1011 (by decide) ?_
  refine lv_iadd hx hb dL_law_1012 ?_
  refine lw_sld hx hb hX hbl hS h1 dL_law_1013 ?_
  refine lv_aload_n hx hb dL_law_1014 rfl (lv_at hl 5 rfl) ?_
  refine lv_iload hx hb dL_law_1015 (lv_at hl 1 rfl) ?_
  refine lv_iconst (v := 2) hx hb dL_law_1017 (by decide) ?_
  refine lv_iadd hx hb dL_law_1018 ?_
  refine lw_sld hx hb hX hbl hS h2 dL_law_1019 ?_
  obtain ⟨x_1, hx_1, hm⟩ := Option.bind_eq_some_iff.mp hm
  refine lw_m hC hGx hLD (k_X3_minusMonths l k b Lb hLD.2.1 q1 q2 zm hx_1) (gV w_1185 w_1186 w_1187 w_27 w_1188) kk_X3_minusMonths rfl ⟨Nat.le_of_ble_eq_true rfl, Nat.le_of_ble_eq_true rfl⟩ ⟨Nat.le_trans (show cells + 5 ≤ 450000 by omega) rm_c, Nat.le_trans (show slots + 27 ≤ 4000000 by omega) rm_s⟩ hI hS hl.1 rfl rfl (Nat.le_of_ble_eq_true rfl) dL_law_1020 (fun H hI hS => ?_)
  refine lv_istore (lv' := [(6, .int x_1.1), (5, .int (wk 1 2 ((m_X0_minusMonths q1 q2 z).1))), (4, .int i), (3, .ref o), (2, .ref b.1), (1, .ref a.1), (0, .ref bs)]) hx hb dL_law_1023 hl (by decide) rfl (fun ls hl => ?_)
  refine lv_goto (tgt := 2249) hx hb dL_law_1025 (by decide) ?_
  obtain rfl := Option.some.inj hm
  exact W.widen (k := cells + 772) (n := slots + 6282) (by omega) (by omega) (kk H ls hI hS (lv_sub hl [2, 3, 4, 5, 6] rfl))
set_option maxRecDepth 100000 in
def o_lc_19 (q1 q2 q3 q4 : Int32) (z : CS) (v : Int64) (zm : MS) : Option (CS × Int64 × MS) := (if ¬ ((m_X0_minusYears q1 q2 z).1 = 0 ∨ (m_X0_minusYears q1 q2 z).1 = 1 ∨ (m_X0_minusYears q1 q2 z).1 = 2 ∨ (m_X0_minusYears q1 q2 z).1 = 3) then none else ((o_X3_minusYears q1 q2 zm).bind fun x_1 => some ((m_X0_minusYears q1 q2 z).2.2, (if (m_X0_minusYears q1 q2 z).1 = 0 then ((m_X0_minusYears q1 q2 z).2.1).toInt64 else v), x_1.2)))
set_option maxRecDepth 100000 in
set_option maxHeartbeats 4000000 in
theorem lc_19 {p : Program} {l : Launch} (hl9 : l.stackTraces = false) {e : Env} {s : State} {m : MethodId} {below : List Frame} {meth : Method} {c : Code} {bs L : Nat} {xs : Nat → Int32} {k : Kx} {a b : CA} {o : Nat} {Lb : List Nat} {Q : State → Prop} (hC : CallFix p m c cL_law 7 s #[.ref bs] (Cond.tt :: GL) RL) (hGx : Gx k s) (hLD : LD k a o b Lb s) (hX : va_X bs L xs s s.heap) (hbl : bs < s.heap.size) {i q1 q2 q3 q4 : Int32} (h1 : vp_in (i + (1 : Int32)) L ∧ xs (i + (1 : Int32)).toNatClampNeg = q1) (h2 : vp_in (i + (2 : Int32)) L ∧ xs (i + (2 : Int32)).toNatClampNeg = q2) (h3 : vp_in (i + (3 : Int32)) L ∧ xs (i + (3 : Int32)).toNatClampNeg = q3) (h4 : vp_in (i + (4 : Int32)) L ∧ xs (i + (4 : Int32)).toNatClampNeg = q4) {z : CS} {v : Int64} {zm : MS} {H : Heap} {ls : Array Slot} {cells slots : Nat} (hl : lv_has ls 7 [(4, .int i), (3, .ref o), (2, .ref b.1), (1, .ref a.1), (0, .ref bs)]) (hI : LI k a o b Lb z v zm H) (hS : va_S (nA s.heap.size) s.heap H []) (hc : cells + 772 ≤ 450000 ∧ slots + 6282 ≤ 4000000) {r : CS × Int64 × MS} (hm : o_lc_19 q1 q2 q3 q4 z v zm = some r) (kk : ∀ (H1 : Heap) (ls1 : Array Slot), LI k a o b Lb r.1 r.2.1 r.2.2 H1 → va_S (nA s.heap.size) s.heap H1 [] → lv_has ls1 7 [(4, .int i), (3, .ref o), (2, .ref b.1), (1, .ref a.1), (0, .ref bs)] → W p l e room_1 s m #[.ref bs] below meth c H1 [] (cells + 772) (slots + 6282) Q (F0 m 2249 ls1 [])) : W p l e room_1 s m #[.ref bs] below meth c H [] cells slots Q (F0 m 1028 ls []) := by
  have hx := hC.1
  have hb := hC.2.1
  refine lv_aload_n hx hb dL_law_1028 rfl (lv_at hl 3 rfl) ?_
  refine lv_aload_n hx hb dL_law_1029 rfl (lv_at hl 4 rfl) ?_
  refine lv_iload hx hb dL_law_1030 (lv_at hl 0 rfl) ?_
  refine lv_iconst (v := 1) hx hb dL_law_1032 (by decide) ?_
  refine lv_iadd hx hb dL_law_1033 ?_
  refine lw_sld hx hb hX hbl hS h1 dL_law_1034 ?_
  refine lv_aload_n hx hb dL_law_1035 rfl (lv_at hl 4 rfl) ?_
  refine lv_iload hx hb dL_law_1036 (lv_at hl 0 rfl) ?_
  refine lv_iconst (v := 2) hx hb dL_law_1038 (by decide) ?_
  refine lv_iadd hx hb dL_law_1039 ?_
  refine lw_sld hx hb hX hbl hS h2 dL_law_1040 ?_
  refine lv_aload_n hx hb dL_law_1041 rfl (lv_at hl 1 rfl) ?_
  by_cases h_1 : ¬ ((m_X0_minusYears q1 q2 z).1 = 0 ∨ (m_X0_minusYears q1 q2 z).1 = 1 ∨ (m_X0_minusYears q1 q2 z).1 = 2 ∨ (m_X0_minusYears q1 q2 z).1 = 3)
  · have hm := (if_pos h_1).symm.trans hm
    cases hm
  have hm := (if_neg h_1).symm.trans hm
  refine lw_w hC hGx hLD (k_L_minusYears l hl9 k a hLD.1 o q1 q2 z v (Decidable.of_not_not h_1)) (gSW w_806 w_807 w_25 w_808) kw_L_minusYears ⟨Nat.le_of_ble_eq_true rfl, Nat.le_of_ble_eq_true rfl⟩ ⟨Nat.le_trans (show cells + 4 ≤ 450000 by omega) rm_c, Nat.le_trans (show slots + 24 ≤ 4000000 by omega) rm_s⟩ hI hS hl.1 rfl rfl (Nat.le_of_ble_eq_true rfl) dL_law_1042 (fun H hI hS => ?_)
  refine lv_istore (lv' := [(5, .int (wk 1 2 ((m_X0_minusYears q1 q2 z).1))), (4, .int i), (3, .ref o), (2, .ref b.1), (1, .ref a.1), (0, .ref bs)]) hx hb dL_law_1045 hl (by decide) rfl (fun ls hl => ?_)
  refine lv_aload_n hx hb dL_law_1047 rfl (lv_at hl 3 rfl) ?_
  refine lv_aload_n hx hb dL_law_1048 rfl (lv_at hl 5 rfl) ?_
  refine lv_iload hx hb dL_law_1049 (lv_at hl 1 rfl) ?_
  refine lv_iconst (v := 1) hx hb dL_law_1051 (by decide) ?_
  refine lv_iadd hx hb dL_law_1052 ?_
  refine lw_sld hx hb hX hbl hS h1 dL_law_1053 ?_
  refine lv_aload_n hx hb dL_law_1054 rfl (lv_at hl 5 rfl) ?_
  refine lv_iload hx hb dL_law_1055 (lv_at hl 1 rfl) ?_
  refine lv_iconst (v := 2) hx hb dL_law_1057 (by decide) ?_
  refine lv_iadd hx hb dL_law_1058 ?_
  refine lw_sld hx hb hX hbl hS h2 dL_law_1059 ?_
  obtain ⟨x_1, hx_1, hm⟩ := Option.bind_eq_some_iff.mp hm
  refine lw_m hC hGx hLD (k_X3_minusYears l k b Lb hLD.2.1 q1 q2 zm hx_1) (gV w_1189 w_1190 w_1191 w_27 w_1192) kk_X3_minusYears rfl ⟨Nat.le_of_ble_eq_true rfl, Nat.le_of_ble_eq_true rfl⟩ ⟨Nat.le_trans (show cells + 5 ≤ 450000 by omega) rm_c, Nat.le_trans (show slots + 27 ≤ 4000000 by omega) rm_s⟩ hI hS hl.1 rfl rfl (Nat.le_of_ble_eq_true rfl) dL_law_1060 (fun H hI hS => ?_)
  refine lv_istore (lv' := [(6, .int x_1.1), (5, .int (wk 1 2 ((m_X0_minusYears q1 q2 z).1))), (4, .int i), (3, .ref o), (2, .ref b.1), (1, .ref a.1), (0, .ref bs)]) hx hb dL_law_1063 hl (by decide) rfl (fun ls hl => ?_)
  refine lv_goto (tgt := 2249) hx hb dL_law_1065 (by decide) ?_
  obtain rfl := Option.some.inj hm
  exact W.widen (k := cells + 772) (n := slots + 6282) (by omega) (by omega) (kk H ls hI hS (lv_sub hl [2, 3, 4, 5, 6] rfl))
set_option maxRecDepth 100000 in
def o_lc_20 (q1 q2 q3 q4 : Int32) (z : CS) (v : Int64) (zm : MS) : Option (CS × Int64 × MS) := (if ¬ ((m_X0_span q1 q2 q3 q4 z).1 = 0 ∨ (m_X0_span q1 q2 q3 q4 z).1 = 1 ∨ (m_X0_span q1 q2 q3 q4 z).1 = 2) then none else ((o_X3_span q1 q2 q3 q4 zm).bind fun x_1 => some ((m_X0_span q1 q2 q3 q4 z).2.2, (if (m_X0_span q1 q2 q3 q4 z).1 = 0 then ((m_X0_span q1 q2 q3 q4 z).2.1).toInt64 else v), x_1.2)))
set_option maxRecDepth 100000 in
set_option maxHeartbeats 4000000 in
theorem lc_20 {p : Program} {l : Launch} (hl9 : l.stackTraces = false) {e : Env} {s : State} {m : MethodId} {below : List Frame} {meth : Method} {c : Code} {bs L : Nat} {xs : Nat → Int32} {k : Kx} {a b : CA} {o : Nat} {Lb : List Nat} {Q : State → Prop} (hC : CallFix p m c cL_law 7 s #[.ref bs] (Cond.tt :: GL) RL) (hGx : Gx k s) (hLD : LD k a o b Lb s) (hX : va_X bs L xs s s.heap) (hbl : bs < s.heap.size) {i q1 q2 q3 q4 : Int32} (h1 : vp_in (i + (1 : Int32)) L ∧ xs (i + (1 : Int32)).toNatClampNeg = q1) (h2 : vp_in (i + (2 : Int32)) L ∧ xs (i + (2 : Int32)).toNatClampNeg = q2) (h3 : vp_in (i + (3 : Int32)) L ∧ xs (i + (3 : Int32)).toNatClampNeg = q3) (h4 : vp_in (i + (4 : Int32)) L ∧ xs (i + (4 : Int32)).toNatClampNeg = q4) {z : CS} {v : Int64} {zm : MS} {H : Heap} {ls : Array Slot} {cells slots : Nat} (hl : lv_has ls 7 [(4, .int i), (3, .ref o), (2, .ref b.1), (1, .ref a.1), (0, .ref bs)]) (hI : LI k a o b Lb z v zm H) (hS : va_S (nA s.heap.size) s.heap H []) (hc : cells + 772 ≤ 450000 ∧ slots + 6282 ≤ 4000000) {r : CS × Int64 × MS} (hm : o_lc_20 q1 q2 q3 q4 z v zm = some r) (kk : ∀ (H1 : Heap) (ls1 : Array Slot), LI k a o b Lb r.1 r.2.1 r.2.2 H1 → va_S (nA s.heap.size) s.heap H1 [] → lv_has ls1 7 [(4, .int i), (3, .ref o), (2, .ref b.1), (1, .ref a.1), (0, .ref bs)] → W p l e room_1 s m #[.ref bs] below meth c H1 [] (cells + 772) (slots + 6282) Q (F0 m 2249 ls1 [])) : W p l e room_1 s m #[.ref bs] below meth c H [] cells slots Q (F0 m 1068 ls []) := by
  have hx := hC.1
  have hb := hC.2.1
  refine lv_aload_n hx hb dL_law_1068 rfl (lv_at hl 3 rfl) ?_
  refine lv_aload_n hx hb dL_law_1069 rfl (lv_at hl 4 rfl) ?_
  refine lv_iload hx hb dL_law_1070 (lv_at hl 0 rfl) ?_
  refine lv_iconst (v := 1) hx hb dL_law_1072 (by decide) ?_
  refine lv_iadd hx hb dL_law_1073 ?_
  refine lw_sld hx hb hX hbl hS h1 dL_law_1074 ?_
  refine lv_aload_n hx hb dL_law_1075 rfl (lv_at hl 4 rfl) ?_
  refine lv_iload hx hb dL_law_1076 (lv_at hl 0 rfl) ?_
  refine lv_iconst (v := 2) hx hb dL_law_1078 (by decide) ?_
  refine lv_iadd hx hb dL_law_1079 ?_
  refine lw_sld hx hb hX hbl hS h2 dL_law_1080 ?_
  refine lv_aload_n hx hb dL_law_1081 rfl (lv_at hl 4 rfl) ?_
  refine lv_iload hx hb dL_law_1082 (lv_at hl 0 rfl) ?_
  refine lv_iconst (v := 3) hx hb dL_law_1084 (by decide) ?_
  refine lv_iadd hx hb dL_law_1085 ?_
  refine lw_sld hx hb hX hbl hS h3 dL_law_1086 ?_
  refine lv_aload_n hx hb dL_law_1087 rfl (lv_at hl 4 rfl) ?_
  refine lv_iload hx hb dL_law_1088 (lv_at hl 0 rfl) ?_
  refine lv_iconst (v := 4) hx hb dL_law_1090 (by decide) ?_
  refine lv_iadd hx hb dL_law_1091 ?_
  refine lw_sld hx hb hX hbl hS h4 dL_law_1092 ?_
  refine lv_aload_n hx hb dL_law_1093 rfl (lv_at hl 1 rfl) ?_
  by_cases h_1 : ¬ ((m_X0_span q1 q2 q3 q4 z).1 = 0 ∨ (m_X0_span q1 q2 q3 q4 z).1 = 1 ∨ (m_X0_span q1 q2 q3 q4 z).1 = 2)
  · have hm := (if_pos h_1).symm.trans hm
    cases hm
  have hm := (if_neg h_1).symm.trans hm
  refine lw_w hC hGx hLD (k_L_span l hl9 k a hLD.1 o q1 q2 q3 q4 z v (Decidable.of_not_not h_1)) (gSW w_813 w_814 w_25 w_815) kw_L_span ⟨Nat.le_of_ble_eq_true rfl, Nat.le_of_ble_eq_true rfl⟩ ⟨Nat.le_trans (show cells + 6 ≤ 450000 by omega) rm_c, Nat.le_trans (show slots + 36 ≤ 4000000 by omega) rm_s⟩ hI hS hl.1 rfl rfl (Nat.le_of_ble_eq_true rfl) dL_law_1094 (fun H hI hS => ?_)
  refine lv_istore (lv' := [(5, .int (wk 1 2 ((m_X0_span q1 q2 q3 q4 z).1))), (4, .int i), (3, .ref o), (2, .ref b.1), (1, .ref a.1), (0, .ref bs)]) hx hb dL_law_1097 hl (by decide) rfl (fun ls hl => ?_)
  refine lv_aload_n hx hb dL_law_1099 rfl (lv_at hl 3 rfl) ?_
  refine lv_aload_n hx hb dL_law_1100 rfl (lv_at hl 5 rfl) ?_
  refine lv_iload hx hb dL_law_1101 (lv_at hl 1 rfl) ?_
  refine lv_iconst (v := 1) hx hb dL_law_1103 (by decide) ?_
  refine lv_iadd hx hb dL_law_1104 ?_
  refine lw_sld hx hb hX hbl hS h1 dL_law_1105 ?_
  refine lv_aload_n hx hb dL_law_1106 rfl (lv_at hl 5 rfl) ?_
  refine lv_iload hx hb dL_law_1107 (lv_at hl 1 rfl) ?_
  refine lv_iconst (v := 2) hx hb dL_law_1109 (by decide) ?_
  refine lv_iadd hx hb dL_law_1110 ?_
  refine lw_sld hx hb hX hbl hS h2 dL_law_1111 ?_
  refine lv_aload_n hx hb dL_law_1112 rfl (lv_at hl 5 rfl) ?_
  refine lv_iload hx hb dL_law_1113 (lv_at hl 1 rfl) ?_
  refine lv_iconst (v := 3) hx hb dL_law_1115 (by decide) ?_
  refine lv_iadd hx hb dL_law_1116 ?_
  refine lw_sld hx hb hX hbl hS h3 dL_law_1117 ?_
  refine lv_aload_n hx hb dL_law_1118 rfl (lv_at hl 5 rfl) ?_
  refine lv_iload hx hb dL_law_1119 (lv_at hl 1 rfl) ?_
  refine lv_iconst (v := 4) hx hb dL_law_1121 (by decide) ?_
  refine lv_iadd hx hb dL_law_1122 ?_
  refine lw_sld hx hb hX hbl hS h4 dL_law_1123 ?_
  obtain ⟨x_1, hx_1, hm⟩ := Option.bind_eq_some_iff.mp hm
  refine lw_m hC hGx hLD (k_X3_span l k b Lb hLD.2.1 q1 q2 q3 q4 zm hx_1) (gV w_1193 w_1194 w_1195 w_27 w_1196) kk_X3_span rfl ⟨Nat.le_of_ble_eq_true rfl, Nat.le_of_ble_eq_true rfl⟩ ⟨Nat.le_trans (show cells + 6 ≤ 450000 by omega) rm_c, Nat.le_trans (show slots + 36 ≤ 4000000 by omega) rm_s⟩ hI hS hl.1 rfl rfl (Nat.le_of_ble_eq_true rfl) dL_law_1124 (fun H hI hS => ?_)
  refine lv_istore (lv' := [(6, .int x_1.1), (5, .int (wk 1 2 ((m_X0_span q1 q2 q3 q4 z).1))), (4, .int i), (3, .ref o), (2, .ref b.1), (1, .ref a.1), (0, .ref bs)]) hx hb dL_law_1127 hl (by decide) rfl (fun ls hl => ?_)
  refine lv_goto (tgt := 2249) hx hb dL_law_1129 (by decide) ?_
  obtain rfl := Option.some.inj hm
  exact W.widen (k := cells + 772) (n := slots + 6282) (by omega) (by omega) (kk H ls hI hS (lv_sub hl [2, 3, 4, 5, 6] rfl))
set_option maxRecDepth 100000 in
def o_lc_21 (q1 q2 q3 q4 : Int32) (z : CS) (v : Int64) (zm : MS) : Option (CS × Int64 × MS) := (if ¬ ((m_X0_until q1 q2 q3 z).1 = 0 ∨ (m_X0_until q1 q2 q3 z).1 = 1 ∨ (m_X0_until q1 q2 q3 z).1 = 3) then none else ((o_X3_until q1 q2 q3 zm).bind fun x_1 => some ((m_X0_until q1 q2 q3 z).2.2, (if (m_X0_until q1 q2 q3 z).1 = 0 then ((m_X0_until q1 q2 q3 z).2.1).toInt64 else v), x_1.2)))
set_option maxRecDepth 100000 in
set_option maxHeartbeats 4000000 in
theorem lc_21 {p : Program} {l : Launch} (hl9 : l.stackTraces = false) {e : Env} {s : State} {m : MethodId} {below : List Frame} {meth : Method} {c : Code} {bs L : Nat} {xs : Nat → Int32} {k : Kx} {a b : CA} {o : Nat} {Lb : List Nat} {Q : State → Prop} (hC : CallFix p m c cL_law 7 s #[.ref bs] (Cond.tt :: GL) RL) (hGx : Gx k s) (hLD : LD k a o b Lb s) (hX : va_X bs L xs s s.heap) (hbl : bs < s.heap.size) {i q1 q2 q3 q4 : Int32} (h1 : vp_in (i + (1 : Int32)) L ∧ xs (i + (1 : Int32)).toNatClampNeg = q1) (h2 : vp_in (i + (2 : Int32)) L ∧ xs (i + (2 : Int32)).toNatClampNeg = q2) (h3 : vp_in (i + (3 : Int32)) L ∧ xs (i + (3 : Int32)).toNatClampNeg = q3) (h4 : vp_in (i + (4 : Int32)) L ∧ xs (i + (4 : Int32)).toNatClampNeg = q4) {z : CS} {v : Int64} {zm : MS} {H : Heap} {ls : Array Slot} {cells slots : Nat} (hl : lv_has ls 7 [(4, .int i), (3, .ref o), (2, .ref b.1), (1, .ref a.1), (0, .ref bs)]) (hI : LI k a o b Lb z v zm H) (hS : va_S (nA s.heap.size) s.heap H []) (hc : cells + 772 ≤ 450000 ∧ slots + 6282 ≤ 4000000) {r : CS × Int64 × MS} (hm : o_lc_21 q1 q2 q3 q4 z v zm = some r) (kk : ∀ (H1 : Heap) (ls1 : Array Slot), LI k a o b Lb r.1 r.2.1 r.2.2 H1 → va_S (nA s.heap.size) s.heap H1 [] → lv_has ls1 7 [(4, .int i), (3, .ref o), (2, .ref b.1), (1, .ref a.1), (0, .ref bs)] → W p l e room_1 s m #[.ref bs] below meth c H1 [] (cells + 772) (slots + 6282) Q (F0 m 2249 ls1 [])) : W p l e room_1 s m #[.ref bs] below meth c H [] cells slots Q (F0 m 1132 ls []) := by
  have hx := hC.1
  have hb := hC.2.1
  refine lv_aload_n hx hb dL_law_1132 rfl (lv_at hl 3 rfl) ?_
  refine lv_aload_n hx hb dL_law_1133 rfl (lv_at hl 4 rfl) ?_
  refine lv_iload hx hb dL_law_1134 (lv_at hl 0 rfl) ?_
  refine lv_iconst (v := 1) hx hb dL_law_1136 (by decide) ?_
  refine lv_iadd hx hb dL_law_1137 ?_
  refine lw_sld hx hb hX hbl hS h1 dL_law_1138 ?_
  refine lv_aload_n hx hb dL_law_1139 rfl (lv_at hl 4 rfl) ?_
  refine lv_iload hx hb dL_law_1140 (lv_at hl 0 rfl) ?_
  refine lv_iconst (v := 2) hx hb dL_law_1142 (by decide) ?_
  refine lv_iadd hx hb dL_law_1143 ?_
  refine lw_sld hx hb hX hbl hS h2 dL_law_1144 ?_
  refine lv_aload_n hx hb dL_law_1145 rfl (lv_at hl 4 rfl) ?_
  refine lv_iload hx hb dL_law_1146 (lv_at hl 0 rfl) ?_
  refine lv_iconst (v := 3) hx hb dL_law_1148 (by decide) ?_
  refine lv_iadd hx hb dL_law_1149 ?_
  refine lw_sld hx hb hX hbl hS h3 dL_law_1150 ?_
  refine lv_aload_n hx hb dL_law_1151 rfl (lv_at hl 1 rfl) ?_
  by_cases h_1 : ¬ ((m_X0_until q1 q2 q3 z).1 = 0 ∨ (m_X0_until q1 q2 q3 z).1 = 1 ∨ (m_X0_until q1 q2 q3 z).1 = 3)
  · have hm := (if_pos h_1).symm.trans hm
    cases hm
  have hm := (if_neg h_1).symm.trans hm
  refine lw_w hC hGx hLD (k_L_until l hl9 k a hLD.1 o q1 q2 q3 z v (Decidable.of_not_not h_1)) (gSW w_828 w_829 w_25 w_830) kw_L_until ⟨Nat.le_of_ble_eq_true rfl, Nat.le_of_ble_eq_true rfl⟩ ⟨Nat.le_trans (show cells + 5 ≤ 450000 by omega) rm_c, Nat.le_trans (show slots + 30 ≤ 4000000 by omega) rm_s⟩ hI hS hl.1 rfl rfl (Nat.le_of_ble_eq_true rfl) dL_law_1152 (fun H hI hS => ?_)
  refine lv_istore (lv' := [(5, .int (wk 1 3 ((m_X0_until q1 q2 q3 z).1))), (4, .int i), (3, .ref o), (2, .ref b.1), (1, .ref a.1), (0, .ref bs)]) hx hb dL_law_1155 hl (by decide) rfl (fun ls hl => ?_)
  refine lv_aload_n hx hb dL_law_1157 rfl (lv_at hl 3 rfl) ?_
  refine lv_aload_n hx hb dL_law_1158 rfl (lv_at hl 5 rfl) ?_
  refine lv_iload hx hb dL_law_1159 (lv_at hl 1 rfl) ?_
  refine lv_iconst (v := 1) hx hb dL_law_1161 (by decide) ?_
  refine lv_iadd hx hb dL_law_1162 ?_
  refine lw_sld hx hb hX hbl hS h1 dL_law_1163 ?_
  refine lv_aload_n hx hb dL_law_1164 rfl (lv_at hl 5 rfl) ?_
  refine lv_iload hx hb dL_law_1165 (lv_at hl 1 rfl) ?_
  refine lv_iconst (v := 2) hx hb dL_law_1167 (by decide) ?_
  refine lv_iadd hx hb dL_law_1168 ?_
  refine lw_sld hx hb hX hbl hS h2 dL_law_1169 ?_
  refine lv_aload_n hx hb dL_law_1170 rfl (lv_at hl 5 rfl) ?_
  refine lv_iload hx hb dL_law_1171 (lv_at hl 1 rfl) ?_
  refine lv_iconst (v := 3) hx hb dL_law_1173 (by decide) ?_
  refine lv_iadd hx hb dL_law_1174 ?_
  refine lw_sld hx hb hX hbl hS h3 dL_law_1175 ?_
  obtain ⟨x_1, hx_1, hm⟩ := Option.bind_eq_some_iff.mp hm
  refine lw_m hC hGx hLD (k_X3_until l k b Lb hLD.2.1 q1 q2 q3 zm hx_1) (gV w_1208 w_1209 w_1210 w_27 w_1211) kk_X3_until rfl ⟨Nat.le_of_ble_eq_true rfl, Nat.le_of_ble_eq_true rfl⟩ ⟨Nat.le_trans (show cells + 6 ≤ 450000 by omega) rm_c, Nat.le_trans (show slots + 33 ≤ 4000000 by omega) rm_s⟩ hI hS hl.1 rfl rfl (Nat.le_of_ble_eq_true rfl) dL_law_1176 (fun H hI hS => ?_)
  refine lv_istore (lv' := [(6, .int x_1.1), (5, .int (wk 1 3 ((m_X0_until q1 q2 q3 z).1))), (4, .int i), (3, .ref o), (2, .ref b.1), (1, .ref a.1), (0, .ref bs)]) hx hb dL_law_1179 hl (by decide) rfl (fun ls hl => ?_)
  refine lv_goto (tgt := 2249) hx hb dL_law_1181 (by decide) ?_
  obtain rfl := Option.some.inj hm
  exact W.widen (k := cells + 772) (n := slots + 6282) (by omega) (by omega) (kk H ls hI hS (lv_sub hl [2, 3, 4, 5, 6] rfl))
set_option maxRecDepth 100000 in
def o_lc_22 (q1 q2 q3 q4 : Int32) (z : CS) (v : Int64) (zm : MS) : Option (CS × Int64 × MS) := (if ¬ ((m_X0_addSpan q1 q2 z).1 = 0 ∨ (m_X0_addSpan q1 q2 z).1 = 1 ∨ (m_X0_addSpan q1 q2 z).1 = 3) then none else ((o_X3_addSpan q1 q2 zm).bind fun x_1 => some ((m_X0_addSpan q1 q2 z).2.2, (if (m_X0_addSpan q1 q2 z).1 = 0 then ((m_X0_addSpan q1 q2 z).2.1).toInt64 else v), x_1.2)))
set_option maxRecDepth 100000 in
set_option maxHeartbeats 4000000 in
theorem lc_22 {p : Program} {l : Launch} (hl9 : l.stackTraces = false) {e : Env} {s : State} {m : MethodId} {below : List Frame} {meth : Method} {c : Code} {bs L : Nat} {xs : Nat → Int32} {k : Kx} {a b : CA} {o : Nat} {Lb : List Nat} {Q : State → Prop} (hC : CallFix p m c cL_law 7 s #[.ref bs] (Cond.tt :: GL) RL) (hGx : Gx k s) (hLD : LD k a o b Lb s) (hX : va_X bs L xs s s.heap) (hbl : bs < s.heap.size) {i q1 q2 q3 q4 : Int32} (h1 : vp_in (i + (1 : Int32)) L ∧ xs (i + (1 : Int32)).toNatClampNeg = q1) (h2 : vp_in (i + (2 : Int32)) L ∧ xs (i + (2 : Int32)).toNatClampNeg = q2) (h3 : vp_in (i + (3 : Int32)) L ∧ xs (i + (3 : Int32)).toNatClampNeg = q3) (h4 : vp_in (i + (4 : Int32)) L ∧ xs (i + (4 : Int32)).toNatClampNeg = q4) {z : CS} {v : Int64} {zm : MS} {H : Heap} {ls : Array Slot} {cells slots : Nat} (hl : lv_has ls 7 [(4, .int i), (3, .ref o), (2, .ref b.1), (1, .ref a.1), (0, .ref bs)]) (hI : LI k a o b Lb z v zm H) (hS : va_S (nA s.heap.size) s.heap H []) (hc : cells + 772 ≤ 450000 ∧ slots + 6282 ≤ 4000000) {r : CS × Int64 × MS} (hm : o_lc_22 q1 q2 q3 q4 z v zm = some r) (kk : ∀ (H1 : Heap) (ls1 : Array Slot), LI k a o b Lb r.1 r.2.1 r.2.2 H1 → va_S (nA s.heap.size) s.heap H1 [] → lv_has ls1 7 [(4, .int i), (3, .ref o), (2, .ref b.1), (1, .ref a.1), (0, .ref bs)] → W p l e room_1 s m #[.ref bs] below meth c H1 [] (cells + 772) (slots + 6282) Q (F0 m 2249 ls1 [])) : W p l e room_1 s m #[.ref bs] below meth c H [] cells slots Q (F0 m 1184 ls []) := by
  have hx := hC.1
  have hb := hC.2.1
  refine lv_aload_n hx hb dL_law_1184 rfl (lv_at hl 3 rfl) ?_
  refine lv_aload_n hx hb dL_law_1185 rfl (lv_at hl 4 rfl) ?_
  refine lv_iload hx hb dL_law_1186 (lv_at hl 0 rfl) ?_
  refine lv_iconst (v := 1) hx hb dL_law_1188 (by decide) ?_
  refine lv_iadd hx hb dL_law_1189 ?_
  refine lw_sld hx hb hX hbl hS h1 dL_law_1190 ?_
  refine lv_aload_n hx hb dL_law_1191 rfl (lv_at hl 4 rfl) ?_
  refine lv_iload hx hb dL_law_1192 (lv_at hl 0 rfl) ?_
  refine lv_iconst (v := 2) hx hb dL_law_1194 (by decide) ?_
  refine lv_iadd hx hb dL_law_1195 ?_
  refine lw_sld hx hb hX hbl hS h2 dL_law_1196 ?_
  refine lv_aload_n hx hb dL_law_1197 rfl (lv_at hl 1 rfl) ?_
  by_cases h_1 : ¬ ((m_X0_addSpan q1 q2 z).1 = 0 ∨ (m_X0_addSpan q1 q2 z).1 = 1 ∨ (m_X0_addSpan q1 q2 z).1 = 3)
  · have hm := (if_pos h_1).symm.trans hm
    cases hm
  have hm := (if_neg h_1).symm.trans hm
  refine lw_w hC hGx hLD (k_L_addSpan l hl9 k a hLD.1 o q1 q2 z v (Decidable.of_not_not h_1)) (gSW w_838 w_839 w_25 w_840) kw_L_addSpan ⟨Nat.le_of_ble_eq_true rfl, Nat.le_of_ble_eq_true rfl⟩ ⟨Nat.le_trans (show cells + 6 ≤ 450000 by omega) rm_c, Nat.le_trans (show slots + 36 ≤ 4000000 by omega) rm_s⟩ hI hS hl.1 rfl rfl (Nat.le_of_ble_eq_true rfl) dL_law_1198 (fun H hI hS => ?_)
  refine lv_istore (lv' := [(5, .int (wk 1 3 ((m_X0_addSpan q1 q2 z).1))), (4, .int i), (3, .ref o), (2, .ref b.1), (1, .ref a.1), (0, .ref bs)]) hx hb dL_law_1201 hl (by decide) rfl (fun ls hl => ?_)
  refine lv_aload_n hx hb dL_law_1203 rfl (lv_at hl 3 rfl) ?_
  refine lv_aload_n hx hb dL_law_1204 rfl (lv_at hl 5 rfl) ?_
  refine lv_iload hx hb dL_law_1205 (lv_at hl 1 rfl) ?_
  refine lv_iconst (v := 1) hx hb dL_law_1207 (by decide) ?_
  refine lv_iadd hx hb dL_law_1208 ?_
  refine lw_sld hx hb hX hbl hS h1 dL_law_1209 ?_
  refine lv_aload_n hx hb dL_law_1210 rfl (lv_at hl 5 rfl) ?_
  refine lv_iload hx hb dL_law_1211 (lv_at hl 1 rfl) ?_
  refine lv_iconst (v := 2) hx hb dL_law_1213 (by decide) ?_
  refine lv_iadd hx hb dL_law_1214 ?_
  refine lw_sld hx hb hX hbl hS h2 dL_law_1215 ?_
  obtain ⟨x_1, hx_1, hm⟩ := Option.bind_eq_some_iff.mp hm
  refine lw_m hC hGx hLD (k_X3_addSpan l k b Lb hLD.2.1 q1 q2 zm hx_1) (gV w_1224 w_1225 w_1226 w_27 w_1227) kk_X3_addSpan rfl ⟨Nat.le_of_ble_eq_true rfl, Nat.le_of_ble_eq_true rfl⟩ ⟨Nat.le_trans (show cells + 7 ≤ 450000 by omega) rm_c, Nat.le_trans (show slots + 39 ≤ 4000000 by omega) rm_s⟩ hI hS hl.1 rfl rfl (Nat.le_of_ble_eq_true rfl) dL_law_1216 (fun H hI hS => ?_)
  refine lv_istore (lv' := [(6, .int x_1.1), (5, .int (wk 1 3 ((m_X0_addSpan q1 q2 z).1))), (4, .int i), (3, .ref o), (2, .ref b.1), (1, .ref a.1), (0, .ref bs)]) hx hb dL_law_1219 hl (by decide) rfl (fun ls hl => ?_)
  refine lv_goto (tgt := 2249) hx hb dL_law_1221 (by decide) ?_
  obtain rfl := Option.some.inj hm
  exact W.widen (k := cells + 772) (n := slots + 6282) (by omega) (by omega) (kk H ls hI hS (lv_sub hl [2, 3, 4, 5, 6] rfl))
set_option maxRecDepth 100000 in
def o_lc_23 (q1 q2 q3 q4 : Int32) (z : CS) (v : Int64) (zm : MS) : Option (CS × Int64 × MS) := (if ¬ ((m_X0_ofSpan q1 q2 z).1 = 0 ∨ (m_X0_ofSpan q1 q2 z).1 = 1 ∨ (m_X0_ofSpan q1 q2 z).1 = 2) then none else ((o_X3_ofSpan q1 q2 zm).bind fun x_1 => some (z, (if (m_X0_ofSpan q1 q2 z).1 = 0 then ((m_X0_ofSpan q1 q2 z).2).toInt64 else v), x_1.2)))
set_option maxRecDepth 100000 in
set_option maxHeartbeats 4000000 in
theorem lc_23 {p : Program} {l : Launch} (hl9 : l.stackTraces = false) {e : Env} {s : State} {m : MethodId} {below : List Frame} {meth : Method} {c : Code} {bs L : Nat} {xs : Nat → Int32} {k : Kx} {a b : CA} {o : Nat} {Lb : List Nat} {Q : State → Prop} (hC : CallFix p m c cL_law 7 s #[.ref bs] (Cond.tt :: GL) RL) (hGx : Gx k s) (hLD : LD k a o b Lb s) (hX : va_X bs L xs s s.heap) (hbl : bs < s.heap.size) {i q1 q2 q3 q4 : Int32} (h1 : vp_in (i + (1 : Int32)) L ∧ xs (i + (1 : Int32)).toNatClampNeg = q1) (h2 : vp_in (i + (2 : Int32)) L ∧ xs (i + (2 : Int32)).toNatClampNeg = q2) (h3 : vp_in (i + (3 : Int32)) L ∧ xs (i + (3 : Int32)).toNatClampNeg = q3) (h4 : vp_in (i + (4 : Int32)) L ∧ xs (i + (4 : Int32)).toNatClampNeg = q4) {z : CS} {v : Int64} {zm : MS} {H : Heap} {ls : Array Slot} {cells slots : Nat} (hl : lv_has ls 7 [(4, .int i), (3, .ref o), (2, .ref b.1), (1, .ref a.1), (0, .ref bs)]) (hI : LI k a o b Lb z v zm H) (hS : va_S (nA s.heap.size) s.heap H []) (hc : cells + 772 ≤ 450000 ∧ slots + 6282 ≤ 4000000) {r : CS × Int64 × MS} (hm : o_lc_23 q1 q2 q3 q4 z v zm = some r) (kk : ∀ (H1 : Heap) (ls1 : Array Slot), LI k a o b Lb r.1 r.2.1 r.2.2 H1 → va_S (nA s.heap.size) s.heap H1 [] → lv_has ls1 7 [(4, .int i), (3, .ref o), (2, .ref b.1), (1, .ref a.1), (0, .ref bs)] → W p l e room_1 s m #[.ref bs] below meth c H1 [] (cells + 772) (slots + 6282) Q (F0 m 2249 ls1 [])) : W p l e room_1 s m #[.ref bs] below meth c H [] cells slots Q (F0 m 1224 ls []) := by
  have hx := hC.1
  have hb := hC.2.1
  refine lv_aload_n hx hb dL_law_1224 rfl (lv_at hl 3 rfl) ?_
  refine lv_aload_n hx hb dL_law_1225 rfl (lv_at hl 4 rfl) ?_
  refine lv_iload hx hb dL_law_1226 (lv_at hl 0 rfl) ?_
  refine lv_iconst (v := 1) hx hb dL_law_1228 (by decide) ?_
  refine lv_iadd hx hb dL_law_1229 ?_
  refine lw_sld hx hb hX hbl hS h1 dL_law_1230 ?_
  refine lv_aload_n hx hb dL_law_1231 rfl (lv_at hl 4 rfl) ?_
  refine lv_iload hx hb dL_law_1232 (lv_at hl 0 rfl) ?_
  refine lv_iconst (v := 2) hx hb dL_law_1234 (by decide) ?_
  refine lv_iadd hx hb dL_law_1235 ?_
  refine lw_sld hx hb hX hbl hS h2 dL_law_1236 ?_
  refine lv_aload_n hx hb dL_law_1237 rfl (lv_at hl 1 rfl) ?_
  by_cases h_1 : ¬ ((m_X0_ofSpan q1 q2 z).1 = 0 ∨ (m_X0_ofSpan q1 q2 z).1 = 1 ∨ (m_X0_ofSpan q1 q2 z).1 = 2)
  · have hm := (if_pos h_1).symm.trans hm
    cases hm
  have hm := (if_neg h_1).symm.trans hm
  refine lw_w hC hGx hLD (k_L_ofSpan l hl9 k a hLD.1 o q1 q2 z v (Decidable.of_not_not h_1)) (gSW w_848 w_849 w_25 w_850) kw_L_ofSpan ⟨Nat.le_of_ble_eq_true rfl, Nat.le_of_ble_eq_true rfl⟩ ⟨Nat.le_trans (show cells + 2 ≤ 450000 by omega) rm_c, Nat.le_trans (show slots + 12 ≤ 4000000 by omega) rm_s⟩ hI hS hl.1 rfl rfl (Nat.le_of_ble_eq_true rfl) dL_law_1238 (fun H hI hS => ?_)
  refine lv_istore (lv' := [(5, .int (wk 1 2 ((m_X0_ofSpan q1 q2 z).1))), (4, .int i), (3, .ref o), (2, .ref b.1), (1, .ref a.1), (0, .ref bs)]) hx hb dL_law_1241 hl (by decide) rfl (fun ls hl => ?_)
  refine lv_aload_n hx hb dL_law_1243 rfl (lv_at hl 3 rfl) ?_
  refine lv_aload_n hx hb dL_law_1244 rfl (lv_at hl 5 rfl) ?_
  refine lv_iload hx hb dL_law_1245 (lv_at hl 1 rfl) ?_
  refine lv_iconst (v := 1) hx hb dL_law_1247 (by decide) ?_
  refine lv_iadd hx hb dL_law_1248 ?_
  refine lw_sld hx hb hX hbl hS h1 dL_law_1249 ?_
  refine lv_aload_n hx hb dL_law_1250 rfl (lv_at hl 5 rfl) ?_
  refine lv_iload hx hb dL_law_1251 (lv_at hl 1 rfl) ?_
  refine lv_iconst (v := 2) hx hb dL_law_1253 (by decide) ?_
  refine lv_iadd hx hb dL_law_1254 ?_
  refine lw_sld hx hb hX hbl hS h2 dL_law_1255 ?_
  obtain ⟨x_1, hx_1, hm⟩ := Option.bind_eq_some_iff.mp hm
  refine lw_m hC hGx hLD (k_X3_ofSpan l k b Lb hLD.2.1 q1 q2 zm hx_1) (gV w_1228 w_1229 w_1230 w_27 w_1231) kk_X3_ofSpan rfl ⟨Nat.le_of_ble_eq_true rfl, Nat.le_of_ble_eq_true rfl⟩ ⟨Nat.le_trans (show cells + 2 ≤ 450000 by omega) rm_c, Nat.le_trans (show slots + 12 ≤ 4000000 by omega) rm_s⟩ hI hS hl.1 rfl rfl (Nat.le_of_ble_eq_true rfl) dL_law_1256 (fun H hI hS => ?_)
  refine lv_istore (lv' := [(6, .int x_1.1), (5, .int (wk 1 2 ((m_X0_ofSpan q1 q2 z).1))), (4, .int i), (3, .ref o), (2, .ref b.1), (1, .ref a.1), (0, .ref bs)]) hx hb dL_law_1259 hl (by decide) rfl (fun ls hl => ?_)
  refine lv_goto (tgt := 2249) hx hb dL_law_1261 (by decide) ?_
  obtain rfl := Option.some.inj hm
  exact W.widen (k := cells + 772) (n := slots + 6282) (by omega) (by omega) (kk H ls hI hS (lv_sub hl [2, 3, 4, 5, 6] rfl))
set_option maxRecDepth 100000 in
def o_lc_24 (q1 q2 q3 q4 : Int32) (z : CS) (v : Int64) (zm : MS) : Option (CS × Int64 × MS) := (if ¬ ((m_X0_plusSpan q1 q2 z).1 = 0 ∨ (m_X0_plusSpan q1 q2 z).1 = 1 ∨ (m_X0_plusSpan q1 q2 z).1 = 3) then none else ((o_X3_plusSpan q1 q2 zm).bind fun x_1 => some ((m_X0_plusSpan q1 q2 z).2.2, (if (m_X0_plusSpan q1 q2 z).1 = 0 then ((m_X0_plusSpan q1 q2 z).2.1).toInt64 else v), x_1.2)))
set_option maxRecDepth 100000 in
set_option maxHeartbeats 4000000 in
theorem lc_24 {p : Program} {l : Launch} (hl9 : l.stackTraces = false) {e : Env} {s : State} {m : MethodId} {below : List Frame} {meth : Method} {c : Code} {bs L : Nat} {xs : Nat → Int32} {k : Kx} {a b : CA} {o : Nat} {Lb : List Nat} {Q : State → Prop} (hC : CallFix p m c cL_law 7 s #[.ref bs] (Cond.tt :: GL) RL) (hGx : Gx k s) (hLD : LD k a o b Lb s) (hX : va_X bs L xs s s.heap) (hbl : bs < s.heap.size) {i q1 q2 q3 q4 : Int32} (h1 : vp_in (i + (1 : Int32)) L ∧ xs (i + (1 : Int32)).toNatClampNeg = q1) (h2 : vp_in (i + (2 : Int32)) L ∧ xs (i + (2 : Int32)).toNatClampNeg = q2) (h3 : vp_in (i + (3 : Int32)) L ∧ xs (i + (3 : Int32)).toNatClampNeg = q3) (h4 : vp_in (i + (4 : Int32)) L ∧ xs (i + (4 : Int32)).toNatClampNeg = q4) {z : CS} {v : Int64} {zm : MS} {H : Heap} {ls : Array Slot} {cells slots : Nat} (hl : lv_has ls 7 [(4, .int i), (3, .ref o), (2, .ref b.1), (1, .ref a.1), (0, .ref bs)]) (hI : LI k a o b Lb z v zm H) (hS : va_S (nA s.heap.size) s.heap H []) (hc : cells + 772 ≤ 450000 ∧ slots + 6282 ≤ 4000000) {r : CS × Int64 × MS} (hm : o_lc_24 q1 q2 q3 q4 z v zm = some r) (kk : ∀ (H1 : Heap) (ls1 : Array Slot), LI k a o b Lb r.1 r.2.1 r.2.2 H1 → va_S (nA s.heap.size) s.heap H1 [] → lv_has ls1 7 [(4, .int i), (3, .ref o), (2, .ref b.1), (1, .ref a.1), (0, .ref bs)] → W p l e room_1 s m #[.ref bs] below meth c H1 [] (cells + 772) (slots + 6282) Q (F0 m 2249 ls1 [])) : W p l e room_1 s m #[.ref bs] below meth c H [] cells slots Q (F0 m 1264 ls []) := by
  have hx := hC.1
  have hb := hC.2.1
  refine lv_aload_n hx hb dL_law_1264 rfl (lv_at hl 3 rfl) ?_
  refine lv_aload_n hx hb dL_law_1265 rfl (lv_at hl 4 rfl) ?_
  refine lv_iload hx hb dL_law_1266 (lv_at hl 0 rfl) ?_
  refine lv_iconst (v := 1) hx hb dL_law_1268 (by decide) ?_
  refine lv_iadd hx hb dL_law_1269 ?_
  refine lw_sld hx hb hX hbl hS h1 dL_law_1270 ?_
  refine lv_aload_n hx hb dL_law_1271 rfl (lv_at hl 4 rfl) ?_
  refine lv_iload hx hb dL_law_1272 (lv_at hl 0 rfl) ?_
  refine lv_iconst (v := 2) hx hb dL_law_1274 (by decide) ?_
  refine lv_iadd hx hb dL_law_1275 ?_
  refine lw_sld hx hb hX hbl hS h2 dL_law_1276 ?_
  refine lv_aload_n hx hb dL_law_1277 rfl (lv_at hl 1 rfl) ?_
  by_cases h_1 : ¬ ((m_X0_plusSpan q1 q2 z).1 = 0 ∨ (m_X0_plusSpan q1 q2 z).1 = 1 ∨ (m_X0_plusSpan q1 q2 z).1 = 3)
  · have hm := (if_pos h_1).symm.trans hm
    cases hm
  have hm := (if_neg h_1).symm.trans hm
  refine lw_w hC hGx hLD (k_L_plusSpan l hl9 k a hLD.1 o q1 q2 z v (Decidable.of_not_not h_1)) (gSW w_852 w_853 w_25 w_854) kw_L_plusSpan ⟨Nat.le_of_ble_eq_true rfl, Nat.le_of_ble_eq_true rfl⟩ ⟨Nat.le_trans (show cells + 5 ≤ 450000 by omega) rm_c, Nat.le_trans (show slots + 30 ≤ 4000000 by omega) rm_s⟩ hI hS hl.1 rfl rfl (Nat.le_of_ble_eq_true rfl) dL_law_1278 (fun H hI hS => ?_)
  refine lv_istore (lv' := [(5, .int (wk 1 3 ((m_X0_plusSpan q1 q2 z).1))), (4, .int i), (3, .ref o), (2, .ref b.1), (1, .ref a.1), (0, .ref bs)]) hx hb dL_law_1281 hl (by decide) rfl (fun ls hl => ?_)
  refine lv_aload_n hx hb dL_law_1283 rfl (lv_at hl 3 rfl) ?_
  refine lv_aload_n hx hb dL_law_1284 rfl (lv_at hl 5 rfl) ?_
  refine lv_iload hx hb dL_law_1285 (lv_at hl 1 rfl) ?_
  refine lv_iconst (v := 1) hx hb dL_law_1287 (by decide) ?_
  refine lv_iadd hx hb dL_law_1288 ?_
  refine lw_sld hx hb hX hbl hS h1 dL_law_1289 ?_
  refine lv_aload_n hx hb dL_law_1290 rfl (lv_at hl 5 rfl) ?_
  refine lv_iload hx hb dL_law_1291 (lv_at hl 1 rfl) ?_
  refine lv_iconst (v := 2) hx hb dL_law_1293 (by decide) ?_
  refine lv_iadd hx hb dL_law_1294 ?_
  refine lw_sld hx hb hX hbl hS h2 dL_law_1295 ?_
  obtain ⟨x_1, hx_1, hm⟩ := Option.bind_eq_some_iff.mp hm
  refine lw_m hC hGx hLD (k_X3_plusSpan l k b Lb hLD.2.1 q1 q2 zm hx_1) (gV w_1233 w_1234 w_1235 w_27 w_1236) kk_X3_plusSpan rfl ⟨Nat.le_of_ble_eq_true rfl, Nat.le_of_ble_eq_true rfl⟩ ⟨Nat.le_trans (show cells + 7 ≤ 450000 by omega) rm_c, Nat.le_trans (show slots + 36 ≤ 4000000 by omega) rm_s⟩ hI hS hl.1 rfl rfl (Nat.le_of_ble_eq_true rfl) dL_law_1296 (fun H hI hS => ?_)
  refine lv_istore (lv' := [(6, .int x_1.1), (5, .int (wk 1 3 ((m_X0_plusSpan q1 q2 z).1))), (4, .int i), (3, .ref o), (2, .ref b.1), (1, .ref a.1), (0, .ref bs)]) hx hb dL_law_1299 hl (by decide) rfl (fun ls hl => ?_)
  refine lv_goto (tgt := 2249) hx hb dL_law_1301 (by decide) ?_
  obtain rfl := Option.some.inj hm
  exact W.widen (k := cells + 772) (n := slots + 6282) (by omega) (by omega) (kk H ls hI hS (lv_sub hl [2, 3, 4, 5, 6] rfl))
set_option maxRecDepth 100000 in
def o_lc_25 (q1 q2 q3 q4 : Int32) (z : CS) (v : Int64) (zm : MS) : Option (CS × Int64 × MS) := (if ¬ ((m_X0_minusSpan q1 q2 z).1 = 0 ∨ (m_X0_minusSpan q1 q2 z).1 = 1 ∨ (m_X0_minusSpan q1 q2 z).1 = 3) then none else ((o_X3_minusSpan q1 q2 zm).bind fun x_1 => some ((m_X0_minusSpan q1 q2 z).2.2, (if (m_X0_minusSpan q1 q2 z).1 = 0 then ((m_X0_minusSpan q1 q2 z).2.1).toInt64 else v), x_1.2)))
