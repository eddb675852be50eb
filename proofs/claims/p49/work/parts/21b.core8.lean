/-! THE CLASS's TEXT: its contract, calls of it -/
def cTQ (k : Kx) (a : CA) (n r : Nat) (z : CS) : Array Value → State → Outcome → State → Prop := fun _ st oc t => r = 0 ∧ (∃ t' : Nat × Nat, oc = .returned (some (.ref t'.1)) ∧ tP t t' n t.heap) ∧ va_P (kD k) vwCl (cW k a z) t.heap ∧ va_F (cA a st.heap.size) st t
def cT (l : Launch) (k : Kx) (a : CA) (y : MethodName) (ws : List Cond) (fr lo mc ms : Nat) (av : List Value) (z : CS) (n r : Nat) (z' : CS) : Prop :=
  ∀ sz : Nat, vx_Met l y ws { frames := fr, cells := mc, slots := ms, locals := lo } (va_Pc (.ref a.1 :: av) (cPc k a sz z)) (cTQ k a n r z') (cX k a r z') mc ms (cA a sz)
theorem bind_of {α β : Type} {o : Option α} {x : α} {f : α → Option β} (h : o = some x) : o.bind f = f x := by rw [h]; rfl
section R8
variable {p : Program} {l : Launch} {e : Env} {R : Room} {s : State} {m : MethodId} {args : Array Value} {below : List Frame} {meth : Method} {c : Code} {H : Heap} {locs : List Loc} {cells slots : Nat} {Q : State → Prop}
variable {cc bytes : ByteArray} {nL maxL n index fr lo mc ms pc : Nat} {Ts ws : List Cond} {own C : String} {y : MethodName} {ret : Option FieldType} {As rest st0 : List Value} {ls : Array Slot} {k : Kx} {a : CA}
/-- a call of a method of the object, from one that doesn't catch, whatever its own end -/
theorem cc_Vg {MC MS : Nat} {QQ : Array Value → State → Outcome → State → Prop} {z z1 zr : CS} {o : Option Value} {r res : Nat} (hC : CallFix p m c cc nL s args Ts own) (hGx : Gx k s) (hD : cD k a) (hEx : ∀ x ∈ c.exceptionTable.toList, False) (hlocks : meth.locks = false) (hM : cM l k a y ws fr lo mc ms As z o r z1) (hG : GoodIn Ts (wsV own index RX0 y ws)) (hk : pK y ws bytes maxL ret n) (hyc : y.cls = RX0) (hR : fr + 1 ≤ R.frames ∧ 8 + (maxL + 11) + lo ≤ R.locals) (hf : cells + mc ≤ R.cells ∧ slots + ms ≤ R.slots) (hf2 : cells + mc ≤ MC ∧ slots + ms ≤ MS) (hP : va_P (kD k) vwCl (cW k a z) H) (hS : va_S (cA a s.heap.size) s.heap H locs) (hsz : ls.size = nL) (hn : As.length = n) (hst : st0 = As.reverse ++ .ref a.1 :: rest) (hW : (rest.map fun v => v.category).sum ≤ 8) (hdg : decode cc pc = .ok (.invokevirtual index, 3))
    (kx : r ≠ 0 → res = r ∧ zr = z1)
    (kk : r = 0 → ∀ (H1 : Heap) (locs1 : List Loc), va_P (kD k) vwCl (cW k a z1) H1 → va_S (cA a s.heap.size) s.heap H1 locs1 → W p l e R s m args below meth c H1 locs1 (cells + mc) (slots + ms) (vx_MQ below QQ (cX k a res zr) args s MC MS (cA a s.heap.size)) (F0 m (pc + 3) ls (o.toList ++ rest))) : W p l e R s m args below meth c H locs cells slots (vx_MQ below QQ (cX k a res zr) args s MC MS (cA a s.heap.size)) (F0 m pc ls st0) := by
  refine cv_V hC hGx hD hM hG hk hyc hR hf hP hS hsz hn hst hW hdg (fun h0 ce q H1 locs1 hP1 hS1 hce hcv hcl => ?_) kk
  obtain ⟨rfl, rfl⟩ := kx h0
  exact vx_out (fun x hx => (hEx x hx).elim) hlocks hce hcv hcl (fun t ht _ => ⟨h0, rfl, by rw [ht]; exact hP1, by rw [ht]; exact hS1.1, fun q h1 h2 => by rw [ht]; exact hS1.2.1 q h1 h2⟩) hS1.2.2 hf2.1 hf2.2
/-- a call of text -/
theorem cx_V {MC MS nt : Nat} {QQ : Array Value → State → Outcome → State → Prop} {z z1 zr : CS} {r res : Nat} (hC : CallFix p m c cc nL s args Ts own) (hGx : Gx k s) (hD : cD k a) (hEx : ∀ x ∈ c.exceptionTable.toList, False) (hlocks : meth.locks = false) (hM : cT l k a y ws fr lo mc ms As z nt r z1) (hG : GoodIn Ts (wsV own index RX0 y ws)) (hk : pK y ws bytes maxL ret n) (hyc : y.cls = RX0) (hR : fr + 1 ≤ R.frames ∧ 8 + (maxL + 11) + lo ≤ R.locals) (hf : cells + mc ≤ R.cells ∧ slots + ms ≤ R.slots) (hf2 : cells + mc ≤ MC ∧ slots + ms ≤ MS) (hP : va_P (kD k) vwCl (cW k a z) H) (hS : va_S (cA a s.heap.size) s.heap H locs) (hsz : ls.size = nL) (hn : As.length = n) (hst : st0 = As.reverse ++ .ref a.1 :: rest) (hW : (rest.map fun v => v.category).sum ≤ 8) (hdg : decode cc pc = .ok (.invokevirtual index, 3))
    (kx : r ≠ 0 → res = r ∧ zr = z1)
    (kk : r = 0 → ∀ (t : Nat × Nat) (H1 : Heap) (locs1 : List Loc), tP s t nt H1 → va_P (kD k) vwCl (cW k a z1) H1 → va_S (cA a s.heap.size) s.heap H1 locs1 → W p l e R s m args below meth c H1 locs1 (cells + mc) (slots + ms) (vx_MQ below QQ (cX k a res zr) args s MC MS (cA a s.heap.size)) (F0 m (pc + 3) ls (.ref t.1 :: rest))) : W p l e R s m args below meth c H locs cells slots (vx_MQ below QQ (cX k a res zr) args s MC MS (cA a s.heap.size)) (F0 m pc ls st0) := by
  obtain ⟨⟨ws', hw⟩, h1, h2, h3⟩ := hk
  have hr := vx_runV (H := H) (locs := locs) (cells := cells) (slots := slots) (e := e) (below := below) (meth := meth) (g := F0 m pc ls st0) (rest := rest) (C := RX0) (b := a.1) hC (hM H.size) (cwV n hC.2.2.2.2 hG hw rfl rfl ⟨hyc, h1, h2, h3⟩ hR)
    ⟨cPc.blind, va_recv hGx.1 hP (ci := 2) (q0 := 0) rfl rfl, fun U hU hW => ⟨rfl, by rw [hU], hGx.at hS (hD.high hGx.2.1) hU hW, by rw [hU]; exact hP⟩⟩ rfl hn hsz hst (lv_room hW) hdg hf
  have step : ∀ {st₀ t T' : State} {L : List Loc}, st₀.heap = H → T'.heap = t.heap → (∀ q ∈ L, cA a H.size q.base) → va_F (cA a st₀.heap.size) st₀ t → va_S (cA a s.heap.size) s.heap T'.heap (locs ++ L) := by
    intro st₀ t T' L h0 e1 hL hF
    rw [h0] at hF
    have hF2 := hF.2
    rw [h0] at hF2
    refine ⟨Nat.le_trans hS.1 (by rw [e1, ← h0]; exact hF.1), fun q h4 h5 => ?_, fun q hq => ?_⟩
    · rw [e1, hF2 q (Nat.lt_of_lt_of_le h4 hS.1) (fun h6 => h5 (cA.up hS.1 q h6))]
      exact hS.2.1 q h4 h5
    · rcases List.mem_append.mp hq with h | h
      · exact hS.2.2 q h
      · exact cA.up hS.1 _ (hL q h)
  intro T hT X
  rcases hr T hT X with ⟨v, st₀, t, T', L, h0, X', hL, e1, e2, ⟨hr0, ⟨t', hv, hTT⟩, hp, hF⟩, st⟩ | ⟨q, st₀, t, T', L, E, ce, h0, X', hL, e1, e2, ⟨hr0, hE, hp, hF⟩, hce, hcv, hcl, st⟩
  · cases hv
    have hal : t.vm.Alike s.vm := by rw [← e2]; exact X'.warmed.alike.symm
    obtain ⟨t2, a1, b1⟩ := kk hr0 t' T'.heap (locs ++ L) (by rw [e1]; exact hTT.moved hal) (by rw [e1]; exact hp) (step h0 e1 hL hF) T' rfl X'
    exact ⟨t2, st t2 a1, b1⟩
  · subst hE
    obtain ⟨hres, hzr⟩ := kx hr0
    have hS1 := step h0 e1 hL hF
    have hv9 : vx_W p l e R s m args below meth c T'.heap (locs ++ L) (cells + mc) (slots + ms) (vx_MQ below QQ (cX k a res zr) args s MC MS (cA a s.heap.size)) (F0 m pc ls rest) q :=
      vx_out (fun x hx => (hEx x hx).elim) hlocks (by rw [e1]; exact hce) hcv hcl (fun t9 ht _ => ⟨by rw [hres]; exact hr0, by rw [hres], by rw [ht, e1, hzr]; exact hp, by rw [ht]; exact hS1.1, fun q h1 h2 => by rw [ht]; exact hS1.2.1 q h1 h2⟩) hS1.2.2 hf2.1 hf2.2
    obtain ⟨t2, a1, b1⟩ := hv9 T' rfl X'
    exact ⟨t2, st.trans a1, b1⟩
end R8

