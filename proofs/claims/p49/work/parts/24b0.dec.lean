/-! decoding by bytes: for a long method -/
def bA (c : ByteArray) (p b : Nat) : Prop := ∃ h : p < c.size, (c[p]'h).toNat = b
theorem bA_of {c : ByteArray} {d i : Nat} {x : UInt8} (hx : (c.data.toList.drop d)[i]? = some x) : bA c (d + i) x.toNat := by
  rw [List.getElem?_drop] at hx
  obtain ⟨h, e⟩ := List.getElem?_eq_some_iff.mp hx
  have h2 : d + i < c.data.size := by rw [← Array.length_toList]; exact h
  refine ⟨h2, ?_⟩
  show (c.data[d + i]'h2).toNat = _
  rw [← e]
  rfl
theorem de_u1 {c : ByteArray} {p b : Nat} (h : bA c p b) : (Jvm.ClassFile.Reader.u1 : Jvm.ClassFile.Decoder Nat) c p = .ok (b, p + 1) := by
  obtain ⟨h1, h2⟩ := h
  unfold Jvm.ClassFile.Reader.u1
  show ((if h : p < c.size then (do set (p + 1); pure c[p].toNat) else throw (Jvm.ClassFile.HasTruncated.truncated p) : Jvm.ClassFile.Decoder Nat) c p) = _
  rw [dif_pos h1, ← h2]
  rfl
theorem de_bind {α : Type} {c : ByteArray} {p b : Nat} (h : bA c p b) (f : Nat → Jvm.ClassFile.Decoder α) : (bind Jvm.ClassFile.Reader.u1 f : Jvm.ClassFile.Decoder α) c p = f b c (p + 1) := by
  show Except.bind ((Jvm.ClassFile.Reader.u1 : Jvm.ClassFile.Decoder Nat) c p) (fun q => f q.1 c q.2) = _
  rw [de_u1 h]
  rfl
theorem de_dec {c : ByteArray} {p n : Nat} {i : Instr} (h : (Jvm.ClassFile.Decoder.instr p) c p = .ok (i, p + n)) : decode c p = .ok (i, n) := by
  show Except.bind ((Jvm.ClassFile.Decoder.instr p) c p) (fun q => .ok (q.1, q.2 - p)) = _
  rw [h]
  show Except.ok (i, p + n - p) = _
  rw [Nat.add_sub_cancel_left]
theorem de_u2 {c : ByteArray} {p a b : Nat} (h1 : bA c p a) (h2 : bA c (p + 1) b) : (Jvm.ClassFile.Reader.u2 : Jvm.ClassFile.Decoder Nat) c p = .ok (a * 256 + b, p + 2) := by
  unfold Jvm.ClassFile.Reader.u2
  exact (de_bind h1 _).trans ((de_bind h2 _).trans rfl)

set_option maxRecDepth 100000 in
theorem de_187 {c : ByteArray} {p a b : Nat} (h : bA c p 187) (h1 : bA c (p + 1) a) (h2 : bA c (p + 2) b) : decode c p = .ok (.new (a * 256 + b), 3) := de_dec (by
  unfold Jvm.ClassFile.Decoder.instr
  refine (de_bind h _).trans ?_
  show Except.bind ((Jvm.ClassFile.Reader.u2 : Jvm.ClassFile.Decoder Nat) c (p + 1)) (fun q => .ok (Instr.new q.1, q.2)) = _
  rw [de_u2 h1 h2]
  rfl)
set_option maxRecDepth 100000 in
theorem de_89 {c : ByteArray} {p : Nat} (h : bA c p 89) : decode c p = .ok (.dup, 1) := de_dec (by
  unfold Jvm.ClassFile.Decoder.instr
  exact (de_bind h _).trans rfl)
set_option maxRecDepth 100000 in
theorem de_183 {c : ByteArray} {p a b : Nat} (h : bA c p 183) (h1 : bA c (p + 1) a) (h2 : bA c (p + 2) b) : decode c p = .ok (.invokespecial (a * 256 + b), 3) := de_dec (by
  unfold Jvm.ClassFile.Decoder.instr
  refine (de_bind h _).trans ?_
  show Except.bind ((Jvm.ClassFile.Reader.u2 : Jvm.ClassFile.Decoder Nat) c (p + 1)) (fun q => .ok (Instr.invokespecial q.1, q.2)) = _
  rw [de_u2 h1 h2]
  rfl)
set_option maxRecDepth 100000 in
theorem de_76 {c : ByteArray} {p : Nat} (h : bA c p 76) : decode c p = .ok (.astore_n 1, 1) := de_dec (by
  unfold Jvm.ClassFile.Decoder.instr
  exact (de_bind h _).trans rfl)
set_option maxRecDepth 100000 in
theorem de_77 {c : ByteArray} {p : Nat} (h : bA c p 77) : decode c p = .ok (.astore_n 2, 1) := de_dec (by
  unfold Jvm.ClassFile.Decoder.instr
  exact (de_bind h _).trans rfl)
set_option maxRecDepth 100000 in
theorem de_78 {c : ByteArray} {p : Nat} (h : bA c p 78) : decode c p = .ok (.astore_n 3, 1) := de_dec (by
  unfold Jvm.ClassFile.Decoder.instr
  exact (de_bind h _).trans rfl)
set_option maxRecDepth 100000 in
theorem de_3 {c : ByteArray} {p : Nat} (h : bA c p 3) : decode c p = .ok (.iconst 0, 1) := de_dec (by
  unfold Jvm.ClassFile.Decoder.instr
  exact (de_bind h _).trans rfl)
set_option maxRecDepth 100000 in
theorem de_54 {c : ByteArray} {p a : Nat} (h : bA c p 54) (h1 : bA c (p + 1) a) : decode c p = .ok (.istore a, 2) := de_dec (by
  unfold Jvm.ClassFile.Decoder.instr
  refine (de_bind h _).trans ?_
  exact (de_bind h1 _).trans rfl)
set_option maxRecDepth 100000 in
theorem de_21 {c : ByteArray} {p a : Nat} (h : bA c p 21) (h1 : bA c (p + 1) a) : decode c p = .ok (.iload a, 2) := de_dec (by
  unfold Jvm.ClassFile.Decoder.instr
  refine (de_bind h _).trans ?_
  exact (de_bind h1 _).trans rfl)
set_option maxRecDepth 100000 in
theorem de_42 {c : ByteArray} {p : Nat} (h : bA c p 42) : decode c p = .ok (.aload_n 0, 1) := de_dec (by
  unfold Jvm.ClassFile.Decoder.instr
  exact (de_bind h _).trans rfl)
set_option maxRecDepth 100000 in
theorem de_190 {c : ByteArray} {p : Nat} (h : bA c p 190) : decode c p = .ok (.arraylength, 1) := de_dec (by
  unfold Jvm.ClassFile.Decoder.instr
  exact (de_bind h _).trans rfl)
set_option maxRecDepth 100000 in
theorem de_8 {c : ByteArray} {p : Nat} (h : bA c p 8) : decode c p = .ok (.iconst 5, 1) := de_dec (by
  unfold Jvm.ClassFile.Decoder.instr
  exact (de_bind h _).trans rfl)
set_option maxRecDepth 100000 in
theorem de_100 {c : ByteArray} {p : Nat} (h : bA c p 100) : decode c p = .ok (.isub, 1) := de_dec (by
  unfold Jvm.ClassFile.Decoder.instr
  exact (de_bind h _).trans rfl)
set_option maxRecDepth 100000 in
theorem de_163 {c : ByteArray} {p a b : Nat} (h : bA c p 163) (h1 : bA c (p + 1) a) (h2 : bA c (p + 2) b) : decode c p = .ok (Instr.if_icmp .gt (Jvm.ClassFile.Reader.signed 16 (a * 256 + b)), 3) := de_dec (by
  unfold Jvm.ClassFile.Decoder.instr
  refine (de_bind h _).trans ?_
  show Except.bind (Except.bind ((Jvm.ClassFile.Reader.u2 : Jvm.ClassFile.Decoder Nat) c (p + 1)) (fun q => .ok (Jvm.ClassFile.Reader.signed 16 q.1, q.2))) (fun q => .ok (Instr.if_icmp .gt q.1, q.2)) = _
  rw [de_u2 h1 h2]
  rfl)
set_option maxRecDepth 100000 in
theorem de_46 {c : ByteArray} {p : Nat} (h : bA c p 46) : decode c p = .ok (.iaload, 1) := de_dec (by
  unfold Jvm.ClassFile.Decoder.instr
  exact (de_bind h _).trans rfl)
set_option maxRecDepth 100000 in
theorem de_16 {c : ByteArray} {p a : Nat} (h : bA c p 16) (h1 : bA c (p + 1) a) : decode c p = .ok (.bipush (Jvm.ClassFile.Reader.signed 8 a), 2) := de_dec (by
  unfold Jvm.ClassFile.Decoder.instr
  refine (de_bind h _).trans ?_
  show Except.bind (Except.bind ((Jvm.ClassFile.Reader.u1 : Jvm.ClassFile.Decoder Nat) c (p + 1)) (fun q => .ok (Jvm.ClassFile.Reader.signed 8 q.1, q.2))) (fun q => .ok (Instr.bipush q.1, q.2)) = _
  rw [de_u1 h1]
  rfl)
set_option maxRecDepth 100000 in
theorem de_126 {c : ByteArray} {p : Nat} (h : bA c p 126) : decode c p = .ok (.iand, 1) := de_dec (by
  unfold Jvm.ClassFile.Decoder.instr
  exact (de_bind h _).trans rfl)
set_option maxRecDepth 100000 in
theorem de_43 {c : ByteArray} {p : Nat} (h : bA c p 43) : decode c p = .ok (.aload_n 1, 1) := de_dec (by
  unfold Jvm.ClassFile.Decoder.instr
  exact (de_bind h _).trans rfl)
set_option maxRecDepth 100000 in
theorem de_4 {c : ByteArray} {p : Nat} (h : bA c p 4) : decode c p = .ok (.iconst 1, 1) := de_dec (by
  unfold Jvm.ClassFile.Decoder.instr
  exact (de_bind h _).trans rfl)
set_option maxRecDepth 100000 in
theorem de_96 {c : ByteArray} {p : Nat} (h : bA c p 96) : decode c p = .ok (.iadd, 1) := de_dec (by
  unfold Jvm.ClassFile.Decoder.instr
  exact (de_bind h _).trans rfl)
set_option maxRecDepth 100000 in
theorem de_5 {c : ByteArray} {p : Nat} (h : bA c p 5) : decode c p = .ok (.iconst 2, 1) := de_dec (by
  unfold Jvm.ClassFile.Decoder.instr
  exact (de_bind h _).trans rfl)
set_option maxRecDepth 100000 in
theorem de_6 {c : ByteArray} {p : Nat} (h : bA c p 6) : decode c p = .ok (.iconst 3, 1) := de_dec (by
  unfold Jvm.ClassFile.Decoder.instr
  exact (de_bind h _).trans rfl)
set_option maxRecDepth 100000 in
theorem de_7 {c : ByteArray} {p : Nat} (h : bA c p 7) : decode c p = .ok (.iconst 4, 1) := de_dec (by
  unfold Jvm.ClassFile.Decoder.instr
  exact (de_bind h _).trans rfl)
set_option maxRecDepth 100000 in
theorem de_45 {c : ByteArray} {p : Nat} (h : bA c p 45) : decode c p = .ok (.aload_n 3, 1) := de_dec (by
  unfold Jvm.ClassFile.Decoder.instr
  exact (de_bind h _).trans rfl)
set_option maxRecDepth 100000 in
theorem de_184 {c : ByteArray} {p a b : Nat} (h : bA c p 184) (h1 : bA c (p + 1) a) (h2 : bA c (p + 2) b) : decode c p = .ok (.invokestatic (a * 256 + b), 3) := de_dec (by
  unfold Jvm.ClassFile.Decoder.instr
  refine (de_bind h _).trans ?_
  show Except.bind ((Jvm.ClassFile.Reader.u2 : Jvm.ClassFile.Decoder Nat) c (p + 1)) (fun q => .ok (Instr.invokestatic q.1, q.2)) = _
  rw [de_u2 h1 h2]
  rfl)
set_option maxRecDepth 100000 in
theorem de_44 {c : ByteArray} {p : Nat} (h : bA c p 44) : decode c p = .ok (.aload_n 2, 1) := de_dec (by
  unfold Jvm.ClassFile.Decoder.instr
  exact (de_bind h _).trans rfl)
set_option maxRecDepth 100000 in
theorem de_182 {c : ByteArray} {p a b : Nat} (h : bA c p 182) (h1 : bA c (p + 1) a) (h2 : bA c (p + 2) b) : decode c p = .ok (.invokevirtual (a * 256 + b), 3) := de_dec (by
  unfold Jvm.ClassFile.Decoder.instr
  refine (de_bind h _).trans ?_
  show Except.bind ((Jvm.ClassFile.Reader.u2 : Jvm.ClassFile.Decoder Nat) c (p + 1)) (fun q => .ok (Instr.invokevirtual q.1, q.2)) = _
  rw [de_u2 h1 h2]
  rfl)
set_option maxRecDepth 100000 in
theorem de_167 {c : ByteArray} {p a b : Nat} (h : bA c p 167) (h1 : bA c (p + 1) a) (h2 : bA c (p + 2) b) : decode c p = .ok (Instr.goto (Jvm.ClassFile.Reader.signed 16 (a * 256 + b)), 3) := de_dec (by
  unfold Jvm.ClassFile.Decoder.instr
  refine (de_bind h _).trans ?_
  show Except.bind (Except.bind ((Jvm.ClassFile.Reader.u2 : Jvm.ClassFile.Decoder Nat) c (p + 1)) (fun q => .ok (Jvm.ClassFile.Reader.signed 16 q.1, q.2))) (fun q => .ok (Instr.goto q.1, q.2)) = _
  rw [de_u2 h1 h2]
  rfl)
set_option maxRecDepth 100000 in
theorem de_58 {c : ByteArray} {p a : Nat} (h : bA c p 58) (h1 : bA c (p + 1) a) : decode c p = .ok (.astore a, 2) := de_dec (by
  unfold Jvm.ClassFile.Decoder.instr
  refine (de_bind h _).trans ?_
  exact (de_bind h1 _).trans rfl)
set_option maxRecDepth 100000 in
theorem de_159 {c : ByteArray} {p a b : Nat} (h : bA c p 159) (h1 : bA c (p + 1) a) (h2 : bA c (p + 2) b) : decode c p = .ok (Instr.if_icmp .eq (Jvm.ClassFile.Reader.signed 16 (a * 256 + b)), 3) := de_dec (by
  unfold Jvm.ClassFile.Decoder.instr
  refine (de_bind h _).trans ?_
  show Except.bind (Except.bind ((Jvm.ClassFile.Reader.u2 : Jvm.ClassFile.Decoder Nat) c (p + 1)) (fun q => .ok (Jvm.ClassFile.Reader.signed 16 q.1, q.2))) (fun q => .ok (Instr.if_icmp .eq q.1, q.2)) = _
  rw [de_u2 h1 h2]
  rfl)
set_option maxRecDepth 100000 in
theorem de_172 {c : ByteArray} {p : Nat} (h : bA c p 172) : decode c p = .ok (.ireturn, 1) := de_dec (by
  unfold Jvm.ClassFile.Decoder.instr
  exact (de_bind h _).trans rfl)
set_option maxRecDepth 100000 in
theorem de_154 {c : ByteArray} {p a b : Nat} (h : bA c p 154) (h1 : bA c (p + 1) a) (h2 : bA c (p + 2) b) : decode c p = .ok (Instr.ifCond .ne (Jvm.ClassFile.Reader.signed 16 (a * 256 + b)), 3) := de_dec (by
  unfold Jvm.ClassFile.Decoder.instr
  refine (de_bind h _).trans ?_
  show Except.bind (Except.bind ((Jvm.ClassFile.Reader.u2 : Jvm.ClassFile.Decoder Nat) c (p + 1)) (fun q => .ok (Jvm.ClassFile.Reader.signed 16 q.1, q.2))) (fun q => .ok (Instr.ifCond .ne q.1, q.2)) = _
  rw [de_u2 h1 h2]
  rfl)
set_option maxRecDepth 100000 in
theorem de_180 {c : ByteArray} {p a b : Nat} (h : bA c p 180) (h1 : bA c (p + 1) a) (h2 : bA c (p + 2) b) : decode c p = .ok (.getfield (a * 256 + b), 3) := de_dec (by
  unfold Jvm.ClassFile.Decoder.instr
  refine (de_bind h _).trans ?_
  show Except.bind ((Jvm.ClassFile.Reader.u2 : Jvm.ClassFile.Decoder Nat) c (p + 1)) (fun q => .ok (Instr.getfield q.1, q.2)) = _
  rw [de_u2 h1 h2]
  rfl)
set_option maxRecDepth 100000 in
theorem de_133 {c : ByteArray} {p : Nat} (h : bA c p 133) : decode c p = .ok (.i2l, 1) := de_dec (by
  unfold Jvm.ClassFile.Decoder.instr
  exact (de_bind h _).trans rfl)
set_option maxRecDepth 100000 in
theorem de_148 {c : ByteArray} {p : Nat} (h : bA c p 148) : decode c p = .ok (.lcmp, 1) := de_dec (by
  unfold Jvm.ClassFile.Decoder.instr
  exact (de_bind h _).trans rfl)
set_option maxRecDepth 100000 in
theorem de_153 {c : ByteArray} {p a b : Nat} (h : bA c p 153) (h1 : bA c (p + 1) a) (h2 : bA c (p + 2) b) : decode c p = .ok (Instr.ifCond .eq (Jvm.ClassFile.Reader.signed 16 (a * 256 + b)), 3) := de_dec (by
  unfold Jvm.ClassFile.Decoder.instr
  refine (de_bind h _).trans ?_
  show Except.bind (Except.bind ((Jvm.ClassFile.Reader.u2 : Jvm.ClassFile.Decoder Nat) c (p + 1)) (fun q => .ok (Jvm.ClassFile.Reader.signed 16 q.1, q.2))) (fun q => .ok (Instr.ifCond .eq q.1, q.2)) = _
  rw [de_u2 h1 h2]
  rfl)
set_option maxRecDepth 100000 in
theorem de_87 {c : ByteArray} {p : Nat} (h : bA c p 87) : decode c p = .ok (.pop, 1) := de_dec (by
  unfold Jvm.ClassFile.Decoder.instr
  exact (de_bind h _).trans rfl)
set_option maxRecDepth 100000 in
theorem de_88 {c : ByteArray} {p : Nat} (h : bA c p 88) : decode c p = .ok (.pop2, 1) := de_dec (by
  unfold Jvm.ClassFile.Decoder.instr
  exact (de_bind h _).trans rfl)
set_option maxRecDepth 100000 in
theorem de_132 {c : ByteArray} {p a b : Nat} (h : bA c p 132) (h1 : bA c (p + 1) a) (h2 : bA c (p + 2) b) : decode c p = .ok (.iinc a (Jvm.ClassFile.Reader.signed 8 b), 3) := de_dec (by
  unfold Jvm.ClassFile.Decoder.instr
  refine (de_bind h _).trans ?_
  refine (de_bind h1 _).trans ?_
  show Except.bind (Except.bind ((Jvm.ClassFile.Reader.u1 : Jvm.ClassFile.Decoder Nat) c (p + 1 + 1)) (fun q => .ok (Jvm.ClassFile.Reader.signed 8 q.1, q.2))) (fun q => .ok (Instr.iinc a q.1, q.2)) = _
  rw [de_u1 h2]
  rfl)
