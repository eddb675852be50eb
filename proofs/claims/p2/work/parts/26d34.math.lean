-- reset, step by step
def cnt (z : CS) : Nat → Int32
  | 0 => 0
  | j + 1 => cnt z j + (if lg_cmp (z.1 j) 1008673 = 0 then 0 else 1)
def RZ (z : CS) (j : Nat) (n : Int32) (u : Nat → Int64) : Prop := (∀ i, i < j → u i = 1008673) ∧ (∀ i, j ≤ i → u i = z.1 i) ∧ n = cnt z j
theorem RZ_0 (z : CS) : RZ z 0 0 z.1 := ⟨fun _ h => absurd h (Nat.not_lt_zero _), fun _ _ => rfl, rfl⟩
theorem RZ_y {z : CS} {j : Nat} {n : Int32} {u : Nat → Int64} {c : Int32} (g : RZ z j n u) (hc : c.toNatClampNeg = j) (h : lg_cmp (u c.toNatClampNeg) 1008673 = 0) : RZ z (j + 1) n u := by
  rw [hc] at h
  have e : u j = 1008673 := (lg_cmp_eq _ _).mp h
  refine ⟨fun i hi => ?_, fun i hi => g.2.1 i (by omega), ?_⟩
  · by_cases k : i = j
    · rw [k]; exact e
    · exact g.1 i (by omega)
  · rw [g.2.1 _ (Nat.le_refl _)] at h
    show n = cnt z j + (if lg_cmp (z.1 j) 1008673 = 0 then 0 else 1)
    rw [if_pos h, g.2.2]; exact (Int32.add_zero _).symm
theorem RZ_n {z : CS} {j : Nat} {n : Int32} {u : Nat → Int64} {c : Int32} (g : RZ z j n u) (hc : c.toNatClampNeg = j) (h : ¬ lg_cmp (u c.toNatClampNeg) 1008673 = 0) : RZ z (j + 1) (n + 1) (vp_updL u c.toNatClampNeg 1008673) := by
  rw [hc] at h ⊢
  refine ⟨fun i hi => ?_, fun i hi => ?_, ?_⟩
  · by_cases k : i = j
    · rw [k, pk_uLs]
    · rw [pk_uLn k]; exact g.1 i (by omega)
  · rw [pk_uLn (show i ≠ j by omega)]; exact g.2.1 i (by omega)
  · rw [g.2.1 _ (Nat.le_refl _)] at h
    show n + 1 = cnt z j + (if lg_cmp (z.1 j) 1008673 = 0 then 0 else 1)
    rw [if_neg h, g.2.2]
theorem rz_c {z : CS} {n : Int32} {c : Prop} [Decidable c] {A B : Nat × Int32 × CS} (h1 : c → rzQ z n A) (h2 : ¬ c → rzQ z n B) : rzQ z n (if c then A else B) := by
  split
  · exact h1 (by assumption)
  · exact h2 (by assumption)
theorem rz_all (z : CS) : rzQ z (cnt z 6) (m_X0_reset z) := by
  unfold m_X0_reset
  have g := RZ_0 z
  refine rz_c (fun h => ?_) (fun h => ?_)
  all_goals (first | replace g := RZ_y (c := 0) g (by decide) h | replace g := RZ_n (c := 0) g (by decide) h)
  all_goals (clear h; refine rz_c (fun h => ?_) (fun h => ?_))
  all_goals (first | replace g := RZ_y (c := 1) g (by decide) h | replace g := RZ_n (c := 1) g (by decide) h)
  all_goals (clear h; refine rz_c (fun h => ?_) (fun h => ?_))
  all_goals (first | replace g := RZ_y (c := 2) g (by decide) h | replace g := RZ_n (c := 2) g (by decide) h)
  all_goals (clear h; refine rz_c (fun h => ?_) (fun h => ?_))
  all_goals (first | replace g := RZ_y (c := 3) g (by decide) h | replace g := RZ_n (c := 3) g (by decide) h)
  all_goals (clear h; refine rz_c (fun h => ?_) (fun h => ?_))
  all_goals (first | replace g := RZ_y (c := 4) g (by decide) h | replace g := RZ_n (c := 4) g (by decide) h)
  all_goals (clear h; refine rz_c (fun h => ?_) (fun h => ?_))
  all_goals (first | replace g := RZ_y (c := 5) g (by decide) h | replace g := RZ_n (c := 5) g (by decide) h)
  all_goals (clear h; exact rz_l (Eq.trans (by decide) g.2.2) g.1 rfl)
def cnR (w : MS) : Nat → Int32
  | 0 => 0
  | j + 1 => cnR w j + (if dN (w.2.1 j) = 0 then 0 else 1)
def RW (w0 : MS) (j : Nat) (w : MS) : Prop := (∀ i, i < j → w.2.1 i = ((1970 : Int32), (1 : Int32), (1 : Int32))) ∧ (∀ i, j ≤ i → w.2.1 i = w0.2.1 i) ∧ w.1 = 0 ∧ w.2.2 = w0.2.2
theorem RW_p {w0 w : MS} {j : Nat} {c : Int32} (g : RW w0 j w) (hc : c.toNatClampNeg = j) : RW w0 (j + 1) (dput w c.toNatClampNeg ((1970 : Int32), (1 : Int32), (1 : Int32))) := by
  rw [hc]
  refine ⟨fun i hi => ?_, fun i hi => ?_, g.2.2.1, g.2.2.2⟩
  · show va_up w.2.1 j ((1970 : Int32), (1 : Int32), (1 : Int32)) i = _
    by_cases k : i = j
    · subst k; simp only [va_up, if_true]
    · simp only [va_up, k, if_false]; exact g.1 i (by omega)
  · show va_up w.2.1 j ((1970 : Int32), (1 : Int32), (1 : Int32)) i = _
    have k : ¬ i = j := by omega
    simp only [va_up, k, if_false]; exact g.2.1 i (by omega)
theorem RW_n {w0 w : MS} {j : Nat} {c : Int32} {β : Type} {P : β → Prop} {f : Int32 → Option β} (g : RW w0 j w) (hd : dR (w0.2.1 j)) (hc : c.toNatClampNeg = j) (h : ∀ v, m_X3_one (if v = 0 then (0 : Int32) else 1) = (if dN (w0.2.1 j) = 0 then 0 else 1) → T P (f v)) : T P ((o_X2_number (w.2.1 c.toNatClampNeg)).bind f) := by
  rw [hc, g.2.1 j (Nat.le_refl _)]
  refine v_nu hd.1 (fun v hv => h v ?_)
  have z0 : v = 0 ↔ v.toInt = 0 := by rw [← Int32.toInt_inj]; exact Iff.rfl
  by_cases e : dN (w0.2.1 j) = 0
  · rw [if_pos e, if_pos (z0.mpr (by rw [hv, e]))]; decide
  · rw [if_neg e, if_neg (fun q => e (by rw [← hv]; exact z0.mp q))]; decide
theorem sg_0 (w : MS) (s j : Nat) (hs : s < 2) (hj : j < 3) : sget (sput (sput (sput (sput (sput (sput w ((0 : Int32).toNatClampNeg) (0 : Int32).toNatClampNeg (0 : Int32)) ((0 : Int32).toNatClampNeg) (1 : Int32).toNatClampNeg (0 : Int32)) ((0 : Int32).toNatClampNeg) (2 : Int32).toNatClampNeg (0 : Int32)) ((1 : Int32).toNatClampNeg) (0 : Int32).toNatClampNeg (0 : Int32)) ((1 : Int32).toNatClampNeg) (1 : Int32).toNatClampNeg (0 : Int32)) ((1 : Int32).toNatClampNeg) (2 : Int32).toNatClampNeg (0 : Int32)) s j = 0 := by
  rw [show (0 : Int32).toNatClampNeg = 0 by decide, show (1 : Int32).toNatClampNeg = 1 by decide, show (2 : Int32).toNatClampNeg = 2 by decide]
  rcases (show s = 0 ∨ s = 1 by omega) with rfl | rfl <;> rcases (show j = 0 ∨ j = 1 ∨ j = 2 by omega) with rfl | rfl | rfl <;> simp [sget, sput, upd]
def rrQ (w : MS) (r : Int32 × MS) : Prop := r.1 = cnR w 6 ∧ r.2.1 = 0 ∧ (∀ i, i < 6 → r.2.2.1 i = ((1970 : Int32), (1 : Int32), (1 : Int32))) ∧ (∀ s j, s < 2 → j < 3 → sget r.2 s j = 0) ∧ r.2.2.2.2.2.1 = w.2.2.2.2.1 ∧ r.2.2.2.2.2.2 = w.2.2.2.2.2
theorem rr_all {w : MS} (hd : ∀ i, i < 6 → dR (w.2.1 i)) : T (rrQ w) (o_X3_reset w) := by
  unfold o_X3_reset
  have g0 : RW w 0 ((0 : Int32), w.2.1, w.2.2.1, w.2.2.2.1, w.2.2.2.2.1, w.2.2.2.2.2) := ⟨fun _ h => absurd h (Nat.not_lt_zero _), fun _ _ => rfl, rfl, rfl⟩
  refine RW_n (w := ((0 : Int32), w.2.1, w.2.2.1, w.2.2.2.1, w.2.2.2.2.1, w.2.2.2.2.2)) g0 (hd 0 (by omega)) (c := 0) (by decide) (fun v0 e0 => ?_)
  generalize ((0 : Int32), w.2.1, w.2.2.1, w.2.2.2.1, w.2.2.2.2.1, w.2.2.2.2.2) = w0 at g0 ⊢
  have g1 := RW_p (c := 0) g0 (by decide)
  generalize dput w0 (0 : Int32).toNatClampNeg ((1970 : Int32), (1 : Int32), (1 : Int32)) = w1 at g1 ⊢
  refine RW_n g1 (hd 1 (by omega)) (c := 1) (by decide) (fun v1 e1 => ?_)
  have g2 := RW_p (c := 1) g1 (by decide)
  generalize dput w1 (1 : Int32).toNatClampNeg ((1970 : Int32), (1 : Int32), (1 : Int32)) = w2 at g2 ⊢
  refine RW_n g2 (hd 2 (by omega)) (c := 2) (by decide) (fun v2 e2 => ?_)
  have g3 := RW_p (c := 2) g2 (by decide)
  generalize dput w2 (2 : Int32).toNatClampNeg ((1970 : Int32), (1 : Int32), (1 : Int32)) = w3 at g3 ⊢
  refine RW_n g3 (hd 3 (by omega)) (c := 3) (by decide) (fun v3 e3 => ?_)
  have g4 := RW_p (c := 3) g3 (by decide)
  generalize dput w3 (3 : Int32).toNatClampNeg ((1970 : Int32), (1 : Int32), (1 : Int32)) = w4 at g4 ⊢
  refine RW_n g4 (hd 4 (by omega)) (c := 4) (by decide) (fun v4 e4 => ?_)
  have g5 := RW_p (c := 4) g4 (by decide)
  generalize dput w4 (4 : Int32).toNatClampNeg ((1970 : Int32), (1 : Int32), (1 : Int32)) = w5 at g5 ⊢
  refine RW_n g5 (hd 5 (by omega)) (c := 5) (by decide) (fun v5 e5 => ?_)
  have g6 := RW_p (c := 5) g5 (by decide)
  generalize dput w5 (5 : Int32).toNatClampNeg ((1970 : Int32), (1 : Int32), (1 : Int32)) = w6 at g6 ⊢
  refine T_s ⟨?_, g6.2.2.1, g6.1, fun s j hs hj => sg_0 w6 s j hs hj, ?_, ?_⟩
  · show _ = ((((((0 : Int32) + _) + _) + _) + _) + _) + _
    rw [e0, e1, e2, e3, e4, e5]
  · show w6.2.2.2.2.1 = _; rw [g6.2.2.2]
  · show w6.2.2.2.2.2 = _; rw [g6.2.2.2]
theorem ep_0 {u : Int64} {d : DT} (h : pkD u d) (hd : dR d) : lg_cmp u 1008673 = 0 ↔ dN d = 0 := by
  have n0 : dN ((1970 : Int32), (1 : Int32), (1 : Int32)) = 0 := by decide +kernel
  have n1 : dN ((1970 : Int32), (1 : Int32), (1 : Int32)) = dN ((1970 : Int32), (1 : Int32), (1 : Int32)) := rfl
  rw [pd_eq h pk_ep hd.1 dR_ep.1]
  constructor
  · intro e; rw [e]; exact n0
  · intro e
    have a := pk_dn (p := 0) (q := 0) rfl (by decide) (by decide) hd.1 e
    have b := pk_dn (p := 0) (q := 0) rfl (by decide) (by decide) dR_ep.1 n0
    exact (pd_eq a b hd.1 dR_ep.1).mp ((lg_cmp_eq _ _).mpr rfl)
theorem cnt_e {z : CS} {w : MS} (h : sR z w) : ∀ j, j ≤ 6 → cnt z j = cnR w j
  | 0, _ => rfl
  | j + 1, hj => by
    have e := ep_0 (h.1 j (by omega)).1 (h.1 j (by omega)).2
    show cnt z j + (if lg_cmp (z.1 j) 1008673 = 0 then 0 else 1) = cnR w j + (if dN (w.2.1 j) = 0 then 0 else 1)
    rw [cnt_e h j (by omega)]
    by_cases g : dN (w.2.1 j) = 0
    · rw [if_pos g, if_pos (e.mpr g)]
    · rw [if_neg g, if_neg (fun q => g (e.mp q))]
theorem sm_reset {z : CS} {w : MS} (h : sR z w) : sX (1, 2) (m_X0_reset z) (o_X3_reset w) := by
  have hz := rz_all z
  have hc := cnt_e h 6 (Nat.le_refl _)
  generalize m_X0_reset z = x at hz ⊢
  obtain ⟨a1, a2, a3, a4, a5, a6⟩ := hz
  obtain ⟨r, er, b1, b2, b3, b4, b5, b6⟩ := rr_all (fun i hi => (h.1 i hi).2)
  refine ⟨r, er, ⟨fun i hi => ?_, fun s hs => ?_, ?_, ?_⟩, ?_, fun _ => ?_⟩
  · rw [a3 i hi, b3 i hi]; exact ⟨pk_ep, dR_ep⟩
  · have s0 : spB 0 := ⟨by decide, by decide⟩
    obtain ⟨c0, c1, c2⟩ := a4 s hs
    rw [c0, c1, c2, b4 s 0 hs (by omega), b4 s 1 hs (by omega), b4 s 2 hs (by omega)]
    exact ⟨⟨rfl, rfl, rfl⟩, s0, s0, s0⟩
  · rw [a5, b5]; exact h.2.2.1
  · rw [a6, b6]; exact h.2.2.2
  · rw [b2, a1]; rfl
  · rw [a2, b1, hc]
theorem sm_isSound0 {z : CS} {w : MS} (h : sR z w) : T (fun r => sR z r.2 ∧ r.1 = 1) (o_X3_isSound w) := ⟨_, rfl, h, rfl⟩
theorem sm_thrown (w : MS) : o_X3_thrown w = some (w.1, w) := rfl
theorem sm_digest0 {z : CS} {w : MS} (h : sR z w) : T (fun r => sR z r.2) (o_X3_digest w) := by
  unfold o_X3_digest
  have g0 : ¬ ((0 : Int32) + (1 : Int32) < 0 ∨ 6 ≤ ((0 : Int32) + (1 : Int32)).toNatClampNeg) := by decide
  have g1 : ¬ ((1 : Int32) + (1 : Int32) < 0 ∨ 6 ≤ ((1 : Int32) + (1 : Int32)).toNatClampNeg) := by decide
  have g2 : ¬ ((2 : Int32) + (1 : Int32) < 0 ∨ 6 ≤ ((2 : Int32) + (1 : Int32)).toNatClampNeg) := by decide
  have g3 : ¬ ((3 : Int32) + (1 : Int32) < 0 ∨ 6 ≤ ((3 : Int32) + (1 : Int32)).toNatClampNeg) := by decide
  have g4 : ¬ ((4 : Int32) + (1 : Int32) < 0 ∨ 6 ≤ ((4 : Int32) + (1 : Int32)).toNatClampNeg) := by decide
  have d0 : dR (w.2.1 (0 : Int32).toNatClampNeg) := (h.1 _ (by decide)).2
  have d1 : dR (w.2.1 (1 : Int32).toNatClampNeg) := (h.1 _ (by decide)).2
  have d2 : dR (w.2.1 (2 : Int32).toNatClampNeg) := (h.1 _ (by decide)).2
  have d3 : dR (w.2.1 (3 : Int32).toNatClampNeg) := (h.1 _ (by decide)).2
  have d4 : dR (w.2.1 (4 : Int32).toNatClampNeg) := (h.1 _ (by decide)).2
  have d5 : dR (w.2.1 (5 : Int32).toNatClampNeg) := (h.1 _ (by decide)).2
  have e0 : dR (w.2.1 ((0 : Int32) + (1 : Int32)).toNatClampNeg) := (h.1 _ (by decide)).2
  have e1 : dR (w.2.1 ((1 : Int32) + (1 : Int32)).toNatClampNeg) := (h.1 _ (by decide)).2
  have e2 : dR (w.2.1 ((2 : Int32) + (1 : Int32)).toNatClampNeg) := (h.1 _ (by decide)).2
  have e3 : dR (w.2.1 ((3 : Int32) + (1 : Int32)).toNatClampNeg) := (h.1 _ (by decide)).2
  have e4 : dR (w.2.1 ((4 : Int32) + (1 : Int32)).toNatClampNeg) := (h.1 _ (by decide)).2
  have u0 : (0 : Int32) = 0 ∨ (0 : Int32) = 1 ∨ (0 : Int32) = 2 ∨ (0 : Int32) = 3 ∨ (0 : Int32) = 4 ∨ (0 : Int32) = 5 ∨ (0 : Int32) = 6 := u_c (by decide)
  have u1 : (1 : Int32) = 0 ∨ (1 : Int32) = 1 ∨ (1 : Int32) = 2 ∨ (1 : Int32) = 3 ∨ (1 : Int32) = 4 ∨ (1 : Int32) = 5 ∨ (1 : Int32) = 6 := u_c (by decide)
  have u2 : (2 : Int32) = 0 ∨ (2 : Int32) = 1 ∨ (2 : Int32) = 2 ∨ (2 : Int32) = 3 ∨ (2 : Int32) = 4 ∨ (2 : Int32) = 5 ∨ (2 : Int32) = 6 := u_c (by decide)
  have u3 : (3 : Int32) = 0 ∨ (3 : Int32) = 1 ∨ (3 : Int32) = 2 ∨ (3 : Int32) = 3 ∨ (3 : Int32) = 4 ∨ (3 : Int32) = 5 ∨ (3 : Int32) = 6 := u_c (by decide)
  have u4 : (4 : Int32) = 0 ∨ (4 : Int32) = 1 ∨ (4 : Int32) = 2 ∨ (4 : Int32) = 3 ∨ (4 : Int32) = 4 ∨ (4 : Int32) = 5 ∨ (4 : Int32) = 6 := u_c (by decide)
  have u5 : (5 : Int32) = 0 ∨ (5 : Int32) = 1 ∨ (5 : Int32) = 2 ∨ (5 : Int32) = 3 ∨ (5 : Int32) = 4 ∨ (5 : Int32) = 5 ∨ (5 : Int32) = 6 := u_c (by decide)
  have u6 : (6 : Int32) = 0 ∨ (6 : Int32) = 1 ∨ (6 : Int32) = 2 ∨ (6 : Int32) = 3 ∨ (6 : Int32) = 4 ∨ (6 : Int32) = 5 ∨ (6 : Int32) = 6 := u_c (by decide)
  refine T_ad d0 (fun _ => ?_)
  refine T_ad d1 (fun _ => ?_)
  refine T_ad d2 (fun _ => ?_)
  refine T_ad d3 (fun _ => ?_)
  refine T_ad d4 (fun _ => ?_)
  refine T_ad d5 (fun _ => ?_)
  refine T_in g0 (T_cp (fun _ => ?_))
  refine T_in g0 (T_wh d0 e0 u0 (fun _ => ?_))
  refine T_in g0 (T_wh d0 e0 u1 (fun _ => ?_))
  refine T_in g0 (T_wh d0 e0 u2 (fun _ => ?_))
  refine T_in g0 (T_wh d0 e0 u3 (fun _ => ?_))
  refine T_in g0 (T_wh d0 e0 u4 (fun _ => ?_))
  refine T_in g0 (T_wh d0 e0 u5 (fun _ => ?_))
  refine T_in g0 (T_wh d0 e0 u6 (fun _ => ?_))
  refine T_in g1 (T_cp (fun _ => ?_))
  refine T_in g1 (T_wh d1 e1 u0 (fun _ => ?_))
  refine T_in g1 (T_wh d1 e1 u1 (fun _ => ?_))
  refine T_in g1 (T_wh d1 e1 u2 (fun _ => ?_))
  refine T_in g1 (T_wh d1 e1 u3 (fun _ => ?_))
  refine T_in g1 (T_wh d1 e1 u4 (fun _ => ?_))
  refine T_in g1 (T_wh d1 e1 u5 (fun _ => ?_))
  refine T_in g1 (T_wh d1 e1 u6 (fun _ => ?_))
  refine T_in g2 (T_cp (fun _ => ?_))
  refine T_in g2 (T_wh d2 e2 u0 (fun _ => ?_))
  refine T_in g2 (T_wh d2 e2 u1 (fun _ => ?_))
  refine T_in g2 (T_wh d2 e2 u2 (fun _ => ?_))
  refine T_in g2 (T_wh d2 e2 u3 (fun _ => ?_))
  refine T_in g2 (T_wh d2 e2 u4 (fun _ => ?_))
  refine T_in g2 (T_wh d2 e2 u5 (fun _ => ?_))
  refine T_in g2 (T_wh d2 e2 u6 (fun _ => ?_))
  refine T_in g3 (T_cp (fun _ => ?_))
  refine T_in g3 (T_wh d3 e3 u0 (fun _ => ?_))
  refine T_in g3 (T_wh d3 e3 u1 (fun _ => ?_))
  refine T_in g3 (T_wh d3 e3 u2 (fun _ => ?_))
  refine T_in g3 (T_wh d3 e3 u3 (fun _ => ?_))
  refine T_in g3 (T_wh d3 e3 u4 (fun _ => ?_))
  refine T_in g3 (T_wh d3 e3 u5 (fun _ => ?_))
  refine T_in g3 (T_wh d3 e3 u6 (fun _ => ?_))
  refine T_in g4 (T_cp (fun _ => ?_))
  refine T_in g4 (T_wh d4 e4 u0 (fun _ => ?_))
  refine T_in g4 (T_wh d4 e4 u1 (fun _ => ?_))
  refine T_in g4 (T_wh d4 e4 u2 (fun _ => ?_))
  refine T_in g4 (T_wh d4 e4 u3 (fun _ => ?_))
  refine T_in g4 (T_wh d4 e4 u4 (fun _ => ?_))
  refine T_in g4 (T_wh d4 e4 u5 (fun _ => ?_))
  refine T_in g4 (T_wh d4 e4 u6 (fun _ => ?_))
  exact T_b (Q := fun x => x.2 = ((0 : Int32), w.2)) ⟨_, hn_E _ h, rfl⟩ (fun x hx => by
    rw [hx]
    exact T_b (Q := fun x => x.2 = ((0 : Int32), w.2)) ⟨_, hn_E _ h, rfl⟩ (fun y hy => by
      rw [hy]
      exact T_b (Q := fun x => x.2 = ((0 : Int32), w.2)) ⟨_, hn_E _ h, rfl⟩ (fun u hu => T_s (by rw [hu]; exact h))))
