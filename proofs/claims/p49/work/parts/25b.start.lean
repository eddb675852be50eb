set_option maxRecDepth 100000 in
set_option maxHeartbeats 8000000 in
theorem gx_start {args : Array Value} {s : State} (h0 : (Jvm.Cond.and given_1 narrow_1).before args s = true) (hts : ∀ w ∈ lw_tbl, w.before args s = true) : ∃ k : Kx, kB k = s.heap.size ∧ Gx k s ∧ va_AY s := by
  have hF : ∀ q ∈ Fl9, q.before args s = true := flat_of_before _ h0
  have htg : ∀ q ∈ GL, q.before args s = true := fun q h => hts q (GL_tbl h)
  have hA : ∀ a : Nat, a < s.heap.size → ¬ A9 s a := fun a h => Nat.not_le.mpr h
  have f_4 : (Jvm.Cond.isRef (Jvm.Term.static "java/lang/Throwable" "UNASSIGNED_STACK" "[Ljava/lang/StackTraceElement;")).before args s = true := hF _ (List.mem_of_getElem? (fp_0 (4, (Jvm.Cond.isRef (Jvm.Term.static "java/lang/Throwable" "UNASSIGNED_STACK" "[Ljava/lang/StackTraceElement;"))) (List.mem_of_getElem? (i := 0) rfl)))
  have f_5 : (Jvm.Cond.isRef (Jvm.Term.static "java/lang/Throwable" "SUPPRESSED_SENTINEL" "Ljava/util/List;")).before args s = true := hF _ (List.mem_of_getElem? (fp_0 (5, (Jvm.Cond.isRef (Jvm.Term.static "java/lang/Throwable" "SUPPRESSED_SENTINEL" "Ljava/util/List;"))) (List.mem_of_getElem? (i := 1) rfl)))
  have f_6 : (Jvm.Cond.eq (Jvm.Term.static "java/lang/String" "COMPACT_STRINGS" "Z") (Jvm.Term.int (1 : Int32))).before args s = true := hF _ (List.mem_of_getElem? (fp_0 (6, (Jvm.Cond.eq (Jvm.Term.static "java/lang/String" "COMPACT_STRINGS" "Z") (Jvm.Term.int (1 : Int32)))) (List.mem_of_getElem? (i := 2) rfl)))
  have f_12 : (Jvm.Cond.arrayOf (Jvm.Term.static "java/lang/Integer" "DigitOnes" "[B") Jvm.ClassFile.FieldType.byte).before args s = true := hF _ (List.mem_of_getElem? (fp_0 (12, (Jvm.Cond.arrayOf (Jvm.Term.static "java/lang/Integer" "DigitOnes" "[B") Jvm.ClassFile.FieldType.byte)) (List.mem_of_getElem? (i := 3) rfl)))
  have f_13 : (Jvm.Cond.eq (Jvm.Term.length (Jvm.Term.static "java/lang/Integer" "DigitOnes" "[B")) (Jvm.Term.int (100 : Int32))).before args s = true := hF _ (List.mem_of_getElem? (fp_0 (13, (Jvm.Cond.eq (Jvm.Term.length (Jvm.Term.static "java/lang/Integer" "DigitOnes" "[B")) (Jvm.Term.int (100 : Int32)))) (List.mem_of_getElem? (i := 4) rfl)))
  have f_115 : (Jvm.Cond.arrayOf (Jvm.Term.static "java/lang/Integer" "DigitTens" "[B") Jvm.ClassFile.FieldType.byte).before args s = true := hF _ (List.mem_of_getElem? (fp_0 (115, (Jvm.Cond.arrayOf (Jvm.Term.static "java/lang/Integer" "DigitTens" "[B") Jvm.ClassFile.FieldType.byte)) (List.mem_of_getElem? (i := 5) rfl)))
  have f_116 : (Jvm.Cond.eq (Jvm.Term.length (Jvm.Term.static "java/lang/Integer" "DigitTens" "[B")) (Jvm.Term.int (100 : Int32))).before args s = true := hF _ (List.mem_of_getElem? (fp_0 (116, (Jvm.Cond.eq (Jvm.Term.length (Jvm.Term.static "java/lang/Integer" "DigitTens" "[B")) (Jvm.Term.int (100 : Int32)))) (List.mem_of_getElem? (i := 6) rfl)))
  have f_218 : (Jvm.Cond.arrayOf (Jvm.Term.static "DatesoloModel" "LONG" "[I") Jvm.ClassFile.FieldType.int).before args s = true := hF _ (List.mem_of_getElem? (fp_0 (218, (Jvm.Cond.arrayOf (Jvm.Term.static "DatesoloModel" "LONG" "[I") Jvm.ClassFile.FieldType.int)) (List.mem_of_getElem? (i := 7) rfl)))
  have f_219 : (Jvm.Cond.eq (Jvm.Term.length (Jvm.Term.static "DatesoloModel" "LONG" "[I")) (Jvm.Term.int (12 : Int32))).before args s = true := hF _ (List.mem_of_getElem? (fp_0 (219, (Jvm.Cond.eq (Jvm.Term.length (Jvm.Term.static "DatesoloModel" "LONG" "[I")) (Jvm.Term.int (12 : Int32)))) (List.mem_of_getElem? (i := 8) rfl)))
  have f_236 : (Jvm.Cond.not (Jvm.Cond.castable "java/lang/IllegalArgumentException" "java/lang/IndexOutOfBoundsException")).before args s = true := hF _ (List.mem_of_getElem? (fp_0 (236, (Jvm.Cond.not (Jvm.Cond.castable "java/lang/IllegalArgumentException" "java/lang/IndexOutOfBoundsException"))) (List.mem_of_getElem? (i := 9) rfl)))
  have f_237 : (Jvm.Cond.not (Jvm.Cond.castable "java/lang/IllegalStateException" "java/lang/IndexOutOfBoundsException")).before args s = true := hF _ (List.mem_of_getElem? (fp_0 (237, (Jvm.Cond.not (Jvm.Cond.castable "java/lang/IllegalStateException" "java/lang/IndexOutOfBoundsException"))) (List.mem_of_getElem? (i := 10) rfl)))
  have f_245 : (Jvm.Cond.not (Jvm.Cond.castable "java/lang/IllegalStateException" "java/lang/IllegalArgumentException")).before args s = true := hF _ (List.mem_of_getElem? (fp_0 (245, (Jvm.Cond.not (Jvm.Cond.castable "java/lang/IllegalStateException" "java/lang/IllegalArgumentException"))) (List.mem_of_getElem? (i := 11) rfl)))
  have f_281 : (Jvm.Cond.exactly (Jvm.Term.string "Datesolo" (234 : Nat)) "java/lang/String").before args s = true := hF _ (List.mem_of_getElem? (fp_0 (281, (Jvm.Cond.exactly (Jvm.Term.string "Datesolo" (234 : Nat)) "java/lang/String")) (List.mem_of_getElem? (i := 12) rfl)))
  have f_256 : (Jvm.Cond.exactly (Jvm.Term.string "Datesolo" (239 : Nat)) "java/lang/String").before args s = true := hF _ (List.mem_of_getElem? (fp_0 (256, (Jvm.Cond.exactly (Jvm.Term.string "Datesolo" (239 : Nat)) "java/lang/String")) (List.mem_of_getElem? (i := 13) rfl)))
  have f_308 : (Jvm.Cond.exactly (Jvm.Term.string "Datesolo" (243 : Nat)) "java/lang/String").before args s = true := hF _ (List.mem_of_getElem? (fp_0 (308, (Jvm.Cond.exactly (Jvm.Term.string "Datesolo" (243 : Nat)) "java/lang/String")) (List.mem_of_getElem? (i := 14) rfl)))
  have f_369 : (Jvm.Cond.exactly (Jvm.Term.string "Datesolo" (250 : Nat)) "java/lang/String").before args s = true := hF _ (List.mem_of_getElem? (fp_0 (369, (Jvm.Cond.exactly (Jvm.Term.string "Datesolo" (250 : Nat)) "java/lang/String")) (List.mem_of_getElem? (i := 15) rfl)))
  have f_408 : (Jvm.Cond.exactly (Jvm.Term.string "Datesolo" (257 : Nat)) "java/lang/String").before args s = true := hF _ (List.mem_of_getElem? (fp_0 (408, (Jvm.Cond.exactly (Jvm.Term.string "Datesolo" (257 : Nat)) "java/lang/String")) (List.mem_of_getElem? (i := 16) rfl)))
  have f_479 : (Jvm.Cond.exactly (Jvm.Term.string "Datesolo" (259 : Nat)) "java/lang/String").before args s = true := hF _ (List.mem_of_getElem? (fp_0 (479, (Jvm.Cond.exactly (Jvm.Term.string "Datesolo" (259 : Nat)) "java/lang/String")) (List.mem_of_getElem? (i := 17) rfl)))
  have f_532 : (Jvm.Cond.exactly (Jvm.Term.string "Datesolo" (261 : Nat)) "java/lang/String").before args s = true := hF _ (List.mem_of_getElem? (fp_0 (532, (Jvm.Cond.exactly (Jvm.Term.string "Datesolo" (261 : Nat)) "java/lang/String")) (List.mem_of_getElem? (i := 18) rfl)))
  have f_439 : (Jvm.Cond.exactly (Jvm.Term.string "Datesolo" (263 : Nat)) "java/lang/String").before args s = true := hF _ (List.mem_of_getElem? (fp_0 (439, (Jvm.Cond.exactly (Jvm.Term.string "Datesolo" (263 : Nat)) "java/lang/String")) (List.mem_of_getElem? (i := 19) rfl)))
  have f_592 : (Jvm.Cond.exactly (Jvm.Term.string "DatesoloModel" (196 : Nat)) "java/lang/String").before args s = true := hF _ (List.mem_of_getElem? (fp_0 (592, (Jvm.Cond.exactly (Jvm.Term.string "DatesoloModel" (196 : Nat)) "java/lang/String")) (List.mem_of_getElem? (i := 20) rfl)))
  have f_622 : (Jvm.Cond.exactly (Jvm.Term.string "DatesoloModel" (214 : Nat)) "java/lang/String").before args s = true := hF _ (List.mem_of_getElem? (fp_0 (622, (Jvm.Cond.exactly (Jvm.Term.string "DatesoloModel" (214 : Nat)) "java/lang/String")) (List.mem_of_getElem? (i := 21) rfl)))
  have f_606 : (Jvm.Cond.exactly (Jvm.Term.string "DatesoloModel" (216 : Nat)) "java/lang/String").before args s = true := hF _ (List.mem_of_getElem? (fp_0 (606, (Jvm.Cond.exactly (Jvm.Term.string "DatesoloModel" (216 : Nat)) "java/lang/String")) (List.mem_of_getElem? (i := 22) rfl)))
  have f_639 : (Jvm.Cond.exactly (Jvm.Term.string "DatesoloModel" (222 : Nat)) "java/lang/String").before args s = true := hF _ (List.mem_of_getElem? (fp_0 (639, (Jvm.Cond.exactly (Jvm.Term.string "DatesoloModel" (222 : Nat)) "java/lang/String")) (List.mem_of_getElem? (i := 23) rfl)))
  have f_593 : (Jvm.Cond.eq (Jvm.Term.field (Jvm.Term.string "DatesoloModel" (196 : Nat)) "java/lang/String" "coder" "B") (Jvm.Term.int (0 : Int32))).before args s = true := hF _ (List.mem_of_getElem? (fp_0 (593, (Jvm.Cond.eq (Jvm.Term.field (Jvm.Term.string "DatesoloModel" (196 : Nat)) "java/lang/String" "coder" "B") (Jvm.Term.int (0 : Int32)))) (List.mem_of_getElem? (i := 24) rfl)))
  have f_623 : (Jvm.Cond.eq (Jvm.Term.field (Jvm.Term.string "DatesoloModel" (214 : Nat)) "java/lang/String" "coder" "B") (Jvm.Term.int (0 : Int32))).before args s = true := hF _ (List.mem_of_getElem? (fp_0 (623, (Jvm.Cond.eq (Jvm.Term.field (Jvm.Term.string "DatesoloModel" (214 : Nat)) "java/lang/String" "coder" "B") (Jvm.Term.int (0 : Int32)))) (List.mem_of_getElem? (i := 25) rfl)))
  have f_607 : (Jvm.Cond.eq (Jvm.Term.field (Jvm.Term.string "DatesoloModel" (216 : Nat)) "java/lang/String" "coder" "B") (Jvm.Term.int (0 : Int32))).before args s = true := hF _ (List.mem_of_getElem? (fp_0 (607, (Jvm.Cond.eq (Jvm.Term.field (Jvm.Term.string "DatesoloModel" (216 : Nat)) "java/lang/String" "coder" "B") (Jvm.Term.int (0 : Int32)))) (List.mem_of_getElem? (i := 26) rfl)))
  have f_640 : (Jvm.Cond.eq (Jvm.Term.field (Jvm.Term.string "DatesoloModel" (222 : Nat)) "java/lang/String" "coder" "B") (Jvm.Term.int (0 : Int32))).before args s = true := hF _ (List.mem_of_getElem? (fp_0 (640, (Jvm.Cond.eq (Jvm.Term.field (Jvm.Term.string "DatesoloModel" (222 : Nat)) "java/lang/String" "coder" "B") (Jvm.Term.int (0 : Int32)))) (List.mem_of_getElem? (i := 27) rfl)))
  have f_594 : (Jvm.Cond.arrayOf (Jvm.Term.field (Jvm.Term.string "DatesoloModel" (196 : Nat)) "java/lang/String" "value" "[B") Jvm.ClassFile.FieldType.byte).before args s = true := hF _ (List.mem_of_getElem? (fp_0 (594, (Jvm.Cond.arrayOf (Jvm.Term.field (Jvm.Term.string "DatesoloModel" (196 : Nat)) "java/lang/String" "value" "[B") Jvm.ClassFile.FieldType.byte)) (List.mem_of_getElem? (i := 28) rfl)))
  have f_624 : (Jvm.Cond.arrayOf (Jvm.Term.field (Jvm.Term.string "DatesoloModel" (214 : Nat)) "java/lang/String" "value" "[B") Jvm.ClassFile.FieldType.byte).before args s = true := hF _ (List.mem_of_getElem? (fp_0 (624, (Jvm.Cond.arrayOf (Jvm.Term.field (Jvm.Term.string "DatesoloModel" (214 : Nat)) "java/lang/String" "value" "[B") Jvm.ClassFile.FieldType.byte)) (List.mem_of_getElem? (i := 29) rfl)))
  have f_608 : (Jvm.Cond.arrayOf (Jvm.Term.field (Jvm.Term.string "DatesoloModel" (216 : Nat)) "java/lang/String" "value" "[B") Jvm.ClassFile.FieldType.byte).before args s = true := hF _ (List.mem_of_getElem? (fp_0 (608, (Jvm.Cond.arrayOf (Jvm.Term.field (Jvm.Term.string "DatesoloModel" (216 : Nat)) "java/lang/String" "value" "[B") Jvm.ClassFile.FieldType.byte)) (List.mem_of_getElem? (i := 30) rfl)))
  have f_641 : (Jvm.Cond.arrayOf (Jvm.Term.field (Jvm.Term.string "DatesoloModel" (222 : Nat)) "java/lang/String" "value" "[B") Jvm.ClassFile.FieldType.byte).before args s = true := hF _ (List.mem_of_getElem? (fp_0 (641, (Jvm.Cond.arrayOf (Jvm.Term.field (Jvm.Term.string "DatesoloModel" (222 : Nat)) "java/lang/String" "value" "[B") Jvm.ClassFile.FieldType.byte)) (List.mem_of_getElem? (i := 31) rfl)))
  have f_595 : (Jvm.Cond.eq (Jvm.Term.length (Jvm.Term.field (Jvm.Term.string "DatesoloModel" (196 : Nat)) "java/lang/String" "value" "[B")) (Jvm.Term.int (0 : Int32))).before args s = true := hF _ (List.mem_of_getElem? (fp_0 (595, (Jvm.Cond.eq (Jvm.Term.length (Jvm.Term.field (Jvm.Term.string "DatesoloModel" (196 : Nat)) "java/lang/String" "value" "[B")) (Jvm.Term.int (0 : Int32)))) (List.mem_of_getElem? (i := 32) rfl)))
  have f_625 : (Jvm.Cond.eq (Jvm.Term.length (Jvm.Term.field (Jvm.Term.string "DatesoloModel" (214 : Nat)) "java/lang/String" "value" "[B")) (Jvm.Term.int (1 : Int32))).before args s = true := hF _ (List.mem_of_getElem? (fp_0 (625, (Jvm.Cond.eq (Jvm.Term.length (Jvm.Term.field (Jvm.Term.string "DatesoloModel" (214 : Nat)) "java/lang/String" "value" "[B")) (Jvm.Term.int (1 : Int32)))) (List.mem_of_getElem? (i := 33) rfl)))
  have f_609 : (Jvm.Cond.eq (Jvm.Term.length (Jvm.Term.field (Jvm.Term.string "DatesoloModel" (216 : Nat)) "java/lang/String" "value" "[B")) (Jvm.Term.int (1 : Int32))).before args s = true := hF _ (List.mem_of_getElem? (fp_0 (609, (Jvm.Cond.eq (Jvm.Term.length (Jvm.Term.field (Jvm.Term.string "DatesoloModel" (216 : Nat)) "java/lang/String" "value" "[B")) (Jvm.Term.int (1 : Int32)))) (List.mem_of_getElem? (i := 34) rfl)))
  have f_642 : (Jvm.Cond.eq (Jvm.Term.length (Jvm.Term.field (Jvm.Term.string "DatesoloModel" (222 : Nat)) "java/lang/String" "value" "[B")) (Jvm.Term.int (1 : Int32))).before args s = true := hF _ (List.mem_of_getElem? (fp_0 (642, (Jvm.Cond.eq (Jvm.Term.length (Jvm.Term.field (Jvm.Term.string "DatesoloModel" (222 : Nat)) "java/lang/String" "value" "[B")) (Jvm.Term.int (1 : Int32)))) (List.mem_of_getElem? (i := 35) rfl)))
  have f_626 : (Jvm.Cond.eq (Jvm.Term.elem (Jvm.Term.field (Jvm.Term.string "DatesoloModel" (214 : Nat)) "java/lang/String" "value" "[B") (Jvm.Term.int (0 : Int32))) (Jvm.Term.int (48 : Int32))).before args s = true := hF _ (List.mem_of_getElem? (fp_0 (626, (Jvm.Cond.eq (Jvm.Term.elem (Jvm.Term.field (Jvm.Term.string "DatesoloModel" (214 : Nat)) "java/lang/String" "value" "[B") (Jvm.Term.int (0 : Int32))) (Jvm.Term.int (48 : Int32)))) (List.mem_of_getElem? (i := 36) rfl)))
  have f_610 : (Jvm.Cond.eq (Jvm.Term.elem (Jvm.Term.field (Jvm.Term.string "DatesoloModel" (216 : Nat)) "java/lang/String" "value" "[B") (Jvm.Term.int (0 : Int32))) (Jvm.Term.int (63 : Int32))).before args s = true := hF _ (List.mem_of_getElem? (fp_0 (610, (Jvm.Cond.eq (Jvm.Term.elem (Jvm.Term.field (Jvm.Term.string "DatesoloModel" (216 : Nat)) "java/lang/String" "value" "[B") (Jvm.Term.int (0 : Int32))) (Jvm.Term.int (63 : Int32)))) (List.mem_of_getElem? (i := 37) rfl)))
  have f_643 : (Jvm.Cond.eq (Jvm.Term.elem (Jvm.Term.field (Jvm.Term.string "DatesoloModel" (222 : Nat)) "java/lang/String" "value" "[B") (Jvm.Term.int (0 : Int32))) (Jvm.Term.int (45 : Int32))).before args s = true := hF _ (List.mem_of_getElem? (fp_0 (643, (Jvm.Cond.eq (Jvm.Term.elem (Jvm.Term.field (Jvm.Term.string "DatesoloModel" (222 : Nat)) "java/lang/String" "value" "[B") (Jvm.Term.int (0 : Int32))) (Jvm.Term.int (45 : Int32)))) (List.mem_of_getElem? (i := 38) rfl)))
  have f_637 : (Jvm.Cond.not (Jvm.Cond.eq (Jvm.Term.string "DatesoloModel" (196 : Nat)) (Jvm.Term.string "DatesoloModel" (214 : Nat)))).before args s = true := hF _ (List.mem_of_getElem? (fp_0 (637, (Jvm.Cond.not (Jvm.Cond.eq (Jvm.Term.string "DatesoloModel" (196 : Nat)) (Jvm.Term.string "DatesoloModel" (214 : Nat))))) (List.mem_of_getElem? (i := 39) rfl)))
  have f_621 : (Jvm.Cond.not (Jvm.Cond.eq (Jvm.Term.string "DatesoloModel" (196 : Nat)) (Jvm.Term.string "DatesoloModel" (216 : Nat)))).before args s = true := hF _ (List.mem_of_getElem? (fp_40 (621, (Jvm.Cond.not (Jvm.Cond.eq (Jvm.Term.string "DatesoloModel" (196 : Nat)) (Jvm.Term.string "DatesoloModel" (216 : Nat))))) (List.mem_of_getElem? (i := 0) rfl)))
  have f_654 : (Jvm.Cond.not (Jvm.Cond.eq (Jvm.Term.string "DatesoloModel" (196 : Nat)) (Jvm.Term.string "DatesoloModel" (222 : Nat)))).before args s = true := hF _ (List.mem_of_getElem? (fp_40 (654, (Jvm.Cond.not (Jvm.Cond.eq (Jvm.Term.string "DatesoloModel" (196 : Nat)) (Jvm.Term.string "DatesoloModel" (222 : Nat))))) (List.mem_of_getElem? (i := 1) rfl)))
  have f_638 : (Jvm.Cond.not (Jvm.Cond.eq (Jvm.Term.string "DatesoloModel" (216 : Nat)) (Jvm.Term.string "DatesoloModel" (214 : Nat)))).before args s = true := hF _ (List.mem_of_getElem? (fp_40 (638, (Jvm.Cond.not (Jvm.Cond.eq (Jvm.Term.string "DatesoloModel" (216 : Nat)) (Jvm.Term.string "DatesoloModel" (214 : Nat))))) (List.mem_of_getElem? (i := 2) rfl)))
  have f_656 : (Jvm.Cond.not (Jvm.Cond.eq (Jvm.Term.string "DatesoloModel" (214 : Nat)) (Jvm.Term.string "DatesoloModel" (222 : Nat)))).before args s = true := hF _ (List.mem_of_getElem? (fp_40 (656, (Jvm.Cond.not (Jvm.Cond.eq (Jvm.Term.string "DatesoloModel" (214 : Nat)) (Jvm.Term.string "DatesoloModel" (222 : Nat))))) (List.mem_of_getElem? (i := 3) rfl)))
  have f_655 : (Jvm.Cond.not (Jvm.Cond.eq (Jvm.Term.string "DatesoloModel" (216 : Nat)) (Jvm.Term.string "DatesoloModel" (222 : Nat)))).before args s = true := hF _ (List.mem_of_getElem? (fp_40 (655, (Jvm.Cond.not (Jvm.Cond.eq (Jvm.Term.string "DatesoloModel" (216 : Nat)) (Jvm.Term.string "DatesoloModel" (222 : Nat))))) (List.mem_of_getElem? (i := 4) rfl)))
  have f_350 : (Jvm.Cond.exactly (Jvm.Term.string "Datesolo" (159 : Nat)) "java/lang/String").before args s = true := hF _ (List.mem_of_getElem? (fp_40 (350, (Jvm.Cond.exactly (Jvm.Term.string "Datesolo" (159 : Nat)) "java/lang/String")) (List.mem_of_getElem? (i := 5) rfl)))
  have f_614 : (Jvm.Cond.eq (Jvm.Term.string "Datesolo" (159 : Nat)) (Jvm.Term.string "DatesoloModel" (216 : Nat))).before args s = true := hF _ (List.mem_of_getElem? (fp_40 (614, (Jvm.Cond.eq (Jvm.Term.string "Datesolo" (159 : Nat)) (Jvm.Term.string "DatesoloModel" (216 : Nat)))) (List.mem_of_getElem? (i := 6) rfl)))
  have t_116 : (Jvm.Cond.laysStatic "java/lang/Throwable" "UNASSIGNED_STACK" "[Ljava/lang/StackTraceElement;").before args s = true := hts _ (List.mem_of_getElem? (wp_0 (116, (Jvm.Cond.laysStatic "java/lang/Throwable" "UNASSIGNED_STACK" "[Ljava/lang/StackTraceElement;")) (List.mem_of_getElem? (i := 0) rfl)))
  have t_30 : (Jvm.Cond.initialized "java/lang/Throwable").before args s = true := hts _ (List.mem_of_getElem? (wp_0 (30, (Jvm.Cond.initialized "java/lang/Throwable")) (List.mem_of_getElem? (i := 1) rfl)))
  have t_118 : (Jvm.Cond.laysStatic "java/lang/Throwable" "SUPPRESSED_SENTINEL" "Ljava/util/List;").before args s = true := hts _ (List.mem_of_getElem? (wp_0 (118, (Jvm.Cond.laysStatic "java/lang/Throwable" "SUPPRESSED_SENTINEL" "Ljava/util/List;")) (List.mem_of_getElem? (i := 2) rfl)))
  have t_353 : (Jvm.Cond.laysStatic "java/lang/String" "COMPACT_STRINGS" "Z").before args s = true := hts _ (List.mem_of_getElem? (wp_0 (353, (Jvm.Cond.laysStatic "java/lang/String" "COMPACT_STRINGS" "Z")) (List.mem_of_getElem? (i := 3) rfl)))
  have t_39 : (Jvm.Cond.initialized "java/lang/String").before args s = true := hts _ (List.mem_of_getElem? (wp_0 (39, (Jvm.Cond.initialized "java/lang/String")) (List.mem_of_getElem? (i := 4) rfl)))
  have t_484 : (Jvm.Cond.laysStatic "java/lang/Integer" "DigitOnes" "[B").before args s = true := hts _ (List.mem_of_getElem? (wp_0 (484, (Jvm.Cond.laysStatic "java/lang/Integer" "DigitOnes" "[B")) (List.mem_of_getElem? (i := 5) rfl)))
  have t_46 : (Jvm.Cond.initialized "java/lang/Integer").before args s = true := hts _ (List.mem_of_getElem? (wp_0 (46, (Jvm.Cond.initialized "java/lang/Integer")) (List.mem_of_getElem? (i := 6) rfl)))
  have t_486 : (Jvm.Cond.laysStatic "java/lang/Integer" "DigitTens" "[B").before args s = true := hts _ (List.mem_of_getElem? (wp_0 (486, (Jvm.Cond.laysStatic "java/lang/Integer" "DigitTens" "[B")) (List.mem_of_getElem? (i := 7) rfl)))
  have t_1108 : (Jvm.Cond.laysStatic "DatesoloModel" "LONG" "[I").before args s = true := hts _ (List.mem_of_getElem? (wp_0 (1108, (Jvm.Cond.laysStatic "DatesoloModel" "LONG" "[I")) (List.mem_of_getElem? (i := 8) rfl)))
  have t_27 : (Jvm.Cond.initialized "DatesoloModel").before args s = true := hts _ (List.mem_of_getElem? (wp_0 (27, (Jvm.Cond.initialized "DatesoloModel")) (List.mem_of_getElem? (i := 9) rfl)))
  have t_1042 : (Jvm.Cond.arrayOver (Jvm.ClassFile.FieldType.object "DatesoloModel$Date")).before args s = true := hts _ (List.mem_of_getElem? (wp_0 (1042, (Jvm.Cond.arrayOver (Jvm.ClassFile.FieldType.object "DatesoloModel$Date"))) (List.mem_of_getElem? (i := 10) rfl)))
  have t_1044 : (Jvm.Cond.arrayOver (Jvm.ClassFile.FieldType.array Jvm.ClassFile.FieldType.int)).before args s = true := hts _ (List.mem_of_getElem? (wp_0 (1044, (Jvm.Cond.arrayOver (Jvm.ClassFile.FieldType.array Jvm.ClassFile.FieldType.int))) (List.mem_of_getElem? (i := 11) rfl)))
  have t_91 : (Jvm.Cond.castable "java/lang/IndexOutOfBoundsException" "java/lang/IndexOutOfBoundsException").before args s = true := hts _ (List.mem_of_getElem? (wp_0 (91, (Jvm.Cond.castable "java/lang/IndexOutOfBoundsException" "java/lang/IndexOutOfBoundsException")) (List.mem_of_getElem? (i := 12) rfl)))
  have t_315 : (Jvm.Cond.castable "java/lang/IllegalArgumentException" "java/lang/IllegalArgumentException").before args s = true := hts _ (List.mem_of_getElem? (wp_0 (315, (Jvm.Cond.castable "java/lang/IllegalArgumentException" "java/lang/IllegalArgumentException")) (List.mem_of_getElem? (i := 13) rfl)))
  have t_675 : (Jvm.Cond.castable "java/lang/IllegalStateException" "java/lang/IllegalStateException").before args s = true := hts _ (List.mem_of_getElem? (wp_0 (675, (Jvm.Cond.castable "java/lang/IllegalStateException" "java/lang/IllegalStateException")) (List.mem_of_getElem? (i := 14) rfl)))
  have t_93 : (Jvm.Cond.declares ({ cls := "java/lang/RuntimeException", name := "<init>", desc := "(Ljava/lang/String;)V" } : Jvm.MethodName)).before args s = true := hts _ (List.mem_of_getElem? (wp_0 (93, (Jvm.Cond.declares ({ cls := "java/lang/RuntimeException", name := "<init>", desc := "(Ljava/lang/String;)V" } : Jvm.MethodName))) (List.mem_of_getElem? (i := 15) rfl)))
  have t_95 : (Jvm.Cond.declares ({ cls := "java/lang/Exception", name := "<init>", desc := "(Ljava/lang/String;)V" } : Jvm.MethodName)).before args s = true := hts _ (List.mem_of_getElem? (wp_0 (95, (Jvm.Cond.declares ({ cls := "java/lang/Exception", name := "<init>", desc := "(Ljava/lang/String;)V" } : Jvm.MethodName))) (List.mem_of_getElem? (i := 16) rfl)))
  have t_97 : (Jvm.Cond.declares ({ cls := "java/lang/Throwable", name := "<init>", desc := "(Ljava/lang/String;)V" } : Jvm.MethodName)).before args s = true := hts _ (List.mem_of_getElem? (wp_0 (97, (Jvm.Cond.declares ({ cls := "java/lang/Throwable", name := "<init>", desc := "(Ljava/lang/String;)V" } : Jvm.MethodName))) (List.mem_of_getElem? (i := 17) rfl)))
  have t_172 : (Jvm.Cond.stringRef "Datesolo" (234 : Nat) "there is no such place").before args s = true := hts _ (List.mem_of_getElem? (wp_0 (172, (Jvm.Cond.stringRef "Datesolo" (234 : Nat) "there is no such place")) (List.mem_of_getElem? (i := 18) rfl)))
  have t_130 : (Jvm.Cond.stringRef "Datesolo" (239 : Nat) "there is no such span").before args s = true := hts _ (List.mem_of_getElem? (wp_0 (130, (Jvm.Cond.stringRef "Datesolo" (239 : Nat) "there is no such span")) (List.mem_of_getElem? (i := 19) rfl)))
  have t_322 : (Jvm.Cond.stringRef "Datesolo" (243 : Nat) "the number is too small or too large").before args s = true := hts _ (List.mem_of_getElem? (wp_0 (322, (Jvm.Cond.stringRef "Datesolo" (243 : Nat) "the number is too small or too large")) (List.mem_of_getElem? (i := 20) rfl)))
  have t_682 : (Jvm.Cond.stringRef "Datesolo" (250 : Nat) "the month has not so many days").before args s = true := hts _ (List.mem_of_getElem? (wp_0 (682, (Jvm.Cond.stringRef "Datesolo" (250 : Nat) "the month has not so many days")) (List.mem_of_getElem? (i := 21) rfl)))
  have t_698 : (Jvm.Cond.stringRef "Datesolo" (257 : Nat) "what comes is no date").before args s = true := hts _ (List.mem_of_getElem? (wp_0 (698, (Jvm.Cond.stringRef "Datesolo" (257 : Nat) "what comes is no date")) (List.mem_of_getElem? (i := 22) rfl)))
  have t_886 : (Jvm.Cond.stringRef "Datesolo" (259 : Nat) "the second date is ahead of the first one").before args s = true := hts _ (List.mem_of_getElem? (wp_0 (886, (Jvm.Cond.stringRef "Datesolo" (259 : Nat) "the second date is ahead of the first one")) (List.mem_of_getElem? (i := 23) rfl)))
  have t_897 : (Jvm.Cond.stringRef "Datesolo" (261 : Nat) "the number is too small or too large for a span").before args s = true := hts _ (List.mem_of_getElem? (wp_0 (897, (Jvm.Cond.stringRef "Datesolo" (261 : Nat) "the number is too small or too large for a span")) (List.mem_of_getElem? (i := 24) rfl)))
  have t_723 : (Jvm.Cond.stringRef "Datesolo" (263 : Nat) "the year has not so many days").before args s = true := hts _ (List.mem_of_getElem? (wp_0 (723, (Jvm.Cond.stringRef "Datesolo" (263 : Nat) "the year has not so many days")) (List.mem_of_getElem? (i := 25) rfl)))
  have t_646 : (Jvm.Cond.methodLinkNest "DatesoloLaw" (184 : Nat) ({ cls := "DatesoloLaw$Out", name := "<init>", desc := "()V" } : Jvm.MethodName) "DatesoloLaw").before args s = true := hts _ (List.mem_of_getElem? (wp_0 (646, (Jvm.Cond.methodLinkNest "DatesoloLaw" (184 : Nat) ({ cls := "DatesoloLaw$Out", name := "<init>", desc := "()V" } : Jvm.MethodName) "DatesoloLaw")) (List.mem_of_getElem? (i := 26) rfl)))
  have t_650 : (Jvm.Cond.fieldLinkNest "DatesoloLaw" (13 : Nat) "DatesoloLaw$Out" "n" "J" "DatesoloLaw").before args s = true := hts _ (List.mem_of_getElem? (wp_0 (650, (Jvm.Cond.fieldLinkNest "DatesoloLaw" (13 : Nat) "DatesoloLaw$Out" "n" "J" "DatesoloLaw")) (List.mem_of_getElem? (i := 27) rfl)))
  have t_651 : (Jvm.Cond.fieldLinkNest "DatesoloLaw" (141 : Nat) "DatesoloLaw$Out" "s" "Ljava/lang/String;" "DatesoloLaw").before args s = true := hts _ (List.mem_of_getElem? (wp_0 (651, (Jvm.Cond.fieldLinkNest "DatesoloLaw" (141 : Nat) "DatesoloLaw$Out" "s" "Ljava/lang/String;" "DatesoloLaw")) (List.mem_of_getElem? (i := 28) rfl)))
  have t_1122 : (Jvm.Cond.methodLinkNest "DatesoloModel$Date" (27 : Nat) ({ cls := "DatesoloModel", name := "share", desc := "(JJ)J" } : Jvm.MethodName) "DatesoloModel").before args s = true := hts _ (List.mem_of_getElem? (wp_0 (1122, (Jvm.Cond.methodLinkNest "DatesoloModel$Date" (27 : Nat) ({ cls := "DatesoloModel", name := "share", desc := "(JJ)J" } : Jvm.MethodName) "DatesoloModel")) (List.mem_of_getElem? (i := 29) rfl)))
  have t_1127 : (Jvm.Cond.methodLinkNest "DatesoloModel$Date" (33 : Nat) ({ cls := "DatesoloModel", name := "lengthOf", desc := "(I)I" } : Jvm.MethodName) "DatesoloModel").before args s = true := hts _ (List.mem_of_getElem? (wp_0 (1127, (Jvm.Cond.methodLinkNest "DatesoloModel$Date" (33 : Nat) ({ cls := "DatesoloModel", name := "lengthOf", desc := "(I)I" } : Jvm.MethodName) "DatesoloModel")) (List.mem_of_getElem? (i := 30) rfl)))
  have t_1134 : (Jvm.Cond.methodLinkNest "DatesoloModel$Date" (21 : Nat) ({ cls := "DatesoloModel", name := "lengthOf", desc := "(II)I" } : Jvm.MethodName) "DatesoloModel").before args s = true := hts _ (List.mem_of_getElem? (wp_0 (1134, (Jvm.Cond.methodLinkNest "DatesoloModel$Date" (21 : Nat) ({ cls := "DatesoloModel", name := "lengthOf", desc := "(II)I" } : Jvm.MethodName) "DatesoloModel")) (List.mem_of_getElem? (i := 31) rfl)))
  have t_1361 : (Jvm.Cond.stringRef "DatesoloModel" (196 : Nat) "").before args s = true := hts _ (List.mem_of_getElem? (wp_0 (1361, (Jvm.Cond.stringRef "DatesoloModel" (196 : Nat) "")) (List.mem_of_getElem? (i := 32) rfl)))
  have t_1375 : (Jvm.Cond.stringRef "DatesoloModel" (214 : Nat) "0").before args s = true := hts _ (List.mem_of_getElem? (wp_0 (1375, (Jvm.Cond.stringRef "DatesoloModel" (214 : Nat) "0")) (List.mem_of_getElem? (i := 33) rfl)))
  have t_1365 : (Jvm.Cond.stringRef "DatesoloModel" (216 : Nat) "?").before args s = true := hts _ (List.mem_of_getElem? (wp_0 (1365, (Jvm.Cond.stringRef "DatesoloModel" (216 : Nat) "?")) (List.mem_of_getElem? (i := 34) rfl)))
  have t_1376 : (Jvm.Cond.stringRef "DatesoloModel" (222 : Nat) "-").before args s = true := hts _ (List.mem_of_getElem? (wp_0 (1376, (Jvm.Cond.stringRef "DatesoloModel" (222 : Nat) "-")) (List.mem_of_getElem? (i := 35) rfl)))
  have t_342 : (Jvm.Cond.stringRef "Datesolo" (159 : Nat) "?").before args s = true := hts _ (List.mem_of_getElem? (wp_0 (342, (Jvm.Cond.stringRef "Datesolo" (159 : Nat) "?")) (List.mem_of_getElem? (i := 36) rfl)))
  have hu := vx_Zqof (A := A9 s) t_116 t_30 f_4 hA
  have hv := vx_Zqof (A := A9 s) t_118 t_30 f_5 hA
  have hcs := va_Zof (A := A9 s) t_353 t_39 (va_eqt f_6) hA
  obtain ⟨a_o, e_o, hT_o⟩ := va_Tof (N := 100) (A := A9 s) (f := fun j => .int (gOnes j)) (by decide) f_12 (va_eqt f_13) (fun j hj => va_eqt (hF _ (List.mem_of_getElem? (fe_o j hj)))) hA
  have hZ_o := va_Zof (A := A9 s) t_484 t_46 e_o hA
  obtain ⟨a_t, e_t, hT_t⟩ := va_Tof (N := 100) (A := A9 s) (f := fun j => .int (gTens j)) (by decide) f_115 (va_eqt f_116) (fun j hj => va_eqt (hF _ (List.mem_of_getElem? (fe_t j hj)))) hA
  have hZ_t := va_Zof (A := A9 s) t_486 t_46 e_t hA
  obtain ⟨a_l, e_l, hT_l⟩ := va_Tof (N := 12) (A := A9 s) (f := fun j => .int (gLong.getD j 0)) (by decide) f_218 (va_eqt f_219) (fun j hj => va_eqt (hF _ (List.mem_of_getElem? (fe_l j hj)))) hA
  have hZ_l := va_Zof (A := A9 s) t_1108 t_27 e_l hA
  obtain ⟨c0, i0, hK0⟩ := u_known (N := 4) (n := 4) htg inG_J0 (htg _ w_480)
  obtain ⟨c1, i1, hK1⟩ := u_known (N := 4) (n := 4) htg inG_J4 (htg _ w_326)
  obtain ⟨c2, i2, hK2⟩ := u_known (N := 6) (n := 6) htg inG_X0 (htg _ w_49)
  obtain ⟨c3, i3, hK3⟩ := u_known (N := 2) (n := 2) htg inG_X1 (htg _ w_610)
  obtain ⟨c4, i4, hK4⟩ := u_known (N := 3) (n := 3) htg inG_X2 (htg _ w_993)
  obtain ⟨c5, i5, hK5⟩ := u_known (N := 5) (n := 5) htg inG_X3 (htg _ w_986)
  obtain ⟨cJ, kJ, pJ, nJ, gJ, dJ⟩ := Cond.arrayClass_spec (htg _ w_76)
  obtain ⟨cI, kI, pI, nI, gI, dI⟩ := Cond.arrayClass_spec (htg _ w_77)
  obtain ⟨cY, kY, pY, nY, gY, dY⟩ := Cond.arrayClass_spec (htg _ w_144)
  obtain ⟨pT, cT, kT9, fT, -, gT, dT, nT⟩ := Cond.arrayOver_spec t_1042
  obtain ⟨pS, cS, kS9, nS9, gS9, dS⟩ := va_AY.spec (s := s) t_1044
  obtain ⟨s234, -, -, -, v234, -⟩ := Cond.exactly_spec (idx := []) f_281
  obtain ⟨s239, -, -, -, v239, -⟩ := Cond.exactly_spec (idx := []) f_256
  obtain ⟨s243, -, -, -, v243, -⟩ := Cond.exactly_spec (idx := []) f_308
  obtain ⟨s250, -, -, -, v250, -⟩ := Cond.exactly_spec (idx := []) f_369
  obtain ⟨s257, -, -, -, v257, -⟩ := Cond.exactly_spec (idx := []) f_408
  obtain ⟨s259, -, -, -, v259, -⟩ := Cond.exactly_spec (idx := []) f_479
  obtain ⟨s261, -, -, -, v261, -⟩ := Cond.exactly_spec (idx := []) f_532
  obtain ⟨s263, -, -, -, v263, -⟩ := Cond.exactly_spec (idx := []) f_439
  obtain ⟨ad, av, hS4, hE4⟩ := vk_Sof (N := 4) (tm := tm9) (len := [0, 1, 1, 1]) (byt := [[], [48], [63], [45]]) (A := A9 s) (by decide) (by
    intro i hi
    rcases (show i = 0 ∨ i = 1 ∨ i = 2 ∨ i = 3 by omega) with rfl | rfl | rfl | rfl
    · exact f_592
    · exact f_622
    · exact f_606
    · exact f_639) (by
    intro i hi
    rcases (show i = 0 ∨ i = 1 ∨ i = 2 ∨ i = 3 by omega) with rfl | rfl | rfl | rfl
    · exact f_593
    · exact f_623
    · exact f_607
    · exact f_640) (by
    intro i hi
    rcases (show i = 0 ∨ i = 1 ∨ i = 2 ∨ i = 3 by omega) with rfl | rfl | rfl | rfl
    · exact f_594
    · exact f_624
    · exact f_608
    · exact f_641) (by
    intro i hi
    rcases (show i = 0 ∨ i = 1 ∨ i = 2 ∨ i = 3 by omega) with rfl | rfl | rfl | rfl
    · exact f_595
    · exact f_625
    · exact f_609
    · exact f_642) (by
    intro i hi j hj
    rcases (show i = 0 ∨ i = 1 ∨ i = 2 ∨ i = 3 by omega) with rfl | rfl | rfl | rfl
    · exact absurd hj (Nat.not_lt_zero j)
    · obtain rfl : j = 0 := Nat.lt_one_iff.mp hj
      exact f_626
    · obtain rfl : j = 0 := Nat.lt_one_iff.mp hj
      exact f_610
    · obtain rfl : j = 0 := Nat.lt_one_iff.mp hj
      exact f_643) (by
    intro i j hi hj hij
    rcases (show i = 0 ∨ i = 1 ∨ i = 2 ∨ i = 3 by omega) with rfl | rfl | rfl | rfl <;> rcases (show j = 0 ∨ j = 1 ∨ j = 2 ∨ j = 3 by omega) with rfl | rfl | rfl | rfl
    · exact absurd rfl hij
    · exact Or.inl f_637
    · exact Or.inl f_621
    · exact Or.inl f_654
    · exact Or.inr f_637
    · exact absurd rfl hij
    · exact Or.inr f_638
    · exact Or.inl f_656
    · exact Or.inr f_621
    · exact Or.inl f_638
    · exact absurd rfl hij
    · exact Or.inl f_655
    · exact Or.inr f_654
    · exact Or.inr f_656
    · exact Or.inr f_655
    · exact absurd rfl hij) hA
  obtain ⟨s159, -, -, -, v159, -⟩ := Cond.exactly_spec (idx := []) f_350
  have e159 : s159 = ad 2 := va_sameR f_614 v159 (hE4 2 (by decide))
  subst e159
  refine ⟨(s.heap.size, (fun c => match c with | 0 => c0 | 1 => c1 | 2 => c2 | 3 => c3 | 4 => c4 | _ => c5, fun c => match c with | 0 => i0 | 1 => i1 | 2 => i2 | 3 => i3 | 4 => i4 | _ => i5), cJ, cI, cY, cT, cS), rfl, ⟨⟨(fun c q hq => by
    match c, hq with
    | 0, hq => cases hq; exact hK0
    | 1, hq => cases hq; exact hK1
    | 2, hq => cases hq; exact hK2
    | 3, hq => cases hq; exact hK3
    | 4, hq => cases hq; exact hK4
    | 5, hq => cases hq; exact hK5
    | c + 6, hq => cases hq), (fun c q hq => by
    match c, hq with
    | 0, hq => cases hq; exact ⟨fun n z => ⟨(fun q h => by cases h), kJ, gJ, pJ, dJ⟩, nJ⟩
    | 1, hq => cases hq; exact ⟨fun n z => ⟨(fun q h => by cases h), kI, gI, pI, dI⟩, nI⟩
    | 2, hq => cases hq; exact ⟨fun n z => ⟨(fun q h => by cases h), kY, gY, pY, dY⟩, nY⟩
    | 3, hq => cases hq; exact ⟨fun n z => ⟨(fun q h => by cases h), kT9, gT, pT, dT⟩, kT9, pT, gT, dT, fT, nT⟩
    | 4, hq => cases hq; exact ⟨fun n z => ⟨(fun q h => by cases h), kS9, gS9, pS, dS⟩, nS9⟩
    | c + 5, hq => cases hq)⟩, Nat.le_refl _, hu, hv, (List.forall_mem_cons.mpr ⟨va_Nw.of rfl t_91, List.forall_mem_cons.mpr ⟨va_Nw.of rfl t_315, List.forall_mem_cons.mpr ⟨va_Nw.of rfl t_675, List.forall_mem_nil _⟩⟩⟩), (List.forall_mem_cons.mpr ⟨va_Nw.of rfl t_93, List.forall_mem_cons.mpr ⟨va_Nw.of rfl t_95, List.forall_mem_cons.mpr ⟨va_Nw.of rfl t_97, List.forall_mem_nil _⟩⟩⟩), (List.forall_mem_cons.mpr ⟨va_Nc.of f_236, List.forall_mem_cons.mpr ⟨va_Nc.of f_237, List.forall_mem_cons.mpr ⟨va_Nc.of f_245, List.forall_mem_nil _⟩⟩⟩), (List.forall_mem_cons.mpr ⟨⟨s234, vk_R.of t_172 v234⟩, List.forall_mem_cons.mpr ⟨⟨s239, vk_R.of t_130 v239⟩, List.forall_mem_cons.mpr ⟨⟨s243, vk_R.of t_322 v243⟩, List.forall_mem_cons.mpr ⟨⟨s250, vk_R.of t_682 v250⟩, List.forall_mem_cons.mpr ⟨⟨s257, vk_R.of t_698 v257⟩, List.forall_mem_cons.mpr ⟨⟨s259, vk_R.of t_886 v259⟩, List.forall_mem_cons.mpr ⟨⟨s261, vk_R.of t_897 v261⟩, List.forall_mem_cons.mpr ⟨⟨s263, vk_R.of t_723 v263⟩, List.forall_mem_nil _⟩⟩⟩⟩⟩⟩⟩⟩), (List.forall_mem_cons.mpr ⟨va_Nw.of rfl t_646, List.forall_mem_cons.mpr ⟨va_Nw.of rfl t_1122, List.forall_mem_cons.mpr ⟨va_Nw.of rfl t_1127, List.forall_mem_cons.mpr ⟨va_Nw.of rfl t_1134, List.forall_mem_nil _⟩⟩⟩⟩), (List.forall_mem_cons.mpr ⟨va_Nw.of rfl t_650, List.forall_mem_cons.mpr ⟨va_Nw.of rfl t_651, List.forall_mem_nil _⟩⟩), va_AO.of t_1042, ⟨a_l, hZ_l, hT_l⟩, hcs, ⟨a_o, hZ_o, hT_o⟩, ⟨a_t, hZ_t, hT_t⟩, ⟨ad, av, hS4, vk_R.of t_1361 (hE4 0 (by decide)), vk_R.of t_1375 (hE4 1 (by decide)), vk_R.of t_1365 (hE4 2 (by decide)), vk_R.of t_1376 (hE4 3 (by decide)), vk_R.of t_342 v159⟩⟩, t_1044⟩
