section
-- ===== PART A: goes FIRST, ahead of the names: the tables' words, and 'selects' of the private methods out of them =====
/-- a private method of a class that the tables say can be made, by its rows of tables_1 -/
def lw_okq (q : MethodName × Nat) : Prop := (q.1.cls ≠ "java/lang/invoke/MethodHandle" ∧ q.1.cls ≠ "java/lang/invoke/VarHandle") ∧ Cond.instantiable q.1.cls q.2 ∈ tables_1 ∧ Cond.privateMethod q.1 ∈ tables_1 ∧ Cond.instanceMethod q.1 ∈ tables_1
theorem lw_p0 : lw_okq (⟨"EaseCurves$Curve", "tangentOf", "(I)I"⟩, 2) := ⟨⟨by decide +kernel, by decide +kernel⟩, List.mem_of_getElem? (i := 30) (by decide +kernel), List.mem_of_getElem? (i := 110) (by decide +kernel), List.mem_of_getElem? (i := 111) (by decide +kernel)⟩
theorem lw_p1 : lw_okq (⟨"EaseCurves$Curve", "cell", "(II)I"⟩, 2) := ⟨⟨by decide +kernel, by decide +kernel⟩, List.mem_of_getElem? (i := 30) (by decide +kernel), List.mem_of_getElem? (i := 114) (by decide +kernel), List.mem_of_getElem? (i := 115) (by decide +kernel)⟩
theorem lw_p2 : lw_okq (⟨"EaseCurves$Curve", "valueAt", "(I)I"⟩, 2) := ⟨⟨by decide +kernel, by decide +kernel⟩, List.mem_of_getElem? (i := 30) (by decide +kernel), List.mem_of_getElem? (i := 122) (by decide +kernel), List.mem_of_getElem? (i := 123) (by decide +kernel)⟩
theorem lw_p3 : lw_okq (⟨"EaseCurves$Curve", "countUpTo", "(I)I"⟩, 2) := ⟨⟨by decide +kernel, by decide +kernel⟩, List.mem_of_getElem? (i := 30) (by decide +kernel), List.mem_of_getElem? (i := 126) (by decide +kernel), List.mem_of_getElem? (i := 127) (by decide +kernel)⟩
theorem lw_p4 : lw_okq (⟨"EaseCurves$Curve", "valueBehind", "(II)I"⟩, 2) := ⟨⟨by decide +kernel, by decide +kernel⟩, List.mem_of_getElem? (i := 30) (by decide +kernel), List.mem_of_getElem? (i := 130) (by decide +kernel), List.mem_of_getElem? (i := 131) (by decide +kernel)⟩
theorem lw_p5 : lw_okq (⟨"EaseCurves", "curveNumbered", "(I)LEaseCurves$Curve;"⟩, 7) := ⟨⟨by decide +kernel, by decide +kernel⟩, List.mem_of_getElem? (i := 15) (by decide +kernel), List.mem_of_getElem? (i := 157) (by decide +kernel), List.mem_of_getElem? (i := 158) (by decide +kernel)⟩
theorem lw_p6 : lw_okq (⟨"java/lang/Throwable", "fillInStackTrace", "(I)Ljava/lang/Throwable;"⟩, 6) := ⟨⟨by decide +kernel, by decide +kernel⟩, List.mem_of_getElem? (i := 199) (by decide +kernel), List.mem_of_getElem? (i := 197) (by decide +kernel), List.mem_of_getElem? (i := 198) (by decide +kernel)⟩
theorem lw_p7 : lw_okq (⟨"EaseCurves$Curve", "numberAtFrame", "(I)I"⟩, 2) := ⟨⟨by decide +kernel, by decide +kernel⟩, List.mem_of_getElem? (i := 30) (by decide +kernel), List.mem_of_getElem? (i := 263) (by decide +kernel), List.mem_of_getElem? (i := 264) (by decide +kernel)⟩
theorem lw_p8 : lw_okq (⟨"EaseCurves", "saveState", "()V"⟩, 7) := ⟨⟨by decide +kernel, by decide +kernel⟩, List.mem_of_getElem? (i := 15) (by decide +kernel), List.mem_of_getElem? (i := 268) (by decide +kernel), List.mem_of_getElem? (i := 269) (by decide +kernel)⟩
theorem lw_p9 : lw_okq (⟨"EaseCurves", "dropOldestState", "()V"⟩, 7) := ⟨⟨by decide +kernel, by decide +kernel⟩, List.mem_of_getElem? (i := 15) (by decide +kernel), List.mem_of_getElem? (i := 272) (by decide +kernel), List.mem_of_getElem? (i := 273) (by decide +kernel)⟩
theorem lw_p10 : lw_okq (⟨"EaseCurves$State", "become", "(LEaseCurves$State;)V"⟩, 1) := ⟨⟨by decide +kernel, by decide +kernel⟩, List.mem_of_getElem? (i := 23) (by decide +kernel), List.mem_of_getElem? (i := 276) (by decide +kernel), List.mem_of_getElem? (i := 277) (by decide +kernel)⟩
theorem lw_p11 : lw_okq (⟨"EaseCurves$Curve", "become", "(LEaseCurves$Curve;)V"⟩, 2) := ⟨⟨by decide +kernel, by decide +kernel⟩, List.mem_of_getElem? (i := 30) (by decide +kernel), List.mem_of_getElem? (i := 280) (by decide +kernel), List.mem_of_getElem? (i := 281) (by decide +kernel)⟩
theorem lw_p12 : lw_okq (⟨"EaseCurves$Curve", "insert", "(IIIIII)I"⟩, 2) := ⟨⟨by decide +kernel, by decide +kernel⟩, List.mem_of_getElem? (i := 30) (by decide +kernel), List.mem_of_getElem? (i := 287) (by decide +kernel), List.mem_of_getElem? (i := 288) (by decide +kernel)⟩
theorem lw_p13 : lw_okq (⟨"EaseCurves$Curve", "put", "(III)V"⟩, 2) := ⟨⟨by decide +kernel, by decide +kernel⟩, List.mem_of_getElem? (i := 30) (by decide +kernel), List.mem_of_getElem? (i := 291) (by decide +kernel), List.mem_of_getElem? (i := 292) (by decide +kernel)⟩
theorem lw_p14 : lw_okq (⟨"EaseCurves$Curve", "isLocked", "(I)Z"⟩, 2) := ⟨⟨by decide +kernel, by decide +kernel⟩, List.mem_of_getElem? (i := 30) (by decide +kernel), List.mem_of_getElem? (i := 309) (by decide +kernel), List.mem_of_getElem? (i := 310) (by decide +kernel)⟩
theorem lw_p15 : lw_okq (⟨"EaseCurves$Curve", "takeOut", "(I)V"⟩, 2) := ⟨⟨by decide +kernel, by decide +kernel⟩, List.mem_of_getElem? (i := 30) (by decide +kernel), List.mem_of_getElem? (i := 314) (by decide +kernel), List.mem_of_getElem? (i := 315) (by decide +kernel)⟩
def lw_privs_1 : List (MethodName × Nat) := [(⟨"EaseCurves$Curve", "tangentOf", "(I)I"⟩, 2), (⟨"EaseCurves$Curve", "cell", "(II)I"⟩, 2), (⟨"EaseCurves$Curve", "valueAt", "(I)I"⟩, 2), (⟨"EaseCurves$Curve", "countUpTo", "(I)I"⟩, 2), (⟨"EaseCurves$Curve", "valueBehind", "(II)I"⟩, 2), (⟨"EaseCurves", "curveNumbered", "(I)LEaseCurves$Curve;"⟩, 7), (⟨"java/lang/Throwable", "fillInStackTrace", "(I)Ljava/lang/Throwable;"⟩, 6), (⟨"EaseCurves$Curve", "numberAtFrame", "(I)I"⟩, 2), (⟨"EaseCurves", "saveState", "()V"⟩, 7), (⟨"EaseCurves", "dropOldestState", "()V"⟩, 7), (⟨"EaseCurves$State", "become", "(LEaseCurves$State;)V"⟩, 1), (⟨"EaseCurves$Curve", "become", "(LEaseCurves$Curve;)V"⟩, 2), (⟨"EaseCurves$Curve", "insert", "(IIIIII)I"⟩, 2), (⟨"EaseCurves$Curve", "put", "(III)V"⟩, 2), (⟨"EaseCurves$Curve", "isLocked", "(I)Z"⟩, 2), (⟨"EaseCurves$Curve", "takeOut", "(I)V"⟩, 2)]
theorem lw_r1 : ∀ q ∈ lw_privs_1, lw_okq q := List.forall_mem_cons.mpr ⟨lw_p0, List.forall_mem_cons.mpr ⟨lw_p1, List.forall_mem_cons.mpr ⟨lw_p2, List.forall_mem_cons.mpr ⟨lw_p3, List.forall_mem_cons.mpr ⟨lw_p4, List.forall_mem_cons.mpr ⟨lw_p5, List.forall_mem_cons.mpr ⟨lw_p6, List.forall_mem_cons.mpr ⟨lw_p7, List.forall_mem_cons.mpr ⟨lw_p8, List.forall_mem_cons.mpr ⟨lw_p9, List.forall_mem_cons.mpr ⟨lw_p10, List.forall_mem_cons.mpr ⟨lw_p11, List.forall_mem_cons.mpr ⟨lw_p12, List.forall_mem_cons.mpr ⟨lw_p13, List.forall_mem_cons.mpr ⟨lw_p14, List.forall_mem_cons.mpr ⟨lw_p15, fun _ h => absurd h List.not_mem_nil⟩⟩⟩⟩⟩⟩⟩⟩⟩⟩⟩⟩⟩⟩⟩⟩
theorem lw_p16 : lw_okq (⟨"EaseCurves$Curve", "moveTo", "(II)I"⟩, 2) := ⟨⟨by decide +kernel, by decide +kernel⟩, List.mem_of_getElem? (i := 30) (by decide +kernel), List.mem_of_getElem? (i := 334) (by decide +kernel), List.mem_of_getElem? (i := 335) (by decide +kernel)⟩
theorem lw_p17 : lw_okq (⟨"EaseCurves$Curve", "canStretch", "(III)Z"⟩, 2) := ⟨⟨by decide +kernel, by decide +kernel⟩, List.mem_of_getElem? (i := 30) (by decide +kernel), List.mem_of_getElem? (i := 366) (by decide +kernel), List.mem_of_getElem? (i := 367) (by decide +kernel)⟩
theorem lw_p18 : lw_okq (⟨"EaseCurves$Curve", "stretchSpan", "(III)I"⟩, 2) := ⟨⟨by decide +kernel, by decide +kernel⟩, List.mem_of_getElem? (i := 30) (by decide +kernel), List.mem_of_getElem? (i := 375) (by decide +kernel), List.mem_of_getElem? (i := 376) (by decide +kernel)⟩
theorem lw_p19 : lw_okq (⟨"EaseCurves$Curve", "hasLock", "()Z"⟩, 2) := ⟨⟨by decide +kernel, by decide +kernel⟩, List.mem_of_getElem? (i := 30) (by decide +kernel), List.mem_of_getElem? (i := 389) (by decide +kernel), List.mem_of_getElem? (i := 390) (by decide +kernel)⟩
theorem lw_p20 : lw_okq (⟨"EaseCurves$Curve", "canRaise", "(I)Z"⟩, 2) := ⟨⟨by decide +kernel, by decide +kernel⟩, List.mem_of_getElem? (i := 30) (by decide +kernel), List.mem_of_getElem? (i := 394) (by decide +kernel), List.mem_of_getElem? (i := 395) (by decide +kernel)⟩
theorem lw_p21 : lw_okq (⟨"EaseCurves$Curve", "raise", "(I)V"⟩, 2) := ⟨⟨by decide +kernel, by decide +kernel⟩, List.mem_of_getElem? (i := 30) (by decide +kernel), List.mem_of_getElem? (i := 403) (by decide +kernel), List.mem_of_getElem? (i := 404) (by decide +kernel)⟩
theorem lw_p22 : lw_okq (⟨"EaseCurves", "keyToLeaveOut", "(LEaseCurves$Curve;I)I"⟩, 7) := ⟨⟨by decide +kernel, by decide +kernel⟩, List.mem_of_getElem? (i := 15) (by decide +kernel), List.mem_of_getElem? (i := 414) (by decide +kernel), List.mem_of_getElem? (i := 415) (by decide +kernel)⟩
theorem lw_p23 : lw_okq (⟨"EaseCurves$Curve", "bake", "([III)V"⟩, 2) := ⟨⟨by decide +kernel, by decide +kernel⟩, List.mem_of_getElem? (i := 30) (by decide +kernel), List.mem_of_getElem? (i := 418) (by decide +kernel), List.mem_of_getElem? (i := 419) (by decide +kernel)⟩
theorem lw_p24 : lw_okq (⟨"EaseCurves$Curve", "mayLeaveOut", "(I)Z"⟩, 2) := ⟨⟨by decide +kernel, by decide +kernel⟩, List.mem_of_getElem? (i := 30) (by decide +kernel), List.mem_of_getElem? (i := 422) (by decide +kernel), List.mem_of_getElem? (i := 423) (by decide +kernel)⟩
theorem lw_p25 : lw_okq (⟨"EaseCurves", "differenceWithout", "(LEaseCurves$Curve;I)I"⟩, 7) := ⟨⟨by decide +kernel, by decide +kernel⟩, List.mem_of_getElem? (i := 15) (by decide +kernel), List.mem_of_getElem? (i := 426) (by decide +kernel), List.mem_of_getElem? (i := 427) (by decide +kernel)⟩
theorem lw_p26 : lw_okq (⟨"EaseCurves", "greatestDifference", "(II)I"⟩, 7) := ⟨⟨by decide +kernel, by decide +kernel⟩, List.mem_of_getElem? (i := 15) (by decide +kernel), List.mem_of_getElem? (i := 434) (by decide +kernel), List.mem_of_getElem? (i := 435) (by decide +kernel)⟩
theorem lw_p27 : lw_okq (⟨"EaseCurves", "sumOver", "(LEaseCurves$Curve;II)J"⟩, 7) := ⟨⟨by decide +kernel, by decide +kernel⟩, List.mem_of_getElem? (i := 15) (by decide +kernel), List.mem_of_getElem? (i := 463) (by decide +kernel), List.mem_of_getElem? (i := 464) (by decide +kernel)⟩
theorem lw_p28 : lw_okq (⟨"EaseCurves", "frameOfGreatest", "(II)I"⟩, 7) := ⟨⟨by decide +kernel, by decide +kernel⟩, List.mem_of_getElem? (i := 15) (by decide +kernel), List.mem_of_getElem? (i := 474) (by decide +kernel), List.mem_of_getElem? (i := 475) (by decide +kernel)⟩
theorem lw_p29 : lw_okq (⟨"EaseCurves", "frameOfSmallest", "(II)I"⟩, 7) := ⟨⟨by decide +kernel, by decide +kernel⟩, List.mem_of_getElem? (i := 15) (by decide +kernel), List.mem_of_getElem? (i := 478) (by decide +kernel), List.mem_of_getElem? (i := 479) (by decide +kernel)⟩
theorem lw_p30 : lw_okq (⟨"EaseCurves", "greatestStep", "(II)I"⟩, 7) := ⟨⟨by decide +kernel, by decide +kernel⟩, List.mem_of_getElem? (i := 15) (by decide +kernel), List.mem_of_getElem? (i := 482) (by decide +kernel), List.mem_of_getElem? (i := 483) (by decide +kernel)⟩
theorem lw_p31 : lw_okq (⟨"EaseCurves$CurveText", "add", "(I)V"⟩, 3) := ⟨⟨by decide +kernel, by decide +kernel⟩, List.mem_of_getElem? (i := 52) (by decide +kernel), List.mem_of_getElem? (i := 538) (by decide +kernel), List.mem_of_getElem? (i := 539) (by decide +kernel)⟩
def lw_privs_2 : List (MethodName × Nat) := [(⟨"EaseCurves$Curve", "moveTo", "(II)I"⟩, 2), (⟨"EaseCurves$Curve", "canStretch", "(III)Z"⟩, 2), (⟨"EaseCurves$Curve", "stretchSpan", "(III)I"⟩, 2), (⟨"EaseCurves$Curve", "hasLock", "()Z"⟩, 2), (⟨"EaseCurves$Curve", "canRaise", "(I)Z"⟩, 2), (⟨"EaseCurves$Curve", "raise", "(I)V"⟩, 2), (⟨"EaseCurves", "keyToLeaveOut", "(LEaseCurves$Curve;I)I"⟩, 7), (⟨"EaseCurves$Curve", "bake", "([III)V"⟩, 2), (⟨"EaseCurves$Curve", "mayLeaveOut", "(I)Z"⟩, 2), (⟨"EaseCurves", "differenceWithout", "(LEaseCurves$Curve;I)I"⟩, 7), (⟨"EaseCurves", "greatestDifference", "(II)I"⟩, 7), (⟨"EaseCurves", "sumOver", "(LEaseCurves$Curve;II)J"⟩, 7), (⟨"EaseCurves", "frameOfGreatest", "(II)I"⟩, 7), (⟨"EaseCurves", "frameOfSmallest", "(II)I"⟩, 7), (⟨"EaseCurves", "greatestStep", "(II)I"⟩, 7), (⟨"EaseCurves$CurveText", "add", "(I)V"⟩, 3)]
theorem lw_r2 : ∀ q ∈ lw_privs_2, lw_okq q := List.forall_mem_cons.mpr ⟨lw_p16, List.forall_mem_cons.mpr ⟨lw_p17, List.forall_mem_cons.mpr ⟨lw_p18, List.forall_mem_cons.mpr ⟨lw_p19, List.forall_mem_cons.mpr ⟨lw_p20, List.forall_mem_cons.mpr ⟨lw_p21, List.forall_mem_cons.mpr ⟨lw_p22, List.forall_mem_cons.mpr ⟨lw_p23, List.forall_mem_cons.mpr ⟨lw_p24, List.forall_mem_cons.mpr ⟨lw_p25, List.forall_mem_cons.mpr ⟨lw_p26, List.forall_mem_cons.mpr ⟨lw_p27, List.forall_mem_cons.mpr ⟨lw_p28, List.forall_mem_cons.mpr ⟨lw_p29, List.forall_mem_cons.mpr ⟨lw_p30, List.forall_mem_cons.mpr ⟨lw_p31, fun _ h => absurd h List.not_mem_nil⟩⟩⟩⟩⟩⟩⟩⟩⟩⟩⟩⟩⟩⟩⟩⟩
theorem lw_p32 : lw_okq (⟨"EaseCurves$CurveText", "readInto", "(LEaseCurves$Curve;)I"⟩, 3) := ⟨⟨by decide +kernel, by decide +kernel⟩, List.mem_of_getElem? (i := 52) (by decide +kernel), List.mem_of_getElem? (i := 549) (by decide +kernel), List.mem_of_getElem? (i := 550) (by decide +kernel)⟩
theorem lw_p33 : lw_okq (⟨"EaseCurves$CurveText", "readKey", "(LEaseCurves$Curve;)Z"⟩, 3) := ⟨⟨by decide +kernel, by decide +kernel⟩, List.mem_of_getElem? (i := 52) (by decide +kernel), List.mem_of_getElem? (i := 553) (by decide +kernel), List.mem_of_getElem? (i := 554) (by decide +kernel)⟩
theorem lw_p34 : lw_okq (⟨"EaseCurves$CurveText", "readDigits", "(I)I"⟩, 3) := ⟨⟨by decide +kernel, by decide +kernel⟩, List.mem_of_getElem? (i := 52) (by decide +kernel), List.mem_of_getElem? (i := 557) (by decide +kernel), List.mem_of_getElem? (i := 558) (by decide +kernel)⟩
theorem lw_p35 : lw_okq (⟨"EaseCurves$CurveText", "isSign", "(ICC)Z"⟩, 3) := ⟨⟨by decide +kernel, by decide +kernel⟩, List.mem_of_getElem? (i := 52) (by decide +kernel), List.mem_of_getElem? (i := 561) (by decide +kernel), List.mem_of_getElem? (i := 562) (by decide +kernel)⟩
theorem lw_p36 : lw_okq (⟨"EaseCurves$Curve", "lastFrame", "()I"⟩, 2) := ⟨⟨by decide +kernel, by decide +kernel⟩, List.mem_of_getElem? (i := 30) (by decide +kernel), List.mem_of_getElem? (i := 565) (by decide +kernel), List.mem_of_getElem? (i := 566) (by decide +kernel)⟩
theorem lw_p37 : lw_okq (⟨"EaseCurves$CurveText", "skip", "(C)Z"⟩, 3) := ⟨⟨by decide +kernel, by decide +kernel⟩, List.mem_of_getElem? (i := 52) (by decide +kernel), List.mem_of_getElem? (i := 569) (by decide +kernel), List.mem_of_getElem? (i := 570) (by decide +kernel)⟩
theorem lw_p38 : lw_okq (⟨"EaseCurves$CurveText", "readMode", "()I"⟩, 3) := ⟨⟨by decide +kernel, by decide +kernel⟩, List.mem_of_getElem? (i := 52) (by decide +kernel), List.mem_of_getElem? (i := 573) (by decide +kernel), List.mem_of_getElem? (i := 574) (by decide +kernel)⟩
theorem lw_p39 : lw_okq (⟨"EaseCurvesModel", "fails", "(I)I"⟩, 11) := ⟨⟨by decide +kernel, by decide +kernel⟩, List.mem_of_getElem? (i := 586) (by decide +kernel), List.mem_of_getElem? (i := 640) (by decide +kernel), List.mem_of_getElem? (i := 641) (by decide +kernel)⟩
theorem lw_p40 : lw_okq (⟨"EaseCurvesModel", "many", "(I)I"⟩, 11) := ⟨⟨by decide +kernel, by decide +kernel⟩, List.mem_of_getElem? (i := 586) (by decide +kernel), List.mem_of_getElem? (i := 650) (by decide +kernel), List.mem_of_getElem? (i := 651) (by decide +kernel)⟩
theorem lw_p41 : lw_okq (⟨"EaseCurvesModel", "keyAt", "(II)I"⟩, 11) := ⟨⟨by decide +kernel, by decide +kernel⟩, List.mem_of_getElem? (i := 586) (by decide +kernel), List.mem_of_getElem? (i := 654) (by decide +kernel), List.mem_of_getElem? (i := 655) (by decide +kernel)⟩
theorem lw_p42 : lw_okq (⟨"EaseCurvesModel", "of", "(III)I"⟩, 11) := ⟨⟨by decide +kernel, by decide +kernel⟩, List.mem_of_getElem? (i := 586) (by decide +kernel), List.mem_of_getElem? (i := 658) (by decide +kernel), List.mem_of_getElem? (i := 659) (by decide +kernel)⟩
theorem lw_p43 : lw_okq (⟨"EaseCurvesModel", "hold", "()V"⟩, 11) := ⟨⟨by decide +kernel, by decide +kernel⟩, List.mem_of_getElem? (i := 586) (by decide +kernel), List.mem_of_getElem? (i := 665) (by decide +kernel), List.mem_of_getElem? (i := 666) (by decide +kernel)⟩
theorem lw_p44 : lw_okq (⟨"EaseCurvesModel", "comes", "(IIII)I"⟩, 11) := ⟨⟨by decide +kernel, by decide +kernel⟩, List.mem_of_getElem? (i := 586) (by decide +kernel), List.mem_of_getElem? (i := 669) (by decide +kernel), List.mem_of_getElem? (i := 670) (by decide +kernel)⟩
theorem lw_p45 : lw_okq (⟨"EaseCurvesModel", "ends", "(I)I"⟩, 11) := ⟨⟨by decide +kernel, by decide +kernel⟩, List.mem_of_getElem? (i := 586) (by decide +kernel), List.mem_of_getElem? (i := 673) (by decide +kernel), List.mem_of_getElem? (i := 674) (by decide +kernel)⟩
theorem lw_p46 : lw_okq (⟨"EaseCurvesModel", "tells", "(I)I"⟩, 11) := ⟨⟨by decide +kernel, by decide +kernel⟩, List.mem_of_getElem? (i := 586) (by decide +kernel), List.mem_of_getElem? (i := 677) (by decide +kernel), List.mem_of_getElem? (i := 678) (by decide +kernel)⟩
theorem lw_p47 : lw_okq (⟨"EaseCurvesModel", "isKey", "(II)Z"⟩, 11) := ⟨⟨by decide +kernel, by decide +kernel⟩, List.mem_of_getElem? (i := 586) (by decide +kernel), List.mem_of_getElem? (i := 685) (by decide +kernel), List.mem_of_getElem? (i := 686) (by decide +kernel)⟩
def lw_privs_3 : List (MethodName × Nat) := [(⟨"EaseCurves$CurveText", "readInto", "(LEaseCurves$Curve;)I"⟩, 3), (⟨"EaseCurves$CurveText", "readKey", "(LEaseCurves$Curve;)Z"⟩, 3), (⟨"EaseCurves$CurveText", "readDigits", "(I)I"⟩, 3), (⟨"EaseCurves$CurveText", "isSign", "(ICC)Z"⟩, 3), (⟨"EaseCurves$Curve", "lastFrame", "()I"⟩, 2), (⟨"EaseCurves$CurveText", "skip", "(C)Z"⟩, 3), (⟨"EaseCurves$CurveText", "readMode", "()I"⟩, 3), (⟨"EaseCurvesModel", "fails", "(I)I"⟩, 11), (⟨"EaseCurvesModel", "many", "(I)I"⟩, 11), (⟨"EaseCurvesModel", "keyAt", "(II)I"⟩, 11), (⟨"EaseCurvesModel", "of", "(III)I"⟩, 11), (⟨"EaseCurvesModel", "hold", "()V"⟩, 11), (⟨"EaseCurvesModel", "comes", "(IIII)I"⟩, 11), (⟨"EaseCurvesModel", "ends", "(I)I"⟩, 11), (⟨"EaseCurvesModel", "tells", "(I)I"⟩, 11), (⟨"EaseCurvesModel", "isKey", "(II)Z"⟩, 11)]
theorem lw_r3 : ∀ q ∈ lw_privs_3, lw_okq q := List.forall_mem_cons.mpr ⟨lw_p32, List.forall_mem_cons.mpr ⟨lw_p33, List.forall_mem_cons.mpr ⟨lw_p34, List.forall_mem_cons.mpr ⟨lw_p35, List.forall_mem_cons.mpr ⟨lw_p36, List.forall_mem_cons.mpr ⟨lw_p37, List.forall_mem_cons.mpr ⟨lw_p38, List.forall_mem_cons.mpr ⟨lw_p39, List.forall_mem_cons.mpr ⟨lw_p40, List.forall_mem_cons.mpr ⟨lw_p41, List.forall_mem_cons.mpr ⟨lw_p42, List.forall_mem_cons.mpr ⟨lw_p43, List.forall_mem_cons.mpr ⟨lw_p44, List.forall_mem_cons.mpr ⟨lw_p45, List.forall_mem_cons.mpr ⟨lw_p46, List.forall_mem_cons.mpr ⟨lw_p47, fun _ h => absurd h List.not_mem_nil⟩⟩⟩⟩⟩⟩⟩⟩⟩⟩⟩⟩⟩⟩⟩⟩
theorem lw_p48 : lw_okq (⟨"EaseCurvesModel", "goes", "(II)V"⟩, 11) := ⟨⟨by decide +kernel, by decide +kernel⟩, List.mem_of_getElem? (i := 586) (by decide +kernel), List.mem_of_getElem? (i := 689) (by decide +kernel), List.mem_of_getElem? (i := 690) (by decide +kernel)⟩
theorem lw_p49 : lw_okq (⟨"EaseCurvesModel", "tangent", "(II)I"⟩, 11) := ⟨⟨by decide +kernel, by decide +kernel⟩, List.mem_of_getElem? (i := 586) (by decide +kernel), List.mem_of_getElem? (i := 707) (by decide +kernel), List.mem_of_getElem? (i := 708) (by decide +kernel)⟩
theorem lw_p50 : lw_okq (⟨"EaseCurvesModel", "mayStretch", "(IIII)Z"⟩, 11) := ⟨⟨by decide +kernel, by decide +kernel⟩, List.mem_of_getElem? (i := 586) (by decide +kernel), List.mem_of_getElem? (i := 722) (by decide +kernel), List.mem_of_getElem? (i := 723) (by decide +kernel)⟩
theorem lw_p51 : lw_okq (⟨"EaseCurvesModel", "hasLock", "(I)Z"⟩, 11) := ⟨⟨by decide +kernel, by decide +kernel⟩, List.mem_of_getElem? (i := 586) (by decide +kernel), List.mem_of_getElem? (i := 733) (by decide +kernel), List.mem_of_getElem? (i := 734) (by decide +kernel)⟩
theorem lw_p52 : lw_okq (⟨"EaseCurvesModel", "leftOut", "(II)I"⟩, 11) := ⟨⟨by decide +kernel, by decide +kernel⟩, List.mem_of_getElem? (i := 586) (by decide +kernel), List.mem_of_getElem? (i := 741) (by decide +kernel), List.mem_of_getElem? (i := 742) (by decide +kernel)⟩
theorem lw_p53 : lw_okq (⟨"EaseCurvesModel", "bakes", "(I)V"⟩, 11) := ⟨⟨by decide +kernel, by decide +kernel⟩, List.mem_of_getElem? (i := 586) (by decide +kernel), List.mem_of_getElem? (i := 745) (by decide +kernel), List.mem_of_getElem? (i := 746) (by decide +kernel)⟩
theorem lw_p54 : lw_okq (⟨"EaseCurvesModel", "valueAt", "(II)I"⟩, 11) := ⟨⟨by decide +kernel, by decide +kernel⟩, List.mem_of_getElem? (i := 586) (by decide +kernel), List.mem_of_getElem? (i := 749) (by decide +kernel), List.mem_of_getElem? (i := 750) (by decide +kernel)⟩
theorem lw_p55 : lw_okq (⟨"EaseCurvesModel", "errorOf", "(II)I"⟩, 11) := ⟨⟨by decide +kernel, by decide +kernel⟩, List.mem_of_getElem? (i := 586) (by decide +kernel), List.mem_of_getElem? (i := 759) (by decide +kernel), List.mem_of_getElem? (i := 760) (by decide +kernel)⟩
theorem lw_p56 : lw_okq (⟨"EaseCurvesModel", "keyOf", "(III)I"⟩, 11) := ⟨⟨by decide +kernel, by decide +kernel⟩, List.mem_of_getElem? (i := 586) (by decide +kernel), List.mem_of_getElem? (i := 770) (by decide +kernel), List.mem_of_getElem? (i := 771) (by decide +kernel)⟩
theorem lw_p57 : lw_okq (⟨"EaseCurvesModel", "sumOf", "(III)J"⟩, 11) := ⟨⟨by decide +kernel, by decide +kernel⟩, List.mem_of_getElem? (i := 586) (by decide +kernel), List.mem_of_getElem? (i := 785) (by decide +kernel), List.mem_of_getElem? (i := 786) (by decide +kernel)⟩
theorem lw_p58 : lw_okq (⟨"EaseCurvesModel", "extremeOf", "(IIII)I"⟩, 11) := ⟨⟨by decide +kernel, by decide +kernel⟩, List.mem_of_getElem? (i := 586) (by decide +kernel), List.mem_of_getElem? (i := 793) (by decide +kernel), List.mem_of_getElem? (i := 794) (by decide +kernel)⟩
theorem lw_p59 : lw_okq (⟨"EaseCurvesModel", "isItem", "(I)Z"⟩, 11) := ⟨⟨by decide +kernel, by decide +kernel⟩, List.mem_of_getElem? (i := 586) (by decide +kernel), List.mem_of_getElem? (i := 834) (by decide +kernel), List.mem_of_getElem? (i := 835) (by decide +kernel)⟩
theorem lw_p60 : lw_okq (⟨"EaseCurvesModel", "isNumber", "(I)Z"⟩, 11) := ⟨⟨by decide +kernel, by decide +kernel⟩, List.mem_of_getElem? (i := 586) (by decide +kernel), List.mem_of_getElem? (i := 838) (by decide +kernel), List.mem_of_getElem? (i := 839) (by decide +kernel)⟩
theorem lw_p61 : lw_okq (⟨"EaseCurvesModel", "isAt", "(II)Z"⟩, 11) := ⟨⟨by decide +kernel, by decide +kernel⟩, List.mem_of_getElem? (i := 586) (by decide +kernel), List.mem_of_getElem? (i := 842) (by decide +kernel), List.mem_of_getElem? (i := 843) (by decide +kernel)⟩
theorem lw_p62 : lw_okq (⟨"EaseCurvesModel", "takes", "(I)Z"⟩, 11) := ⟨⟨by decide +kernel, by decide +kernel⟩, List.mem_of_getElem? (i := 586) (by decide +kernel), List.mem_of_getElem? (i := 846) (by decide +kernel), List.mem_of_getElem? (i := 847) (by decide +kernel)⟩
def lw_privs_4 : List (MethodName × Nat) := [(⟨"EaseCurvesModel", "goes", "(II)V"⟩, 11), (⟨"EaseCurvesModel", "tangent", "(II)I"⟩, 11), (⟨"EaseCurvesModel", "mayStretch", "(IIII)Z"⟩, 11), (⟨"EaseCurvesModel", "hasLock", "(I)Z"⟩, 11), (⟨"EaseCurvesModel", "leftOut", "(II)I"⟩, 11), (⟨"EaseCurvesModel", "bakes", "(I)V"⟩, 11), (⟨"EaseCurvesModel", "valueAt", "(II)I"⟩, 11), (⟨"EaseCurvesModel", "errorOf", "(II)I"⟩, 11), (⟨"EaseCurvesModel", "keyOf", "(III)I"⟩, 11), (⟨"EaseCurvesModel", "sumOf", "(III)J"⟩, 11), (⟨"EaseCurvesModel", "extremeOf", "(IIII)I"⟩, 11), (⟨"EaseCurvesModel", "isItem", "(I)Z"⟩, 11), (⟨"EaseCurvesModel", "isNumber", "(I)Z"⟩, 11), (⟨"EaseCurvesModel", "isAt", "(II)Z"⟩, 11), (⟨"EaseCurvesModel", "takes", "(I)Z"⟩, 11)]
theorem lw_r4 : ∀ q ∈ lw_privs_4, lw_okq q := List.forall_mem_cons.mpr ⟨lw_p48, List.forall_mem_cons.mpr ⟨lw_p49, List.forall_mem_cons.mpr ⟨lw_p50, List.forall_mem_cons.mpr ⟨lw_p51, List.forall_mem_cons.mpr ⟨lw_p52, List.forall_mem_cons.mpr ⟨lw_p53, List.forall_mem_cons.mpr ⟨lw_p54, List.forall_mem_cons.mpr ⟨lw_p55, List.forall_mem_cons.mpr ⟨lw_p56, List.forall_mem_cons.mpr ⟨lw_p57, List.forall_mem_cons.mpr ⟨lw_p58, List.forall_mem_cons.mpr ⟨lw_p59, List.forall_mem_cons.mpr ⟨lw_p60, List.forall_mem_cons.mpr ⟨lw_p61, List.forall_mem_cons.mpr ⟨lw_p62, fun _ h => absurd h List.not_mem_nil⟩⟩⟩⟩⟩⟩⟩⟩⟩⟩⟩⟩⟩⟩⟩
def lw_privs : List (MethodName × Nat) := lw_privs_1 ++ (lw_privs_2 ++ (lw_privs_3 ++ (lw_privs_4)))
def lw_tbl : List Cond := k2_sels lw_privs ++ tables_1
theorem lw_privs_ok : ∀ q ∈ lw_privs, lw_okq q := by
  show ∀ q ∈ lw_privs_1 ++ (lw_privs_2 ++ (lw_privs_3 ++ (lw_privs_4))), lw_okq q
  exact List.forall_mem_append.mpr ⟨lw_r1, List.forall_mem_append.mpr ⟨lw_r2, List.forall_mem_append.mpr ⟨lw_r3, lw_r4⟩⟩⟩
/-- the streams that the claim lets the run draw from -/
abbrev lw_cs : List Choice := [Jvm.Choice.named "NaN.bits"]
theorem lw_bits : nanBits ∈ lw_cs := by first | decide | exact List.mem_cons_self | simp [lw_cs, nanBits]
end
section
/-! ===== BEGIN words of one list among another's, by their places ===== -/
theorem goodIn_r {big : List Cond} (ws : List Cond) (ps : List Nat) (hp : ws = ps.filterMap (fun i => big[i]?)) (h : ws.all goodWord = true) : GoodIn big ws := by
  intro w hw
  have h1 := List.all_eq_true.mp h w hw
  rw [hp] at hw
  obtain ⟨i, -, hi⟩ := List.mem_filterMap.mp hw
  have hm : w ∈ big := by first | exact List.mem_of_getElem? hi | exact List.getElem?_mem hi
  exact ⟨hm, good_of_word h1⟩
theorem goodIn_app {big a b : List Cond} (ha : GoodIn big a) (hb : GoodIn big b) : GoodIn big (a ++ b) := fun w h => (List.mem_append.mp h).elim (ha w) (hb w)
theorem goodIn_ca {big a b : List Cond} {c : Cond} (ha : GoodIn big (c :: a)) (hb : GoodIn big b) : GoodIn big (c :: (a ++ b)) := fun w h => (List.mem_cons.mp h).elim (fun e => ha w (List.mem_cons.mpr (Or.inl e))) (fun h => (List.mem_append.mp h).elim (fun h => ha w (List.mem_cons.mpr (Or.inr h))) (hb w))
theorem goodIn_sub {big ws : List Cond} (hm : ∀ w ∈ ws, w ∈ big) (h : ws.all goodWord = true) : GoodIn big ws := fun w hw => ⟨hm w hw, good_of_word (List.all_eq_true.mp h w hw)⟩
/-! ===== END ===== -/

/-! ===== BEGIN exceptions that leave a method, and their catching by the caller (launches without stack traces) ===== -/
section VXA
/-! The laws vx_back, vx_callV, vx_callS, vx_callSW, vx_throw0, vx_throwS follow proofs of the library, with one case more: JvmDerived/Free/Laws.lean (Back.of_free), Shelf42/LK1.lean (callV, callS), Shelf/KitTraced.lean (throwNew0V, throwNewS). -/
/-- where a method has thrown q: the class by its name, the cell, what was written, the world -/
def vx_T (XC : String → State → State → Prop) (st : State) (q : Addr) (t : State) (mc ms : Nat) (free : Addr → Prop) : Prop :=
  ∃ (E : String) (ce : Cell) (L : List Loc), XC E st t ∧ t.heap[q]? = some ce ∧ ce.vm = .none ∧ st.vm.findClass E = some ce.cls ∧ st.WarmedH t.vm ∧ st.sameButNew ({ t with vm := st.vm } : State) L mc ms ∧ ∀ z ∈ L, free z.base
def vx_Q (Qc : Array Value → State → Outcome → State → Prop) (XC : String → State → State → Prop) (mc ms : Nat) (free : Addr → Prop) : Array Value → State → Outcome → State → Prop := fun a st o t =>
  (Qc a st o t ∧ ∃ L, FrameEnd st o t L mc ms ∧ ∀ q ∈ L, free q.base) ∨ ∃ q, o = .threw q ∧ vx_T XC st q t mc ms free
/-- a callee that returns or throws -/
def vx_Met (l : Launch) (y : MethodName) (ws : List Cond) (rm : Room) (Pc : Array Value → State → Prop) (Qc : Array Value → State → Outcome → State → Prop) (XC : String → State → State → Prop) (mc ms : Nat) (free : Addr → Prop) : Prop :=
  MetFree l y (headSpec ws rm) Pc (fun _ _ _ _ _ => True) (vx_Q Qc XC mc ms free)
def vx_Post (XC : String → State → State → Prop) (mc ms : Nat) (free : Addr → Prop) : Pt → Array Value → Addr → Pt → Prop := fun A a q B =>
  ∃ (g : JFrame) (mk : MethodId) (t : State) (L : List Loc) (E : String) (ce : Cell), B.U.heap = t.heap ∧ B.U.vm = t.vm ∧ XC E (A.U.calling g mk a) t ∧ t.heap[q]? = some ce ∧ ce.vm = .none ∧ A.U.vm.findClass E = some ce.cls ∧ B.locs = A.locs ++ L ∧ (∀ z ∈ L, free z.base) ∧ B.cells = A.cells + mc ∧ B.slots = A.slots + ms
def vx_Back (l : Launch) (R : Room) (p : Program) (e : Env) (below : List Frame) (s : State) (sargs : Array Value) (y : MethodName) (len W9 : Nat)
    (Pre : Pt → Array Value → Prop) (Post : Pt → Array Value → Option Value → Pt → Prop) (PostX : Pt → Array Value → Addr → Pt → Prop) : Prop :=
  ∀ (m : MethodId) (meth : Method) (c : Code) (A : Pt) (g : JFrame) (ig : Instr) (mk : MethodId) (a : Array Value),
    Stand p l e R s m sargs below meth c A.U A.locs A.cells A.slots → g.method = m → g.locals.size = c.maxLocals → decode c.code g.pc = .ok (ig, len) →
    2 * g.monitorRoom + (g.stack.map fun v => v.category).sum ≤ W9 → A.U.methodNamed? y = some mk → Pre A a →
    (∃ (v : Option Value) (B : Pt), Stand p l e R s m sargs below meth c B.U B.locs B.cells B.slots ∧ Post A a v B ∧
      Steps p.tables e below (doInvoke e (A.U.setTop g) [] mk a).1 (B.U.setTop { g with pc := g.pc + len, stack := v.toList ++ g.stack })) ∨
    (∃ (q : Addr) (B : Pt), Stand p l e R s m sargs below meth c B.U B.locs B.cells B.slots ∧ PostX A a q B ∧
      Steps p.tables e below (doInvoke e (A.U.setTop g) [] mk a).1 ((B.U.setTop g).pushFrame (.throwing q)))
section Payer
variable {l : Launch} {R : Room} {p : Program} {e : Env} {below : List Frame} {s : State} {sargs : Array Value} {y : MethodName} {len W9 : Nat}
theorem vx_back {ws : List Cond} {rm : Room} {Pc : Array Value → State → Prop} {Qc : Array Value → State → Outcome → State → Prop} {XC : String → State → State → Prop} {mc ms : Nat} {free : Addr → Prop} {bytes : ByteArray} {maxL : Nat} {ret : Option FieldType}
    (hM : vx_Met l y ws rm Pc Qc XC mc ms free) (hblind : FrameBlind Pc) (hrc : rm.cells = mc) (hrs : rm.slots = ms)
    (hframes : rm.frames + 1 ≤ R.frames) (hlocals : W9 + (maxL + 11) + rm.locals ≤ R.locals)
    (hws : ∀ w ∈ ws, ∀ a' U, s.WarmedH U.vm → w.before a' U = true) (hcode : Cond.code y bytes maxL ret ∈ ws) (hinit : ∀ a' U, s.WarmedH U.vm → (Cond.initialized y.cls).before a' U = true) :
    vx_Back l R p e below s sargs y len W9 (PreOf R mc ms Pc) (PostOf Qc mc ms free) (vx_Post XC mc ms free) := by
  intro m meth c A g ig mk a X hg hsize hdg hW hn hp
  have h1 : (headSpec ws rm).pre.before a A.U = true := atoms_intro fun w hw => hws w hw _ _ X.warmed
  have h2 : (Cond.code y bytes maxL ret).before a A.U = true := hws _ hcode _ _ X.warmed
  have h3 : (Cond.initialized y.cls).before a A.U = true := hinit _ _ X.warmed
  have h4 : A.cells + (headSpec ws rm).room.cells ≤ R.cells := by rw [show (headSpec ws rm).room.cells = mc from hrc]; exact hp.1
  have h5 : A.slots + (headSpec ws rm).room.slots ≤ R.slots := by rw [show (headSpec ws rm).room.slots = ms from hrs]; exact hp.2.1
  have hPc : Pc a (A.U.calling g mk a) := hblind _ _ _ _ hp.2.2
  obtain ⟨U, Ls, c0, s0⟩ := A
  dsimp only [Pt.U, Pt.locs, Pt.cells, Pt.slots] at h1 h2 h3 h4 h5 X hn hPc ⊢
  obtain ⟨methY, cY, hmY, hcY, -, hlY, -, -, -, -⟩ := Cond.code_spec hn h2
  obtain ⟨kY, hkY, -⟩ := className_of_methodNamed hn
  have hinitY : kY.init = .initialized := Cond.initialized_spec (findClass_of_methodNamed hn) hkY h3
  have h : At U g.method c below := by rw [hg]; exact X.here
  have hlocals9 : W9 + (maxL + 11) + (headSpec ws rm).room.locals ≤ R.locals := hlocals
  have happ : (headSpec ws rm).appliesLoose y e.platform (U.calling g mk a) = true :=
    Spec.appliesLoose_calling (g := g) h hdg hn hkY hinitY
      (X.room_calling (g := g) (R' := (headSpec ws rm).room) hsize hmY hcY hframes (by rw [hlY]; omega) h4 h5) h1
  obtain ⟨mid, hmid⟩ := h.above
  have hfr : (U.setTop g).frames = (.java g :: mid) ++ below := by rw [State.frames_setTop' g h.top, hmid]; rfl
  obtain ⟨o, s₂, hsteps, -, hend, hq⟩ := Steps.callFree hM p X.admits X.cas X.clock (acts := []) hfr happ hPc trivial
  have hq' : vx_Q Qc XC mc ms free a (U.calling g mk a) o s₂ := hq
  rw [State.frames_setTop' g h.top] at hend
  obtain ⟨g₀, hg0⟩ := Option.isSome_iff_exists.mp h.top
  obtain ⟨r, hr⟩ := State.topJava?_eq_some.mp hg0
  have hr' : (({ U with heap := s₂.heap, slotsUsed := s₂.slotsUsed } : State).setVm s₂.vm).frames = .java g₀ :: r := hr
  rcases hq' with ⟨hqc, L, hfe, hL⟩ | ⟨q, rfl, E, ce, L, hx, hce, hcv, hcl, hW₂, hsm, hL⟩
  · obtain ⟨⟨v, rfl⟩, hW₂, e2, q2, q3, q4, q5, q6⟩ := id hfe
    have e3 : s₂ = ({ (U.calling g mk a).setFrames s₂.frames with heap := s₂.heap, slotsUsed := s₂.slotsUsed } : State).setVm s₂.vm := by
      have : s₂ = ({ s₂ with vm := (U.calling g mk a).vm } : State).setVm s₂.vm := rfl
      rw [e2] at this
      exact this
    obtain ⟨c₂, i₂, len₂, hc₂, hd₂, hf₂⟩ := hend
    have hW' : U.WarmedH s₂.vm := hW₂
    have hcc : c₂ = c := by
      have h1 : s₂.code? g.method = U.code? g.method := by
        rw [State.code?_eq, State.code?_eq, hW'.alike.method?]
      exact Option.some.inj (hc₂.symm.trans (h1.trans h.code))
    subst hcc
    have hlen : len₂ = len := by rw [hdg] at hd₂; cases hd₂; rfl
    subst hlen
    have hs₂ : s₂ = (({ U with heap := s₂.heap, slotsUsed := s₂.slotsUsed } : State).setVm s₂.vm).setTop { g with pc := g.pc + len₂, stack := v.toList ++ g.stack } := by
      refine e3.trans ?_
      rw [hf₂, State.calling_eq h.top, State.setFrames_setFrames, State.setTop_of_frames _ hr', hr]
      rfl
    have hsame : U.sameButNew ({ U with heap := s₂.heap, slotsUsed := s₂.slotsUsed } : State) L mc ms := by
      refine ⟨?_, q2, q3, q4, q5, q6⟩
      obtain ⟨t, ht, -⟩ := State.frames_cons hr
      show ({ U with heap := s₂.heap, slotsUsed := s₂.slotsUsed } : State) = { U.setFrames U.frames with heap := s₂.heap, slotsUsed := s₂.slotsUsed }
      rw [State.setFrames_self ht]
    subst hg
    refine Or.inl ⟨v, ⟨(({ U with heap := s₂.heap, slotsUsed := s₂.slotsUsed } : State).setVm s₂.vm), Ls ++ L, c0 + mc, s0 + ms⟩,
      ⟨X.admits, X.cas, X.clock, X.frames, X.room, X.hears, X.method, X.code, (X.here.setHeapUsed s₂.heap s₂.slotsUsed).setVm hW'.alike, X.tail, State.WarmedH.trans X.warmed hW', X.limits, X.bytes, X.same.trans (hsame.setVm s.vm)⟩,
      ⟨g, mk, s₂, L, rfl, rfl, hqc, rfl, hL, rfl, rfl⟩, ?_⟩
    show Steps p.tables e below _ ((({ U with heap := s₂.heap, slotsUsed := s₂.slotsUsed } : State).setVm s₂.vm).setTop { g with pc := g.pc + len₂, stack := v.toList ++ g.stack })
    rw [← hs₂]
    exact hsteps
  · obtain ⟨e2, q2, q3, q4, q5, q6⟩ := id hsm
    have e3 : s₂ = ({ (U.calling g mk a).setFrames s₂.frames with heap := s₂.heap, slotsUsed := s₂.slotsUsed } : State).setVm s₂.vm := by
      have : s₂ = ({ s₂ with vm := (U.calling g mk a).vm } : State).setVm s₂.vm := rfl
      rw [e2] at this
      exact this
    have hf₂ : s₂.frames = .throwing q :: .java g :: U.frames.tail := hend
    have hW' : U.WarmedH s₂.vm := hW₂
    have hs₂ : s₂ = ((({ U with heap := s₂.heap, slotsUsed := s₂.slotsUsed } : State).setVm s₂.vm).setTop g).pushFrame (.throwing q) := by
      refine e3.trans ?_
      rw [hf₂, State.calling_eq h.top, State.setFrames_setFrames, State.pushFrame, State.frames_setTop _ hr', State.setTop_of_frames _ hr', State.setFrames_setFrames, hr]
      rfl
    have hsame : U.sameButNew ({ U with heap := s₂.heap, slotsUsed := s₂.slotsUsed } : State) L mc ms := by
      refine ⟨?_, q2, q3, q4, q5, q6⟩
      obtain ⟨t, ht, -⟩ := State.frames_cons hr
      show ({ U with heap := s₂.heap, slotsUsed := s₂.slotsUsed } : State) = { U.setFrames U.frames with heap := s₂.heap, slotsUsed := s₂.slotsUsed }
      rw [State.setFrames_self ht]
    subst hg
    refine Or.inr ⟨q, ⟨(({ U with heap := s₂.heap, slotsUsed := s₂.slotsUsed } : State).setVm s₂.vm), Ls ++ L, c0 + mc, s0 + ms⟩,
      ⟨X.admits, X.cas, X.clock, X.frames, X.room, X.hears, X.method, X.code, (X.here.setHeapUsed s₂.heap s₂.slotsUsed).setVm hW'.alike, X.tail, State.WarmedH.trans X.warmed hW', X.limits, X.bytes, X.same.trans (hsame.setVm s.vm)⟩,
      ⟨g, mk, s₂, L, E, ce, rfl, rfl, hx, hce, hcv, hcl, rfl, hL, rfl, rfl⟩, ?_⟩
    show Steps p.tables e below _ (((({ U with heap := s₂.heap, slotsUsed := s₂.slotsUsed } : State).setVm s₂.vm).setTop g).pushFrame (.throwing q))
    rw [← hs₂]
    exact hsteps
end Payer
section Calls
variable {p : Program} {l : Launch} {e : Env} {R : Room} {s : State} {m : MethodId} {args : Array Value} {below : List Frame} {meth : Method} {c : Code} {T : State} {locs : List Loc} {cells slots : Nat}
theorem vx_callV (X : Stand p l e R s m args below meth c T locs cells slots) (hexec : p.tables.exec = Jvm.exec) {own C : String} {index : Nat} {y : MethodName} {bytes : ByteArray} {maxL : Nat} {ret : Option FieldType}
    (hown : s.vm.findClass own = some m.cls) (hlink : (Cond.methodLink own index y).before args s = true) (hinst : (Cond.instanceMethod y).before args s = true) (hsel : (Cond.selects C y y).before args s = true)
    (hcode : (Cond.code y bytes maxL ret).before args s = true) (hy : y.cls ≠ "java/lang/invoke/MethodHandle" ∧ y.cls ≠ "java/lang/invoke/VarHandle")
    {W9 : Nat} {Pre : Pt → Array Value → Prop} {Post : Pt → Array Value → Option Value → Pt → Prop} {PostX : Pt → Array Value → Addr → Pt → Prop} (hK : vx_Back l R p e below s args y 3 W9 Pre Post PostX)
    {b : Addr} {cellB : Cell} (hcell : T.heap[b]? = some cellB) (hobj : cellB.vm.isStatics = false) (hcls : s.vm.findClass C = some cellB.cls)
    {g : JFrame} (hg : g.method = m) (hsize : g.locals.size = c.maxLocals) {argsL rest : List Value} (hlen : ∀ sig, parseMethodDescriptor y.desc = some sig → argsL.length = sig.parameters.length)
    (hstack : g.stack = argsL.reverse ++ .ref b :: rest) (hW : 2 * g.monitorRoom + (rest.map fun v => v.category).sum ≤ W9) (hdg : decode c.code g.pc = .ok (.invokevirtual index, 3))
    (hpre : ∀ vm₁, s.WarmedH vm₁ → Pre ⟨T.setVm vm₁, locs, cells, slots⟩ (Value.ref b :: argsL).toArray) :
    (∃ (v : Option Value) (vm₁ : Vm) (B : Pt), s.WarmedH vm₁ ∧ Stand p l e R s m args below meth c B.U B.locs B.cells B.slots ∧ Post ⟨T.setVm vm₁, locs, cells, slots⟩ (Value.ref b :: argsL).toArray v B ∧
      ∀ target, Steps p.tables e below (B.U.setTop { g with pc := g.pc + 3, stack := v.toList ++ rest }) target → Steps p.tables e below (T.setTop g) target) ∨
    (∃ (q : Addr) (vm₁ : Vm) (B : Pt), s.WarmedH vm₁ ∧ Stand p l e R s m args below meth c B.U B.locs B.cells B.slots ∧ PostX ⟨T.setVm vm₁, locs, cells, slots⟩ (Value.ref b :: argsL).toArray q B ∧
      Steps p.tables e below (T.setTop g) ((B.U.setTop { g with stack := rest }).pushFrame (.throwing q))) := by
  obtain ⟨mk, methM, hnamed, hmethM, hstM, habM⟩ := Cond.instanceMethod_spec hinst
  obtain ⟨methM', cM, hmethM', -, -, -, -, -, -, hsigM⟩ := Cond.code_spec hnamed hcode
  cases hmethM.symm.trans hmethM'
  obtain ⟨c2, r2, m2, q1, q2, q3, q4, kP, hkP, hkPi⟩ := Cond.selects_spec hsel
  cases hcls.symm.trans q1
  cases (State.methodFound?_of_named hnamed hy).symm.trans q2
  cases hnamed.symm.trans q3
  have hselP : selectMethod e.platform s.vm cellB.cls mk = .method mk := by rw [Launch.admits_selectMethod X.admits]; exact q4
  obtain ⟨vm₁, X₁, hstep₁⟩ := X.invokevirtual hexec hown hlink hnamed hmethM hstM hkP hkPi hy (a := b) (cell := cellB) hcell
    (fun z h => by rw [h] at hobj; cases hobj) hselP hmethM habM hkP hkPi (g := g) hg (argsL := argsL) (rest := rest) (hlen _ hsigM) hstack hdg
  rcases hK m meth c ⟨T.setVm vm₁, locs, cells, slots⟩ { g with stack := rest } (.invokevirtual index) mk (Value.ref b :: argsL).toArray X₁ hg hsize hdg hW (X₁.named hnamed) (hpre vm₁ X₁.warmed) with ⟨v, B, X', hpost, hsteps⟩ | ⟨q, B, X', hpost, hsteps⟩
  · exact Or.inl ⟨v, vm₁, B, X₁.warmed, X', hpost, fun target h => hstep₁ _ fun acts => by rw [doInvoke_state]; exact hsteps.trans h⟩
  · exact Or.inr ⟨q, vm₁, B, X₁.warmed, X', hpost, hstep₁ _ fun acts => by rw [doInvoke_state]; exact hsteps⟩
theorem vx_callS (X : Stand p l e R s m args below meth c T locs cells slots) (hexec : p.tables.exec = Jvm.exec) {own : String} {index : Nat} {y : MethodName} {bytes : ByteArray} {maxL : Nat} {ret : Option FieldType}
    (hown : s.vm.findClass own = some m.cls) (hlink : (Cond.methodLink own index y).before args s = true) (hstat : (Cond.static y).before args s = true) (hinit : (Cond.initialized y.cls).before args s = true)
    (hcode : (Cond.code y bytes maxL ret).before args s = true) (hy : y.cls ≠ "java/lang/invoke/MethodHandle" ∧ y.cls ≠ "java/lang/invoke/VarHandle")
    {W9 : Nat} {Pre : Pt → Array Value → Prop} {Post : Pt → Array Value → Option Value → Pt → Prop} {PostX : Pt → Array Value → Addr → Pt → Prop} (hK : vx_Back l R p e below s args y 3 W9 Pre Post PostX)
    {g : JFrame} (hg : g.method = m) (hsize : g.locals.size = c.maxLocals) {argsL rest : List Value} (hlen : ∀ sig, parseMethodDescriptor y.desc = some sig → argsL.length = sig.parameters.length)
    (hstack : g.stack = argsL.reverse ++ rest) (hW : 2 * g.monitorRoom + (rest.map fun v => v.category).sum ≤ W9) (hdg : decode c.code g.pc = .ok (.invokestatic index, 3))
    (hpre : ∀ vm₁, s.WarmedH vm₁ → Pre ⟨T.setVm vm₁, locs, cells, slots⟩ argsL.toArray) :
    (∃ (v : Option Value) (vm₁ : Vm) (B : Pt), s.WarmedH vm₁ ∧ Stand p l e R s m args below meth c B.U B.locs B.cells B.slots ∧ Post ⟨T.setVm vm₁, locs, cells, slots⟩ argsL.toArray v B ∧
      ∀ target, Steps p.tables e below (B.U.setTop { g with pc := g.pc + 3, stack := v.toList ++ rest }) target → Steps p.tables e below (T.setTop g) target) ∨
    (∃ (q : Addr) (vm₁ : Vm) (B : Pt), s.WarmedH vm₁ ∧ Stand p l e R s m args below meth c B.U B.locs B.cells B.slots ∧ PostX ⟨T.setVm vm₁, locs, cells, slots⟩ argsL.toArray q B ∧
      Steps p.tables e below (T.setTop g) ((B.U.setTop { g with stack := rest }).pushFrame (.throwing q))) := by
  obtain ⟨mk, hnamed⟩ := Cond.code_named hcode
  obtain ⟨methM, cM, hmethM, -, -, -, -, -, -, hsigM⟩ := Cond.code_spec hnamed hcode
  have hstatic : methM.isStatic = true := Cond.static_spec hnamed hmethM hstat
  obtain ⟨kP, hkP, -⟩ := className_of_methodNamed hnamed
  have hinitP : kP.init = .initialized := Cond.initialized_spec (findClass_of_methodNamed hnamed) hkP hinit
  obtain ⟨vm₁, X₁, hstep₁⟩ := X.invokestatic hexec hown hlink hnamed hmethM hstatic hkP hinitP hy (g := g) hg (argsL := argsL) (rest := rest) (hlen _ hsigM) hstack hdg
  rcases hK m meth c ⟨T.setVm vm₁, locs, cells, slots⟩ { g with stack := rest } (.invokestatic index) mk argsL.toArray X₁ hg hsize hdg hW (X₁.named hnamed) (hpre vm₁ X₁.warmed) with ⟨v, B, X', hpost, hsteps⟩ | ⟨q, B, X', hpost, hsteps⟩
  · exact Or.inl ⟨v, vm₁, B, X₁.warmed, X', hpost, fun target h => hstep₁ _ fun acts => by rw [doInvoke_state]; exact hsteps.trans h⟩
  · exact Or.inr ⟨q, vm₁, B, X₁.warmed, X', hpost, hstep₁ _ fun acts => by rw [doInvoke_state]; exact hsteps⟩
end Calls
theorem vx_cls {s : State} {T : State} {vm₁ : Vm} {E : String} {k : ClassId} (hW : s.WarmedH vm₁) (h : (T.setVm vm₁).vm.findClass E = some k) : s.vm.findClass E = some k := by
  have h1 : vm₁.findClass E = some k := h
  rw [hW.alike.findClass] at h1
  exact h1
/-- the method's frame g, with q thrown over it -/
def vx_W (p : Program) (l : Launch) (e : Env) (R : Room) (s : State) (m : MethodId) (args : Array Value) (below : List Frame) (meth : Method) (c : Code) (H : Heap) (locs : List Loc) (cells slots : Nat) (Q : State → Prop) (g : JFrame) (q : Addr) : Prop :=
  ∀ T : State, T.heap = H → Stand p l e R s m args below meth c T locs cells slots → ∃ t, Steps p.tables e below ((T.setTop g).pushFrame (.throwing q)) t ∧ Q t
def vx_Run (p : Program) (l : Launch) (e : Env) (R : Room) (s : State) (m : MethodId) (args : Array Value) (below : List Frame) (meth : Method) (c : Code) (H : Heap) (locs : List Loc) (cells slots mc ms : Nat) (g : JFrame) (rest : List Value) (Qa : State → Outcome → State → Prop) (XC : String → State → State → Prop) (free : Addr → Prop) : Prop :=
  ∀ T : State, T.heap = H → Stand p l e R s m args below meth c T locs cells slots →
    (∃ (v : Option Value) (st₀ t T' : State) (L : List Loc), st₀.heap = H ∧ Stand p l e R s m args below meth c T' (locs ++ L) (cells + mc) (slots + ms) ∧ (∀ q ∈ L, free q.base) ∧ T'.heap = t.heap ∧ T'.vm = t.vm ∧ Qa st₀ (.returned v) t ∧
      Goes p e below T g T' { g with pc := g.pc + 3, stack := v.toList ++ rest }) ∨
    (∃ (q : Addr) (st₀ t T' : State) (L : List Loc) (E : String) (ce : Cell), st₀.heap = H ∧ Stand p l e R s m args below meth c T' (locs ++ L) (cells + mc) (slots + ms) ∧ (∀ z ∈ L, free z.base) ∧ T'.heap = t.heap ∧ T'.vm = t.vm ∧ XC E st₀ t ∧ t.heap[q]? = some ce ∧ ce.vm = .none ∧ s.vm.findClass E = some ce.cls ∧
      Steps p.tables e below (T.setTop g) ((T'.setTop { g with stack := rest }).pushFrame (.throwing q)))
def vx_X {S : Type} (px : S → Prop) (B : String → S → State → Prop) (A : Nat → Prop) : String → State → State → Prop := fun E st t => ∃ u : S, px u ∧ B E u t ∧ va_F A st t
section Runs
variable {p : Program} {l : Launch} {e : Env} {R : Room} {s : State} {m : MethodId} {args : Array Value} {below : List Frame} {meth : Method} {c : Code} {H : Heap} {locs : List Loc} {cells slots : Nat}
variable {y : MethodName} {bytes cc : ByteArray} {maxL nL mc ms n index : Nat} {ret : Option FieldType} {ws : List Cond} {rm : Room} {Pc : Array Value → State → Prop} {Qc : Array Value → State → Outcome → State → Prop} {XC : String → State → State → Prop} {free : Addr → Prop} {Ts : List Cond} {own C : String} {b : Addr} {As rest : List Value} {g : JFrame}
theorem vx_callBack (cb : CallB R s args own index y bytes maxL ret ws rm mc ms n) (hM : vx_Met l y ws rm Pc Qc XC mc ms free) (hbl : FrameBlind Pc) : vx_Back l R p e below s args y 3 8 (PreOf R mc ms Pc) (PostOf Qc mc ms free) (vx_Post XC mc ms free) := by
  obtain ⟨hrc, hrs, hfr, hlo, hws, hcw, -, hini, -⟩ := cb
  exact vx_back (bytes := bytes) (maxL := maxL) (ret := ret) hM hbl hrc hrs hfr hlo hws hcw (fun a' U hW => word_at hW (Or.inl (by first | rfl | simp [Cond.onTables, Cond.keeps, Cond.steady])) hini)
theorem vx_runV (S : CallFix p m c cc nL s args Ts own) (hM : vx_Met l y ws rm Pc Qc XC mc ms free) (cw : CallW R s args own C index y bytes maxL ret ws rm mc ms n) (hp : PreV s H C b Pc As)
    (hg : g.method = m) (hn : As.length = n) (hsize : g.locals.size = nL) (hstack : g.stack = As.reverse ++ .ref b :: rest) (hW : 2 * g.monitorRoom + (rest.map fun v => v.category).sum ≤ 8) (hdg : decode cc g.pc = .ok (.invokevirtual index, 3)) (hf : cells + mc ≤ R.cells ∧ slots + ms ≤ R.slots) :
    vx_Run p l e R s m args below meth c H locs cells slots mc ms g rest (Qc (Value.ref b :: As).toArray) XC free := by
  have hK : vx_Back l R p e below s args y 3 8 (PreOf R mc ms Pc) (PostOf Qc mc ms free) (vx_Post XC mc ms free) := vx_callBack cw.1 hM hp.1
  obtain ⟨⟨-, -, -, -, -, -, hcode, -, hy, hlen, hl⟩, hin, hse⟩ := cw
  obtain ⟨hx, hb, hml, ho, -⟩ := S
  obtain ⟨-, ⟨cellB, hcB, hoB, hclB⟩, hPc⟩ := hp
  intro T hT X
  rcases vx_callV X hx (C := C) (bytes := bytes) (maxL := maxL) (ret := ret) ho hl hin hse hcode hy hK (by rw [hT]; exact hcB) hoB hclB hg (hsize.trans hml.symm) (argsL := As) (rest := rest) (fun sig h => hn.trans (hlen sig h)) hstack hW (by rw [hb]; exact hdg)
    (fun vm₁ hW₁ => ⟨hf.1, hf.2, hPc (T.setVm vm₁) hT hW₁⟩) with ⟨v, vm₁, ⟨U', l2, c2, s2⟩, hW₁, X', ⟨g', mk, t, L, e1, e2, hq, h1, hL, h2, h3⟩, st⟩ | ⟨q, vm₁, ⟨U', l2, c2, s2⟩, hW₁, X', ⟨g', mk, t, L, E, ce, e1, e2, hq, hce, hcv, hcl, h1, hL, h2, h3⟩, st⟩
  · dsimp only [Pt.U, Pt.locs, Pt.cells, Pt.slots] at X' e1 e2 h1 h2 h3 st
    subst h1; subst h2; subst h3
    exact Or.inl ⟨v, (T.setVm vm₁).calling g' mk (Value.ref b :: As).toArray, t, U', L, hT, X', hL, e1, e2, hq, st⟩
  · dsimp only [Pt.U, Pt.locs, Pt.cells, Pt.slots] at X' e1 e2 h1 h2 h3 st hcl
    subst h1; subst h2; subst h3
    exact Or.inr ⟨q, (T.setVm vm₁).calling g' mk (Value.ref b :: As).toArray, t, U', L, E, ce, hT, X', hL, e1, e2, hq, hce, hcv, vx_cls hW₁ hcl, st⟩
theorem vx_runS (S : CallFix p m c cc nL s args Ts own) (hM : vx_Met l y ws rm Pc Qc XC mc ms free) (cw : CallB R s args own index y bytes maxL ret ws rm mc ms n ∧ (Cond.static y).before args s = true) (hp : PreS s H Pc As)
    (hg : g.method = m) (hn : As.length = n) (hsize : g.locals.size = nL) (hstack : g.stack = As.reverse ++ rest) (hW : 2 * g.monitorRoom + (rest.map fun v => v.category).sum ≤ 8) (hdg : decode cc g.pc = .ok (.invokestatic index, 3)) (hf : cells + mc ≤ R.cells ∧ slots + ms ≤ R.slots) :
    vx_Run p l e R s m args below meth c H locs cells slots mc ms g rest (Qc As.toArray) XC free := by
  have hK : vx_Back l R p e below s args y 3 8 (PreOf R mc ms Pc) (PostOf Qc mc ms free) (vx_Post XC mc ms free) := vx_callBack cw.1 hM hp.1
  obtain ⟨⟨-, -, -, -, -, -, hcode, hini, hy, hlen, hl⟩, hstt⟩ := cw
  obtain ⟨hx, hb, hml, ho, -⟩ := S
  intro T hT X
  rcases vx_callS X hx (bytes := bytes) (maxL := maxL) (ret := ret) ho hl hstt hini hcode hy hK hg (hsize.trans hml.symm) (argsL := As) (rest := rest) (fun sig h => hn.trans (hlen sig h)) hstack hW (by rw [hb]; exact hdg)
    (fun vm₁ hW₁ => ⟨hf.1, hf.2, hp.2 (T.setVm vm₁) hT hW₁⟩) with ⟨v, vm₁, ⟨U', l2, c2, s2⟩, hW₁, X', ⟨g', mk, t, L, e1, e2, hq, h1, hL, h2, h3⟩, st⟩ | ⟨q, vm₁, ⟨U', l2, c2, s2⟩, hW₁, X', ⟨g', mk, t, L, E, ce, e1, e2, hq, hce, hcv, hcl, h1, hL, h2, h3⟩, st⟩
  · dsimp only [Pt.U, Pt.locs, Pt.cells, Pt.slots] at X' e1 e2 h1 h2 h3 st
    subst h1; subst h2; subst h3
    exact Or.inl ⟨v, (T.setVm vm₁).calling g' mk As.toArray, t, U', L, hT, X', hL, e1, e2, hq, st⟩
  · dsimp only [Pt.U, Pt.locs, Pt.cells, Pt.slots] at X' e1 e2 h1 h2 h3 st hcl
    subst h1; subst h2; subst h3
    exact Or.inr ⟨q, (T.setVm vm₁).calling g' mk As.toArray, t, U', L, E, ce, hT, X', hL, e1, e2, hq, hce, hcv, vx_cls hW₁ hcl, st⟩
end Runs
section Rows
variable {p : Program} {l : Launch} {e : Env} {R : Room} {s : State} {m : MethodId} {args : Array Value} {below : List Frame} {meth : Method} {c : Code} {H : Heap} {locs : List Loc} {cells slots : Nat} {Q : State → Prop}
variable {mc ms : Nat} {free : Addr → Prop} {A0 A1 : Nat → Prop} {H0 : Heap} {a : Array Value} {pc : Nat} {ls : Array Slot} {st0 rest : List Value}
theorem vx_keep {st₀ t T' : State} {L : List Loc} (h0 : st₀.heap = H) (e1 : T'.heap = t.heap) (hS : va_S A0 H0 H locs) (hA : ∀ q, q < H.size → A1 q → A0 q) (hf : ∀ q, free q → A0 q) (hL : ∀ q ∈ L, free q.base) (hF : va_F A1 st₀ t) :
    H.size ≤ T'.heap.size ∧ (∀ q : Nat, q < H.size → ¬ A1 q → T'.heap[q]? = H[q]?) ∧ va_S A0 H0 T'.heap (locs ++ L) := by
  obtain ⟨hz, hk⟩ := hF
  rw [h0] at hz hk
  exact ⟨by rw [e1]; exact hz, fun q h1 h2 => by rw [e1]; exact hk q h1 h2,
    ⟨Nat.le_trans hS.1 (by rw [e1]; exact hz), fun q h1 h2 => by rw [e1, hk q (Nat.lt_of_lt_of_le h1 hS.1) (fun z => h2 (hA q (Nat.lt_of_lt_of_le h1 hS.1) z))]; exact hS.2.1 q h1 h2, fun q hq => by
      rcases List.mem_append.mp hq with h | h
      · exact hS.2.2 q h
      · exact hf _ (hL q h)⟩⟩
theorem vx_calli {S SX : Type} {post : Int32 → S → Prop} {px : SX → Prop} {B : S → State → Prop} {BX : String → SX → State → Prop} {AX : Nat → Prop} (hr : vx_Run p l e R s m args below meth c H locs cells slots mc ms (F0 m pc ls st0) rest (va_Qi post B A1 a) (vx_X px BX AX) free) (hS : va_S A0 H0 H locs) (hA : ∀ q, q < H.size → A1 q → A0 q) (hf : ∀ q, free q → A0 q) (hAX : ∀ q, q < H.size → AX q → A0 q)
    (kx : ∀ (E : String) (ce : Cell) (q9 : Addr) (u : SX) (t : State) (H1 : Heap) (locs1 : List Loc), t.heap = H1 → s.vm.Alike t.vm → px u → BX E u t → H.size ≤ H1.size → (∀ q : Nat, q < H.size → ¬ AX q → H1[q]? = H[q]?) → va_S A0 H0 H1 locs1 → H1[q9]? = some ce → ce.vm = .none → s.vm.findClass E = some ce.cls → vx_W p l e R s m args below meth c H1 locs1 (cells + mc) (slots + ms) Q (F0 m pc ls rest) q9)
    (kk : ∀ (r : Int32) (u : S) (t : State) (H1 : Heap) (locs1 : List Loc), t.heap = H1 → s.vm.Alike t.vm → post r u → B u t → H.size ≤ H1.size → (∀ q : Nat, q < H.size → ¬ A1 q → H1[q]? = H[q]?) → va_S A0 H0 H1 locs1 → W p l e R s m args below meth c H1 locs1 (cells + mc) (slots + ms) Q (F0 m (pc + 3) ls (.int r :: rest))) : W p l e R s m args below meth c H locs cells slots Q (F0 m pc ls st0) := by
  intro T hT X
  rcases hr T hT X with ⟨v, st₀, t, T', L, h0, X', hL, e1, e2, ⟨⟨r, u, hv, hp, hb⟩, hF⟩, st⟩ | ⟨q, st₀, t, T', L, E, ce, h0, X', hL, e1, e2, ⟨u, hp, hb, hF⟩, hce, hcv, hcl, st⟩
  · cases hv
    obtain ⟨k1, k2, k3⟩ := vx_keep h0 e1 hS hA hf hL hF
    obtain ⟨t2, a1, b1⟩ := kk r u t T'.heap (locs ++ L) e1.symm (by rw [← e2]; exact X'.warmed.alike) hp hb k1 k2 k3 T' rfl X'
    exact ⟨t2, st t2 a1, b1⟩
  · obtain ⟨k1, k2, k3⟩ := vx_keep h0 e1 hS hAX hf hL hF
    obtain ⟨t2, a1, b1⟩ := kx E ce q u t T'.heap (locs ++ L) e1.symm (by rw [← e2]; exact X'.warmed.alike) hp hb k1 k2 k3 (by rw [e1]; exact hce) hcv hcl T' rfl X'
    exact ⟨t2, st.trans a1, b1⟩
theorem vx_calll {S SX : Type} {post : Int64 → S → Prop} {px : SX → Prop} {B : S → State → Prop} {BX : String → SX → State → Prop} {AX : Nat → Prop} (hr : vx_Run p l e R s m args below meth c H locs cells slots mc ms (F0 m pc ls st0) rest (va_Ql post B A1 a) (vx_X px BX AX) free) (hS : va_S A0 H0 H locs) (hA : ∀ q, q < H.size → A1 q → A0 q) (hf : ∀ q, free q → A0 q) (hAX : ∀ q, q < H.size → AX q → A0 q)
    (kx : ∀ (E : String) (ce : Cell) (q9 : Addr) (u : SX) (t : State) (H1 : Heap) (locs1 : List Loc), t.heap = H1 → s.vm.Alike t.vm → px u → BX E u t → H.size ≤ H1.size → (∀ q : Nat, q < H.size → ¬ AX q → H1[q]? = H[q]?) → va_S A0 H0 H1 locs1 → H1[q9]? = some ce → ce.vm = .none → s.vm.findClass E = some ce.cls → vx_W p l e R s m args below meth c H1 locs1 (cells + mc) (slots + ms) Q (F0 m pc ls rest) q9)
    (kk : ∀ (r : Int64) (u : S) (t : State) (H1 : Heap) (locs1 : List Loc), t.heap = H1 → s.vm.Alike t.vm → post r u → B u t → H.size ≤ H1.size → (∀ q : Nat, q < H.size → ¬ A1 q → H1[q]? = H[q]?) → va_S A0 H0 H1 locs1 → W p l e R s m args below meth c H1 locs1 (cells + mc) (slots + ms) Q (F0 m (pc + 3) ls (.long r :: rest))) : W p l e R s m args below meth c H locs cells slots Q (F0 m pc ls st0) := by
  intro T hT X
  rcases hr T hT X with ⟨v, st₀, t, T', L, h0, X', hL, e1, e2, ⟨⟨r, u, hv, hp, hb⟩, hF⟩, st⟩ | ⟨q, st₀, t, T', L, E, ce, h0, X', hL, e1, e2, ⟨u, hp, hb, hF⟩, hce, hcv, hcl, st⟩
  · cases hv
    obtain ⟨k1, k2, k3⟩ := vx_keep h0 e1 hS hA hf hL hF
    obtain ⟨t2, a1, b1⟩ := kk r u t T'.heap (locs ++ L) e1.symm (by rw [← e2]; exact X'.warmed.alike) hp hb k1 k2 k3 T' rfl X'
    exact ⟨t2, st t2 a1, b1⟩
  · obtain ⟨k1, k2, k3⟩ := vx_keep h0 e1 hS hAX hf hL hF
    obtain ⟨t2, a1, b1⟩ := kx E ce q u t T'.heap (locs ++ L) e1.symm (by rw [← e2]; exact X'.warmed.alike) hp hb k1 k2 k3 (by rw [e1]; exact hce) hcv hcl T' rfl X'
    exact ⟨t2, st.trans a1, b1⟩
theorem vx_callf {S SX : Type} {post : UInt32 → S → Prop} {px : SX → Prop} {B : S → State → Prop} {BX : String → SX → State → Prop} {AX : Nat → Prop} (hr : vx_Run p l e R s m args below meth c H locs cells slots mc ms (F0 m pc ls st0) rest (va_Qf post B A1 a) (vx_X px BX AX) free) (hS : va_S A0 H0 H locs) (hA : ∀ q, q < H.size → A1 q → A0 q) (hf : ∀ q, free q → A0 q) (hAX : ∀ q, q < H.size → AX q → A0 q)
    (kx : ∀ (E : String) (ce : Cell) (q9 : Addr) (u : SX) (t : State) (H1 : Heap) (locs1 : List Loc), t.heap = H1 → s.vm.Alike t.vm → px u → BX E u t → H.size ≤ H1.size → (∀ q : Nat, q < H.size → ¬ AX q → H1[q]? = H[q]?) → va_S A0 H0 H1 locs1 → H1[q9]? = some ce → ce.vm = .none → s.vm.findClass E = some ce.cls → vx_W p l e R s m args below meth c H1 locs1 (cells + mc) (slots + ms) Q (F0 m pc ls rest) q9)
    (kk : ∀ (r : UInt32) (u : S) (t : State) (H1 : Heap) (locs1 : List Loc), t.heap = H1 → s.vm.Alike t.vm → post r u → B u t → H.size ≤ H1.size → (∀ q : Nat, q < H.size → ¬ A1 q → H1[q]? = H[q]?) → va_S A0 H0 H1 locs1 → W p l e R s m args below meth c H1 locs1 (cells + mc) (slots + ms) Q (F0 m (pc + 3) ls (.float r :: rest))) : W p l e R s m args below meth c H locs cells slots Q (F0 m pc ls st0) := by
  intro T hT X
  rcases hr T hT X with ⟨v, st₀, t, T', L, h0, X', hL, e1, e2, ⟨⟨r, u, hv, hp, hb⟩, hF⟩, st⟩ | ⟨q, st₀, t, T', L, E, ce, h0, X', hL, e1, e2, ⟨u, hp, hb, hF⟩, hce, hcv, hcl, st⟩
  · cases hv
    obtain ⟨k1, k2, k3⟩ := vx_keep h0 e1 hS hA hf hL hF
    obtain ⟨t2, a1, b1⟩ := kk r u t T'.heap (locs ++ L) e1.symm (by rw [← e2]; exact X'.warmed.alike) hp hb k1 k2 k3 T' rfl X'
    exact ⟨t2, st t2 a1, b1⟩
  · obtain ⟨k1, k2, k3⟩ := vx_keep h0 e1 hS hAX hf hL hF
    obtain ⟨t2, a1, b1⟩ := kx E ce q u t T'.heap (locs ++ L) e1.symm (by rw [← e2]; exact X'.warmed.alike) hp hb k1 k2 k3 (by rw [e1]; exact hce) hcv hcl T' rfl X'
    exact ⟨t2, st.trans a1, b1⟩
theorem vx_calld {S SX : Type} {post : UInt64 → S → Prop} {px : SX → Prop} {B : S → State → Prop} {BX : String → SX → State → Prop} {AX : Nat → Prop} (hr : vx_Run p l e R s m args below meth c H locs cells slots mc ms (F0 m pc ls st0) rest (va_Qd post B A1 a) (vx_X px BX AX) free) (hS : va_S A0 H0 H locs) (hA : ∀ q, q < H.size → A1 q → A0 q) (hf : ∀ q, free q → A0 q) (hAX : ∀ q, q < H.size → AX q → A0 q)
    (kx : ∀ (E : String) (ce : Cell) (q9 : Addr) (u : SX) (t : State) (H1 : Heap) (locs1 : List Loc), t.heap = H1 → s.vm.Alike t.vm → px u → BX E u t → H.size ≤ H1.size → (∀ q : Nat, q < H.size → ¬ AX q → H1[q]? = H[q]?) → va_S A0 H0 H1 locs1 → H1[q9]? = some ce → ce.vm = .none → s.vm.findClass E = some ce.cls → vx_W p l e R s m args below meth c H1 locs1 (cells + mc) (slots + ms) Q (F0 m pc ls rest) q9)
    (kk : ∀ (r : UInt64) (u : S) (t : State) (H1 : Heap) (locs1 : List Loc), t.heap = H1 → s.vm.Alike t.vm → post r u → B u t → H.size ≤ H1.size → (∀ q : Nat, q < H.size → ¬ A1 q → H1[q]? = H[q]?) → va_S A0 H0 H1 locs1 → W p l e R s m args below meth c H1 locs1 (cells + mc) (slots + ms) Q (F0 m (pc + 3) ls (.double r :: rest))) : W p l e R s m args below meth c H locs cells slots Q (F0 m pc ls st0) := by
  intro T hT X
  rcases hr T hT X with ⟨v, st₀, t, T', L, h0, X', hL, e1, e2, ⟨⟨r, u, hv, hp, hb⟩, hF⟩, st⟩ | ⟨q, st₀, t, T', L, E, ce, h0, X', hL, e1, e2, ⟨u, hp, hb, hF⟩, hce, hcv, hcl, st⟩
  · cases hv
    obtain ⟨k1, k2, k3⟩ := vx_keep h0 e1 hS hA hf hL hF
    obtain ⟨t2, a1, b1⟩ := kk r u t T'.heap (locs ++ L) e1.symm (by rw [← e2]; exact X'.warmed.alike) hp hb k1 k2 k3 T' rfl X'
    exact ⟨t2, st t2 a1, b1⟩
  · obtain ⟨k1, k2, k3⟩ := vx_keep h0 e1 hS hAX hf hL hF
    obtain ⟨t2, a1, b1⟩ := kx E ce q u t T'.heap (locs ++ L) e1.symm (by rw [← e2]; exact X'.warmed.alike) hp hb k1 k2 k3 (by rw [e1]; exact hce) hcv hcl T' rfl X'
    exact ⟨t2, st.trans a1, b1⟩
theorem vx_callv {S SX : Type} {post : S → Prop} {px : SX → Prop} {B : S → State → Prop} {BX : String → SX → State → Prop} {AX : Nat → Prop} (hr : vx_Run p l e R s m args below meth c H locs cells slots mc ms (F0 m pc ls st0) rest (va_Qv post B A1 a) (vx_X px BX AX) free) (hS : va_S A0 H0 H locs) (hA : ∀ q, q < H.size → A1 q → A0 q) (hf : ∀ q, free q → A0 q) (hAX : ∀ q, q < H.size → AX q → A0 q)
    (kx : ∀ (E : String) (ce : Cell) (q9 : Addr) (u : SX) (t : State) (H1 : Heap) (locs1 : List Loc), t.heap = H1 → s.vm.Alike t.vm → px u → BX E u t → H.size ≤ H1.size → (∀ q : Nat, q < H.size → ¬ AX q → H1[q]? = H[q]?) → va_S A0 H0 H1 locs1 → H1[q9]? = some ce → ce.vm = .none → s.vm.findClass E = some ce.cls → vx_W p l e R s m args below meth c H1 locs1 (cells + mc) (slots + ms) Q (F0 m pc ls rest) q9)
    (kk : ∀ (u : S) (t : State) (H1 : Heap) (locs1 : List Loc), t.heap = H1 → s.vm.Alike t.vm → post u → B u t → H.size ≤ H1.size → (∀ q : Nat, q < H.size → ¬ A1 q → H1[q]? = H[q]?) → va_S A0 H0 H1 locs1 → W p l e R s m args below meth c H1 locs1 (cells + mc) (slots + ms) Q (F0 m (pc + 3) ls (rest))) : W p l e R s m args below meth c H locs cells slots Q (F0 m pc ls st0) := by
  intro T hT X
  rcases hr T hT X with ⟨v, st₀, t, T', L, h0, X', hL, e1, e2, ⟨⟨u, hv, hp, hb⟩, hF⟩, st⟩ | ⟨q, st₀, t, T', L, E, ce, h0, X', hL, e1, e2, ⟨u, hp, hb, hF⟩, hce, hcv, hcl, st⟩
  · cases hv
    obtain ⟨k1, k2, k3⟩ := vx_keep h0 e1 hS hA hf hL hF
    obtain ⟨t2, a1, b1⟩ := kk u t T'.heap (locs ++ L) e1.symm (by rw [← e2]; exact X'.warmed.alike) hp hb k1 k2 k3 T' rfl X'
    exact ⟨t2, st t2 a1, b1⟩
  · obtain ⟨k1, k2, k3⟩ := vx_keep h0 e1 hS hAX hf hL hF
    obtain ⟨t2, a1, b1⟩ := kx E ce q u t T'.heap (locs ++ L) e1.symm (by rw [← e2]; exact X'.warmed.alike) hp hb k1 k2 k3 (by rw [e1]; exact hce) hcv hcl T' rfl X'
    exact ⟨t2, st.trans a1, b1⟩
/-- caught by the row x of this method's table; the rows ahead don't take it -/
theorem vx_catch {own name : String} {E : String} {ce : Cell} {q : Addr} (hown : s.vm.findClass own = some m.cls) (pre : List ExceptionTableEntry) (x : ExceptionTableEntry) (suf : List ExceptionTableEntry) (hsplit : c.exceptionTable.toList = pre ++ x :: suf)
    (hpass : ∀ z ∈ pre, covers z pc = false ∨ (z.catchType ≠ 0 ∧ ∃ nm : String, (Cond.classLink own z.catchType nm).before args s = true ∧ va_Nc E nm s)) (hx : covers x pc = true) (h0 : x.catchType ≠ 0)
    (hlink : (Cond.classLink own x.catchType name).before args s = true) (hcast : (Cond.castable E name).before args s = true) (hcell : H[q]? = some ce) (hv : ce.vm = .none) (hcl : s.vm.findClass E = some ce.cls)
    (kk : W p l e R s m args below meth c H locs cells slots Q (F0 m x.handlerPc ls [.ref q])) : vx_W p l e R s m args below meth c H locs cells slots Q (F0 m pc ls rest) q := by
  intro T hT X
  have hpl : e.platform.magicAccessors = ({} : Platform).magicAccessors := by rw [X.admits.platform]
  obtain ⟨c3, c4, hc3, hc4, hasg⟩ := Cond.castable_spec hcast
  cases Option.some.inj (hc3.symm.trans hcl)
  obtain ⟨c5, hc5, hcl5⟩ := Cond.classLink_spec hown hlink e.platform hpl
  cases Option.some.inj (hc4.symm.trans hc5)
  obtain ⟨vm', X', st⟩ := X.thenCaughtThrough q (g := F0 m pc ls rest) rfl (Steps.refl _) (by rw [hT]; exact hcell) (by rw [hv]; rfl) (by obtain ⟨k9, h9, -⟩ := Vm.findClass_spec hcl; exact ⟨k9, h9⟩) pre x suf hsplit
    (fun z hz => by
      rcases hpass z hz with h | ⟨hz0, nm, hl1, hn1⟩
      · exact Or.inl h
      · obtain ⟨c6, hc6, hcl6⟩ := Cond.classLink_spec hown hl1 e.platform hpl
        obtain ⟨a8, b8, h1, h2, h3⟩ := hn1
        cases Option.some.inj (h1.symm.trans hcl)
        cases Option.some.inj (h2.symm.trans hc6)
        exact Or.inr ⟨hz0, _, hcl6, h3⟩) hx (Or.inr ⟨h0, c4, hcl5, hasg⟩)
  obtain ⟨t, a1, b1⟩ := kk (T.setVm vm') hT X'
  exact ⟨t, st.trans a1, b1⟩
end Rows
section Ends
variable {p : Program} {l : Launch} {e : Env} {R : Room} {s : State} {m : MethodId} {args : Array Value} {below : List Frame} {meth : Method} {c : Code} {H : Heap} {locs : List Loc} {cells slots : Nat} {Q : State → Prop}
variable {mc ms : Nat} {free : Addr → Prop} {A0 A1 : Nat → Prop} {H0 : Heap} {a : Array Value} {ls : Array Slot} {st0 rest : List Value}
variable {Qc : Array Value → State → Outcome → State → Prop} {XC : String → State → State → Prop}
/-- what a body that may throw owes at its end -/
def vx_MQ (below : List Frame) (Qc : Array Value → State → Outcome → State → Prop) (XC : String → State → State → Prop) (a : Array Value) (s : State) (mc ms : Nat) (free : Addr → Prop) : State → Prop := fun t =>
  ∃ o, t.status = .running ∧ Ended t below o ∧ vx_Q Qc XC mc ms free a s o t
theorem vx_ret {g : JFrame} {mc ms : Nat} (k : W p l e R s m args below meth c H locs cells slots (MQ below Qc args s mc ms free) g) : W p l e R s m args below meth c H locs cells slots (vx_MQ below Qc XC args s mc ms free) g := by
  intro T hT X
  obtain ⟨t, a1, o, b1, b2, b3, b4⟩ := k T hT X
  exact ⟨t, a1, o, b1, b2, Or.inl ⟨b3, b4⟩⟩
/-- not caught here: it goes on to the caller -/
theorem vx_widen {g : JFrame} {q : Addr} {k n : Nat} (h1 : cells ≤ k) (h2 : slots ≤ n) (kk : vx_W p l e R s m args below meth c H locs k n Q g q) : vx_W p l e R s m args below meth c H locs cells slots Q g q := fun T hT X => kk T hT (stand_widen X h1 h2)
theorem vx_out {pc : Nat} {E : String} {ce : Cell} {q : Addr} {mc ms : Nat} (hout : ∀ x ∈ c.exceptionTable.toList, covers x pc = false) (hlocks : meth.locks = false) (hcell : H[q]? = some ce) (hv : ce.vm = .none) (hcl : s.vm.findClass E = some ce.cls)
    (hx : ∀ t : State, t.heap = H → s.vm.Alike t.vm → XC E s t) (hf : ∀ z ∈ locs, free z.base) (hc : cells ≤ mc) (hs : slots ≤ ms) :
    vx_W p l e R s m args below meth c H locs cells slots (vx_MQ below Qc XC args s mc ms free) (F0 m pc ls rest) q := by
  intro T hT X
  obtain ⟨st1, hrun, hend, hW, hsm⟩ := X.leaveThrown q (g := F0 m pc ls rest) rfl rfl rfl hout hlocks
  have hcell9 : (T.setFrames (.throwing q :: below)).heap[q]? = some ce := by
    show T.heap[q]? = some ce
    rw [hT]; exact hcell
  exact ⟨_, st1, .threw q, hrun, hend, Or.inr ⟨q, rfl, E, ce, locs, hx _ hT hW.alike, hcell9, hv, hcl, hW, hsm.mono hc hs, hf⟩⟩
theorem vx_frame {U : State} {k n : Nat} (h : s.sameButNew ({ U with vm := s.vm } : State) locs k n) : s.heap.size ≤ U.heap.size ∧ ∀ q : Nat, q < s.heap.size → (∀ z ∈ locs, z.base ≠ q) → U.heap[q]? = s.heap[q]? := by
  obtain ⟨-, h2, -, -, -, h6⟩ := h
  refine ⟨h2, fun q hq hz => ?_⟩
  obtain ⟨c9, e1, e2, e3, e4⟩ := h6 q _ (Array.getElem?_eq_getElem hq)
  have hs : c9.slots = (s.heap[q]).slots := Array.ext_getElem? fun i => e4 i fun hm => hz _ hm rfl
  have h9 : c9 = s.heap[q] := by
    rw [hs] at e2
    exact e2
  have e5 : U.heap[q]? = some c9 := e1
  rw [e5, h9, Array.getElem?_eq_getElem hq]
/-- the words of a throw but the four that speak of the heap -/
def vx_no (w : Cond) : Bool := decide (w ≠ .isRef (.static Bundle.tN "UNASSIGNED_STACK" Bundle.steD)) && decide (w ≠ .isRef (.static Bundle.tN "SUPPRESSED_SENTINEL" Bundle.listD)) && decide (w ≠ .laysStatic Bundle.tN "UNASSIGNED_STACK" Bundle.steD) && decide (w ≠ .laysStatic Bundle.tN "SUPPRESSED_SENTINEL" Bundle.listD)
def vx_at0 (own : String) (ic : Nat) (X : String) (names : List String) : List Cond := (Bundle.ownAtoms0 own ic X names).filter vx_no
def vx_atS (own : String) (ic : Nat) (X : String) (names : List String) : List Cond := (Bundle.ownAtoms own ic X names).filter vx_no
/-- a word that the tables alone decide, or a good one -/
def vx_ot (w : Cond) : Bool := w.onTables || goodWord w
theorem vx_ot_at {args a' : Array Value} {s U : State} {w : Cond} (hW : s.WarmedH U.vm) (hvm : s.vm = U.vm) (hg : vx_ot w = true) (h : w.before args s = true) : w.before a' U = true := by
  simp only [vx_ot, Bool.or_eq_true] at hg
  rcases hg with hg | hg
  · exact va_tabs hg hvm h
  · exact word_at hW (good_of_word hg) h
/-- a list's words: the good ones out of the method's own list, the others by premises of their own -/
theorem vx_hat {args : Array Value} {s : State} {L B : List Cond} (h1 : ∀ w ∈ L.filter goodWord, w.before args s = true) (h2 : ∀ w ∈ L.filter (fun w => !goodWord w), w ∈ B) (h3 : ∀ w ∈ B, w.before args s = true) : ∀ w ∈ L, w.before args s = true := by
  intro w hw
  by_cases g : goodWord w = true
  · exact h1 w (List.mem_filter.mpr ⟨hw, g⟩)
  · refine h3 w (h2 w (List.mem_filter.mpr ⟨hw, ?_⟩))
    show (!goodWord w) = true
    cases hgw : goodWord w
    · rfl
    · exact absurd hgw g
theorem vx_c {args : Array Value} {s : State} {w : Cond} {B : List Cond} (h : w.before args s = true) (t : ∀ w ∈ B, w.before args s = true) : ∀ w' ∈ w :: B, w'.before args s = true := fun w' h' => (List.mem_cons.mp h').elim (fun e => by rw [e]; exact h) (t w')
theorem vx_n {args : Array Value} {s : State} : ∀ w ∈ ([] : List Cond), w.before args s = true := fun _ h => nomatch h
theorem vx_own {args : Array Value} {s : State} {L : List Cond} (h1 : ∀ w ∈ L.filter vx_no, w.before args s = true)
    (hU : (Cond.isRef (.static Bundle.tN "UNASSIGNED_STACK" Bundle.steD)).before args s = true) (hN : (Cond.isRef (.static Bundle.tN "SUPPRESSED_SENTINEL" Bundle.listD)).before args s = true)
    (lU : (Cond.laysStatic Bundle.tN "UNASSIGNED_STACK" Bundle.steD).before args s = true) (lN : (Cond.laysStatic Bundle.tN "SUPPRESSED_SENTINEL" Bundle.listD).before args s = true) : ∀ w ∈ L, w.before args s = true := by
  intro w hw
  by_cases e1 : w = .isRef (.static Bundle.tN "UNASSIGNED_STACK" Bundle.steD)
  · rw [e1]; exact hU
  · by_cases e2 : w = .isRef (.static Bundle.tN "SUPPRESSED_SENTINEL" Bundle.listD)
    · rw [e2]; exact hN
    · by_cases e3 : w = .laysStatic Bundle.tN "UNASSIGNED_STACK" Bundle.steD
      · rw [e3]; exact lU
      · by_cases e4 : w = .laysStatic Bundle.tN "SUPPRESSED_SENTINEL" Bundle.listD
        · rw [e4]; exact lN
        · exact h1 w (List.mem_filter.mpr ⟨hw, by unfold vx_no; rw [decide_eq_true e1, decide_eq_true e2, decide_eq_true e3, decide_eq_true e4]; rfl⟩)
/-- where a static field lies, its class's statics cell in H -/
def vx_L (C n d : String) (A : Nat → Prop) (U : State) (H : Heap) : Prop := ∃ (c : ClassId) (k : Class) (i : Nat) (f : Field) (a : Nat) (cell : Cell), U.vm.findClass C = some c ∧ U.fieldFound? C n d = some (c, k, i, f) ∧ f.isStatic = true ∧ k.statics = some a ∧ H[a]? = some cell ∧ cell.vm.isStatics = true ∧ cell.cls = c ∧ f.slot < cell.slots.size ∧ k.staticTypes[f.slot]? = some f.type ∧ ¬ A a
theorem vx_L.moved {C n d : String} {A : Nat → Prop} {u U : State} {H : Heap} (hvm : u.vm.Alike U.vm) (h : vx_L C n d A u H) : vx_L C n d A U H := by
  obtain ⟨c, k, i, f, a, cell, h1, h2, h3, h4, h5, h6, h7, h8, h9, h10⟩ := h
  obtain ⟨k', hi', he⟩ := State.fieldFound?_setVm hvm h2
  exact ⟨c, k', i, f, a, cell, by rw [hvm.findClass]; exact h1, hi', h3, by rw [he]; exact h4, h5, h6, h7, h8, by rw [he]; exact h9, h10⟩
theorem vx_L.kept {C n d : String} {A : Nat → Prop} {U : State} {H H1 : Heap} (h : vx_L C n d A U H) (hq : ∀ a : Nat, a < H.size → ¬ A a → H1[a]? = H[a]?) : vx_L C n d A U H1 := by
  obtain ⟨c, k, i, f, a, cell, h1, h2, h3, h4, h5, h6, h7, h8, h9, h10⟩ := h
  exact ⟨c, k, i, f, a, cell, h1, h2, h3, h4, by rw [hq a (Array.getElem?_eq_some_iff.mp h5).1 h10]; exact h5, h6, h7, h8, h9, h10⟩
theorem vx_L.narrow {C n d : String} {A B : Nat → Prop} {U : State} {H : Heap} (h : vx_L C n d A U H) (hAB : ∀ q, B q → A q) : vx_L C n d B U H := by
  obtain ⟨c, k, i, f, a, cell, h1, h2, h3, h4, h5, h6, h7, h8, h9, h10⟩ := h
  exact ⟨c, k, i, f, a, cell, h1, h2, h3, h4, h5, h6, h7, h8, h9, fun z => h10 (hAB _ z)⟩
theorem vx_L.word {C n d : String} {A : Nat → Prop} {s : State} {args : Array Value} (h : vx_L C n d A s s.heap) : (Cond.laysStatic C n d).before args s = true := by
  obtain ⟨c, k, i, f, a, cell, h1, h2, h3, h4, h5, h6, h7, h8, h9, -⟩ := h
  show (Cond.laysStatic C n d).holds args s none s [] = true
  exact Cond.laysStatic_of h1 h2 h3 h4 h5 h6 h7 h8 h9
/-- .. and what it holds: null or some reference -/
def vx_Zq (C n d : String) (A : Nat → Prop) (U : State) (H : Heap) : Prop := va_Zq C n d A U H ∧ vx_L C n d A U H
theorem vx_Zq.moved {C n d : String} {A : Nat → Prop} {u U : State} {H : Heap} (hvm : u.vm.Alike U.vm) (h : vx_Zq C n d A u H) : vx_Zq C n d A U H := ⟨va_Zq.moved hvm h.1, vx_L.moved hvm h.2⟩
theorem vx_Zq.kept {C n d : String} {A : Nat → Prop} {U : State} {H H1 : Heap} (h : vx_Zq C n d A U H) (hq : ∀ a : Nat, a < H.size → ¬ A a → H1[a]? = H[a]?) : vx_Zq C n d A U H1 := ⟨va_Zq.kept h.1 hq, vx_L.kept h.2 hq⟩
theorem vx_Zq.narrow {C n d : String} {A B : Nat → Prop} {U : State} {H : Heap} (h : vx_Zq C n d A U H) (hAB : ∀ q, B q → A q) : vx_Zq C n d B U H := ⟨va_Zq.narrow h.1 hAB, vx_L.narrow h.2 hAB⟩
theorem vx_Zqof {args : Array Value} {s : State} {C n d : String} {A : Nat → Prop} (hl : (Cond.laysStatic C n d).before args s = true) (hini : (Cond.initialized C).before args s = true) (h : (Cond.isRef (.static C n d)).before args s = true) (hA : ∀ a : Nat, a < s.heap.size → ¬ A a) : vx_Zq C n d A s s.heap := by
  refine ⟨va_Zqof hl hini h hA, ?_⟩
  obtain ⟨c, k, i, f, a, cell, h1, h2, h3, h4, h5, h6, h7, h8, h9⟩ := Cond.laysStatic_spec hl
  exact ⟨c, k, i, f, a, cell, h1, h2, h3, h4, h5, h6, h7, h8, h9, hA a (Array.getElem?_eq_some_iff.mp h5).1⟩
theorem vx_isRef {C n d : String} {v : Value} {A : Nat → Prop} {s : State} {args : Array Value} (h : va_Z C n d v A s s.heap) (hv : v.isRef = true) : (Cond.isRef (.static C n d)).before args s = true := by
  obtain ⟨cf, kf, fi, f, a, cell, h1, h2, h3, h4, h5, h6, h7, -⟩ := h
  have he : (Term.static C n d).eval args s none [] s = some v := by
    simp [Term.eval, State.fieldNamed?, h1, h2, h4, h5, h6, h7]
  simp only [Cond.before, Cond.holds, Cond.value, he]
  cases v <;> simp_all [Value.isRef]
theorem vx_isRefq {C n d : String} {A : Nat → Prop} {s : State} {args : Array Value} (h : va_Zq C n d A s s.heap) : (Cond.isRef (.static C n d)).before args s = true := by
  rcases h with h | ⟨t, h⟩
  · exact vx_isRef h rfl
  · exact vx_isRef h rfl
/-- the same frame, seen from here: as if the method were called anew in this heap -/
theorem vx_rebase {T : State} (X : Stand p l e R s m args below meth c T locs cells slots) {R' : Room} (hf : R'.frames ≤ R.frames) (hl : R'.locals ≤ R.locals) (hc : cells + R'.cells ≤ R.cells) (hs : slots + R'.slots ≤ R.slots) :
    Stand p l e R' ((T.setVm s.vm).setFrames (.invoking m args :: below)) m args below meth c T [] 0 0 := by
  have htop : (T.setVm s.vm).topJava?.isSome := X.here.top
  have hF : ((T.setVm s.vm).setFrames (.invoking m args :: below)).frames = .invoking m args :: below := State.frames_setFrames _ (State.cur_lt_of_top htop)
  obtain ⟨g₀, hg0⟩ := Option.isSome_iff_exists.mp htop
  obtain ⟨r, hr⟩ := State.topJava?_eq_some.mp hg0
  have hl9 : e.platform.stackLimits (T.setVm s.vm).me = e.platform.stackLimits s.me := X.limits
  have hb9 : (T.setVm s.vm).me.stackBytes = s.me.stackBytes := X.bytes
  refine ⟨X.admits, X.cas, X.clock, hF, ?_, X.hears, X.method, X.code, X.here, X.tail, X.warmed, ?_, ?_, ?_⟩
  · have h := X.room
    have hU : ((T.setVm s.vm).setFrames (.invoking m args :: below)).localsInUse = s.localsInUse := by
      rw [State.localsInUse_invoking hF (meth := meth) (c := c) X.method X.code, State.localsInUse_invoking X.frames X.method X.code]
    simp only [State.hasRoom, Bool.and_eq_true, decide_eq_true_eq] at h ⊢
    obtain ⟨⟨⟨⟨h1, h2, h3, h4, h5, h6⟩, h7⟩, h8⟩, h9⟩ := h
    rw [X.frames, List.length_cons] at h2 h3
    have q1 := X.heapSize
    have q2 := X.used
    simp only [hF, hU, List.length_cons, State.stackLimits_setFrames, State.stackBytes_setFrames, hl9, hb9]
    refine ⟨⟨⟨⟨by omega, by omega, by omega, by omega, by omega, h6⟩, ?_⟩, ?_⟩, X.book⟩
    · show T.heap.size + R'.cells ≤ e.platform.maxCells
      omega
    · show T.slotsUsed + R'.slots ≤ e.platform.maxSlots
      omega
  · rw [State.stackLimits_setFrames]; rfl
  · rw [State.stackBytes_setFrames]; rfl
  · refine ⟨?_, Nat.le_refl _, Nat.le_refl _, ?_, ?_, fun a c9 h9 => ⟨c9, h9, rfl, rfl, fun _ _ => rfl⟩⟩
    · obtain ⟨t, ht, -⟩ := State.frames_cons hr
      show T.setVm s.vm = { ((T.setVm s.vm).setFrames (.invoking m args :: below)).setFrames (T.setVm s.vm).frames with heap := T.heap, slotsUsed := T.slotsUsed }
      rw [State.setFrames_setFrames, State.setFrames_self ht]
      rfl
    · show T.slotsUsed = T.slotsUsed + ((T.heap.toList.drop T.heap.size).map (·.slots.size)).sum
      rw [List.drop_eq_nil_of_le (Nat.le_of_eq Array.length_toList)]
      rfl
    · show ((T.heap.toList.drop T.heap.size).map (·.slots.size)).sum ≤ 0
      rw [List.drop_eq_nil_of_le (Nat.le_of_eq Array.length_toList)]
      exact Nat.le_refl _
/-- 'throw new E()': new; dup; invokespecial; athrow -/
theorem vx_throw0 {cc : ByteArray} {pc : Nat} (hexec : p.tables.exec = Jvm.exec) (hb : c.code = cc) (hl : l.stackTraces = false) {own cls : String} {names : List String} {ik ic mc ms : Nat} {A : Nat → Prop}
    (hown : s.vm.findClass own = some m.cls) (hcls : Bundle.fit cls = true) (hnames : ∀ n ∈ names, Bundle.fit n = true)
    (hk : (Cond.classLink own ik cls).before args s = true) (hini : (Cond.initialized cls).before args s = true) (hat : ∀ w ∈ vx_at0 own ic cls names, w.before args s = true)
    (hgood : ∀ w ∈ Cond.classLink own ik cls :: Cond.initialized cls :: vx_at0 own ic cls names, vx_ot w = true)
    (hU : vx_Zq Bundle.tN "UNASSIGNED_STACK" Bundle.steD A s s.heap) (hN : vx_Zq Bundle.tN "SUPPRESSED_SENTINEL" Bundle.listD A s s.heap) (hS : va_S A s.heap H locs) (hsize : ls.size = c.maxLocals)
    (d0 : decode cc pc = .ok (.new ik, 3)) (d3 : decode cc (pc + 3) = .ok (.dup, 1)) (d4 : decode cc (pc + 4) = .ok (.invokespecial ic, 3)) (d7 : decode cc (pc + 7) = .ok (.athrow, 1))
    (hout : ∀ x ∈ c.exceptionTable.toList, covers x (pc + 7) = false)
    (hRframes : names.length + 3 < R.frames) (hRlocals : (rest.map fun v => v.category).sum + (13 * (names.length + 1) + 42) ≤ R.locals) (hRcells : cells + 1 ≤ R.cells) (hRslots : slots + 6 ≤ R.slots) (hlocks : meth.locks = false)
    (hx : ∀ t : State, s.vm.Alike t.vm → H.size ≤ t.heap.size → (∀ q : Nat, q < H.size → t.heap[q]? = H[q]?) → XC cls s t)
    (hf : ∀ z ∈ locs, free z.base) (hc : cells + 1 ≤ mc) (hs : slots + 6 ≤ ms) :
    W p l e R s m args below meth c H locs cells slots (vx_MQ below Qc XC args s mc ms free) (F0 m pc ls rest) := by
  intro T hT X
  have htr : e.platform.stackTraces = false := (show e.platform.stackTraces = l.stackTraces by rw [X.admits.platform]).trans hl
  have Y := vx_rebase X (R' := { frames := R.frames, locals := R.locals, cells := 1, slots := 6 }) (Nat.le_refl _) (Nat.le_refl _) hRcells hRslots
  obtain ⟨s', hA⟩ : ∃ z, z = (T.setVm s.vm).setFrames (.invoking m args :: below) := ⟨_, rfl⟩
  rw [← hA] at Y
  have hvm : s'.vm = s.vm := by rw [hA]; rfl
  have hhp : s'.heap = H := by rw [hA]; exact hT
  have hW0 : s.WarmedH s'.vm := by rw [hvm]; exact State.WarmedH.refl s
  have hat' : ∀ w ∈ vx_at0 own ic cls names, w.before args s' = true := fun w hw => vx_ot_at hW0 hvm.symm (hgood w (List.mem_cons_of_mem _ (List.mem_cons_of_mem _ hw))) (hat w hw)
  have hk' : (Cond.classLink own ik cls).before args s' = true := vx_ot_at hW0 hvm.symm (hgood _ List.mem_cons_self) hk
  have hini' : (Cond.initialized cls).before args s' = true := vx_ot_at hW0 hvm.symm (hgood _ (List.mem_cons_of_mem _ List.mem_cons_self)) hini
  have hU' : vx_Zq Bundle.tN "UNASSIGNED_STACK" Bundle.steD A s' s'.heap := by rw [hhp]; exact vx_Zq.moved hW0.alike (hU.kept hS.2.1)
  have hN' : vx_Zq Bundle.tN "SUPPRESSED_SENTINEL" Bundle.listD A s' s'.heap := by rw [hhp]; exact vx_Zq.moved hW0.alike (hN.kept hS.2.1)
  have h : ∀ w ∈ Bundle.ownAtoms0 own ic cls names, w.before args s' = true := vx_own hat' (vx_isRefq hU'.1) (vx_isRefq hN'.1) hU'.2.word hN'.2.word
  have hown' : s'.vm.findClass own = some m.cls := by rw [hvm]; exact hown
  have hins : (Cond.instantiable cls 6).before args s' = true := h _ (by simp [Bundle.ownAtoms0])
  obtain ⟨vm₁, cX, kX, hfX, hkX, -, -, X₁, st1⟩ := Y.newCold hexec (own := own) (C := cls) (index := ik) (n := 6) hown' hk' hins hini'
    (g := F0 m pc ls rest) rfl (by rw [hb]; exact d0) (Nat.le_refl _) (Nat.le_refl _)
  generalize hT1 : (T.setVm vm₁).pushCell { cls := cX, slots := kX.instanceTypes.map defaultValue, vm := .none } = T1 at X₁ st1
  have hcat : (Value.ref T.heap.size).category = 1 := rfl
  have hcellA : T1.heap[T.heap.size]? = some (freshCell cX kX) := by rw [← hT1]; exact State.heap_pushCell_size _ _
  have d3' : decode c.code (pc + 3) = .ok (.dup, 1) := by rw [hb]; exact d3
  obtain ⟨U, hsteps, hrun, hend, hW, hsame, ce, hce, hO⟩ := X₁.ctorThrow0 hexec htr (own := own) (cls := cls) (names := names) (ic := ic) hown' hcls hnames h (fun x hx => nomatch hx) hfX hkX hcellA (by rw [hhp, hT]; exact Nat.le_refl _)
    (g := { method := m, pc := pc + 4, locals := ls, stack := .ref T.heap.size :: .ref T.heap.size :: rest, locked := none }) rfl hsize rfl rfl (rest := rest) rfl
    (by rw [hb]; exact d4) (by rw [hb]; exact d7) hout hRframes (by simp only [List.map_cons, List.sum_cons, hcat]; omega) hlocks
  obtain ⟨f1, f2⟩ := vx_frame hsame
  rw [hhp] at f1 f2
  have hWs : s.WarmedH U.vm := State.WarmedH.trans hW0 hW
  have hcl : s.vm.findClass cls = some ce.cls := by
    have h9 := hO.cls
    rw [hvm] at h9
    exact h9
  have hall : s.sameButNew ({ U with vm := s.vm } : State) locs mc ms := by
    subst hA
    obtain ⟨e1, e2⟩ := hsame
    rw [State.setFrames_setFrames] at e1
    have h2 : (T.setVm s.vm).sameButNew ({ U with vm := s.vm } : State) [] (0 + 1) (0 + 6) := ⟨e1, e2⟩
    have h3 := X.same.trans h2
    rw [List.append_nil] at h3
    exact h3.mono hc hs
  refine ⟨U, ?_, .threw T.heap.size, hrun, hend, Or.inr ⟨T.heap.size, rfl, cls, ce, locs, hx U hWs.alike f1 (fun q hq => f2 q hq (fun z hz => nomatch hz)), hce, hO.vm, hcl, hWs, hall, hf⟩⟩
  refine st1 _ ?_
  show Steps p.tables e below (T1.setTop { method := m, pc := pc + 3, locals := ls, stack := .ref T.heap.size :: rest, locked := none }) _
  jvm_step X₁.here [X₁.here.top, hexec, d3', Value.category]
  exact hsteps
/-- 'throw new E("text")': new; dup; ldc; invokespecial; athrow -/
theorem vx_throwS {cc : ByteArray} {pc : Nat} (hexec : p.tables.exec = Jvm.exec) (hb : c.code = cc) (hl : l.stackTraces = false) {own cls text : String} {names : List String} {ik is ic mc ms sa : Nat} {A : Nat → Prop}
    (hown : s.vm.findClass own = some m.cls) (hcls : Bundle.fit cls = true) (hnames : ∀ n ∈ names, Bundle.fit n = true)
    (hk : (Cond.classLink own ik cls).before args s = true) (hini : (Cond.initialized cls).before args s = true) (hstr : vk_R own is text sa s) (hat : ∀ w ∈ vx_atS own ic cls names, w.before args s = true)
    (hgood : ∀ w ∈ Cond.classLink own ik cls :: Cond.initialized cls :: vx_atS own ic cls names, vx_ot w = true)
    (hU : vx_Zq Bundle.tN "UNASSIGNED_STACK" Bundle.steD A s s.heap) (hN : vx_Zq Bundle.tN "SUPPRESSED_SENTINEL" Bundle.listD A s s.heap) (hS : va_S A s.heap H locs) (hsize : ls.size = c.maxLocals)
    (d0 : decode cc pc = .ok (.new ik, 3)) (d3 : decode cc (pc + 3) = .ok (.dup, 1)) (d4 : decode cc (pc + 4) = .ok (.ldc is, 2)) (d6 : decode cc (pc + 6) = .ok (.invokespecial ic, 3)) (d9 : decode cc (pc + 9) = .ok (.athrow, 1))
    (hout : ∀ x ∈ c.exceptionTable.toList, covers x (pc + 9) = false)
    (hRframes : names.length + 3 < R.frames) (hRlocals : (rest.map fun v => v.category).sum + (13 * (names.length + 1) + 43) ≤ R.locals) (hRcells : cells + 1 ≤ R.cells) (hRslots : slots + 6 ≤ R.slots) (hlocks : meth.locks = false)
    (hx : ∀ t : State, s.vm.Alike t.vm → H.size ≤ t.heap.size → (∀ q : Nat, q < H.size → t.heap[q]? = H[q]?) → XC cls s t)
    (hf : ∀ z ∈ locs, free z.base) (hc : cells + 1 ≤ mc) (hs : slots + 6 ≤ ms) :
    W p l e R s m args below meth c H locs cells slots (vx_MQ below Qc XC args s mc ms free) (F0 m pc ls rest) := by
  intro T hT X
  have htr : e.platform.stackTraces = false := (show e.platform.stackTraces = l.stackTraces by rw [X.admits.platform]).trans hl
  have Y := vx_rebase X (R' := { frames := R.frames, locals := R.locals, cells := 1, slots := 6 }) (Nat.le_refl _) (Nat.le_refl _) hRcells hRslots
  obtain ⟨s', hA⟩ : ∃ z, z = (T.setVm s.vm).setFrames (.invoking m args :: below) := ⟨_, rfl⟩
  rw [← hA] at Y
  have hvm : s'.vm = s.vm := by rw [hA]; rfl
  have hhp : s'.heap = H := by rw [hA]; exact hT
  have hW0 : s.WarmedH s'.vm := by rw [hvm]; exact State.WarmedH.refl s
  have hat' : ∀ w ∈ vx_atS own ic cls names, w.before args s' = true := fun w hw => vx_ot_at hW0 hvm.symm (hgood w (List.mem_cons_of_mem _ (List.mem_cons_of_mem _ hw))) (hat w hw)
  have hk' : (Cond.classLink own ik cls).before args s' = true := vx_ot_at hW0 hvm.symm (hgood _ List.mem_cons_self) hk
  have hini' : (Cond.initialized cls).before args s' = true := vx_ot_at hW0 hvm.symm (hgood _ (List.mem_cons_of_mem _ List.mem_cons_self)) hini
  have hU' : vx_Zq Bundle.tN "UNASSIGNED_STACK" Bundle.steD A s' s'.heap := by rw [hhp]; exact vx_Zq.moved hW0.alike (hU.kept hS.2.1)
  have hN' : vx_Zq Bundle.tN "SUPPRESSED_SENTINEL" Bundle.listD A s' s'.heap := by rw [hhp]; exact vx_Zq.moved hW0.alike (hN.kept hS.2.1)
  have h : ∀ w ∈ Bundle.ownAtoms own ic cls names, w.before args s' = true := vx_own hat' (vx_isRefq hU'.1) (vx_isRefq hN'.1) hU'.2.word hN'.2.word
  have hown' : s'.vm.findClass own = some m.cls := by rw [hvm]; exact hown
  have hins : (Cond.instantiable cls 6).before args s' = true := h _ (by simp [Bundle.ownAtoms])
  obtain ⟨vm₁, cX, kX, hfX, hkX, -, -, X₁, st1⟩ := Y.newCold hexec (own := own) (C := cls) (index := ik) (n := 6) hown' hk' hins hini'
    (g := F0 m pc ls rest) rfl (by rw [hb]; exact d0) (Nat.le_refl _) (Nat.le_refl _)
  generalize hT1 : (T.setVm vm₁).pushCell { cls := cX, slots := kX.instanceTypes.map defaultValue, vm := .none } = T1 at X₁ st1
  have hcat : (Value.ref T.heap.size).category = 1 := rfl
  have hcellA : T1.heap[T.heap.size]? = some (freshCell cX kX) := by rw [← hT1]; exact State.heap_pushCell_size _ _
  have d3' : decode c.code (pc + 3) = .ok (.dup, 1) := by rw [hb]; exact d3
  have d4' : decode c.code (pc + 4) = .ok (.ldc is, 2) := by rw [hb]; exact d4
  have hstr' : vk_R own is text sa s' := vk_R.warm hW0 hstr
  obtain ⟨U, hsteps, hrun, hend, hW, hsame, ce, hce, hO⟩ := X₁.ctorThrowS hexec htr (own := own) (cls := cls) (names := names) (ic := ic) hown' hcls hnames h (fun x hx => nomatch hx) hfX hkX hcellA (by rw [hhp, hT]; exact Nat.le_refl _) (msg := .ref sa) rfl
    (g := { method := m, pc := pc + 6, locals := ls, stack := .ref sa :: .ref T.heap.size :: .ref T.heap.size :: rest, locked := none }) rfl hsize rfl rfl (rest := rest) rfl
    (by rw [hb]; exact d6) (by rw [hb]; exact d9) hout hRframes (by simp only [List.map_cons, List.sum_cons, hcat]; omega) hlocks
  obtain ⟨f1, f2⟩ := vx_frame hsame
  rw [hhp] at f1 f2
  have hWs : s.WarmedH U.vm := State.WarmedH.trans hW0 hW
  have hcl : s.vm.findClass cls = some ce.cls := by
    have h9 := hO.cls
    rw [hvm] at h9
    exact h9
  have hall : s.sameButNew ({ U with vm := s.vm } : State) locs mc ms := by
    subst hA
    obtain ⟨e1, e2⟩ := hsame
    rw [State.setFrames_setFrames] at e1
    have h2 : (T.setVm s.vm).sameButNew ({ U with vm := s.vm } : State) [] (0 + 1) (0 + 6) := ⟨e1, e2⟩
    have h3 := X.same.trans h2
    rw [List.append_nil] at h3
    exact h3.mono hc hs
  refine ⟨U, ?_, .threw T.heap.size, hrun, hend, Or.inr ⟨T.heap.size, rfl, cls, ce, locs, hx U hWs.alike f1 (fun q hq => f2 q hq (fun z hz => nomatch hz)), hce, hO.vm, hcl, hWs, hall, hf⟩⟩
  refine st1 _ ?_
  show Steps p.tables e below (T1.setTop { method := m, pc := pc + 3, locals := ls, stack := .ref T.heap.size :: rest, locked := none }) _
  jvm_step X₁.here [X₁.here.top, hexec, d3', Value.category]
  exact X₁.ldcString hexec (own := own) (text := text) (index := is) (a := sa) hown' hstr'.1 hstr'.2
    (g := { method := m, pc := pc + 4, locals := ls, stack := .ref T.heap.size :: .ref T.heap.size :: rest, locked := none }) rfl d4' _ hsteps
/-- 'throw new E("text")', the text by a wide index -/
theorem vx_throwSW {cc : ByteArray} {pc : Nat} (hexec : p.tables.exec = Jvm.exec) (hb : c.code = cc) (hl : l.stackTraces = false) {own cls text : String} {names : List String} {ik is ic mc ms sa : Nat} {A : Nat → Prop}
    (hown : s.vm.findClass own = some m.cls) (hcls : Bundle.fit cls = true) (hnames : ∀ n ∈ names, Bundle.fit n = true)
    (hk : (Cond.classLink own ik cls).before args s = true) (hini : (Cond.initialized cls).before args s = true) (hstr : vk_R own is text sa s) (hat : ∀ w ∈ vx_atS own ic cls names, w.before args s = true)
    (hgood : ∀ w ∈ Cond.classLink own ik cls :: Cond.initialized cls :: vx_atS own ic cls names, vx_ot w = true)
    (hU : vx_Zq Bundle.tN "UNASSIGNED_STACK" Bundle.steD A s s.heap) (hN : vx_Zq Bundle.tN "SUPPRESSED_SENTINEL" Bundle.listD A s s.heap) (hS : va_S A s.heap H locs) (hsize : ls.size = c.maxLocals)
    (d0 : decode cc pc = .ok (.new ik, 3)) (d3 : decode cc (pc + 3) = .ok (.dup, 1)) (d4 : decode cc (pc + 4) = .ok (.ldc_w is, 3)) (d7 : decode cc (pc + 7) = .ok (.invokespecial ic, 3)) (d10 : decode cc (pc + 10) = .ok (.athrow, 1))
    (hout : ∀ x ∈ c.exceptionTable.toList, covers x (pc + 10) = false)
    (hRframes : names.length + 3 < R.frames) (hRlocals : (rest.map fun v => v.category).sum + (13 * (names.length + 1) + 43) ≤ R.locals) (hRcells : cells + 1 ≤ R.cells) (hRslots : slots + 6 ≤ R.slots) (hlocks : meth.locks = false)
    (hx : ∀ t : State, s.vm.Alike t.vm → H.size ≤ t.heap.size → (∀ q : Nat, q < H.size → t.heap[q]? = H[q]?) → XC cls s t)
    (hf : ∀ z ∈ locs, free z.base) (hc : cells + 1 ≤ mc) (hs : slots + 6 ≤ ms) :
    W p l e R s m args below meth c H locs cells slots (vx_MQ below Qc XC args s mc ms free) (F0 m pc ls rest) := by
  intro T hT X
  have htr : e.platform.stackTraces = false := (show e.platform.stackTraces = l.stackTraces by rw [X.admits.platform]).trans hl
  have Y := vx_rebase X (R' := { frames := R.frames, locals := R.locals, cells := 1, slots := 6 }) (Nat.le_refl _) (Nat.le_refl _) hRcells hRslots
  obtain ⟨s', hA⟩ : ∃ z, z = (T.setVm s.vm).setFrames (.invoking m args :: below) := ⟨_, rfl⟩
  rw [← hA] at Y
  have hvm : s'.vm = s.vm := by rw [hA]; rfl
  have hhp : s'.heap = H := by rw [hA]; exact hT
  have hW0 : s.WarmedH s'.vm := by rw [hvm]; exact State.WarmedH.refl s
  have hat' : ∀ w ∈ vx_atS own ic cls names, w.before args s' = true := fun w hw => vx_ot_at hW0 hvm.symm (hgood w (List.mem_cons_of_mem _ (List.mem_cons_of_mem _ hw))) (hat w hw)
  have hk' : (Cond.classLink own ik cls).before args s' = true := vx_ot_at hW0 hvm.symm (hgood _ List.mem_cons_self) hk
  have hini' : (Cond.initialized cls).before args s' = true := vx_ot_at hW0 hvm.symm (hgood _ (List.mem_cons_of_mem _ List.mem_cons_self)) hini
  have hU' : vx_Zq Bundle.tN "UNASSIGNED_STACK" Bundle.steD A s' s'.heap := by rw [hhp]; exact vx_Zq.moved hW0.alike (hU.kept hS.2.1)
  have hN' : vx_Zq Bundle.tN "SUPPRESSED_SENTINEL" Bundle.listD A s' s'.heap := by rw [hhp]; exact vx_Zq.moved hW0.alike (hN.kept hS.2.1)
  have h : ∀ w ∈ Bundle.ownAtoms own ic cls names, w.before args s' = true := vx_own hat' (vx_isRefq hU'.1) (vx_isRefq hN'.1) hU'.2.word hN'.2.word
  have hown' : s'.vm.findClass own = some m.cls := by rw [hvm]; exact hown
  have hins : (Cond.instantiable cls 6).before args s' = true := h _ (by simp [Bundle.ownAtoms])
  obtain ⟨vm₁, cX, kX, hfX, hkX, -, -, X₁, st1⟩ := Y.newCold hexec (own := own) (C := cls) (index := ik) (n := 6) hown' hk' hins hini'
    (g := F0 m pc ls rest) rfl (by rw [hb]; exact d0) (Nat.le_refl _) (Nat.le_refl _)
  generalize hT1 : (T.setVm vm₁).pushCell { cls := cX, slots := kX.instanceTypes.map defaultValue, vm := .none } = T1 at X₁ st1
  have hcat : (Value.ref T.heap.size).category = 1 := rfl
  have hcellA : T1.heap[T.heap.size]? = some (freshCell cX kX) := by rw [← hT1]; exact State.heap_pushCell_size _ _
  have d3' : decode c.code (pc + 3) = .ok (.dup, 1) := by rw [hb]; exact d3
  have d4' : decode c.code (pc + 4) = .ok (.ldc_w is, 3) := by rw [hb]; exact d4
  have hstr' : vk_R own is text sa s' := vk_R.warm hW0 hstr
  obtain ⟨U, hsteps, hrun, hend, hW, hsame, ce, hce, hO⟩ := X₁.ctorThrowS hexec htr (own := own) (cls := cls) (names := names) (ic := ic) hown' hcls hnames h (fun x hx => nomatch hx) hfX hkX hcellA (by rw [hhp, hT]; exact Nat.le_refl _) (msg := .ref sa) rfl
    (g := { method := m, pc := pc + 7, locals := ls, stack := .ref sa :: .ref T.heap.size :: .ref T.heap.size :: rest, locked := none }) rfl hsize rfl rfl (rest := rest) rfl
    (by rw [hb]; exact d7) (by rw [hb]; exact d10) hout hRframes (by simp only [List.map_cons, List.sum_cons, hcat]; omega) hlocks
  obtain ⟨f1, f2⟩ := vx_frame hsame
  rw [hhp] at f1 f2
  have hWs : s.WarmedH U.vm := State.WarmedH.trans hW0 hW
  have hcl : s.vm.findClass cls = some ce.cls := by
    have h9 := hO.cls
    rw [hvm] at h9
    exact h9
  have hall : s.sameButNew ({ U with vm := s.vm } : State) locs mc ms := by
    subst hA
    obtain ⟨e1, e2⟩ := hsame
    rw [State.setFrames_setFrames] at e1
    have h2 : (T.setVm s.vm).sameButNew ({ U with vm := s.vm } : State) [] (0 + 1) (0 + 6) := ⟨e1, e2⟩
    have h3 := X.same.trans h2
    rw [List.append_nil] at h3
    exact h3.mono hc hs
  refine ⟨U, ?_, .threw T.heap.size, hrun, hend, Or.inr ⟨T.heap.size, rfl, cls, ce, locs, hx U hWs.alike f1 (fun q hq => f2 q hq (fun z hz => nomatch hz)), hce, hO.vm, hcl, hWs, hall, hf⟩⟩
  refine st1 _ ?_
  show Steps p.tables e below (T1.setTop { method := m, pc := pc + 3, locals := ls, stack := .ref T.heap.size :: rest, locked := none }) _
  jvm_step X₁.here [X₁.here.top, hexec, d3', Value.category]
  exact X₁.ldcStringW hexec (own := own) (text := text) (index := is) (a := sa) hown' hstr'.1 hstr'.2
    (g := { method := m, pc := pc + 4, locals := ls, stack := .ref T.heap.size :: .ref T.heap.size :: rest, locked := none }) rfl d4' _ hsteps
end Ends
section Bodies
variable {l : Launch}
theorem vx_ofW {y : MethodName} {ws ws' : List Cond} {rm : Room} {Pc : Array Value → State → Prop} {Qc : Array Value → State → Outcome → State → Prop} {XC : String → State → State → Prop} {mc ms : Nat} {free : Addr → Prop} {cc : ByteArray} {maxL : Nat} {ret : Option FieldType}
    (hy : plainName y.cls = true) (hw : ws = Cond.code y cc maxL ret :: ws')
    (body : ∀ p e s m args below meth c s₁, BodyLoose p l y (headSpec ws rm) cc maxL ret e s m args below meth c s₁ → c.maxLocals = maxL → (∀ x ∈ c.exceptionTable.toList, False) → Pc args s →
      W p l e (headSpec ws rm).room s m args below meth c s.heap [] 0 0 (vx_MQ below Qc XC args s mc ms free) (entryFrame m args maxL)) : vx_Met l y ws rm Pc Qc XC mc ms free := by
  refine MetFree.of_bodyS (code := cc) (maxLocals := maxL) (ret := ret) hy ?_ ?_
  · intro args s m h hn
    obtain ⟨meth, c, h1, h2, h3, h4, h5, h6, -, -⟩ := Cond.code_spec hn (atoms_spec (ws := ws) h _ (by rw [hw]; exact List.mem_cons_self))
    exact ⟨meth, c, h1, h2, h3, h4, h5, h6⟩
  · intro p e s m args below meth c s₁ B hml hP _
    have hh0 : s₁.heap = s.heap := by rw [B.state]; rfl
    have ht : ∀ x ∈ c.exceptionTable.toList, False := by
      obtain ⟨meth9, c9, h1, h2, -, -, -, -, h7, -⟩ := Cond.code_spec B.named (atoms_spec (ws := ws) B.pre _ (by rw [hw]; exact List.mem_cons_self))
      cases Option.some.inj (h1.symm.trans B.method)
      cases Option.some.inj (h2.symm.trans (Stand.of_body B).code)
      intro x hx
      rw [Array.isEmpty_iff.mp h7] at hx
      cases hx
    obtain ⟨t, a1, o, b1, b2, b3⟩ := body p e s m args below meth c s₁ B hml ht hP s₁ hh0 (Stand.of_body B)
    exact ⟨t, o, a1, b1, b2, b3⟩
/-- the table of a body with handlers -/
theorem vx_table {p : Program} {x y : MethodName} {S : Spec} {cc bytes : ByteArray} {maxL maxL' : Nat} {ret ret' : Option FieldType} {e : Env} {s s₁ : State} {m : MethodId} {args : Array Value} {below : List Frame} {meth : Method} {c : Code} {hh : List (Nat × Nat × Nat × Nat)}
    (B : BodyLoose p l y S cc maxL ret e s m args below meth c s₁) (h : (Cond.codeWith y bytes maxL' ret' hh).before args s = true) : c.exceptionTable.toList = tableOf hh := by
  obtain ⟨m9, meth9, c9, hn9, h1, h2, -, -, h6, -⟩ := Cond.codeWith_spec h
  cases Option.some.inj (hn9.symm.trans B.named)
  cases Option.some.inj (h1.symm.trans B.method)
  cases Option.some.inj (h2.symm.trans (Stand.of_body B).code)
  rw [← h6, table_eq]
end Bodies
end VXA
/-! ===== END ===== -/
/-! ===== BEGIN a static call of a method with an exception table ===== -/
section VXS
variable {p : Program} {l : Launch} {e : Env} {R : Room} {s : State} {m : MethodId} {args : Array Value} {below : List Frame} {meth : Method} {c : Code} {T : State} {H : Heap} {locs : List Loc} {cells slots : Nat}
abbrev vx_CSW (R : Room) (s : State) (args : Array Value) (own : String) (index : Nat) (y : MethodName) (bytes : ByteArray) (maxL : Nat) (ret : Option FieldType) (hh : List (Nat × Nat × Nat × Nat)) (ws : List Cond) (rm : Room) (mc ms n : Nat) : Prop :=
  (rm.cells = mc ∧ rm.slots = ms ∧ rm.frames + 1 ≤ R.frames ∧ 8 + (maxL + 11) + rm.locals ≤ R.locals ∧ (∀ w ∈ ws, ∀ (a' : Array Value) (U : State), s.WarmedH U.vm → w.before a' U = true) ∧ Cond.codeWith y bytes maxL ret hh ∈ ws) ∧
  (Cond.codeWith y bytes maxL ret hh).before args s = true ∧ (Cond.initialized y.cls).before args s = true ∧ (y.cls ≠ "java/lang/invoke/MethodHandle" ∧ y.cls ≠ "java/lang/invoke/VarHandle") ∧
  (∀ sig, parseMethodDescriptor y.desc = some sig → n = sig.parameters.length) ∧ (Cond.methodLink own index y).before args s = true ∧ (Cond.static y).before args s = true
theorem vx_cwSW {own : String} {index maxL mc ms : Nat} {y : MethodName} {bytes : ByteArray} {ret : Option FieldType} {hh : List (Nat × Nat × Nat × Nat)} {Ts ws ws' : List Cond} {rm : Room} (n : Nat) (ht : ∀ w ∈ Ts, w.before args s = true) (hT : GoodIn Ts (va_wsS own index y ws)) (hw : ws = Cond.codeWith y bytes maxL ret hh :: ws') (hrc : rm.cells = mc) (hrs : rm.slots = ms)
    (hd : y.cls ≠ "java/lang/invoke/MethodHandle" ∧ y.cls ≠ "java/lang/invoke/VarHandle" ∧ (parseMethodDescriptor y.desc).map (fun d => d.parameters.length) = some n) (hR : rm.frames + 1 ≤ R.frames ∧ 8 + (maxL + 11) + rm.locals ≤ R.locals) :
    vx_CSW R s args own index y bytes maxL ret hh ws rm mc ms n := by
  have ok : ∀ w ∈ va_wsS own index y ws, w.before args s = true := fun w h => ht w (hT w h).1
  have hG : GoodIn Ts ws := fun w h => hT w (by unfold va_wsS; exact List.mem_append_right _ h)
  have hc : Cond.codeWith y bytes maxL ret hh ∈ ws := by rw [hw]; exact List.mem_cons_self
  refine ⟨⟨hrc, hrs, hR.1, hR.2, pay_in ht hG, hc⟩, ht _ (hG _ hc).1, ok _ (by simp [va_wsS]), ⟨hd.1, hd.2.1⟩, fun sig h => ?_, ok _ (by simp [va_wsS]), ok _ (by simp [va_wsS])⟩
  have h2 := hd.2.2
  rw [h] at h2
  exact (Option.some.inj h2).symm
theorem vx_callSW (X : Stand p l e R s m args below meth c T locs cells slots) (hexec : p.tables.exec = Jvm.exec) {own : String} {index : Nat} {y : MethodName} {bytes : ByteArray} {maxL : Nat} {ret : Option FieldType} {hh : List (Nat × Nat × Nat × Nat)}
    (hown : s.vm.findClass own = some m.cls) (hlink : (Cond.methodLink own index y).before args s = true) (hstat : (Cond.static y).before args s = true) (hinit : (Cond.initialized y.cls).before args s = true)
    (hcode : (Cond.codeWith y bytes maxL ret hh).before args s = true) (hy : y.cls ≠ "java/lang/invoke/MethodHandle" ∧ y.cls ≠ "java/lang/invoke/VarHandle")
    {W9 : Nat} {Pre : Pt → Array Value → Prop} {Post : Pt → Array Value → Option Value → Pt → Prop} (hK : Back l R p e below s args y 3 W9 Pre Post)
    {g : JFrame} (hg : g.method = m) (hsize : g.locals.size = c.maxLocals) {argsL rest : List Value} (hlen : ∀ sig, parseMethodDescriptor y.desc = some sig → argsL.length = sig.parameters.length)
    (hstack : g.stack = argsL.reverse ++ rest) (hW : 2 * g.monitorRoom + (rest.map fun v => v.category).sum ≤ W9) (hdg : decode c.code g.pc = .ok (.invokestatic index, 3))
    (hpre : ∀ vm₁, s.WarmedH vm₁ → Pre ⟨T.setVm vm₁, locs, cells, slots⟩ argsL.toArray) :
    ∃ (v : Option Value) (vm₁ : Vm) (B : Pt), s.WarmedH vm₁ ∧ Stand p l e R s m args below meth c B.U B.locs B.cells B.slots ∧ Post ⟨T.setVm vm₁, locs, cells, slots⟩ argsL.toArray v B ∧
      ∀ target, Steps p.tables e below (B.U.setTop { g with pc := g.pc + 3, stack := v.toList ++ rest }) target → Steps p.tables e below (T.setTop g) target := by
  obtain ⟨mk, methM, cM, hnamed, hmethM, -, -, -, -, -, -, hsigM⟩ := Cond.codeWith_spec hcode
  have hstatic : methM.isStatic = true := Cond.static_spec hnamed hmethM hstat
  obtain ⟨kP, hkP, -⟩ := className_of_methodNamed hnamed
  have hinitP : kP.init = .initialized := Cond.initialized_spec (findClass_of_methodNamed hnamed) hkP hinit
  obtain ⟨vm₁, X₁, hstep₁⟩ := X.invokestatic hexec hown hlink hnamed hmethM hstatic hkP hinitP hy (g := g) hg (argsL := argsL) (rest := rest) (hlen _ hsigM) hstack hdg
  obtain ⟨v, B, X', hpost, hsteps⟩ := hK m meth c ⟨T.setVm vm₁, locs, cells, slots⟩ { g with stack := rest } (.invokestatic index) mk argsL.toArray X₁ hg hsize hdg hW (X₁.named hnamed) (hpre vm₁ X₁.warmed)
  exact ⟨v, vm₁, B, X₁.warmed, X', hpost, fun target h => hstep₁ _ fun acts => by rw [doInvoke_state]; exact hsteps.trans h⟩
theorem vx_runSW {y : MethodName} {bytes cc : ByteArray} {maxL nL mc ms n index : Nat} {ret : Option FieldType} {hh : List (Nat × Nat × Nat × Nat)} {ws : List Cond} {rm : Room} {Pc : Array Value → State → Prop} {Qc : Array Value → State → Outcome → State → Prop} {free : Addr → Prop} {Ts : List Cond} {own : String} {As rest : List Value} {g : JFrame}
    (S : CallFix p m c cc nL s args Ts own) (hM : Met l y ws rm Pc Qc mc ms free) (cw : vx_CSW R s args own index y bytes maxL ret hh ws rm mc ms n) (hp : PreS s H Pc As)
    (hg : g.method = m) (hn : As.length = n) (hsize : g.locals.size = nL) (hstack : g.stack = As.reverse ++ rest) (hW : 2 * g.monitorRoom + (rest.map fun v => v.category).sum ≤ 8) (hdg : decode cc g.pc = .ok (.invokestatic index, 3)) (hf : cells + mc ≤ R.cells ∧ slots + ms ≤ R.slots) :
    va_Run p l e R s m args below meth c H locs cells slots mc ms g rest (Qc As.toArray) (free) := by
  obtain ⟨⟨hrc, hrs, hfr, hlo, hws, hcw⟩, hcode, hini, hy, hlen, hl, hstt⟩ := cw
  have hK : Back l R p e below s args y 3 8 (PreOf R mc ms Pc) (PostOf Qc mc ms free) := va_backW (hh := hh) (bytes := bytes) (maxL := maxL) (ret := ret) hM hp.1 hrc hrs hfr hlo hws hcw (fun a' U hW => word_at hW (Or.inl (by first | rfl | simp [Cond.onTables, Cond.keeps, Cond.steady])) hini)
  obtain ⟨hx, hb, hml, ho, -⟩ := S
  intro T hT X
  obtain ⟨v, vm₁, ⟨U', l2, c2, s2⟩, hW₁, X', ⟨g', mk, t, L, e1, e2, hq, h1, hL, h2, h3⟩, st⟩ := vx_callSW X hx (hh := hh) (bytes := bytes) (maxL := maxL) (ret := ret) ho hl hstt hini hcode hy hK hg (hsize.trans hml.symm) (argsL := As) (rest := rest) (fun sig h => hn.trans (hlen sig h)) hstack hW (by rw [hb]; exact hdg)
    (fun vm₁ hW₁ => ⟨hf.1, hf.2, hp.2 (T.setVm vm₁) hT hW₁⟩)
  dsimp only [Pt.U, Pt.locs, Pt.cells, Pt.slots] at X' e1 e2 h1 h2 h3 st
  subst h1; subst h2; subst h3
  exact ⟨v, (T.setVm vm₁).calling g' mk As.toArray, t, U', L, hT, X', hL, e1, e2, hq, st⟩
/-- not caught here, past rows that name other classes: it goes on to the caller -/
theorem vx_outP {p : Program} {l : Launch} {e : Env} {R : Room} {s : State} {m : MethodId} {args : Array Value} {below : List Frame} {meth : Method} {c : Code} {H : Heap} {locs : List Loc} {cells slots : Nat} {free : Addr → Prop} {ls : Array Slot} {rest : List Value} {Qc : Array Value → State → Outcome → State → Prop} {XC : String → State → State → Prop}
    {pc : Nat} {own E : String} {ce : Cell} {q : Addr} {mc ms : Nat} (hown : s.vm.findClass own = some m.cls) (hlocks : meth.locks = false)
    (hpass : ∀ z ∈ c.exceptionTable.toList, covers z pc = false ∨ (z.catchType ≠ 0 ∧ ∃ nm : String, (Cond.classLink own z.catchType nm).before args s = true ∧ va_Nc E nm s)) (hcell : H[q]? = some ce) (hv : ce.vm = .none) (hcl : s.vm.findClass E = some ce.cls)
    (hx : ∀ t : State, t.heap = H → s.vm.Alike t.vm → XC E s t) (hf : ∀ z ∈ locs, free z.base) (hc : cells ≤ mc) (hs : slots ≤ ms) :
    vx_W p l e R s m args below meth c H locs cells slots (vx_MQ below Qc XC args s mc ms free) (F0 m pc ls rest) q := by
  intro T hT X
  have hpl : e.platform.magicAccessors = ({} : Platform).magicAccessors := by rw [X.admits.platform]
  obtain ⟨vm', hW', X', st⟩ := X.outThrough hlocks q (g := F0 m pc ls rest) rfl rfl rfl (cell := ce) (by rw [hT]; exact hcell) (by rw [hv]; rfl)
    (by obtain ⟨k9, h9, -⟩ := Vm.findClass_spec hcl; exact ⟨k9, h9⟩) (fun z hz => by
      rcases hpass z hz with h | ⟨hz0, nm, hl1, hn1⟩
      · exact Or.inl h
      · obtain ⟨c6, hc6, hcl6⟩ := Cond.classLink_spec hown hl1 e.platform hpl
        obtain ⟨a8, b8, h1, h2, h3⟩ := hn1
        cases Option.some.inj (h1.symm.trans hcl)
        cases Option.some.inj (h2.symm.trans hc6)
        exact Or.inr ⟨hz0, _, hcl6, h3⟩)
  obtain ⟨g₀, hfr⟩ := X'.frames_eq
  have hcell9 : ((T.setVm vm').setFrames (.throwing q :: below)).heap[q]? = some ce := by
    show T.heap[q]? = some ce
    rw [hT]; exact hcell
  have hend : Ended ((T.setVm vm').setFrames (.throwing q :: below)) below (.threw q) := State.frames_setFrames _ (State.cur_lt_of_frames hfr)
  refine ⟨(T.setVm vm').setFrames (.throwing q :: below), ?_, .threw q, X'.here.running, hend, Or.inr ⟨q, rfl, E, ce, locs, hx _ hT (X'.ends _).1.alike, hcell9, hv, hcl, (X'.ends _).1, (X'.ends _).2.mono hc hs, hf⟩⟩
  rw [X.pushThrowing_eq]
  exact st
/-- a thing of a world lies in the heap -/
theorem vx_lt {D : va_G} {cl : List vw_C} {ws : va_W} {H1 : Heap} (h : va_P D cl ws H1) {k : Nat} {q : Nat × va_E} (hk : ws[k]? = some q) : q.1 < H1.size := (h k q hk).lt
end VXS
/-! ===== END ===== -/
/-! ===== BEGIN methods with a table of their own: called by a name, returning or throwing ===== -/
section VXH
/-! vx_backW, vx_callVX, vx_callSX, vx_callVW, vx_runVW, vx_runVX, vx_runSX, vx_ofWH follow the same proofs as their sisters above (Free/Laws.lean, Shelf42/LK1.lean); vx_outP calls Shelf42/NT130.lean (outThrough). -/
section
variable {l : Launch} {R : Room} {p : Program} {e : Env} {below : List Frame} {s : State} {sargs : Array Value} {y : MethodName} {len W9 : Nat}
theorem vx_backW {ws : List Cond} {rm : Room} {Pc : Array Value → State → Prop} {Qc : Array Value → State → Outcome → State → Prop} {XC : String → State → State → Prop} {mc ms : Nat} {free : Addr → Prop} {bytes : ByteArray} {maxL : Nat} {ret : Option FieldType} {hh : List (Nat × Nat × Nat × Nat)}
    (hM : vx_Met l y ws rm Pc Qc XC mc ms free) (hblind : FrameBlind Pc) (hrc : rm.cells = mc) (hrs : rm.slots = ms)
    (hframes : rm.frames + 1 ≤ R.frames) (hlocals : W9 + (maxL + 11) + rm.locals ≤ R.locals)
    (hws : ∀ w ∈ ws, ∀ a' U, s.WarmedH U.vm → w.before a' U = true) (hcode : Cond.codeWith y bytes maxL ret hh ∈ ws) (hinit : ∀ a' U, s.WarmedH U.vm → (Cond.initialized y.cls).before a' U = true) :
    vx_Back l R p e below s sargs y len W9 (PreOf R mc ms Pc) (PostOf Qc mc ms free) (vx_Post XC mc ms free) := by
  intro m meth c A g ig mk a X hg hsize hdg hW hn hp
  have h1 : (headSpec ws rm).pre.before a A.U = true := atoms_intro fun w hw => hws w hw _ _ X.warmed
  have h2 : (Cond.codeWith y bytes maxL ret hh).before a A.U = true := hws _ hcode _ _ X.warmed
  have h3 : (Cond.initialized y.cls).before a A.U = true := hinit _ _ X.warmed
  have h4 : A.cells + (headSpec ws rm).room.cells ≤ R.cells := by rw [show (headSpec ws rm).room.cells = mc from hrc]; exact hp.1
  have h5 : A.slots + (headSpec ws rm).room.slots ≤ R.slots := by rw [show (headSpec ws rm).room.slots = ms from hrs]; exact hp.2.1
  have hPc : Pc a (A.U.calling g mk a) := hblind _ _ _ _ hp.2.2
  obtain ⟨U, Ls, c0, s0⟩ := A
  dsimp only [Pt.U, Pt.locs, Pt.cells, Pt.slots] at h1 h2 h3 h4 h5 X hn hPc ⊢
  obtain ⟨m9, methY, cY, hn9, hmY, hcY, -, hlY, -⟩ := Cond.codeWith_spec h2
  cases Option.some.inj (hn9.symm.trans hn)
  obtain ⟨kY, hkY, -⟩ := className_of_methodNamed hn
  have hinitY : kY.init = .initialized := Cond.initialized_spec (findClass_of_methodNamed hn) hkY h3
  have h : At U g.method c below := by rw [hg]; exact X.here
  have hlocals9 : W9 + (maxL + 11) + (headSpec ws rm).room.locals ≤ R.locals := hlocals
  have happ : (headSpec ws rm).appliesLoose y e.platform (U.calling g mk a) = true :=
    Spec.appliesLoose_calling (g := g) h hdg hn hkY hinitY
      (X.room_calling (g := g) (R' := (headSpec ws rm).room) hsize hmY hcY hframes (by rw [hlY]; omega) h4 h5) h1
  obtain ⟨mid, hmid⟩ := h.above
  have hfr : (U.setTop g).frames = (.java g :: mid) ++ below := by rw [State.frames_setTop' g h.top, hmid]; rfl
  obtain ⟨o, s₂, hsteps, -, hend, hq⟩ := Steps.callFree hM p X.admits X.cas X.clock (acts := []) hfr happ hPc trivial
  have hq' : vx_Q Qc XC mc ms free a (U.calling g mk a) o s₂ := hq
  rw [State.frames_setTop' g h.top] at hend
  obtain ⟨g₀, hg0⟩ := Option.isSome_iff_exists.mp h.top
  obtain ⟨r, hr⟩ := State.topJava?_eq_some.mp hg0
  have hr' : (({ U with heap := s₂.heap, slotsUsed := s₂.slotsUsed } : State).setVm s₂.vm).frames = .java g₀ :: r := hr
  rcases hq' with ⟨hqc, L, hfe, hL⟩ | ⟨q, rfl, E, ce, L, hx, hce, hcv, hcl, hW₂, hsm, hL⟩
  · obtain ⟨⟨v, rfl⟩, hW₂, e2, q2, q3, q4, q5, q6⟩ := id hfe
    have e3 : s₂ = ({ (U.calling g mk a).setFrames s₂.frames with heap := s₂.heap, slotsUsed := s₂.slotsUsed } : State).setVm s₂.vm := by
      have : s₂ = ({ s₂ with vm := (U.calling g mk a).vm } : State).setVm s₂.vm := rfl
      rw [e2] at this
      exact this
    obtain ⟨c₂, i₂, len₂, hc₂, hd₂, hf₂⟩ := hend
    have hW' : U.WarmedH s₂.vm := hW₂
    have hcc : c₂ = c := by
      have h1 : s₂.code? g.method = U.code? g.method := by
        rw [State.code?_eq, State.code?_eq, hW'.alike.method?]
      exact Option.some.inj (hc₂.symm.trans (h1.trans h.code))
    subst hcc
    have hlen : len₂ = len := by rw [hdg] at hd₂; cases hd₂; rfl
    subst hlen
    have hs₂ : s₂ = (({ U with heap := s₂.heap, slotsUsed := s₂.slotsUsed } : State).setVm s₂.vm).setTop { g with pc := g.pc + len₂, stack := v.toList ++ g.stack } := by
      refine e3.trans ?_
      rw [hf₂, State.calling_eq h.top, State.setFrames_setFrames, State.setTop_of_frames _ hr', hr]
      rfl
    have hsame : U.sameButNew ({ U with heap := s₂.heap, slotsUsed := s₂.slotsUsed } : State) L mc ms := by
      refine ⟨?_, q2, q3, q4, q5, q6⟩
      obtain ⟨t, ht, -⟩ := State.frames_cons hr
      show ({ U with heap := s₂.heap, slotsUsed := s₂.slotsUsed } : State) = { U.setFrames U.frames with heap := s₂.heap, slotsUsed := s₂.slotsUsed }
      rw [State.setFrames_self ht]
    subst hg
    refine Or.inl ⟨v, ⟨(({ U with heap := s₂.heap, slotsUsed := s₂.slotsUsed } : State).setVm s₂.vm), Ls ++ L, c0 + mc, s0 + ms⟩,
      ⟨X.admits, X.cas, X.clock, X.frames, X.room, X.hears, X.method, X.code, (X.here.setHeapUsed s₂.heap s₂.slotsUsed).setVm hW'.alike, X.tail, State.WarmedH.trans X.warmed hW', X.limits, X.bytes, X.same.trans (hsame.setVm s.vm)⟩,
      ⟨g, mk, s₂, L, rfl, rfl, hqc, rfl, hL, rfl, rfl⟩, ?_⟩
    show Steps p.tables e below _ ((({ U with heap := s₂.heap, slotsUsed := s₂.slotsUsed } : State).setVm s₂.vm).setTop { g with pc := g.pc + len₂, stack := v.toList ++ g.stack })
    rw [← hs₂]
    exact hsteps
  · obtain ⟨e2, q2, q3, q4, q5, q6⟩ := id hsm
    have e3 : s₂ = ({ (U.calling g mk a).setFrames s₂.frames with heap := s₂.heap, slotsUsed := s₂.slotsUsed } : State).setVm s₂.vm := by
      have : s₂ = ({ s₂ with vm := (U.calling g mk a).vm } : State).setVm s₂.vm := rfl
      rw [e2] at this
      exact this
    have hf₂ : s₂.frames = .throwing q :: .java g :: U.frames.tail := hend
    have hW' : U.WarmedH s₂.vm := hW₂
    have hs₂ : s₂ = ((({ U with heap := s₂.heap, slotsUsed := s₂.slotsUsed } : State).setVm s₂.vm).setTop g).pushFrame (.throwing q) := by
      refine e3.trans ?_
      rw [hf₂, State.calling_eq h.top, State.setFrames_setFrames, State.pushFrame, State.frames_setTop _ hr', State.setTop_of_frames _ hr', State.setFrames_setFrames, hr]
      rfl
    have hsame : U.sameButNew ({ U with heap := s₂.heap, slotsUsed := s₂.slotsUsed } : State) L mc ms := by
      refine ⟨?_, q2, q3, q4, q5, q6⟩
      obtain ⟨t, ht, -⟩ := State.frames_cons hr
      show ({ U with heap := s₂.heap, slotsUsed := s₂.slotsUsed } : State) = { U.setFrames U.frames with heap := s₂.heap, slotsUsed := s₂.slotsUsed }
      rw [State.setFrames_self ht]
    subst hg
    refine Or.inr ⟨q, ⟨(({ U with heap := s₂.heap, slotsUsed := s₂.slotsUsed } : State).setVm s₂.vm), Ls ++ L, c0 + mc, s0 + ms⟩,
      ⟨X.admits, X.cas, X.clock, X.frames, X.room, X.hears, X.method, X.code, (X.here.setHeapUsed s₂.heap s₂.slotsUsed).setVm hW'.alike, X.tail, State.WarmedH.trans X.warmed hW', X.limits, X.bytes, X.same.trans (hsame.setVm s.vm)⟩,
      ⟨g, mk, s₂, L, E, ce, rfl, rfl, hx, hce, hcv, hcl, rfl, hL, rfl, rfl⟩, ?_⟩
    show Steps p.tables e below _ (((({ U with heap := s₂.heap, slotsUsed := s₂.slotsUsed } : State).setVm s₂.vm).setTop g).pushFrame (.throwing q))
    rw [← hs₂]
    exact hsteps
end
variable {p : Program} {l : Launch} {e : Env} {R : Room} {s : State} {m : MethodId} {args : Array Value} {below : List Frame} {meth : Method} {c : Code} {T : State} {H : Heap} {locs : List Loc} {cells slots : Nat}
theorem vx_callVX (X : Stand p l e R s m args below meth c T locs cells slots) (hexec : p.tables.exec = Jvm.exec) {own C : String} {index : Nat} {y : MethodName} {bytes : ByteArray} {maxL : Nat} {ret : Option FieldType} {hh : List (Nat × Nat × Nat × Nat)}
    (hown : s.vm.findClass own = some m.cls) (hlink : (Cond.methodLink own index y).before args s = true) (hinst : (Cond.instanceMethod y).before args s = true) (hsel : (Cond.selects C y y).before args s = true)
    (hcode : (Cond.codeWith y bytes maxL ret hh).before args s = true) (hy : y.cls ≠ "java/lang/invoke/MethodHandle" ∧ y.cls ≠ "java/lang/invoke/VarHandle")
    {W9 : Nat} {Pre : Pt → Array Value → Prop} {Post : Pt → Array Value → Option Value → Pt → Prop} {PostX : Pt → Array Value → Addr → Pt → Prop} (hK : vx_Back l R p e below s args y 3 W9 Pre Post PostX)
    {b : Addr} {cellB : Cell} (hcell : T.heap[b]? = some cellB) (hobj : cellB.vm.isStatics = false) (hcls : s.vm.findClass C = some cellB.cls)
    {g : JFrame} (hg : g.method = m) (hsize : g.locals.size = c.maxLocals) {argsL rest : List Value} (hlen : ∀ sig, parseMethodDescriptor y.desc = some sig → argsL.length = sig.parameters.length)
    (hstack : g.stack = argsL.reverse ++ .ref b :: rest) (hW : 2 * g.monitorRoom + (rest.map fun v => v.category).sum ≤ W9) (hdg : decode c.code g.pc = .ok (.invokevirtual index, 3))
    (hpre : ∀ vm₁, s.WarmedH vm₁ → Pre ⟨T.setVm vm₁, locs, cells, slots⟩ (Value.ref b :: argsL).toArray) :
    (∃ (v : Option Value) (vm₁ : Vm) (B : Pt), s.WarmedH vm₁ ∧ Stand p l e R s m args below meth c B.U B.locs B.cells B.slots ∧ Post ⟨T.setVm vm₁, locs, cells, slots⟩ (Value.ref b :: argsL).toArray v B ∧
      ∀ target, Steps p.tables e below (B.U.setTop { g with pc := g.pc + 3, stack := v.toList ++ rest }) target → Steps p.tables e below (T.setTop g) target) ∨
    (∃ (q : Addr) (vm₁ : Vm) (B : Pt), s.WarmedH vm₁ ∧ Stand p l e R s m args below meth c B.U B.locs B.cells B.slots ∧ PostX ⟨T.setVm vm₁, locs, cells, slots⟩ (Value.ref b :: argsL).toArray q B ∧
      Steps p.tables e below (T.setTop g) ((B.U.setTop { g with stack := rest }).pushFrame (.throwing q))) := by
  obtain ⟨mk, methM, hnamed, hmethM, hstM, habM⟩ := Cond.instanceMethod_spec hinst
  obtain ⟨m8, methM', cM, hn8, hmethM', -, -, -, -, -, -, hsigM⟩ := Cond.codeWith_spec hcode
  cases Option.some.inj (hn8.symm.trans hnamed)
  cases hmethM.symm.trans hmethM'
  obtain ⟨c2, r2, m2, q1, q2, q3, q4, kP, hkP, hkPi⟩ := Cond.selects_spec hsel
  cases hcls.symm.trans q1
  cases (State.methodFound?_of_named hnamed hy).symm.trans q2
  cases hnamed.symm.trans q3
  have hselP : selectMethod e.platform s.vm cellB.cls mk = .method mk := by rw [Launch.admits_selectMethod X.admits]; exact q4
  obtain ⟨vm₁, X₁, hstep₁⟩ := X.invokevirtual hexec hown hlink hnamed hmethM hstM hkP hkPi hy (a := b) (cell := cellB) hcell
    (fun z h => by rw [h] at hobj; cases hobj) hselP hmethM habM hkP hkPi (g := g) hg (argsL := argsL) (rest := rest) (hlen _ hsigM) hstack hdg
  rcases hK m meth c ⟨T.setVm vm₁, locs, cells, slots⟩ { g with stack := rest } (.invokevirtual index) mk (Value.ref b :: argsL).toArray X₁ hg hsize hdg hW (X₁.named hnamed) (hpre vm₁ X₁.warmed) with ⟨v, B, X', hpost, hsteps⟩ | ⟨q, B, X', hpost, hsteps⟩
  · exact Or.inl ⟨v, vm₁, B, X₁.warmed, X', hpost, fun target h => hstep₁ _ fun acts => by rw [doInvoke_state]; exact hsteps.trans h⟩
  · exact Or.inr ⟨q, vm₁, B, X₁.warmed, X', hpost, hstep₁ _ fun acts => by rw [doInvoke_state]; exact hsteps⟩
theorem vx_callSX (X : Stand p l e R s m args below meth c T locs cells slots) (hexec : p.tables.exec = Jvm.exec) {own : String} {index : Nat} {y : MethodName} {bytes : ByteArray} {maxL : Nat} {ret : Option FieldType} {hh : List (Nat × Nat × Nat × Nat)}
    (hown : s.vm.findClass own = some m.cls) (hlink : (Cond.methodLink own index y).before args s = true) (hstat : (Cond.static y).before args s = true) (hinit : (Cond.initialized y.cls).before args s = true)
    (hcode : (Cond.codeWith y bytes maxL ret hh).before args s = true) (hy : y.cls ≠ "java/lang/invoke/MethodHandle" ∧ y.cls ≠ "java/lang/invoke/VarHandle")
    {W9 : Nat} {Pre : Pt → Array Value → Prop} {Post : Pt → Array Value → Option Value → Pt → Prop} {PostX : Pt → Array Value → Addr → Pt → Prop} (hK : vx_Back l R p e below s args y 3 W9 Pre Post PostX)
    {g : JFrame} (hg : g.method = m) (hsize : g.locals.size = c.maxLocals) {argsL rest : List Value} (hlen : ∀ sig, parseMethodDescriptor y.desc = some sig → argsL.length = sig.parameters.length)
    (hstack : g.stack = argsL.reverse ++ rest) (hW : 2 * g.monitorRoom + (rest.map fun v => v.category).sum ≤ W9) (hdg : decode c.code g.pc = .ok (.invokestatic index, 3))
    (hpre : ∀ vm₁, s.WarmedH vm₁ → Pre ⟨T.setVm vm₁, locs, cells, slots⟩ argsL.toArray) :
    (∃ (v : Option Value) (vm₁ : Vm) (B : Pt), s.WarmedH vm₁ ∧ Stand p l e R s m args below meth c B.U B.locs B.cells B.slots ∧ Post ⟨T.setVm vm₁, locs, cells, slots⟩ argsL.toArray v B ∧
      ∀ target, Steps p.tables e below (B.U.setTop { g with pc := g.pc + 3, stack := v.toList ++ rest }) target → Steps p.tables e below (T.setTop g) target) ∨
    (∃ (q : Addr) (vm₁ : Vm) (B : Pt), s.WarmedH vm₁ ∧ Stand p l e R s m args below meth c B.U B.locs B.cells B.slots ∧ PostX ⟨T.setVm vm₁, locs, cells, slots⟩ argsL.toArray q B ∧
      Steps p.tables e below (T.setTop g) ((B.U.setTop { g with stack := rest }).pushFrame (.throwing q))) := by
  obtain ⟨mk, methM, cM, hnamed, hmethM, -, -, -, -, -, -, hsigM⟩ := Cond.codeWith_spec hcode
  have hstatic : methM.isStatic = true := Cond.static_spec hnamed hmethM hstat
  obtain ⟨kP, hkP, -⟩ := className_of_methodNamed hnamed
  have hinitP : kP.init = .initialized := Cond.initialized_spec (findClass_of_methodNamed hnamed) hkP hinit
  obtain ⟨vm₁, X₁, hstep₁⟩ := X.invokestatic hexec hown hlink hnamed hmethM hstatic hkP hinitP hy (g := g) hg (argsL := argsL) (rest := rest) (hlen _ hsigM) hstack hdg
  rcases hK m meth c ⟨T.setVm vm₁, locs, cells, slots⟩ { g with stack := rest } (.invokestatic index) mk argsL.toArray X₁ hg hsize hdg hW (X₁.named hnamed) (hpre vm₁ X₁.warmed) with ⟨v, B, X', hpost, hsteps⟩ | ⟨q, B, X', hpost, hsteps⟩
  · exact Or.inl ⟨v, vm₁, B, X₁.warmed, X', hpost, fun target h => hstep₁ _ fun acts => by rw [doInvoke_state]; exact hsteps.trans h⟩
  · exact Or.inr ⟨q, vm₁, B, X₁.warmed, X', hpost, hstep₁ _ fun acts => by rw [doInvoke_state]; exact hsteps⟩
theorem vx_callVW (X : Stand p l e R s m args below meth c T locs cells slots) (hexec : p.tables.exec = Jvm.exec) {own C : String} {index : Nat} {y : MethodName} {bytes : ByteArray} {maxL : Nat} {ret : Option FieldType} {hh : List (Nat × Nat × Nat × Nat)}
    (hown : s.vm.findClass own = some m.cls) (hlink : (Cond.methodLink own index y).before args s = true) (hinst : (Cond.instanceMethod y).before args s = true) (hsel : (Cond.selects C y y).before args s = true)
    (hcode : (Cond.codeWith y bytes maxL ret hh).before args s = true) (hy : y.cls ≠ "java/lang/invoke/MethodHandle" ∧ y.cls ≠ "java/lang/invoke/VarHandle")
    {W9 : Nat} {Pre : Pt → Array Value → Prop} {Post : Pt → Array Value → Option Value → Pt → Prop} (hK : Back l R p e below s args y 3 W9 Pre Post)
    {b : Addr} {cellB : Cell} (hcell : T.heap[b]? = some cellB) (hobj : cellB.vm.isStatics = false) (hcls : s.vm.findClass C = some cellB.cls)
    {g : JFrame} (hg : g.method = m) (hsize : g.locals.size = c.maxLocals) {argsL rest : List Value} (hlen : ∀ sig, parseMethodDescriptor y.desc = some sig → argsL.length = sig.parameters.length)
    (hstack : g.stack = argsL.reverse ++ .ref b :: rest) (hW : 2 * g.monitorRoom + (rest.map fun v => v.category).sum ≤ W9) (hdg : decode c.code g.pc = .ok (.invokevirtual index, 3))
    (hpre : ∀ vm₁, s.WarmedH vm₁ → Pre ⟨T.setVm vm₁, locs, cells, slots⟩ (Value.ref b :: argsL).toArray) :
    ∃ (v : Option Value) (vm₁ : Vm) (B : Pt), s.WarmedH vm₁ ∧ Stand p l e R s m args below meth c B.U B.locs B.cells B.slots ∧ Post ⟨T.setVm vm₁, locs, cells, slots⟩ (Value.ref b :: argsL).toArray v B ∧
      ∀ target, Steps p.tables e below (B.U.setTop { g with pc := g.pc + 3, stack := v.toList ++ rest }) target → Steps p.tables e below (T.setTop g) target := by
  obtain ⟨mk, methM, hnamed, hmethM, hstM, habM⟩ := Cond.instanceMethod_spec hinst
  obtain ⟨m8, methM', cM, hn8, hmethM', -, -, -, -, -, -, hsigM⟩ := Cond.codeWith_spec hcode
  cases Option.some.inj (hn8.symm.trans hnamed)
  cases hmethM.symm.trans hmethM'
  obtain ⟨c2, r2, m2, q1, q2, q3, q4, kP, hkP, hkPi⟩ := Cond.selects_spec hsel
  cases hcls.symm.trans q1
  cases (State.methodFound?_of_named hnamed hy).symm.trans q2
  cases hnamed.symm.trans q3
  have hselP : selectMethod e.platform s.vm cellB.cls mk = .method mk := by rw [Launch.admits_selectMethod X.admits]; exact q4
  obtain ⟨vm₁, X₁, hstep₁⟩ := X.invokevirtual hexec hown hlink hnamed hmethM hstM hkP hkPi hy (a := b) (cell := cellB) hcell
    (fun z h => by rw [h] at hobj; cases hobj) hselP hmethM habM hkP hkPi (g := g) hg (argsL := argsL) (rest := rest) (hlen _ hsigM) hstack hdg
  obtain ⟨v, B, X', hpost, hsteps⟩ := hK m meth c ⟨T.setVm vm₁, locs, cells, slots⟩ { g with stack := rest } (.invokevirtual index) mk (Value.ref b :: argsL).toArray X₁ hg hsize hdg hW (X₁.named hnamed) (hpre vm₁ X₁.warmed)
  exact ⟨v, vm₁, B, X₁.warmed, X', hpost, fun target h => hstep₁ _ fun acts => by rw [doInvoke_state]; exact hsteps.trans h⟩
abbrev vx_CVW (R : Room) (s : State) (args : Array Value) (own C : String) (index : Nat) (y : MethodName) (bytes : ByteArray) (maxL : Nat) (ret : Option FieldType) (hh : List (Nat × Nat × Nat × Nat)) (ws : List Cond) (rm : Room) (mc ms n : Nat) : Prop :=
  (rm.cells = mc ∧ rm.slots = ms ∧ rm.frames + 1 ≤ R.frames ∧ 8 + (maxL + 11) + rm.locals ≤ R.locals ∧ (∀ w ∈ ws, ∀ (a' : Array Value) (U : State), s.WarmedH U.vm → w.before a' U = true) ∧ Cond.codeWith y bytes maxL ret hh ∈ ws) ∧
  (Cond.codeWith y bytes maxL ret hh).before args s = true ∧ (Cond.initialized y.cls).before args s = true ∧ (y.cls ≠ "java/lang/invoke/MethodHandle" ∧ y.cls ≠ "java/lang/invoke/VarHandle") ∧
  (∀ sig, parseMethodDescriptor y.desc = some sig → n = sig.parameters.length) ∧ (Cond.methodLink own index y).before args s = true ∧ (Cond.instanceMethod y).before args s = true ∧ (Cond.selects C y y).before args s = true
theorem vx_cwVW {own C : String} {index maxL mc ms : Nat} {y : MethodName} {bytes : ByteArray} {ret : Option FieldType} {hh : List (Nat × Nat × Nat × Nat)} {Ts ws ws' : List Cond} {rm : Room} (n : Nat) (ht : ∀ w ∈ Ts, w.before args s = true) (hT : GoodIn Ts (wsV own index C y ws)) (hw : ws = Cond.codeWith y bytes maxL ret hh :: ws') (hrc : rm.cells = mc) (hrs : rm.slots = ms)
    (hd : y.cls = C ∧ y.cls ≠ "java/lang/invoke/MethodHandle" ∧ y.cls ≠ "java/lang/invoke/VarHandle" ∧ (parseMethodDescriptor y.desc).map (fun d => d.parameters.length) = some n) (hR : rm.frames + 1 ≤ R.frames ∧ 8 + (maxL + 11) + rm.locals ≤ R.locals) :
    vx_CVW R s args own C index y bytes maxL ret hh ws rm mc ms n := by
  obtain ⟨hC, hd⟩ := hd
  subst hC
  have ok : ∀ w ∈ wsV own index y.cls y ws, w.before args s = true := fun w h => ht w (hT w h).1
  have hG : GoodIn Ts ws := fun w h => hT w (by unfold wsV; exact List.mem_append_right _ h)
  have hc : Cond.codeWith y bytes maxL ret hh ∈ ws := by rw [hw]; exact List.mem_cons_self
  refine ⟨⟨hrc, hrs, hR.1, hR.2, pay_in ht hG, hc⟩, ht _ (hG _ hc).1, ok _ (by simp [wsV]), ⟨hd.1, hd.2.1⟩, fun sig h => ?_, ok _ (by simp [wsV]), ok _ (by simp [wsV]), ok _ (by simp [wsV])⟩
  have h2 := hd.2.2
  rw [h] at h2
  exact (Option.some.inj h2).symm
theorem vx_runVW {y : MethodName} {bytes cc : ByteArray} {maxL nL mc ms n index : Nat} {ret : Option FieldType} {hh : List (Nat × Nat × Nat × Nat)} {ws : List Cond} {rm : Room} {Pc : Array Value → State → Prop} {Qc : Array Value → State → Outcome → State → Prop} {free : Addr → Prop} {Ts : List Cond} {own C : String} {b : Addr} {As rest : List Value} {g : JFrame}
    (S : CallFix p m c cc nL s args Ts own) (hM : Met l y ws rm Pc Qc mc ms free) (cw : vx_CVW R s args own C index y bytes maxL ret hh ws rm mc ms n) (hp : PreV s H C b Pc As)
    (hg : g.method = m) (hn : As.length = n) (hsize : g.locals.size = nL) (hstack : g.stack = As.reverse ++ .ref b :: rest) (hW : 2 * g.monitorRoom + (rest.map fun v => v.category).sum ≤ 8) (hdg : decode cc g.pc = .ok (.invokevirtual index, 3)) (hf : cells + mc ≤ R.cells ∧ slots + ms ≤ R.slots) :
    va_Run p l e R s m args below meth c H locs cells slots mc ms g rest (Qc (Value.ref b :: As).toArray) free := by
  obtain ⟨⟨hrc, hrs, hfr, hlo, hws, hcw⟩, hcode, hini, hy, hlen, hl, hin, hse⟩ := cw
  have hK : Back l R p e below s args y 3 8 (PreOf R mc ms Pc) (PostOf Qc mc ms free) := va_backW (hh := hh) (bytes := bytes) (maxL := maxL) (ret := ret) hM hp.1 hrc hrs hfr hlo hws hcw (fun a' U hW => word_at hW (Or.inl (by first | rfl | simp [Cond.onTables, Cond.keeps, Cond.steady])) hini)
  obtain ⟨hx, hb, hml, ho, -⟩ := S
  obtain ⟨-, ⟨cellB, hcB, hoB, hclB⟩, hPc⟩ := hp
  intro T hT X
  obtain ⟨v, vm₁, ⟨U', l2, c2, s2⟩, hW₁, X', ⟨g', mk, t, L, e1, e2, hq, h1, hL, h2, h3⟩, st⟩ := vx_callVW X hx (C := C) (hh := hh) (bytes := bytes) (maxL := maxL) (ret := ret) ho hl hin hse hcode hy hK (by rw [hT]; exact hcB) hoB hclB hg (hsize.trans hml.symm) (argsL := As) (rest := rest) (fun sig h => hn.trans (hlen sig h)) hstack hW (by rw [hb]; exact hdg)
    (fun vm₁ hW₁ => ⟨hf.1, hf.2, hPc (T.setVm vm₁) hT hW₁⟩)
  dsimp only [Pt.U, Pt.locs, Pt.cells, Pt.slots] at X' e1 e2 h1 h2 h3 st
  subst h1; subst h2; subst h3
  exact ⟨v, (T.setVm vm₁).calling g' mk (Value.ref b :: As).toArray, t, U', L, hT, X', hL, e1, e2, hq, st⟩
section
variable {y : MethodName} {bytes cc : ByteArray} {maxL nL mc ms n index : Nat} {ret : Option FieldType} {ws : List Cond} {rm : Room} {Pc : Array Value → State → Prop} {Qc : Array Value → State → Outcome → State → Prop} {XC : String → State → State → Prop} {free : Addr → Prop} {Ts : List Cond} {own C : String} {b : Addr} {As rest : List Value} {g : JFrame}
theorem vx_runVX {hh : List (Nat × Nat × Nat × Nat)} (S : CallFix p m c cc nL s args Ts own) (hM : vx_Met l y ws rm Pc Qc XC mc ms free) (cw : vx_CVW R s args own C index y bytes maxL ret hh ws rm mc ms n) (hp : PreV s H C b Pc As)
    (hg : g.method = m) (hn : As.length = n) (hsize : g.locals.size = nL) (hstack : g.stack = As.reverse ++ .ref b :: rest) (hW : 2 * g.monitorRoom + (rest.map fun v => v.category).sum ≤ 8) (hdg : decode cc g.pc = .ok (.invokevirtual index, 3)) (hf : cells + mc ≤ R.cells ∧ slots + ms ≤ R.slots) :
    vx_Run p l e R s m args below meth c H locs cells slots mc ms g rest (Qc (Value.ref b :: As).toArray) XC free := by
  obtain ⟨⟨hrc, hrs, hfr, hlo, hws, hcw⟩, hcode, hini, hy, hlen, hl, hin, hse⟩ := cw
  have hK : vx_Back l R p e below s args y 3 8 (PreOf R mc ms Pc) (PostOf Qc mc ms free) (vx_Post XC mc ms free) := vx_backW (hh := hh) (bytes := bytes) (maxL := maxL) (ret := ret) hM hp.1 hrc hrs hfr hlo hws hcw (fun a' U hW => word_at hW (Or.inl (by first | rfl | simp [Cond.onTables, Cond.keeps, Cond.steady])) hini)
  obtain ⟨hx, hb, hml, ho, -⟩ := S
  obtain ⟨-, ⟨cellB, hcB, hoB, hclB⟩, hPc⟩ := hp
  intro T hT X
  rcases vx_callVX X hx (C := C) (hh := hh) (bytes := bytes) (maxL := maxL) (ret := ret) ho hl hin hse hcode hy hK (by rw [hT]; exact hcB) hoB hclB hg (hsize.trans hml.symm) (argsL := As) (rest := rest) (fun sig h => hn.trans (hlen sig h)) hstack hW (by rw [hb]; exact hdg)
    (fun vm₁ hW₁ => ⟨hf.1, hf.2, hPc (T.setVm vm₁) hT hW₁⟩) with ⟨v, vm₁, ⟨U', l2, c2, s2⟩, hW₁, X', ⟨g', mk, t, L, e1, e2, hq, h1, hL, h2, h3⟩, st⟩ | ⟨q, vm₁, ⟨U', l2, c2, s2⟩, hW₁, X', ⟨g', mk, t, L, E, ce, e1, e2, hq, hce, hcv, hcl, h1, hL, h2, h3⟩, st⟩
  · dsimp only [Pt.U, Pt.locs, Pt.cells, Pt.slots] at X' e1 e2 h1 h2 h3 st
    subst h1; subst h2; subst h3
    exact Or.inl ⟨v, (T.setVm vm₁).calling g' mk (Value.ref b :: As).toArray, t, U', L, hT, X', hL, e1, e2, hq, st⟩
  · dsimp only [Pt.U, Pt.locs, Pt.cells, Pt.slots] at X' e1 e2 h1 h2 h3 st hcl
    subst h1; subst h2; subst h3
    exact Or.inr ⟨q, (T.setVm vm₁).calling g' mk (Value.ref b :: As).toArray, t, U', L, E, ce, hT, X', hL, e1, e2, hq, hce, hcv, vx_cls hW₁ hcl, st⟩
theorem vx_runSX {hh : List (Nat × Nat × Nat × Nat)} (S : CallFix p m c cc nL s args Ts own) (hM : vx_Met l y ws rm Pc Qc XC mc ms free) (cw : vx_CSW R s args own index y bytes maxL ret hh ws rm mc ms n) (hp : PreS s H Pc As)
    (hg : g.method = m) (hn : As.length = n) (hsize : g.locals.size = nL) (hstack : g.stack = As.reverse ++ rest) (hW : 2 * g.monitorRoom + (rest.map fun v => v.category).sum ≤ 8) (hdg : decode cc g.pc = .ok (.invokestatic index, 3)) (hf : cells + mc ≤ R.cells ∧ slots + ms ≤ R.slots) :
    vx_Run p l e R s m args below meth c H locs cells slots mc ms g rest (Qc As.toArray) XC free := by
  obtain ⟨⟨hrc, hrs, hfr, hlo, hws, hcw⟩, hcode, hini, hy, hlen, hl, hstt⟩ := cw
  have hK : vx_Back l R p e below s args y 3 8 (PreOf R mc ms Pc) (PostOf Qc mc ms free) (vx_Post XC mc ms free) := vx_backW (hh := hh) (bytes := bytes) (maxL := maxL) (ret := ret) hM hp.1 hrc hrs hfr hlo hws hcw (fun a' U hW => word_at hW (Or.inl (by first | rfl | simp [Cond.onTables, Cond.keeps, Cond.steady])) hini)
  obtain ⟨hx, hb, hml, ho, -⟩ := S
  intro T hT X
  rcases vx_callSX X hx (hh := hh) (bytes := bytes) (maxL := maxL) (ret := ret) ho hl hstt hini hcode hy hK hg (hsize.trans hml.symm) (argsL := As) (rest := rest) (fun sig h => hn.trans (hlen sig h)) hstack hW (by rw [hb]; exact hdg)
    (fun vm₁ hW₁ => ⟨hf.1, hf.2, hp.2 (T.setVm vm₁) hT hW₁⟩) with ⟨v, vm₁, ⟨U', l2, c2, s2⟩, hW₁, X', ⟨g', mk, t, L, e1, e2, hq, h1, hL, h2, h3⟩, st⟩ | ⟨q, vm₁, ⟨U', l2, c2, s2⟩, hW₁, X', ⟨g', mk, t, L, E, ce, e1, e2, hq, hce, hcv, hcl, h1, hL, h2, h3⟩, st⟩
  · dsimp only [Pt.U, Pt.locs, Pt.cells, Pt.slots] at X' e1 e2 h1 h2 h3 st
    subst h1; subst h2; subst h3
    exact Or.inl ⟨v, (T.setVm vm₁).calling g' mk As.toArray, t, U', L, hT, X', hL, e1, e2, hq, st⟩
  · dsimp only [Pt.U, Pt.locs, Pt.cells, Pt.slots] at X' e1 e2 h1 h2 h3 st hcl
    subst h1; subst h2; subst h3
    exact Or.inr ⟨q, (T.setVm vm₁).calling g' mk As.toArray, t, U', L, E, ce, hT, X', hL, e1, e2, hq, hce, hcv, vx_cls hW₁ hcl, st⟩
end
end VXH
theorem vx_ofWH {l : Launch} {y : MethodName} {ws ws' : List Cond} {rm : Room} {Pc : Array Value → State → Prop} {Qc : Array Value → State → Outcome → State → Prop} {XC : String → State → State → Prop} {mc ms : Nat} {free : Addr → Prop} {cc : ByteArray} {maxL : Nat} {ret : Option FieldType} {hh : List (Nat × Nat × Nat × Nat)}
    (hy : plainName y.cls = true) (hw : ws = Cond.codeWith y cc maxL ret hh :: ws')
    (body : ∀ p e s m args below meth c s₁, BodyLoose p l y (headSpec ws rm) cc maxL ret e s m args below meth c s₁ → c.maxLocals = maxL → Pc args s →
      W p l e (headSpec ws rm).room s m args below meth c s.heap [] 0 0 (vx_MQ below Qc XC args s mc ms free) (entryFrame m args maxL)) : vx_Met l y ws rm Pc Qc XC mc ms free := by
  refine MetFree.of_bodyS (code := cc) (maxLocals := maxL) (ret := ret) hy ?_ ?_
  · intro args s m h hn
    obtain ⟨m9, meth, c, hn9, h1, h2, h3, h4, -, h5, h6, -⟩ := Cond.codeWith_spec (atoms_spec (ws := ws) h _ (by rw [hw]; exact List.mem_cons_self))
    cases hn.symm.trans hn9
    exact ⟨meth, c, h1, h2, h3, h4, h5, h6⟩
  · intro p e s m args below meth c s₁ B hml hP _
    have hh0 : s₁.heap = s.heap := by rw [B.state]; rfl
    obtain ⟨t, a1, o, b1, b2, b3⟩ := body p e s m args below meth c s₁ B hml hP s₁ hh0 (Stand.of_body B)
    exact ⟨t, o, a1, b1, b2, b3⟩
/-! ===== END ===== -/
end
section
/-! ===== BEGIN printed: names, fields, word lists, decode rows ===== -/
def RX0 : String := "EaseCurves$Curve"
def TX0 : u_T := fun k => match k with
  | 0 => ("EaseCurves$Curve", "count", "I", false)
  | _ => ("EaseCurves$Curve", "cells", "[I", true)
def tyX0 : Nat → FieldType := fun k => match k with
  | 0 => .int
  | _ => .array .int
abbrev wsX00 : List Cond := u_ws RX0 TX0 2
theorem nmX0 : ∀ a, a < 2 → ∀ b, b < 2 → a ≠ b → (TX0 a).2.1 ≠ (TX0 b).2.1 := by decide +kernel
theorem tyX0_ok : ∀ k, k < 2 → parseFieldDescriptor (TX0 k).2.2.1 = some (tyX0 k) := by decide +kernel
abbrev cX0_init : ByteArray := prog_2_method_1_code
def yX0_init : MethodName := ⟨RX0, "<init>", "()V"⟩
abbrev cX0_cell : ByteArray := prog_2_method_2_code
def yX0_cell : MethodName := ⟨RX0, "cell", "(II)I"⟩
abbrev cX0_put : ByteArray := prog_2_method_3_code
def yX0_put : MethodName := ⟨RX0, "put", "(III)V"⟩
abbrev cX0_isLocked : ByteArray := prog_2_method_4_code
def yX0_isLocked : MethodName := ⟨RX0, "isLocked", "(I)Z"⟩
abbrev cX0_hasLock : ByteArray := prog_2_method_5_code
def yX0_hasLock : MethodName := ⟨RX0, "hasLock", "()Z"⟩
abbrev cX0_mayLeaveOut : ByteArray := prog_2_method_6_code
def yX0_mayLeaveOut : MethodName := ⟨RX0, "mayLeaveOut", "(I)Z"⟩
abbrev cX0_countUpTo : ByteArray := prog_2_method_7_code
def yX0_countUpTo : MethodName := ⟨RX0, "countUpTo", "(I)I"⟩
abbrev cX0_numberAtFrame : ByteArray := prog_2_method_8_code
def yX0_numberAtFrame : MethodName := ⟨RX0, "numberAtFrame", "(I)I"⟩
abbrev cX0_lastFrame : ByteArray := prog_2_method_9_code
def yX0_lastFrame : MethodName := ⟨RX0, "lastFrame", "()I"⟩
abbrev cX0_become : ByteArray := prog_2_method_10_code
def yX0_become : MethodName := ⟨RX0, "become", "(LEaseCurves$Curve;)V"⟩
abbrev cX0_insert : ByteArray := prog_2_method_11_code
def yX0_insert : MethodName := ⟨RX0, "insert", "(IIIIII)I"⟩
abbrev cX0_takeOut : ByteArray := prog_2_method_12_code
def yX0_takeOut : MethodName := ⟨RX0, "takeOut", "(I)V"⟩
abbrev cX0_moveTo : ByteArray := prog_2_method_13_code
def yX0_moveTo : MethodName := ⟨RX0, "moveTo", "(II)I"⟩
abbrev cX0_canRaise : ByteArray := prog_2_method_14_code
def yX0_canRaise : MethodName := ⟨RX0, "canRaise", "(I)Z"⟩
abbrev cX0_raise : ByteArray := prog_2_method_15_code
def yX0_raise : MethodName := ⟨RX0, "raise", "(I)V"⟩
abbrev cX0_canStretch : ByteArray := prog_2_method_16_code
def yX0_canStretch : MethodName := ⟨RX0, "canStretch", "(III)Z"⟩
abbrev cX0_stretchSpan : ByteArray := prog_2_method_17_code
def yX0_stretchSpan : MethodName := ⟨RX0, "stretchSpan", "(III)I"⟩
abbrev cX0_stretchedFrame : ByteArray := prog_2_method_18_code
def yX0_stretchedFrame : MethodName := ⟨RX0, "stretchedFrame", "(IIII)I"⟩
abbrev cX0_tangentOf : ByteArray := prog_2_method_19_code
def yX0_tangentOf : MethodName := ⟨RX0, "tangentOf", "(I)I"⟩
abbrev cX0_isTurn : ByteArray := prog_2_method_20_code
def yX0_isTurn : MethodName := ⟨RX0, "isTurn", "(III)Z"⟩
abbrev cX0_valueAt : ByteArray := prog_2_method_21_code
def yX0_valueAt : MethodName := ⟨RX0, "valueAt", "(I)I"⟩
abbrev cX0_bake : ByteArray := prog_2_method_22_code
def yX0_bake : MethodName := ⟨RX0, "bake", "([III)V"⟩
abbrev cX0_valueBehind : ByteArray := prog_2_method_23_code
def yX0_valueBehind : MethodName := ⟨RX0, "valueBehind", "(II)I"⟩
abbrev cX0_riseByTangents : ByteArray := prog_2_method_24_code
def yX0_riseByTangents : MethodName := ⟨RX0, "riseByTangents", "(JJJJ)J"⟩
def RX1 : String := "EaseCurves$CurveText"
def TX1 : u_T := fun k => match k with
  | 0 => ("EaseCurves$CurveText", "bytes", "[B", true)
  | 1 => ("EaseCurves$CurveText", "length", "I", false)
  | _ => ("EaseCurves$CurveText", "at", "I", false)
def tyX1 : Nat → FieldType := fun k => match k with
  | 0 => .array .byte
  | 1 => .int
  | _ => .int
abbrev wsX10 : List Cond := u_ws RX1 TX1 3
theorem nmX1 : ∀ a, a < 3 → ∀ b, b < 3 → a ≠ b → (TX1 a).2.1 ≠ (TX1 b).2.1 := by decide +kernel
theorem tyX1_ok : ∀ k, k < 3 → parseFieldDescriptor (TX1 k).2.2.1 = some (tyX1 k) := by decide +kernel
abbrev cX1_init : ByteArray := prog_3_method_1_code
def yX1_init : MethodName := ⟨RX1, "<init>", "()V"⟩
abbrev cX1_add : ByteArray := prog_3_method_2_code
def yX1_add : MethodName := ⟨RX1, "add", "(I)V"⟩
abbrev cX1_readInto : ByteArray := prog_3_method_3_code
def yX1_readInto : MethodName := ⟨RX1, "readInto", "(LEaseCurves$Curve;)I"⟩
abbrev cX1_readKey : ByteArray := prog_3_method_4_code
def yX1_readKey : MethodName := ⟨RX1, "readKey", "(LEaseCurves$Curve;)Z"⟩
abbrev cX1_readMode : ByteArray := prog_3_method_5_code
def yX1_readMode : MethodName := ⟨RX1, "readMode", "()I"⟩
abbrev cX1_readDigits : ByteArray := prog_3_method_6_code
def yX1_readDigits : MethodName := ⟨RX1, "readDigits", "(I)I"⟩
abbrev cX1_skip : ByteArray := prog_3_method_7_code
def yX1_skip : MethodName := ⟨RX1, "skip", "(C)Z"⟩
abbrev cX1_isSign : ByteArray := prog_3_method_8_code
def yX1_isSign : MethodName := ⟨RX1, "isSign", "(ICC)Z"⟩
def RX2 : String := "EaseCurves$State"
def TX2 : u_T := fun k => match k with
  | _ => ("EaseCurves$State", "curves", "[LEaseCurves$Curve;", true)
def tyX2 : Nat → FieldType := fun k => match k with
  | _ => .array (.object "EaseCurves$Curve")
abbrev wsX20 : List Cond := u_ws RX2 TX2 1
theorem nmX2 : ∀ a, a < 1 → ∀ b, b < 1 → a ≠ b → (TX2 a).2.1 ≠ (TX2 b).2.1 := by decide +kernel
theorem tyX2_ok : ∀ k, k < 1 → parseFieldDescriptor (TX2 k).2.2.1 = some (tyX2 k) := by decide +kernel
abbrev cX2_init : ByteArray := prog_4_method_1_code
def yX2_init : MethodName := ⟨RX2, "<init>", "()V"⟩
abbrev cX2_become : ByteArray := prog_4_method_2_code
def yX2_become : MethodName := ⟨RX2, "become", "(LEaseCurves$State;)V"⟩
def RX3 : String := "EaseCurves"
def TX3 : u_T := fun k => match k with
  | 0 => ("EaseCurves", "present", "LEaseCurves$State;", true)
  | 1 => ("EaseCurves", "saved", "[LEaseCurves$State;", true)
  | 2 => ("EaseCurves", "savedCount", "I", false)
  | 3 => ("EaseCurves", "text", "LEaseCurves$CurveText;", true)
  | 4 => ("EaseCurves", "trial", "LEaseCurves$Curve;", true)
  | 5 => ("EaseCurves", "values", "[I", true)
  | _ => ("EaseCurves", "otherValues", "[I", true)
def tyX3 : Nat → FieldType := fun k => match k with
  | 0 => .object "EaseCurves$State"
  | 1 => .array (.object "EaseCurves$State")
  | 2 => .int
  | 3 => .object "EaseCurves$CurveText"
  | 4 => .object "EaseCurves$Curve"
  | 5 => .array .int
  | _ => .array .int
abbrev wsX30 : List Cond := u_ws RX3 TX3 7
theorem nmX3 : ∀ a, a < 7 → ∀ b, b < 7 → a ≠ b → (TX3 a).2.1 ≠ (TX3 b).2.1 := by decide +kernel
theorem tyX3_ok : ∀ k, k < 7 → parseFieldDescriptor (TX3 k).2.2.1 = some (tyX3 k) := by decide +kernel
abbrev cX3_init : ByteArray := prog_1_method_1_code
def yX3_init : MethodName := ⟨RX3, "<init>", "()V"⟩
abbrev cX3_addKey : ByteArray := prog_1_method_2_code
def yX3_addKey : MethodName := ⟨RX3, "addKey", "(IIII)I"⟩
abbrev cX3_removeKey : ByteArray := prog_1_method_3_code
def yX3_removeKey : MethodName := ⟨RX3, "removeKey", "(II)I"⟩
abbrev cX3_setKey : ByteArray := prog_1_method_4_code
def yX3_setKey : MethodName := ⟨RX3, "setKey", "(IIII)I"⟩
abbrev cX3_moveKey : ByteArray := prog_1_method_5_code
def yX3_moveKey : MethodName := ⟨RX3, "moveKey", "(III)I"⟩
abbrev cX3_setTangent : ByteArray := prog_1_method_6_code
def yX3_setTangent : MethodName := ⟨RX3, "setTangent", "(IIII)I"⟩
abbrev cX3_lock : ByteArray := prog_1_method_7_code
def yX3_lock : MethodName := ⟨RX3, "lock", "(IIZ)I"⟩
abbrev cX3_stretch : ByteArray := prog_1_method_8_code
def yX3_stretch : MethodName := ⟨RX3, "stretch", "(IIII)I"⟩
abbrev cX3_copy : ByteArray := prog_1_method_9_code
def yX3_copy : MethodName := ⟨RX3, "copy", "(III)I"⟩
abbrev cX3_reduce : ByteArray := prog_1_method_10_code
def yX3_reduce : MethodName := ⟨RX3, "reduce", "(II)I"⟩
abbrev cX3_key : ByteArray := prog_1_method_11_code
def yX3_key : MethodName := ⟨RX3, "key", "(III)I"⟩
abbrev cX3_value : ByteArray := prog_1_method_12_code
def yX3_value : MethodName := ⟨RX3, "value", "(II)I"⟩
abbrev cX3_sum : ByteArray := prog_1_method_13_code
def yX3_sum : MethodName := ⟨RX3, "sum", "(III)J"⟩
abbrev cX3_extreme : ByteArray := prog_1_method_14_code
def yX3_extreme : MethodName := ⟨RX3, "extreme", "(IIII)I"⟩
abbrev cX3_crossings : ByteArray := prog_1_method_15_code
def yX3_crossings : MethodName := ⟨RX3, "crossings", "(II)I"⟩
abbrev cX3_difference : ByteArray := prog_1_method_16_code
def yX3_difference : MethodName := ⟨RX3, "difference", "(II)I"⟩
abbrev cX3_mean : ByteArray := prog_1_method_17_code
def yX3_mean : MethodName := ⟨RX3, "mean", "(I)D"⟩
abbrev cX3_error : ByteArray := prog_1_method_18_code
def yX3_error : MethodName := ⟨RX3, "error", "(II)I"⟩
abbrev cX3_greatestStretch : ByteArray := prog_1_method_19_code
def yX3_greatestStretch : MethodName := ⟨RX3, "greatestStretch", "(III)I"⟩
abbrev cX3_leastEase : ByteArray := prog_1_method_20_code
def yX3_leastEase : MethodName := ⟨RX3, "leastEase", "(II)I"⟩
abbrev cX3_append : ByteArray := prog_1_method_21_code
def yX3_append : MethodName := ⟨RX3, "append", "(I)I"⟩
abbrev cX3_clearText : ByteArray := prog_1_method_22_code
def yX3_clearText : MethodName := ⟨RX3, "clearText", "()I"⟩
abbrev cX3_parse : ByteArray := prog_1_method_23_code
def yX3_parse : MethodName := ⟨RX3, "parse", "(I)I"⟩
abbrev cX3_undo : ByteArray := prog_1_method_24_code
def yX3_undo : MethodName := ⟨RX3, "undo", "()I"⟩
abbrev cX3_digest : ByteArray := prog_1_method_25_code
def yX3_digest : MethodName := ⟨RX3, "digest", "()J"⟩
abbrev cX3_curveNumbered : ByteArray := prog_1_method_26_code
def yX3_curveNumbered : MethodName := ⟨RX3, "curveNumbered", "(I)LEaseCurves$Curve;"⟩
abbrev cX3_requireKey : ByteArray := prog_1_method_27_code
def yX3_requireKey : MethodName := ⟨RX3, "requireKey", "(LEaseCurves$Curve;I)V"⟩
abbrev cX3_requireRange : ByteArray := prog_1_method_28_code
def yX3_requireRange : MethodName := ⟨RX3, "requireRange", "(III)V"⟩
abbrev cX3_requireFrames : ByteArray := prog_1_method_29_code
def yX3_requireFrames : MethodName := ⟨RX3, "requireFrames", "(II)V"⟩
abbrev cX3_requireSpan : ByteArray := prog_1_method_30_code
def yX3_requireSpan : MethodName := ⟨RX3, "requireSpan", "(II)V"⟩
abbrev cX3_requireUnlocked : ByteArray := prog_1_method_31_code
def yX3_requireUnlocked : MethodName := ⟨RX3, "requireUnlocked", "(LEaseCurves$Curve;I)V"⟩
abbrev cX3_requireNoLock : ByteArray := prog_1_method_32_code
def yX3_requireNoLock : MethodName := ⟨RX3, "requireNoLock", "(LEaseCurves$Curve;)V"⟩
abbrev cX3_saveState : ByteArray := prog_1_method_33_code
def yX3_saveState : MethodName := ⟨RX3, "saveState", "()V"⟩
abbrev cX3_dropOldestState : ByteArray := prog_1_method_34_code
def yX3_dropOldestState : MethodName := ⟨RX3, "dropOldestState", "()V"⟩
abbrev cX3_aboutKey : ByteArray := prog_1_method_35_code
def yX3_aboutKey : MethodName := ⟨RX3, "aboutKey", "(LEaseCurves$Curve;II)I"⟩
abbrev cX3_digestOfCurve : ByteArray := prog_1_method_36_code
def yX3_digestOfCurve : MethodName := ⟨RX3, "digestOfCurve", "(JLEaseCurves$Curve;)J"⟩
abbrev cX3_sumOver : ByteArray := prog_1_method_37_code
def yX3_sumOver : MethodName := ⟨RX3, "sumOver", "(LEaseCurves$Curve;II)J"⟩
abbrev cX3_frameOfGreatest : ByteArray := prog_1_method_38_code
def yX3_frameOfGreatest : MethodName := ⟨RX3, "frameOfGreatest", "(II)I"⟩
abbrev cX3_frameOfSmallest : ByteArray := prog_1_method_39_code
def yX3_frameOfSmallest : MethodName := ⟨RX3, "frameOfSmallest", "(II)I"⟩
abbrev cX3_greatestStep : ByteArray := prog_1_method_40_code
def yX3_greatestStep : MethodName := ⟨RX3, "greatestStep", "(II)I"⟩
abbrev cX3_greatestDifference : ByteArray := prog_1_method_41_code
def yX3_greatestDifference : MethodName := ⟨RX3, "greatestDifference", "(II)I"⟩
abbrev cX3_keyToLeaveOut : ByteArray := prog_1_method_42_code
def yX3_keyToLeaveOut : MethodName := ⟨RX3, "keyToLeaveOut", "(LEaseCurves$Curve;I)I"⟩
abbrev cX3_differenceWithout : ByteArray := prog_1_method_43_code
def yX3_differenceWithout : MethodName := ⟨RX3, "differenceWithout", "(LEaseCurves$Curve;I)I"⟩
def RX4 : String := "EaseCurvesModel"
def TX4 : u_T := fun k => match k with
  | 0 => ("EaseCurvesModel", "s", "[I", true)
  | 1 => ("EaseCurvesModel", "past", "[I", true)
  | 2 => ("EaseCurvesModel", "aside", "[I", true)
  | 3 => ("EaseCurvesModel", "kept", "[I", true)
  | 4 => ("EaseCurvesModel", "pasts", "I", false)
  | 5 => ("EaseCurvesModel", "text", "[I", true)
  | 6 => ("EaseCurvesModel", "typed", "I", false)
  | 7 => ("EaseCurvesModel", "thrown", "I", false)
  | 8 => ("EaseCurvesModel", "baked", "[I", true)
  | 9 => ("EaseCurvesModel", "at", "I", false)
  | _ => ("EaseCurvesModel", "number", "I", false)
def tyX4 : Nat → FieldType := fun k => match k with
  | 0 => .array .int
  | 1 => .array .int
  | 2 => .array .int
  | 3 => .array .int
  | 4 => .int
  | 5 => .array .int
  | 6 => .int
  | 7 => .int
  | 8 => .array .int
  | 9 => .int
  | _ => .int
abbrev wsX40 : List Cond := u_ws RX4 TX4 11
theorem nmX4 : ∀ a, a < 11 → ∀ b, b < 11 → a ≠ b → (TX4 a).2.1 ≠ (TX4 b).2.1 := by decide +kernel
theorem tyX4_ok : ∀ k, k < 11 → parseFieldDescriptor (TX4 k).2.2.1 = some (tyX4 k) := by decide +kernel
abbrev cX4_init : ByteArray := prog_6_method_1_code
def yX4_init : MethodName := ⟨RX4, "<init>", "()V"⟩
abbrev cX4_thrown : ByteArray := prog_6_method_2_code
def yX4_thrown : MethodName := ⟨RX4, "thrown", "()I"⟩
abbrev cX4_in : ByteArray := prog_6_method_3_code
def yX4_in : MethodName := ⟨RX4, "in", "(III)Z"⟩
abbrev cX4_fails : ByteArray := prog_6_method_4_code
def yX4_fails : MethodName := ⟨RX4, "fails", "(I)I"⟩
abbrev cX4_tells : ByteArray := prog_6_method_5_code
def yX4_tells : MethodName := ⟨RX4, "tells", "(I)I"⟩
abbrev cX4_hold : ByteArray := prog_6_method_6_code
def yX4_hold : MethodName := ⟨RX4, "hold", "()V"⟩
abbrev cX4_ends : ByteArray := prog_6_method_7_code
def yX4_ends : MethodName := ⟨RX4, "ends", "(I)I"⟩
abbrev cX4_isCurve : ByteArray := prog_6_method_8_code
def yX4_isCurve : MethodName := ⟨RX4, "isCurve", "(I)Z"⟩
abbrev cX4_many : ByteArray := prog_6_method_9_code
def yX4_many : MethodName := ⟨RX4, "many", "(I)I"⟩
abbrev cX4_isKey : ByteArray := prog_6_method_10_code
def yX4_isKey : MethodName := ⟨RX4, "isKey", "(II)Z"⟩
abbrev cX4_spot : ByteArray := prog_6_method_11_code
def yX4_spot : MethodName := ⟨RX4, "spot", "(II)I"⟩
abbrev cX4_of : ByteArray := prog_6_method_12_code
def yX4_of : MethodName := ⟨RX4, "of", "(III)I"⟩
abbrev cX4_isFrame : ByteArray := prog_6_method_13_code
def yX4_isFrame : MethodName := ⟨RX4, "isFrame", "(I)Z"⟩
abbrev cX4_isValue : ByteArray := prog_6_method_14_code
def yX4_isValue : MethodName := ⟨RX4, "isValue", "(I)Z"⟩
abbrev cX4_keyAt : ByteArray := prog_6_method_15_code
def yX4_keyAt : MethodName := ⟨RX4, "keyAt", "(II)I"⟩
abbrev cX4_hasLock : ByteArray := prog_6_method_16_code
def yX4_hasLock : MethodName := ⟨RX4, "hasLock", "(I)Z"⟩
abbrev cX4_tangent : ByteArray := prog_6_method_17_code
def yX4_tangent : MethodName := ⟨RX4, "tangent", "(II)I"⟩
abbrev cX4_valueAt : ByteArray := prog_6_method_18_code
def yX4_valueAt : MethodName := ⟨RX4, "valueAt", "(II)I"⟩
abbrev cX4_bakes : ByteArray := prog_6_method_19_code
def yX4_bakes : MethodName := ⟨RX4, "bakes", "(I)V"⟩
abbrev cX4_comes : ByteArray := prog_6_method_20_code
def yX4_comes : MethodName := ⟨RX4, "comes", "(IIII)I"⟩
abbrev cX4_goes : ByteArray := prog_6_method_21_code
def yX4_goes : MethodName := ⟨RX4, "goes", "(II)V"⟩
abbrev cX4_addKey : ByteArray := prog_6_method_22_code
def yX4_addKey : MethodName := ⟨RX4, "addKey", "(IIII)I"⟩
abbrev cX4_removeKey : ByteArray := prog_6_method_23_code
def yX4_removeKey : MethodName := ⟨RX4, "removeKey", "(II)I"⟩
abbrev cX4_setKey : ByteArray := prog_6_method_24_code
def yX4_setKey : MethodName := ⟨RX4, "setKey", "(IIII)I"⟩
abbrev cX4_moveKey : ByteArray := prog_6_method_25_code
def yX4_moveKey : MethodName := ⟨RX4, "moveKey", "(III)I"⟩
abbrev cX4_setTangent : ByteArray := prog_6_method_26_code
def yX4_setTangent : MethodName := ⟨RX4, "setTangent", "(IIII)I"⟩
abbrev cX4_lock : ByteArray := prog_6_method_27_code
def yX4_lock : MethodName := ⟨RX4, "lock", "(IIZ)I"⟩
abbrev cX4_stretched : ByteArray := prog_6_method_28_code
def yX4_stretched : MethodName := ⟨RX4, "stretched", "(IIII)I"⟩
abbrev cX4_mayStretch : ByteArray := prog_6_method_29_code
def yX4_mayStretch : MethodName := ⟨RX4, "mayStretch", "(IIII)Z"⟩
abbrev cX4_isSpan : ByteArray := prog_6_method_30_code
def yX4_isSpan : MethodName := ⟨RX4, "isSpan", "(II)Z"⟩
abbrev cX4_stretch : ByteArray := prog_6_method_31_code
def yX4_stretch : MethodName := ⟨RX4, "stretch", "(IIII)I"⟩
abbrev cX4_copy : ByteArray := prog_6_method_32_code
def yX4_copy : MethodName := ⟨RX4, "copy", "(III)I"⟩
abbrev cX4_errorOf : ByteArray := prog_6_method_33_code
def yX4_errorOf : MethodName := ⟨RX4, "errorOf", "(II)I"⟩
abbrev cX4_apart : ByteArray := prog_6_method_34_code
def yX4_apart : MethodName := ⟨RX4, "apart", "(II)I"⟩
abbrev cX4_leftOut : ByteArray := prog_6_method_35_code
def yX4_leftOut : MethodName := ⟨RX4, "leftOut", "(II)I"⟩
abbrev cX4_reduce : ByteArray := prog_6_method_36_code
def yX4_reduce : MethodName := ⟨RX4, "reduce", "(II)I"⟩
abbrev cX4_keyOf : ByteArray := prog_6_method_37_code
def yX4_keyOf : MethodName := ⟨RX4, "keyOf", "(III)I"⟩
abbrev cX4_key : ByteArray := prog_6_method_38_code
def yX4_key : MethodName := ⟨RX4, "key", "(III)I"⟩
abbrev cX4_value : ByteArray := prog_6_method_39_code
def yX4_value : MethodName := ⟨RX4, "value", "(II)I"⟩
abbrev cX4_areFrames : ByteArray := prog_6_method_40_code
def yX4_areFrames : MethodName := ⟨RX4, "areFrames", "(II)Z"⟩
abbrev cX4_sumOf : ByteArray := prog_6_method_41_code
def yX4_sumOf : MethodName := ⟨RX4, "sumOf", "(III)J"⟩
abbrev cX4_sum : ByteArray := prog_6_method_42_code
def yX4_sum : MethodName := ⟨RX4, "sum", "(III)J"⟩
abbrev cX4_extremeOf : ByteArray := prog_6_method_43_code
def yX4_extremeOf : MethodName := ⟨RX4, "extremeOf", "(IIII)I"⟩
abbrev cX4_extreme : ByteArray := prog_6_method_44_code
def yX4_extreme : MethodName := ⟨RX4, "extreme", "(IIII)I"⟩
abbrev cX4_crossings : ByteArray := prog_6_method_45_code
def yX4_crossings : MethodName := ⟨RX4, "crossings", "(II)I"⟩
abbrev cX4_difference : ByteArray := prog_6_method_46_code
def yX4_difference : MethodName := ⟨RX4, "difference", "(II)I"⟩
abbrev cX4_mean : ByteArray := prog_6_method_47_code
def yX4_mean : MethodName := ⟨RX4, "mean", "(I)D"⟩
abbrev cX4_error : ByteArray := prog_6_method_48_code
def yX4_error : MethodName := ⟨RX4, "error", "(II)I"⟩
abbrev cX4_greatestStretch : ByteArray := prog_6_method_49_code
def yX4_greatestStretch : MethodName := ⟨RX4, "greatestStretch", "(III)I"⟩
abbrev cX4_leastEase : ByteArray := prog_6_method_50_code
def yX4_leastEase : MethodName := ⟨RX4, "leastEase", "(II)I"⟩
abbrev cX4_append : ByteArray := prog_6_method_51_code
def yX4_append : MethodName := ⟨RX4, "append", "(I)I"⟩
abbrev cX4_clearText : ByteArray := prog_6_method_52_code
def yX4_clearText : MethodName := ⟨RX4, "clearText", "()I"⟩
abbrev cX4_isAt : ByteArray := prog_6_method_53_code
def yX4_isAt : MethodName := ⟨RX4, "isAt", "(II)Z"⟩
abbrev cX4_takes : ByteArray := prog_6_method_54_code
def yX4_takes : MethodName := ⟨RX4, "takes", "(I)Z"⟩
abbrev cX4_isNumber : ByteArray := prog_6_method_55_code
def yX4_isNumber : MethodName := ⟨RX4, "isNumber", "(I)Z"⟩
abbrev cX4_isItem : ByteArray := prog_6_method_56_code
def yX4_isItem : MethodName := ⟨RX4, "isItem", "(I)Z"⟩
abbrev cX4_parse : ByteArray := prog_6_method_57_code
def yX4_parse : MethodName := ⟨RX4, "parse", "(I)I"⟩
abbrev cX4_undo : ByteArray := prog_6_method_58_code
def yX4_undo : MethodName := ⟨RX4, "undo", "()I"⟩
abbrev cX4_digest : ByteArray := prog_6_method_59_code
def yX4_digest : MethodName := ⟨RX4, "digest", "()J"⟩
def RJ9 : String := "java/lang/Math"
def TJ9 : u_T := fun k => match k with
  | _ => ("", "", "", false)
def tyJ9 : Nat → FieldType := fun k => match k with
  | _ => .int
abbrev wsJ90 : List Cond := u_ws RJ9 TJ9 0
theorem nmJ9 : ∀ a, a < 0 → ∀ b, b < 0 → a ≠ b → (TJ9 a).2.1 ≠ (TJ9 b).2.1 := by decide +kernel
theorem tyJ9_ok : ∀ k, k < 0 → parseFieldDescriptor (TJ9 k).2.2.1 = some (tyJ9 k) := by decide +kernel
abbrev cJ9_abs_0f7a4 : ByteArray := prog_11_method_59_code
def yJ9_abs_0f7a4 : MethodName := ⟨RJ9, "abs", "(I)I"⟩
abbrev cJ9_max_7cf53 : ByteArray := prog_11_method_65_code
def yJ9_max_7cf53 : MethodName := ⟨RJ9, "max", "(II)I"⟩
abbrev cJ9_min_7cf53 : ByteArray := prog_11_method_69_code
def yJ9_min_7cf53 : MethodName := ⟨RJ9, "min", "(II)I"⟩
def RJ0 : String := "java/lang/String"
def TJ0 : u_T := fun k => match k with
  | _ => ("", "", "", false)
def tyJ0 : Nat → FieldType := fun k => match k with
  | _ => .int
abbrev wsJ00 : List Cond := u_ws RJ0 TJ0 0
theorem nmJ0 : ∀ a, a < 0 → ∀ b, b < 0 → a ≠ b → (TJ0 a).2.1 ≠ (TJ0 b).2.1 := by decide +kernel
theorem tyJ0_ok : ∀ k, k < 0 → parseFieldDescriptor (TJ0 k).2.2.1 = some (tyJ0 k) := by decide +kernel
def RJ10 : String := "java/lang/System"
def TJ10 : u_T := fun k => match k with
  | _ => ("", "", "", false)
def tyJ10 : Nat → FieldType := fun k => match k with
  | _ => .int
abbrev wsJ100 : List Cond := u_ws RJ10 TJ10 0
theorem nmJ10 : ∀ a, a < 0 → ∀ b, b < 0 → a ≠ b → (TJ10 a).2.1 ≠ (TJ10 b).2.1 := by decide +kernel
theorem tyJ10_ok : ∀ k, k < 0 → parseFieldDescriptor (TJ10 k).2.2.1 = some (tyJ10 k) := by decide +kernel
def RL : String := "EaseCurvesLaw"
abbrev cL_addKey : ByteArray := method_3_code
def yL_addKey : MethodName := ⟨RL, "addKey", "(LEaseCurves;IIII[J)I"⟩
abbrev cL_removeKey : ByteArray := method_4_code
def yL_removeKey : MethodName := ⟨RL, "removeKey", "(LEaseCurves;II[J)I"⟩
abbrev cL_setKey : ByteArray := method_5_code
def yL_setKey : MethodName := ⟨RL, "setKey", "(LEaseCurves;IIII[J)I"⟩
abbrev cL_moveKey : ByteArray := method_6_code
def yL_moveKey : MethodName := ⟨RL, "moveKey", "(LEaseCurves;III[J)I"⟩
abbrev cL_setTangent : ByteArray := method_7_code
def yL_setTangent : MethodName := ⟨RL, "setTangent", "(LEaseCurves;IIII[J)I"⟩
abbrev cL_lock : ByteArray := method_8_code
def yL_lock : MethodName := ⟨RL, "lock", "(LEaseCurves;IIZ[J)I"⟩
abbrev cL_stretch : ByteArray := method_9_code
def yL_stretch : MethodName := ⟨RL, "stretch", "(LEaseCurves;IIII[J)I"⟩
abbrev cL_copy : ByteArray := method_10_code
def yL_copy : MethodName := ⟨RL, "copy", "(LEaseCurves;III[J)I"⟩
abbrev cL_reduce : ByteArray := method_11_code
def yL_reduce : MethodName := ⟨RL, "reduce", "(LEaseCurves;II[J)I"⟩
abbrev cL_key : ByteArray := method_12_code
def yL_key : MethodName := ⟨RL, "key", "(LEaseCurves;III[J)I"⟩
abbrev cL_value : ByteArray := method_13_code
def yL_value : MethodName := ⟨RL, "value", "(LEaseCurves;II[J)I"⟩
abbrev cL_sum : ByteArray := method_14_code
def yL_sum : MethodName := ⟨RL, "sum", "(LEaseCurves;III[J)I"⟩
abbrev cL_extreme : ByteArray := method_15_code
def yL_extreme : MethodName := ⟨RL, "extreme", "(LEaseCurves;IIII[J)I"⟩
abbrev cL_crossings : ByteArray := method_16_code
def yL_crossings : MethodName := ⟨RL, "crossings", "(LEaseCurves;II[J)I"⟩
abbrev cL_difference : ByteArray := method_17_code
def yL_difference : MethodName := ⟨RL, "difference", "(LEaseCurves;II[J)I"⟩
abbrev cL_mean : ByteArray := method_18_code
def yL_mean : MethodName := ⟨RL, "mean", "(LEaseCurves;I[D)I"⟩
abbrev cL_error : ByteArray := method_19_code
def yL_error : MethodName := ⟨RL, "error", "(LEaseCurves;II[J)I"⟩
abbrev cL_greatestStretch : ByteArray := method_20_code
def yL_greatestStretch : MethodName := ⟨RL, "greatestStretch", "(LEaseCurves;III[J)I"⟩
abbrev cL_leastEase : ByteArray := method_21_code
def yL_leastEase : MethodName := ⟨RL, "leastEase", "(LEaseCurves;II[J)I"⟩
abbrev cL_append : ByteArray := method_22_code
def yL_append : MethodName := ⟨RL, "append", "(LEaseCurves;I[J)I"⟩
abbrev cL_parse : ByteArray := method_23_code
def yL_parse : MethodName := ⟨RL, "parse", "(LEaseCurves;I[J)I"⟩
abbrev cL_undo : ByteArray := method_24_code
def yL_undo : MethodName := ⟨RL, "undo", "(LEaseCurves;[J)I"⟩
abbrev cL_law : ByteArray := code
def yL_law : MethodName := ⟨RL, "law", "([I)Z"⟩
def wsX0_init : List Cond := .code yX0_init cX0_init 1 none :: ([.methodLink RX0 3 objectInit, .instanceMethod objectInit, .code objectInit ⟨#[0xb1]⟩ 1 none, .fieldLink RX0 9 "EaseCurves$Curve" "count" "I", .arrayClass .int, .fieldLink RX0 15 "EaseCurves$Curve" "cells" "[I"] ++ wsX00)
def wsX0_cell : List Cond := .code yX0_cell cX0_cell 3 (some .int) :: ([.fieldLink RX0 9 "EaseCurves$Curve" "count" "I", .fieldLink RX0 15 "EaseCurves$Curve" "cells" "[I"] ++ wsX00)
def wsX0_put : List Cond := .code yX0_put cX0_put 4 none :: ([.fieldLink RX0 9 "EaseCurves$Curve" "count" "I", .fieldLink RX0 15 "EaseCurves$Curve" "cells" "[I"] ++ wsX00)
def wsX0_isLocked : List Cond := .code yX0_isLocked cX0_isLocked 2 (some .boolean) :: ([.methodLink RX0 19 yX0_cell, .instanceMethod yX0_cell, .selects RX0 yX0_cell yX0_cell, .initialized RX0, .code yX0_cell cX0_cell 3 (some .int), .fieldLink RX0 9 "EaseCurves$Curve" "count" "I", .fieldLink RX0 15 "EaseCurves$Curve" "cells" "[I"] ++ wsX00)
def wsX0_hasLock : List Cond := .code yX0_hasLock cX0_hasLock 2 (some .boolean) :: ([.fieldLink RX0 9 "EaseCurves$Curve" "count" "I", .methodLink RX0 23 yX0_isLocked, .instanceMethod yX0_isLocked, .selects RX0 yX0_isLocked yX0_isLocked, .initialized RX0, .code yX0_isLocked cX0_isLocked 2 (some .boolean), .methodLink RX0 19 yX0_cell, .instanceMethod yX0_cell, .selects RX0 yX0_cell yX0_cell, .code yX0_cell cX0_cell 3 (some .int), .fieldLink RX0 15 "EaseCurves$Curve" "cells" "[I"] ++ wsX00)
def wsX0_mayLeaveOut : List Cond := .code yX0_mayLeaveOut cX0_mayLeaveOut 2 (some .boolean) :: ([.fieldLink RX0 9 "EaseCurves$Curve" "count" "I", .methodLink RX0 23 yX0_isLocked, .instanceMethod yX0_isLocked, .selects RX0 yX0_isLocked yX0_isLocked, .initialized RX0, .code yX0_isLocked cX0_isLocked 2 (some .boolean), .methodLink RX0 19 yX0_cell, .instanceMethod yX0_cell, .selects RX0 yX0_cell yX0_cell, .code yX0_cell cX0_cell 3 (some .int), .fieldLink RX0 15 "EaseCurves$Curve" "cells" "[I"] ++ wsX00)
def wsX0_countUpTo : List Cond := .code yX0_countUpTo cX0_countUpTo 3 (some .int) :: ([.fieldLink RX0 9 "EaseCurves$Curve" "count" "I", .methodLink RX0 19 yX0_cell, .instanceMethod yX0_cell, .selects RX0 yX0_cell yX0_cell, .initialized RX0, .code yX0_cell cX0_cell 3 (some .int), .fieldLink RX0 15 "EaseCurves$Curve" "cells" "[I"] ++ wsX00)
def wsX0_numberAtFrame : List Cond := .code yX0_numberAtFrame cX0_numberAtFrame 3 (some .int) :: ([.methodLink RX0 27 yX0_countUpTo, .instanceMethod yX0_countUpTo, .selects RX0 yX0_countUpTo yX0_countUpTo, .initialized RX0, .code yX0_countUpTo cX0_countUpTo 3 (some .int), .fieldLink RX0 9 "EaseCurves$Curve" "count" "I", .methodLink RX0 19 yX0_cell, .instanceMethod yX0_cell, .selects RX0 yX0_cell yX0_cell, .code yX0_cell cX0_cell 3 (some .int), .fieldLink RX0 15 "EaseCurves$Curve" "cells" "[I"] ++ wsX00)
def wsX0_lastFrame : List Cond := .code yX0_lastFrame cX0_lastFrame 1 (some .int) :: ([.fieldLink RX0 9 "EaseCurves$Curve" "count" "I", .methodLink RX0 19 yX0_cell, .instanceMethod yX0_cell, .selects RX0 yX0_cell yX0_cell, .initialized RX0, .code yX0_cell cX0_cell 3 (some .int), .fieldLink RX0 15 "EaseCurves$Curve" "cells" "[I"] ++ wsX00)
def wsX0_become : List Cond := .code yX0_become cX0_become 2 none :: ([.fieldLink RX0 9 "EaseCurves$Curve" "count" "I", .fieldLink RX0 15 "EaseCurves$Curve" "cells" "[I", .methodLink RX0 31 arraycopyName, .native arraycopyName, .static arraycopyName, .initialized "java/lang/System"] ++ wsX00)
def wsX0_insert : List Cond := .code yX0_insert cX0_insert 9 (some .int) :: ([.fieldLink RX0 9 "EaseCurves$Curve" "count" "I", .fieldLink RX0 15 "EaseCurves$Curve" "cells" "[I", .methodLink RX0 31 arraycopyName, .native arraycopyName, .static arraycopyName, .initialized "java/lang/System", .methodLink RX0 27 yX0_countUpTo, .instanceMethod yX0_countUpTo, .selects RX0 yX0_countUpTo yX0_countUpTo, .initialized RX0, .code yX0_countUpTo cX0_countUpTo 3 (some .int), .methodLink RX0 19 yX0_cell, .instanceMethod yX0_cell, .selects RX0 yX0_cell yX0_cell, .code yX0_cell cX0_cell 3 (some .int), .methodLink RX0 37 yX0_put, .instanceMethod yX0_put, .selects RX0 yX0_put yX0_put, .code yX0_put cX0_put 4 none] ++ wsX00)
def wsX0_takeOut : List Cond := .code yX0_takeOut cX0_takeOut 3 none :: ([.fieldLink RX0 9 "EaseCurves$Curve" "count" "I", .fieldLink RX0 15 "EaseCurves$Curve" "cells" "[I", .methodLink RX0 31 arraycopyName, .native arraycopyName, .static arraycopyName, .initialized "java/lang/System"] ++ wsX00)
def wsX0_moveTo_r1 : List Cond := [Cond.methodLink RX0 19 yX0_cell, Cond.instanceMethod yX0_cell, Cond.selects RX0 yX0_cell yX0_cell, Cond.initialized RX0, Cond.code yX0_cell cX0_cell 3 (some .int), Cond.fieldLink RX0 9 "EaseCurves$Curve" "count" "I", Cond.fieldLink RX0 15 "EaseCurves$Curve" "cells" "[I", Cond.methodLink RX0 41 yX0_takeOut, Cond.instanceMethod yX0_takeOut, Cond.selects RX0 yX0_takeOut yX0_takeOut, Cond.code yX0_takeOut cX0_takeOut 3 none, Cond.methodLink RX0 31 arraycopyName, Cond.native arraycopyName, Cond.static arraycopyName, Cond.initialized "java/lang/System", Cond.methodLink RX0 45 yX0_insert, Cond.instanceMethod yX0_insert, Cond.selects RX0 yX0_insert yX0_insert, Cond.code yX0_insert cX0_insert 9 (some .int), Cond.methodLink RX0 27 yX0_countUpTo, Cond.instanceMethod yX0_countUpTo, Cond.selects RX0 yX0_countUpTo yX0_countUpTo, Cond.code yX0_countUpTo cX0_countUpTo 3 (some .int), Cond.methodLink RX0 37 yX0_put]
def wsX0_moveTo_r2 : List Cond := [Cond.instanceMethod yX0_put, Cond.selects RX0 yX0_put yX0_put, Cond.code yX0_put cX0_put 4 none]
def wsX0_moveTo : List Cond := .code yX0_moveTo cX0_moveTo 8 (some .int) :: ((wsX0_moveTo_r1 ++ wsX0_moveTo_r2) ++ wsX00)
def wsX0_canRaise : List Cond := .code yX0_canRaise cX0_canRaise 3 (some .boolean) :: ([.fieldLink RX0 9 "EaseCurves$Curve" "count" "I", .methodLink RX0 49 Lib.Math.abs.name, .static Lib.Math.abs.name, .initialized "java/lang/Math", .code Lib.Math.abs.name Lib.Math.abs.code 1 (some .int), .methodLink RX0 19 yX0_cell, .instanceMethod yX0_cell, .selects RX0 yX0_cell yX0_cell, .initialized RX0, .code yX0_cell cX0_cell 3 (some .int), .fieldLink RX0 15 "EaseCurves$Curve" "cells" "[I"] ++ wsX00)
def wsX0_raise : List Cond := .code yX0_raise cX0_raise 3 none :: ([.fieldLink RX0 9 "EaseCurves$Curve" "count" "I", .methodLink RX0 19 yX0_cell, .instanceMethod yX0_cell, .selects RX0 yX0_cell yX0_cell, .initialized RX0, .code yX0_cell cX0_cell 3 (some .int), .fieldLink RX0 15 "EaseCurves$Curve" "cells" "[I", .methodLink RX0 37 yX0_put, .instanceMethod yX0_put, .selects RX0 yX0_put yX0_put, .code yX0_put cX0_put 4 none] ++ wsX00)
def wsX0_stretchedFrame : List Cond := .code yX0_stretchedFrame cX0_stretchedFrame 4 (some .int) :: ([])
def wsX0_canStretch : List Cond := .code yX0_canStretch cX0_canStretch 8 (some .boolean) :: ([.fieldLink RX0 9 "EaseCurves$Curve" "count" "I", .methodLink RX0 19 yX0_cell, .instanceMethod yX0_cell, .selects RX0 yX0_cell yX0_cell, .initialized RX0, .code yX0_cell cX0_cell 3 (some .int), .fieldLink RX0 15 "EaseCurves$Curve" "cells" "[I", .methodLink RX0 54 yX0_stretchedFrame, .static yX0_stretchedFrame, .code yX0_stretchedFrame cX0_stretchedFrame 4 (some .int), .methodLink RX0 23 yX0_isLocked, .instanceMethod yX0_isLocked, .selects RX0 yX0_isLocked yX0_isLocked, .code yX0_isLocked cX0_isLocked 2 (some .boolean)] ++ wsX00)
def wsX0_stretchSpan : List Cond := .code yX0_stretchSpan cX0_stretchSpan 8 (some .int) :: ([.fieldLink RX0 9 "EaseCurves$Curve" "count" "I", .methodLink RX0 19 yX0_cell, .instanceMethod yX0_cell, .selects RX0 yX0_cell yX0_cell, .initialized RX0, .code yX0_cell cX0_cell 3 (some .int), .fieldLink RX0 15 "EaseCurves$Curve" "cells" "[I", .methodLink RX0 54 yX0_stretchedFrame, .static yX0_stretchedFrame, .code yX0_stretchedFrame cX0_stretchedFrame 4 (some .int), .methodLink RX0 37 yX0_put, .instanceMethod yX0_put, .selects RX0 yX0_put yX0_put, .code yX0_put cX0_put 4 none] ++ wsX00)
def wsX0_isTurn : List Cond := .code yX0_isTurn cX0_isTurn 3 (some .boolean) :: ([])
def wsX0_tangentOf : List Cond := .code yX0_tangentOf cX0_tangentOf 6 (some .int) :: ([.fieldLink RX0 9 "EaseCurves$Curve" "count" "I", .methodLink RX0 19 yX0_cell, .instanceMethod yX0_cell, .selects RX0 yX0_cell yX0_cell, .initialized RX0, .code yX0_cell cX0_cell 3 (some .int), .fieldLink RX0 15 "EaseCurves$Curve" "cells" "[I", .methodLink RX0 58 yX0_isTurn, .static yX0_isTurn, .code yX0_isTurn cX0_isTurn 3 (some .boolean)] ++ wsX00)
def wsX0_riseByTangents : List Cond := .code yX0_riseByTangents cX0_riseByTangents 12 (some .long) :: ([.constantLong RX0 72 (3000), .constantLong RX0 74 (2), .constantLong RX0 85 (2000), .constantLong RX0 70 (1000000), .constantLong RX0 68 (1000), .constantLong RX0 76 (1000000000)])
def wsX0_valueBehind_r1 : List Cond := [Cond.methodLink RX0 65 Lib.Math.max.name, Cond.static Lib.Math.max.name, Cond.initialized "java/lang/Math", Cond.code Lib.Math.max.name Lib.Math.max.code 2 (some .int), Cond.fieldLink RX0 9 "EaseCurves$Curve" "count" "I", Cond.constantLong RX0 68 (1000), Cond.constantLong RX0 70 (1000000), Cond.constantLong RX0 72 (3000), Cond.constantLong RX0 74 (2), Cond.constantLong RX0 76 (1000000000), Cond.methodLink RX0 19 yX0_cell, Cond.instanceMethod yX0_cell, Cond.selects RX0 yX0_cell yX0_cell, Cond.initialized RX0, Cond.code yX0_cell cX0_cell 3 (some .int), Cond.fieldLink RX0 15 "EaseCurves$Curve" "cells" "[I", Cond.methodLink RX0 78 yX0_tangentOf, Cond.instanceMethod yX0_tangentOf, Cond.selects RX0 yX0_tangentOf yX0_tangentOf, Cond.code yX0_tangentOf cX0_tangentOf 6 (some .int), Cond.methodLink RX0 58 yX0_isTurn, Cond.static yX0_isTurn, Cond.code yX0_isTurn cX0_isTurn 3 (some .boolean), Cond.methodLink RX0 81 yX0_riseByTangents]
def wsX0_valueBehind_r2 : List Cond := [Cond.static yX0_riseByTangents, Cond.code yX0_riseByTangents cX0_riseByTangents 12 (some .long), Cond.constantLong RX0 85 (2000)]
def wsX0_valueBehind : List Cond := .code yX0_valueBehind cX0_valueBehind 14 (some .int) :: ((wsX0_valueBehind_r1 ++ wsX0_valueBehind_r2) ++ wsX00)
def wsX0_valueAt_r1 : List Cond := [Cond.methodLink RX0 27 yX0_countUpTo, Cond.instanceMethod yX0_countUpTo, Cond.selects RX0 yX0_countUpTo yX0_countUpTo, Cond.initialized RX0, Cond.code yX0_countUpTo cX0_countUpTo 3 (some .int), Cond.fieldLink RX0 9 "EaseCurves$Curve" "count" "I", Cond.methodLink RX0 19 yX0_cell, Cond.instanceMethod yX0_cell, Cond.selects RX0 yX0_cell yX0_cell, Cond.code yX0_cell cX0_cell 3 (some .int), Cond.fieldLink RX0 15 "EaseCurves$Curve" "cells" "[I", Cond.methodLink RX0 62 yX0_valueBehind, Cond.instanceMethod yX0_valueBehind, Cond.selects RX0 yX0_valueBehind yX0_valueBehind, Cond.code yX0_valueBehind cX0_valueBehind 14 (some .int), Cond.methodLink RX0 65 Lib.Math.max.name, Cond.static Lib.Math.max.name, Cond.initialized "java/lang/Math", Cond.code Lib.Math.max.name Lib.Math.max.code 2 (some .int), Cond.constantLong RX0 68 (1000), Cond.constantLong RX0 70 (1000000), Cond.constantLong RX0 72 (3000), Cond.constantLong RX0 74 (2), Cond.constantLong RX0 76 (1000000000)]
def wsX0_valueAt_r2 : List Cond := [Cond.methodLink RX0 78 yX0_tangentOf, Cond.instanceMethod yX0_tangentOf, Cond.selects RX0 yX0_tangentOf yX0_tangentOf, Cond.code yX0_tangentOf cX0_tangentOf 6 (some .int), Cond.methodLink RX0 58 yX0_isTurn, Cond.static yX0_isTurn, Cond.code yX0_isTurn cX0_isTurn 3 (some .boolean), Cond.methodLink RX0 81 yX0_riseByTangents, Cond.static yX0_riseByTangents, Cond.code yX0_riseByTangents cX0_riseByTangents 12 (some .long), Cond.constantLong RX0 85 (2000)]
def wsX0_valueAt : List Cond := .code yX0_valueAt cX0_valueAt 2 (some .int) :: ((wsX0_valueAt_r1 ++ wsX0_valueAt_r2) ++ wsX00)
def wsX0_bake_r1 : List Cond := [Cond.fieldLink RX0 9 "EaseCurves$Curve" "count" "I", Cond.methodLink RX0 27 yX0_countUpTo, Cond.instanceMethod yX0_countUpTo, Cond.selects RX0 yX0_countUpTo yX0_countUpTo, Cond.initialized RX0, Cond.code yX0_countUpTo cX0_countUpTo 3 (some .int), Cond.methodLink RX0 19 yX0_cell, Cond.instanceMethod yX0_cell, Cond.selects RX0 yX0_cell yX0_cell, Cond.code yX0_cell cX0_cell 3 (some .int), Cond.fieldLink RX0 15 "EaseCurves$Curve" "cells" "[I", Cond.methodLink RX0 62 yX0_valueBehind, Cond.instanceMethod yX0_valueBehind, Cond.selects RX0 yX0_valueBehind yX0_valueBehind, Cond.code yX0_valueBehind cX0_valueBehind 14 (some .int), Cond.methodLink RX0 65 Lib.Math.max.name, Cond.static Lib.Math.max.name, Cond.initialized "java/lang/Math", Cond.code Lib.Math.max.name Lib.Math.max.code 2 (some .int), Cond.constantLong RX0 68 (1000), Cond.constantLong RX0 70 (1000000), Cond.constantLong RX0 72 (3000), Cond.constantLong RX0 74 (2), Cond.constantLong RX0 76 (1000000000)]
def wsX0_bake_r2 : List Cond := [Cond.methodLink RX0 78 yX0_tangentOf, Cond.instanceMethod yX0_tangentOf, Cond.selects RX0 yX0_tangentOf yX0_tangentOf, Cond.code yX0_tangentOf cX0_tangentOf 6 (some .int), Cond.methodLink RX0 58 yX0_isTurn, Cond.static yX0_isTurn, Cond.code yX0_isTurn cX0_isTurn 3 (some .boolean), Cond.methodLink RX0 81 yX0_riseByTangents, Cond.static yX0_riseByTangents, Cond.code yX0_riseByTangents cX0_riseByTangents 12 (some .long), Cond.constantLong RX0 85 (2000)]
def wsX0_bake : List Cond := .code yX0_bake cX0_bake 6 none :: ((wsX0_bake_r1 ++ wsX0_bake_r2) ++ wsX00)
def wsX1_init : List Cond := .code yX1_init cX1_init 1 none :: ([.methodLink RX1 3 objectInit, .instanceMethod objectInit, .code objectInit ⟨#[0xb1]⟩ 1 none, .arrayClass .byte, .fieldLink RX1 9 "EaseCurves$CurveText" "bytes" "[B", .fieldLink RX1 15 "EaseCurves$CurveText" "length" "I", .fieldLink RX1 19 "EaseCurves$CurveText" "at" "I"] ++ wsX10)
def wsX1_add : List Cond := .code yX1_add cX1_add 2 none :: ([.fieldLink RX1 15 "EaseCurves$CurveText" "length" "I", .fieldLink RX1 9 "EaseCurves$CurveText" "bytes" "[B"] ++ wsX10)
def wsX1_isSign : List Cond := .code yX1_isSign cX1_isSign 4 (some .boolean) :: ([.fieldLink RX1 15 "EaseCurves$CurveText" "length" "I", .fieldLink RX1 9 "EaseCurves$CurveText" "bytes" "[B"] ++ wsX10)
def wsX1_readDigits : List Cond := .code yX1_readDigits cX1_readDigits 4 (some .int) :: ([.fieldLink RX1 19 "EaseCurves$CurveText" "at" "I", .fieldLink RX1 9 "EaseCurves$CurveText" "bytes" "[B", .methodLink RX1 35 yX1_isSign, .instanceMethod yX1_isSign, .selects RX1 yX1_isSign yX1_isSign, .initialized RX1, .code yX1_isSign cX1_isSign 4 (some .boolean), .fieldLink RX1 15 "EaseCurves$CurveText" "length" "I"] ++ wsX10)
def wsX1_skip : List Cond := .code yX1_skip cX1_skip 2 (some .boolean) :: ([.fieldLink RX1 19 "EaseCurves$CurveText" "at" "I", .methodLink RX1 35 yX1_isSign, .instanceMethod yX1_isSign, .selects RX1 yX1_isSign yX1_isSign, .initialized RX1, .code yX1_isSign cX1_isSign 4 (some .boolean), .fieldLink RX1 15 "EaseCurves$CurveText" "length" "I", .fieldLink RX1 9 "EaseCurves$CurveText" "bytes" "[B"] ++ wsX10)
def wsX1_readMode : List Cond := .code yX1_readMode cX1_readMode 1 (some .int) :: ([.methodLink RX1 43 yX1_skip, .instanceMethod yX1_skip, .selects RX1 yX1_skip yX1_skip, .initialized RX1, .code yX1_skip cX1_skip 2 (some .boolean), .fieldLink RX1 19 "EaseCurves$CurveText" "at" "I", .methodLink RX1 35 yX1_isSign, .instanceMethod yX1_isSign, .selects RX1 yX1_isSign yX1_isSign, .code yX1_isSign cX1_isSign 4 (some .boolean), .fieldLink RX1 15 "EaseCurves$CurveText" "length" "I", .fieldLink RX1 9 "EaseCurves$CurveText" "bytes" "[B"] ++ wsX10)
def wsX1_readKey_r1 : List Cond := [Cond.fieldLink RX1 19 "EaseCurves$CurveText" "at" "I", Cond.methodLink RX1 31 yX1_readDigits, Cond.instanceMethod yX1_readDigits, Cond.selects RX1 yX1_readDigits yX1_readDigits, Cond.initialized RX1, Cond.code yX1_readDigits cX1_readDigits 4 (some .int), Cond.fieldLink RX1 9 "EaseCurves$CurveText" "bytes" "[B", Cond.methodLink RX1 35 yX1_isSign, Cond.instanceMethod yX1_isSign, Cond.selects RX1 yX1_isSign yX1_isSign, Cond.code yX1_isSign cX1_isSign 4 (some .boolean), Cond.fieldLink RX1 15 "EaseCurves$CurveText" "length" "I", Cond.instanceMethod yX0_lastFrame, Cond.initialized RX0, Cond.selects RX0 yX0_lastFrame yX0_lastFrame, Cond.code yX0_lastFrame cX0_lastFrame 1 (some .int), Cond.fieldLink RX0 9 "EaseCurves$Curve" "count" "I", Cond.methodLink RX0 19 yX0_cell, Cond.instanceMethod yX0_cell, Cond.selects RX0 yX0_cell yX0_cell, Cond.code yX0_cell cX0_cell 3 (some .int), Cond.fieldLink RX0 15 "EaseCurves$Curve" "cells" "[I", Cond.methodLink RX1 43 yX1_skip, Cond.instanceMethod yX1_skip]
def wsX1_readKey_r2 : List Cond := [Cond.selects RX1 yX1_skip yX1_skip, Cond.code yX1_skip cX1_skip 2 (some .boolean), Cond.methodLink RX1 47 yX1_readMode, Cond.instanceMethod yX1_readMode, Cond.selects RX1 yX1_readMode yX1_readMode, Cond.code yX1_readMode cX1_readMode 1 (some .int), Cond.instanceMethod yX0_insert, Cond.selects RX0 yX0_insert yX0_insert, Cond.code yX0_insert cX0_insert 9 (some .int), Cond.methodLink RX0 31 arraycopyName, Cond.native arraycopyName, Cond.static arraycopyName, Cond.initialized "java/lang/System", Cond.methodLink RX0 27 yX0_countUpTo, Cond.instanceMethod yX0_countUpTo, Cond.selects RX0 yX0_countUpTo yX0_countUpTo, Cond.code yX0_countUpTo cX0_countUpTo 3 (some .int), Cond.methodLink RX0 37 yX0_put, Cond.instanceMethod yX0_put, Cond.selects RX0 yX0_put yX0_put, Cond.code yX0_put cX0_put 4 none]
def wsX1_readKey : List Cond := .code yX1_readKey cX1_readKey 9 (some .boolean) :: ((wsX1_readKey_r1 ++ wsX1_readKey_r2) ++ wsX10 ++ wsX00)
def wsX1_readInto_r1 : List Cond := [Cond.fieldLink RX1 19 "EaseCurves$CurveText" "at" "I", Cond.fieldLink RX1 15 "EaseCurves$CurveText" "length" "I", Cond.methodLink RX1 27 yX1_readKey, Cond.instanceMethod yX1_readKey, Cond.selects RX1 yX1_readKey yX1_readKey, Cond.initialized RX1, Cond.code yX1_readKey cX1_readKey 9 (some .boolean), Cond.methodLink RX1 31 yX1_readDigits, Cond.instanceMethod yX1_readDigits, Cond.selects RX1 yX1_readDigits yX1_readDigits, Cond.code yX1_readDigits cX1_readDigits 4 (some .int), Cond.fieldLink RX1 9 "EaseCurves$CurveText" "bytes" "[B", Cond.methodLink RX1 35 yX1_isSign, Cond.instanceMethod yX1_isSign, Cond.selects RX1 yX1_isSign yX1_isSign, Cond.code yX1_isSign cX1_isSign 4 (some .boolean), Cond.instanceMethod yX0_lastFrame, Cond.initialized RX0, Cond.selects RX0 yX0_lastFrame yX0_lastFrame, Cond.code yX0_lastFrame cX0_lastFrame 1 (some .int), Cond.fieldLink RX0 9 "EaseCurves$Curve" "count" "I", Cond.methodLink RX0 19 yX0_cell, Cond.instanceMethod yX0_cell, Cond.selects RX0 yX0_cell yX0_cell]
def wsX1_readInto_r2 : List Cond := [Cond.code yX0_cell cX0_cell 3 (some .int), Cond.fieldLink RX0 15 "EaseCurves$Curve" "cells" "[I", Cond.methodLink RX1 43 yX1_skip, Cond.instanceMethod yX1_skip, Cond.selects RX1 yX1_skip yX1_skip, Cond.code yX1_skip cX1_skip 2 (some .boolean), Cond.methodLink RX1 47 yX1_readMode, Cond.instanceMethod yX1_readMode, Cond.selects RX1 yX1_readMode yX1_readMode, Cond.code yX1_readMode cX1_readMode 1 (some .int), Cond.instanceMethod yX0_insert, Cond.selects RX0 yX0_insert yX0_insert, Cond.code yX0_insert cX0_insert 9 (some .int), Cond.methodLink RX0 31 arraycopyName, Cond.native arraycopyName, Cond.static arraycopyName, Cond.initialized "java/lang/System", Cond.methodLink RX0 27 yX0_countUpTo, Cond.instanceMethod yX0_countUpTo, Cond.selects RX0 yX0_countUpTo yX0_countUpTo, Cond.code yX0_countUpTo cX0_countUpTo 3 (some .int), Cond.methodLink RX0 37 yX0_put, Cond.instanceMethod yX0_put, Cond.selects RX0 yX0_put yX0_put]
def wsX1_readInto_r3 : List Cond := [Cond.code yX0_put cX0_put 4 none]
def wsX1_readInto : List Cond := .code yX1_readInto cX1_readInto 3 (some .int) :: ((wsX1_readInto_r1 ++ (wsX1_readInto_r2 ++ wsX1_readInto_r3)) ++ wsX00 ++ wsX10)
def wsX2_init : List Cond := .code yX2_init cX2_init 2 none :: ([.methodLink RX2 3 objectInit, .instanceMethod objectInit, .code objectInit ⟨#[0xb1]⟩ 1 none, .classLink RX2 9 RX0, .fieldLink RX2 11 "EaseCurves$State" "curves" "[LEaseCurves$Curve;", .instantiable RX0 2, .initialized RX0, .instanceMethod yX0_init, .code yX0_init cX0_init 1 none, .methodLink RX0 3 objectInit, .fieldLink RX0 9 "EaseCurves$Curve" "count" "I", .arrayClass .int, .fieldLink RX0 15 "EaseCurves$Curve" "cells" "[I"] ++ wsX20 ++ wsX00)
def wsX2_become : List Cond := .code yX2_become cX2_become 3 none :: ([.fieldLink RX2 11 "EaseCurves$State" "curves" "[LEaseCurves$Curve;", .instanceMethod yX0_become, .initialized RX0, .selects RX0 yX0_become yX0_become, .code yX0_become cX0_become 2 none, .fieldLink RX0 9 "EaseCurves$Curve" "count" "I", .fieldLink RX0 15 "EaseCurves$Curve" "cells" "[I", .methodLink RX0 31 arraycopyName, .native arraycopyName, .static arraycopyName, .initialized "java/lang/System"] ++ wsX20 ++ wsX00)
def wsX3_init_r1 : List Cond := [Cond.methodLink RX3 3 objectInit, Cond.instanceMethod objectInit, Cond.code objectInit ⟨#[0xb1]⟩ 1 none, Cond.classLink RX3 9 RX2, Cond.instantiable RX2 1, Cond.initialized RX2, Cond.fieldLink RX3 12 "EaseCurves" "present" "LEaseCurves$State;", Cond.fieldLink RX3 16 "EaseCurves" "saved" "[LEaseCurves$State;", Cond.fieldLink RX3 20 "EaseCurves" "savedCount" "I", Cond.classLink RX3 24 RX1, Cond.instantiable RX1 3, Cond.initialized RX1, Cond.fieldLink RX3 27 "EaseCurves" "text" "LEaseCurves$CurveText;", Cond.classLink RX3 31 RX0, Cond.instantiable RX0 2, Cond.initialized RX0, Cond.fieldLink RX3 34 "EaseCurves" "trial" "LEaseCurves$Curve;", Cond.arrayClass .int, Cond.fieldLink RX3 38 "EaseCurves" "values" "[I", Cond.fieldLink RX3 42 "EaseCurves" "otherValues" "[I", Cond.instanceMethod yX2_init, Cond.code yX2_init cX2_init 2 none, Cond.methodLink RX2 3 objectInit, Cond.classLink RX2 9 RX0]
def wsX3_init_r2 : List Cond := [Cond.fieldLink RX2 11 "EaseCurves$State" "curves" "[LEaseCurves$Curve;", Cond.instanceMethod yX0_init, Cond.code yX0_init cX0_init 1 none, Cond.methodLink RX0 3 objectInit, Cond.fieldLink RX0 9 "EaseCurves$Curve" "count" "I", Cond.fieldLink RX0 15 "EaseCurves$Curve" "cells" "[I", Cond.instanceMethod yX1_init, Cond.code yX1_init cX1_init 1 none, Cond.methodLink RX1 3 objectInit, Cond.arrayClass .byte, Cond.fieldLink RX1 9 "EaseCurves$CurveText" "bytes" "[B", Cond.fieldLink RX1 15 "EaseCurves$CurveText" "length" "I", Cond.fieldLink RX1 19 "EaseCurves$CurveText" "at" "I"]
def wsX3_init : List Cond := .code yX3_init cX3_init 2 none :: ((wsX3_init_r1 ++ wsX3_init_r2) ++ wsX20 ++ wsX30 ++ wsX10 ++ wsX00)
def wsX3_curveNumbered : List Cond := .code yX3_curveNumbered cX3_curveNumbered 2 (some (.object "EaseCurves$Curve")) :: ([.classLink RX3 176 "java/lang/IndexOutOfBoundsException", .initialized "java/lang/IndexOutOfBoundsException", .fieldLink RX3 12 "EaseCurves" "present" "LEaseCurves$State;"] ++ wsX30 ++ wsX20 ++ (vx_atS RX3 180 "java/lang/IndexOutOfBoundsException" ["java/lang/RuntimeException", "java/lang/Exception"]).filter goodWord)
def wsX3_requireRange : List Cond := .code yX3_requireRange cX3_requireRange 3 none :: ([.classLink RX3 214 "java/lang/IllegalArgumentException", .initialized "java/lang/IllegalArgumentException"] ++ (vx_atS RX3 218 "java/lang/IllegalArgumentException" ["java/lang/RuntimeException", "java/lang/Exception"]).filter goodWord)
def wsX3_dropOldestState : List Cond := .code yX3_dropOldestState cX3_dropOldestState 3 none :: ([.fieldLink RX3 16 "EaseCurves" "saved" "[LEaseCurves$State;", .fieldLink RX3 20 "EaseCurves" "savedCount" "I"] ++ wsX30)
def wsX3_saveState : List Cond := .code yX3_saveState cX3_saveState 1 none :: ([.fieldLink RX3 20 "EaseCurves" "savedCount" "I", .fieldLink RX3 16 "EaseCurves" "saved" "[LEaseCurves$State;", .fieldLink RX3 12 "EaseCurves" "present" "LEaseCurves$State;", .methodLink RX3 230 yX3_dropOldestState, .instanceMethod yX3_dropOldestState, .selects RX3 yX3_dropOldestState yX3_dropOldestState, .initialized RX3, .code yX3_dropOldestState cX3_dropOldestState 3 none, .instanceMethod yX2_become, .initialized RX2, .selects RX2 yX2_become yX2_become, .code yX2_become cX2_become 3 none, .fieldLink RX2 11 "EaseCurves$State" "curves" "[LEaseCurves$Curve;", .instanceMethod yX0_become, .initialized RX0, .selects RX0 yX0_become yX0_become, .code yX0_become cX0_become 2 none, .fieldLink RX0 9 "EaseCurves$Curve" "count" "I", .fieldLink RX0 15 "EaseCurves$Curve" "cells" "[I", .methodLink RX0 31 arraycopyName, .native arraycopyName, .static arraycopyName, .initialized "java/lang/System"] ++ wsX30 ++ wsX20 ++ wsX00)
def wsX3_addKey_r1 : List Cond := [Cond.classLink RX3 56 "java/lang/IllegalStateException", Cond.initialized "java/lang/IllegalStateException", Cond.methodLink RX3 45 yX3_curveNumbered, Cond.instanceMethod yX3_curveNumbered, Cond.selects RX3 yX3_curveNumbered yX3_curveNumbered, Cond.initialized RX3, Cond.code yX3_curveNumbered cX3_curveNumbered 2 (some (.object "EaseCurves$Curve")), Cond.classLink RX3 176 "java/lang/IndexOutOfBoundsException", Cond.initialized "java/lang/IndexOutOfBoundsException", Cond.fieldLink RX3 12 "EaseCurves" "present" "LEaseCurves$State;", Cond.methodLink RX3 49 yX3_requireRange, Cond.static yX3_requireRange, Cond.code yX3_requireRange cX3_requireRange 3 none, Cond.classLink RX3 214 "java/lang/IllegalArgumentException", Cond.initialized "java/lang/IllegalArgumentException", Cond.instanceMethod yX0_numberAtFrame, Cond.initialized RX0, Cond.selects RX0 yX0_numberAtFrame yX0_numberAtFrame, Cond.code yX0_numberAtFrame cX0_numberAtFrame 3 (some .int), Cond.methodLink RX0 27 yX0_countUpTo, Cond.instanceMethod yX0_countUpTo, Cond.selects RX0 yX0_countUpTo yX0_countUpTo, Cond.code yX0_countUpTo cX0_countUpTo 3 (some .int), Cond.fieldLink RX0 9 "EaseCurves$Curve" "count" "I"]
def wsX3_addKey_r2 : List Cond := [Cond.methodLink RX0 19 yX0_cell, Cond.instanceMethod yX0_cell, Cond.selects RX0 yX0_cell yX0_cell, Cond.code yX0_cell cX0_cell 3 (some .int), Cond.fieldLink RX0 15 "EaseCurves$Curve" "cells" "[I", Cond.methodLink RX3 69 yX3_saveState, Cond.instanceMethod yX3_saveState, Cond.selects RX3 yX3_saveState yX3_saveState, Cond.code yX3_saveState cX3_saveState 1 none, Cond.fieldLink RX3 20 "EaseCurves" "savedCount" "I", Cond.fieldLink RX3 16 "EaseCurves" "saved" "[LEaseCurves$State;", Cond.methodLink RX3 230 yX3_dropOldestState, Cond.instanceMethod yX3_dropOldestState, Cond.selects RX3 yX3_dropOldestState yX3_dropOldestState, Cond.code yX3_dropOldestState cX3_dropOldestState 3 none, Cond.instanceMethod yX2_become, Cond.initialized RX2, Cond.selects RX2 yX2_become yX2_become, Cond.code yX2_become cX2_become 3 none, Cond.fieldLink RX2 11 "EaseCurves$State" "curves" "[LEaseCurves$Curve;", Cond.instanceMethod yX0_become, Cond.selects RX0 yX0_become yX0_become, Cond.code yX0_become cX0_become 2 none, Cond.methodLink RX0 31 arraycopyName]
def wsX3_addKey_r3 : List Cond := [Cond.native arraycopyName, Cond.static arraycopyName, Cond.initialized "java/lang/System", Cond.instanceMethod yX0_insert, Cond.selects RX0 yX0_insert yX0_insert, Cond.code yX0_insert cX0_insert 9 (some .int), Cond.methodLink RX0 37 yX0_put, Cond.instanceMethod yX0_put, Cond.selects RX0 yX0_put yX0_put, Cond.code yX0_put cX0_put 4 none]
def wsX3_addKey : List Cond := .code yX3_addKey cX3_addKey 6 (some .int) :: ((wsX3_addKey_r1 ++ (wsX3_addKey_r2 ++ wsX3_addKey_r3)) ++ wsX00 ++ wsX30 ++ wsX20 ++ (vx_atS RX3 60 "java/lang/IllegalStateException" ["java/lang/RuntimeException", "java/lang/Exception"]).filter goodWord ++ (vx_atS RX3 180 "java/lang/IndexOutOfBoundsException" ["java/lang/RuntimeException", "java/lang/Exception"]).filter goodWord ++ (vx_atS RX3 218 "java/lang/IllegalArgumentException" ["java/lang/RuntimeException", "java/lang/Exception"]).filter goodWord)
def wsX3_requireKey : List Cond := .code yX3_requireKey cX3_requireKey 2 none :: ([.classLink RX3 176 "java/lang/IndexOutOfBoundsException", .initialized "java/lang/IndexOutOfBoundsException"] ++ wsX00 ++ (vx_atS RX3 180 "java/lang/IndexOutOfBoundsException" ["java/lang/RuntimeException", "java/lang/Exception"]).filter goodWord)
def wsX3_requireUnlocked : List Cond := .code yX3_requireUnlocked cX3_requireUnlocked 2 none :: ([.classLink RX3 56 "java/lang/IllegalStateException", .initialized "java/lang/IllegalStateException", .instanceMethod yX0_isLocked, .initialized RX0, .selects RX0 yX0_isLocked yX0_isLocked, .code yX0_isLocked cX0_isLocked 2 (some .boolean), .methodLink RX0 19 yX0_cell, .instanceMethod yX0_cell, .selects RX0 yX0_cell yX0_cell, .code yX0_cell cX0_cell 3 (some .int), .fieldLink RX0 9 "EaseCurves$Curve" "count" "I", .fieldLink RX0 15 "EaseCurves$Curve" "cells" "[I"] ++ wsX00 ++ (vx_atS RX3 60 "java/lang/IllegalStateException" ["java/lang/RuntimeException", "java/lang/Exception"]).filter goodWord)
def wsX3_removeKey_r1 : List Cond := [Cond.methodLink RX3 45 yX3_curveNumbered, Cond.instanceMethod yX3_curveNumbered, Cond.selects RX3 yX3_curveNumbered yX3_curveNumbered, Cond.initialized RX3, Cond.code yX3_curveNumbered cX3_curveNumbered 2 (some (.object "EaseCurves$Curve")), Cond.classLink RX3 176 "java/lang/IndexOutOfBoundsException", Cond.initialized "java/lang/IndexOutOfBoundsException", Cond.fieldLink RX3 12 "EaseCurves" "present" "LEaseCurves$State;", Cond.methodLink RX3 76 yX3_requireKey, Cond.static yX3_requireKey, Cond.code yX3_requireKey cX3_requireKey 2 none, Cond.methodLink RX3 80 yX3_requireUnlocked, Cond.static yX3_requireUnlocked, Cond.code yX3_requireUnlocked cX3_requireUnlocked 2 none, Cond.classLink RX3 56 "java/lang/IllegalStateException", Cond.initialized "java/lang/IllegalStateException", Cond.instanceMethod yX0_isLocked, Cond.initialized RX0, Cond.selects RX0 yX0_isLocked yX0_isLocked, Cond.code yX0_isLocked cX0_isLocked 2 (some .boolean), Cond.methodLink RX0 19 yX0_cell, Cond.instanceMethod yX0_cell, Cond.selects RX0 yX0_cell yX0_cell, Cond.code yX0_cell cX0_cell 3 (some .int)]
def wsX3_removeKey_r2 : List Cond := [Cond.fieldLink RX0 9 "EaseCurves$Curve" "count" "I", Cond.fieldLink RX0 15 "EaseCurves$Curve" "cells" "[I", Cond.methodLink RX3 69 yX3_saveState, Cond.instanceMethod yX3_saveState, Cond.selects RX3 yX3_saveState yX3_saveState, Cond.code yX3_saveState cX3_saveState 1 none, Cond.fieldLink RX3 20 "EaseCurves" "savedCount" "I", Cond.fieldLink RX3 16 "EaseCurves" "saved" "[LEaseCurves$State;", Cond.methodLink RX3 230 yX3_dropOldestState, Cond.instanceMethod yX3_dropOldestState, Cond.selects RX3 yX3_dropOldestState yX3_dropOldestState, Cond.code yX3_dropOldestState cX3_dropOldestState 3 none, Cond.instanceMethod yX2_become, Cond.initialized RX2, Cond.selects RX2 yX2_become yX2_become, Cond.code yX2_become cX2_become 3 none, Cond.fieldLink RX2 11 "EaseCurves$State" "curves" "[LEaseCurves$Curve;", Cond.instanceMethod yX0_become, Cond.selects RX0 yX0_become yX0_become, Cond.code yX0_become cX0_become 2 none, Cond.methodLink RX0 31 arraycopyName, Cond.native arraycopyName, Cond.static arraycopyName, Cond.initialized "java/lang/System"]
def wsX3_removeKey_r3 : List Cond := [Cond.instanceMethod yX0_takeOut, Cond.selects RX0 yX0_takeOut yX0_takeOut, Cond.code yX0_takeOut cX0_takeOut 3 none]
def wsX3_removeKey : List Cond := .code yX3_removeKey cX3_removeKey 4 (some .int) :: ((wsX3_removeKey_r1 ++ (wsX3_removeKey_r2 ++ wsX3_removeKey_r3)) ++ wsX00 ++ wsX30 ++ wsX20 ++ (vx_atS RX3 180 "java/lang/IndexOutOfBoundsException" ["java/lang/RuntimeException", "java/lang/Exception"]).filter goodWord ++ (vx_atS RX3 60 "java/lang/IllegalStateException" ["java/lang/RuntimeException", "java/lang/Exception"]).filter goodWord)
def wsX3_setKey_r1 : List Cond := [Cond.methodLink RX3 45 yX3_curveNumbered, Cond.instanceMethod yX3_curveNumbered, Cond.selects RX3 yX3_curveNumbered yX3_curveNumbered, Cond.initialized RX3, Cond.code yX3_curveNumbered cX3_curveNumbered 2 (some (.object "EaseCurves$Curve")), Cond.classLink RX3 176 "java/lang/IndexOutOfBoundsException", Cond.initialized "java/lang/IndexOutOfBoundsException", Cond.fieldLink RX3 12 "EaseCurves" "present" "LEaseCurves$State;", Cond.methodLink RX3 76 yX3_requireKey, Cond.static yX3_requireKey, Cond.code yX3_requireKey cX3_requireKey 2 none, Cond.methodLink RX3 49 yX3_requireRange, Cond.static yX3_requireRange, Cond.code yX3_requireRange cX3_requireRange 3 none, Cond.classLink RX3 214 "java/lang/IllegalArgumentException", Cond.initialized "java/lang/IllegalArgumentException", Cond.methodLink RX3 80 yX3_requireUnlocked, Cond.static yX3_requireUnlocked, Cond.code yX3_requireUnlocked cX3_requireUnlocked 2 none, Cond.classLink RX3 56 "java/lang/IllegalStateException", Cond.initialized "java/lang/IllegalStateException", Cond.instanceMethod yX0_isLocked, Cond.initialized RX0, Cond.selects RX0 yX0_isLocked yX0_isLocked]
def wsX3_setKey_r2 : List Cond := [Cond.code yX0_isLocked cX0_isLocked 2 (some .boolean), Cond.methodLink RX0 19 yX0_cell, Cond.instanceMethod yX0_cell, Cond.selects RX0 yX0_cell yX0_cell, Cond.code yX0_cell cX0_cell 3 (some .int), Cond.fieldLink RX0 9 "EaseCurves$Curve" "count" "I", Cond.fieldLink RX0 15 "EaseCurves$Curve" "cells" "[I", Cond.methodLink RX3 69 yX3_saveState, Cond.instanceMethod yX3_saveState, Cond.selects RX3 yX3_saveState yX3_saveState, Cond.code yX3_saveState cX3_saveState 1 none, Cond.fieldLink RX3 20 "EaseCurves" "savedCount" "I", Cond.fieldLink RX3 16 "EaseCurves" "saved" "[LEaseCurves$State;", Cond.methodLink RX3 230 yX3_dropOldestState, Cond.instanceMethod yX3_dropOldestState, Cond.selects RX3 yX3_dropOldestState yX3_dropOldestState, Cond.code yX3_dropOldestState cX3_dropOldestState 3 none, Cond.instanceMethod yX2_become, Cond.initialized RX2, Cond.selects RX2 yX2_become yX2_become, Cond.code yX2_become cX2_become 3 none, Cond.fieldLink RX2 11 "EaseCurves$State" "curves" "[LEaseCurves$Curve;", Cond.instanceMethod yX0_become, Cond.selects RX0 yX0_become yX0_become]
def wsX3_setKey_r3 : List Cond := [Cond.code yX0_become cX0_become 2 none, Cond.methodLink RX0 31 arraycopyName, Cond.native arraycopyName, Cond.static arraycopyName, Cond.initialized "java/lang/System", Cond.instanceMethod yX0_put, Cond.selects RX0 yX0_put yX0_put, Cond.code yX0_put cX0_put 4 none]
def wsX3_setKey : List Cond := .code yX3_setKey cX3_setKey 7 (some .int) :: ((wsX3_setKey_r1 ++ (wsX3_setKey_r2 ++ wsX3_setKey_r3)) ++ wsX30 ++ wsX20 ++ wsX00 ++ (vx_atS RX3 180 "java/lang/IndexOutOfBoundsException" ["java/lang/RuntimeException", "java/lang/Exception"]).filter goodWord ++ (vx_atS RX3 218 "java/lang/IllegalArgumentException" ["java/lang/RuntimeException", "java/lang/Exception"]).filter goodWord ++ (vx_atS RX3 60 "java/lang/IllegalStateException" ["java/lang/RuntimeException", "java/lang/Exception"]).filter goodWord)
def wsX3_moveKey_r1 : List Cond := [Cond.classLink RX3 56 "java/lang/IllegalStateException", Cond.initialized "java/lang/IllegalStateException", Cond.methodLink RX3 45 yX3_curveNumbered, Cond.instanceMethod yX3_curveNumbered, Cond.selects RX3 yX3_curveNumbered yX3_curveNumbered, Cond.initialized RX3, Cond.code yX3_curveNumbered cX3_curveNumbered 2 (some (.object "EaseCurves$Curve")), Cond.classLink RX3 176 "java/lang/IndexOutOfBoundsException", Cond.initialized "java/lang/IndexOutOfBoundsException", Cond.fieldLink RX3 12 "EaseCurves" "present" "LEaseCurves$State;", Cond.methodLink RX3 76 yX3_requireKey, Cond.static yX3_requireKey, Cond.code yX3_requireKey cX3_requireKey 2 none, Cond.methodLink RX3 49 yX3_requireRange, Cond.static yX3_requireRange, Cond.code yX3_requireRange cX3_requireRange 3 none, Cond.classLink RX3 214 "java/lang/IllegalArgumentException", Cond.initialized "java/lang/IllegalArgumentException", Cond.methodLink RX3 80 yX3_requireUnlocked, Cond.static yX3_requireUnlocked, Cond.code yX3_requireUnlocked cX3_requireUnlocked 2 none, Cond.instanceMethod yX0_isLocked, Cond.initialized RX0, Cond.selects RX0 yX0_isLocked yX0_isLocked]
def wsX3_moveKey_r2 : List Cond := [Cond.code yX0_isLocked cX0_isLocked 2 (some .boolean), Cond.methodLink RX0 19 yX0_cell, Cond.instanceMethod yX0_cell, Cond.selects RX0 yX0_cell yX0_cell, Cond.code yX0_cell cX0_cell 3 (some .int), Cond.fieldLink RX0 9 "EaseCurves$Curve" "count" "I", Cond.fieldLink RX0 15 "EaseCurves$Curve" "cells" "[I", Cond.instanceMethod yX0_numberAtFrame, Cond.selects RX0 yX0_numberAtFrame yX0_numberAtFrame, Cond.code yX0_numberAtFrame cX0_numberAtFrame 3 (some .int), Cond.methodLink RX0 27 yX0_countUpTo, Cond.instanceMethod yX0_countUpTo, Cond.selects RX0 yX0_countUpTo yX0_countUpTo, Cond.code yX0_countUpTo cX0_countUpTo 3 (some .int), Cond.methodLink RX3 69 yX3_saveState, Cond.instanceMethod yX3_saveState, Cond.selects RX3 yX3_saveState yX3_saveState, Cond.code yX3_saveState cX3_saveState 1 none, Cond.fieldLink RX3 20 "EaseCurves" "savedCount" "I", Cond.fieldLink RX3 16 "EaseCurves" "saved" "[LEaseCurves$State;", Cond.methodLink RX3 230 yX3_dropOldestState, Cond.instanceMethod yX3_dropOldestState, Cond.selects RX3 yX3_dropOldestState yX3_dropOldestState, Cond.code yX3_dropOldestState cX3_dropOldestState 3 none]
def wsX3_moveKey_r3 : List Cond := [Cond.instanceMethod yX2_become, Cond.initialized RX2, Cond.selects RX2 yX2_become yX2_become, Cond.code yX2_become cX2_become 3 none, Cond.fieldLink RX2 11 "EaseCurves$State" "curves" "[LEaseCurves$Curve;", Cond.instanceMethod yX0_become, Cond.selects RX0 yX0_become yX0_become, Cond.code yX0_become cX0_become 2 none, Cond.methodLink RX0 31 arraycopyName, Cond.native arraycopyName, Cond.static arraycopyName, Cond.initialized "java/lang/System", Cond.instanceMethod yX0_moveTo, Cond.selects RX0 yX0_moveTo yX0_moveTo, Cond.code yX0_moveTo cX0_moveTo 8 (some .int), Cond.methodLink RX0 41 yX0_takeOut, Cond.instanceMethod yX0_takeOut, Cond.selects RX0 yX0_takeOut yX0_takeOut, Cond.code yX0_takeOut cX0_takeOut 3 none, Cond.methodLink RX0 45 yX0_insert, Cond.instanceMethod yX0_insert, Cond.selects RX0 yX0_insert yX0_insert, Cond.code yX0_insert cX0_insert 9 (some .int), Cond.methodLink RX0 37 yX0_put]
def wsX3_moveKey_r4 : List Cond := [Cond.instanceMethod yX0_put, Cond.selects RX0 yX0_put yX0_put, Cond.code yX0_put cX0_put 4 none]
def wsX3_moveKey : List Cond := .code yX3_moveKey cX3_moveKey 6 (some .int) :: ((wsX3_moveKey_r1 ++ (wsX3_moveKey_r2 ++ (wsX3_moveKey_r3 ++ wsX3_moveKey_r4))) ++ wsX30 ++ wsX20 ++ wsX00 ++ (vx_atS RX3 60 "java/lang/IllegalStateException" ["java/lang/RuntimeException", "java/lang/Exception"]).filter goodWord ++ (vx_atS RX3 180 "java/lang/IndexOutOfBoundsException" ["java/lang/RuntimeException", "java/lang/Exception"]).filter goodWord ++ (vx_atS RX3 218 "java/lang/IllegalArgumentException" ["java/lang/RuntimeException", "java/lang/Exception"]).filter goodWord)
def wsX3_setTangent_r1 : List Cond := [Cond.constant RX3 99 (-99999), Cond.constant RX3 100 (99999), Cond.methodLink RX3 45 yX3_curveNumbered, Cond.instanceMethod yX3_curveNumbered, Cond.selects RX3 yX3_curveNumbered yX3_curveNumbered, Cond.initialized RX3, Cond.code yX3_curveNumbered cX3_curveNumbered 2 (some (.object "EaseCurves$Curve")), Cond.classLink RX3 176 "java/lang/IndexOutOfBoundsException", Cond.initialized "java/lang/IndexOutOfBoundsException", Cond.fieldLink RX3 12 "EaseCurves" "present" "LEaseCurves$State;", Cond.methodLink RX3 76 yX3_requireKey, Cond.static yX3_requireKey, Cond.code yX3_requireKey cX3_requireKey 2 none, Cond.methodLink RX3 49 yX3_requireRange, Cond.static yX3_requireRange, Cond.code yX3_requireRange cX3_requireRange 3 none, Cond.classLink RX3 214 "java/lang/IllegalArgumentException", Cond.initialized "java/lang/IllegalArgumentException", Cond.methodLink RX3 80 yX3_requireUnlocked, Cond.static yX3_requireUnlocked, Cond.code yX3_requireUnlocked cX3_requireUnlocked 2 none, Cond.classLink RX3 56 "java/lang/IllegalStateException", Cond.initialized "java/lang/IllegalStateException", Cond.instanceMethod yX0_isLocked]
def wsX3_setTangent_r2 : List Cond := [Cond.initialized RX0, Cond.selects RX0 yX0_isLocked yX0_isLocked, Cond.code yX0_isLocked cX0_isLocked 2 (some .boolean), Cond.methodLink RX0 19 yX0_cell, Cond.instanceMethod yX0_cell, Cond.selects RX0 yX0_cell yX0_cell, Cond.code yX0_cell cX0_cell 3 (some .int), Cond.fieldLink RX0 9 "EaseCurves$Curve" "count" "I", Cond.fieldLink RX0 15 "EaseCurves$Curve" "cells" "[I", Cond.methodLink RX3 69 yX3_saveState, Cond.instanceMethod yX3_saveState, Cond.selects RX3 yX3_saveState yX3_saveState, Cond.code yX3_saveState cX3_saveState 1 none, Cond.fieldLink RX3 20 "EaseCurves" "savedCount" "I", Cond.fieldLink RX3 16 "EaseCurves" "saved" "[LEaseCurves$State;", Cond.methodLink RX3 230 yX3_dropOldestState, Cond.instanceMethod yX3_dropOldestState, Cond.selects RX3 yX3_dropOldestState yX3_dropOldestState, Cond.code yX3_dropOldestState cX3_dropOldestState 3 none, Cond.instanceMethod yX2_become, Cond.initialized RX2, Cond.selects RX2 yX2_become yX2_become, Cond.code yX2_become cX2_become 3 none, Cond.fieldLink RX2 11 "EaseCurves$State" "curves" "[LEaseCurves$Curve;"]
def wsX3_setTangent_r3 : List Cond := [Cond.instanceMethod yX0_become, Cond.selects RX0 yX0_become yX0_become, Cond.code yX0_become cX0_become 2 none, Cond.methodLink RX0 31 arraycopyName, Cond.native arraycopyName, Cond.static arraycopyName, Cond.initialized "java/lang/System", Cond.instanceMethod yX0_tangentOf, Cond.selects RX0 yX0_tangentOf yX0_tangentOf, Cond.code yX0_tangentOf cX0_tangentOf 6 (some .int), Cond.methodLink RX0 58 yX0_isTurn, Cond.static yX0_isTurn, Cond.code yX0_isTurn cX0_isTurn 3 (some .boolean), Cond.instanceMethod yX0_put, Cond.selects RX0 yX0_put yX0_put, Cond.code yX0_put cX0_put 4 none]
def wsX3_setTangent : List Cond := .code yX3_setTangent cX3_setTangent 7 (some .int) :: ((wsX3_setTangent_r1 ++ (wsX3_setTangent_r2 ++ wsX3_setTangent_r3)) ++ wsX30 ++ wsX20 ++ wsX00 ++ (vx_atS RX3 180 "java/lang/IndexOutOfBoundsException" ["java/lang/RuntimeException", "java/lang/Exception"]).filter goodWord ++ (vx_atS RX3 218 "java/lang/IllegalArgumentException" ["java/lang/RuntimeException", "java/lang/Exception"]).filter goodWord ++ (vx_atS RX3 60 "java/lang/IllegalStateException" ["java/lang/RuntimeException", "java/lang/Exception"]).filter goodWord)
def wsX3_lock_r1 : List Cond := [Cond.methodLink RX3 45 yX3_curveNumbered, Cond.instanceMethod yX3_curveNumbered, Cond.selects RX3 yX3_curveNumbered yX3_curveNumbered, Cond.initialized RX3, Cond.code yX3_curveNumbered cX3_curveNumbered 2 (some (.object "EaseCurves$Curve")), Cond.classLink RX3 176 "java/lang/IndexOutOfBoundsException", Cond.initialized "java/lang/IndexOutOfBoundsException", Cond.fieldLink RX3 12 "EaseCurves" "present" "LEaseCurves$State;", Cond.methodLink RX3 76 yX3_requireKey, Cond.static yX3_requireKey, Cond.code yX3_requireKey cX3_requireKey 2 none, Cond.methodLink RX3 69 yX3_saveState, Cond.instanceMethod yX3_saveState, Cond.selects RX3 yX3_saveState yX3_saveState, Cond.code yX3_saveState cX3_saveState 1 none, Cond.fieldLink RX3 20 "EaseCurves" "savedCount" "I", Cond.fieldLink RX3 16 "EaseCurves" "saved" "[LEaseCurves$State;", Cond.methodLink RX3 230 yX3_dropOldestState, Cond.instanceMethod yX3_dropOldestState, Cond.selects RX3 yX3_dropOldestState yX3_dropOldestState, Cond.code yX3_dropOldestState cX3_dropOldestState 3 none, Cond.instanceMethod yX2_become, Cond.initialized RX2, Cond.selects RX2 yX2_become yX2_become]
def wsX3_lock_r2 : List Cond := [Cond.code yX2_become cX2_become 3 none, Cond.fieldLink RX2 11 "EaseCurves$State" "curves" "[LEaseCurves$Curve;", Cond.instanceMethod yX0_become, Cond.initialized RX0, Cond.selects RX0 yX0_become yX0_become, Cond.code yX0_become cX0_become 2 none, Cond.fieldLink RX0 9 "EaseCurves$Curve" "count" "I", Cond.fieldLink RX0 15 "EaseCurves$Curve" "cells" "[I", Cond.methodLink RX0 31 arraycopyName, Cond.native arraycopyName, Cond.static arraycopyName, Cond.initialized "java/lang/System", Cond.instanceMethod yX0_cell, Cond.selects RX0 yX0_cell yX0_cell, Cond.code yX0_cell cX0_cell 3 (some .int), Cond.instanceMethod yX0_put, Cond.selects RX0 yX0_put yX0_put, Cond.code yX0_put cX0_put 4 none]
def wsX3_lock : List Cond := .code yX3_lock cX3_lock 6 (some .int) :: ((wsX3_lock_r1 ++ wsX3_lock_r2) ++ wsX30 ++ wsX20 ++ wsX00 ++ (vx_atS RX3 180 "java/lang/IndexOutOfBoundsException" ["java/lang/RuntimeException", "java/lang/Exception"]).filter goodWord)
def wsX3_requireSpan : List Cond := .code yX3_requireSpan cX3_requireSpan 2 none :: ([.methodLink RX3 49 yX3_requireRange, .static yX3_requireRange, .initialized RX3, .code yX3_requireRange cX3_requireRange 3 none, .classLink RX3 214 "java/lang/IllegalArgumentException", .initialized "java/lang/IllegalArgumentException"] ++ (vx_atS RX3 218 "java/lang/IllegalArgumentException" ["java/lang/RuntimeException", "java/lang/Exception"]).filter goodWord)
def wsX3_stretch_r1 : List Cond := [Cond.classLink RX3 56 "java/lang/IllegalStateException", Cond.initialized "java/lang/IllegalStateException", Cond.methodLink RX3 45 yX3_curveNumbered, Cond.instanceMethod yX3_curveNumbered, Cond.selects RX3 yX3_curveNumbered yX3_curveNumbered, Cond.initialized RX3, Cond.code yX3_curveNumbered cX3_curveNumbered 2 (some (.object "EaseCurves$Curve")), Cond.classLink RX3 176 "java/lang/IndexOutOfBoundsException", Cond.initialized "java/lang/IndexOutOfBoundsException", Cond.fieldLink RX3 12 "EaseCurves" "present" "LEaseCurves$State;", Cond.methodLink RX3 104 yX3_requireSpan, Cond.static yX3_requireSpan, Cond.code yX3_requireSpan cX3_requireSpan 2 none, Cond.methodLink RX3 49 yX3_requireRange, Cond.static yX3_requireRange, Cond.code yX3_requireRange cX3_requireRange 3 none, Cond.classLink RX3 214 "java/lang/IllegalArgumentException", Cond.initialized "java/lang/IllegalArgumentException", Cond.instanceMethod yX0_canStretch, Cond.initialized RX0, Cond.selects RX0 yX0_canStretch yX0_canStretch, Cond.code yX0_canStretch cX0_canStretch 8 (some .boolean), Cond.fieldLink RX0 9 "EaseCurves$Curve" "count" "I", Cond.methodLink RX0 19 yX0_cell]
def wsX3_stretch_r2 : List Cond := [Cond.instanceMethod yX0_cell, Cond.selects RX0 yX0_cell yX0_cell, Cond.code yX0_cell cX0_cell 3 (some .int), Cond.fieldLink RX0 15 "EaseCurves$Curve" "cells" "[I", Cond.methodLink RX0 54 yX0_stretchedFrame, Cond.static yX0_stretchedFrame, Cond.code yX0_stretchedFrame cX0_stretchedFrame 4 (some .int), Cond.methodLink RX0 23 yX0_isLocked, Cond.instanceMethod yX0_isLocked, Cond.selects RX0 yX0_isLocked yX0_isLocked, Cond.code yX0_isLocked cX0_isLocked 2 (some .boolean), Cond.methodLink RX3 69 yX3_saveState, Cond.instanceMethod yX3_saveState, Cond.selects RX3 yX3_saveState yX3_saveState, Cond.code yX3_saveState cX3_saveState 1 none, Cond.fieldLink RX3 20 "EaseCurves" "savedCount" "I", Cond.fieldLink RX3 16 "EaseCurves" "saved" "[LEaseCurves$State;", Cond.methodLink RX3 230 yX3_dropOldestState, Cond.instanceMethod yX3_dropOldestState, Cond.selects RX3 yX3_dropOldestState yX3_dropOldestState, Cond.code yX3_dropOldestState cX3_dropOldestState 3 none, Cond.instanceMethod yX2_become, Cond.initialized RX2, Cond.selects RX2 yX2_become yX2_become]
def wsX3_stretch_r3 : List Cond := [Cond.code yX2_become cX2_become 3 none, Cond.fieldLink RX2 11 "EaseCurves$State" "curves" "[LEaseCurves$Curve;", Cond.instanceMethod yX0_become, Cond.selects RX0 yX0_become yX0_become, Cond.code yX0_become cX0_become 2 none, Cond.methodLink RX0 31 arraycopyName, Cond.native arraycopyName, Cond.static arraycopyName, Cond.initialized "java/lang/System", Cond.instanceMethod yX0_stretchSpan, Cond.selects RX0 yX0_stretchSpan yX0_stretchSpan, Cond.code yX0_stretchSpan cX0_stretchSpan 8 (some .int), Cond.methodLink RX0 37 yX0_put, Cond.instanceMethod yX0_put, Cond.selects RX0 yX0_put yX0_put, Cond.code yX0_put cX0_put 4 none]
def wsX3_stretch : List Cond := .code yX3_stretch cX3_stretch 6 (some .int) :: ((wsX3_stretch_r1 ++ (wsX3_stretch_r2 ++ wsX3_stretch_r3)) ++ wsX30 ++ wsX20 ++ wsX00 ++ (vx_atS RX3 60 "java/lang/IllegalStateException" ["java/lang/RuntimeException", "java/lang/Exception"]).filter goodWord ++ (vx_atS RX3 180 "java/lang/IndexOutOfBoundsException" ["java/lang/RuntimeException", "java/lang/Exception"]).filter goodWord ++ (vx_atS RX3 218 "java/lang/IllegalArgumentException" ["java/lang/RuntimeException", "java/lang/Exception"]).filter goodWord)
def wsX3_requireNoLock : List Cond := .code yX3_requireNoLock cX3_requireNoLock 1 none :: ([.classLink RX3 56 "java/lang/IllegalStateException", .initialized "java/lang/IllegalStateException", .instanceMethod yX0_hasLock, .initialized RX0, .selects RX0 yX0_hasLock yX0_hasLock, .code yX0_hasLock cX0_hasLock 2 (some .boolean), .fieldLink RX0 9 "EaseCurves$Curve" "count" "I", .methodLink RX0 23 yX0_isLocked, .instanceMethod yX0_isLocked, .selects RX0 yX0_isLocked yX0_isLocked, .code yX0_isLocked cX0_isLocked 2 (some .boolean), .methodLink RX0 19 yX0_cell, .instanceMethod yX0_cell, .selects RX0 yX0_cell yX0_cell, .code yX0_cell cX0_cell 3 (some .int), .fieldLink RX0 15 "EaseCurves$Curve" "cells" "[I"] ++ wsX00 ++ (vx_atS RX3 60 "java/lang/IllegalStateException" ["java/lang/RuntimeException", "java/lang/Exception"]).filter goodWord)
def wsX3_copy_r1 : List Cond := [Cond.classLink RX3 56 "java/lang/IllegalStateException", Cond.initialized "java/lang/IllegalStateException", Cond.methodLink RX3 45 yX3_curveNumbered, Cond.instanceMethod yX3_curveNumbered, Cond.selects RX3 yX3_curveNumbered yX3_curveNumbered, Cond.initialized RX3, Cond.code yX3_curveNumbered cX3_curveNumbered 2 (some (.object "EaseCurves$Curve")), Cond.classLink RX3 176 "java/lang/IndexOutOfBoundsException", Cond.initialized "java/lang/IndexOutOfBoundsException", Cond.fieldLink RX3 12 "EaseCurves" "present" "LEaseCurves$State;", Cond.methodLink RX3 49 yX3_requireRange, Cond.static yX3_requireRange, Cond.code yX3_requireRange cX3_requireRange 3 none, Cond.classLink RX3 214 "java/lang/IllegalArgumentException", Cond.initialized "java/lang/IllegalArgumentException", Cond.methodLink RX3 118 yX3_requireNoLock, Cond.static yX3_requireNoLock, Cond.code yX3_requireNoLock cX3_requireNoLock 1 none, Cond.instanceMethod yX0_hasLock, Cond.initialized RX0, Cond.selects RX0 yX0_hasLock yX0_hasLock, Cond.code yX0_hasLock cX0_hasLock 2 (some .boolean), Cond.fieldLink RX0 9 "EaseCurves$Curve" "count" "I", Cond.methodLink RX0 23 yX0_isLocked]
def wsX3_copy_r2 : List Cond := [Cond.instanceMethod yX0_isLocked, Cond.selects RX0 yX0_isLocked yX0_isLocked, Cond.code yX0_isLocked cX0_isLocked 2 (some .boolean), Cond.methodLink RX0 19 yX0_cell, Cond.instanceMethod yX0_cell, Cond.selects RX0 yX0_cell yX0_cell, Cond.code yX0_cell cX0_cell 3 (some .int), Cond.fieldLink RX0 15 "EaseCurves$Curve" "cells" "[I", Cond.instanceMethod yX0_canRaise, Cond.selects RX0 yX0_canRaise yX0_canRaise, Cond.code yX0_canRaise cX0_canRaise 3 (some .boolean), Cond.methodLink RX0 49 Lib.Math.abs.name, Cond.static Lib.Math.abs.name, Cond.initialized "java/lang/Math", Cond.code Lib.Math.abs.name Lib.Math.abs.code 1 (some .int), Cond.methodLink RX3 69 yX3_saveState, Cond.instanceMethod yX3_saveState, Cond.selects RX3 yX3_saveState yX3_saveState, Cond.code yX3_saveState cX3_saveState 1 none, Cond.fieldLink RX3 20 "EaseCurves" "savedCount" "I", Cond.fieldLink RX3 16 "EaseCurves" "saved" "[LEaseCurves$State;", Cond.methodLink RX3 230 yX3_dropOldestState, Cond.instanceMethod yX3_dropOldestState, Cond.selects RX3 yX3_dropOldestState yX3_dropOldestState]
def wsX3_copy_r3 : List Cond := [Cond.code yX3_dropOldestState cX3_dropOldestState 3 none, Cond.instanceMethod yX2_become, Cond.initialized RX2, Cond.selects RX2 yX2_become yX2_become, Cond.code yX2_become cX2_become 3 none, Cond.fieldLink RX2 11 "EaseCurves$State" "curves" "[LEaseCurves$Curve;", Cond.instanceMethod yX0_become, Cond.selects RX0 yX0_become yX0_become, Cond.code yX0_become cX0_become 2 none, Cond.methodLink RX0 31 arraycopyName, Cond.native arraycopyName, Cond.static arraycopyName, Cond.initialized "java/lang/System", Cond.instanceMethod yX0_raise, Cond.selects RX0 yX0_raise yX0_raise, Cond.code yX0_raise cX0_raise 3 none, Cond.methodLink RX0 37 yX0_put, Cond.instanceMethod yX0_put, Cond.selects RX0 yX0_put yX0_put, Cond.code yX0_put cX0_put 4 none]
def wsX3_copy : List Cond := .code yX3_copy cX3_copy 6 (some .int) :: ((wsX3_copy_r1 ++ (wsX3_copy_r2 ++ wsX3_copy_r3)) ++ wsX00 ++ wsX30 ++ wsX20 ++ (vx_atS RX3 60 "java/lang/IllegalStateException" ["java/lang/RuntimeException", "java/lang/Exception"]).filter goodWord ++ (vx_atS RX3 180 "java/lang/IndexOutOfBoundsException" ["java/lang/RuntimeException", "java/lang/Exception"]).filter goodWord ++ (vx_atS RX3 218 "java/lang/IllegalArgumentException" ["java/lang/RuntimeException", "java/lang/Exception"]).filter goodWord)
def wsX3_greatestDifference : List Cond := .code yX3_greatestDifference cX3_greatestDifference 5 (some .int) :: ([.fieldLink RX3 38 "EaseCurves" "values" "[I", .fieldLink RX3 42 "EaseCurves" "otherValues" "[I", .methodLink RX3 233 Lib.Math.abs.name, .static Lib.Math.abs.name, .initialized "java/lang/Math", .code Lib.Math.abs.name Lib.Math.abs.code 1 (some .int), .methodLink RX3 238 Lib.Math.max.name, .static Lib.Math.max.name, .code Lib.Math.max.name Lib.Math.max.code 2 (some .int)] ++ wsX30)
def wsX3_differenceWithout_r1 : List Cond := [Cond.methodLink RX3 238 Lib.Math.max.name, Cond.static Lib.Math.max.name, Cond.initialized "java/lang/Math", Cond.code Lib.Math.max.name Lib.Math.max.code 2 (some .int), Cond.methodLink RX3 241 Lib.Math.min.name, Cond.static Lib.Math.min.name, Cond.code Lib.Math.min.name Lib.Math.min.code 2 (some .int), Cond.fieldLink RX3 34 "EaseCurves" "trial" "LEaseCurves$Curve;", Cond.fieldLink RX3 42 "EaseCurves" "otherValues" "[I", Cond.instanceMethod yX0_cell, Cond.initialized RX0, Cond.selects RX0 yX0_cell yX0_cell, Cond.code yX0_cell cX0_cell 3 (some .int), Cond.fieldLink RX0 9 "EaseCurves$Curve" "count" "I", Cond.fieldLink RX0 15 "EaseCurves$Curve" "cells" "[I", Cond.instanceMethod yX0_become, Cond.selects RX0 yX0_become yX0_become, Cond.code yX0_become cX0_become 2 none, Cond.methodLink RX0 31 arraycopyName, Cond.native arraycopyName, Cond.static arraycopyName, Cond.initialized "java/lang/System", Cond.instanceMethod yX0_takeOut, Cond.selects RX0 yX0_takeOut yX0_takeOut]
def wsX3_differenceWithout_r2 : List Cond := [Cond.code yX0_takeOut cX0_takeOut 3 none, Cond.instanceMethod yX0_bake, Cond.selects RX0 yX0_bake yX0_bake, Cond.code yX0_bake cX0_bake 6 none, Cond.methodLink RX0 27 yX0_countUpTo, Cond.instanceMethod yX0_countUpTo, Cond.selects RX0 yX0_countUpTo yX0_countUpTo, Cond.code yX0_countUpTo cX0_countUpTo 3 (some .int), Cond.methodLink RX0 19 yX0_cell, Cond.methodLink RX0 62 yX0_valueBehind, Cond.instanceMethod yX0_valueBehind, Cond.selects RX0 yX0_valueBehind yX0_valueBehind, Cond.code yX0_valueBehind cX0_valueBehind 14 (some .int), Cond.methodLink RX0 65 Lib.Math.max.name, Cond.constantLong RX0 68 (1000), Cond.constantLong RX0 70 (1000000), Cond.constantLong RX0 72 (3000), Cond.constantLong RX0 74 (2), Cond.constantLong RX0 76 (1000000000), Cond.methodLink RX0 78 yX0_tangentOf, Cond.instanceMethod yX0_tangentOf, Cond.selects RX0 yX0_tangentOf yX0_tangentOf, Cond.code yX0_tangentOf cX0_tangentOf 6 (some .int), Cond.methodLink RX0 58 yX0_isTurn]
def wsX3_differenceWithout_r3 : List Cond := [Cond.static yX0_isTurn, Cond.code yX0_isTurn cX0_isTurn 3 (some .boolean), Cond.methodLink RX0 81 yX0_riseByTangents, Cond.static yX0_riseByTangents, Cond.code yX0_riseByTangents cX0_riseByTangents 12 (some .long), Cond.constantLong RX0 85 (2000), Cond.methodLink RX3 165 yX3_greatestDifference, Cond.instanceMethod yX3_greatestDifference, Cond.selects RX3 yX3_greatestDifference yX3_greatestDifference, Cond.initialized RX3, Cond.code yX3_greatestDifference cX3_greatestDifference 5 (some .int), Cond.fieldLink RX3 38 "EaseCurves" "values" "[I", Cond.methodLink RX3 233 Lib.Math.abs.name, Cond.static Lib.Math.abs.name, Cond.code Lib.Math.abs.name Lib.Math.abs.code 1 (some .int)]
def wsX3_differenceWithout : List Cond := .code yX3_differenceWithout cX3_differenceWithout 5 (some .int) :: ((wsX3_differenceWithout_r1 ++ (wsX3_differenceWithout_r2 ++ wsX3_differenceWithout_r3)) ++ wsX00 ++ wsX30)
def wsX3_keyToLeaveOut_r1 : List Cond := [Cond.fieldLink RX3 38 "EaseCurves" "values" "[I", Cond.instanceMethod yX0_bake, Cond.initialized RX0, Cond.selects RX0 yX0_bake yX0_bake, Cond.code yX0_bake cX0_bake 6 none, Cond.fieldLink RX0 9 "EaseCurves$Curve" "count" "I", Cond.methodLink RX0 27 yX0_countUpTo, Cond.instanceMethod yX0_countUpTo, Cond.selects RX0 yX0_countUpTo yX0_countUpTo, Cond.code yX0_countUpTo cX0_countUpTo 3 (some .int), Cond.methodLink RX0 19 yX0_cell, Cond.instanceMethod yX0_cell, Cond.selects RX0 yX0_cell yX0_cell, Cond.code yX0_cell cX0_cell 3 (some .int), Cond.fieldLink RX0 15 "EaseCurves$Curve" "cells" "[I", Cond.methodLink RX0 62 yX0_valueBehind, Cond.instanceMethod yX0_valueBehind, Cond.selects RX0 yX0_valueBehind yX0_valueBehind, Cond.code yX0_valueBehind cX0_valueBehind 14 (some .int), Cond.methodLink RX0 65 Lib.Math.max.name, Cond.static Lib.Math.max.name, Cond.initialized "java/lang/Math", Cond.code Lib.Math.max.name Lib.Math.max.code 2 (some .int), Cond.constantLong RX0 68 (1000)]
def wsX3_keyToLeaveOut_r2 : List Cond := [Cond.constantLong RX0 70 (1000000), Cond.constantLong RX0 72 (3000), Cond.constantLong RX0 74 (2), Cond.constantLong RX0 76 (1000000000), Cond.methodLink RX0 78 yX0_tangentOf, Cond.instanceMethod yX0_tangentOf, Cond.selects RX0 yX0_tangentOf yX0_tangentOf, Cond.code yX0_tangentOf cX0_tangentOf 6 (some .int), Cond.methodLink RX0 58 yX0_isTurn, Cond.static yX0_isTurn, Cond.code yX0_isTurn cX0_isTurn 3 (some .boolean), Cond.methodLink RX0 81 yX0_riseByTangents, Cond.static yX0_riseByTangents, Cond.code yX0_riseByTangents cX0_riseByTangents 12 (some .long), Cond.constantLong RX0 85 (2000), Cond.instanceMethod yX0_mayLeaveOut, Cond.selects RX0 yX0_mayLeaveOut yX0_mayLeaveOut, Cond.code yX0_mayLeaveOut cX0_mayLeaveOut 2 (some .boolean), Cond.methodLink RX0 23 yX0_isLocked, Cond.instanceMethod yX0_isLocked, Cond.selects RX0 yX0_isLocked yX0_isLocked, Cond.code yX0_isLocked cX0_isLocked 2 (some .boolean), Cond.methodLink RX3 173 yX3_differenceWithout, Cond.instanceMethod yX3_differenceWithout]
def wsX3_keyToLeaveOut_r3 : List Cond := [Cond.selects RX3 yX3_differenceWithout yX3_differenceWithout, Cond.initialized RX3, Cond.code yX3_differenceWithout cX3_differenceWithout 5 (some .int), Cond.methodLink RX3 238 Lib.Math.max.name, Cond.methodLink RX3 241 Lib.Math.min.name, Cond.static Lib.Math.min.name, Cond.code Lib.Math.min.name Lib.Math.min.code 2 (some .int), Cond.fieldLink RX3 34 "EaseCurves" "trial" "LEaseCurves$Curve;", Cond.fieldLink RX3 42 "EaseCurves" "otherValues" "[I", Cond.instanceMethod yX0_become, Cond.selects RX0 yX0_become yX0_become, Cond.code yX0_become cX0_become 2 none, Cond.methodLink RX0 31 arraycopyName, Cond.native arraycopyName, Cond.static arraycopyName, Cond.initialized "java/lang/System", Cond.instanceMethod yX0_takeOut, Cond.selects RX0 yX0_takeOut yX0_takeOut, Cond.code yX0_takeOut cX0_takeOut 3 none, Cond.methodLink RX3 165 yX3_greatestDifference, Cond.instanceMethod yX3_greatestDifference, Cond.selects RX3 yX3_greatestDifference yX3_greatestDifference, Cond.code yX3_greatestDifference cX3_greatestDifference 5 (some .int), Cond.methodLink RX3 233 Lib.Math.abs.name]
def wsX3_keyToLeaveOut_r4 : List Cond := [Cond.static Lib.Math.abs.name, Cond.code Lib.Math.abs.name Lib.Math.abs.code 1 (some .int)]
def wsX3_keyToLeaveOut : List Cond := .code yX3_keyToLeaveOut cX3_keyToLeaveOut 7 (some .int) :: ((wsX3_keyToLeaveOut_r1 ++ (wsX3_keyToLeaveOut_r2 ++ (wsX3_keyToLeaveOut_r3 ++ wsX3_keyToLeaveOut_r4))) ++ wsX30 ++ wsX00)
def wsX3_reduce_r1 : List Cond := [Cond.methodLink RX3 45 yX3_curveNumbered, Cond.instanceMethod yX3_curveNumbered, Cond.selects RX3 yX3_curveNumbered yX3_curveNumbered, Cond.initialized RX3, Cond.code yX3_curveNumbered cX3_curveNumbered 2 (some (.object "EaseCurves$Curve")), Cond.classLink RX3 176 "java/lang/IndexOutOfBoundsException", Cond.initialized "java/lang/IndexOutOfBoundsException", Cond.fieldLink RX3 12 "EaseCurves" "present" "LEaseCurves$State;", Cond.methodLink RX3 49 yX3_requireRange, Cond.static yX3_requireRange, Cond.code yX3_requireRange cX3_requireRange 3 none, Cond.classLink RX3 214 "java/lang/IllegalArgumentException", Cond.initialized "java/lang/IllegalArgumentException", Cond.methodLink RX3 69 yX3_saveState, Cond.instanceMethod yX3_saveState, Cond.selects RX3 yX3_saveState yX3_saveState, Cond.code yX3_saveState cX3_saveState 1 none, Cond.fieldLink RX3 20 "EaseCurves" "savedCount" "I", Cond.fieldLink RX3 16 "EaseCurves" "saved" "[LEaseCurves$State;", Cond.methodLink RX3 230 yX3_dropOldestState, Cond.instanceMethod yX3_dropOldestState, Cond.selects RX3 yX3_dropOldestState yX3_dropOldestState, Cond.code yX3_dropOldestState cX3_dropOldestState 3 none, Cond.instanceMethod yX2_become]
def wsX3_reduce_r2 : List Cond := [Cond.initialized RX2, Cond.selects RX2 yX2_become yX2_become, Cond.code yX2_become cX2_become 3 none, Cond.fieldLink RX2 11 "EaseCurves$State" "curves" "[LEaseCurves$Curve;", Cond.instanceMethod yX0_become, Cond.initialized RX0, Cond.selects RX0 yX0_become yX0_become, Cond.code yX0_become cX0_become 2 none, Cond.fieldLink RX0 9 "EaseCurves$Curve" "count" "I", Cond.fieldLink RX0 15 "EaseCurves$Curve" "cells" "[I", Cond.methodLink RX0 31 arraycopyName, Cond.native arraycopyName, Cond.static arraycopyName, Cond.initialized "java/lang/System", Cond.methodLink RX3 134 yX3_keyToLeaveOut, Cond.instanceMethod yX3_keyToLeaveOut, Cond.selects RX3 yX3_keyToLeaveOut yX3_keyToLeaveOut, Cond.code yX3_keyToLeaveOut cX3_keyToLeaveOut 7 (some .int), Cond.fieldLink RX3 38 "EaseCurves" "values" "[I", Cond.instanceMethod yX0_bake, Cond.selects RX0 yX0_bake yX0_bake, Cond.code yX0_bake cX0_bake 6 none, Cond.methodLink RX0 27 yX0_countUpTo, Cond.instanceMethod yX0_countUpTo]
def wsX3_reduce_r3 : List Cond := [Cond.selects RX0 yX0_countUpTo yX0_countUpTo, Cond.code yX0_countUpTo cX0_countUpTo 3 (some .int), Cond.methodLink RX0 19 yX0_cell, Cond.instanceMethod yX0_cell, Cond.selects RX0 yX0_cell yX0_cell, Cond.code yX0_cell cX0_cell 3 (some .int), Cond.methodLink RX0 62 yX0_valueBehind, Cond.instanceMethod yX0_valueBehind, Cond.selects RX0 yX0_valueBehind yX0_valueBehind, Cond.code yX0_valueBehind cX0_valueBehind 14 (some .int), Cond.methodLink RX0 65 Lib.Math.max.name, Cond.static Lib.Math.max.name, Cond.initialized "java/lang/Math", Cond.code Lib.Math.max.name Lib.Math.max.code 2 (some .int), Cond.constantLong RX0 68 (1000), Cond.constantLong RX0 70 (1000000), Cond.constantLong RX0 72 (3000), Cond.constantLong RX0 74 (2), Cond.constantLong RX0 76 (1000000000), Cond.methodLink RX0 78 yX0_tangentOf, Cond.instanceMethod yX0_tangentOf, Cond.selects RX0 yX0_tangentOf yX0_tangentOf, Cond.code yX0_tangentOf cX0_tangentOf 6 (some .int), Cond.methodLink RX0 58 yX0_isTurn]
def wsX3_reduce_r4 : List Cond := [Cond.static yX0_isTurn, Cond.code yX0_isTurn cX0_isTurn 3 (some .boolean), Cond.methodLink RX0 81 yX0_riseByTangents, Cond.static yX0_riseByTangents, Cond.code yX0_riseByTangents cX0_riseByTangents 12 (some .long), Cond.constantLong RX0 85 (2000), Cond.instanceMethod yX0_mayLeaveOut, Cond.selects RX0 yX0_mayLeaveOut yX0_mayLeaveOut, Cond.code yX0_mayLeaveOut cX0_mayLeaveOut 2 (some .boolean), Cond.methodLink RX0 23 yX0_isLocked, Cond.instanceMethod yX0_isLocked, Cond.selects RX0 yX0_isLocked yX0_isLocked, Cond.code yX0_isLocked cX0_isLocked 2 (some .boolean), Cond.methodLink RX3 173 yX3_differenceWithout, Cond.instanceMethod yX3_differenceWithout, Cond.selects RX3 yX3_differenceWithout yX3_differenceWithout, Cond.code yX3_differenceWithout cX3_differenceWithout 5 (some .int), Cond.methodLink RX3 238 Lib.Math.max.name, Cond.methodLink RX3 241 Lib.Math.min.name, Cond.static Lib.Math.min.name, Cond.code Lib.Math.min.name Lib.Math.min.code 2 (some .int), Cond.fieldLink RX3 34 "EaseCurves" "trial" "LEaseCurves$Curve;", Cond.fieldLink RX3 42 "EaseCurves" "otherValues" "[I", Cond.instanceMethod yX0_takeOut]
def wsX3_reduce_r5 : List Cond := [Cond.selects RX0 yX0_takeOut yX0_takeOut, Cond.code yX0_takeOut cX0_takeOut 3 none, Cond.methodLink RX3 165 yX3_greatestDifference, Cond.instanceMethod yX3_greatestDifference, Cond.selects RX3 yX3_greatestDifference yX3_greatestDifference, Cond.code yX3_greatestDifference cX3_greatestDifference 5 (some .int), Cond.methodLink RX3 233 Lib.Math.abs.name, Cond.static Lib.Math.abs.name, Cond.code Lib.Math.abs.name Lib.Math.abs.code 1 (some .int)]
def wsX3_reduce : List Cond := .code yX3_reduce cX3_reduce 7 (some .int) :: ((wsX3_reduce_r1 ++ (wsX3_reduce_r2 ++ (wsX3_reduce_r3 ++ (wsX3_reduce_r4 ++ wsX3_reduce_r5)))) ++ wsX30 ++ wsX20 ++ wsX00 ++ (vx_atS RX3 180 "java/lang/IndexOutOfBoundsException" ["java/lang/RuntimeException", "java/lang/Exception"]).filter goodWord ++ (vx_atS RX3 218 "java/lang/IllegalArgumentException" ["java/lang/RuntimeException", "java/lang/Exception"]).filter goodWord)
def wsX3_aboutKey : List Cond := .code yX3_aboutKey cX3_aboutKey 3 (some .int) :: ([.instanceMethod yX0_tangentOf, .initialized RX0, .selects RX0 yX0_tangentOf yX0_tangentOf, .code yX0_tangentOf cX0_tangentOf 6 (some .int), .fieldLink RX0 9 "EaseCurves$Curve" "count" "I", .methodLink RX0 19 yX0_cell, .instanceMethod yX0_cell, .selects RX0 yX0_cell yX0_cell, .code yX0_cell cX0_cell 3 (some .int), .fieldLink RX0 15 "EaseCurves$Curve" "cells" "[I", .methodLink RX0 58 yX0_isTurn, .static yX0_isTurn, .code yX0_isTurn cX0_isTurn 3 (some .boolean)] ++ wsX00)
def wsX3_key_r1 : List Cond := [Cond.methodLink RX3 45 yX3_curveNumbered, Cond.instanceMethod yX3_curveNumbered, Cond.selects RX3 yX3_curveNumbered yX3_curveNumbered, Cond.initialized RX3, Cond.code yX3_curveNumbered cX3_curveNumbered 2 (some (.object "EaseCurves$Curve")), Cond.classLink RX3 176 "java/lang/IndexOutOfBoundsException", Cond.initialized "java/lang/IndexOutOfBoundsException", Cond.fieldLink RX3 12 "EaseCurves" "present" "LEaseCurves$State;", Cond.methodLink RX3 76 yX3_requireKey, Cond.static yX3_requireKey, Cond.code yX3_requireKey cX3_requireKey 2 none, Cond.methodLink RX3 49 yX3_requireRange, Cond.static yX3_requireRange, Cond.code yX3_requireRange cX3_requireRange 3 none, Cond.classLink RX3 214 "java/lang/IllegalArgumentException", Cond.initialized "java/lang/IllegalArgumentException", Cond.methodLink RX3 138 yX3_aboutKey, Cond.static yX3_aboutKey, Cond.code yX3_aboutKey cX3_aboutKey 3 (some .int), Cond.instanceMethod yX0_tangentOf, Cond.initialized RX0, Cond.selects RX0 yX0_tangentOf yX0_tangentOf, Cond.code yX0_tangentOf cX0_tangentOf 6 (some .int), Cond.fieldLink RX0 9 "EaseCurves$Curve" "count" "I"]
def wsX3_key_r2 : List Cond := [Cond.methodLink RX0 19 yX0_cell, Cond.instanceMethod yX0_cell, Cond.selects RX0 yX0_cell yX0_cell, Cond.code yX0_cell cX0_cell 3 (some .int), Cond.fieldLink RX0 15 "EaseCurves$Curve" "cells" "[I", Cond.methodLink RX0 58 yX0_isTurn, Cond.static yX0_isTurn, Cond.code yX0_isTurn cX0_isTurn 3 (some .boolean)]
def wsX3_key : List Cond := .code yX3_key cX3_key 5 (some .int) :: ((wsX3_key_r1 ++ wsX3_key_r2) ++ wsX00 ++ wsX30 ++ wsX20 ++ (vx_atS RX3 180 "java/lang/IndexOutOfBoundsException" ["java/lang/RuntimeException", "java/lang/Exception"]).filter goodWord ++ (vx_atS RX3 218 "java/lang/IllegalArgumentException" ["java/lang/RuntimeException", "java/lang/Exception"]).filter goodWord)
def wsX3_value_r1 : List Cond := [Cond.methodLink RX3 45 yX3_curveNumbered, Cond.instanceMethod yX3_curveNumbered, Cond.selects RX3 yX3_curveNumbered yX3_curveNumbered, Cond.initialized RX3, Cond.code yX3_curveNumbered cX3_curveNumbered 2 (some (.object "EaseCurves$Curve")), Cond.classLink RX3 176 "java/lang/IndexOutOfBoundsException", Cond.initialized "java/lang/IndexOutOfBoundsException", Cond.fieldLink RX3 12 "EaseCurves" "present" "LEaseCurves$State;", Cond.methodLink RX3 49 yX3_requireRange, Cond.static yX3_requireRange, Cond.code yX3_requireRange cX3_requireRange 3 none, Cond.classLink RX3 214 "java/lang/IllegalArgumentException", Cond.initialized "java/lang/IllegalArgumentException", Cond.instanceMethod yX0_valueAt, Cond.initialized RX0, Cond.selects RX0 yX0_valueAt yX0_valueAt, Cond.code yX0_valueAt cX0_valueAt 2 (some .int), Cond.methodLink RX0 27 yX0_countUpTo, Cond.instanceMethod yX0_countUpTo, Cond.selects RX0 yX0_countUpTo yX0_countUpTo, Cond.code yX0_countUpTo cX0_countUpTo 3 (some .int), Cond.fieldLink RX0 9 "EaseCurves$Curve" "count" "I", Cond.methodLink RX0 19 yX0_cell, Cond.instanceMethod yX0_cell]
def wsX3_value_r2 : List Cond := [Cond.selects RX0 yX0_cell yX0_cell, Cond.code yX0_cell cX0_cell 3 (some .int), Cond.fieldLink RX0 15 "EaseCurves$Curve" "cells" "[I", Cond.methodLink RX0 62 yX0_valueBehind, Cond.instanceMethod yX0_valueBehind, Cond.selects RX0 yX0_valueBehind yX0_valueBehind, Cond.code yX0_valueBehind cX0_valueBehind 14 (some .int), Cond.methodLink RX0 65 Lib.Math.max.name, Cond.static Lib.Math.max.name, Cond.initialized "java/lang/Math", Cond.code Lib.Math.max.name Lib.Math.max.code 2 (some .int), Cond.constantLong RX0 68 (1000), Cond.constantLong RX0 70 (1000000), Cond.constantLong RX0 72 (3000), Cond.constantLong RX0 74 (2), Cond.constantLong RX0 76 (1000000000), Cond.methodLink RX0 78 yX0_tangentOf, Cond.instanceMethod yX0_tangentOf, Cond.selects RX0 yX0_tangentOf yX0_tangentOf, Cond.code yX0_tangentOf cX0_tangentOf 6 (some .int), Cond.methodLink RX0 58 yX0_isTurn, Cond.static yX0_isTurn, Cond.code yX0_isTurn cX0_isTurn 3 (some .boolean), Cond.methodLink RX0 81 yX0_riseByTangents]
def wsX3_value_r3 : List Cond := [Cond.static yX0_riseByTangents, Cond.code yX0_riseByTangents cX0_riseByTangents 12 (some .long), Cond.constantLong RX0 85 (2000)]
def wsX3_value : List Cond := .code yX3_value cX3_value 4 (some .int) :: ((wsX3_value_r1 ++ (wsX3_value_r2 ++ wsX3_value_r3)) ++ wsX30 ++ wsX20 ++ wsX00 ++ (vx_atS RX3 180 "java/lang/IndexOutOfBoundsException" ["java/lang/RuntimeException", "java/lang/Exception"]).filter goodWord ++ (vx_atS RX3 218 "java/lang/IllegalArgumentException" ["java/lang/RuntimeException", "java/lang/Exception"]).filter goodWord)
def wsX3_requireFrames : List Cond := .code yX3_requireFrames cX3_requireFrames 2 none :: ([.methodLink RX3 49 yX3_requireRange, .static yX3_requireRange, .initialized RX3, .code yX3_requireRange cX3_requireRange 3 none, .classLink RX3 214 "java/lang/IllegalArgumentException", .initialized "java/lang/IllegalArgumentException"] ++ (vx_atS RX3 218 "java/lang/IllegalArgumentException" ["java/lang/RuntimeException", "java/lang/Exception"]).filter goodWord)
def wsX3_sumOver_r1 : List Cond := [Cond.fieldLink RX3 38 "EaseCurves" "values" "[I", Cond.instanceMethod yX0_bake, Cond.initialized RX0, Cond.selects RX0 yX0_bake yX0_bake, Cond.code yX0_bake cX0_bake 6 none, Cond.fieldLink RX0 9 "EaseCurves$Curve" "count" "I", Cond.methodLink RX0 27 yX0_countUpTo, Cond.instanceMethod yX0_countUpTo, Cond.selects RX0 yX0_countUpTo yX0_countUpTo, Cond.code yX0_countUpTo cX0_countUpTo 3 (some .int), Cond.methodLink RX0 19 yX0_cell, Cond.instanceMethod yX0_cell, Cond.selects RX0 yX0_cell yX0_cell, Cond.code yX0_cell cX0_cell 3 (some .int), Cond.fieldLink RX0 15 "EaseCurves$Curve" "cells" "[I", Cond.methodLink RX0 62 yX0_valueBehind, Cond.instanceMethod yX0_valueBehind, Cond.selects RX0 yX0_valueBehind yX0_valueBehind, Cond.code yX0_valueBehind cX0_valueBehind 14 (some .int), Cond.methodLink RX0 65 Lib.Math.max.name, Cond.static Lib.Math.max.name, Cond.initialized "java/lang/Math", Cond.code Lib.Math.max.name Lib.Math.max.code 2 (some .int), Cond.constantLong RX0 68 (1000)]
def wsX3_sumOver_r2 : List Cond := [Cond.constantLong RX0 70 (1000000), Cond.constantLong RX0 72 (3000), Cond.constantLong RX0 74 (2), Cond.constantLong RX0 76 (1000000000), Cond.methodLink RX0 78 yX0_tangentOf, Cond.instanceMethod yX0_tangentOf, Cond.selects RX0 yX0_tangentOf yX0_tangentOf, Cond.code yX0_tangentOf cX0_tangentOf 6 (some .int), Cond.methodLink RX0 58 yX0_isTurn, Cond.static yX0_isTurn, Cond.code yX0_isTurn cX0_isTurn 3 (some .boolean), Cond.methodLink RX0 81 yX0_riseByTangents, Cond.static yX0_riseByTangents, Cond.code yX0_riseByTangents cX0_riseByTangents 12 (some .long), Cond.constantLong RX0 85 (2000)]
def wsX3_sumOver : List Cond := .code yX3_sumOver cX3_sumOver 7 (some .long) :: ((wsX3_sumOver_r1 ++ wsX3_sumOver_r2) ++ wsX30 ++ wsX00)
def wsX3_sum_r1 : List Cond := [Cond.methodLink RX3 45 yX3_curveNumbered, Cond.instanceMethod yX3_curveNumbered, Cond.selects RX3 yX3_curveNumbered yX3_curveNumbered, Cond.initialized RX3, Cond.code yX3_curveNumbered cX3_curveNumbered 2 (some (.object "EaseCurves$Curve")), Cond.classLink RX3 176 "java/lang/IndexOutOfBoundsException", Cond.initialized "java/lang/IndexOutOfBoundsException", Cond.fieldLink RX3 12 "EaseCurves" "present" "LEaseCurves$State;", Cond.methodLink RX3 145 yX3_requireFrames, Cond.static yX3_requireFrames, Cond.code yX3_requireFrames cX3_requireFrames 2 none, Cond.methodLink RX3 49 yX3_requireRange, Cond.static yX3_requireRange, Cond.code yX3_requireRange cX3_requireRange 3 none, Cond.classLink RX3 214 "java/lang/IllegalArgumentException", Cond.initialized "java/lang/IllegalArgumentException", Cond.methodLink RX3 148 yX3_sumOver, Cond.instanceMethod yX3_sumOver, Cond.selects RX3 yX3_sumOver yX3_sumOver, Cond.code yX3_sumOver cX3_sumOver 7 (some .long), Cond.fieldLink RX3 38 "EaseCurves" "values" "[I", Cond.instanceMethod yX0_bake, Cond.initialized RX0, Cond.selects RX0 yX0_bake yX0_bake]
def wsX3_sum_r2 : List Cond := [Cond.code yX0_bake cX0_bake 6 none, Cond.fieldLink RX0 9 "EaseCurves$Curve" "count" "I", Cond.methodLink RX0 27 yX0_countUpTo, Cond.instanceMethod yX0_countUpTo, Cond.selects RX0 yX0_countUpTo yX0_countUpTo, Cond.code yX0_countUpTo cX0_countUpTo 3 (some .int), Cond.methodLink RX0 19 yX0_cell, Cond.instanceMethod yX0_cell, Cond.selects RX0 yX0_cell yX0_cell, Cond.code yX0_cell cX0_cell 3 (some .int), Cond.fieldLink RX0 15 "EaseCurves$Curve" "cells" "[I", Cond.methodLink RX0 62 yX0_valueBehind, Cond.instanceMethod yX0_valueBehind, Cond.selects RX0 yX0_valueBehind yX0_valueBehind, Cond.code yX0_valueBehind cX0_valueBehind 14 (some .int), Cond.methodLink RX0 65 Lib.Math.max.name, Cond.static Lib.Math.max.name, Cond.initialized "java/lang/Math", Cond.code Lib.Math.max.name Lib.Math.max.code 2 (some .int), Cond.constantLong RX0 68 (1000), Cond.constantLong RX0 70 (1000000), Cond.constantLong RX0 72 (3000), Cond.constantLong RX0 74 (2), Cond.constantLong RX0 76 (1000000000)]
def wsX3_sum_r3 : List Cond := [Cond.methodLink RX0 78 yX0_tangentOf, Cond.instanceMethod yX0_tangentOf, Cond.selects RX0 yX0_tangentOf yX0_tangentOf, Cond.code yX0_tangentOf cX0_tangentOf 6 (some .int), Cond.methodLink RX0 58 yX0_isTurn, Cond.static yX0_isTurn, Cond.code yX0_isTurn cX0_isTurn 3 (some .boolean), Cond.methodLink RX0 81 yX0_riseByTangents, Cond.static yX0_riseByTangents, Cond.code yX0_riseByTangents cX0_riseByTangents 12 (some .long), Cond.constantLong RX0 85 (2000)]
def wsX3_sum : List Cond := .code yX3_sum cX3_sum 5 (some .long) :: ((wsX3_sum_r1 ++ (wsX3_sum_r2 ++ wsX3_sum_r3)) ++ wsX30 ++ wsX20 ++ wsX00 ++ (vx_atS RX3 180 "java/lang/IndexOutOfBoundsException" ["java/lang/RuntimeException", "java/lang/Exception"]).filter goodWord ++ (vx_atS RX3 218 "java/lang/IllegalArgumentException" ["java/lang/RuntimeException", "java/lang/Exception"]).filter goodWord)
def wsX3_frameOfGreatest : List Cond := .code yX3_frameOfGreatest cX3_frameOfGreatest 5 (some .int) :: ([.fieldLink RX3 38 "EaseCurves" "values" "[I"] ++ wsX30)
def wsX3_frameOfSmallest : List Cond := .code yX3_frameOfSmallest cX3_frameOfSmallest 5 (some .int) :: ([.fieldLink RX3 38 "EaseCurves" "values" "[I"] ++ wsX30)
def wsX3_greatestStep : List Cond := .code yX3_greatestStep cX3_greatestStep 5 (some .int) :: ([.fieldLink RX3 38 "EaseCurves" "values" "[I", .methodLink RX3 233 Lib.Math.abs.name, .static Lib.Math.abs.name, .initialized "java/lang/Math", .code Lib.Math.abs.name Lib.Math.abs.code 1 (some .int), .methodLink RX3 238 Lib.Math.max.name, .static Lib.Math.max.name, .code Lib.Math.max.name Lib.Math.max.code 2 (some .int)] ++ wsX30)
def wsX3_extreme_r1 : List Cond := [Cond.fieldLink RX3 38 "EaseCurves" "values" "[I", Cond.methodLink RX3 45 yX3_curveNumbered, Cond.instanceMethod yX3_curveNumbered, Cond.selects RX3 yX3_curveNumbered yX3_curveNumbered, Cond.initialized RX3, Cond.code yX3_curveNumbered cX3_curveNumbered 2 (some (.object "EaseCurves$Curve")), Cond.classLink RX3 176 "java/lang/IndexOutOfBoundsException", Cond.initialized "java/lang/IndexOutOfBoundsException", Cond.fieldLink RX3 12 "EaseCurves" "present" "LEaseCurves$State;", Cond.methodLink RX3 145 yX3_requireFrames, Cond.static yX3_requireFrames, Cond.code yX3_requireFrames cX3_requireFrames 2 none, Cond.methodLink RX3 49 yX3_requireRange, Cond.static yX3_requireRange, Cond.code yX3_requireRange cX3_requireRange 3 none, Cond.classLink RX3 214 "java/lang/IllegalArgumentException", Cond.initialized "java/lang/IllegalArgumentException", Cond.instanceMethod yX0_bake, Cond.initialized RX0, Cond.selects RX0 yX0_bake yX0_bake, Cond.code yX0_bake cX0_bake 6 none, Cond.fieldLink RX0 9 "EaseCurves$Curve" "count" "I", Cond.methodLink RX0 27 yX0_countUpTo, Cond.instanceMethod yX0_countUpTo]
def wsX3_extreme_r2 : List Cond := [Cond.selects RX0 yX0_countUpTo yX0_countUpTo, Cond.code yX0_countUpTo cX0_countUpTo 3 (some .int), Cond.methodLink RX0 19 yX0_cell, Cond.instanceMethod yX0_cell, Cond.selects RX0 yX0_cell yX0_cell, Cond.code yX0_cell cX0_cell 3 (some .int), Cond.fieldLink RX0 15 "EaseCurves$Curve" "cells" "[I", Cond.methodLink RX0 62 yX0_valueBehind, Cond.instanceMethod yX0_valueBehind, Cond.selects RX0 yX0_valueBehind yX0_valueBehind, Cond.code yX0_valueBehind cX0_valueBehind 14 (some .int), Cond.methodLink RX0 65 Lib.Math.max.name, Cond.static Lib.Math.max.name, Cond.initialized "java/lang/Math", Cond.code Lib.Math.max.name Lib.Math.max.code 2 (some .int), Cond.constantLong RX0 68 (1000), Cond.constantLong RX0 70 (1000000), Cond.constantLong RX0 72 (3000), Cond.constantLong RX0 74 (2), Cond.constantLong RX0 76 (1000000000), Cond.methodLink RX0 78 yX0_tangentOf, Cond.instanceMethod yX0_tangentOf, Cond.selects RX0 yX0_tangentOf yX0_tangentOf, Cond.code yX0_tangentOf cX0_tangentOf 6 (some .int)]
def wsX3_extreme_r3 : List Cond := [Cond.methodLink RX0 58 yX0_isTurn, Cond.static yX0_isTurn, Cond.code yX0_isTurn cX0_isTurn 3 (some .boolean), Cond.methodLink RX0 81 yX0_riseByTangents, Cond.static yX0_riseByTangents, Cond.code yX0_riseByTangents cX0_riseByTangents 12 (some .long), Cond.constantLong RX0 85 (2000), Cond.methodLink RX3 156 yX3_frameOfGreatest, Cond.instanceMethod yX3_frameOfGreatest, Cond.selects RX3 yX3_frameOfGreatest yX3_frameOfGreatest, Cond.code yX3_frameOfGreatest cX3_frameOfGreatest 5 (some .int), Cond.methodLink RX3 159 yX3_frameOfSmallest, Cond.instanceMethod yX3_frameOfSmallest, Cond.selects RX3 yX3_frameOfSmallest yX3_frameOfSmallest, Cond.code yX3_frameOfSmallest cX3_frameOfSmallest 5 (some .int), Cond.methodLink RX3 162 yX3_greatestStep, Cond.instanceMethod yX3_greatestStep, Cond.selects RX3 yX3_greatestStep yX3_greatestStep, Cond.code yX3_greatestStep cX3_greatestStep 5 (some .int), Cond.methodLink RX3 233 Lib.Math.abs.name, Cond.static Lib.Math.abs.name, Cond.code Lib.Math.abs.name Lib.Math.abs.code 1 (some .int), Cond.methodLink RX3 238 Lib.Math.max.name]
def wsX3_extreme : List Cond := .code yX3_extreme cX3_extreme 6 (some .int) :: ((wsX3_extreme_r1 ++ (wsX3_extreme_r2 ++ wsX3_extreme_r3)) ++ wsX30 ++ wsX20 ++ wsX00 ++ (vx_atS RX3 180 "java/lang/IndexOutOfBoundsException" ["java/lang/RuntimeException", "java/lang/Exception"]).filter goodWord ++ (vx_atS RX3 218 "java/lang/IllegalArgumentException" ["java/lang/RuntimeException", "java/lang/Exception"]).filter goodWord)
def wsX3_crossings_r1 : List Cond := [Cond.constant RX3 99 (-99999), Cond.constant RX3 100 (99999), Cond.fieldLink RX3 38 "EaseCurves" "values" "[I", Cond.methodLink RX3 45 yX3_curveNumbered, Cond.instanceMethod yX3_curveNumbered, Cond.selects RX3 yX3_curveNumbered yX3_curveNumbered, Cond.initialized RX3, Cond.code yX3_curveNumbered cX3_curveNumbered 2 (some (.object "EaseCurves$Curve")), Cond.classLink RX3 176 "java/lang/IndexOutOfBoundsException", Cond.initialized "java/lang/IndexOutOfBoundsException", Cond.fieldLink RX3 12 "EaseCurves" "present" "LEaseCurves$State;", Cond.methodLink RX3 49 yX3_requireRange, Cond.static yX3_requireRange, Cond.code yX3_requireRange cX3_requireRange 3 none, Cond.classLink RX3 214 "java/lang/IllegalArgumentException", Cond.initialized "java/lang/IllegalArgumentException", Cond.instanceMethod yX0_bake, Cond.initialized RX0, Cond.selects RX0 yX0_bake yX0_bake, Cond.code yX0_bake cX0_bake 6 none, Cond.fieldLink RX0 9 "EaseCurves$Curve" "count" "I", Cond.methodLink RX0 27 yX0_countUpTo, Cond.instanceMethod yX0_countUpTo, Cond.selects RX0 yX0_countUpTo yX0_countUpTo]
def wsX3_crossings_r2 : List Cond := [Cond.code yX0_countUpTo cX0_countUpTo 3 (some .int), Cond.methodLink RX0 19 yX0_cell, Cond.instanceMethod yX0_cell, Cond.selects RX0 yX0_cell yX0_cell, Cond.code yX0_cell cX0_cell 3 (some .int), Cond.fieldLink RX0 15 "EaseCurves$Curve" "cells" "[I", Cond.methodLink RX0 62 yX0_valueBehind, Cond.instanceMethod yX0_valueBehind, Cond.selects RX0 yX0_valueBehind yX0_valueBehind, Cond.code yX0_valueBehind cX0_valueBehind 14 (some .int), Cond.methodLink RX0 65 Lib.Math.max.name, Cond.static Lib.Math.max.name, Cond.initialized "java/lang/Math", Cond.code Lib.Math.max.name Lib.Math.max.code 2 (some .int), Cond.constantLong RX0 68 (1000), Cond.constantLong RX0 70 (1000000), Cond.constantLong RX0 72 (3000), Cond.constantLong RX0 74 (2), Cond.constantLong RX0 76 (1000000000), Cond.methodLink RX0 78 yX0_tangentOf, Cond.instanceMethod yX0_tangentOf, Cond.selects RX0 yX0_tangentOf yX0_tangentOf, Cond.code yX0_tangentOf cX0_tangentOf 6 (some .int), Cond.methodLink RX0 58 yX0_isTurn]
def wsX3_crossings_r3 : List Cond := [Cond.static yX0_isTurn, Cond.code yX0_isTurn cX0_isTurn 3 (some .boolean), Cond.methodLink RX0 81 yX0_riseByTangents, Cond.static yX0_riseByTangents, Cond.code yX0_riseByTangents cX0_riseByTangents 12 (some .long), Cond.constantLong RX0 85 (2000)]
def wsX3_crossings : List Cond := .code yX3_crossings cX3_crossings 6 (some .int) :: ((wsX3_crossings_r1 ++ (wsX3_crossings_r2 ++ wsX3_crossings_r3)) ++ wsX30 ++ wsX20 ++ wsX00 ++ (vx_atS RX3 180 "java/lang/IndexOutOfBoundsException" ["java/lang/RuntimeException", "java/lang/Exception"]).filter goodWord ++ (vx_atS RX3 218 "java/lang/IllegalArgumentException" ["java/lang/RuntimeException", "java/lang/Exception"]).filter goodWord)
def wsX3_difference_r1 : List Cond := [Cond.fieldLink RX3 38 "EaseCurves" "values" "[I", Cond.fieldLink RX3 42 "EaseCurves" "otherValues" "[I", Cond.methodLink RX3 45 yX3_curveNumbered, Cond.instanceMethod yX3_curveNumbered, Cond.selects RX3 yX3_curveNumbered yX3_curveNumbered, Cond.initialized RX3, Cond.code yX3_curveNumbered cX3_curveNumbered 2 (some (.object "EaseCurves$Curve")), Cond.classLink RX3 176 "java/lang/IndexOutOfBoundsException", Cond.initialized "java/lang/IndexOutOfBoundsException", Cond.fieldLink RX3 12 "EaseCurves" "present" "LEaseCurves$State;", Cond.instanceMethod yX0_bake, Cond.initialized RX0, Cond.selects RX0 yX0_bake yX0_bake, Cond.code yX0_bake cX0_bake 6 none, Cond.fieldLink RX0 9 "EaseCurves$Curve" "count" "I", Cond.methodLink RX0 27 yX0_countUpTo, Cond.instanceMethod yX0_countUpTo, Cond.selects RX0 yX0_countUpTo yX0_countUpTo, Cond.code yX0_countUpTo cX0_countUpTo 3 (some .int), Cond.methodLink RX0 19 yX0_cell, Cond.instanceMethod yX0_cell, Cond.selects RX0 yX0_cell yX0_cell, Cond.code yX0_cell cX0_cell 3 (some .int), Cond.fieldLink RX0 15 "EaseCurves$Curve" "cells" "[I"]
def wsX3_difference_r2 : List Cond := [Cond.methodLink RX0 62 yX0_valueBehind, Cond.instanceMethod yX0_valueBehind, Cond.selects RX0 yX0_valueBehind yX0_valueBehind, Cond.code yX0_valueBehind cX0_valueBehind 14 (some .int), Cond.methodLink RX0 65 Lib.Math.max.name, Cond.static Lib.Math.max.name, Cond.initialized "java/lang/Math", Cond.code Lib.Math.max.name Lib.Math.max.code 2 (some .int), Cond.constantLong RX0 68 (1000), Cond.constantLong RX0 70 (1000000), Cond.constantLong RX0 72 (3000), Cond.constantLong RX0 74 (2), Cond.constantLong RX0 76 (1000000000), Cond.methodLink RX0 78 yX0_tangentOf, Cond.instanceMethod yX0_tangentOf, Cond.selects RX0 yX0_tangentOf yX0_tangentOf, Cond.code yX0_tangentOf cX0_tangentOf 6 (some .int), Cond.methodLink RX0 58 yX0_isTurn, Cond.static yX0_isTurn, Cond.code yX0_isTurn cX0_isTurn 3 (some .boolean), Cond.methodLink RX0 81 yX0_riseByTangents, Cond.static yX0_riseByTangents, Cond.code yX0_riseByTangents cX0_riseByTangents 12 (some .long), Cond.constantLong RX0 85 (2000)]
def wsX3_difference_r3 : List Cond := [Cond.methodLink RX3 165 yX3_greatestDifference, Cond.instanceMethod yX3_greatestDifference, Cond.selects RX3 yX3_greatestDifference yX3_greatestDifference, Cond.code yX3_greatestDifference cX3_greatestDifference 5 (some .int), Cond.methodLink RX3 233 Lib.Math.abs.name, Cond.static Lib.Math.abs.name, Cond.code Lib.Math.abs.name Lib.Math.abs.code 1 (some .int), Cond.methodLink RX3 238 Lib.Math.max.name]
def wsX3_difference : List Cond := .code yX3_difference cX3_difference 5 (some .int) :: ((wsX3_difference_r1 ++ (wsX3_difference_r2 ++ wsX3_difference_r3)) ++ wsX30 ++ wsX20 ++ wsX00 ++ (vx_atS RX3 180 "java/lang/IndexOutOfBoundsException" ["java/lang/RuntimeException", "java/lang/Exception"]).filter goodWord)
def wsX3_mean_r1 : List Cond := [Cond.constantDouble RX3 168 (4652007308841189376), Cond.methodLink RX3 45 yX3_curveNumbered, Cond.instanceMethod yX3_curveNumbered, Cond.selects RX3 yX3_curveNumbered yX3_curveNumbered, Cond.initialized RX3, Cond.code yX3_curveNumbered cX3_curveNumbered 2 (some (.object "EaseCurves$Curve")), Cond.classLink RX3 176 "java/lang/IndexOutOfBoundsException", Cond.initialized "java/lang/IndexOutOfBoundsException", Cond.fieldLink RX3 12 "EaseCurves" "present" "LEaseCurves$State;", Cond.methodLink RX3 148 yX3_sumOver, Cond.instanceMethod yX3_sumOver, Cond.selects RX3 yX3_sumOver yX3_sumOver, Cond.code yX3_sumOver cX3_sumOver 7 (some .long), Cond.fieldLink RX3 38 "EaseCurves" "values" "[I", Cond.instanceMethod yX0_bake, Cond.initialized RX0, Cond.selects RX0 yX0_bake yX0_bake, Cond.code yX0_bake cX0_bake 6 none, Cond.fieldLink RX0 9 "EaseCurves$Curve" "count" "I", Cond.methodLink RX0 27 yX0_countUpTo, Cond.instanceMethod yX0_countUpTo, Cond.selects RX0 yX0_countUpTo yX0_countUpTo, Cond.code yX0_countUpTo cX0_countUpTo 3 (some .int), Cond.methodLink RX0 19 yX0_cell]
def wsX3_mean_r2 : List Cond := [Cond.instanceMethod yX0_cell, Cond.selects RX0 yX0_cell yX0_cell, Cond.code yX0_cell cX0_cell 3 (some .int), Cond.fieldLink RX0 15 "EaseCurves$Curve" "cells" "[I", Cond.methodLink RX0 62 yX0_valueBehind, Cond.instanceMethod yX0_valueBehind, Cond.selects RX0 yX0_valueBehind yX0_valueBehind, Cond.code yX0_valueBehind cX0_valueBehind 14 (some .int), Cond.methodLink RX0 65 Lib.Math.max.name, Cond.static Lib.Math.max.name, Cond.initialized "java/lang/Math", Cond.code Lib.Math.max.name Lib.Math.max.code 2 (some .int), Cond.constantLong RX0 68 (1000), Cond.constantLong RX0 70 (1000000), Cond.constantLong RX0 72 (3000), Cond.constantLong RX0 74 (2), Cond.constantLong RX0 76 (1000000000), Cond.methodLink RX0 78 yX0_tangentOf, Cond.instanceMethod yX0_tangentOf, Cond.selects RX0 yX0_tangentOf yX0_tangentOf, Cond.code yX0_tangentOf cX0_tangentOf 6 (some .int), Cond.methodLink RX0 58 yX0_isTurn, Cond.static yX0_isTurn, Cond.code yX0_isTurn cX0_isTurn 3 (some .boolean)]
def wsX3_mean_r3 : List Cond := [Cond.methodLink RX0 81 yX0_riseByTangents, Cond.static yX0_riseByTangents, Cond.code yX0_riseByTangents cX0_riseByTangents 12 (some .long), Cond.constantLong RX0 85 (2000)]
def wsX3_mean : List Cond := .code yX3_mean cX3_mean 3 (some .double) :: ((wsX3_mean_r1 ++ (wsX3_mean_r2 ++ wsX3_mean_r3)) ++ wsX30 ++ wsX20 ++ wsX00 ++ (vx_atS RX3 180 "java/lang/IndexOutOfBoundsException" ["java/lang/RuntimeException", "java/lang/Exception"]).filter goodWord)
def wsX3_error_r1 : List Cond := [Cond.fieldLink RX3 38 "EaseCurves" "values" "[I", Cond.methodLink RX3 45 yX3_curveNumbered, Cond.instanceMethod yX3_curveNumbered, Cond.selects RX3 yX3_curveNumbered yX3_curveNumbered, Cond.initialized RX3, Cond.code yX3_curveNumbered cX3_curveNumbered 2 (some (.object "EaseCurves$Curve")), Cond.classLink RX3 176 "java/lang/IndexOutOfBoundsException", Cond.initialized "java/lang/IndexOutOfBoundsException", Cond.fieldLink RX3 12 "EaseCurves" "present" "LEaseCurves$State;", Cond.methodLink RX3 76 yX3_requireKey, Cond.static yX3_requireKey, Cond.code yX3_requireKey cX3_requireKey 2 none, Cond.instanceMethod yX0_mayLeaveOut, Cond.initialized RX0, Cond.selects RX0 yX0_mayLeaveOut yX0_mayLeaveOut, Cond.code yX0_mayLeaveOut cX0_mayLeaveOut 2 (some .boolean), Cond.fieldLink RX0 9 "EaseCurves$Curve" "count" "I", Cond.methodLink RX0 23 yX0_isLocked, Cond.instanceMethod yX0_isLocked, Cond.selects RX0 yX0_isLocked yX0_isLocked, Cond.code yX0_isLocked cX0_isLocked 2 (some .boolean), Cond.methodLink RX0 19 yX0_cell, Cond.instanceMethod yX0_cell, Cond.selects RX0 yX0_cell yX0_cell]
def wsX3_error_r2 : List Cond := [Cond.code yX0_cell cX0_cell 3 (some .int), Cond.fieldLink RX0 15 "EaseCurves$Curve" "cells" "[I", Cond.instanceMethod yX0_bake, Cond.selects RX0 yX0_bake yX0_bake, Cond.code yX0_bake cX0_bake 6 none, Cond.methodLink RX0 27 yX0_countUpTo, Cond.instanceMethod yX0_countUpTo, Cond.selects RX0 yX0_countUpTo yX0_countUpTo, Cond.code yX0_countUpTo cX0_countUpTo 3 (some .int), Cond.methodLink RX0 62 yX0_valueBehind, Cond.instanceMethod yX0_valueBehind, Cond.selects RX0 yX0_valueBehind yX0_valueBehind, Cond.code yX0_valueBehind cX0_valueBehind 14 (some .int), Cond.methodLink RX0 65 Lib.Math.max.name, Cond.static Lib.Math.max.name, Cond.initialized "java/lang/Math", Cond.code Lib.Math.max.name Lib.Math.max.code 2 (some .int), Cond.constantLong RX0 68 (1000), Cond.constantLong RX0 70 (1000000), Cond.constantLong RX0 72 (3000), Cond.constantLong RX0 74 (2), Cond.constantLong RX0 76 (1000000000), Cond.methodLink RX0 78 yX0_tangentOf, Cond.instanceMethod yX0_tangentOf]
def wsX3_error_r3 : List Cond := [Cond.selects RX0 yX0_tangentOf yX0_tangentOf, Cond.code yX0_tangentOf cX0_tangentOf 6 (some .int), Cond.methodLink RX0 58 yX0_isTurn, Cond.static yX0_isTurn, Cond.code yX0_isTurn cX0_isTurn 3 (some .boolean), Cond.methodLink RX0 81 yX0_riseByTangents, Cond.static yX0_riseByTangents, Cond.code yX0_riseByTangents cX0_riseByTangents 12 (some .long), Cond.constantLong RX0 85 (2000), Cond.methodLink RX3 173 yX3_differenceWithout, Cond.instanceMethod yX3_differenceWithout, Cond.selects RX3 yX3_differenceWithout yX3_differenceWithout, Cond.code yX3_differenceWithout cX3_differenceWithout 5 (some .int), Cond.methodLink RX3 238 Lib.Math.max.name, Cond.methodLink RX3 241 Lib.Math.min.name, Cond.static Lib.Math.min.name, Cond.code Lib.Math.min.name Lib.Math.min.code 2 (some .int), Cond.fieldLink RX3 34 "EaseCurves" "trial" "LEaseCurves$Curve;", Cond.fieldLink RX3 42 "EaseCurves" "otherValues" "[I", Cond.instanceMethod yX0_become, Cond.selects RX0 yX0_become yX0_become, Cond.code yX0_become cX0_become 2 none, Cond.methodLink RX0 31 arraycopyName, Cond.native arraycopyName]
def wsX3_error_r4 : List Cond := [Cond.static arraycopyName, Cond.initialized "java/lang/System", Cond.instanceMethod yX0_takeOut, Cond.selects RX0 yX0_takeOut yX0_takeOut, Cond.code yX0_takeOut cX0_takeOut 3 none, Cond.methodLink RX3 165 yX3_greatestDifference, Cond.instanceMethod yX3_greatestDifference, Cond.selects RX3 yX3_greatestDifference yX3_greatestDifference, Cond.code yX3_greatestDifference cX3_greatestDifference 5 (some .int), Cond.methodLink RX3 233 Lib.Math.abs.name, Cond.static Lib.Math.abs.name, Cond.code Lib.Math.abs.name Lib.Math.abs.code 1 (some .int)]
def wsX3_error : List Cond := .code yX3_error cX3_error 4 (some .int) :: ((wsX3_error_r1 ++ (wsX3_error_r2 ++ (wsX3_error_r3 ++ wsX3_error_r4))) ++ wsX30 ++ wsX20 ++ wsX00 ++ (vx_atS RX3 180 "java/lang/IndexOutOfBoundsException" ["java/lang/RuntimeException", "java/lang/Exception"]).filter goodWord)
def wsX3_greatestStretch_r1 : List Cond := [Cond.methodLink RX3 45 yX3_curveNumbered, Cond.instanceMethod yX3_curveNumbered, Cond.selects RX3 yX3_curveNumbered yX3_curveNumbered, Cond.initialized RX3, Cond.code yX3_curveNumbered cX3_curveNumbered 2 (some (.object "EaseCurves$Curve")), Cond.classLink RX3 176 "java/lang/IndexOutOfBoundsException", Cond.initialized "java/lang/IndexOutOfBoundsException", Cond.fieldLink RX3 12 "EaseCurves" "present" "LEaseCurves$State;", Cond.methodLink RX3 104 yX3_requireSpan, Cond.static yX3_requireSpan, Cond.code yX3_requireSpan cX3_requireSpan 2 none, Cond.methodLink RX3 49 yX3_requireRange, Cond.static yX3_requireRange, Cond.code yX3_requireRange cX3_requireRange 3 none, Cond.classLink RX3 214 "java/lang/IllegalArgumentException", Cond.initialized "java/lang/IllegalArgumentException", Cond.instanceMethod yX0_canStretch, Cond.initialized RX0, Cond.selects RX0 yX0_canStretch yX0_canStretch, Cond.code yX0_canStretch cX0_canStretch 8 (some .boolean), Cond.fieldLink RX0 9 "EaseCurves$Curve" "count" "I", Cond.methodLink RX0 19 yX0_cell, Cond.instanceMethod yX0_cell, Cond.selects RX0 yX0_cell yX0_cell]
def wsX3_greatestStretch_r2 : List Cond := [Cond.code yX0_cell cX0_cell 3 (some .int), Cond.fieldLink RX0 15 "EaseCurves$Curve" "cells" "[I", Cond.methodLink RX0 54 yX0_stretchedFrame, Cond.static yX0_stretchedFrame, Cond.code yX0_stretchedFrame cX0_stretchedFrame 4 (some .int), Cond.methodLink RX0 23 yX0_isLocked, Cond.instanceMethod yX0_isLocked, Cond.selects RX0 yX0_isLocked yX0_isLocked, Cond.code yX0_isLocked cX0_isLocked 2 (some .boolean)]
def wsX3_greatestStretch : List Cond := .code yX3_greatestStretch cX3_greatestStretch 6 (some .int) :: ((wsX3_greatestStretch_r1 ++ wsX3_greatestStretch_r2) ++ wsX30 ++ wsX20 ++ wsX00 ++ (vx_atS RX3 180 "java/lang/IndexOutOfBoundsException" ["java/lang/RuntimeException", "java/lang/Exception"]).filter goodWord ++ (vx_atS RX3 218 "java/lang/IllegalArgumentException" ["java/lang/RuntimeException", "java/lang/Exception"]).filter goodWord)
def wsX3_leastEase_r1 : List Cond := [Cond.classLink RX3 176 "java/lang/IndexOutOfBoundsException", Cond.initialized "java/lang/IndexOutOfBoundsException", Cond.fieldLink RX3 34 "EaseCurves" "trial" "LEaseCurves$Curve;", Cond.methodLink RX3 45 yX3_curveNumbered, Cond.instanceMethod yX3_curveNumbered, Cond.selects RX3 yX3_curveNumbered yX3_curveNumbered, Cond.initialized RX3, Cond.code yX3_curveNumbered cX3_curveNumbered 2 (some (.object "EaseCurves$Curve")), Cond.fieldLink RX3 12 "EaseCurves" "present" "LEaseCurves$State;", Cond.methodLink RX3 76 yX3_requireKey, Cond.static yX3_requireKey, Cond.code yX3_requireKey cX3_requireKey 2 none, Cond.instanceMethod yX0_cell, Cond.initialized RX0, Cond.selects RX0 yX0_cell yX0_cell, Cond.code yX0_cell cX0_cell 3 (some .int), Cond.fieldLink RX0 9 "EaseCurves$Curve" "count" "I", Cond.fieldLink RX0 15 "EaseCurves$Curve" "cells" "[I", Cond.instanceMethod yX0_become, Cond.selects RX0 yX0_become yX0_become, Cond.code yX0_become cX0_become 2 none, Cond.methodLink RX0 31 arraycopyName, Cond.native arraycopyName, Cond.static arraycopyName]
def wsX3_leastEase_r2 : List Cond := [Cond.initialized "java/lang/System", Cond.instanceMethod yX0_put, Cond.selects RX0 yX0_put yX0_put, Cond.code yX0_put cX0_put 4 none, Cond.methodLink RX3 148 yX3_sumOver, Cond.instanceMethod yX3_sumOver, Cond.selects RX3 yX3_sumOver yX3_sumOver, Cond.code yX3_sumOver cX3_sumOver 7 (some .long), Cond.fieldLink RX3 38 "EaseCurves" "values" "[I", Cond.instanceMethod yX0_bake, Cond.selects RX0 yX0_bake yX0_bake, Cond.code yX0_bake cX0_bake 6 none, Cond.methodLink RX0 27 yX0_countUpTo, Cond.instanceMethod yX0_countUpTo, Cond.selects RX0 yX0_countUpTo yX0_countUpTo, Cond.code yX0_countUpTo cX0_countUpTo 3 (some .int), Cond.methodLink RX0 19 yX0_cell, Cond.methodLink RX0 62 yX0_valueBehind, Cond.instanceMethod yX0_valueBehind, Cond.selects RX0 yX0_valueBehind yX0_valueBehind, Cond.code yX0_valueBehind cX0_valueBehind 14 (some .int), Cond.methodLink RX0 65 Lib.Math.max.name, Cond.static Lib.Math.max.name, Cond.initialized "java/lang/Math"]
def wsX3_leastEase_r3 : List Cond := [Cond.code Lib.Math.max.name Lib.Math.max.code 2 (some .int), Cond.constantLong RX0 68 (1000), Cond.constantLong RX0 70 (1000000), Cond.constantLong RX0 72 (3000), Cond.constantLong RX0 74 (2), Cond.constantLong RX0 76 (1000000000), Cond.methodLink RX0 78 yX0_tangentOf, Cond.instanceMethod yX0_tangentOf, Cond.selects RX0 yX0_tangentOf yX0_tangentOf, Cond.code yX0_tangentOf cX0_tangentOf 6 (some .int), Cond.methodLink RX0 58 yX0_isTurn, Cond.static yX0_isTurn, Cond.code yX0_isTurn cX0_isTurn 3 (some .boolean), Cond.methodLink RX0 81 yX0_riseByTangents, Cond.static yX0_riseByTangents, Cond.code yX0_riseByTangents cX0_riseByTangents 12 (some .long), Cond.constantLong RX0 85 (2000)]
def wsX3_leastEase : List Cond := .code yX3_leastEase cX3_leastEase 12 (some .int) :: ((wsX3_leastEase_r1 ++ (wsX3_leastEase_r2 ++ wsX3_leastEase_r3)) ++ wsX00 ++ wsX30 ++ wsX20 ++ (vx_atS RX3 180 "java/lang/IndexOutOfBoundsException" ["java/lang/RuntimeException", "java/lang/Exception"]).filter goodWord)
def wsX3_append : List Cond := .code yX3_append cX3_append 2 (some .int) :: ([.classLink RX3 56 "java/lang/IllegalStateException", .initialized "java/lang/IllegalStateException", .fieldLink RX3 27 "EaseCurves" "text" "LEaseCurves$CurveText;", .methodLink RX3 49 yX3_requireRange, .static yX3_requireRange, .initialized RX3, .code yX3_requireRange cX3_requireRange 3 none, .classLink RX3 214 "java/lang/IllegalArgumentException", .initialized "java/lang/IllegalArgumentException", .instanceMethod yX1_add, .initialized RX1, .selects RX1 yX1_add yX1_add, .code yX1_add cX1_add 2 none, .fieldLink RX1 15 "EaseCurves$CurveText" "length" "I", .fieldLink RX1 9 "EaseCurves$CurveText" "bytes" "[B"] ++ wsX30 ++ wsX10 ++ (vx_atS RX3 60 "java/lang/IllegalStateException" ["java/lang/RuntimeException", "java/lang/Exception"]).filter goodWord ++ (vx_atS RX3 218 "java/lang/IllegalArgumentException" ["java/lang/RuntimeException", "java/lang/Exception"]).filter goodWord)
def wsX3_clearText : List Cond := .code yX3_clearText cX3_clearText 2 (some .int) :: ([.fieldLink RX3 27 "EaseCurves" "text" "LEaseCurves$CurveText;"] ++ wsX30 ++ wsX10)
def wsX3_parse_r1 : List Cond := [Cond.fieldLink RX3 27 "EaseCurves" "text" "LEaseCurves$CurveText;", Cond.fieldLink RX3 34 "EaseCurves" "trial" "LEaseCurves$Curve;", Cond.methodLink RX3 45 yX3_curveNumbered, Cond.instanceMethod yX3_curveNumbered, Cond.selects RX3 yX3_curveNumbered yX3_curveNumbered, Cond.initialized RX3, Cond.code yX3_curveNumbered cX3_curveNumbered 2 (some (.object "EaseCurves$Curve")), Cond.classLink RX3 176 "java/lang/IndexOutOfBoundsException", Cond.initialized "java/lang/IndexOutOfBoundsException", Cond.fieldLink RX3 12 "EaseCurves" "present" "LEaseCurves$State;", Cond.instanceMethod yX1_readInto, Cond.initialized RX1, Cond.selects RX1 yX1_readInto yX1_readInto, Cond.code yX1_readInto cX1_readInto 3 (some .int), Cond.fieldLink RX1 19 "EaseCurves$CurveText" "at" "I", Cond.fieldLink RX1 15 "EaseCurves$CurveText" "length" "I", Cond.methodLink RX1 27 yX1_readKey, Cond.instanceMethod yX1_readKey, Cond.selects RX1 yX1_readKey yX1_readKey, Cond.code yX1_readKey cX1_readKey 9 (some .boolean), Cond.methodLink RX1 31 yX1_readDigits, Cond.instanceMethod yX1_readDigits, Cond.selects RX1 yX1_readDigits yX1_readDigits, Cond.code yX1_readDigits cX1_readDigits 4 (some .int)]
def wsX3_parse_r2 : List Cond := [Cond.fieldLink RX1 9 "EaseCurves$CurveText" "bytes" "[B", Cond.methodLink RX1 35 yX1_isSign, Cond.instanceMethod yX1_isSign, Cond.selects RX1 yX1_isSign yX1_isSign, Cond.code yX1_isSign cX1_isSign 4 (some .boolean), Cond.instanceMethod yX0_lastFrame, Cond.initialized RX0, Cond.selects RX0 yX0_lastFrame yX0_lastFrame, Cond.code yX0_lastFrame cX0_lastFrame 1 (some .int), Cond.fieldLink RX0 9 "EaseCurves$Curve" "count" "I", Cond.methodLink RX0 19 yX0_cell, Cond.instanceMethod yX0_cell, Cond.selects RX0 yX0_cell yX0_cell, Cond.code yX0_cell cX0_cell 3 (some .int), Cond.fieldLink RX0 15 "EaseCurves$Curve" "cells" "[I", Cond.methodLink RX1 43 yX1_skip, Cond.instanceMethod yX1_skip, Cond.selects RX1 yX1_skip yX1_skip, Cond.code yX1_skip cX1_skip 2 (some .boolean), Cond.methodLink RX1 47 yX1_readMode, Cond.instanceMethod yX1_readMode, Cond.selects RX1 yX1_readMode yX1_readMode, Cond.code yX1_readMode cX1_readMode 1 (some .int), Cond.instanceMethod yX0_insert]
def wsX3_parse_r3 : List Cond := [Cond.selects RX0 yX0_insert yX0_insert, Cond.code yX0_insert cX0_insert 9 (some .int), Cond.methodLink RX0 31 arraycopyName, Cond.native arraycopyName, Cond.static arraycopyName, Cond.initialized "java/lang/System", Cond.methodLink RX0 27 yX0_countUpTo, Cond.instanceMethod yX0_countUpTo, Cond.selects RX0 yX0_countUpTo yX0_countUpTo, Cond.code yX0_countUpTo cX0_countUpTo 3 (some .int), Cond.methodLink RX0 37 yX0_put, Cond.instanceMethod yX0_put, Cond.selects RX0 yX0_put yX0_put, Cond.code yX0_put cX0_put 4 none, Cond.methodLink RX3 118 yX3_requireNoLock, Cond.static yX3_requireNoLock, Cond.code yX3_requireNoLock cX3_requireNoLock 1 none, Cond.classLink RX3 56 "java/lang/IllegalStateException", Cond.initialized "java/lang/IllegalStateException", Cond.instanceMethod yX0_hasLock, Cond.selects RX0 yX0_hasLock yX0_hasLock, Cond.code yX0_hasLock cX0_hasLock 2 (some .boolean), Cond.methodLink RX0 23 yX0_isLocked, Cond.instanceMethod yX0_isLocked]
def wsX3_parse_r4 : List Cond := [Cond.selects RX0 yX0_isLocked yX0_isLocked, Cond.code yX0_isLocked cX0_isLocked 2 (some .boolean), Cond.methodLink RX3 69 yX3_saveState, Cond.instanceMethod yX3_saveState, Cond.selects RX3 yX3_saveState yX3_saveState, Cond.code yX3_saveState cX3_saveState 1 none, Cond.fieldLink RX3 20 "EaseCurves" "savedCount" "I", Cond.fieldLink RX3 16 "EaseCurves" "saved" "[LEaseCurves$State;", Cond.methodLink RX3 230 yX3_dropOldestState, Cond.instanceMethod yX3_dropOldestState, Cond.selects RX3 yX3_dropOldestState yX3_dropOldestState, Cond.code yX3_dropOldestState cX3_dropOldestState 3 none, Cond.instanceMethod yX2_become, Cond.initialized RX2, Cond.selects RX2 yX2_become yX2_become, Cond.code yX2_become cX2_become 3 none, Cond.fieldLink RX2 11 "EaseCurves$State" "curves" "[LEaseCurves$Curve;", Cond.instanceMethod yX0_become, Cond.selects RX0 yX0_become yX0_become, Cond.code yX0_become cX0_become 2 none]
def wsX3_parse : List Cond := .code yX3_parse cX3_parse 4 (some .int) :: ((wsX3_parse_r1 ++ (wsX3_parse_r2 ++ (wsX3_parse_r3 ++ wsX3_parse_r4))) ++ wsX30 ++ wsX00 ++ wsX20 ++ wsX10 ++ (vx_atS RX3 180 "java/lang/IndexOutOfBoundsException" ["java/lang/RuntimeException", "java/lang/Exception"]).filter goodWord ++ (vx_atS RX3 60 "java/lang/IllegalStateException" ["java/lang/RuntimeException", "java/lang/Exception"]).filter goodWord)
def wsX3_undo : List Cond := .code yX3_undo cX3_undo 1 (some .int) :: ([.classLink RX3 56 "java/lang/IllegalStateException", .initialized "java/lang/IllegalStateException", .fieldLink RX3 20 "EaseCurves" "savedCount" "I", .fieldLink RX3 12 "EaseCurves" "present" "LEaseCurves$State;", .fieldLink RX3 16 "EaseCurves" "saved" "[LEaseCurves$State;", .instanceMethod yX2_become, .initialized RX2, .selects RX2 yX2_become yX2_become, .code yX2_become cX2_become 3 none, .fieldLink RX2 11 "EaseCurves$State" "curves" "[LEaseCurves$Curve;", .instanceMethod yX0_become, .initialized RX0, .selects RX0 yX0_become yX0_become, .code yX0_become cX0_become 2 none, .fieldLink RX0 9 "EaseCurves$Curve" "count" "I", .fieldLink RX0 15 "EaseCurves$Curve" "cells" "[I", .methodLink RX0 31 arraycopyName, .native arraycopyName, .static arraycopyName, .initialized "java/lang/System"] ++ wsX30 ++ wsX20 ++ wsX00 ++ (vx_atS RX3 60 "java/lang/IllegalStateException" ["java/lang/RuntimeException", "java/lang/Exception"]).filter goodWord)
def wsX3_digestOfCurve_r1 : List Cond := [Cond.constantLong RX3 208 (31), Cond.methodLink RX3 138 yX3_aboutKey, Cond.static yX3_aboutKey, Cond.initialized RX3, Cond.code yX3_aboutKey cX3_aboutKey 3 (some .int), Cond.instanceMethod yX0_tangentOf, Cond.initialized RX0, Cond.selects RX0 yX0_tangentOf yX0_tangentOf, Cond.code yX0_tangentOf cX0_tangentOf 6 (some .int), Cond.fieldLink RX0 9 "EaseCurves$Curve" "count" "I", Cond.methodLink RX0 19 yX0_cell, Cond.instanceMethod yX0_cell, Cond.selects RX0 yX0_cell yX0_cell, Cond.code yX0_cell cX0_cell 3 (some .int), Cond.fieldLink RX0 15 "EaseCurves$Curve" "cells" "[I", Cond.methodLink RX0 58 yX0_isTurn, Cond.static yX0_isTurn, Cond.code yX0_isTurn cX0_isTurn 3 (some .boolean), Cond.instanceMethod yX0_valueAt, Cond.selects RX0 yX0_valueAt yX0_valueAt, Cond.code yX0_valueAt cX0_valueAt 2 (some .int), Cond.methodLink RX0 27 yX0_countUpTo, Cond.instanceMethod yX0_countUpTo, Cond.selects RX0 yX0_countUpTo yX0_countUpTo]
def wsX3_digestOfCurve_r2 : List Cond := [Cond.code yX0_countUpTo cX0_countUpTo 3 (some .int), Cond.methodLink RX0 62 yX0_valueBehind, Cond.instanceMethod yX0_valueBehind, Cond.selects RX0 yX0_valueBehind yX0_valueBehind, Cond.code yX0_valueBehind cX0_valueBehind 14 (some .int), Cond.methodLink RX0 65 Lib.Math.max.name, Cond.static Lib.Math.max.name, Cond.initialized "java/lang/Math", Cond.code Lib.Math.max.name Lib.Math.max.code 2 (some .int), Cond.constantLong RX0 68 (1000), Cond.constantLong RX0 70 (1000000), Cond.constantLong RX0 72 (3000), Cond.constantLong RX0 74 (2), Cond.constantLong RX0 76 (1000000000), Cond.methodLink RX0 78 yX0_tangentOf, Cond.methodLink RX0 81 yX0_riseByTangents, Cond.static yX0_riseByTangents, Cond.code yX0_riseByTangents cX0_riseByTangents 12 (some .long), Cond.constantLong RX0 85 (2000)]
def wsX3_digestOfCurve : List Cond := .code yX3_digestOfCurve cX3_digestOfCurve 7 (some .long) :: ((wsX3_digestOfCurve_r1 ++ wsX3_digestOfCurve_r2) ++ wsX00)
def wsX3_digest_r1 : List Cond := [Cond.constantLong RX3 198 (103013), Cond.fieldLink RX3 27 "EaseCurves" "text" "LEaseCurves$CurveText;", Cond.fieldLink RX3 12 "EaseCurves" "present" "LEaseCurves$State;", Cond.constantLong RX3 208 (31), Cond.fieldLink RX3 20 "EaseCurves" "savedCount" "I", Cond.methodLink RX3 204 yX3_digestOfCurve, Cond.static yX3_digestOfCurve, Cond.initialized RX3, Cond.code yX3_digestOfCurve cX3_digestOfCurve 7 (some .long), Cond.methodLink RX3 138 yX3_aboutKey, Cond.static yX3_aboutKey, Cond.code yX3_aboutKey cX3_aboutKey 3 (some .int), Cond.instanceMethod yX0_tangentOf, Cond.initialized RX0, Cond.selects RX0 yX0_tangentOf yX0_tangentOf, Cond.code yX0_tangentOf cX0_tangentOf 6 (some .int), Cond.fieldLink RX0 9 "EaseCurves$Curve" "count" "I", Cond.methodLink RX0 19 yX0_cell, Cond.instanceMethod yX0_cell, Cond.selects RX0 yX0_cell yX0_cell, Cond.code yX0_cell cX0_cell 3 (some .int), Cond.fieldLink RX0 15 "EaseCurves$Curve" "cells" "[I", Cond.methodLink RX0 58 yX0_isTurn, Cond.static yX0_isTurn]
def wsX3_digest_r2 : List Cond := [Cond.code yX0_isTurn cX0_isTurn 3 (some .boolean), Cond.instanceMethod yX0_valueAt, Cond.selects RX0 yX0_valueAt yX0_valueAt, Cond.code yX0_valueAt cX0_valueAt 2 (some .int), Cond.methodLink RX0 27 yX0_countUpTo, Cond.instanceMethod yX0_countUpTo, Cond.selects RX0 yX0_countUpTo yX0_countUpTo, Cond.code yX0_countUpTo cX0_countUpTo 3 (some .int), Cond.methodLink RX0 62 yX0_valueBehind, Cond.instanceMethod yX0_valueBehind, Cond.selects RX0 yX0_valueBehind yX0_valueBehind, Cond.code yX0_valueBehind cX0_valueBehind 14 (some .int), Cond.methodLink RX0 65 Lib.Math.max.name, Cond.static Lib.Math.max.name, Cond.initialized "java/lang/Math", Cond.code Lib.Math.max.name Lib.Math.max.code 2 (some .int), Cond.constantLong RX0 68 (1000), Cond.constantLong RX0 70 (1000000), Cond.constantLong RX0 72 (3000), Cond.constantLong RX0 74 (2), Cond.constantLong RX0 76 (1000000000), Cond.methodLink RX0 78 yX0_tangentOf, Cond.methodLink RX0 81 yX0_riseByTangents, Cond.static yX0_riseByTangents]
def wsX3_digest_r3 : List Cond := [Cond.code yX0_riseByTangents cX0_riseByTangents 12 (some .long), Cond.constantLong RX0 85 (2000)]
def wsX3_digest : List Cond := .code yX3_digest cX3_digest 4 (some .long) :: ((wsX3_digest_r1 ++ (wsX3_digest_r2 ++ wsX3_digest_r3)) ++ wsX30 ++ wsX10 ++ wsX20 ++ wsX00)
def wsX4_init : List Cond := .code yX4_init cX4_init 1 none :: ([.methodLink RX4 1 objectInit, .instanceMethod objectInit, .code objectInit ⟨#[0xb1]⟩ 1 none, .arrayClass .int, .fieldLink RX4 7 "EaseCurvesModel" "s" "[I", .fieldLink RX4 13 "EaseCurvesModel" "past" "[I", .fieldLink RX4 16 "EaseCurvesModel" "aside" "[I", .fieldLink RX4 19 "EaseCurvesModel" "kept" "[I", .fieldLink RX4 22 "EaseCurvesModel" "text" "[I", .fieldLink RX4 25 "EaseCurvesModel" "baked" "[I", .fieldLink RX4 28 "EaseCurvesModel" "typed" "I"] ++ wsX40)
def wsX4_thrown : List Cond := .code yX4_thrown cX4_thrown 1 (some .int) :: ([.fieldLink RX4 32 "EaseCurvesModel" "thrown" "I"] ++ wsX40)
def wsX4_in : List Cond := .code yX4_in cX4_in 3 (some .boolean) :: ([])
def wsX4_fails : List Cond := .code yX4_fails cX4_fails 2 (some .int) :: ([.fieldLink RX4 32 "EaseCurvesModel" "thrown" "I"] ++ wsX40)
def wsX4_tells : List Cond := .code yX4_tells cX4_tells 2 (some .int) :: ([.fieldLink RX4 32 "EaseCurvesModel" "thrown" "I"] ++ wsX40)
def wsX4_hold : List Cond := .code yX4_hold cX4_hold 2 none :: ([.fieldLink RX4 16 "EaseCurvesModel" "aside" "[I", .fieldLink RX4 7 "EaseCurvesModel" "s" "[I"] ++ wsX40)
def wsX4_ends : List Cond := .code yX4_ends cX4_ends 3 (some .int) :: ([.fieldLink RX4 35 "EaseCurvesModel" "pasts" "I", .fieldLink RX4 13 "EaseCurvesModel" "past" "[I", .fieldLink RX4 16 "EaseCurvesModel" "aside" "[I", .methodLink RX4 38 yX4_tells, .instanceMethod yX4_tells, .selects RX4 yX4_tells yX4_tells, .initialized RX4, .code yX4_tells cX4_tells 2 (some .int), .fieldLink RX4 32 "EaseCurvesModel" "thrown" "I"] ++ wsX40)
def wsX4_isCurve : List Cond := .code yX4_isCurve cX4_isCurve 1 (some .boolean) :: ([.methodLink RX4 42 yX4_in, .static yX4_in, .initialized RX4, .code yX4_in cX4_in 3 (some .boolean)])
def wsX4_many : List Cond := .code yX4_many cX4_many 2 (some .int) :: ([.fieldLink RX4 7 "EaseCurvesModel" "s" "[I"] ++ wsX40)
def wsX4_isKey : List Cond := .code yX4_isKey cX4_isKey 3 (some .boolean) :: ([.methodLink RX4 46 yX4_isCurve, .static yX4_isCurve, .initialized RX4, .code yX4_isCurve cX4_isCurve 1 (some .boolean), .methodLink RX4 42 yX4_in, .static yX4_in, .code yX4_in cX4_in 3 (some .boolean), .methodLink RX4 50 yX4_many, .instanceMethod yX4_many, .selects RX4 yX4_many yX4_many, .code yX4_many cX4_many 2 (some .int), .fieldLink RX4 7 "EaseCurvesModel" "s" "[I"] ++ wsX40)
def wsX4_spot : List Cond := .code yX4_spot cX4_spot 2 (some .int) :: ([])
def wsX4_of : List Cond := .code yX4_of cX4_of 4 (some .int) :: ([.fieldLink RX4 7 "EaseCurvesModel" "s" "[I", .methodLink RX4 53 yX4_spot, .static yX4_spot, .initialized RX4, .code yX4_spot cX4_spot 2 (some .int)] ++ wsX40)
def wsX4_isFrame : List Cond := .code yX4_isFrame cX4_isFrame 1 (some .boolean) :: ([.methodLink RX4 42 yX4_in, .static yX4_in, .initialized RX4, .code yX4_in cX4_in 3 (some .boolean)])
def wsX4_isValue : List Cond := .code yX4_isValue cX4_isValue 1 (some .boolean) :: ([.methodLink RX4 42 yX4_in, .static yX4_in, .initialized RX4, .code yX4_in cX4_in 3 (some .boolean)])
def wsX4_keyAt : List Cond := .code yX4_keyAt cX4_keyAt 4 (some .int) :: ([.methodLink RX4 50 yX4_many, .instanceMethod yX4_many, .selects RX4 yX4_many yX4_many, .initialized RX4, .code yX4_many cX4_many 2 (some .int), .fieldLink RX4 7 "EaseCurvesModel" "s" "[I", .methodLink RX4 57 yX4_of, .instanceMethod yX4_of, .selects RX4 yX4_of yX4_of, .code yX4_of cX4_of 4 (some .int), .methodLink RX4 53 yX4_spot, .static yX4_spot, .code yX4_spot cX4_spot 2 (some .int)] ++ wsX40)
def wsX4_hasLock : List Cond := .code yX4_hasLock cX4_hasLock 4 (some .boolean) :: ([.methodLink RX4 50 yX4_many, .instanceMethod yX4_many, .selects RX4 yX4_many yX4_many, .initialized RX4, .code yX4_many cX4_many 2 (some .int), .fieldLink RX4 7 "EaseCurvesModel" "s" "[I", .methodLink RX4 57 yX4_of, .instanceMethod yX4_of, .selects RX4 yX4_of yX4_of, .code yX4_of cX4_of 4 (some .int), .methodLink RX4 53 yX4_spot, .static yX4_spot, .code yX4_spot cX4_spot 2 (some .int)] ++ wsX40)
def wsX4_tangent : List Cond := .code yX4_tangent cX4_tangent 8 (some .int) :: ([.methodLink RX4 57 yX4_of, .instanceMethod yX4_of, .selects RX4 yX4_of yX4_of, .initialized RX4, .code yX4_of cX4_of 4 (some .int), .fieldLink RX4 7 "EaseCurvesModel" "s" "[I", .methodLink RX4 53 yX4_spot, .static yX4_spot, .code yX4_spot cX4_spot 2 (some .int), .methodLink RX4 50 yX4_many, .instanceMethod yX4_many, .selects RX4 yX4_many yX4_many, .code yX4_many cX4_many 2 (some .int)] ++ wsX40)
def wsX4_valueAt : List Cond := .code yX4_valueAt cX4_valueAt 20 (some .int) :: ([.constantLong RX4 61 (1000), .constantLong RX4 63 (1000000), .constantLong RX4 65 (3000), .constantLong RX4 67 (2), .constantLong RX4 69 (1000000000), .constantLong RX4 74 (2000), .methodLink RX4 50 yX4_many, .instanceMethod yX4_many, .selects RX4 yX4_many yX4_many, .initialized RX4, .code yX4_many cX4_many 2 (some .int), .fieldLink RX4 7 "EaseCurvesModel" "s" "[I", .methodLink RX4 57 yX4_of, .instanceMethod yX4_of, .selects RX4 yX4_of yX4_of, .code yX4_of cX4_of 4 (some .int), .methodLink RX4 53 yX4_spot, .static yX4_spot, .code yX4_spot cX4_spot 2 (some .int), .methodLink RX4 71 yX4_tangent, .instanceMethod yX4_tangent, .selects RX4 yX4_tangent yX4_tangent, .code yX4_tangent cX4_tangent 8 (some .int)] ++ wsX40)
def wsX4_bakes_r1 : List Cond := [Cond.fieldLink RX4 25 "EaseCurvesModel" "baked" "[I", Cond.methodLink RX4 76 yX4_valueAt, Cond.instanceMethod yX4_valueAt, Cond.selects RX4 yX4_valueAt yX4_valueAt, Cond.initialized RX4, Cond.code yX4_valueAt cX4_valueAt 20 (some .int), Cond.constantLong RX4 61 (1000), Cond.constantLong RX4 63 (1000000), Cond.constantLong RX4 65 (3000), Cond.constantLong RX4 67 (2), Cond.constantLong RX4 69 (1000000000), Cond.constantLong RX4 74 (2000), Cond.methodLink RX4 50 yX4_many, Cond.instanceMethod yX4_many, Cond.selects RX4 yX4_many yX4_many, Cond.code yX4_many cX4_many 2 (some .int), Cond.fieldLink RX4 7 "EaseCurvesModel" "s" "[I", Cond.methodLink RX4 57 yX4_of, Cond.instanceMethod yX4_of, Cond.selects RX4 yX4_of yX4_of, Cond.code yX4_of cX4_of 4 (some .int), Cond.methodLink RX4 53 yX4_spot, Cond.static yX4_spot, Cond.code yX4_spot cX4_spot 2 (some .int)]
def wsX4_bakes_r2 : List Cond := [Cond.methodLink RX4 71 yX4_tangent, Cond.instanceMethod yX4_tangent, Cond.selects RX4 yX4_tangent yX4_tangent, Cond.code yX4_tangent cX4_tangent 8 (some .int)]
def wsX4_bakes : List Cond := .code yX4_bakes cX4_bakes 3 none :: ((wsX4_bakes_r1 ++ wsX4_bakes_r2) ++ wsX40)
def wsX4_comes : List Cond := .code yX4_comes cX4_comes 7 (some .int) :: ([.fieldLink RX4 7 "EaseCurvesModel" "s" "[I", .methodLink RX4 50 yX4_many, .instanceMethod yX4_many, .selects RX4 yX4_many yX4_many, .initialized RX4, .code yX4_many cX4_many 2 (some .int), .methodLink RX4 57 yX4_of, .instanceMethod yX4_of, .selects RX4 yX4_of yX4_of, .code yX4_of cX4_of 4 (some .int), .methodLink RX4 53 yX4_spot, .static yX4_spot, .code yX4_spot cX4_spot 2 (some .int)] ++ wsX40)
def wsX4_goes : List Cond := .code yX4_goes cX4_goes 4 none :: ([.fieldLink RX4 7 "EaseCurvesModel" "s" "[I", .methodLink RX4 53 yX4_spot, .static yX4_spot, .initialized RX4, .code yX4_spot cX4_spot 2 (some .int), .methodLink RX4 50 yX4_many, .instanceMethod yX4_many, .selects RX4 yX4_many yX4_many, .code yX4_many cX4_many 2 (some .int)] ++ wsX40)
def wsX4_addKey_r1 : List Cond := [Cond.methodLink RX4 46 yX4_isCurve, Cond.static yX4_isCurve, Cond.initialized RX4, Cond.code yX4_isCurve cX4_isCurve 1 (some .boolean), Cond.methodLink RX4 42 yX4_in, Cond.static yX4_in, Cond.code yX4_in cX4_in 3 (some .boolean), Cond.methodLink RX4 79 yX4_fails, Cond.instanceMethod yX4_fails, Cond.selects RX4 yX4_fails yX4_fails, Cond.code yX4_fails cX4_fails 2 (some .int), Cond.fieldLink RX4 32 "EaseCurvesModel" "thrown" "I", Cond.methodLink RX4 82 yX4_isFrame, Cond.static yX4_isFrame, Cond.code yX4_isFrame cX4_isFrame 1 (some .boolean), Cond.methodLink RX4 85 yX4_isValue, Cond.static yX4_isValue, Cond.code yX4_isValue cX4_isValue 1 (some .boolean), Cond.methodLink RX4 50 yX4_many, Cond.instanceMethod yX4_many, Cond.selects RX4 yX4_many yX4_many, Cond.code yX4_many cX4_many 2 (some .int), Cond.fieldLink RX4 7 "EaseCurvesModel" "s" "[I", Cond.methodLink RX4 88 yX4_keyAt]
def wsX4_addKey_r2 : List Cond := [Cond.instanceMethod yX4_keyAt, Cond.selects RX4 yX4_keyAt yX4_keyAt, Cond.code yX4_keyAt cX4_keyAt 4 (some .int), Cond.methodLink RX4 57 yX4_of, Cond.instanceMethod yX4_of, Cond.selects RX4 yX4_of yX4_of, Cond.code yX4_of cX4_of 4 (some .int), Cond.methodLink RX4 53 yX4_spot, Cond.static yX4_spot, Cond.code yX4_spot cX4_spot 2 (some .int), Cond.methodLink RX4 91 yX4_hold, Cond.instanceMethod yX4_hold, Cond.selects RX4 yX4_hold yX4_hold, Cond.code yX4_hold cX4_hold 2 none, Cond.fieldLink RX4 16 "EaseCurvesModel" "aside" "[I", Cond.methodLink RX4 94 yX4_comes, Cond.instanceMethod yX4_comes, Cond.selects RX4 yX4_comes yX4_comes, Cond.code yX4_comes cX4_comes 7 (some .int), Cond.methodLink RX4 98 yX4_ends, Cond.instanceMethod yX4_ends, Cond.selects RX4 yX4_ends yX4_ends, Cond.code yX4_ends cX4_ends 3 (some .int), Cond.fieldLink RX4 35 "EaseCurvesModel" "pasts" "I"]
def wsX4_addKey_r3 : List Cond := [Cond.fieldLink RX4 13 "EaseCurvesModel" "past" "[I", Cond.methodLink RX4 38 yX4_tells, Cond.instanceMethod yX4_tells, Cond.selects RX4 yX4_tells yX4_tells, Cond.code yX4_tells cX4_tells 2 (some .int)]
def wsX4_addKey : List Cond := .code yX4_addKey cX4_addKey 5 (some .int) :: ((wsX4_addKey_r1 ++ (wsX4_addKey_r2 ++ wsX4_addKey_r3)) ++ wsX40)
def wsX4_removeKey_r1 : List Cond := [Cond.methodLink RX4 101 yX4_isKey, Cond.instanceMethod yX4_isKey, Cond.selects RX4 yX4_isKey yX4_isKey, Cond.initialized RX4, Cond.code yX4_isKey cX4_isKey 3 (some .boolean), Cond.methodLink RX4 46 yX4_isCurve, Cond.static yX4_isCurve, Cond.code yX4_isCurve cX4_isCurve 1 (some .boolean), Cond.methodLink RX4 42 yX4_in, Cond.static yX4_in, Cond.code yX4_in cX4_in 3 (some .boolean), Cond.methodLink RX4 50 yX4_many, Cond.instanceMethod yX4_many, Cond.selects RX4 yX4_many yX4_many, Cond.code yX4_many cX4_many 2 (some .int), Cond.fieldLink RX4 7 "EaseCurvesModel" "s" "[I", Cond.methodLink RX4 79 yX4_fails, Cond.instanceMethod yX4_fails, Cond.selects RX4 yX4_fails yX4_fails, Cond.code yX4_fails cX4_fails 2 (some .int), Cond.fieldLink RX4 32 "EaseCurvesModel" "thrown" "I", Cond.methodLink RX4 57 yX4_of, Cond.instanceMethod yX4_of, Cond.selects RX4 yX4_of yX4_of]
def wsX4_removeKey_r2 : List Cond := [Cond.code yX4_of cX4_of 4 (some .int), Cond.methodLink RX4 53 yX4_spot, Cond.static yX4_spot, Cond.code yX4_spot cX4_spot 2 (some .int), Cond.methodLink RX4 91 yX4_hold, Cond.instanceMethod yX4_hold, Cond.selects RX4 yX4_hold yX4_hold, Cond.code yX4_hold cX4_hold 2 none, Cond.fieldLink RX4 16 "EaseCurvesModel" "aside" "[I", Cond.methodLink RX4 105 yX4_goes, Cond.instanceMethod yX4_goes, Cond.selects RX4 yX4_goes yX4_goes, Cond.code yX4_goes cX4_goes 4 none, Cond.methodLink RX4 98 yX4_ends, Cond.instanceMethod yX4_ends, Cond.selects RX4 yX4_ends yX4_ends, Cond.code yX4_ends cX4_ends 3 (some .int), Cond.fieldLink RX4 35 "EaseCurvesModel" "pasts" "I", Cond.fieldLink RX4 13 "EaseCurvesModel" "past" "[I", Cond.methodLink RX4 38 yX4_tells, Cond.instanceMethod yX4_tells, Cond.selects RX4 yX4_tells yX4_tells, Cond.code yX4_tells cX4_tells 2 (some .int)]
def wsX4_removeKey : List Cond := .code yX4_removeKey cX4_removeKey 3 (some .int) :: ((wsX4_removeKey_r1 ++ wsX4_removeKey_r2) ++ wsX40)
def wsX4_setKey_r1 : List Cond := [Cond.fieldLink RX4 7 "EaseCurvesModel" "s" "[I", Cond.methodLink RX4 101 yX4_isKey, Cond.instanceMethod yX4_isKey, Cond.selects RX4 yX4_isKey yX4_isKey, Cond.initialized RX4, Cond.code yX4_isKey cX4_isKey 3 (some .boolean), Cond.methodLink RX4 46 yX4_isCurve, Cond.static yX4_isCurve, Cond.code yX4_isCurve cX4_isCurve 1 (some .boolean), Cond.methodLink RX4 42 yX4_in, Cond.static yX4_in, Cond.code yX4_in cX4_in 3 (some .boolean), Cond.methodLink RX4 50 yX4_many, Cond.instanceMethod yX4_many, Cond.selects RX4 yX4_many yX4_many, Cond.code yX4_many cX4_many 2 (some .int), Cond.methodLink RX4 79 yX4_fails, Cond.instanceMethod yX4_fails, Cond.selects RX4 yX4_fails yX4_fails, Cond.code yX4_fails cX4_fails 2 (some .int), Cond.fieldLink RX4 32 "EaseCurvesModel" "thrown" "I", Cond.methodLink RX4 85 yX4_isValue, Cond.static yX4_isValue, Cond.code yX4_isValue cX4_isValue 1 (some .boolean)]
def wsX4_setKey_r2 : List Cond := [Cond.methodLink RX4 57 yX4_of, Cond.instanceMethod yX4_of, Cond.selects RX4 yX4_of yX4_of, Cond.code yX4_of cX4_of 4 (some .int), Cond.methodLink RX4 53 yX4_spot, Cond.static yX4_spot, Cond.code yX4_spot cX4_spot 2 (some .int), Cond.methodLink RX4 91 yX4_hold, Cond.instanceMethod yX4_hold, Cond.selects RX4 yX4_hold yX4_hold, Cond.code yX4_hold cX4_hold 2 none, Cond.fieldLink RX4 16 "EaseCurvesModel" "aside" "[I", Cond.methodLink RX4 98 yX4_ends, Cond.instanceMethod yX4_ends, Cond.selects RX4 yX4_ends yX4_ends, Cond.code yX4_ends cX4_ends 3 (some .int), Cond.fieldLink RX4 35 "EaseCurvesModel" "pasts" "I", Cond.fieldLink RX4 13 "EaseCurvesModel" "past" "[I", Cond.methodLink RX4 38 yX4_tells, Cond.instanceMethod yX4_tells, Cond.selects RX4 yX4_tells yX4_tells, Cond.code yX4_tells cX4_tells 2 (some .int)]
def wsX4_setKey : List Cond := .code yX4_setKey cX4_setKey 6 (some .int) :: ((wsX4_setKey_r1 ++ wsX4_setKey_r2) ++ wsX40)
def wsX4_moveKey_r1 : List Cond := [Cond.fieldLink RX4 7 "EaseCurvesModel" "s" "[I", Cond.methodLink RX4 101 yX4_isKey, Cond.instanceMethod yX4_isKey, Cond.selects RX4 yX4_isKey yX4_isKey, Cond.initialized RX4, Cond.code yX4_isKey cX4_isKey 3 (some .boolean), Cond.methodLink RX4 46 yX4_isCurve, Cond.static yX4_isCurve, Cond.code yX4_isCurve cX4_isCurve 1 (some .boolean), Cond.methodLink RX4 42 yX4_in, Cond.static yX4_in, Cond.code yX4_in cX4_in 3 (some .boolean), Cond.methodLink RX4 50 yX4_many, Cond.instanceMethod yX4_many, Cond.selects RX4 yX4_many yX4_many, Cond.code yX4_many cX4_many 2 (some .int), Cond.methodLink RX4 79 yX4_fails, Cond.instanceMethod yX4_fails, Cond.selects RX4 yX4_fails yX4_fails, Cond.code yX4_fails cX4_fails 2 (some .int), Cond.fieldLink RX4 32 "EaseCurvesModel" "thrown" "I", Cond.methodLink RX4 82 yX4_isFrame, Cond.static yX4_isFrame, Cond.code yX4_isFrame cX4_isFrame 1 (some .boolean)]
def wsX4_moveKey_r2 : List Cond := [Cond.methodLink RX4 88 yX4_keyAt, Cond.instanceMethod yX4_keyAt, Cond.selects RX4 yX4_keyAt yX4_keyAt, Cond.code yX4_keyAt cX4_keyAt 4 (some .int), Cond.methodLink RX4 57 yX4_of, Cond.instanceMethod yX4_of, Cond.selects RX4 yX4_of yX4_of, Cond.code yX4_of cX4_of 4 (some .int), Cond.methodLink RX4 53 yX4_spot, Cond.static yX4_spot, Cond.code yX4_spot cX4_spot 2 (some .int), Cond.methodLink RX4 91 yX4_hold, Cond.instanceMethod yX4_hold, Cond.selects RX4 yX4_hold yX4_hold, Cond.code yX4_hold cX4_hold 2 none, Cond.fieldLink RX4 16 "EaseCurvesModel" "aside" "[I", Cond.methodLink RX4 105 yX4_goes, Cond.instanceMethod yX4_goes, Cond.selects RX4 yX4_goes yX4_goes, Cond.code yX4_goes cX4_goes 4 none, Cond.methodLink RX4 94 yX4_comes, Cond.instanceMethod yX4_comes, Cond.selects RX4 yX4_comes yX4_comes, Cond.code yX4_comes cX4_comes 7 (some .int)]
def wsX4_moveKey_r3 : List Cond := [Cond.methodLink RX4 98 yX4_ends, Cond.instanceMethod yX4_ends, Cond.selects RX4 yX4_ends yX4_ends, Cond.code yX4_ends cX4_ends 3 (some .int), Cond.fieldLink RX4 35 "EaseCurvesModel" "pasts" "I", Cond.fieldLink RX4 13 "EaseCurvesModel" "past" "[I", Cond.methodLink RX4 38 yX4_tells, Cond.instanceMethod yX4_tells, Cond.selects RX4 yX4_tells yX4_tells, Cond.code yX4_tells cX4_tells 2 (some .int)]
def wsX4_moveKey : List Cond := .code yX4_moveKey cX4_moveKey 10 (some .int) :: ((wsX4_moveKey_r1 ++ (wsX4_moveKey_r2 ++ wsX4_moveKey_r3)) ++ wsX40)
def wsX4_setTangent_r1 : List Cond := [Cond.constant RX4 109 (-99999), Cond.constant RX4 110 (99999), Cond.fieldLink RX4 7 "EaseCurvesModel" "s" "[I", Cond.methodLink RX4 101 yX4_isKey, Cond.instanceMethod yX4_isKey, Cond.selects RX4 yX4_isKey yX4_isKey, Cond.initialized RX4, Cond.code yX4_isKey cX4_isKey 3 (some .boolean), Cond.methodLink RX4 46 yX4_isCurve, Cond.static yX4_isCurve, Cond.code yX4_isCurve cX4_isCurve 1 (some .boolean), Cond.methodLink RX4 42 yX4_in, Cond.static yX4_in, Cond.code yX4_in cX4_in 3 (some .boolean), Cond.methodLink RX4 50 yX4_many, Cond.instanceMethod yX4_many, Cond.selects RX4 yX4_many yX4_many, Cond.code yX4_many cX4_many 2 (some .int), Cond.methodLink RX4 79 yX4_fails, Cond.instanceMethod yX4_fails, Cond.selects RX4 yX4_fails yX4_fails, Cond.code yX4_fails cX4_fails 2 (some .int), Cond.fieldLink RX4 32 "EaseCurvesModel" "thrown" "I", Cond.methodLink RX4 57 yX4_of]
def wsX4_setTangent_r2 : List Cond := [Cond.instanceMethod yX4_of, Cond.selects RX4 yX4_of yX4_of, Cond.code yX4_of cX4_of 4 (some .int), Cond.methodLink RX4 53 yX4_spot, Cond.static yX4_spot, Cond.code yX4_spot cX4_spot 2 (some .int), Cond.methodLink RX4 91 yX4_hold, Cond.instanceMethod yX4_hold, Cond.selects RX4 yX4_hold yX4_hold, Cond.code yX4_hold cX4_hold 2 none, Cond.fieldLink RX4 16 "EaseCurvesModel" "aside" "[I", Cond.methodLink RX4 71 yX4_tangent, Cond.instanceMethod yX4_tangent, Cond.selects RX4 yX4_tangent yX4_tangent, Cond.code yX4_tangent cX4_tangent 8 (some .int), Cond.methodLink RX4 98 yX4_ends, Cond.instanceMethod yX4_ends, Cond.selects RX4 yX4_ends yX4_ends, Cond.code yX4_ends cX4_ends 3 (some .int), Cond.fieldLink RX4 35 "EaseCurvesModel" "pasts" "I", Cond.fieldLink RX4 13 "EaseCurvesModel" "past" "[I", Cond.methodLink RX4 38 yX4_tells, Cond.instanceMethod yX4_tells, Cond.selects RX4 yX4_tells yX4_tells]
def wsX4_setTangent_r3 : List Cond := [Cond.code yX4_tells cX4_tells 2 (some .int)]
def wsX4_setTangent : List Cond := .code yX4_setTangent cX4_setTangent 6 (some .int) :: ((wsX4_setTangent_r1 ++ (wsX4_setTangent_r2 ++ wsX4_setTangent_r3)) ++ wsX40)
def wsX4_lock_r1 : List Cond := [Cond.fieldLink RX4 7 "EaseCurvesModel" "s" "[I", Cond.methodLink RX4 101 yX4_isKey, Cond.instanceMethod yX4_isKey, Cond.selects RX4 yX4_isKey yX4_isKey, Cond.initialized RX4, Cond.code yX4_isKey cX4_isKey 3 (some .boolean), Cond.methodLink RX4 46 yX4_isCurve, Cond.static yX4_isCurve, Cond.code yX4_isCurve cX4_isCurve 1 (some .boolean), Cond.methodLink RX4 42 yX4_in, Cond.static yX4_in, Cond.code yX4_in cX4_in 3 (some .boolean), Cond.methodLink RX4 50 yX4_many, Cond.instanceMethod yX4_many, Cond.selects RX4 yX4_many yX4_many, Cond.code yX4_many cX4_many 2 (some .int), Cond.methodLink RX4 79 yX4_fails, Cond.instanceMethod yX4_fails, Cond.selects RX4 yX4_fails yX4_fails, Cond.code yX4_fails cX4_fails 2 (some .int), Cond.fieldLink RX4 32 "EaseCurvesModel" "thrown" "I", Cond.methodLink RX4 91 yX4_hold, Cond.instanceMethod yX4_hold, Cond.selects RX4 yX4_hold yX4_hold]
def wsX4_lock_r2 : List Cond := [Cond.code yX4_hold cX4_hold 2 none, Cond.fieldLink RX4 16 "EaseCurvesModel" "aside" "[I", Cond.methodLink RX4 57 yX4_of, Cond.instanceMethod yX4_of, Cond.selects RX4 yX4_of yX4_of, Cond.code yX4_of cX4_of 4 (some .int), Cond.methodLink RX4 53 yX4_spot, Cond.static yX4_spot, Cond.code yX4_spot cX4_spot 2 (some .int), Cond.methodLink RX4 98 yX4_ends, Cond.instanceMethod yX4_ends, Cond.selects RX4 yX4_ends yX4_ends, Cond.code yX4_ends cX4_ends 3 (some .int), Cond.fieldLink RX4 35 "EaseCurvesModel" "pasts" "I", Cond.fieldLink RX4 13 "EaseCurvesModel" "past" "[I", Cond.methodLink RX4 38 yX4_tells, Cond.instanceMethod yX4_tells, Cond.selects RX4 yX4_tells yX4_tells, Cond.code yX4_tells cX4_tells 2 (some .int)]
def wsX4_lock : List Cond := .code yX4_lock cX4_lock 5 (some .int) :: ((wsX4_lock_r1 ++ wsX4_lock_r2) ++ wsX40)
def wsX4_stretched : List Cond := .code yX4_stretched cX4_stretched 4 (some .int) :: ([])
def wsX4_mayStretch : List Cond := .code yX4_mayStretch cX4_mayStretch 9 (some .boolean) :: ([.methodLink RX4 50 yX4_many, .instanceMethod yX4_many, .selects RX4 yX4_many yX4_many, .initialized RX4, .code yX4_many cX4_many 2 (some .int), .fieldLink RX4 7 "EaseCurvesModel" "s" "[I", .methodLink RX4 57 yX4_of, .instanceMethod yX4_of, .selects RX4 yX4_of yX4_of, .code yX4_of cX4_of 4 (some .int), .methodLink RX4 53 yX4_spot, .static yX4_spot, .code yX4_spot cX4_spot 2 (some .int), .methodLink RX4 111 yX4_stretched, .static yX4_stretched, .code yX4_stretched cX4_stretched 4 (some .int)] ++ wsX40)
def wsX4_isSpan : List Cond := .code yX4_isSpan cX4_isSpan 2 (some .boolean) :: ([.methodLink RX4 42 yX4_in, .static yX4_in, .initialized RX4, .code yX4_in cX4_in 3 (some .boolean)])
def wsX4_stretch_r1 : List Cond := [Cond.fieldLink RX4 7 "EaseCurvesModel" "s" "[I", Cond.methodLink RX4 46 yX4_isCurve, Cond.static yX4_isCurve, Cond.initialized RX4, Cond.code yX4_isCurve cX4_isCurve 1 (some .boolean), Cond.methodLink RX4 42 yX4_in, Cond.static yX4_in, Cond.code yX4_in cX4_in 3 (some .boolean), Cond.methodLink RX4 79 yX4_fails, Cond.instanceMethod yX4_fails, Cond.selects RX4 yX4_fails yX4_fails, Cond.code yX4_fails cX4_fails 2 (some .int), Cond.fieldLink RX4 32 "EaseCurvesModel" "thrown" "I", Cond.methodLink RX4 114 yX4_isSpan, Cond.static yX4_isSpan, Cond.code yX4_isSpan cX4_isSpan 2 (some .boolean), Cond.methodLink RX4 117 yX4_mayStretch, Cond.instanceMethod yX4_mayStretch, Cond.selects RX4 yX4_mayStretch yX4_mayStretch, Cond.code yX4_mayStretch cX4_mayStretch 9 (some .boolean), Cond.methodLink RX4 50 yX4_many, Cond.instanceMethod yX4_many, Cond.selects RX4 yX4_many yX4_many, Cond.code yX4_many cX4_many 2 (some .int)]
def wsX4_stretch_r2 : List Cond := [Cond.methodLink RX4 57 yX4_of, Cond.instanceMethod yX4_of, Cond.selects RX4 yX4_of yX4_of, Cond.code yX4_of cX4_of 4 (some .int), Cond.methodLink RX4 53 yX4_spot, Cond.static yX4_spot, Cond.code yX4_spot cX4_spot 2 (some .int), Cond.methodLink RX4 111 yX4_stretched, Cond.static yX4_stretched, Cond.code yX4_stretched cX4_stretched 4 (some .int), Cond.methodLink RX4 91 yX4_hold, Cond.instanceMethod yX4_hold, Cond.selects RX4 yX4_hold yX4_hold, Cond.code yX4_hold cX4_hold 2 none, Cond.fieldLink RX4 16 "EaseCurvesModel" "aside" "[I", Cond.methodLink RX4 98 yX4_ends, Cond.instanceMethod yX4_ends, Cond.selects RX4 yX4_ends yX4_ends, Cond.code yX4_ends cX4_ends 3 (some .int), Cond.fieldLink RX4 35 "EaseCurvesModel" "pasts" "I", Cond.fieldLink RX4 13 "EaseCurvesModel" "past" "[I", Cond.methodLink RX4 38 yX4_tells, Cond.instanceMethod yX4_tells, Cond.selects RX4 yX4_tells yX4_tells]
def wsX4_stretch_r3 : List Cond := [Cond.code yX4_tells cX4_tells 2 (some .int)]
def wsX4_stretch : List Cond := .code yX4_stretch cX4_stretch 8 (some .int) :: ((wsX4_stretch_r1 ++ (wsX4_stretch_r2 ++ wsX4_stretch_r3)) ++ wsX40)
def wsX4_copy_r1 : List Cond := [Cond.fieldLink RX4 7 "EaseCurvesModel" "s" "[I", Cond.methodLink RX4 46 yX4_isCurve, Cond.static yX4_isCurve, Cond.initialized RX4, Cond.code yX4_isCurve cX4_isCurve 1 (some .boolean), Cond.methodLink RX4 42 yX4_in, Cond.static yX4_in, Cond.code yX4_in cX4_in 3 (some .boolean), Cond.methodLink RX4 79 yX4_fails, Cond.instanceMethod yX4_fails, Cond.selects RX4 yX4_fails yX4_fails, Cond.code yX4_fails cX4_fails 2 (some .int), Cond.fieldLink RX4 32 "EaseCurvesModel" "thrown" "I", Cond.methodLink RX4 85 yX4_isValue, Cond.static yX4_isValue, Cond.code yX4_isValue cX4_isValue 1 (some .boolean), Cond.methodLink RX4 121 yX4_hasLock, Cond.instanceMethod yX4_hasLock, Cond.selects RX4 yX4_hasLock yX4_hasLock, Cond.code yX4_hasLock cX4_hasLock 4 (some .boolean), Cond.methodLink RX4 50 yX4_many, Cond.instanceMethod yX4_many, Cond.selects RX4 yX4_many yX4_many, Cond.code yX4_many cX4_many 2 (some .int)]
def wsX4_copy_r2 : List Cond := [Cond.methodLink RX4 57 yX4_of, Cond.instanceMethod yX4_of, Cond.selects RX4 yX4_of yX4_of, Cond.code yX4_of cX4_of 4 (some .int), Cond.methodLink RX4 53 yX4_spot, Cond.static yX4_spot, Cond.code yX4_spot cX4_spot 2 (some .int), Cond.methodLink RX4 91 yX4_hold, Cond.instanceMethod yX4_hold, Cond.selects RX4 yX4_hold yX4_hold, Cond.code yX4_hold cX4_hold 2 none, Cond.fieldLink RX4 16 "EaseCurvesModel" "aside" "[I", Cond.methodLink RX4 98 yX4_ends, Cond.instanceMethod yX4_ends, Cond.selects RX4 yX4_ends yX4_ends, Cond.code yX4_ends cX4_ends 3 (some .int), Cond.fieldLink RX4 35 "EaseCurvesModel" "pasts" "I", Cond.fieldLink RX4 13 "EaseCurvesModel" "past" "[I", Cond.methodLink RX4 38 yX4_tells, Cond.instanceMethod yX4_tells, Cond.selects RX4 yX4_tells yX4_tells, Cond.code yX4_tells cX4_tells 2 (some .int)]
def wsX4_copy : List Cond := .code yX4_copy cX4_copy 6 (some .int) :: ((wsX4_copy_r1 ++ wsX4_copy_r2) ++ wsX40)
def wsX4_apart : List Cond := .code yX4_apart cX4_apart 2 (some .int) :: ([])
def wsX4_errorOf_r1 : List Cond := [Cond.fieldLink RX4 19 "EaseCurvesModel" "kept" "[I", Cond.fieldLink RX4 7 "EaseCurvesModel" "s" "[I", Cond.fieldLink RX4 25 "EaseCurvesModel" "baked" "[I", Cond.methodLink RX4 57 yX4_of, Cond.instanceMethod yX4_of, Cond.selects RX4 yX4_of yX4_of, Cond.initialized RX4, Cond.code yX4_of cX4_of 4 (some .int), Cond.methodLink RX4 53 yX4_spot, Cond.static yX4_spot, Cond.code yX4_spot cX4_spot 2 (some .int), Cond.methodLink RX4 50 yX4_many, Cond.instanceMethod yX4_many, Cond.selects RX4 yX4_many yX4_many, Cond.code yX4_many cX4_many 2 (some .int), Cond.methodLink RX4 105 yX4_goes, Cond.instanceMethod yX4_goes, Cond.selects RX4 yX4_goes yX4_goes, Cond.code yX4_goes cX4_goes 4 none, Cond.methodLink RX4 76 yX4_valueAt, Cond.instanceMethod yX4_valueAt, Cond.selects RX4 yX4_valueAt yX4_valueAt, Cond.code yX4_valueAt cX4_valueAt 20 (some .int), Cond.constantLong RX4 61 (1000)]
def wsX4_errorOf_r2 : List Cond := [Cond.constantLong RX4 63 (1000000), Cond.constantLong RX4 65 (3000), Cond.constantLong RX4 67 (2), Cond.constantLong RX4 69 (1000000000), Cond.constantLong RX4 74 (2000), Cond.methodLink RX4 71 yX4_tangent, Cond.instanceMethod yX4_tangent, Cond.selects RX4 yX4_tangent yX4_tangent, Cond.code yX4_tangent cX4_tangent 8 (some .int), Cond.methodLink RX4 124 yX4_apart, Cond.static yX4_apart, Cond.code yX4_apart cX4_apart 2 (some .int)]
def wsX4_errorOf : List Cond := .code yX4_errorOf cX4_errorOf 6 (some .int) :: ((wsX4_errorOf_r1 ++ wsX4_errorOf_r2) ++ wsX40)
def wsX4_leftOut_r1 : List Cond := [Cond.methodLink RX4 127 yX4_bakes, Cond.instanceMethod yX4_bakes, Cond.selects RX4 yX4_bakes yX4_bakes, Cond.initialized RX4, Cond.code yX4_bakes cX4_bakes 3 none, Cond.fieldLink RX4 25 "EaseCurvesModel" "baked" "[I", Cond.methodLink RX4 76 yX4_valueAt, Cond.instanceMethod yX4_valueAt, Cond.selects RX4 yX4_valueAt yX4_valueAt, Cond.code yX4_valueAt cX4_valueAt 20 (some .int), Cond.constantLong RX4 61 (1000), Cond.constantLong RX4 63 (1000000), Cond.constantLong RX4 65 (3000), Cond.constantLong RX4 67 (2), Cond.constantLong RX4 69 (1000000000), Cond.constantLong RX4 74 (2000), Cond.methodLink RX4 50 yX4_many, Cond.instanceMethod yX4_many, Cond.selects RX4 yX4_many yX4_many, Cond.code yX4_many cX4_many 2 (some .int), Cond.fieldLink RX4 7 "EaseCurvesModel" "s" "[I", Cond.methodLink RX4 57 yX4_of, Cond.instanceMethod yX4_of, Cond.selects RX4 yX4_of yX4_of]
def wsX4_leftOut_r2 : List Cond := [Cond.code yX4_of cX4_of 4 (some .int), Cond.methodLink RX4 53 yX4_spot, Cond.static yX4_spot, Cond.code yX4_spot cX4_spot 2 (some .int), Cond.methodLink RX4 71 yX4_tangent, Cond.instanceMethod yX4_tangent, Cond.selects RX4 yX4_tangent yX4_tangent, Cond.code yX4_tangent cX4_tangent 8 (some .int), Cond.methodLink RX4 131 yX4_errorOf, Cond.instanceMethod yX4_errorOf, Cond.selects RX4 yX4_errorOf yX4_errorOf, Cond.code yX4_errorOf cX4_errorOf 6 (some .int), Cond.fieldLink RX4 19 "EaseCurvesModel" "kept" "[I", Cond.methodLink RX4 105 yX4_goes, Cond.instanceMethod yX4_goes, Cond.selects RX4 yX4_goes yX4_goes, Cond.code yX4_goes cX4_goes 4 none, Cond.methodLink RX4 124 yX4_apart, Cond.static yX4_apart, Cond.code yX4_apart cX4_apart 2 (some .int)]
def wsX4_leftOut : List Cond := .code yX4_leftOut cX4_leftOut 8 (some .int) :: ((wsX4_leftOut_r1 ++ wsX4_leftOut_r2) ++ wsX40)
def wsX4_reduce_r1 : List Cond := [Cond.methodLink RX4 46 yX4_isCurve, Cond.static yX4_isCurve, Cond.initialized RX4, Cond.code yX4_isCurve cX4_isCurve 1 (some .boolean), Cond.methodLink RX4 42 yX4_in, Cond.static yX4_in, Cond.code yX4_in cX4_in 3 (some .boolean), Cond.methodLink RX4 79 yX4_fails, Cond.instanceMethod yX4_fails, Cond.selects RX4 yX4_fails yX4_fails, Cond.code yX4_fails cX4_fails 2 (some .int), Cond.fieldLink RX4 32 "EaseCurvesModel" "thrown" "I", Cond.methodLink RX4 91 yX4_hold, Cond.instanceMethod yX4_hold, Cond.selects RX4 yX4_hold yX4_hold, Cond.code yX4_hold cX4_hold 2 none, Cond.fieldLink RX4 16 "EaseCurvesModel" "aside" "[I", Cond.fieldLink RX4 7 "EaseCurvesModel" "s" "[I", Cond.methodLink RX4 134 yX4_leftOut, Cond.instanceMethod yX4_leftOut, Cond.selects RX4 yX4_leftOut yX4_leftOut, Cond.code yX4_leftOut cX4_leftOut 8 (some .int), Cond.methodLink RX4 127 yX4_bakes, Cond.instanceMethod yX4_bakes]
def wsX4_reduce_r2 : List Cond := [Cond.selects RX4 yX4_bakes yX4_bakes, Cond.code yX4_bakes cX4_bakes 3 none, Cond.fieldLink RX4 25 "EaseCurvesModel" "baked" "[I", Cond.methodLink RX4 76 yX4_valueAt, Cond.instanceMethod yX4_valueAt, Cond.selects RX4 yX4_valueAt yX4_valueAt, Cond.code yX4_valueAt cX4_valueAt 20 (some .int), Cond.constantLong RX4 61 (1000), Cond.constantLong RX4 63 (1000000), Cond.constantLong RX4 65 (3000), Cond.constantLong RX4 67 (2), Cond.constantLong RX4 69 (1000000000), Cond.constantLong RX4 74 (2000), Cond.methodLink RX4 50 yX4_many, Cond.instanceMethod yX4_many, Cond.selects RX4 yX4_many yX4_many, Cond.code yX4_many cX4_many 2 (some .int), Cond.methodLink RX4 57 yX4_of, Cond.instanceMethod yX4_of, Cond.selects RX4 yX4_of yX4_of, Cond.code yX4_of cX4_of 4 (some .int), Cond.methodLink RX4 53 yX4_spot, Cond.static yX4_spot, Cond.code yX4_spot cX4_spot 2 (some .int)]
def wsX4_reduce_r3 : List Cond := [Cond.methodLink RX4 71 yX4_tangent, Cond.instanceMethod yX4_tangent, Cond.selects RX4 yX4_tangent yX4_tangent, Cond.code yX4_tangent cX4_tangent 8 (some .int), Cond.methodLink RX4 131 yX4_errorOf, Cond.instanceMethod yX4_errorOf, Cond.selects RX4 yX4_errorOf yX4_errorOf, Cond.code yX4_errorOf cX4_errorOf 6 (some .int), Cond.fieldLink RX4 19 "EaseCurvesModel" "kept" "[I", Cond.methodLink RX4 105 yX4_goes, Cond.instanceMethod yX4_goes, Cond.selects RX4 yX4_goes yX4_goes, Cond.code yX4_goes cX4_goes 4 none, Cond.methodLink RX4 124 yX4_apart, Cond.static yX4_apart, Cond.code yX4_apart cX4_apart 2 (some .int), Cond.methodLink RX4 98 yX4_ends, Cond.instanceMethod yX4_ends, Cond.selects RX4 yX4_ends yX4_ends, Cond.code yX4_ends cX4_ends 3 (some .int), Cond.fieldLink RX4 35 "EaseCurvesModel" "pasts" "I", Cond.fieldLink RX4 13 "EaseCurvesModel" "past" "[I", Cond.methodLink RX4 38 yX4_tells, Cond.instanceMethod yX4_tells]
def wsX4_reduce_r4 : List Cond := [Cond.selects RX4 yX4_tells yX4_tells, Cond.code yX4_tells cX4_tells 2 (some .int)]
def wsX4_reduce : List Cond := .code yX4_reduce cX4_reduce 5 (some .int) :: ((wsX4_reduce_r1 ++ (wsX4_reduce_r2 ++ (wsX4_reduce_r3 ++ wsX4_reduce_r4))) ++ wsX40)
def wsX4_keyOf : List Cond := .code yX4_keyOf cX4_keyOf 4 (some .int) :: ([.methodLink RX4 57 yX4_of, .instanceMethod yX4_of, .selects RX4 yX4_of yX4_of, .initialized RX4, .code yX4_of cX4_of 4 (some .int), .fieldLink RX4 7 "EaseCurvesModel" "s" "[I", .methodLink RX4 53 yX4_spot, .static yX4_spot, .code yX4_spot cX4_spot 2 (some .int), .methodLink RX4 71 yX4_tangent, .instanceMethod yX4_tangent, .selects RX4 yX4_tangent yX4_tangent, .code yX4_tangent cX4_tangent 8 (some .int), .methodLink RX4 50 yX4_many, .instanceMethod yX4_many, .selects RX4 yX4_many yX4_many, .code yX4_many cX4_many 2 (some .int)] ++ wsX40)
def wsX4_key_r1 : List Cond := [Cond.methodLink RX4 46 yX4_isCurve, Cond.static yX4_isCurve, Cond.initialized RX4, Cond.code yX4_isCurve cX4_isCurve 1 (some .boolean), Cond.methodLink RX4 42 yX4_in, Cond.static yX4_in, Cond.code yX4_in cX4_in 3 (some .boolean), Cond.methodLink RX4 50 yX4_many, Cond.instanceMethod yX4_many, Cond.selects RX4 yX4_many yX4_many, Cond.code yX4_many cX4_many 2 (some .int), Cond.fieldLink RX4 7 "EaseCurvesModel" "s" "[I", Cond.methodLink RX4 79 yX4_fails, Cond.instanceMethod yX4_fails, Cond.selects RX4 yX4_fails yX4_fails, Cond.code yX4_fails cX4_fails 2 (some .int), Cond.fieldLink RX4 32 "EaseCurvesModel" "thrown" "I", Cond.methodLink RX4 137 yX4_keyOf, Cond.instanceMethod yX4_keyOf, Cond.selects RX4 yX4_keyOf yX4_keyOf, Cond.code yX4_keyOf cX4_keyOf 4 (some .int), Cond.methodLink RX4 57 yX4_of, Cond.instanceMethod yX4_of, Cond.selects RX4 yX4_of yX4_of]
def wsX4_key_r2 : List Cond := [Cond.code yX4_of cX4_of 4 (some .int), Cond.methodLink RX4 53 yX4_spot, Cond.static yX4_spot, Cond.code yX4_spot cX4_spot 2 (some .int), Cond.methodLink RX4 71 yX4_tangent, Cond.instanceMethod yX4_tangent, Cond.selects RX4 yX4_tangent yX4_tangent, Cond.code yX4_tangent cX4_tangent 8 (some .int), Cond.methodLink RX4 38 yX4_tells, Cond.instanceMethod yX4_tells, Cond.selects RX4 yX4_tells yX4_tells, Cond.code yX4_tells cX4_tells 2 (some .int)]
def wsX4_key : List Cond := .code yX4_key cX4_key 4 (some .int) :: ((wsX4_key_r1 ++ wsX4_key_r2) ++ wsX40)
def wsX4_value_r1 : List Cond := [Cond.methodLink RX4 46 yX4_isCurve, Cond.static yX4_isCurve, Cond.initialized RX4, Cond.code yX4_isCurve cX4_isCurve 1 (some .boolean), Cond.methodLink RX4 42 yX4_in, Cond.static yX4_in, Cond.code yX4_in cX4_in 3 (some .boolean), Cond.methodLink RX4 79 yX4_fails, Cond.instanceMethod yX4_fails, Cond.selects RX4 yX4_fails yX4_fails, Cond.code yX4_fails cX4_fails 2 (some .int), Cond.fieldLink RX4 32 "EaseCurvesModel" "thrown" "I", Cond.methodLink RX4 82 yX4_isFrame, Cond.static yX4_isFrame, Cond.code yX4_isFrame cX4_isFrame 1 (some .boolean), Cond.methodLink RX4 76 yX4_valueAt, Cond.instanceMethod yX4_valueAt, Cond.selects RX4 yX4_valueAt yX4_valueAt, Cond.code yX4_valueAt cX4_valueAt 20 (some .int), Cond.constantLong RX4 61 (1000), Cond.constantLong RX4 63 (1000000), Cond.constantLong RX4 65 (3000), Cond.constantLong RX4 67 (2), Cond.constantLong RX4 69 (1000000000)]
def wsX4_value_r2 : List Cond := [Cond.constantLong RX4 74 (2000), Cond.methodLink RX4 50 yX4_many, Cond.instanceMethod yX4_many, Cond.selects RX4 yX4_many yX4_many, Cond.code yX4_many cX4_many 2 (some .int), Cond.fieldLink RX4 7 "EaseCurvesModel" "s" "[I", Cond.methodLink RX4 57 yX4_of, Cond.instanceMethod yX4_of, Cond.selects RX4 yX4_of yX4_of, Cond.code yX4_of cX4_of 4 (some .int), Cond.methodLink RX4 53 yX4_spot, Cond.static yX4_spot, Cond.code yX4_spot cX4_spot 2 (some .int), Cond.methodLink RX4 71 yX4_tangent, Cond.instanceMethod yX4_tangent, Cond.selects RX4 yX4_tangent yX4_tangent, Cond.code yX4_tangent cX4_tangent 8 (some .int), Cond.methodLink RX4 38 yX4_tells, Cond.instanceMethod yX4_tells, Cond.selects RX4 yX4_tells yX4_tells, Cond.code yX4_tells cX4_tells 2 (some .int)]
def wsX4_value : List Cond := .code yX4_value cX4_value 3 (some .int) :: ((wsX4_value_r1 ++ wsX4_value_r2) ++ wsX40)
def wsX4_areFrames : List Cond := .code yX4_areFrames cX4_areFrames 2 (some .boolean) :: ([.methodLink RX4 82 yX4_isFrame, .static yX4_isFrame, .initialized RX4, .code yX4_isFrame cX4_isFrame 1 (some .boolean), .methodLink RX4 42 yX4_in, .static yX4_in, .code yX4_in cX4_in 3 (some .boolean)])
def wsX4_sumOf_r1 : List Cond := [Cond.methodLink RX4 76 yX4_valueAt, Cond.instanceMethod yX4_valueAt, Cond.selects RX4 yX4_valueAt yX4_valueAt, Cond.initialized RX4, Cond.code yX4_valueAt cX4_valueAt 20 (some .int), Cond.constantLong RX4 61 (1000), Cond.constantLong RX4 63 (1000000), Cond.constantLong RX4 65 (3000), Cond.constantLong RX4 67 (2), Cond.constantLong RX4 69 (1000000000), Cond.constantLong RX4 74 (2000), Cond.methodLink RX4 50 yX4_many, Cond.instanceMethod yX4_many, Cond.selects RX4 yX4_many yX4_many, Cond.code yX4_many cX4_many 2 (some .int), Cond.fieldLink RX4 7 "EaseCurvesModel" "s" "[I", Cond.methodLink RX4 57 yX4_of, Cond.instanceMethod yX4_of, Cond.selects RX4 yX4_of yX4_of, Cond.code yX4_of cX4_of 4 (some .int), Cond.methodLink RX4 53 yX4_spot, Cond.static yX4_spot, Cond.code yX4_spot cX4_spot 2 (some .int), Cond.methodLink RX4 71 yX4_tangent]
def wsX4_sumOf_r2 : List Cond := [Cond.instanceMethod yX4_tangent, Cond.selects RX4 yX4_tangent yX4_tangent, Cond.code yX4_tangent cX4_tangent 8 (some .int)]
def wsX4_sumOf : List Cond := .code yX4_sumOf cX4_sumOf 7 (some .long) :: ((wsX4_sumOf_r1 ++ wsX4_sumOf_r2) ++ wsX40)
def wsX4_sum_r1 : List Cond := [Cond.fieldLink RX4 32 "EaseCurvesModel" "thrown" "I", Cond.methodLink RX4 46 yX4_isCurve, Cond.static yX4_isCurve, Cond.initialized RX4, Cond.code yX4_isCurve cX4_isCurve 1 (some .boolean), Cond.methodLink RX4 42 yX4_in, Cond.static yX4_in, Cond.code yX4_in cX4_in 3 (some .boolean), Cond.methodLink RX4 79 yX4_fails, Cond.instanceMethod yX4_fails, Cond.selects RX4 yX4_fails yX4_fails, Cond.code yX4_fails cX4_fails 2 (some .int), Cond.methodLink RX4 140 yX4_areFrames, Cond.static yX4_areFrames, Cond.code yX4_areFrames cX4_areFrames 2 (some .boolean), Cond.methodLink RX4 82 yX4_isFrame, Cond.static yX4_isFrame, Cond.code yX4_isFrame cX4_isFrame 1 (some .boolean), Cond.methodLink RX4 143 yX4_sumOf, Cond.instanceMethod yX4_sumOf, Cond.selects RX4 yX4_sumOf yX4_sumOf, Cond.code yX4_sumOf cX4_sumOf 7 (some .long), Cond.methodLink RX4 76 yX4_valueAt, Cond.instanceMethod yX4_valueAt]
def wsX4_sum_r2 : List Cond := [Cond.selects RX4 yX4_valueAt yX4_valueAt, Cond.code yX4_valueAt cX4_valueAt 20 (some .int), Cond.constantLong RX4 61 (1000), Cond.constantLong RX4 63 (1000000), Cond.constantLong RX4 65 (3000), Cond.constantLong RX4 67 (2), Cond.constantLong RX4 69 (1000000000), Cond.constantLong RX4 74 (2000), Cond.methodLink RX4 50 yX4_many, Cond.instanceMethod yX4_many, Cond.selects RX4 yX4_many yX4_many, Cond.code yX4_many cX4_many 2 (some .int), Cond.fieldLink RX4 7 "EaseCurvesModel" "s" "[I", Cond.methodLink RX4 57 yX4_of, Cond.instanceMethod yX4_of, Cond.selects RX4 yX4_of yX4_of, Cond.code yX4_of cX4_of 4 (some .int), Cond.methodLink RX4 53 yX4_spot, Cond.static yX4_spot, Cond.code yX4_spot cX4_spot 2 (some .int), Cond.methodLink RX4 71 yX4_tangent, Cond.instanceMethod yX4_tangent, Cond.selects RX4 yX4_tangent yX4_tangent, Cond.code yX4_tangent cX4_tangent 8 (some .int)]
def wsX4_sum : List Cond := .code yX4_sum cX4_sum 4 (some .long) :: ((wsX4_sum_r1 ++ wsX4_sum_r2) ++ wsX40)
def wsX4_extremeOf_r1 : List Cond := [Cond.fieldLink RX4 25 "EaseCurvesModel" "baked" "[I", Cond.methodLink RX4 127 yX4_bakes, Cond.instanceMethod yX4_bakes, Cond.selects RX4 yX4_bakes yX4_bakes, Cond.initialized RX4, Cond.code yX4_bakes cX4_bakes 3 none, Cond.methodLink RX4 76 yX4_valueAt, Cond.instanceMethod yX4_valueAt, Cond.selects RX4 yX4_valueAt yX4_valueAt, Cond.code yX4_valueAt cX4_valueAt 20 (some .int), Cond.constantLong RX4 61 (1000), Cond.constantLong RX4 63 (1000000), Cond.constantLong RX4 65 (3000), Cond.constantLong RX4 67 (2), Cond.constantLong RX4 69 (1000000000), Cond.constantLong RX4 74 (2000), Cond.methodLink RX4 50 yX4_many, Cond.instanceMethod yX4_many, Cond.selects RX4 yX4_many yX4_many, Cond.code yX4_many cX4_many 2 (some .int), Cond.fieldLink RX4 7 "EaseCurvesModel" "s" "[I", Cond.methodLink RX4 57 yX4_of, Cond.instanceMethod yX4_of, Cond.selects RX4 yX4_of yX4_of]
def wsX4_extremeOf_r2 : List Cond := [Cond.code yX4_of cX4_of 4 (some .int), Cond.methodLink RX4 53 yX4_spot, Cond.static yX4_spot, Cond.code yX4_spot cX4_spot 2 (some .int), Cond.methodLink RX4 71 yX4_tangent, Cond.instanceMethod yX4_tangent, Cond.selects RX4 yX4_tangent yX4_tangent, Cond.code yX4_tangent cX4_tangent 8 (some .int), Cond.methodLink RX4 124 yX4_apart, Cond.static yX4_apart, Cond.code yX4_apart cX4_apart 2 (some .int)]
def wsX4_extremeOf : List Cond := .code yX4_extremeOf cX4_extremeOf 10 (some .int) :: ((wsX4_extremeOf_r1 ++ wsX4_extremeOf_r2) ++ wsX40)
def wsX4_extreme_r1 : List Cond := [Cond.methodLink RX4 46 yX4_isCurve, Cond.static yX4_isCurve, Cond.initialized RX4, Cond.code yX4_isCurve cX4_isCurve 1 (some .boolean), Cond.methodLink RX4 42 yX4_in, Cond.static yX4_in, Cond.code yX4_in cX4_in 3 (some .boolean), Cond.methodLink RX4 79 yX4_fails, Cond.instanceMethod yX4_fails, Cond.selects RX4 yX4_fails yX4_fails, Cond.code yX4_fails cX4_fails 2 (some .int), Cond.fieldLink RX4 32 "EaseCurvesModel" "thrown" "I", Cond.methodLink RX4 140 yX4_areFrames, Cond.static yX4_areFrames, Cond.code yX4_areFrames cX4_areFrames 2 (some .boolean), Cond.methodLink RX4 82 yX4_isFrame, Cond.static yX4_isFrame, Cond.code yX4_isFrame cX4_isFrame 1 (some .boolean), Cond.methodLink RX4 147 yX4_extremeOf, Cond.instanceMethod yX4_extremeOf, Cond.selects RX4 yX4_extremeOf yX4_extremeOf, Cond.code yX4_extremeOf cX4_extremeOf 10 (some .int), Cond.fieldLink RX4 25 "EaseCurvesModel" "baked" "[I", Cond.methodLink RX4 127 yX4_bakes]
def wsX4_extreme_r2 : List Cond := [Cond.instanceMethod yX4_bakes, Cond.selects RX4 yX4_bakes yX4_bakes, Cond.code yX4_bakes cX4_bakes 3 none, Cond.methodLink RX4 76 yX4_valueAt, Cond.instanceMethod yX4_valueAt, Cond.selects RX4 yX4_valueAt yX4_valueAt, Cond.code yX4_valueAt cX4_valueAt 20 (some .int), Cond.constantLong RX4 61 (1000), Cond.constantLong RX4 63 (1000000), Cond.constantLong RX4 65 (3000), Cond.constantLong RX4 67 (2), Cond.constantLong RX4 69 (1000000000), Cond.constantLong RX4 74 (2000), Cond.methodLink RX4 50 yX4_many, Cond.instanceMethod yX4_many, Cond.selects RX4 yX4_many yX4_many, Cond.code yX4_many cX4_many 2 (some .int), Cond.fieldLink RX4 7 "EaseCurvesModel" "s" "[I", Cond.methodLink RX4 57 yX4_of, Cond.instanceMethod yX4_of, Cond.selects RX4 yX4_of yX4_of, Cond.code yX4_of cX4_of 4 (some .int), Cond.methodLink RX4 53 yX4_spot, Cond.static yX4_spot]
def wsX4_extreme_r3 : List Cond := [Cond.code yX4_spot cX4_spot 2 (some .int), Cond.methodLink RX4 71 yX4_tangent, Cond.instanceMethod yX4_tangent, Cond.selects RX4 yX4_tangent yX4_tangent, Cond.code yX4_tangent cX4_tangent 8 (some .int), Cond.methodLink RX4 124 yX4_apart, Cond.static yX4_apart, Cond.code yX4_apart cX4_apart 2 (some .int), Cond.methodLink RX4 38 yX4_tells, Cond.instanceMethod yX4_tells, Cond.selects RX4 yX4_tells yX4_tells, Cond.code yX4_tells cX4_tells 2 (some .int)]
def wsX4_extreme : List Cond := .code yX4_extreme cX4_extreme 5 (some .int) :: ((wsX4_extreme_r1 ++ (wsX4_extreme_r2 ++ wsX4_extreme_r3)) ++ wsX40)
def wsX4_crossings_r1 : List Cond := [Cond.constant RX4 109 (-99999), Cond.constant RX4 110 (99999), Cond.methodLink RX4 46 yX4_isCurve, Cond.static yX4_isCurve, Cond.initialized RX4, Cond.code yX4_isCurve cX4_isCurve 1 (some .boolean), Cond.methodLink RX4 42 yX4_in, Cond.static yX4_in, Cond.code yX4_in cX4_in 3 (some .boolean), Cond.methodLink RX4 79 yX4_fails, Cond.instanceMethod yX4_fails, Cond.selects RX4 yX4_fails yX4_fails, Cond.code yX4_fails cX4_fails 2 (some .int), Cond.fieldLink RX4 32 "EaseCurvesModel" "thrown" "I", Cond.methodLink RX4 76 yX4_valueAt, Cond.instanceMethod yX4_valueAt, Cond.selects RX4 yX4_valueAt yX4_valueAt, Cond.code yX4_valueAt cX4_valueAt 20 (some .int), Cond.constantLong RX4 61 (1000), Cond.constantLong RX4 63 (1000000), Cond.constantLong RX4 65 (3000), Cond.constantLong RX4 67 (2), Cond.constantLong RX4 69 (1000000000), Cond.constantLong RX4 74 (2000)]
def wsX4_crossings_r2 : List Cond := [Cond.methodLink RX4 50 yX4_many, Cond.instanceMethod yX4_many, Cond.selects RX4 yX4_many yX4_many, Cond.code yX4_many cX4_many 2 (some .int), Cond.fieldLink RX4 7 "EaseCurvesModel" "s" "[I", Cond.methodLink RX4 57 yX4_of, Cond.instanceMethod yX4_of, Cond.selects RX4 yX4_of yX4_of, Cond.code yX4_of cX4_of 4 (some .int), Cond.methodLink RX4 53 yX4_spot, Cond.static yX4_spot, Cond.code yX4_spot cX4_spot 2 (some .int), Cond.methodLink RX4 71 yX4_tangent, Cond.instanceMethod yX4_tangent, Cond.selects RX4 yX4_tangent yX4_tangent, Cond.code yX4_tangent cX4_tangent 8 (some .int), Cond.methodLink RX4 38 yX4_tells, Cond.instanceMethod yX4_tells, Cond.selects RX4 yX4_tells yX4_tells, Cond.code yX4_tells cX4_tells 2 (some .int)]
def wsX4_crossings : List Cond := .code yX4_crossings cX4_crossings 5 (some .int) :: ((wsX4_crossings_r1 ++ wsX4_crossings_r2) ++ wsX40)
def wsX4_difference_r1 : List Cond := [Cond.methodLink RX4 46 yX4_isCurve, Cond.static yX4_isCurve, Cond.initialized RX4, Cond.code yX4_isCurve cX4_isCurve 1 (some .boolean), Cond.methodLink RX4 42 yX4_in, Cond.static yX4_in, Cond.code yX4_in cX4_in 3 (some .boolean), Cond.methodLink RX4 79 yX4_fails, Cond.instanceMethod yX4_fails, Cond.selects RX4 yX4_fails yX4_fails, Cond.code yX4_fails cX4_fails 2 (some .int), Cond.fieldLink RX4 32 "EaseCurvesModel" "thrown" "I", Cond.methodLink RX4 76 yX4_valueAt, Cond.instanceMethod yX4_valueAt, Cond.selects RX4 yX4_valueAt yX4_valueAt, Cond.code yX4_valueAt cX4_valueAt 20 (some .int), Cond.constantLong RX4 61 (1000), Cond.constantLong RX4 63 (1000000), Cond.constantLong RX4 65 (3000), Cond.constantLong RX4 67 (2), Cond.constantLong RX4 69 (1000000000), Cond.constantLong RX4 74 (2000), Cond.methodLink RX4 50 yX4_many, Cond.instanceMethod yX4_many]
def wsX4_difference_r2 : List Cond := [Cond.selects RX4 yX4_many yX4_many, Cond.code yX4_many cX4_many 2 (some .int), Cond.fieldLink RX4 7 "EaseCurvesModel" "s" "[I", Cond.methodLink RX4 57 yX4_of, Cond.instanceMethod yX4_of, Cond.selects RX4 yX4_of yX4_of, Cond.code yX4_of cX4_of 4 (some .int), Cond.methodLink RX4 53 yX4_spot, Cond.static yX4_spot, Cond.code yX4_spot cX4_spot 2 (some .int), Cond.methodLink RX4 71 yX4_tangent, Cond.instanceMethod yX4_tangent, Cond.selects RX4 yX4_tangent yX4_tangent, Cond.code yX4_tangent cX4_tangent 8 (some .int), Cond.methodLink RX4 124 yX4_apart, Cond.static yX4_apart, Cond.code yX4_apart cX4_apart 2 (some .int), Cond.methodLink RX4 38 yX4_tells, Cond.instanceMethod yX4_tells, Cond.selects RX4 yX4_tells yX4_tells, Cond.code yX4_tells cX4_tells 2 (some .int)]
def wsX4_difference : List Cond := .code yX4_difference cX4_difference 6 (some .int) :: ((wsX4_difference_r1 ++ wsX4_difference_r2) ++ wsX40)
def wsX4_mean_r1 : List Cond := [Cond.fieldLink RX4 32 "EaseCurvesModel" "thrown" "I", Cond.constantDouble RX4 150 (4652007308841189376), Cond.methodLink RX4 46 yX4_isCurve, Cond.static yX4_isCurve, Cond.initialized RX4, Cond.code yX4_isCurve cX4_isCurve 1 (some .boolean), Cond.methodLink RX4 42 yX4_in, Cond.static yX4_in, Cond.code yX4_in cX4_in 3 (some .boolean), Cond.methodLink RX4 79 yX4_fails, Cond.instanceMethod yX4_fails, Cond.selects RX4 yX4_fails yX4_fails, Cond.code yX4_fails cX4_fails 2 (some .int), Cond.methodLink RX4 143 yX4_sumOf, Cond.instanceMethod yX4_sumOf, Cond.selects RX4 yX4_sumOf yX4_sumOf, Cond.code yX4_sumOf cX4_sumOf 7 (some .long), Cond.methodLink RX4 76 yX4_valueAt, Cond.instanceMethod yX4_valueAt, Cond.selects RX4 yX4_valueAt yX4_valueAt, Cond.code yX4_valueAt cX4_valueAt 20 (some .int), Cond.constantLong RX4 61 (1000), Cond.constantLong RX4 63 (1000000), Cond.constantLong RX4 65 (3000)]
def wsX4_mean_r2 : List Cond := [Cond.constantLong RX4 67 (2), Cond.constantLong RX4 69 (1000000000), Cond.constantLong RX4 74 (2000), Cond.methodLink RX4 50 yX4_many, Cond.instanceMethod yX4_many, Cond.selects RX4 yX4_many yX4_many, Cond.code yX4_many cX4_many 2 (some .int), Cond.fieldLink RX4 7 "EaseCurvesModel" "s" "[I", Cond.methodLink RX4 57 yX4_of, Cond.instanceMethod yX4_of, Cond.selects RX4 yX4_of yX4_of, Cond.code yX4_of cX4_of 4 (some .int), Cond.methodLink RX4 53 yX4_spot, Cond.static yX4_spot, Cond.code yX4_spot cX4_spot 2 (some .int), Cond.methodLink RX4 71 yX4_tangent, Cond.instanceMethod yX4_tangent, Cond.selects RX4 yX4_tangent yX4_tangent, Cond.code yX4_tangent cX4_tangent 8 (some .int)]
def wsX4_mean : List Cond := .code yX4_mean cX4_mean 2 (some .double) :: ((wsX4_mean_r1 ++ wsX4_mean_r2) ++ wsX40)
def wsX4_error_r1 : List Cond := [Cond.methodLink RX4 101 yX4_isKey, Cond.instanceMethod yX4_isKey, Cond.selects RX4 yX4_isKey yX4_isKey, Cond.initialized RX4, Cond.code yX4_isKey cX4_isKey 3 (some .boolean), Cond.methodLink RX4 46 yX4_isCurve, Cond.static yX4_isCurve, Cond.code yX4_isCurve cX4_isCurve 1 (some .boolean), Cond.methodLink RX4 42 yX4_in, Cond.static yX4_in, Cond.code yX4_in cX4_in 3 (some .boolean), Cond.methodLink RX4 50 yX4_many, Cond.instanceMethod yX4_many, Cond.selects RX4 yX4_many yX4_many, Cond.code yX4_many cX4_many 2 (some .int), Cond.fieldLink RX4 7 "EaseCurvesModel" "s" "[I", Cond.methodLink RX4 79 yX4_fails, Cond.instanceMethod yX4_fails, Cond.selects RX4 yX4_fails yX4_fails, Cond.code yX4_fails cX4_fails 2 (some .int), Cond.fieldLink RX4 32 "EaseCurvesModel" "thrown" "I", Cond.methodLink RX4 127 yX4_bakes, Cond.instanceMethod yX4_bakes, Cond.selects RX4 yX4_bakes yX4_bakes]
def wsX4_error_r2 : List Cond := [Cond.code yX4_bakes cX4_bakes 3 none, Cond.fieldLink RX4 25 "EaseCurvesModel" "baked" "[I", Cond.methodLink RX4 76 yX4_valueAt, Cond.instanceMethod yX4_valueAt, Cond.selects RX4 yX4_valueAt yX4_valueAt, Cond.code yX4_valueAt cX4_valueAt 20 (some .int), Cond.constantLong RX4 61 (1000), Cond.constantLong RX4 63 (1000000), Cond.constantLong RX4 65 (3000), Cond.constantLong RX4 67 (2), Cond.constantLong RX4 69 (1000000000), Cond.constantLong RX4 74 (2000), Cond.methodLink RX4 57 yX4_of, Cond.instanceMethod yX4_of, Cond.selects RX4 yX4_of yX4_of, Cond.code yX4_of cX4_of 4 (some .int), Cond.methodLink RX4 53 yX4_spot, Cond.static yX4_spot, Cond.code yX4_spot cX4_spot 2 (some .int), Cond.methodLink RX4 71 yX4_tangent, Cond.instanceMethod yX4_tangent, Cond.selects RX4 yX4_tangent yX4_tangent, Cond.code yX4_tangent cX4_tangent 8 (some .int), Cond.methodLink RX4 131 yX4_errorOf]
def wsX4_error_r3 : List Cond := [Cond.instanceMethod yX4_errorOf, Cond.selects RX4 yX4_errorOf yX4_errorOf, Cond.code yX4_errorOf cX4_errorOf 6 (some .int), Cond.fieldLink RX4 19 "EaseCurvesModel" "kept" "[I", Cond.methodLink RX4 105 yX4_goes, Cond.instanceMethod yX4_goes, Cond.selects RX4 yX4_goes yX4_goes, Cond.code yX4_goes cX4_goes 4 none, Cond.methodLink RX4 124 yX4_apart, Cond.static yX4_apart, Cond.code yX4_apart cX4_apart 2 (some .int), Cond.methodLink RX4 38 yX4_tells, Cond.instanceMethod yX4_tells, Cond.selects RX4 yX4_tells yX4_tells, Cond.code yX4_tells cX4_tells 2 (some .int)]
def wsX4_error : List Cond := .code yX4_error cX4_error 3 (some .int) :: ((wsX4_error_r1 ++ (wsX4_error_r2 ++ wsX4_error_r3)) ++ wsX40)
def wsX4_greatestStretch_r1 : List Cond := [Cond.methodLink RX4 46 yX4_isCurve, Cond.static yX4_isCurve, Cond.initialized RX4, Cond.code yX4_isCurve cX4_isCurve 1 (some .boolean), Cond.methodLink RX4 42 yX4_in, Cond.static yX4_in, Cond.code yX4_in cX4_in 3 (some .boolean), Cond.methodLink RX4 79 yX4_fails, Cond.instanceMethod yX4_fails, Cond.selects RX4 yX4_fails yX4_fails, Cond.code yX4_fails cX4_fails 2 (some .int), Cond.fieldLink RX4 32 "EaseCurvesModel" "thrown" "I", Cond.methodLink RX4 114 yX4_isSpan, Cond.static yX4_isSpan, Cond.code yX4_isSpan cX4_isSpan 2 (some .boolean), Cond.methodLink RX4 117 yX4_mayStretch, Cond.instanceMethod yX4_mayStretch, Cond.selects RX4 yX4_mayStretch yX4_mayStretch, Cond.code yX4_mayStretch cX4_mayStretch 9 (some .boolean), Cond.methodLink RX4 50 yX4_many, Cond.instanceMethod yX4_many, Cond.selects RX4 yX4_many yX4_many, Cond.code yX4_many cX4_many 2 (some .int), Cond.fieldLink RX4 7 "EaseCurvesModel" "s" "[I"]
def wsX4_greatestStretch_r2 : List Cond := [Cond.methodLink RX4 57 yX4_of, Cond.instanceMethod yX4_of, Cond.selects RX4 yX4_of yX4_of, Cond.code yX4_of cX4_of 4 (some .int), Cond.methodLink RX4 53 yX4_spot, Cond.static yX4_spot, Cond.code yX4_spot cX4_spot 2 (some .int), Cond.methodLink RX4 111 yX4_stretched, Cond.static yX4_stretched, Cond.code yX4_stretched cX4_stretched 4 (some .int), Cond.methodLink RX4 38 yX4_tells, Cond.instanceMethod yX4_tells, Cond.selects RX4 yX4_tells yX4_tells, Cond.code yX4_tells cX4_tells 2 (some .int)]
def wsX4_greatestStretch : List Cond := .code yX4_greatestStretch cX4_greatestStretch 5 (some .int) :: ((wsX4_greatestStretch_r1 ++ wsX4_greatestStretch_r2) ++ wsX40)
def wsX4_leastEase_r1 : List Cond := [Cond.fieldLink RX4 7 "EaseCurvesModel" "s" "[I", Cond.methodLink RX4 101 yX4_isKey, Cond.instanceMethod yX4_isKey, Cond.selects RX4 yX4_isKey yX4_isKey, Cond.initialized RX4, Cond.code yX4_isKey cX4_isKey 3 (some .boolean), Cond.methodLink RX4 46 yX4_isCurve, Cond.static yX4_isCurve, Cond.code yX4_isCurve cX4_isCurve 1 (some .boolean), Cond.methodLink RX4 42 yX4_in, Cond.static yX4_in, Cond.code yX4_in cX4_in 3 (some .boolean), Cond.methodLink RX4 50 yX4_many, Cond.instanceMethod yX4_many, Cond.selects RX4 yX4_many yX4_many, Cond.code yX4_many cX4_many 2 (some .int), Cond.methodLink RX4 79 yX4_fails, Cond.instanceMethod yX4_fails, Cond.selects RX4 yX4_fails yX4_fails, Cond.code yX4_fails cX4_fails 2 (some .int), Cond.fieldLink RX4 32 "EaseCurvesModel" "thrown" "I", Cond.methodLink RX4 53 yX4_spot, Cond.static yX4_spot, Cond.code yX4_spot cX4_spot 2 (some .int)]
def wsX4_leastEase_r2 : List Cond := [Cond.methodLink RX4 57 yX4_of, Cond.instanceMethod yX4_of, Cond.selects RX4 yX4_of yX4_of, Cond.code yX4_of cX4_of 4 (some .int), Cond.methodLink RX4 143 yX4_sumOf, Cond.instanceMethod yX4_sumOf, Cond.selects RX4 yX4_sumOf yX4_sumOf, Cond.code yX4_sumOf cX4_sumOf 7 (some .long), Cond.methodLink RX4 76 yX4_valueAt, Cond.instanceMethod yX4_valueAt, Cond.selects RX4 yX4_valueAt yX4_valueAt, Cond.code yX4_valueAt cX4_valueAt 20 (some .int), Cond.constantLong RX4 61 (1000), Cond.constantLong RX4 63 (1000000), Cond.constantLong RX4 65 (3000), Cond.constantLong RX4 67 (2), Cond.constantLong RX4 69 (1000000000), Cond.constantLong RX4 74 (2000), Cond.methodLink RX4 71 yX4_tangent, Cond.instanceMethod yX4_tangent, Cond.selects RX4 yX4_tangent yX4_tangent, Cond.code yX4_tangent cX4_tangent 8 (some .int), Cond.methodLink RX4 38 yX4_tells, Cond.instanceMethod yX4_tells]
def wsX4_leastEase_r3 : List Cond := [Cond.selects RX4 yX4_tells yX4_tells, Cond.code yX4_tells cX4_tells 2 (some .int)]
def wsX4_leastEase : List Cond := .code yX4_leastEase cX4_leastEase 12 (some .int) :: ((wsX4_leastEase_r1 ++ (wsX4_leastEase_r2 ++ wsX4_leastEase_r3)) ++ wsX40)
def wsX4_append : List Cond := .code yX4_append cX4_append 2 (some .int) :: ([.fieldLink RX4 28 "EaseCurvesModel" "typed" "I", .fieldLink RX4 22 "EaseCurvesModel" "text" "[I", .methodLink RX4 42 yX4_in, .static yX4_in, .initialized RX4, .code yX4_in cX4_in 3 (some .boolean), .methodLink RX4 79 yX4_fails, .instanceMethod yX4_fails, .selects RX4 yX4_fails yX4_fails, .code yX4_fails cX4_fails 2 (some .int), .fieldLink RX4 32 "EaseCurvesModel" "thrown" "I", .methodLink RX4 38 yX4_tells, .instanceMethod yX4_tells, .selects RX4 yX4_tells yX4_tells, .code yX4_tells cX4_tells 2 (some .int)] ++ wsX40)
def wsX4_clearText : List Cond := .code yX4_clearText cX4_clearText 2 (some .int) :: ([.fieldLink RX4 28 "EaseCurvesModel" "typed" "I", .methodLink RX4 38 yX4_tells, .instanceMethod yX4_tells, .selects RX4 yX4_tells yX4_tells, .initialized RX4, .code yX4_tells cX4_tells 2 (some .int), .fieldLink RX4 32 "EaseCurvesModel" "thrown" "I"] ++ wsX40)
def wsX4_isAt : List Cond := .code yX4_isAt cX4_isAt 3 (some .boolean) :: ([.fieldLink RX4 152 "EaseCurvesModel" "at" "I", .fieldLink RX4 28 "EaseCurvesModel" "typed" "I", .fieldLink RX4 22 "EaseCurvesModel" "text" "[I", .methodLink RX4 42 yX4_in, .static yX4_in, .initialized RX4, .code yX4_in cX4_in 3 (some .boolean)] ++ wsX40)
def wsX4_takes : List Cond := .code yX4_takes cX4_takes 3 (some .boolean) :: ([.fieldLink RX4 152 "EaseCurvesModel" "at" "I", .methodLink RX4 155 yX4_isAt, .instanceMethod yX4_isAt, .selects RX4 yX4_isAt yX4_isAt, .initialized RX4, .code yX4_isAt cX4_isAt 3 (some .boolean), .fieldLink RX4 28 "EaseCurvesModel" "typed" "I", .fieldLink RX4 22 "EaseCurvesModel" "text" "[I", .methodLink RX4 42 yX4_in, .static yX4_in, .code yX4_in cX4_in 3 (some .boolean)] ++ wsX40)
def wsX4_isNumber : List Cond := .code yX4_isNumber cX4_isNumber 3 (some .boolean) :: ([.fieldLink RX4 152 "EaseCurvesModel" "at" "I", .fieldLink RX4 158 "EaseCurvesModel" "number" "I", .fieldLink RX4 22 "EaseCurvesModel" "text" "[I", .methodLink RX4 155 yX4_isAt, .instanceMethod yX4_isAt, .selects RX4 yX4_isAt yX4_isAt, .initialized RX4, .code yX4_isAt cX4_isAt 3 (some .boolean), .fieldLink RX4 28 "EaseCurvesModel" "typed" "I", .methodLink RX4 42 yX4_in, .static yX4_in, .code yX4_in cX4_in 3 (some .boolean)] ++ wsX40)
def wsX4_isItem_r1 : List Cond := [Cond.fieldLink RX4 152 "EaseCurvesModel" "at" "I", Cond.fieldLink RX4 158 "EaseCurvesModel" "number" "I", Cond.fieldLink RX4 22 "EaseCurvesModel" "text" "[I", Cond.fieldLink RX4 7 "EaseCurvesModel" "s" "[I", Cond.methodLink RX4 50 yX4_many, Cond.instanceMethod yX4_many, Cond.selects RX4 yX4_many yX4_many, Cond.initialized RX4, Cond.code yX4_many cX4_many 2 (some .int), Cond.methodLink RX4 161 yX4_isNumber, Cond.instanceMethod yX4_isNumber, Cond.selects RX4 yX4_isNumber yX4_isNumber, Cond.code yX4_isNumber cX4_isNumber 3 (some .boolean), Cond.methodLink RX4 155 yX4_isAt, Cond.instanceMethod yX4_isAt, Cond.selects RX4 yX4_isAt yX4_isAt, Cond.code yX4_isAt cX4_isAt 3 (some .boolean), Cond.fieldLink RX4 28 "EaseCurvesModel" "typed" "I", Cond.methodLink RX4 42 yX4_in, Cond.static yX4_in, Cond.code yX4_in cX4_in 3 (some .boolean), Cond.methodLink RX4 57 yX4_of, Cond.instanceMethod yX4_of, Cond.selects RX4 yX4_of yX4_of]
def wsX4_isItem_r2 : List Cond := [Cond.code yX4_of cX4_of 4 (some .int), Cond.methodLink RX4 53 yX4_spot, Cond.static yX4_spot, Cond.code yX4_spot cX4_spot 2 (some .int), Cond.methodLink RX4 164 yX4_takes, Cond.instanceMethod yX4_takes, Cond.selects RX4 yX4_takes yX4_takes, Cond.code yX4_takes cX4_takes 3 (some .boolean), Cond.methodLink RX4 94 yX4_comes, Cond.instanceMethod yX4_comes, Cond.selects RX4 yX4_comes yX4_comes, Cond.code yX4_comes cX4_comes 7 (some .int)]
def wsX4_isItem : List Cond := .code yX4_isItem cX4_isItem 11 (some .boolean) :: ((wsX4_isItem_r1 ++ wsX4_isItem_r2) ++ wsX40)
def wsX4_parse_r1 : List Cond := [Cond.fieldLink RX4 7 "EaseCurvesModel" "s" "[I", Cond.fieldLink RX4 152 "EaseCurvesModel" "at" "I", Cond.fieldLink RX4 28 "EaseCurvesModel" "typed" "I", Cond.fieldLink RX4 16 "EaseCurvesModel" "aside" "[I", Cond.methodLink RX4 46 yX4_isCurve, Cond.static yX4_isCurve, Cond.initialized RX4, Cond.code yX4_isCurve cX4_isCurve 1 (some .boolean), Cond.methodLink RX4 42 yX4_in, Cond.static yX4_in, Cond.code yX4_in cX4_in 3 (some .boolean), Cond.methodLink RX4 79 yX4_fails, Cond.instanceMethod yX4_fails, Cond.selects RX4 yX4_fails yX4_fails, Cond.code yX4_fails cX4_fails 2 (some .int), Cond.fieldLink RX4 32 "EaseCurvesModel" "thrown" "I", Cond.methodLink RX4 91 yX4_hold, Cond.instanceMethod yX4_hold, Cond.selects RX4 yX4_hold yX4_hold, Cond.code yX4_hold cX4_hold 2 none, Cond.methodLink RX4 121 yX4_hasLock, Cond.instanceMethod yX4_hasLock, Cond.selects RX4 yX4_hasLock yX4_hasLock, Cond.code yX4_hasLock cX4_hasLock 4 (some .boolean)]
def wsX4_parse_r2 : List Cond := [Cond.methodLink RX4 50 yX4_many, Cond.instanceMethod yX4_many, Cond.selects RX4 yX4_many yX4_many, Cond.code yX4_many cX4_many 2 (some .int), Cond.methodLink RX4 57 yX4_of, Cond.instanceMethod yX4_of, Cond.selects RX4 yX4_of yX4_of, Cond.code yX4_of cX4_of 4 (some .int), Cond.methodLink RX4 53 yX4_spot, Cond.static yX4_spot, Cond.code yX4_spot cX4_spot 2 (some .int), Cond.methodLink RX4 167 yX4_isItem, Cond.instanceMethod yX4_isItem, Cond.selects RX4 yX4_isItem yX4_isItem, Cond.code yX4_isItem cX4_isItem 11 (some .boolean), Cond.fieldLink RX4 158 "EaseCurvesModel" "number" "I", Cond.fieldLink RX4 22 "EaseCurvesModel" "text" "[I", Cond.methodLink RX4 161 yX4_isNumber, Cond.instanceMethod yX4_isNumber, Cond.selects RX4 yX4_isNumber yX4_isNumber, Cond.code yX4_isNumber cX4_isNumber 3 (some .boolean), Cond.methodLink RX4 155 yX4_isAt, Cond.instanceMethod yX4_isAt, Cond.selects RX4 yX4_isAt yX4_isAt]
def wsX4_parse_r3 : List Cond := [Cond.code yX4_isAt cX4_isAt 3 (some .boolean), Cond.methodLink RX4 164 yX4_takes, Cond.instanceMethod yX4_takes, Cond.selects RX4 yX4_takes yX4_takes, Cond.code yX4_takes cX4_takes 3 (some .boolean), Cond.methodLink RX4 94 yX4_comes, Cond.instanceMethod yX4_comes, Cond.selects RX4 yX4_comes yX4_comes, Cond.code yX4_comes cX4_comes 7 (some .int), Cond.methodLink RX4 38 yX4_tells, Cond.instanceMethod yX4_tells, Cond.selects RX4 yX4_tells yX4_tells, Cond.code yX4_tells cX4_tells 2 (some .int), Cond.methodLink RX4 98 yX4_ends, Cond.instanceMethod yX4_ends, Cond.selects RX4 yX4_ends yX4_ends, Cond.code yX4_ends cX4_ends 3 (some .int), Cond.fieldLink RX4 35 "EaseCurvesModel" "pasts" "I", Cond.fieldLink RX4 13 "EaseCurvesModel" "past" "[I"]
def wsX4_parse : List Cond := .code yX4_parse cX4_parse 6 (some .int) :: ((wsX4_parse_r1 ++ (wsX4_parse_r2 ++ wsX4_parse_r3)) ++ wsX40)
def wsX4_undo : List Cond := .code yX4_undo cX4_undo 2 (some .int) :: ([.fieldLink RX4 35 "EaseCurvesModel" "pasts" "I", .fieldLink RX4 7 "EaseCurvesModel" "s" "[I", .fieldLink RX4 13 "EaseCurvesModel" "past" "[I", .methodLink RX4 79 yX4_fails, .instanceMethod yX4_fails, .selects RX4 yX4_fails yX4_fails, .initialized RX4, .code yX4_fails cX4_fails 2 (some .int), .fieldLink RX4 32 "EaseCurvesModel" "thrown" "I", .methodLink RX4 38 yX4_tells, .instanceMethod yX4_tells, .selects RX4 yX4_tells yX4_tells, .code yX4_tells cX4_tells 2 (some .int)] ++ wsX40)
def wsX4_digest_r1 : List Cond := [Cond.fieldLink RX4 32 "EaseCurvesModel" "thrown" "I", Cond.constantLong RX4 170 (103013), Cond.fieldLink RX4 28 "EaseCurvesModel" "typed" "I", Cond.constantLong RX4 172 (31), Cond.fieldLink RX4 35 "EaseCurvesModel" "pasts" "I", Cond.methodLink RX4 50 yX4_many, Cond.instanceMethod yX4_many, Cond.selects RX4 yX4_many yX4_many, Cond.initialized RX4, Cond.code yX4_many cX4_many 2 (some .int), Cond.fieldLink RX4 7 "EaseCurvesModel" "s" "[I", Cond.methodLink RX4 137 yX4_keyOf, Cond.instanceMethod yX4_keyOf, Cond.selects RX4 yX4_keyOf yX4_keyOf, Cond.code yX4_keyOf cX4_keyOf 4 (some .int), Cond.methodLink RX4 57 yX4_of, Cond.instanceMethod yX4_of, Cond.selects RX4 yX4_of yX4_of, Cond.code yX4_of cX4_of 4 (some .int), Cond.methodLink RX4 53 yX4_spot, Cond.static yX4_spot, Cond.code yX4_spot cX4_spot 2 (some .int), Cond.methodLink RX4 71 yX4_tangent, Cond.instanceMethod yX4_tangent]
def wsX4_digest_r2 : List Cond := [Cond.selects RX4 yX4_tangent yX4_tangent, Cond.code yX4_tangent cX4_tangent 8 (some .int), Cond.methodLink RX4 76 yX4_valueAt, Cond.instanceMethod yX4_valueAt, Cond.selects RX4 yX4_valueAt yX4_valueAt, Cond.code yX4_valueAt cX4_valueAt 20 (some .int), Cond.constantLong RX4 61 (1000), Cond.constantLong RX4 63 (1000000), Cond.constantLong RX4 65 (3000), Cond.constantLong RX4 67 (2), Cond.constantLong RX4 69 (1000000000), Cond.constantLong RX4 74 (2000)]
def wsX4_digest : List Cond := .code yX4_digest cX4_digest 5 (some .long) :: ((wsX4_digest_r1 ++ wsX4_digest_r2) ++ wsX40)
def wsJ9_abs_0f7a4 : List Cond := .code yJ9_abs_0f7a4 cJ9_abs_0f7a4 1 (some .int) :: ([])
def wsJ9_max_7cf53 : List Cond := .code yJ9_max_7cf53 cJ9_max_7cf53 2 (some .int) :: ([])
def wsJ9_min_7cf53 : List Cond := .code yJ9_min_7cf53 cJ9_min_7cf53 2 (some .int) :: ([])
def wsL_addKey_r1 : List Cond := [Cond.classLink RL 13 "java/lang/IndexOutOfBoundsException", Cond.classLink RL 15 "java/lang/IllegalArgumentException", Cond.classLink RL 17 "java/lang/IllegalStateException", Cond.methodLink RL 7 yX3_addKey, Cond.instanceMethod yX3_addKey, Cond.selects RX3 yX3_addKey yX3_addKey, Cond.initialized RX3, Cond.code yX3_addKey cX3_addKey 6 (some .int), Cond.classLink RX3 56 "java/lang/IllegalStateException", Cond.initialized "java/lang/IllegalStateException", Cond.methodLink RX3 45 yX3_curveNumbered, Cond.instanceMethod yX3_curveNumbered, Cond.selects RX3 yX3_curveNumbered yX3_curveNumbered, Cond.code yX3_curveNumbered cX3_curveNumbered 2 (some (.object "EaseCurves$Curve")), Cond.classLink RX3 176 "java/lang/IndexOutOfBoundsException", Cond.initialized "java/lang/IndexOutOfBoundsException", Cond.fieldLink RX3 12 "EaseCurves" "present" "LEaseCurves$State;", Cond.methodLink RX3 49 yX3_requireRange, Cond.static yX3_requireRange, Cond.code yX3_requireRange cX3_requireRange 3 none, Cond.classLink RX3 214 "java/lang/IllegalArgumentException", Cond.initialized "java/lang/IllegalArgumentException", Cond.instanceMethod yX0_numberAtFrame, Cond.initialized RX0]
def wsL_addKey_r2 : List Cond := [Cond.selects RX0 yX0_numberAtFrame yX0_numberAtFrame, Cond.code yX0_numberAtFrame cX0_numberAtFrame 3 (some .int), Cond.methodLink RX0 27 yX0_countUpTo, Cond.instanceMethod yX0_countUpTo, Cond.selects RX0 yX0_countUpTo yX0_countUpTo, Cond.code yX0_countUpTo cX0_countUpTo 3 (some .int), Cond.fieldLink RX0 9 "EaseCurves$Curve" "count" "I", Cond.methodLink RX0 19 yX0_cell, Cond.instanceMethod yX0_cell, Cond.selects RX0 yX0_cell yX0_cell, Cond.code yX0_cell cX0_cell 3 (some .int), Cond.fieldLink RX0 15 "EaseCurves$Curve" "cells" "[I", Cond.methodLink RX3 69 yX3_saveState, Cond.instanceMethod yX3_saveState, Cond.selects RX3 yX3_saveState yX3_saveState, Cond.code yX3_saveState cX3_saveState 1 none, Cond.fieldLink RX3 20 "EaseCurves" "savedCount" "I", Cond.fieldLink RX3 16 "EaseCurves" "saved" "[LEaseCurves$State;", Cond.methodLink RX3 230 yX3_dropOldestState, Cond.instanceMethod yX3_dropOldestState, Cond.selects RX3 yX3_dropOldestState yX3_dropOldestState, Cond.code yX3_dropOldestState cX3_dropOldestState 3 none, Cond.instanceMethod yX2_become, Cond.initialized RX2]
def wsL_addKey_r3 : List Cond := [Cond.selects RX2 yX2_become yX2_become, Cond.code yX2_become cX2_become 3 none, Cond.fieldLink RX2 11 "EaseCurves$State" "curves" "[LEaseCurves$Curve;", Cond.instanceMethod yX0_become, Cond.selects RX0 yX0_become yX0_become, Cond.code yX0_become cX0_become 2 none, Cond.methodLink RX0 31 arraycopyName, Cond.native arraycopyName, Cond.static arraycopyName, Cond.initialized "java/lang/System", Cond.instanceMethod yX0_insert, Cond.selects RX0 yX0_insert yX0_insert, Cond.code yX0_insert cX0_insert 9 (some .int), Cond.methodLink RX0 37 yX0_put, Cond.instanceMethod yX0_put, Cond.selects RX0 yX0_put yX0_put, Cond.code yX0_put cX0_put 4 none]
def wsL_addKey : List Cond := .codeWith yL_addKey cL_addKey 7 (some .int) [(0, 14, 17, 13), (0, 14, 21, 15), (0, 14, 25, 17)] :: ((wsL_addKey_r1 ++ (wsL_addKey_r2 ++ wsL_addKey_r3)) ++ wsX00 ++ wsX30 ++ wsX20 ++ (vx_atS RX3 60 "java/lang/IllegalStateException" ["java/lang/RuntimeException", "java/lang/Exception"]).filter goodWord ++ (vx_atS RX3 180 "java/lang/IndexOutOfBoundsException" ["java/lang/RuntimeException", "java/lang/Exception"]).filter goodWord ++ (vx_atS RX3 218 "java/lang/IllegalArgumentException" ["java/lang/RuntimeException", "java/lang/Exception"]).filter goodWord)
def wsL_removeKey_r1 : List Cond := [Cond.classLink RL 13 "java/lang/IndexOutOfBoundsException", Cond.classLink RL 17 "java/lang/IllegalStateException", Cond.methodLink RL 19 yX3_removeKey, Cond.instanceMethod yX3_removeKey, Cond.selects RX3 yX3_removeKey yX3_removeKey, Cond.initialized RX3, Cond.code yX3_removeKey cX3_removeKey 4 (some .int), Cond.methodLink RX3 45 yX3_curveNumbered, Cond.instanceMethod yX3_curveNumbered, Cond.selects RX3 yX3_curveNumbered yX3_curveNumbered, Cond.code yX3_curveNumbered cX3_curveNumbered 2 (some (.object "EaseCurves$Curve")), Cond.classLink RX3 176 "java/lang/IndexOutOfBoundsException", Cond.initialized "java/lang/IndexOutOfBoundsException", Cond.fieldLink RX3 12 "EaseCurves" "present" "LEaseCurves$State;", Cond.methodLink RX3 76 yX3_requireKey, Cond.static yX3_requireKey, Cond.code yX3_requireKey cX3_requireKey 2 none, Cond.methodLink RX3 80 yX3_requireUnlocked, Cond.static yX3_requireUnlocked, Cond.code yX3_requireUnlocked cX3_requireUnlocked 2 none, Cond.classLink RX3 56 "java/lang/IllegalStateException", Cond.initialized "java/lang/IllegalStateException", Cond.instanceMethod yX0_isLocked, Cond.initialized RX0]
def wsL_removeKey_r2 : List Cond := [Cond.selects RX0 yX0_isLocked yX0_isLocked, Cond.code yX0_isLocked cX0_isLocked 2 (some .boolean), Cond.methodLink RX0 19 yX0_cell, Cond.instanceMethod yX0_cell, Cond.selects RX0 yX0_cell yX0_cell, Cond.code yX0_cell cX0_cell 3 (some .int), Cond.fieldLink RX0 9 "EaseCurves$Curve" "count" "I", Cond.fieldLink RX0 15 "EaseCurves$Curve" "cells" "[I", Cond.methodLink RX3 69 yX3_saveState, Cond.instanceMethod yX3_saveState, Cond.selects RX3 yX3_saveState yX3_saveState, Cond.code yX3_saveState cX3_saveState 1 none, Cond.fieldLink RX3 20 "EaseCurves" "savedCount" "I", Cond.fieldLink RX3 16 "EaseCurves" "saved" "[LEaseCurves$State;", Cond.methodLink RX3 230 yX3_dropOldestState, Cond.instanceMethod yX3_dropOldestState, Cond.selects RX3 yX3_dropOldestState yX3_dropOldestState, Cond.code yX3_dropOldestState cX3_dropOldestState 3 none, Cond.instanceMethod yX2_become, Cond.initialized RX2, Cond.selects RX2 yX2_become yX2_become, Cond.code yX2_become cX2_become 3 none, Cond.fieldLink RX2 11 "EaseCurves$State" "curves" "[LEaseCurves$Curve;", Cond.instanceMethod yX0_become]
def wsL_removeKey_r3 : List Cond := [Cond.selects RX0 yX0_become yX0_become, Cond.code yX0_become cX0_become 2 none, Cond.methodLink RX0 31 arraycopyName, Cond.native arraycopyName, Cond.static arraycopyName, Cond.initialized "java/lang/System", Cond.instanceMethod yX0_takeOut, Cond.selects RX0 yX0_takeOut yX0_takeOut, Cond.code yX0_takeOut cX0_takeOut 3 none]
def wsL_removeKey : List Cond := .codeWith yL_removeKey cL_removeKey 5 (some .int) [(0, 10, 13, 13), (0, 10, 17, 17)] :: ((wsL_removeKey_r1 ++ (wsL_removeKey_r2 ++ wsL_removeKey_r3)) ++ wsX00 ++ wsX30 ++ wsX20 ++ (vx_atS RX3 180 "java/lang/IndexOutOfBoundsException" ["java/lang/RuntimeException", "java/lang/Exception"]).filter goodWord ++ (vx_atS RX3 60 "java/lang/IllegalStateException" ["java/lang/RuntimeException", "java/lang/Exception"]).filter goodWord)
def wsL_setKey_r1 : List Cond := [Cond.classLink RL 13 "java/lang/IndexOutOfBoundsException", Cond.classLink RL 15 "java/lang/IllegalArgumentException", Cond.classLink RL 17 "java/lang/IllegalStateException", Cond.methodLink RL 23 yX3_setKey, Cond.instanceMethod yX3_setKey, Cond.selects RX3 yX3_setKey yX3_setKey, Cond.initialized RX3, Cond.code yX3_setKey cX3_setKey 7 (some .int), Cond.methodLink RX3 45 yX3_curveNumbered, Cond.instanceMethod yX3_curveNumbered, Cond.selects RX3 yX3_curveNumbered yX3_curveNumbered, Cond.code yX3_curveNumbered cX3_curveNumbered 2 (some (.object "EaseCurves$Curve")), Cond.classLink RX3 176 "java/lang/IndexOutOfBoundsException", Cond.initialized "java/lang/IndexOutOfBoundsException", Cond.fieldLink RX3 12 "EaseCurves" "present" "LEaseCurves$State;", Cond.methodLink RX3 76 yX3_requireKey, Cond.static yX3_requireKey, Cond.code yX3_requireKey cX3_requireKey 2 none, Cond.methodLink RX3 49 yX3_requireRange, Cond.static yX3_requireRange, Cond.code yX3_requireRange cX3_requireRange 3 none, Cond.classLink RX3 214 "java/lang/IllegalArgumentException", Cond.initialized "java/lang/IllegalArgumentException", Cond.methodLink RX3 80 yX3_requireUnlocked]
def wsL_setKey_r2 : List Cond := [Cond.static yX3_requireUnlocked, Cond.code yX3_requireUnlocked cX3_requireUnlocked 2 none, Cond.classLink RX3 56 "java/lang/IllegalStateException", Cond.initialized "java/lang/IllegalStateException", Cond.instanceMethod yX0_isLocked, Cond.initialized RX0, Cond.selects RX0 yX0_isLocked yX0_isLocked, Cond.code yX0_isLocked cX0_isLocked 2 (some .boolean), Cond.methodLink RX0 19 yX0_cell, Cond.instanceMethod yX0_cell, Cond.selects RX0 yX0_cell yX0_cell, Cond.code yX0_cell cX0_cell 3 (some .int), Cond.fieldLink RX0 9 "EaseCurves$Curve" "count" "I", Cond.fieldLink RX0 15 "EaseCurves$Curve" "cells" "[I", Cond.methodLink RX3 69 yX3_saveState, Cond.instanceMethod yX3_saveState, Cond.selects RX3 yX3_saveState yX3_saveState, Cond.code yX3_saveState cX3_saveState 1 none, Cond.fieldLink RX3 20 "EaseCurves" "savedCount" "I", Cond.fieldLink RX3 16 "EaseCurves" "saved" "[LEaseCurves$State;", Cond.methodLink RX3 230 yX3_dropOldestState, Cond.instanceMethod yX3_dropOldestState, Cond.selects RX3 yX3_dropOldestState yX3_dropOldestState, Cond.code yX3_dropOldestState cX3_dropOldestState 3 none]
def wsL_setKey_r3 : List Cond := [Cond.instanceMethod yX2_become, Cond.initialized RX2, Cond.selects RX2 yX2_become yX2_become, Cond.code yX2_become cX2_become 3 none, Cond.fieldLink RX2 11 "EaseCurves$State" "curves" "[LEaseCurves$Curve;", Cond.instanceMethod yX0_become, Cond.selects RX0 yX0_become yX0_become, Cond.code yX0_become cX0_become 2 none, Cond.methodLink RX0 31 arraycopyName, Cond.native arraycopyName, Cond.static arraycopyName, Cond.initialized "java/lang/System", Cond.instanceMethod yX0_put, Cond.selects RX0 yX0_put yX0_put, Cond.code yX0_put cX0_put 4 none]
def wsL_setKey : List Cond := .codeWith yL_setKey cL_setKey 7 (some .int) [(0, 14, 17, 13), (0, 14, 21, 15), (0, 14, 25, 17)] :: ((wsL_setKey_r1 ++ (wsL_setKey_r2 ++ wsL_setKey_r3)) ++ wsX30 ++ wsX20 ++ wsX00 ++ (vx_atS RX3 180 "java/lang/IndexOutOfBoundsException" ["java/lang/RuntimeException", "java/lang/Exception"]).filter goodWord ++ (vx_atS RX3 218 "java/lang/IllegalArgumentException" ["java/lang/RuntimeException", "java/lang/Exception"]).filter goodWord ++ (vx_atS RX3 60 "java/lang/IllegalStateException" ["java/lang/RuntimeException", "java/lang/Exception"]).filter goodWord)
def wsL_moveKey_r1 : List Cond := [Cond.classLink RL 13 "java/lang/IndexOutOfBoundsException", Cond.classLink RL 15 "java/lang/IllegalArgumentException", Cond.classLink RL 17 "java/lang/IllegalStateException", Cond.methodLink RL 26 yX3_moveKey, Cond.instanceMethod yX3_moveKey, Cond.selects RX3 yX3_moveKey yX3_moveKey, Cond.initialized RX3, Cond.code yX3_moveKey cX3_moveKey 6 (some .int), Cond.classLink RX3 56 "java/lang/IllegalStateException", Cond.initialized "java/lang/IllegalStateException", Cond.methodLink RX3 45 yX3_curveNumbered, Cond.instanceMethod yX3_curveNumbered, Cond.selects RX3 yX3_curveNumbered yX3_curveNumbered, Cond.code yX3_curveNumbered cX3_curveNumbered 2 (some (.object "EaseCurves$Curve")), Cond.classLink RX3 176 "java/lang/IndexOutOfBoundsException", Cond.initialized "java/lang/IndexOutOfBoundsException", Cond.fieldLink RX3 12 "EaseCurves" "present" "LEaseCurves$State;", Cond.methodLink RX3 76 yX3_requireKey, Cond.static yX3_requireKey, Cond.code yX3_requireKey cX3_requireKey 2 none, Cond.methodLink RX3 49 yX3_requireRange, Cond.static yX3_requireRange, Cond.code yX3_requireRange cX3_requireRange 3 none, Cond.classLink RX3 214 "java/lang/IllegalArgumentException"]
def wsL_moveKey_r2 : List Cond := [Cond.initialized "java/lang/IllegalArgumentException", Cond.methodLink RX3 80 yX3_requireUnlocked, Cond.static yX3_requireUnlocked, Cond.code yX3_requireUnlocked cX3_requireUnlocked 2 none, Cond.instanceMethod yX0_isLocked, Cond.initialized RX0, Cond.selects RX0 yX0_isLocked yX0_isLocked, Cond.code yX0_isLocked cX0_isLocked 2 (some .boolean), Cond.methodLink RX0 19 yX0_cell, Cond.instanceMethod yX0_cell, Cond.selects RX0 yX0_cell yX0_cell, Cond.code yX0_cell cX0_cell 3 (some .int), Cond.fieldLink RX0 9 "EaseCurves$Curve" "count" "I", Cond.fieldLink RX0 15 "EaseCurves$Curve" "cells" "[I", Cond.instanceMethod yX0_numberAtFrame, Cond.selects RX0 yX0_numberAtFrame yX0_numberAtFrame, Cond.code yX0_numberAtFrame cX0_numberAtFrame 3 (some .int), Cond.methodLink RX0 27 yX0_countUpTo, Cond.instanceMethod yX0_countUpTo, Cond.selects RX0 yX0_countUpTo yX0_countUpTo, Cond.code yX0_countUpTo cX0_countUpTo 3 (some .int), Cond.methodLink RX3 69 yX3_saveState, Cond.instanceMethod yX3_saveState, Cond.selects RX3 yX3_saveState yX3_saveState]
def wsL_moveKey_r3 : List Cond := [Cond.code yX3_saveState cX3_saveState 1 none, Cond.fieldLink RX3 20 "EaseCurves" "savedCount" "I", Cond.fieldLink RX3 16 "EaseCurves" "saved" "[LEaseCurves$State;", Cond.methodLink RX3 230 yX3_dropOldestState, Cond.instanceMethod yX3_dropOldestState, Cond.selects RX3 yX3_dropOldestState yX3_dropOldestState, Cond.code yX3_dropOldestState cX3_dropOldestState 3 none, Cond.instanceMethod yX2_become, Cond.initialized RX2, Cond.selects RX2 yX2_become yX2_become, Cond.code yX2_become cX2_become 3 none, Cond.fieldLink RX2 11 "EaseCurves$State" "curves" "[LEaseCurves$Curve;", Cond.instanceMethod yX0_become, Cond.selects RX0 yX0_become yX0_become, Cond.code yX0_become cX0_become 2 none, Cond.methodLink RX0 31 arraycopyName, Cond.native arraycopyName, Cond.static arraycopyName, Cond.initialized "java/lang/System", Cond.instanceMethod yX0_moveTo, Cond.selects RX0 yX0_moveTo yX0_moveTo, Cond.code yX0_moveTo cX0_moveTo 8 (some .int), Cond.methodLink RX0 41 yX0_takeOut, Cond.instanceMethod yX0_takeOut]
def wsL_moveKey_r4 : List Cond := [Cond.selects RX0 yX0_takeOut yX0_takeOut, Cond.code yX0_takeOut cX0_takeOut 3 none, Cond.methodLink RX0 45 yX0_insert, Cond.instanceMethod yX0_insert, Cond.selects RX0 yX0_insert yX0_insert, Cond.code yX0_insert cX0_insert 9 (some .int), Cond.methodLink RX0 37 yX0_put, Cond.instanceMethod yX0_put, Cond.selects RX0 yX0_put yX0_put, Cond.code yX0_put cX0_put 4 none]
def wsL_moveKey : List Cond := .codeWith yL_moveKey cL_moveKey 6 (some .int) [(0, 12, 15, 13), (0, 12, 19, 15), (0, 12, 23, 17)] :: ((wsL_moveKey_r1 ++ (wsL_moveKey_r2 ++ (wsL_moveKey_r3 ++ wsL_moveKey_r4))) ++ wsX30 ++ wsX20 ++ wsX00 ++ (vx_atS RX3 60 "java/lang/IllegalStateException" ["java/lang/RuntimeException", "java/lang/Exception"]).filter goodWord ++ (vx_atS RX3 180 "java/lang/IndexOutOfBoundsException" ["java/lang/RuntimeException", "java/lang/Exception"]).filter goodWord ++ (vx_atS RX3 218 "java/lang/IllegalArgumentException" ["java/lang/RuntimeException", "java/lang/Exception"]).filter goodWord)
def wsL_setTangent_r1 : List Cond := [Cond.classLink RL 13 "java/lang/IndexOutOfBoundsException", Cond.classLink RL 15 "java/lang/IllegalArgumentException", Cond.classLink RL 17 "java/lang/IllegalStateException", Cond.methodLink RL 30 yX3_setTangent, Cond.instanceMethod yX3_setTangent, Cond.selects RX3 yX3_setTangent yX3_setTangent, Cond.initialized RX3, Cond.code yX3_setTangent cX3_setTangent 7 (some .int), Cond.constant RX3 99 (-99999), Cond.constant RX3 100 (99999), Cond.methodLink RX3 45 yX3_curveNumbered, Cond.instanceMethod yX3_curveNumbered, Cond.selects RX3 yX3_curveNumbered yX3_curveNumbered, Cond.code yX3_curveNumbered cX3_curveNumbered 2 (some (.object "EaseCurves$Curve")), Cond.classLink RX3 176 "java/lang/IndexOutOfBoundsException", Cond.initialized "java/lang/IndexOutOfBoundsException", Cond.fieldLink RX3 12 "EaseCurves" "present" "LEaseCurves$State;", Cond.methodLink RX3 76 yX3_requireKey, Cond.static yX3_requireKey, Cond.code yX3_requireKey cX3_requireKey 2 none, Cond.methodLink RX3 49 yX3_requireRange, Cond.static yX3_requireRange, Cond.code yX3_requireRange cX3_requireRange 3 none, Cond.classLink RX3 214 "java/lang/IllegalArgumentException"]
def wsL_setTangent_r2 : List Cond := [Cond.initialized "java/lang/IllegalArgumentException", Cond.methodLink RX3 80 yX3_requireUnlocked, Cond.static yX3_requireUnlocked, Cond.code yX3_requireUnlocked cX3_requireUnlocked 2 none, Cond.classLink RX3 56 "java/lang/IllegalStateException", Cond.initialized "java/lang/IllegalStateException", Cond.instanceMethod yX0_isLocked, Cond.initialized RX0, Cond.selects RX0 yX0_isLocked yX0_isLocked, Cond.code yX0_isLocked cX0_isLocked 2 (some .boolean), Cond.methodLink RX0 19 yX0_cell, Cond.instanceMethod yX0_cell, Cond.selects RX0 yX0_cell yX0_cell, Cond.code yX0_cell cX0_cell 3 (some .int), Cond.fieldLink RX0 9 "EaseCurves$Curve" "count" "I", Cond.fieldLink RX0 15 "EaseCurves$Curve" "cells" "[I", Cond.methodLink RX3 69 yX3_saveState, Cond.instanceMethod yX3_saveState, Cond.selects RX3 yX3_saveState yX3_saveState, Cond.code yX3_saveState cX3_saveState 1 none, Cond.fieldLink RX3 20 "EaseCurves" "savedCount" "I", Cond.fieldLink RX3 16 "EaseCurves" "saved" "[LEaseCurves$State;", Cond.methodLink RX3 230 yX3_dropOldestState, Cond.instanceMethod yX3_dropOldestState]
def wsL_setTangent_r3 : List Cond := [Cond.selects RX3 yX3_dropOldestState yX3_dropOldestState, Cond.code yX3_dropOldestState cX3_dropOldestState 3 none, Cond.instanceMethod yX2_become, Cond.initialized RX2, Cond.selects RX2 yX2_become yX2_become, Cond.code yX2_become cX2_become 3 none, Cond.fieldLink RX2 11 "EaseCurves$State" "curves" "[LEaseCurves$Curve;", Cond.instanceMethod yX0_become, Cond.selects RX0 yX0_become yX0_become, Cond.code yX0_become cX0_become 2 none, Cond.methodLink RX0 31 arraycopyName, Cond.native arraycopyName, Cond.static arraycopyName, Cond.initialized "java/lang/System", Cond.instanceMethod yX0_tangentOf, Cond.selects RX0 yX0_tangentOf yX0_tangentOf, Cond.code yX0_tangentOf cX0_tangentOf 6 (some .int), Cond.methodLink RX0 58 yX0_isTurn, Cond.static yX0_isTurn, Cond.code yX0_isTurn cX0_isTurn 3 (some .boolean), Cond.instanceMethod yX0_put, Cond.selects RX0 yX0_put yX0_put, Cond.code yX0_put cX0_put 4 none]
def wsL_setTangent : List Cond := .codeWith yL_setTangent cL_setTangent 7 (some .int) [(0, 14, 17, 13), (0, 14, 21, 15), (0, 14, 25, 17)] :: ((wsL_setTangent_r1 ++ (wsL_setTangent_r2 ++ wsL_setTangent_r3)) ++ wsX30 ++ wsX20 ++ wsX00 ++ (vx_atS RX3 180 "java/lang/IndexOutOfBoundsException" ["java/lang/RuntimeException", "java/lang/Exception"]).filter goodWord ++ (vx_atS RX3 218 "java/lang/IllegalArgumentException" ["java/lang/RuntimeException", "java/lang/Exception"]).filter goodWord ++ (vx_atS RX3 60 "java/lang/IllegalStateException" ["java/lang/RuntimeException", "java/lang/Exception"]).filter goodWord)
def wsL_lock_r1 : List Cond := [Cond.classLink RL 13 "java/lang/IndexOutOfBoundsException", Cond.methodLink RL 33 yX3_lock, Cond.instanceMethod yX3_lock, Cond.selects RX3 yX3_lock yX3_lock, Cond.initialized RX3, Cond.code yX3_lock cX3_lock 6 (some .int), Cond.methodLink RX3 45 yX3_curveNumbered, Cond.instanceMethod yX3_curveNumbered, Cond.selects RX3 yX3_curveNumbered yX3_curveNumbered, Cond.code yX3_curveNumbered cX3_curveNumbered 2 (some (.object "EaseCurves$Curve")), Cond.classLink RX3 176 "java/lang/IndexOutOfBoundsException", Cond.initialized "java/lang/IndexOutOfBoundsException", Cond.fieldLink RX3 12 "EaseCurves" "present" "LEaseCurves$State;", Cond.methodLink RX3 76 yX3_requireKey, Cond.static yX3_requireKey, Cond.code yX3_requireKey cX3_requireKey 2 none, Cond.methodLink RX3 69 yX3_saveState, Cond.instanceMethod yX3_saveState, Cond.selects RX3 yX3_saveState yX3_saveState, Cond.code yX3_saveState cX3_saveState 1 none, Cond.fieldLink RX3 20 "EaseCurves" "savedCount" "I", Cond.fieldLink RX3 16 "EaseCurves" "saved" "[LEaseCurves$State;", Cond.methodLink RX3 230 yX3_dropOldestState, Cond.instanceMethod yX3_dropOldestState]
def wsL_lock_r2 : List Cond := [Cond.selects RX3 yX3_dropOldestState yX3_dropOldestState, Cond.code yX3_dropOldestState cX3_dropOldestState 3 none, Cond.instanceMethod yX2_become, Cond.initialized RX2, Cond.selects RX2 yX2_become yX2_become, Cond.code yX2_become cX2_become 3 none, Cond.fieldLink RX2 11 "EaseCurves$State" "curves" "[LEaseCurves$Curve;", Cond.instanceMethod yX0_become, Cond.initialized RX0, Cond.selects RX0 yX0_become yX0_become, Cond.code yX0_become cX0_become 2 none, Cond.fieldLink RX0 9 "EaseCurves$Curve" "count" "I", Cond.fieldLink RX0 15 "EaseCurves$Curve" "cells" "[I", Cond.methodLink RX0 31 arraycopyName, Cond.native arraycopyName, Cond.static arraycopyName, Cond.initialized "java/lang/System", Cond.instanceMethod yX0_cell, Cond.selects RX0 yX0_cell yX0_cell, Cond.code yX0_cell cX0_cell 3 (some .int), Cond.instanceMethod yX0_put, Cond.selects RX0 yX0_put yX0_put, Cond.code yX0_put cX0_put 4 none]
def wsL_lock : List Cond := .codeWith yL_lock cL_lock 6 (some .int) [(0, 12, 15, 13)] :: ((wsL_lock_r1 ++ wsL_lock_r2) ++ wsX30 ++ wsX20 ++ wsX00 ++ (vx_atS RX3 180 "java/lang/IndexOutOfBoundsException" ["java/lang/RuntimeException", "java/lang/Exception"]).filter goodWord)
def wsL_stretch_r1 : List Cond := [Cond.classLink RL 13 "java/lang/IndexOutOfBoundsException", Cond.classLink RL 15 "java/lang/IllegalArgumentException", Cond.classLink RL 17 "java/lang/IllegalStateException", Cond.methodLink RL 37 yX3_stretch, Cond.instanceMethod yX3_stretch, Cond.selects RX3 yX3_stretch yX3_stretch, Cond.initialized RX3, Cond.code yX3_stretch cX3_stretch 6 (some .int), Cond.classLink RX3 56 "java/lang/IllegalStateException", Cond.initialized "java/lang/IllegalStateException", Cond.methodLink RX3 45 yX3_curveNumbered, Cond.instanceMethod yX3_curveNumbered, Cond.selects RX3 yX3_curveNumbered yX3_curveNumbered, Cond.code yX3_curveNumbered cX3_curveNumbered 2 (some (.object "EaseCurves$Curve")), Cond.classLink RX3 176 "java/lang/IndexOutOfBoundsException", Cond.initialized "java/lang/IndexOutOfBoundsException", Cond.fieldLink RX3 12 "EaseCurves" "present" "LEaseCurves$State;", Cond.methodLink RX3 104 yX3_requireSpan, Cond.static yX3_requireSpan, Cond.code yX3_requireSpan cX3_requireSpan 2 none, Cond.methodLink RX3 49 yX3_requireRange, Cond.static yX3_requireRange, Cond.code yX3_requireRange cX3_requireRange 3 none, Cond.classLink RX3 214 "java/lang/IllegalArgumentException"]
def wsL_stretch_r2 : List Cond := [Cond.initialized "java/lang/IllegalArgumentException", Cond.instanceMethod yX0_canStretch, Cond.initialized RX0, Cond.selects RX0 yX0_canStretch yX0_canStretch, Cond.code yX0_canStretch cX0_canStretch 8 (some .boolean), Cond.fieldLink RX0 9 "EaseCurves$Curve" "count" "I", Cond.methodLink RX0 19 yX0_cell, Cond.instanceMethod yX0_cell, Cond.selects RX0 yX0_cell yX0_cell, Cond.code yX0_cell cX0_cell 3 (some .int), Cond.fieldLink RX0 15 "EaseCurves$Curve" "cells" "[I", Cond.methodLink RX0 54 yX0_stretchedFrame, Cond.static yX0_stretchedFrame, Cond.code yX0_stretchedFrame cX0_stretchedFrame 4 (some .int), Cond.methodLink RX0 23 yX0_isLocked, Cond.instanceMethod yX0_isLocked, Cond.selects RX0 yX0_isLocked yX0_isLocked, Cond.code yX0_isLocked cX0_isLocked 2 (some .boolean), Cond.methodLink RX3 69 yX3_saveState, Cond.instanceMethod yX3_saveState, Cond.selects RX3 yX3_saveState yX3_saveState, Cond.code yX3_saveState cX3_saveState 1 none, Cond.fieldLink RX3 20 "EaseCurves" "savedCount" "I", Cond.fieldLink RX3 16 "EaseCurves" "saved" "[LEaseCurves$State;"]
def wsL_stretch_r3 : List Cond := [Cond.methodLink RX3 230 yX3_dropOldestState, Cond.instanceMethod yX3_dropOldestState, Cond.selects RX3 yX3_dropOldestState yX3_dropOldestState, Cond.code yX3_dropOldestState cX3_dropOldestState 3 none, Cond.instanceMethod yX2_become, Cond.initialized RX2, Cond.selects RX2 yX2_become yX2_become, Cond.code yX2_become cX2_become 3 none, Cond.fieldLink RX2 11 "EaseCurves$State" "curves" "[LEaseCurves$Curve;", Cond.instanceMethod yX0_become, Cond.selects RX0 yX0_become yX0_become, Cond.code yX0_become cX0_become 2 none, Cond.methodLink RX0 31 arraycopyName, Cond.native arraycopyName, Cond.static arraycopyName, Cond.initialized "java/lang/System", Cond.instanceMethod yX0_stretchSpan, Cond.selects RX0 yX0_stretchSpan yX0_stretchSpan, Cond.code yX0_stretchSpan cX0_stretchSpan 8 (some .int), Cond.methodLink RX0 37 yX0_put, Cond.instanceMethod yX0_put, Cond.selects RX0 yX0_put yX0_put, Cond.code yX0_put cX0_put 4 none]
def wsL_stretch : List Cond := .codeWith yL_stretch cL_stretch 7 (some .int) [(0, 14, 17, 13), (0, 14, 21, 15), (0, 14, 25, 17)] :: ((wsL_stretch_r1 ++ (wsL_stretch_r2 ++ wsL_stretch_r3)) ++ wsX30 ++ wsX20 ++ wsX00 ++ (vx_atS RX3 60 "java/lang/IllegalStateException" ["java/lang/RuntimeException", "java/lang/Exception"]).filter goodWord ++ (vx_atS RX3 180 "java/lang/IndexOutOfBoundsException" ["java/lang/RuntimeException", "java/lang/Exception"]).filter goodWord ++ (vx_atS RX3 218 "java/lang/IllegalArgumentException" ["java/lang/RuntimeException", "java/lang/Exception"]).filter goodWord)
def wsL_copy_r1 : List Cond := [Cond.classLink RL 13 "java/lang/IndexOutOfBoundsException", Cond.classLink RL 15 "java/lang/IllegalArgumentException", Cond.classLink RL 17 "java/lang/IllegalStateException", Cond.methodLink RL 40 yX3_copy, Cond.instanceMethod yX3_copy, Cond.selects RX3 yX3_copy yX3_copy, Cond.initialized RX3, Cond.code yX3_copy cX3_copy 6 (some .int), Cond.classLink RX3 56 "java/lang/IllegalStateException", Cond.initialized "java/lang/IllegalStateException", Cond.methodLink RX3 45 yX3_curveNumbered, Cond.instanceMethod yX3_curveNumbered, Cond.selects RX3 yX3_curveNumbered yX3_curveNumbered, Cond.code yX3_curveNumbered cX3_curveNumbered 2 (some (.object "EaseCurves$Curve")), Cond.classLink RX3 176 "java/lang/IndexOutOfBoundsException", Cond.initialized "java/lang/IndexOutOfBoundsException", Cond.fieldLink RX3 12 "EaseCurves" "present" "LEaseCurves$State;", Cond.methodLink RX3 49 yX3_requireRange, Cond.static yX3_requireRange, Cond.code yX3_requireRange cX3_requireRange 3 none, Cond.classLink RX3 214 "java/lang/IllegalArgumentException", Cond.initialized "java/lang/IllegalArgumentException", Cond.methodLink RX3 118 yX3_requireNoLock, Cond.static yX3_requireNoLock]
def wsL_copy_r2 : List Cond := [Cond.code yX3_requireNoLock cX3_requireNoLock 1 none, Cond.instanceMethod yX0_hasLock, Cond.initialized RX0, Cond.selects RX0 yX0_hasLock yX0_hasLock, Cond.code yX0_hasLock cX0_hasLock 2 (some .boolean), Cond.fieldLink RX0 9 "EaseCurves$Curve" "count" "I", Cond.methodLink RX0 23 yX0_isLocked, Cond.instanceMethod yX0_isLocked, Cond.selects RX0 yX0_isLocked yX0_isLocked, Cond.code yX0_isLocked cX0_isLocked 2 (some .boolean), Cond.methodLink RX0 19 yX0_cell, Cond.instanceMethod yX0_cell, Cond.selects RX0 yX0_cell yX0_cell, Cond.code yX0_cell cX0_cell 3 (some .int), Cond.fieldLink RX0 15 "EaseCurves$Curve" "cells" "[I", Cond.instanceMethod yX0_canRaise, Cond.selects RX0 yX0_canRaise yX0_canRaise, Cond.code yX0_canRaise cX0_canRaise 3 (some .boolean), Cond.methodLink RX0 49 Lib.Math.abs.name, Cond.static Lib.Math.abs.name, Cond.initialized "java/lang/Math", Cond.code Lib.Math.abs.name Lib.Math.abs.code 1 (some .int), Cond.methodLink RX3 69 yX3_saveState, Cond.instanceMethod yX3_saveState]
def wsL_copy_r3 : List Cond := [Cond.selects RX3 yX3_saveState yX3_saveState, Cond.code yX3_saveState cX3_saveState 1 none, Cond.fieldLink RX3 20 "EaseCurves" "savedCount" "I", Cond.fieldLink RX3 16 "EaseCurves" "saved" "[LEaseCurves$State;", Cond.methodLink RX3 230 yX3_dropOldestState, Cond.instanceMethod yX3_dropOldestState, Cond.selects RX3 yX3_dropOldestState yX3_dropOldestState, Cond.code yX3_dropOldestState cX3_dropOldestState 3 none, Cond.instanceMethod yX2_become, Cond.initialized RX2, Cond.selects RX2 yX2_become yX2_become, Cond.code yX2_become cX2_become 3 none, Cond.fieldLink RX2 11 "EaseCurves$State" "curves" "[LEaseCurves$Curve;", Cond.instanceMethod yX0_become, Cond.selects RX0 yX0_become yX0_become, Cond.code yX0_become cX0_become 2 none, Cond.methodLink RX0 31 arraycopyName, Cond.native arraycopyName, Cond.static arraycopyName, Cond.initialized "java/lang/System", Cond.instanceMethod yX0_raise, Cond.selects RX0 yX0_raise yX0_raise, Cond.code yX0_raise cX0_raise 3 none, Cond.methodLink RX0 37 yX0_put]
def wsL_copy_r4 : List Cond := [Cond.instanceMethod yX0_put, Cond.selects RX0 yX0_put yX0_put, Cond.code yX0_put cX0_put 4 none]
def wsL_copy : List Cond := .codeWith yL_copy cL_copy 6 (some .int) [(0, 12, 15, 13), (0, 12, 19, 15), (0, 12, 23, 17)] :: ((wsL_copy_r1 ++ (wsL_copy_r2 ++ (wsL_copy_r3 ++ wsL_copy_r4))) ++ wsX00 ++ wsX30 ++ wsX20 ++ (vx_atS RX3 60 "java/lang/IllegalStateException" ["java/lang/RuntimeException", "java/lang/Exception"]).filter goodWord ++ (vx_atS RX3 180 "java/lang/IndexOutOfBoundsException" ["java/lang/RuntimeException", "java/lang/Exception"]).filter goodWord ++ (vx_atS RX3 218 "java/lang/IllegalArgumentException" ["java/lang/RuntimeException", "java/lang/Exception"]).filter goodWord)
def wsL_reduce_r1 : List Cond := [Cond.classLink RL 13 "java/lang/IndexOutOfBoundsException", Cond.classLink RL 15 "java/lang/IllegalArgumentException", Cond.methodLink RL 43 yX3_reduce, Cond.instanceMethod yX3_reduce, Cond.selects RX3 yX3_reduce yX3_reduce, Cond.initialized RX3, Cond.code yX3_reduce cX3_reduce 7 (some .int), Cond.methodLink RX3 45 yX3_curveNumbered, Cond.instanceMethod yX3_curveNumbered, Cond.selects RX3 yX3_curveNumbered yX3_curveNumbered, Cond.code yX3_curveNumbered cX3_curveNumbered 2 (some (.object "EaseCurves$Curve")), Cond.classLink RX3 176 "java/lang/IndexOutOfBoundsException", Cond.initialized "java/lang/IndexOutOfBoundsException", Cond.fieldLink RX3 12 "EaseCurves" "present" "LEaseCurves$State;", Cond.methodLink RX3 49 yX3_requireRange, Cond.static yX3_requireRange, Cond.code yX3_requireRange cX3_requireRange 3 none, Cond.classLink RX3 214 "java/lang/IllegalArgumentException", Cond.initialized "java/lang/IllegalArgumentException", Cond.methodLink RX3 69 yX3_saveState, Cond.instanceMethod yX3_saveState, Cond.selects RX3 yX3_saveState yX3_saveState, Cond.code yX3_saveState cX3_saveState 1 none, Cond.fieldLink RX3 20 "EaseCurves" "savedCount" "I"]
def wsL_reduce_r2 : List Cond := [Cond.fieldLink RX3 16 "EaseCurves" "saved" "[LEaseCurves$State;", Cond.methodLink RX3 230 yX3_dropOldestState, Cond.instanceMethod yX3_dropOldestState, Cond.selects RX3 yX3_dropOldestState yX3_dropOldestState, Cond.code yX3_dropOldestState cX3_dropOldestState 3 none, Cond.instanceMethod yX2_become, Cond.initialized RX2, Cond.selects RX2 yX2_become yX2_become, Cond.code yX2_become cX2_become 3 none, Cond.fieldLink RX2 11 "EaseCurves$State" "curves" "[LEaseCurves$Curve;", Cond.instanceMethod yX0_become, Cond.initialized RX0, Cond.selects RX0 yX0_become yX0_become, Cond.code yX0_become cX0_become 2 none, Cond.fieldLink RX0 9 "EaseCurves$Curve" "count" "I", Cond.fieldLink RX0 15 "EaseCurves$Curve" "cells" "[I", Cond.methodLink RX0 31 arraycopyName, Cond.native arraycopyName, Cond.static arraycopyName, Cond.initialized "java/lang/System", Cond.methodLink RX3 134 yX3_keyToLeaveOut, Cond.instanceMethod yX3_keyToLeaveOut, Cond.selects RX3 yX3_keyToLeaveOut yX3_keyToLeaveOut, Cond.code yX3_keyToLeaveOut cX3_keyToLeaveOut 7 (some .int)]
def wsL_reduce_r3 : List Cond := [Cond.fieldLink RX3 38 "EaseCurves" "values" "[I", Cond.instanceMethod yX0_bake, Cond.selects RX0 yX0_bake yX0_bake, Cond.code yX0_bake cX0_bake 6 none, Cond.methodLink RX0 27 yX0_countUpTo, Cond.instanceMethod yX0_countUpTo, Cond.selects RX0 yX0_countUpTo yX0_countUpTo, Cond.code yX0_countUpTo cX0_countUpTo 3 (some .int), Cond.methodLink RX0 19 yX0_cell, Cond.instanceMethod yX0_cell, Cond.selects RX0 yX0_cell yX0_cell, Cond.code yX0_cell cX0_cell 3 (some .int), Cond.methodLink RX0 62 yX0_valueBehind, Cond.instanceMethod yX0_valueBehind, Cond.selects RX0 yX0_valueBehind yX0_valueBehind, Cond.code yX0_valueBehind cX0_valueBehind 14 (some .int), Cond.methodLink RX0 65 Lib.Math.max.name, Cond.static Lib.Math.max.name, Cond.initialized "java/lang/Math", Cond.code Lib.Math.max.name Lib.Math.max.code 2 (some .int), Cond.constantLong RX0 68 (1000), Cond.constantLong RX0 70 (1000000), Cond.constantLong RX0 72 (3000), Cond.constantLong RX0 74 (2)]
def wsL_reduce_r4 : List Cond := [Cond.constantLong RX0 76 (1000000000), Cond.methodLink RX0 78 yX0_tangentOf, Cond.instanceMethod yX0_tangentOf, Cond.selects RX0 yX0_tangentOf yX0_tangentOf, Cond.code yX0_tangentOf cX0_tangentOf 6 (some .int), Cond.methodLink RX0 58 yX0_isTurn, Cond.static yX0_isTurn, Cond.code yX0_isTurn cX0_isTurn 3 (some .boolean), Cond.methodLink RX0 81 yX0_riseByTangents, Cond.static yX0_riseByTangents, Cond.code yX0_riseByTangents cX0_riseByTangents 12 (some .long), Cond.constantLong RX0 85 (2000), Cond.instanceMethod yX0_mayLeaveOut, Cond.selects RX0 yX0_mayLeaveOut yX0_mayLeaveOut, Cond.code yX0_mayLeaveOut cX0_mayLeaveOut 2 (some .boolean), Cond.methodLink RX0 23 yX0_isLocked, Cond.instanceMethod yX0_isLocked, Cond.selects RX0 yX0_isLocked yX0_isLocked, Cond.code yX0_isLocked cX0_isLocked 2 (some .boolean), Cond.methodLink RX3 173 yX3_differenceWithout, Cond.instanceMethod yX3_differenceWithout, Cond.selects RX3 yX3_differenceWithout yX3_differenceWithout, Cond.code yX3_differenceWithout cX3_differenceWithout 5 (some .int), Cond.methodLink RX3 238 Lib.Math.max.name]
def wsL_reduce_r5 : List Cond := [Cond.methodLink RX3 241 Lib.Math.min.name, Cond.static Lib.Math.min.name, Cond.code Lib.Math.min.name Lib.Math.min.code 2 (some .int), Cond.fieldLink RX3 34 "EaseCurves" "trial" "LEaseCurves$Curve;", Cond.fieldLink RX3 42 "EaseCurves" "otherValues" "[I", Cond.instanceMethod yX0_takeOut, Cond.selects RX0 yX0_takeOut yX0_takeOut, Cond.code yX0_takeOut cX0_takeOut 3 none, Cond.methodLink RX3 165 yX3_greatestDifference, Cond.instanceMethod yX3_greatestDifference, Cond.selects RX3 yX3_greatestDifference yX3_greatestDifference, Cond.code yX3_greatestDifference cX3_greatestDifference 5 (some .int), Cond.methodLink RX3 233 Lib.Math.abs.name, Cond.static Lib.Math.abs.name, Cond.code Lib.Math.abs.name Lib.Math.abs.code 1 (some .int)]
def wsL_reduce : List Cond := .codeWith yL_reduce cL_reduce 5 (some .int) [(0, 10, 13, 13), (0, 10, 17, 15)] :: ((wsL_reduce_r1 ++ (wsL_reduce_r2 ++ (wsL_reduce_r3 ++ (wsL_reduce_r4 ++ wsL_reduce_r5)))) ++ wsX30 ++ wsX20 ++ wsX00 ++ (vx_atS RX3 180 "java/lang/IndexOutOfBoundsException" ["java/lang/RuntimeException", "java/lang/Exception"]).filter goodWord ++ (vx_atS RX3 218 "java/lang/IllegalArgumentException" ["java/lang/RuntimeException", "java/lang/Exception"]).filter goodWord)
def wsL_key_r1 : List Cond := [Cond.classLink RL 13 "java/lang/IndexOutOfBoundsException", Cond.classLink RL 15 "java/lang/IllegalArgumentException", Cond.methodLink RL 46 yX3_key, Cond.instanceMethod yX3_key, Cond.selects RX3 yX3_key yX3_key, Cond.initialized RX3, Cond.code yX3_key cX3_key 5 (some .int), Cond.methodLink RX3 45 yX3_curveNumbered, Cond.instanceMethod yX3_curveNumbered, Cond.selects RX3 yX3_curveNumbered yX3_curveNumbered, Cond.code yX3_curveNumbered cX3_curveNumbered 2 (some (.object "EaseCurves$Curve")), Cond.classLink RX3 176 "java/lang/IndexOutOfBoundsException", Cond.initialized "java/lang/IndexOutOfBoundsException", Cond.fieldLink RX3 12 "EaseCurves" "present" "LEaseCurves$State;", Cond.methodLink RX3 76 yX3_requireKey, Cond.static yX3_requireKey, Cond.code yX3_requireKey cX3_requireKey 2 none, Cond.methodLink RX3 49 yX3_requireRange, Cond.static yX3_requireRange, Cond.code yX3_requireRange cX3_requireRange 3 none, Cond.classLink RX3 214 "java/lang/IllegalArgumentException", Cond.initialized "java/lang/IllegalArgumentException", Cond.methodLink RX3 138 yX3_aboutKey, Cond.static yX3_aboutKey]
def wsL_key_r2 : List Cond := [Cond.code yX3_aboutKey cX3_aboutKey 3 (some .int), Cond.instanceMethod yX0_tangentOf, Cond.initialized RX0, Cond.selects RX0 yX0_tangentOf yX0_tangentOf, Cond.code yX0_tangentOf cX0_tangentOf 6 (some .int), Cond.fieldLink RX0 9 "EaseCurves$Curve" "count" "I", Cond.methodLink RX0 19 yX0_cell, Cond.instanceMethod yX0_cell, Cond.selects RX0 yX0_cell yX0_cell, Cond.code yX0_cell cX0_cell 3 (some .int), Cond.fieldLink RX0 15 "EaseCurves$Curve" "cells" "[I", Cond.methodLink RX0 58 yX0_isTurn, Cond.static yX0_isTurn, Cond.code yX0_isTurn cX0_isTurn 3 (some .boolean)]
def wsL_key : List Cond := .codeWith yL_key cL_key 6 (some .int) [(0, 12, 15, 13), (0, 12, 19, 15)] :: ((wsL_key_r1 ++ wsL_key_r2) ++ wsX00 ++ wsX30 ++ wsX20 ++ (vx_atS RX3 180 "java/lang/IndexOutOfBoundsException" ["java/lang/RuntimeException", "java/lang/Exception"]).filter goodWord ++ (vx_atS RX3 218 "java/lang/IllegalArgumentException" ["java/lang/RuntimeException", "java/lang/Exception"]).filter goodWord)
def wsL_value_r1 : List Cond := [Cond.classLink RL 13 "java/lang/IndexOutOfBoundsException", Cond.classLink RL 15 "java/lang/IllegalArgumentException", Cond.methodLink RL 49 yX3_value, Cond.instanceMethod yX3_value, Cond.selects RX3 yX3_value yX3_value, Cond.initialized RX3, Cond.code yX3_value cX3_value 4 (some .int), Cond.methodLink RX3 45 yX3_curveNumbered, Cond.instanceMethod yX3_curveNumbered, Cond.selects RX3 yX3_curveNumbered yX3_curveNumbered, Cond.code yX3_curveNumbered cX3_curveNumbered 2 (some (.object "EaseCurves$Curve")), Cond.classLink RX3 176 "java/lang/IndexOutOfBoundsException", Cond.initialized "java/lang/IndexOutOfBoundsException", Cond.fieldLink RX3 12 "EaseCurves" "present" "LEaseCurves$State;", Cond.methodLink RX3 49 yX3_requireRange, Cond.static yX3_requireRange, Cond.code yX3_requireRange cX3_requireRange 3 none, Cond.classLink RX3 214 "java/lang/IllegalArgumentException", Cond.initialized "java/lang/IllegalArgumentException", Cond.instanceMethod yX0_valueAt, Cond.initialized RX0, Cond.selects RX0 yX0_valueAt yX0_valueAt, Cond.code yX0_valueAt cX0_valueAt 2 (some .int), Cond.methodLink RX0 27 yX0_countUpTo]
def wsL_value_r2 : List Cond := [Cond.instanceMethod yX0_countUpTo, Cond.selects RX0 yX0_countUpTo yX0_countUpTo, Cond.code yX0_countUpTo cX0_countUpTo 3 (some .int), Cond.fieldLink RX0 9 "EaseCurves$Curve" "count" "I", Cond.methodLink RX0 19 yX0_cell, Cond.instanceMethod yX0_cell, Cond.selects RX0 yX0_cell yX0_cell, Cond.code yX0_cell cX0_cell 3 (some .int), Cond.fieldLink RX0 15 "EaseCurves$Curve" "cells" "[I", Cond.methodLink RX0 62 yX0_valueBehind, Cond.instanceMethod yX0_valueBehind, Cond.selects RX0 yX0_valueBehind yX0_valueBehind, Cond.code yX0_valueBehind cX0_valueBehind 14 (some .int), Cond.methodLink RX0 65 Lib.Math.max.name, Cond.static Lib.Math.max.name, Cond.initialized "java/lang/Math", Cond.code Lib.Math.max.name Lib.Math.max.code 2 (some .int), Cond.constantLong RX0 68 (1000), Cond.constantLong RX0 70 (1000000), Cond.constantLong RX0 72 (3000), Cond.constantLong RX0 74 (2), Cond.constantLong RX0 76 (1000000000), Cond.methodLink RX0 78 yX0_tangentOf, Cond.instanceMethod yX0_tangentOf]
def wsL_value_r3 : List Cond := [Cond.selects RX0 yX0_tangentOf yX0_tangentOf, Cond.code yX0_tangentOf cX0_tangentOf 6 (some .int), Cond.methodLink RX0 58 yX0_isTurn, Cond.static yX0_isTurn, Cond.code yX0_isTurn cX0_isTurn 3 (some .boolean), Cond.methodLink RX0 81 yX0_riseByTangents, Cond.static yX0_riseByTangents, Cond.code yX0_riseByTangents cX0_riseByTangents 12 (some .long), Cond.constantLong RX0 85 (2000)]
def wsL_value : List Cond := .codeWith yL_value cL_value 5 (some .int) [(0, 10, 13, 13), (0, 10, 17, 15)] :: ((wsL_value_r1 ++ (wsL_value_r2 ++ wsL_value_r3)) ++ wsX30 ++ wsX20 ++ wsX00 ++ (vx_atS RX3 180 "java/lang/IndexOutOfBoundsException" ["java/lang/RuntimeException", "java/lang/Exception"]).filter goodWord ++ (vx_atS RX3 218 "java/lang/IllegalArgumentException" ["java/lang/RuntimeException", "java/lang/Exception"]).filter goodWord)
def wsL_sum_r1 : List Cond := [Cond.classLink RL 13 "java/lang/IndexOutOfBoundsException", Cond.classLink RL 15 "java/lang/IllegalArgumentException", Cond.methodLink RL 52 yX3_sum, Cond.instanceMethod yX3_sum, Cond.selects RX3 yX3_sum yX3_sum, Cond.initialized RX3, Cond.code yX3_sum cX3_sum 5 (some .long), Cond.methodLink RX3 45 yX3_curveNumbered, Cond.instanceMethod yX3_curveNumbered, Cond.selects RX3 yX3_curveNumbered yX3_curveNumbered, Cond.code yX3_curveNumbered cX3_curveNumbered 2 (some (.object "EaseCurves$Curve")), Cond.classLink RX3 176 "java/lang/IndexOutOfBoundsException", Cond.initialized "java/lang/IndexOutOfBoundsException", Cond.fieldLink RX3 12 "EaseCurves" "present" "LEaseCurves$State;", Cond.methodLink RX3 145 yX3_requireFrames, Cond.static yX3_requireFrames, Cond.code yX3_requireFrames cX3_requireFrames 2 none, Cond.methodLink RX3 49 yX3_requireRange, Cond.static yX3_requireRange, Cond.code yX3_requireRange cX3_requireRange 3 none, Cond.classLink RX3 214 "java/lang/IllegalArgumentException", Cond.initialized "java/lang/IllegalArgumentException", Cond.methodLink RX3 148 yX3_sumOver, Cond.instanceMethod yX3_sumOver]
def wsL_sum_r2 : List Cond := [Cond.selects RX3 yX3_sumOver yX3_sumOver, Cond.code yX3_sumOver cX3_sumOver 7 (some .long), Cond.fieldLink RX3 38 "EaseCurves" "values" "[I", Cond.instanceMethod yX0_bake, Cond.initialized RX0, Cond.selects RX0 yX0_bake yX0_bake, Cond.code yX0_bake cX0_bake 6 none, Cond.fieldLink RX0 9 "EaseCurves$Curve" "count" "I", Cond.methodLink RX0 27 yX0_countUpTo, Cond.instanceMethod yX0_countUpTo, Cond.selects RX0 yX0_countUpTo yX0_countUpTo, Cond.code yX0_countUpTo cX0_countUpTo 3 (some .int), Cond.methodLink RX0 19 yX0_cell, Cond.instanceMethod yX0_cell, Cond.selects RX0 yX0_cell yX0_cell, Cond.code yX0_cell cX0_cell 3 (some .int), Cond.fieldLink RX0 15 "EaseCurves$Curve" "cells" "[I", Cond.methodLink RX0 62 yX0_valueBehind, Cond.instanceMethod yX0_valueBehind, Cond.selects RX0 yX0_valueBehind yX0_valueBehind, Cond.code yX0_valueBehind cX0_valueBehind 14 (some .int), Cond.methodLink RX0 65 Lib.Math.max.name, Cond.static Lib.Math.max.name, Cond.initialized "java/lang/Math"]
def wsL_sum_r3 : List Cond := [Cond.code Lib.Math.max.name Lib.Math.max.code 2 (some .int), Cond.constantLong RX0 68 (1000), Cond.constantLong RX0 70 (1000000), Cond.constantLong RX0 72 (3000), Cond.constantLong RX0 74 (2), Cond.constantLong RX0 76 (1000000000), Cond.methodLink RX0 78 yX0_tangentOf, Cond.instanceMethod yX0_tangentOf, Cond.selects RX0 yX0_tangentOf yX0_tangentOf, Cond.code yX0_tangentOf cX0_tangentOf 6 (some .int), Cond.methodLink RX0 58 yX0_isTurn, Cond.static yX0_isTurn, Cond.code yX0_isTurn cX0_isTurn 3 (some .boolean), Cond.methodLink RX0 81 yX0_riseByTangents, Cond.static yX0_riseByTangents, Cond.code yX0_riseByTangents cX0_riseByTangents 12 (some .long), Cond.constantLong RX0 85 (2000)]
def wsL_sum : List Cond := .codeWith yL_sum cL_sum 6 (some .int) [(0, 11, 14, 13), (0, 11, 18, 15)] :: ((wsL_sum_r1 ++ (wsL_sum_r2 ++ wsL_sum_r3)) ++ wsX30 ++ wsX20 ++ wsX00 ++ (vx_atS RX3 180 "java/lang/IndexOutOfBoundsException" ["java/lang/RuntimeException", "java/lang/Exception"]).filter goodWord ++ (vx_atS RX3 218 "java/lang/IllegalArgumentException" ["java/lang/RuntimeException", "java/lang/Exception"]).filter goodWord)
def wsL_extreme_r1 : List Cond := [Cond.classLink RL 13 "java/lang/IndexOutOfBoundsException", Cond.classLink RL 15 "java/lang/IllegalArgumentException", Cond.methodLink RL 56 yX3_extreme, Cond.instanceMethod yX3_extreme, Cond.selects RX3 yX3_extreme yX3_extreme, Cond.initialized RX3, Cond.code yX3_extreme cX3_extreme 6 (some .int), Cond.fieldLink RX3 38 "EaseCurves" "values" "[I", Cond.methodLink RX3 45 yX3_curveNumbered, Cond.instanceMethod yX3_curveNumbered, Cond.selects RX3 yX3_curveNumbered yX3_curveNumbered, Cond.code yX3_curveNumbered cX3_curveNumbered 2 (some (.object "EaseCurves$Curve")), Cond.classLink RX3 176 "java/lang/IndexOutOfBoundsException", Cond.initialized "java/lang/IndexOutOfBoundsException", Cond.fieldLink RX3 12 "EaseCurves" "present" "LEaseCurves$State;", Cond.methodLink RX3 145 yX3_requireFrames, Cond.static yX3_requireFrames, Cond.code yX3_requireFrames cX3_requireFrames 2 none, Cond.methodLink RX3 49 yX3_requireRange, Cond.static yX3_requireRange, Cond.code yX3_requireRange cX3_requireRange 3 none, Cond.classLink RX3 214 "java/lang/IllegalArgumentException", Cond.initialized "java/lang/IllegalArgumentException", Cond.instanceMethod yX0_bake]
def wsL_extreme_r2 : List Cond := [Cond.initialized RX0, Cond.selects RX0 yX0_bake yX0_bake, Cond.code yX0_bake cX0_bake 6 none, Cond.fieldLink RX0 9 "EaseCurves$Curve" "count" "I", Cond.methodLink RX0 27 yX0_countUpTo, Cond.instanceMethod yX0_countUpTo, Cond.selects RX0 yX0_countUpTo yX0_countUpTo, Cond.code yX0_countUpTo cX0_countUpTo 3 (some .int), Cond.methodLink RX0 19 yX0_cell, Cond.instanceMethod yX0_cell, Cond.selects RX0 yX0_cell yX0_cell, Cond.code yX0_cell cX0_cell 3 (some .int), Cond.fieldLink RX0 15 "EaseCurves$Curve" "cells" "[I", Cond.methodLink RX0 62 yX0_valueBehind, Cond.instanceMethod yX0_valueBehind, Cond.selects RX0 yX0_valueBehind yX0_valueBehind, Cond.code yX0_valueBehind cX0_valueBehind 14 (some .int), Cond.methodLink RX0 65 Lib.Math.max.name, Cond.static Lib.Math.max.name, Cond.initialized "java/lang/Math", Cond.code Lib.Math.max.name Lib.Math.max.code 2 (some .int), Cond.constantLong RX0 68 (1000), Cond.constantLong RX0 70 (1000000), Cond.constantLong RX0 72 (3000)]
def wsL_extreme_r3 : List Cond := [Cond.constantLong RX0 74 (2), Cond.constantLong RX0 76 (1000000000), Cond.methodLink RX0 78 yX0_tangentOf, Cond.instanceMethod yX0_tangentOf, Cond.selects RX0 yX0_tangentOf yX0_tangentOf, Cond.code yX0_tangentOf cX0_tangentOf 6 (some .int), Cond.methodLink RX0 58 yX0_isTurn, Cond.static yX0_isTurn, Cond.code yX0_isTurn cX0_isTurn 3 (some .boolean), Cond.methodLink RX0 81 yX0_riseByTangents, Cond.static yX0_riseByTangents, Cond.code yX0_riseByTangents cX0_riseByTangents 12 (some .long), Cond.constantLong RX0 85 (2000), Cond.methodLink RX3 156 yX3_frameOfGreatest, Cond.instanceMethod yX3_frameOfGreatest, Cond.selects RX3 yX3_frameOfGreatest yX3_frameOfGreatest, Cond.code yX3_frameOfGreatest cX3_frameOfGreatest 5 (some .int), Cond.methodLink RX3 159 yX3_frameOfSmallest, Cond.instanceMethod yX3_frameOfSmallest, Cond.selects RX3 yX3_frameOfSmallest yX3_frameOfSmallest, Cond.code yX3_frameOfSmallest cX3_frameOfSmallest 5 (some .int), Cond.methodLink RX3 162 yX3_greatestStep, Cond.instanceMethod yX3_greatestStep, Cond.selects RX3 yX3_greatestStep yX3_greatestStep]
def wsL_extreme_r4 : List Cond := [Cond.code yX3_greatestStep cX3_greatestStep 5 (some .int), Cond.methodLink RX3 233 Lib.Math.abs.name, Cond.static Lib.Math.abs.name, Cond.code Lib.Math.abs.name Lib.Math.abs.code 1 (some .int), Cond.methodLink RX3 238 Lib.Math.max.name]
def wsL_extreme : List Cond := .codeWith yL_extreme cL_extreme 7 (some .int) [(0, 14, 17, 13), (0, 14, 21, 15)] :: ((wsL_extreme_r1 ++ (wsL_extreme_r2 ++ (wsL_extreme_r3 ++ wsL_extreme_r4))) ++ wsX30 ++ wsX20 ++ wsX00 ++ (vx_atS RX3 180 "java/lang/IndexOutOfBoundsException" ["java/lang/RuntimeException", "java/lang/Exception"]).filter goodWord ++ (vx_atS RX3 218 "java/lang/IllegalArgumentException" ["java/lang/RuntimeException", "java/lang/Exception"]).filter goodWord)
def wsL_crossings_r1 : List Cond := [Cond.classLink RL 13 "java/lang/IndexOutOfBoundsException", Cond.classLink RL 15 "java/lang/IllegalArgumentException", Cond.methodLink RL 59 yX3_crossings, Cond.instanceMethod yX3_crossings, Cond.selects RX3 yX3_crossings yX3_crossings, Cond.initialized RX3, Cond.code yX3_crossings cX3_crossings 6 (some .int), Cond.constant RX3 99 (-99999), Cond.constant RX3 100 (99999), Cond.fieldLink RX3 38 "EaseCurves" "values" "[I", Cond.methodLink RX3 45 yX3_curveNumbered, Cond.instanceMethod yX3_curveNumbered, Cond.selects RX3 yX3_curveNumbered yX3_curveNumbered, Cond.code yX3_curveNumbered cX3_curveNumbered 2 (some (.object "EaseCurves$Curve")), Cond.classLink RX3 176 "java/lang/IndexOutOfBoundsException", Cond.initialized "java/lang/IndexOutOfBoundsException", Cond.fieldLink RX3 12 "EaseCurves" "present" "LEaseCurves$State;", Cond.methodLink RX3 49 yX3_requireRange, Cond.static yX3_requireRange, Cond.code yX3_requireRange cX3_requireRange 3 none, Cond.classLink RX3 214 "java/lang/IllegalArgumentException", Cond.initialized "java/lang/IllegalArgumentException", Cond.instanceMethod yX0_bake, Cond.initialized RX0]
def wsL_crossings_r2 : List Cond := [Cond.selects RX0 yX0_bake yX0_bake, Cond.code yX0_bake cX0_bake 6 none, Cond.fieldLink RX0 9 "EaseCurves$Curve" "count" "I", Cond.methodLink RX0 27 yX0_countUpTo, Cond.instanceMethod yX0_countUpTo, Cond.selects RX0 yX0_countUpTo yX0_countUpTo, Cond.code yX0_countUpTo cX0_countUpTo 3 (some .int), Cond.methodLink RX0 19 yX0_cell, Cond.instanceMethod yX0_cell, Cond.selects RX0 yX0_cell yX0_cell, Cond.code yX0_cell cX0_cell 3 (some .int), Cond.fieldLink RX0 15 "EaseCurves$Curve" "cells" "[I", Cond.methodLink RX0 62 yX0_valueBehind, Cond.instanceMethod yX0_valueBehind, Cond.selects RX0 yX0_valueBehind yX0_valueBehind, Cond.code yX0_valueBehind cX0_valueBehind 14 (some .int), Cond.methodLink RX0 65 Lib.Math.max.name, Cond.static Lib.Math.max.name, Cond.initialized "java/lang/Math", Cond.code Lib.Math.max.name Lib.Math.max.code 2 (some .int), Cond.constantLong RX0 68 (1000), Cond.constantLong RX0 70 (1000000), Cond.constantLong RX0 72 (3000), Cond.constantLong RX0 74 (2)]
def wsL_crossings_r3 : List Cond := [Cond.constantLong RX0 76 (1000000000), Cond.methodLink RX0 78 yX0_tangentOf, Cond.instanceMethod yX0_tangentOf, Cond.selects RX0 yX0_tangentOf yX0_tangentOf, Cond.code yX0_tangentOf cX0_tangentOf 6 (some .int), Cond.methodLink RX0 58 yX0_isTurn, Cond.static yX0_isTurn, Cond.code yX0_isTurn cX0_isTurn 3 (some .boolean), Cond.methodLink RX0 81 yX0_riseByTangents, Cond.static yX0_riseByTangents, Cond.code yX0_riseByTangents cX0_riseByTangents 12 (some .long), Cond.constantLong RX0 85 (2000)]
def wsL_crossings : List Cond := .codeWith yL_crossings cL_crossings 5 (some .int) [(0, 10, 13, 13), (0, 10, 17, 15)] :: ((wsL_crossings_r1 ++ (wsL_crossings_r2 ++ wsL_crossings_r3)) ++ wsX30 ++ wsX20 ++ wsX00 ++ (vx_atS RX3 180 "java/lang/IndexOutOfBoundsException" ["java/lang/RuntimeException", "java/lang/Exception"]).filter goodWord ++ (vx_atS RX3 218 "java/lang/IllegalArgumentException" ["java/lang/RuntimeException", "java/lang/Exception"]).filter goodWord)
def wsL_difference_r1 : List Cond := [Cond.classLink RL 13 "java/lang/IndexOutOfBoundsException", Cond.methodLink RL 62 yX3_difference, Cond.instanceMethod yX3_difference, Cond.selects RX3 yX3_difference yX3_difference, Cond.initialized RX3, Cond.code yX3_difference cX3_difference 5 (some .int), Cond.fieldLink RX3 38 "EaseCurves" "values" "[I", Cond.fieldLink RX3 42 "EaseCurves" "otherValues" "[I", Cond.methodLink RX3 45 yX3_curveNumbered, Cond.instanceMethod yX3_curveNumbered, Cond.selects RX3 yX3_curveNumbered yX3_curveNumbered, Cond.code yX3_curveNumbered cX3_curveNumbered 2 (some (.object "EaseCurves$Curve")), Cond.classLink RX3 176 "java/lang/IndexOutOfBoundsException", Cond.initialized "java/lang/IndexOutOfBoundsException", Cond.fieldLink RX3 12 "EaseCurves" "present" "LEaseCurves$State;", Cond.instanceMethod yX0_bake, Cond.initialized RX0, Cond.selects RX0 yX0_bake yX0_bake, Cond.code yX0_bake cX0_bake 6 none, Cond.fieldLink RX0 9 "EaseCurves$Curve" "count" "I", Cond.methodLink RX0 27 yX0_countUpTo, Cond.instanceMethod yX0_countUpTo, Cond.selects RX0 yX0_countUpTo yX0_countUpTo, Cond.code yX0_countUpTo cX0_countUpTo 3 (some .int)]
def wsL_difference_r2 : List Cond := [Cond.methodLink RX0 19 yX0_cell, Cond.instanceMethod yX0_cell, Cond.selects RX0 yX0_cell yX0_cell, Cond.code yX0_cell cX0_cell 3 (some .int), Cond.fieldLink RX0 15 "EaseCurves$Curve" "cells" "[I", Cond.methodLink RX0 62 yX0_valueBehind, Cond.instanceMethod yX0_valueBehind, Cond.selects RX0 yX0_valueBehind yX0_valueBehind, Cond.code yX0_valueBehind cX0_valueBehind 14 (some .int), Cond.methodLink RX0 65 Lib.Math.max.name, Cond.static Lib.Math.max.name, Cond.initialized "java/lang/Math", Cond.code Lib.Math.max.name Lib.Math.max.code 2 (some .int), Cond.constantLong RX0 68 (1000), Cond.constantLong RX0 70 (1000000), Cond.constantLong RX0 72 (3000), Cond.constantLong RX0 74 (2), Cond.constantLong RX0 76 (1000000000), Cond.methodLink RX0 78 yX0_tangentOf, Cond.instanceMethod yX0_tangentOf, Cond.selects RX0 yX0_tangentOf yX0_tangentOf, Cond.code yX0_tangentOf cX0_tangentOf 6 (some .int), Cond.methodLink RX0 58 yX0_isTurn, Cond.static yX0_isTurn]
def wsL_difference_r3 : List Cond := [Cond.code yX0_isTurn cX0_isTurn 3 (some .boolean), Cond.methodLink RX0 81 yX0_riseByTangents, Cond.static yX0_riseByTangents, Cond.code yX0_riseByTangents cX0_riseByTangents 12 (some .long), Cond.constantLong RX0 85 (2000), Cond.methodLink RX3 165 yX3_greatestDifference, Cond.instanceMethod yX3_greatestDifference, Cond.selects RX3 yX3_greatestDifference yX3_greatestDifference, Cond.code yX3_greatestDifference cX3_greatestDifference 5 (some .int), Cond.methodLink RX3 233 Lib.Math.abs.name, Cond.static Lib.Math.abs.name, Cond.code Lib.Math.abs.name Lib.Math.abs.code 1 (some .int), Cond.methodLink RX3 238 Lib.Math.max.name]
def wsL_difference : List Cond := .codeWith yL_difference cL_difference 5 (some .int) [(0, 10, 13, 13)] :: ((wsL_difference_r1 ++ (wsL_difference_r2 ++ wsL_difference_r3)) ++ wsX30 ++ wsX20 ++ wsX00 ++ (vx_atS RX3 180 "java/lang/IndexOutOfBoundsException" ["java/lang/RuntimeException", "java/lang/Exception"]).filter goodWord)
def wsL_mean_r1 : List Cond := [Cond.classLink RL 13 "java/lang/IndexOutOfBoundsException", Cond.methodLink RL 65 yX3_mean, Cond.instanceMethod yX3_mean, Cond.selects RX3 yX3_mean yX3_mean, Cond.initialized RX3, Cond.code yX3_mean cX3_mean 3 (some .double), Cond.constantDouble RX3 168 (4652007308841189376), Cond.methodLink RX3 45 yX3_curveNumbered, Cond.instanceMethod yX3_curveNumbered, Cond.selects RX3 yX3_curveNumbered yX3_curveNumbered, Cond.code yX3_curveNumbered cX3_curveNumbered 2 (some (.object "EaseCurves$Curve")), Cond.classLink RX3 176 "java/lang/IndexOutOfBoundsException", Cond.initialized "java/lang/IndexOutOfBoundsException", Cond.fieldLink RX3 12 "EaseCurves" "present" "LEaseCurves$State;", Cond.methodLink RX3 148 yX3_sumOver, Cond.instanceMethod yX3_sumOver, Cond.selects RX3 yX3_sumOver yX3_sumOver, Cond.code yX3_sumOver cX3_sumOver 7 (some .long), Cond.fieldLink RX3 38 "EaseCurves" "values" "[I", Cond.instanceMethod yX0_bake, Cond.initialized RX0, Cond.selects RX0 yX0_bake yX0_bake, Cond.code yX0_bake cX0_bake 6 none, Cond.fieldLink RX0 9 "EaseCurves$Curve" "count" "I"]
def wsL_mean_r2 : List Cond := [Cond.methodLink RX0 27 yX0_countUpTo, Cond.instanceMethod yX0_countUpTo, Cond.selects RX0 yX0_countUpTo yX0_countUpTo, Cond.code yX0_countUpTo cX0_countUpTo 3 (some .int), Cond.methodLink RX0 19 yX0_cell, Cond.instanceMethod yX0_cell, Cond.selects RX0 yX0_cell yX0_cell, Cond.code yX0_cell cX0_cell 3 (some .int), Cond.fieldLink RX0 15 "EaseCurves$Curve" "cells" "[I", Cond.methodLink RX0 62 yX0_valueBehind, Cond.instanceMethod yX0_valueBehind, Cond.selects RX0 yX0_valueBehind yX0_valueBehind, Cond.code yX0_valueBehind cX0_valueBehind 14 (some .int), Cond.methodLink RX0 65 Lib.Math.max.name, Cond.static Lib.Math.max.name, Cond.initialized "java/lang/Math", Cond.code Lib.Math.max.name Lib.Math.max.code 2 (some .int), Cond.constantLong RX0 68 (1000), Cond.constantLong RX0 70 (1000000), Cond.constantLong RX0 72 (3000), Cond.constantLong RX0 74 (2), Cond.constantLong RX0 76 (1000000000), Cond.methodLink RX0 78 yX0_tangentOf, Cond.instanceMethod yX0_tangentOf]
def wsL_mean_r3 : List Cond := [Cond.selects RX0 yX0_tangentOf yX0_tangentOf, Cond.code yX0_tangentOf cX0_tangentOf 6 (some .int), Cond.methodLink RX0 58 yX0_isTurn, Cond.static yX0_isTurn, Cond.code yX0_isTurn cX0_isTurn 3 (some .boolean), Cond.methodLink RX0 81 yX0_riseByTangents, Cond.static yX0_riseByTangents, Cond.code yX0_riseByTangents cX0_riseByTangents 12 (some .long), Cond.constantLong RX0 85 (2000)]
def wsL_mean : List Cond := .codeWith yL_mean cL_mean 4 (some .int) [(0, 8, 11, 13)] :: ((wsL_mean_r1 ++ (wsL_mean_r2 ++ wsL_mean_r3)) ++ wsX30 ++ wsX20 ++ wsX00 ++ (vx_atS RX3 180 "java/lang/IndexOutOfBoundsException" ["java/lang/RuntimeException", "java/lang/Exception"]).filter goodWord)
def wsL_error_r1 : List Cond := [Cond.classLink RL 13 "java/lang/IndexOutOfBoundsException", Cond.methodLink RL 69 yX3_error, Cond.instanceMethod yX3_error, Cond.selects RX3 yX3_error yX3_error, Cond.initialized RX3, Cond.code yX3_error cX3_error 4 (some .int), Cond.fieldLink RX3 38 "EaseCurves" "values" "[I", Cond.methodLink RX3 45 yX3_curveNumbered, Cond.instanceMethod yX3_curveNumbered, Cond.selects RX3 yX3_curveNumbered yX3_curveNumbered, Cond.code yX3_curveNumbered cX3_curveNumbered 2 (some (.object "EaseCurves$Curve")), Cond.classLink RX3 176 "java/lang/IndexOutOfBoundsException", Cond.initialized "java/lang/IndexOutOfBoundsException", Cond.fieldLink RX3 12 "EaseCurves" "present" "LEaseCurves$State;", Cond.methodLink RX3 76 yX3_requireKey, Cond.static yX3_requireKey, Cond.code yX3_requireKey cX3_requireKey 2 none, Cond.instanceMethod yX0_mayLeaveOut, Cond.initialized RX0, Cond.selects RX0 yX0_mayLeaveOut yX0_mayLeaveOut, Cond.code yX0_mayLeaveOut cX0_mayLeaveOut 2 (some .boolean), Cond.fieldLink RX0 9 "EaseCurves$Curve" "count" "I", Cond.methodLink RX0 23 yX0_isLocked, Cond.instanceMethod yX0_isLocked]
def wsL_error_r2 : List Cond := [Cond.selects RX0 yX0_isLocked yX0_isLocked, Cond.code yX0_isLocked cX0_isLocked 2 (some .boolean), Cond.methodLink RX0 19 yX0_cell, Cond.instanceMethod yX0_cell, Cond.selects RX0 yX0_cell yX0_cell, Cond.code yX0_cell cX0_cell 3 (some .int), Cond.fieldLink RX0 15 "EaseCurves$Curve" "cells" "[I", Cond.instanceMethod yX0_bake, Cond.selects RX0 yX0_bake yX0_bake, Cond.code yX0_bake cX0_bake 6 none, Cond.methodLink RX0 27 yX0_countUpTo, Cond.instanceMethod yX0_countUpTo, Cond.selects RX0 yX0_countUpTo yX0_countUpTo, Cond.code yX0_countUpTo cX0_countUpTo 3 (some .int), Cond.methodLink RX0 62 yX0_valueBehind, Cond.instanceMethod yX0_valueBehind, Cond.selects RX0 yX0_valueBehind yX0_valueBehind, Cond.code yX0_valueBehind cX0_valueBehind 14 (some .int), Cond.methodLink RX0 65 Lib.Math.max.name, Cond.static Lib.Math.max.name, Cond.initialized "java/lang/Math", Cond.code Lib.Math.max.name Lib.Math.max.code 2 (some .int), Cond.constantLong RX0 68 (1000), Cond.constantLong RX0 70 (1000000)]
def wsL_error_r3 : List Cond := [Cond.constantLong RX0 72 (3000), Cond.constantLong RX0 74 (2), Cond.constantLong RX0 76 (1000000000), Cond.methodLink RX0 78 yX0_tangentOf, Cond.instanceMethod yX0_tangentOf, Cond.selects RX0 yX0_tangentOf yX0_tangentOf, Cond.code yX0_tangentOf cX0_tangentOf 6 (some .int), Cond.methodLink RX0 58 yX0_isTurn, Cond.static yX0_isTurn, Cond.code yX0_isTurn cX0_isTurn 3 (some .boolean), Cond.methodLink RX0 81 yX0_riseByTangents, Cond.static yX0_riseByTangents, Cond.code yX0_riseByTangents cX0_riseByTangents 12 (some .long), Cond.constantLong RX0 85 (2000), Cond.methodLink RX3 173 yX3_differenceWithout, Cond.instanceMethod yX3_differenceWithout, Cond.selects RX3 yX3_differenceWithout yX3_differenceWithout, Cond.code yX3_differenceWithout cX3_differenceWithout 5 (some .int), Cond.methodLink RX3 238 Lib.Math.max.name, Cond.methodLink RX3 241 Lib.Math.min.name, Cond.static Lib.Math.min.name, Cond.code Lib.Math.min.name Lib.Math.min.code 2 (some .int), Cond.fieldLink RX3 34 "EaseCurves" "trial" "LEaseCurves$Curve;", Cond.fieldLink RX3 42 "EaseCurves" "otherValues" "[I"]
def wsL_error_r4 : List Cond := [Cond.instanceMethod yX0_become, Cond.selects RX0 yX0_become yX0_become, Cond.code yX0_become cX0_become 2 none, Cond.methodLink RX0 31 arraycopyName, Cond.native arraycopyName, Cond.static arraycopyName, Cond.initialized "java/lang/System", Cond.instanceMethod yX0_takeOut, Cond.selects RX0 yX0_takeOut yX0_takeOut, Cond.code yX0_takeOut cX0_takeOut 3 none, Cond.methodLink RX3 165 yX3_greatestDifference, Cond.instanceMethod yX3_greatestDifference, Cond.selects RX3 yX3_greatestDifference yX3_greatestDifference, Cond.code yX3_greatestDifference cX3_greatestDifference 5 (some .int), Cond.methodLink RX3 233 Lib.Math.abs.name, Cond.static Lib.Math.abs.name, Cond.code Lib.Math.abs.name Lib.Math.abs.code 1 (some .int)]
def wsL_error : List Cond := .codeWith yL_error cL_error 5 (some .int) [(0, 10, 13, 13)] :: ((wsL_error_r1 ++ (wsL_error_r2 ++ (wsL_error_r3 ++ wsL_error_r4))) ++ wsX30 ++ wsX20 ++ wsX00 ++ (vx_atS RX3 180 "java/lang/IndexOutOfBoundsException" ["java/lang/RuntimeException", "java/lang/Exception"]).filter goodWord)
def wsL_greatestStretch_r1 : List Cond := [Cond.classLink RL 13 "java/lang/IndexOutOfBoundsException", Cond.classLink RL 15 "java/lang/IllegalArgumentException", Cond.methodLink RL 72 yX3_greatestStretch, Cond.instanceMethod yX3_greatestStretch, Cond.selects RX3 yX3_greatestStretch yX3_greatestStretch, Cond.initialized RX3, Cond.code yX3_greatestStretch cX3_greatestStretch 6 (some .int), Cond.methodLink RX3 45 yX3_curveNumbered, Cond.instanceMethod yX3_curveNumbered, Cond.selects RX3 yX3_curveNumbered yX3_curveNumbered, Cond.code yX3_curveNumbered cX3_curveNumbered 2 (some (.object "EaseCurves$Curve")), Cond.classLink RX3 176 "java/lang/IndexOutOfBoundsException", Cond.initialized "java/lang/IndexOutOfBoundsException", Cond.fieldLink RX3 12 "EaseCurves" "present" "LEaseCurves$State;", Cond.methodLink RX3 104 yX3_requireSpan, Cond.static yX3_requireSpan, Cond.code yX3_requireSpan cX3_requireSpan 2 none, Cond.methodLink RX3 49 yX3_requireRange, Cond.static yX3_requireRange, Cond.code yX3_requireRange cX3_requireRange 3 none, Cond.classLink RX3 214 "java/lang/IllegalArgumentException", Cond.initialized "java/lang/IllegalArgumentException", Cond.instanceMethod yX0_canStretch, Cond.initialized RX0]
def wsL_greatestStretch_r2 : List Cond := [Cond.selects RX0 yX0_canStretch yX0_canStretch, Cond.code yX0_canStretch cX0_canStretch 8 (some .boolean), Cond.fieldLink RX0 9 "EaseCurves$Curve" "count" "I", Cond.methodLink RX0 19 yX0_cell, Cond.instanceMethod yX0_cell, Cond.selects RX0 yX0_cell yX0_cell, Cond.code yX0_cell cX0_cell 3 (some .int), Cond.fieldLink RX0 15 "EaseCurves$Curve" "cells" "[I", Cond.methodLink RX0 54 yX0_stretchedFrame, Cond.static yX0_stretchedFrame, Cond.code yX0_stretchedFrame cX0_stretchedFrame 4 (some .int), Cond.methodLink RX0 23 yX0_isLocked, Cond.instanceMethod yX0_isLocked, Cond.selects RX0 yX0_isLocked yX0_isLocked, Cond.code yX0_isLocked cX0_isLocked 2 (some .boolean)]
def wsL_greatestStretch : List Cond := .codeWith yL_greatestStretch cL_greatestStretch 6 (some .int) [(0, 12, 15, 13), (0, 12, 19, 15)] :: ((wsL_greatestStretch_r1 ++ wsL_greatestStretch_r2) ++ wsX30 ++ wsX20 ++ wsX00 ++ (vx_atS RX3 180 "java/lang/IndexOutOfBoundsException" ["java/lang/RuntimeException", "java/lang/Exception"]).filter goodWord ++ (vx_atS RX3 218 "java/lang/IllegalArgumentException" ["java/lang/RuntimeException", "java/lang/Exception"]).filter goodWord)
def wsL_leastEase_r1 : List Cond := [Cond.classLink RL 13 "java/lang/IndexOutOfBoundsException", Cond.methodLink RL 75 yX3_leastEase, Cond.instanceMethod yX3_leastEase, Cond.selects RX3 yX3_leastEase yX3_leastEase, Cond.initialized RX3, Cond.code yX3_leastEase cX3_leastEase 12 (some .int), Cond.classLink RX3 176 "java/lang/IndexOutOfBoundsException", Cond.initialized "java/lang/IndexOutOfBoundsException", Cond.fieldLink RX3 34 "EaseCurves" "trial" "LEaseCurves$Curve;", Cond.methodLink RX3 45 yX3_curveNumbered, Cond.instanceMethod yX3_curveNumbered, Cond.selects RX3 yX3_curveNumbered yX3_curveNumbered, Cond.code yX3_curveNumbered cX3_curveNumbered 2 (some (.object "EaseCurves$Curve")), Cond.fieldLink RX3 12 "EaseCurves" "present" "LEaseCurves$State;", Cond.methodLink RX3 76 yX3_requireKey, Cond.static yX3_requireKey, Cond.code yX3_requireKey cX3_requireKey 2 none, Cond.instanceMethod yX0_cell, Cond.initialized RX0, Cond.selects RX0 yX0_cell yX0_cell, Cond.code yX0_cell cX0_cell 3 (some .int), Cond.fieldLink RX0 9 "EaseCurves$Curve" "count" "I", Cond.fieldLink RX0 15 "EaseCurves$Curve" "cells" "[I", Cond.instanceMethod yX0_become]
def wsL_leastEase_r2 : List Cond := [Cond.selects RX0 yX0_become yX0_become, Cond.code yX0_become cX0_become 2 none, Cond.methodLink RX0 31 arraycopyName, Cond.native arraycopyName, Cond.static arraycopyName, Cond.initialized "java/lang/System", Cond.instanceMethod yX0_put, Cond.selects RX0 yX0_put yX0_put, Cond.code yX0_put cX0_put 4 none, Cond.methodLink RX3 148 yX3_sumOver, Cond.instanceMethod yX3_sumOver, Cond.selects RX3 yX3_sumOver yX3_sumOver, Cond.code yX3_sumOver cX3_sumOver 7 (some .long), Cond.fieldLink RX3 38 "EaseCurves" "values" "[I", Cond.instanceMethod yX0_bake, Cond.selects RX0 yX0_bake yX0_bake, Cond.code yX0_bake cX0_bake 6 none, Cond.methodLink RX0 27 yX0_countUpTo, Cond.instanceMethod yX0_countUpTo, Cond.selects RX0 yX0_countUpTo yX0_countUpTo, Cond.code yX0_countUpTo cX0_countUpTo 3 (some .int), Cond.methodLink RX0 19 yX0_cell, Cond.methodLink RX0 62 yX0_valueBehind, Cond.instanceMethod yX0_valueBehind]
def wsL_leastEase_r3 : List Cond := [Cond.selects RX0 yX0_valueBehind yX0_valueBehind, Cond.code yX0_valueBehind cX0_valueBehind 14 (some .int), Cond.methodLink RX0 65 Lib.Math.max.name, Cond.static Lib.Math.max.name, Cond.initialized "java/lang/Math", Cond.code Lib.Math.max.name Lib.Math.max.code 2 (some .int), Cond.constantLong RX0 68 (1000), Cond.constantLong RX0 70 (1000000), Cond.constantLong RX0 72 (3000), Cond.constantLong RX0 74 (2), Cond.constantLong RX0 76 (1000000000), Cond.methodLink RX0 78 yX0_tangentOf, Cond.instanceMethod yX0_tangentOf, Cond.selects RX0 yX0_tangentOf yX0_tangentOf, Cond.code yX0_tangentOf cX0_tangentOf 6 (some .int), Cond.methodLink RX0 58 yX0_isTurn, Cond.static yX0_isTurn, Cond.code yX0_isTurn cX0_isTurn 3 (some .boolean), Cond.methodLink RX0 81 yX0_riseByTangents, Cond.static yX0_riseByTangents, Cond.code yX0_riseByTangents cX0_riseByTangents 12 (some .long), Cond.constantLong RX0 85 (2000)]
def wsL_leastEase : List Cond := .codeWith yL_leastEase cL_leastEase 5 (some .int) [(0, 10, 13, 13)] :: ((wsL_leastEase_r1 ++ (wsL_leastEase_r2 ++ wsL_leastEase_r3)) ++ wsX00 ++ wsX30 ++ wsX20 ++ (vx_atS RX3 180 "java/lang/IndexOutOfBoundsException" ["java/lang/RuntimeException", "java/lang/Exception"]).filter goodWord)
def wsL_append : List Cond := .codeWith yL_append cL_append 4 (some .int) [(0, 9, 12, 15), (0, 9, 15, 17)] :: ([.classLink RL 15 "java/lang/IllegalArgumentException", .classLink RL 17 "java/lang/IllegalStateException", .methodLink RL 78 yX3_append, .instanceMethod yX3_append, .selects RX3 yX3_append yX3_append, .initialized RX3, .code yX3_append cX3_append 2 (some .int), .classLink RX3 56 "java/lang/IllegalStateException", .initialized "java/lang/IllegalStateException", .fieldLink RX3 27 "EaseCurves" "text" "LEaseCurves$CurveText;", .methodLink RX3 49 yX3_requireRange, .static yX3_requireRange, .code yX3_requireRange cX3_requireRange 3 none, .classLink RX3 214 "java/lang/IllegalArgumentException", .initialized "java/lang/IllegalArgumentException", .instanceMethod yX1_add, .initialized RX1, .selects RX1 yX1_add yX1_add, .code yX1_add cX1_add 2 none, .fieldLink RX1 15 "EaseCurves$CurveText" "length" "I", .fieldLink RX1 9 "EaseCurves$CurveText" "bytes" "[B"] ++ wsX30 ++ wsX10 ++ (vx_atS RX3 60 "java/lang/IllegalStateException" ["java/lang/RuntimeException", "java/lang/Exception"]).filter goodWord ++ (vx_atS RX3 218 "java/lang/IllegalArgumentException" ["java/lang/RuntimeException", "java/lang/Exception"]).filter goodWord)
def wsL_parse_r1 : List Cond := [Cond.classLink RL 13 "java/lang/IndexOutOfBoundsException", Cond.classLink RL 17 "java/lang/IllegalStateException", Cond.methodLink RL 82 yX3_parse, Cond.instanceMethod yX3_parse, Cond.selects RX3 yX3_parse yX3_parse, Cond.initialized RX3, Cond.code yX3_parse cX3_parse 4 (some .int), Cond.fieldLink RX3 27 "EaseCurves" "text" "LEaseCurves$CurveText;", Cond.fieldLink RX3 34 "EaseCurves" "trial" "LEaseCurves$Curve;", Cond.methodLink RX3 45 yX3_curveNumbered, Cond.instanceMethod yX3_curveNumbered, Cond.selects RX3 yX3_curveNumbered yX3_curveNumbered, Cond.code yX3_curveNumbered cX3_curveNumbered 2 (some (.object "EaseCurves$Curve")), Cond.classLink RX3 176 "java/lang/IndexOutOfBoundsException", Cond.initialized "java/lang/IndexOutOfBoundsException", Cond.fieldLink RX3 12 "EaseCurves" "present" "LEaseCurves$State;", Cond.instanceMethod yX1_readInto, Cond.initialized RX1, Cond.selects RX1 yX1_readInto yX1_readInto, Cond.code yX1_readInto cX1_readInto 3 (some .int), Cond.fieldLink RX1 19 "EaseCurves$CurveText" "at" "I", Cond.fieldLink RX1 15 "EaseCurves$CurveText" "length" "I", Cond.methodLink RX1 27 yX1_readKey, Cond.instanceMethod yX1_readKey]
def wsL_parse_r2 : List Cond := [Cond.selects RX1 yX1_readKey yX1_readKey, Cond.code yX1_readKey cX1_readKey 9 (some .boolean), Cond.methodLink RX1 31 yX1_readDigits, Cond.instanceMethod yX1_readDigits, Cond.selects RX1 yX1_readDigits yX1_readDigits, Cond.code yX1_readDigits cX1_readDigits 4 (some .int), Cond.fieldLink RX1 9 "EaseCurves$CurveText" "bytes" "[B", Cond.methodLink RX1 35 yX1_isSign, Cond.instanceMethod yX1_isSign, Cond.selects RX1 yX1_isSign yX1_isSign, Cond.code yX1_isSign cX1_isSign 4 (some .boolean), Cond.instanceMethod yX0_lastFrame, Cond.initialized RX0, Cond.selects RX0 yX0_lastFrame yX0_lastFrame, Cond.code yX0_lastFrame cX0_lastFrame 1 (some .int), Cond.fieldLink RX0 9 "EaseCurves$Curve" "count" "I", Cond.methodLink RX0 19 yX0_cell, Cond.instanceMethod yX0_cell, Cond.selects RX0 yX0_cell yX0_cell, Cond.code yX0_cell cX0_cell 3 (some .int), Cond.fieldLink RX0 15 "EaseCurves$Curve" "cells" "[I", Cond.methodLink RX1 43 yX1_skip, Cond.instanceMethod yX1_skip, Cond.selects RX1 yX1_skip yX1_skip]
def wsL_parse_r3 : List Cond := [Cond.code yX1_skip cX1_skip 2 (some .boolean), Cond.methodLink RX1 47 yX1_readMode, Cond.instanceMethod yX1_readMode, Cond.selects RX1 yX1_readMode yX1_readMode, Cond.code yX1_readMode cX1_readMode 1 (some .int), Cond.instanceMethod yX0_insert, Cond.selects RX0 yX0_insert yX0_insert, Cond.code yX0_insert cX0_insert 9 (some .int), Cond.methodLink RX0 31 arraycopyName, Cond.native arraycopyName, Cond.static arraycopyName, Cond.initialized "java/lang/System", Cond.methodLink RX0 27 yX0_countUpTo, Cond.instanceMethod yX0_countUpTo, Cond.selects RX0 yX0_countUpTo yX0_countUpTo, Cond.code yX0_countUpTo cX0_countUpTo 3 (some .int), Cond.methodLink RX0 37 yX0_put, Cond.instanceMethod yX0_put, Cond.selects RX0 yX0_put yX0_put, Cond.code yX0_put cX0_put 4 none, Cond.methodLink RX3 118 yX3_requireNoLock, Cond.static yX3_requireNoLock, Cond.code yX3_requireNoLock cX3_requireNoLock 1 none, Cond.classLink RX3 56 "java/lang/IllegalStateException"]
def wsL_parse_r4 : List Cond := [Cond.initialized "java/lang/IllegalStateException", Cond.instanceMethod yX0_hasLock, Cond.selects RX0 yX0_hasLock yX0_hasLock, Cond.code yX0_hasLock cX0_hasLock 2 (some .boolean), Cond.methodLink RX0 23 yX0_isLocked, Cond.instanceMethod yX0_isLocked, Cond.selects RX0 yX0_isLocked yX0_isLocked, Cond.code yX0_isLocked cX0_isLocked 2 (some .boolean), Cond.methodLink RX3 69 yX3_saveState, Cond.instanceMethod yX3_saveState, Cond.selects RX3 yX3_saveState yX3_saveState, Cond.code yX3_saveState cX3_saveState 1 none, Cond.fieldLink RX3 20 "EaseCurves" "savedCount" "I", Cond.fieldLink RX3 16 "EaseCurves" "saved" "[LEaseCurves$State;", Cond.methodLink RX3 230 yX3_dropOldestState, Cond.instanceMethod yX3_dropOldestState, Cond.selects RX3 yX3_dropOldestState yX3_dropOldestState, Cond.code yX3_dropOldestState cX3_dropOldestState 3 none, Cond.instanceMethod yX2_become, Cond.initialized RX2, Cond.selects RX2 yX2_become yX2_become, Cond.code yX2_become cX2_become 3 none, Cond.fieldLink RX2 11 "EaseCurves$State" "curves" "[LEaseCurves$Curve;", Cond.instanceMethod yX0_become]
def wsL_parse_r5 : List Cond := [Cond.selects RX0 yX0_become yX0_become, Cond.code yX0_become cX0_become 2 none]
def wsL_parse : List Cond := .codeWith yL_parse cL_parse 4 (some .int) [(0, 9, 12, 13), (0, 9, 15, 17)] :: ((wsL_parse_r1 ++ (wsL_parse_r2 ++ (wsL_parse_r3 ++ (wsL_parse_r4 ++ wsL_parse_r5)))) ++ wsX30 ++ wsX00 ++ wsX20 ++ wsX10 ++ (vx_atS RX3 180 "java/lang/IndexOutOfBoundsException" ["java/lang/RuntimeException", "java/lang/Exception"]).filter goodWord ++ (vx_atS RX3 60 "java/lang/IllegalStateException" ["java/lang/RuntimeException", "java/lang/Exception"]).filter goodWord)
def wsL_undo_r1 : List Cond := [Cond.classLink RL 17 "java/lang/IllegalStateException", Cond.methodLink RL 85 yX3_undo, Cond.instanceMethod yX3_undo, Cond.selects RX3 yX3_undo yX3_undo, Cond.initialized RX3, Cond.code yX3_undo cX3_undo 1 (some .int), Cond.classLink RX3 56 "java/lang/IllegalStateException", Cond.initialized "java/lang/IllegalStateException", Cond.fieldLink RX3 20 "EaseCurves" "savedCount" "I", Cond.fieldLink RX3 12 "EaseCurves" "present" "LEaseCurves$State;", Cond.fieldLink RX3 16 "EaseCurves" "saved" "[LEaseCurves$State;", Cond.instanceMethod yX2_become, Cond.initialized RX2, Cond.selects RX2 yX2_become yX2_become, Cond.code yX2_become cX2_become 3 none, Cond.fieldLink RX2 11 "EaseCurves$State" "curves" "[LEaseCurves$Curve;", Cond.instanceMethod yX0_become, Cond.initialized RX0, Cond.selects RX0 yX0_become yX0_become, Cond.code yX0_become cX0_become 2 none, Cond.fieldLink RX0 9 "EaseCurves$Curve" "count" "I", Cond.fieldLink RX0 15 "EaseCurves$Curve" "cells" "[I", Cond.methodLink RX0 31 arraycopyName, Cond.native arraycopyName]
def wsL_undo_r2 : List Cond := [Cond.static arraycopyName, Cond.initialized "java/lang/System"]
def wsL_undo : List Cond := .codeWith yL_undo cL_undo 3 (some .int) [(0, 8, 11, 17)] :: ((wsL_undo_r1 ++ wsL_undo_r2) ++ wsX30 ++ wsX20 ++ wsX00 ++ (vx_atS RX3 60 "java/lang/IllegalStateException" ["java/lang/RuntimeException", "java/lang/Exception"]).filter goodWord)
abbrev vwCl : List vw_C := [(RX0, TX0, 2), (RX1, TX1, 3), (RX2, TX2, 1), (RX3, TX3, 7), (RX4, TX4, 11)]
/-! ===== END ===== -/
end
section
theorem dX0_init_0 : decode cX0_init 0 = .ok (.aload_n 0, 1) := by decide +kernel
theorem dX0_init_1 : decode cX0_init 1 = .ok (.invokespecial 3, 3) := by decide +kernel
theorem dX0_init_4 : decode cX0_init 4 = .ok (.aload_n 0, 1) := by decide +kernel
theorem dX0_init_5 : decode cX0_init 5 = .ok (.iconst 0, 1) := by decide +kernel
theorem dX0_init_6 : decode cX0_init 6 = .ok (.putfield 9, 3) := by decide +kernel
theorem dX0_init_9 : decode cX0_init 9 = .ok (.aload_n 0, 1) := by decide +kernel
theorem dX0_init_10 : decode cX0_init 10 = .ok (.bipush 96, 2) := by decide +kernel
theorem dX0_init_12 : decode cX0_init 12 = .ok (.newarray .int, 2) := by decide +kernel
theorem dX0_init_14 : decode cX0_init 14 = .ok (.putfield 15, 3) := by decide +kernel
theorem dX0_init_17 : decode cX0_init 17 = .ok (.return_, 1) := by decide +kernel
theorem dX0_cell_0 : decode cX0_cell 0 = .ok (.iload_n 1, 1) := by decide +kernel
theorem dX0_cell_1 : decode cX0_cell 1 = .ok (.ifCond .lt 25, 3) := by decide +kernel
theorem dX0_cell_4 : decode cX0_cell 4 = .ok (.iload_n 1, 1) := by decide +kernel
theorem dX0_cell_5 : decode cX0_cell 5 = .ok (.aload_n 0, 1) := by decide +kernel
theorem dX0_cell_6 : decode cX0_cell 6 = .ok (.getfield 9, 3) := by decide +kernel
theorem dX0_cell_9 : decode cX0_cell 9 = .ok (.if_icmp .ge 17, 3) := by decide +kernel
theorem dX0_cell_12 : decode cX0_cell 12 = .ok (.aload_n 0, 1) := by decide +kernel
theorem dX0_cell_13 : decode cX0_cell 13 = .ok (.getfield 15, 3) := by decide +kernel
theorem dX0_cell_16 : decode cX0_cell 16 = .ok (.iload_n 1, 1) := by decide +kernel
theorem dX0_cell_17 : decode cX0_cell 17 = .ok (.bipush 6, 2) := by decide +kernel
theorem dX0_cell_19 : decode cX0_cell 19 = .ok (.imul, 1) := by decide +kernel
theorem dX0_cell_20 : decode cX0_cell 20 = .ok (.iload_n 2, 1) := by decide +kernel
theorem dX0_cell_21 : decode cX0_cell 21 = .ok (.iadd, 1) := by decide +kernel
theorem dX0_cell_22 : decode cX0_cell 22 = .ok (.iaload, 1) := by decide +kernel
theorem dX0_cell_23 : decode cX0_cell 23 = .ok (.goto 4, 3) := by decide +kernel
theorem dX0_cell_26 : decode cX0_cell 26 = .ok (.iconst 0, 1) := by decide +kernel
theorem dX0_cell_27 : decode cX0_cell 27 = .ok (.ireturn, 1) := by decide +kernel
theorem dX0_put_0 : decode cX0_put 0 = .ok (.iload_n 1, 1) := by decide +kernel
theorem dX0_put_1 : decode cX0_put 1 = .ok (.ifCond .lt 23, 3) := by decide +kernel
theorem dX0_put_4 : decode cX0_put 4 = .ok (.iload_n 1, 1) := by decide +kernel
theorem dX0_put_5 : decode cX0_put 5 = .ok (.aload_n 0, 1) := by decide +kernel
theorem dX0_put_6 : decode cX0_put 6 = .ok (.getfield 9, 3) := by decide +kernel
theorem dX0_put_9 : decode cX0_put 9 = .ok (.if_icmp .ge 15, 3) := by decide +kernel
theorem dX0_put_12 : decode cX0_put 12 = .ok (.aload_n 0, 1) := by decide +kernel
theorem dX0_put_13 : decode cX0_put 13 = .ok (.getfield 15, 3) := by decide +kernel
theorem dX0_put_16 : decode cX0_put 16 = .ok (.iload_n 1, 1) := by decide +kernel
theorem dX0_put_17 : decode cX0_put 17 = .ok (.bipush 6, 2) := by decide +kernel
theorem dX0_put_19 : decode cX0_put 19 = .ok (.imul, 1) := by decide +kernel
theorem dX0_put_20 : decode cX0_put 20 = .ok (.iload_n 2, 1) := by decide +kernel
theorem dX0_put_21 : decode cX0_put 21 = .ok (.iadd, 1) := by decide +kernel
theorem dX0_put_22 : decode cX0_put 22 = .ok (.iload_n 3, 1) := by decide +kernel
theorem dX0_put_23 : decode cX0_put 23 = .ok (.iastore, 1) := by decide +kernel
theorem dX0_put_24 : decode cX0_put 24 = .ok (.return_, 1) := by decide +kernel
set_option maxRecDepth 20000 in
theorem ggX0_isLocked_X0_cell : GoodIn wsX0_isLocked wsX0_cell := goodIn_r _ [5, 6, 7, 8, 9] (by decide +kernel) (by decide +kernel)
set_option maxRecDepth 20000 in
theorem gX0_isLocked_X0_cell : GoodIn wsX0_isLocked (wsV RX0 19 RX0 yX0_cell wsX0_cell) := goodIn_app (goodIn_of _ (by decide +kernel)) ggX0_isLocked_X0_cell
theorem dX0_isLocked_0 : decode cX0_isLocked 0 = .ok (.aload_n 0, 1) := by decide +kernel
theorem dX0_isLocked_1 : decode cX0_isLocked 1 = .ok (.iload_n 1, 1) := by decide +kernel
theorem dX0_isLocked_2 : decode cX0_isLocked 2 = .ok (.iconst 5, 1) := by decide +kernel
theorem dX0_isLocked_3 : decode cX0_isLocked 3 = .ok (.invokevirtual 19, 3) := by decide +kernel
theorem dX0_isLocked_6 : decode cX0_isLocked 6 = .ok (.iconst 1, 1) := by decide +kernel
theorem dX0_isLocked_7 : decode cX0_isLocked 7 = .ok (.if_icmp .ne 7, 3) := by decide +kernel
theorem dX0_isLocked_10 : decode cX0_isLocked 10 = .ok (.iconst 1, 1) := by decide +kernel
theorem dX0_isLocked_11 : decode cX0_isLocked 11 = .ok (.goto 4, 3) := by decide +kernel
theorem dX0_isLocked_14 : decode cX0_isLocked 14 = .ok (.iconst 0, 1) := by decide +kernel
theorem dX0_isLocked_15 : decode cX0_isLocked 15 = .ok (.ireturn, 1) := by decide +kernel
set_option maxRecDepth 20000 in
theorem ggX0_hasLock_X0_isLocked : GoodIn wsX0_hasLock wsX0_isLocked := goodIn_r _ [6, 7, 8, 9, 5, 10, 1, 11, 12, 13] (by decide +kernel) (by decide +kernel)
set_option maxRecDepth 20000 in
theorem gX0_hasLock_X0_isLocked : GoodIn wsX0_hasLock (wsV RX0 23 RX0 yX0_isLocked wsX0_isLocked) := goodIn_app (goodIn_of _ (by decide +kernel)) ggX0_hasLock_X0_isLocked
theorem dX0_hasLock_0 : decode cX0_hasLock 0 = .ok (.iconst 0, 1) := by decide +kernel
theorem dX0_hasLock_1 : decode cX0_hasLock 1 = .ok (.istore_n 1, 1) := by decide +kernel
theorem dX0_hasLock_2 : decode cX0_hasLock 2 = .ok (.iload_n 1, 1) := by decide +kernel
theorem dX0_hasLock_3 : decode cX0_hasLock 3 = .ok (.aload_n 0, 1) := by decide +kernel
theorem dX0_hasLock_4 : decode cX0_hasLock 4 = .ok (.getfield 9, 3) := by decide +kernel
theorem dX0_hasLock_7 : decode cX0_hasLock 7 = .ok (.if_icmp .ge 19, 3) := by decide +kernel
theorem dX0_hasLock_10 : decode cX0_hasLock 10 = .ok (.aload_n 0, 1) := by decide +kernel
theorem dX0_hasLock_11 : decode cX0_hasLock 11 = .ok (.iload_n 1, 1) := by decide +kernel
theorem dX0_hasLock_12 : decode cX0_hasLock 12 = .ok (.invokevirtual 23, 3) := by decide +kernel
theorem dX0_hasLock_15 : decode cX0_hasLock 15 = .ok (.ifCond .eq 5, 3) := by decide +kernel
theorem dX0_hasLock_18 : decode cX0_hasLock 18 = .ok (.iconst 1, 1) := by decide +kernel
theorem dX0_hasLock_19 : decode cX0_hasLock 19 = .ok (.ireturn, 1) := by decide +kernel
theorem dX0_hasLock_20 : decode cX0_hasLock 20 = .ok (.iinc 1 1, 3) := by decide +kernel
theorem dX0_hasLock_23 : decode cX0_hasLock 23 = .ok (.goto (-21), 3) := by decide +kernel
theorem dX0_hasLock_26 : decode cX0_hasLock 26 = .ok (.iconst 0, 1) := by decide +kernel
theorem dX0_hasLock_27 : decode cX0_hasLock 27 = .ok (.ireturn, 1) := by decide +kernel
set_option maxRecDepth 20000 in
theorem ggX0_mayLeaveOut_X0_isLocked : GoodIn wsX0_mayLeaveOut wsX0_isLocked := goodIn_r _ [6, 7, 8, 9, 5, 10, 1, 11, 12, 13] (by decide +kernel) (by decide +kernel)
set_option maxRecDepth 20000 in
theorem gX0_mayLeaveOut_X0_isLocked : GoodIn wsX0_mayLeaveOut (wsV RX0 23 RX0 yX0_isLocked wsX0_isLocked) := goodIn_app (goodIn_of _ (by decide +kernel)) ggX0_mayLeaveOut_X0_isLocked
theorem dX0_mayLeaveOut_0 : decode cX0_mayLeaveOut 0 = .ok (.iload_n 1, 1) := by decide +kernel
theorem dX0_mayLeaveOut_1 : decode cX0_mayLeaveOut 1 = .ok (.ifCond .le 25, 3) := by decide +kernel
theorem dX0_mayLeaveOut_4 : decode cX0_mayLeaveOut 4 = .ok (.iload_n 1, 1) := by decide +kernel
theorem dX0_mayLeaveOut_5 : decode cX0_mayLeaveOut 5 = .ok (.aload_n 0, 1) := by decide +kernel
theorem dX0_mayLeaveOut_6 : decode cX0_mayLeaveOut 6 = .ok (.getfield 9, 3) := by decide +kernel
theorem dX0_mayLeaveOut_9 : decode cX0_mayLeaveOut 9 = .ok (.iconst 1, 1) := by decide +kernel
theorem dX0_mayLeaveOut_10 : decode cX0_mayLeaveOut 10 = .ok (.isub, 1) := by decide +kernel
theorem dX0_mayLeaveOut_11 : decode cX0_mayLeaveOut 11 = .ok (.if_icmp .ge 15, 3) := by decide +kernel
theorem dX0_mayLeaveOut_14 : decode cX0_mayLeaveOut 14 = .ok (.aload_n 0, 1) := by decide +kernel
theorem dX0_mayLeaveOut_15 : decode cX0_mayLeaveOut 15 = .ok (.iload_n 1, 1) := by decide +kernel
theorem dX0_mayLeaveOut_16 : decode cX0_mayLeaveOut 16 = .ok (.invokevirtual 23, 3) := by decide +kernel
theorem dX0_mayLeaveOut_19 : decode cX0_mayLeaveOut 19 = .ok (.ifCond .ne 7, 3) := by decide +kernel
theorem dX0_mayLeaveOut_22 : decode cX0_mayLeaveOut 22 = .ok (.iconst 1, 1) := by decide +kernel
theorem dX0_mayLeaveOut_23 : decode cX0_mayLeaveOut 23 = .ok (.goto 4, 3) := by decide +kernel
theorem dX0_mayLeaveOut_26 : decode cX0_mayLeaveOut 26 = .ok (.iconst 0, 1) := by decide +kernel
theorem dX0_mayLeaveOut_27 : decode cX0_mayLeaveOut 27 = .ok (.ireturn, 1) := by decide +kernel
set_option maxRecDepth 20000 in
theorem ggX0_countUpTo_X0_cell : GoodIn wsX0_countUpTo wsX0_cell := goodIn_r _ [6, 1, 7, 8, 9] (by decide +kernel) (by decide +kernel)
set_option maxRecDepth 20000 in
theorem gX0_countUpTo_X0_cell : GoodIn wsX0_countUpTo (wsV RX0 19 RX0 yX0_cell wsX0_cell) := goodIn_app (goodIn_of _ (by decide +kernel)) ggX0_countUpTo_X0_cell
theorem dX0_countUpTo_0 : decode cX0_countUpTo 0 = .ok (.iconst 0, 1) := by decide +kernel
theorem dX0_countUpTo_1 : decode cX0_countUpTo 1 = .ok (.istore_n 2, 1) := by decide +kernel
theorem dX0_countUpTo_2 : decode cX0_countUpTo 2 = .ok (.iload_n 2, 1) := by decide +kernel
theorem dX0_countUpTo_3 : decode cX0_countUpTo 3 = .ok (.aload_n 0, 1) := by decide +kernel
theorem dX0_countUpTo_4 : decode cX0_countUpTo 4 = .ok (.getfield 9, 3) := by decide +kernel
theorem dX0_countUpTo_7 : decode cX0_countUpTo 7 = .ok (.if_icmp .ge 19, 3) := by decide +kernel
theorem dX0_countUpTo_10 : decode cX0_countUpTo 10 = .ok (.aload_n 0, 1) := by decide +kernel
theorem dX0_countUpTo_11 : decode cX0_countUpTo 11 = .ok (.iload_n 2, 1) := by decide +kernel
theorem dX0_countUpTo_12 : decode cX0_countUpTo 12 = .ok (.iconst 0, 1) := by decide +kernel
theorem dX0_countUpTo_13 : decode cX0_countUpTo 13 = .ok (.invokevirtual 19, 3) := by decide +kernel
theorem dX0_countUpTo_16 : decode cX0_countUpTo 16 = .ok (.iload_n 1, 1) := by decide +kernel
theorem dX0_countUpTo_17 : decode cX0_countUpTo 17 = .ok (.if_icmp .gt 9, 3) := by decide +kernel
theorem dX0_countUpTo_20 : decode cX0_countUpTo 20 = .ok (.iinc 2 1, 3) := by decide +kernel
theorem dX0_countUpTo_23 : decode cX0_countUpTo 23 = .ok (.goto (-21), 3) := by decide +kernel
theorem dX0_countUpTo_26 : decode cX0_countUpTo 26 = .ok (.iload_n 2, 1) := by decide +kernel
theorem dX0_countUpTo_27 : decode cX0_countUpTo 27 = .ok (.ireturn, 1) := by decide +kernel
set_option maxRecDepth 20000 in
theorem ggX0_numberAtFrame_X0_countUpTo : GoodIn wsX0_numberAtFrame wsX0_countUpTo := goodIn_r _ [5, 6, 7, 8, 9, 4, 10, 11, 12, 13] (by decide +kernel) (by decide +kernel)
set_option maxRecDepth 20000 in
theorem gX0_numberAtFrame_X0_countUpTo : GoodIn wsX0_numberAtFrame (wsV RX0 27 RX0 yX0_countUpTo wsX0_countUpTo) := goodIn_app (goodIn_of _ (by decide +kernel)) ggX0_numberAtFrame_X0_countUpTo
set_option maxRecDepth 20000 in
theorem ggX0_numberAtFrame_X0_cell : GoodIn wsX0_numberAtFrame wsX0_cell := goodIn_r _ [10, 6, 11, 12, 13] (by decide +kernel) (by decide +kernel)
set_option maxRecDepth 20000 in
theorem gX0_numberAtFrame_X0_cell : GoodIn wsX0_numberAtFrame (wsV RX0 19 RX0 yX0_cell wsX0_cell) := goodIn_app (goodIn_of _ (by decide +kernel)) ggX0_numberAtFrame_X0_cell
theorem dX0_numberAtFrame_0 : decode cX0_numberAtFrame 0 = .ok (.aload_n 0, 1) := by decide +kernel
theorem dX0_numberAtFrame_1 : decode cX0_numberAtFrame 1 = .ok (.iload_n 1, 1) := by decide +kernel
theorem dX0_numberAtFrame_2 : decode cX0_numberAtFrame 2 = .ok (.invokevirtual 27, 3) := by decide +kernel
theorem dX0_numberAtFrame_5 : decode cX0_numberAtFrame 5 = .ok (.iconst 1, 1) := by decide +kernel
theorem dX0_numberAtFrame_6 : decode cX0_numberAtFrame 6 = .ok (.isub, 1) := by decide +kernel
theorem dX0_numberAtFrame_7 : decode cX0_numberAtFrame 7 = .ok (.istore_n 2, 1) := by decide +kernel
theorem dX0_numberAtFrame_8 : decode cX0_numberAtFrame 8 = .ok (.iload_n 2, 1) := by decide +kernel
theorem dX0_numberAtFrame_9 : decode cX0_numberAtFrame 9 = .ok (.ifCond .lt 17, 3) := by decide +kernel
theorem dX0_numberAtFrame_12 : decode cX0_numberAtFrame 12 = .ok (.aload_n 0, 1) := by decide +kernel
theorem dX0_numberAtFrame_13 : decode cX0_numberAtFrame 13 = .ok (.iload_n 2, 1) := by decide +kernel
theorem dX0_numberAtFrame_14 : decode cX0_numberAtFrame 14 = .ok (.iconst 0, 1) := by decide +kernel
theorem dX0_numberAtFrame_15 : decode cX0_numberAtFrame 15 = .ok (.invokevirtual 19, 3) := by decide +kernel
theorem dX0_numberAtFrame_18 : decode cX0_numberAtFrame 18 = .ok (.iload_n 1, 1) := by decide +kernel
theorem dX0_numberAtFrame_19 : decode cX0_numberAtFrame 19 = .ok (.if_icmp .ne 7, 3) := by decide +kernel
theorem dX0_numberAtFrame_22 : decode cX0_numberAtFrame 22 = .ok (.iload_n 2, 1) := by decide +kernel
theorem dX0_numberAtFrame_23 : decode cX0_numberAtFrame 23 = .ok (.goto 4, 3) := by decide +kernel
theorem dX0_numberAtFrame_26 : decode cX0_numberAtFrame 26 = .ok (.iconst (-1), 1) := by decide +kernel
theorem dX0_numberAtFrame_27 : decode cX0_numberAtFrame 27 = .ok (.ireturn, 1) := by decide +kernel
set_option maxRecDepth 20000 in
theorem ggX0_lastFrame_X0_cell : GoodIn wsX0_lastFrame wsX0_cell := goodIn_r _ [6, 1, 7, 8, 9] (by decide +kernel) (by decide +kernel)
set_option maxRecDepth 20000 in
theorem gX0_lastFrame_X0_cell : GoodIn wsX0_lastFrame (wsV RX0 19 RX0 yX0_cell wsX0_cell) := goodIn_app (goodIn_of _ (by decide +kernel)) ggX0_lastFrame_X0_cell
theorem dX0_lastFrame_0 : decode cX0_lastFrame 0 = .ok (.aload_n 0, 1) := by decide +kernel
theorem dX0_lastFrame_1 : decode cX0_lastFrame 1 = .ok (.getfield 9, 3) := by decide +kernel
theorem dX0_lastFrame_4 : decode cX0_lastFrame 4 = .ok (.ifCond .ne 7, 3) := by decide +kernel
theorem dX0_lastFrame_7 : decode cX0_lastFrame 7 = .ok (.iconst (-1), 1) := by decide +kernel
theorem dX0_lastFrame_8 : decode cX0_lastFrame 8 = .ok (.goto 14, 3) := by decide +kernel
theorem dX0_lastFrame_11 : decode cX0_lastFrame 11 = .ok (.aload_n 0, 1) := by decide +kernel
theorem dX0_lastFrame_12 : decode cX0_lastFrame 12 = .ok (.aload_n 0, 1) := by decide +kernel
theorem dX0_lastFrame_13 : decode cX0_lastFrame 13 = .ok (.getfield 9, 3) := by decide +kernel
theorem dX0_lastFrame_16 : decode cX0_lastFrame 16 = .ok (.iconst 1, 1) := by decide +kernel
theorem dX0_lastFrame_17 : decode cX0_lastFrame 17 = .ok (.isub, 1) := by decide +kernel
theorem dX0_lastFrame_18 : decode cX0_lastFrame 18 = .ok (.iconst 0, 1) := by decide +kernel
theorem dX0_lastFrame_19 : decode cX0_lastFrame 19 = .ok (.invokevirtual 19, 3) := by decide +kernel
theorem dX0_lastFrame_22 : decode cX0_lastFrame 22 = .ok (.ireturn, 1) := by decide +kernel
theorem dX0_become_0 : decode cX0_become 0 = .ok (.aload_n 0, 1) := by decide +kernel
theorem dX0_become_1 : decode cX0_become 1 = .ok (.aload_n 1, 1) := by decide +kernel
theorem dX0_become_2 : decode cX0_become 2 = .ok (.getfield 9, 3) := by decide +kernel
theorem dX0_become_5 : decode cX0_become 5 = .ok (.putfield 9, 3) := by decide +kernel
theorem dX0_become_8 : decode cX0_become 8 = .ok (.aload_n 1, 1) := by decide +kernel
theorem dX0_become_9 : decode cX0_become 9 = .ok (.getfield 15, 3) := by decide +kernel
theorem dX0_become_12 : decode cX0_become 12 = .ok (.iconst 0, 1) := by decide +kernel
theorem dX0_become_13 : decode cX0_become 13 = .ok (.aload_n 0, 1) := by decide +kernel
theorem dX0_become_14 : decode cX0_become 14 = .ok (.getfield 15, 3) := by decide +kernel
theorem dX0_become_17 : decode cX0_become 17 = .ok (.iconst 0, 1) := by decide +kernel
theorem dX0_become_18 : decode cX0_become 18 = .ok (.aload_n 0, 1) := by decide +kernel
theorem dX0_become_19 : decode cX0_become 19 = .ok (.getfield 9, 3) := by decide +kernel
theorem dX0_become_22 : decode cX0_become 22 = .ok (.bipush 6, 2) := by decide +kernel
theorem dX0_become_24 : decode cX0_become 24 = .ok (.imul, 1) := by decide +kernel
theorem dX0_become_25 : decode cX0_become 25 = .ok (.invokestatic 31, 3) := by decide +kernel
theorem dX0_become_28 : decode cX0_become 28 = .ok (.return_, 1) := by decide +kernel
set_option maxRecDepth 20000 in
theorem ggX0_insert_X0_countUpTo : GoodIn wsX0_insert wsX0_countUpTo := goodIn_r _ [11, 1, 12, 13, 14, 10, 15, 2, 20, 21] (by decide +kernel) (by decide +kernel)
set_option maxRecDepth 20000 in
theorem gX0_insert_X0_countUpTo : GoodIn wsX0_insert (wsV RX0 27 RX0 yX0_countUpTo wsX0_countUpTo) := goodIn_app (goodIn_of _ (by decide +kernel)) ggX0_insert_X0_countUpTo
set_option maxRecDepth 20000 in
theorem ggX0_insert_X0_put : GoodIn wsX0_insert wsX0_put := goodIn_r _ [19, 1, 2, 20, 21] (by decide +kernel) (by decide +kernel)
set_option maxRecDepth 20000 in
theorem gX0_insert_X0_put : GoodIn wsX0_insert (wsV RX0 37 RX0 yX0_put wsX0_put) := goodIn_app (goodIn_of _ (by decide +kernel)) ggX0_insert_X0_put
theorem dX0_insert_0 : decode cX0_insert 0 = .ok (.aload_n 0, 1) := by decide +kernel
theorem dX0_insert_1 : decode cX0_insert 1 = .ok (.getfield 9, 3) := by decide +kernel
theorem dX0_insert_4 : decode cX0_insert 4 = .ok (.bipush 16, 2) := by decide +kernel
theorem dX0_insert_6 : decode cX0_insert 6 = .ok (.if_icmp .lt 5, 3) := by decide +kernel
theorem dX0_insert_9 : decode cX0_insert 9 = .ok (.iconst (-1), 1) := by decide +kernel
theorem dX0_insert_10 : decode cX0_insert 10 = .ok (.ireturn, 1) := by decide +kernel
theorem dX0_insert_11 : decode cX0_insert 11 = .ok (.aload_n 0, 1) := by decide +kernel
theorem dX0_insert_12 : decode cX0_insert 12 = .ok (.iload_n 1, 1) := by decide +kernel
theorem dX0_insert_13 : decode cX0_insert 13 = .ok (.invokevirtual 27, 3) := by decide +kernel
theorem dX0_insert_16 : decode cX0_insert 16 = .ok (.istore 7, 2) := by decide +kernel
theorem dX0_insert_18 : decode cX0_insert 18 = .ok (.iload 7, 2) := by decide +kernel
theorem dX0_insert_20 : decode cX0_insert 20 = .ok (.bipush 6, 2) := by decide +kernel
theorem dX0_insert_22 : decode cX0_insert 22 = .ok (.imul, 1) := by decide +kernel
theorem dX0_insert_23 : decode cX0_insert 23 = .ok (.istore 8, 2) := by decide +kernel
theorem dX0_insert_25 : decode cX0_insert 25 = .ok (.aload_n 0, 1) := by decide +kernel
theorem dX0_insert_26 : decode cX0_insert 26 = .ok (.getfield 15, 3) := by decide +kernel
theorem dX0_insert_29 : decode cX0_insert 29 = .ok (.iload 8, 2) := by decide +kernel
theorem dX0_insert_31 : decode cX0_insert 31 = .ok (.aload_n 0, 1) := by decide +kernel
theorem dX0_insert_32 : decode cX0_insert 32 = .ok (.getfield 15, 3) := by decide +kernel
theorem dX0_insert_35 : decode cX0_insert 35 = .ok (.iload 8, 2) := by decide +kernel
theorem dX0_insert_37 : decode cX0_insert 37 = .ok (.bipush 6, 2) := by decide +kernel
theorem dX0_insert_39 : decode cX0_insert 39 = .ok (.iadd, 1) := by decide +kernel
theorem dX0_insert_40 : decode cX0_insert 40 = .ok (.aload_n 0, 1) := by decide +kernel
theorem dX0_insert_41 : decode cX0_insert 41 = .ok (.getfield 9, 3) := by decide +kernel
theorem dX0_insert_44 : decode cX0_insert 44 = .ok (.iload 7, 2) := by decide +kernel
theorem dX0_insert_46 : decode cX0_insert 46 = .ok (.isub, 1) := by decide +kernel
theorem dX0_insert_47 : decode cX0_insert 47 = .ok (.bipush 6, 2) := by decide +kernel
theorem dX0_insert_49 : decode cX0_insert 49 = .ok (.imul, 1) := by decide +kernel
theorem dX0_insert_50 : decode cX0_insert 50 = .ok (.invokestatic 31, 3) := by decide +kernel
theorem dX0_insert_53 : decode cX0_insert 53 = .ok (.aload_n 0, 1) := by decide +kernel
theorem dX0_insert_54 : decode cX0_insert 54 = .ok (.dup, 1) := by decide +kernel
theorem dX0_insert_55 : decode cX0_insert 55 = .ok (.getfield 9, 3) := by decide +kernel
theorem dX0_insert_58 : decode cX0_insert 58 = .ok (.iconst 1, 1) := by decide +kernel
theorem dX0_insert_59 : decode cX0_insert 59 = .ok (.iadd, 1) := by decide +kernel
theorem dX0_insert_60 : decode cX0_insert 60 = .ok (.putfield 9, 3) := by decide +kernel
theorem dX0_insert_63 : decode cX0_insert 63 = .ok (.aload_n 0, 1) := by decide +kernel
theorem dX0_insert_64 : decode cX0_insert 64 = .ok (.iload 7, 2) := by decide +kernel
theorem dX0_insert_66 : decode cX0_insert 66 = .ok (.iconst 0, 1) := by decide +kernel
theorem dX0_insert_67 : decode cX0_insert 67 = .ok (.iload_n 1, 1) := by decide +kernel
theorem dX0_insert_68 : decode cX0_insert 68 = .ok (.invokevirtual 37, 3) := by decide +kernel
theorem dX0_insert_71 : decode cX0_insert 71 = .ok (.aload_n 0, 1) := by decide +kernel
theorem dX0_insert_72 : decode cX0_insert 72 = .ok (.iload 7, 2) := by decide +kernel
theorem dX0_insert_74 : decode cX0_insert 74 = .ok (.iconst 1, 1) := by decide +kernel
theorem dX0_insert_75 : decode cX0_insert 75 = .ok (.iload_n 2, 1) := by decide +kernel
theorem dX0_insert_76 : decode cX0_insert 76 = .ok (.invokevirtual 37, 3) := by decide +kernel
theorem dX0_insert_79 : decode cX0_insert 79 = .ok (.aload_n 0, 1) := by decide +kernel
theorem dX0_insert_80 : decode cX0_insert 80 = .ok (.iload 7, 2) := by decide +kernel
theorem dX0_insert_82 : decode cX0_insert 82 = .ok (.iconst 2, 1) := by decide +kernel
theorem dX0_insert_83 : decode cX0_insert 83 = .ok (.iload_n 3, 1) := by decide +kernel
theorem dX0_insert_84 : decode cX0_insert 84 = .ok (.invokevirtual 37, 3) := by decide +kernel
theorem dX0_insert_87 : decode cX0_insert 87 = .ok (.aload_n 0, 1) := by decide +kernel
theorem dX0_insert_88 : decode cX0_insert 88 = .ok (.iload 7, 2) := by decide +kernel
theorem dX0_insert_90 : decode cX0_insert 90 = .ok (.iconst 3, 1) := by decide +kernel
theorem dX0_insert_91 : decode cX0_insert 91 = .ok (.iload 4, 2) := by decide +kernel
theorem dX0_insert_93 : decode cX0_insert 93 = .ok (.invokevirtual 37, 3) := by decide +kernel
theorem dX0_insert_96 : decode cX0_insert 96 = .ok (.aload_n 0, 1) := by decide +kernel
theorem dX0_insert_97 : decode cX0_insert 97 = .ok (.iload 7, 2) := by decide +kernel
theorem dX0_insert_99 : decode cX0_insert 99 = .ok (.iconst 4, 1) := by decide +kernel
theorem dX0_insert_100 : decode cX0_insert 100 = .ok (.iload 5, 2) := by decide +kernel
theorem dX0_insert_102 : decode cX0_insert 102 = .ok (.invokevirtual 37, 3) := by decide +kernel
theorem dX0_insert_105 : decode cX0_insert 105 = .ok (.aload_n 0, 1) := by decide +kernel
theorem dX0_insert_106 : decode cX0_insert 106 = .ok (.iload 7, 2) := by decide +kernel
theorem dX0_insert_108 : decode cX0_insert 108 = .ok (.iconst 5, 1) := by decide +kernel
theorem dX0_insert_109 : decode cX0_insert 109 = .ok (.iload 6, 2) := by decide +kernel
theorem dX0_insert_111 : decode cX0_insert 111 = .ok (.invokevirtual 37, 3) := by decide +kernel
theorem dX0_insert_114 : decode cX0_insert 114 = .ok (.iload 7, 2) := by decide +kernel
theorem dX0_insert_116 : decode cX0_insert 116 = .ok (.ireturn, 1) := by decide +kernel
theorem dX0_takeOut_0 : decode cX0_takeOut 0 = .ok (.iload_n 1, 1) := by decide +kernel
theorem dX0_takeOut_1 : decode cX0_takeOut 1 = .ok (.ifCond .lt 11, 3) := by decide +kernel
theorem dX0_takeOut_4 : decode cX0_takeOut 4 = .ok (.iload_n 1, 1) := by decide +kernel
theorem dX0_takeOut_5 : decode cX0_takeOut 5 = .ok (.aload_n 0, 1) := by decide +kernel
theorem dX0_takeOut_6 : decode cX0_takeOut 6 = .ok (.getfield 9, 3) := by decide +kernel
theorem dX0_takeOut_9 : decode cX0_takeOut 9 = .ok (.if_icmp .lt 4, 3) := by decide +kernel
theorem dX0_takeOut_12 : decode cX0_takeOut 12 = .ok (.return_, 1) := by decide +kernel
theorem dX0_takeOut_13 : decode cX0_takeOut 13 = .ok (.iload_n 1, 1) := by decide +kernel
theorem dX0_takeOut_14 : decode cX0_takeOut 14 = .ok (.iconst 1, 1) := by decide +kernel
theorem dX0_takeOut_15 : decode cX0_takeOut 15 = .ok (.iadd, 1) := by decide +kernel
theorem dX0_takeOut_16 : decode cX0_takeOut 16 = .ok (.bipush 6, 2) := by decide +kernel
theorem dX0_takeOut_18 : decode cX0_takeOut 18 = .ok (.imul, 1) := by decide +kernel
theorem dX0_takeOut_19 : decode cX0_takeOut 19 = .ok (.istore_n 2, 1) := by decide +kernel
theorem dX0_takeOut_20 : decode cX0_takeOut 20 = .ok (.aload_n 0, 1) := by decide +kernel
theorem dX0_takeOut_21 : decode cX0_takeOut 21 = .ok (.getfield 15, 3) := by decide +kernel
theorem dX0_takeOut_24 : decode cX0_takeOut 24 = .ok (.iload_n 2, 1) := by decide +kernel
theorem dX0_takeOut_25 : decode cX0_takeOut 25 = .ok (.aload_n 0, 1) := by decide +kernel
theorem dX0_takeOut_26 : decode cX0_takeOut 26 = .ok (.getfield 15, 3) := by decide +kernel
theorem dX0_takeOut_29 : decode cX0_takeOut 29 = .ok (.iload_n 2, 1) := by decide +kernel
theorem dX0_takeOut_30 : decode cX0_takeOut 30 = .ok (.bipush 6, 2) := by decide +kernel
theorem dX0_takeOut_32 : decode cX0_takeOut 32 = .ok (.isub, 1) := by decide +kernel
theorem dX0_takeOut_33 : decode cX0_takeOut 33 = .ok (.aload_n 0, 1) := by decide +kernel
theorem dX0_takeOut_34 : decode cX0_takeOut 34 = .ok (.getfield 9, 3) := by decide +kernel
theorem dX0_takeOut_37 : decode cX0_takeOut 37 = .ok (.bipush 6, 2) := by decide +kernel
theorem dX0_takeOut_39 : decode cX0_takeOut 39 = .ok (.imul, 1) := by decide +kernel
theorem dX0_takeOut_40 : decode cX0_takeOut 40 = .ok (.iload_n 2, 1) := by decide +kernel
theorem dX0_takeOut_41 : decode cX0_takeOut 41 = .ok (.isub, 1) := by decide +kernel
theorem dX0_takeOut_42 : decode cX0_takeOut 42 = .ok (.invokestatic 31, 3) := by decide +kernel
theorem dX0_takeOut_45 : decode cX0_takeOut 45 = .ok (.aload_n 0, 1) := by decide +kernel
theorem dX0_takeOut_46 : decode cX0_takeOut 46 = .ok (.dup, 1) := by decide +kernel
theorem dX0_takeOut_47 : decode cX0_takeOut 47 = .ok (.getfield 9, 3) := by decide +kernel
theorem dX0_takeOut_50 : decode cX0_takeOut 50 = .ok (.iconst 1, 1) := by decide +kernel
theorem dX0_takeOut_51 : decode cX0_takeOut 51 = .ok (.isub, 1) := by decide +kernel
theorem dX0_takeOut_52 : decode cX0_takeOut 52 = .ok (.putfield 9, 3) := by decide +kernel
theorem dX0_takeOut_55 : decode cX0_takeOut 55 = .ok (.return_, 1) := by decide +kernel
set_option maxRecDepth 20000 in
theorem ggX0_moveTo_X0_cell : GoodIn wsX0_moveTo wsX0_cell := goodIn_r _ [5, 6, 7, 28, 29] (by decide +kernel) (by decide +kernel)
set_option maxRecDepth 20000 in
theorem gX0_moveTo_X0_cell : GoodIn wsX0_moveTo (wsV RX0 19 RX0 yX0_cell wsX0_cell) := goodIn_app (goodIn_of _ (by decide +kernel)) ggX0_moveTo_X0_cell
set_option maxRecDepth 20000 in
theorem ggX0_moveTo_X0_takeOut : GoodIn wsX0_moveTo wsX0_takeOut := goodIn_r _ [11, 6, 7, 12, 13, 14, 15, 28, 29] (by decide +kernel) (by decide +kernel)
set_option maxRecDepth 20000 in
theorem gX0_moveTo_X0_takeOut : GoodIn wsX0_moveTo (wsV RX0 41 RX0 yX0_takeOut wsX0_takeOut) := goodIn_app (goodIn_of _ (by decide +kernel)) ggX0_moveTo_X0_takeOut
set_option maxRecDepth 20000 in
theorem ggX0_moveTo_X0_insert : GoodIn wsX0_moveTo wsX0_insert := goodIn_r _ [19, 6, 7, 12, 13, 14, 15, 20, 21, 22, 4, 23, 1, 2, 3, 5, 24, 25, 26, 27, 28, 29] (by decide +kernel) (by decide +kernel)
set_option maxRecDepth 20000 in
theorem gX0_moveTo_X0_insert : GoodIn wsX0_moveTo (wsV RX0 45 RX0 yX0_insert wsX0_insert) := goodIn_app (goodIn_of _ (by decide +kernel)) ggX0_moveTo_X0_insert
theorem dX0_moveTo_0 : decode cX0_moveTo 0 = .ok (.aload_n 0, 1) := by decide +kernel
theorem dX0_moveTo_1 : decode cX0_moveTo 1 = .ok (.iload_n 1, 1) := by decide +kernel
theorem dX0_moveTo_2 : decode cX0_moveTo 2 = .ok (.iconst 1, 1) := by decide +kernel
theorem dX0_moveTo_3 : decode cX0_moveTo 3 = .ok (.invokevirtual 19, 3) := by decide +kernel
theorem dX0_moveTo_6 : decode cX0_moveTo 6 = .ok (.istore_n 3, 1) := by decide +kernel
theorem dX0_moveTo_7 : decode cX0_moveTo 7 = .ok (.aload_n 0, 1) := by decide +kernel
theorem dX0_moveTo_8 : decode cX0_moveTo 8 = .ok (.iload_n 1, 1) := by decide +kernel
theorem dX0_moveTo_9 : decode cX0_moveTo 9 = .ok (.iconst 2, 1) := by decide +kernel
theorem dX0_moveTo_10 : decode cX0_moveTo 10 = .ok (.invokevirtual 19, 3) := by decide +kernel
theorem dX0_moveTo_13 : decode cX0_moveTo 13 = .ok (.istore 4, 2) := by decide +kernel
theorem dX0_moveTo_15 : decode cX0_moveTo 15 = .ok (.aload_n 0, 1) := by decide +kernel
theorem dX0_moveTo_16 : decode cX0_moveTo 16 = .ok (.iload_n 1, 1) := by decide +kernel
theorem dX0_moveTo_17 : decode cX0_moveTo 17 = .ok (.iconst 3, 1) := by decide +kernel
theorem dX0_moveTo_18 : decode cX0_moveTo 18 = .ok (.invokevirtual 19, 3) := by decide +kernel
theorem dX0_moveTo_21 : decode cX0_moveTo 21 = .ok (.istore 5, 2) := by decide +kernel
theorem dX0_moveTo_23 : decode cX0_moveTo 23 = .ok (.aload_n 0, 1) := by decide +kernel
theorem dX0_moveTo_24 : decode cX0_moveTo 24 = .ok (.iload_n 1, 1) := by decide +kernel
theorem dX0_moveTo_25 : decode cX0_moveTo 25 = .ok (.iconst 4, 1) := by decide +kernel
theorem dX0_moveTo_26 : decode cX0_moveTo 26 = .ok (.invokevirtual 19, 3) := by decide +kernel
theorem dX0_moveTo_29 : decode cX0_moveTo 29 = .ok (.istore 6, 2) := by decide +kernel
theorem dX0_moveTo_31 : decode cX0_moveTo 31 = .ok (.aload_n 0, 1) := by decide +kernel
theorem dX0_moveTo_32 : decode cX0_moveTo 32 = .ok (.iload_n 1, 1) := by decide +kernel
theorem dX0_moveTo_33 : decode cX0_moveTo 33 = .ok (.iconst 5, 1) := by decide +kernel
theorem dX0_moveTo_34 : decode cX0_moveTo 34 = .ok (.invokevirtual 19, 3) := by decide +kernel
theorem dX0_moveTo_37 : decode cX0_moveTo 37 = .ok (.istore 7, 2) := by decide +kernel
theorem dX0_moveTo_39 : decode cX0_moveTo 39 = .ok (.aload_n 0, 1) := by decide +kernel
theorem dX0_moveTo_40 : decode cX0_moveTo 40 = .ok (.iload_n 1, 1) := by decide +kernel
theorem dX0_moveTo_41 : decode cX0_moveTo 41 = .ok (.invokevirtual 41, 3) := by decide +kernel
theorem dX0_moveTo_44 : decode cX0_moveTo 44 = .ok (.aload_n 0, 1) := by decide +kernel
theorem dX0_moveTo_45 : decode cX0_moveTo 45 = .ok (.iload_n 2, 1) := by decide +kernel
theorem dX0_moveTo_46 : decode cX0_moveTo 46 = .ok (.iload_n 3, 1) := by decide +kernel
theorem dX0_moveTo_47 : decode cX0_moveTo 47 = .ok (.iload 4, 2) := by decide +kernel
theorem dX0_moveTo_49 : decode cX0_moveTo 49 = .ok (.iload 5, 2) := by decide +kernel
theorem dX0_moveTo_51 : decode cX0_moveTo 51 = .ok (.iload 6, 2) := by decide +kernel
theorem dX0_moveTo_53 : decode cX0_moveTo 53 = .ok (.iload 7, 2) := by decide +kernel
theorem dX0_moveTo_55 : decode cX0_moveTo 55 = .ok (.invokevirtual 45, 3) := by decide +kernel
theorem dX0_moveTo_58 : decode cX0_moveTo 58 = .ok (.ireturn, 1) := by decide +kernel
set_option maxRecDepth 20000 in
theorem ggX0_canRaise_X0_cell : GoodIn wsX0_canRaise wsX0_cell := goodIn_r _ [10, 1, 11, 12, 13] (by decide +kernel) (by decide +kernel)
set_option maxRecDepth 20000 in
theorem gX0_canRaise_X0_cell : GoodIn wsX0_canRaise (wsV RX0 19 RX0 yX0_cell wsX0_cell) := goodIn_app (goodIn_of _ (by decide +kernel)) ggX0_canRaise_X0_cell
theorem dX0_canRaise_0 : decode cX0_canRaise 0 = .ok (.iconst 0, 1) := by decide +kernel
theorem dX0_canRaise_1 : decode cX0_canRaise 1 = .ok (.istore_n 2, 1) := by decide +kernel
theorem dX0_canRaise_2 : decode cX0_canRaise 2 = .ok (.iload_n 2, 1) := by decide +kernel
theorem dX0_canRaise_3 : decode cX0_canRaise 3 = .ok (.aload_n 0, 1) := by decide +kernel
theorem dX0_canRaise_4 : decode cX0_canRaise 4 = .ok (.getfield 9, 3) := by decide +kernel
theorem dX0_canRaise_7 : decode cX0_canRaise 7 = .ok (.if_icmp .ge 28, 3) := by decide +kernel
theorem dX0_canRaise_10 : decode cX0_canRaise 10 = .ok (.aload_n 0, 1) := by decide +kernel
theorem dX0_canRaise_11 : decode cX0_canRaise 11 = .ok (.iload_n 2, 1) := by decide +kernel
theorem dX0_canRaise_12 : decode cX0_canRaise 12 = .ok (.iconst 1, 1) := by decide +kernel
theorem dX0_canRaise_13 : decode cX0_canRaise 13 = .ok (.invokevirtual 19, 3) := by decide +kernel
theorem dX0_canRaise_16 : decode cX0_canRaise 16 = .ok (.iload_n 1, 1) := by decide +kernel
theorem dX0_canRaise_17 : decode cX0_canRaise 17 = .ok (.iadd, 1) := by decide +kernel
theorem dX0_canRaise_18 : decode cX0_canRaise 18 = .ok (.invokestatic 49, 3) := by decide +kernel
theorem dX0_canRaise_21 : decode cX0_canRaise 21 = .ok (.sipush 9999, 3) := by decide +kernel
theorem dX0_canRaise_24 : decode cX0_canRaise 24 = .ok (.if_icmp .le 5, 3) := by decide +kernel
theorem dX0_canRaise_27 : decode cX0_canRaise 27 = .ok (.iconst 0, 1) := by decide +kernel
theorem dX0_canRaise_28 : decode cX0_canRaise 28 = .ok (.ireturn, 1) := by decide +kernel
theorem dX0_canRaise_29 : decode cX0_canRaise 29 = .ok (.iinc 2 1, 3) := by decide +kernel
theorem dX0_canRaise_32 : decode cX0_canRaise 32 = .ok (.goto (-30), 3) := by decide +kernel
theorem dX0_canRaise_35 : decode cX0_canRaise 35 = .ok (.iconst 1, 1) := by decide +kernel
theorem dX0_canRaise_36 : decode cX0_canRaise 36 = .ok (.ireturn, 1) := by decide +kernel
set_option maxRecDepth 20000 in
theorem ggX0_raise_X0_cell : GoodIn wsX0_raise wsX0_cell := goodIn_r _ [6, 1, 7, 12, 13] (by decide +kernel) (by decide +kernel)
set_option maxRecDepth 20000 in
theorem gX0_raise_X0_cell : GoodIn wsX0_raise (wsV RX0 19 RX0 yX0_cell wsX0_cell) := goodIn_app (goodIn_of _ (by decide +kernel)) ggX0_raise_X0_cell
set_option maxRecDepth 20000 in
theorem ggX0_raise_X0_put : GoodIn wsX0_raise wsX0_put := goodIn_r _ [11, 1, 7, 12, 13] (by decide +kernel) (by decide +kernel)
set_option maxRecDepth 20000 in
theorem gX0_raise_X0_put : GoodIn wsX0_raise (wsV RX0 37 RX0 yX0_put wsX0_put) := goodIn_app (goodIn_of _ (by decide +kernel)) ggX0_raise_X0_put
theorem dX0_raise_0 : decode cX0_raise 0 = .ok (.iconst 0, 1) := by decide +kernel
theorem dX0_raise_1 : decode cX0_raise 1 = .ok (.istore_n 2, 1) := by decide +kernel
theorem dX0_raise_2 : decode cX0_raise 2 = .ok (.iload_n 2, 1) := by decide +kernel
theorem dX0_raise_3 : decode cX0_raise 3 = .ok (.aload_n 0, 1) := by decide +kernel
theorem dX0_raise_4 : decode cX0_raise 4 = .ok (.getfield 9, 3) := by decide +kernel
theorem dX0_raise_7 : decode cX0_raise 7 = .ok (.if_icmp .ge 23, 3) := by decide +kernel
theorem dX0_raise_10 : decode cX0_raise 10 = .ok (.aload_n 0, 1) := by decide +kernel
theorem dX0_raise_11 : decode cX0_raise 11 = .ok (.iload_n 2, 1) := by decide +kernel
theorem dX0_raise_12 : decode cX0_raise 12 = .ok (.iconst 1, 1) := by decide +kernel
theorem dX0_raise_13 : decode cX0_raise 13 = .ok (.aload_n 0, 1) := by decide +kernel
theorem dX0_raise_14 : decode cX0_raise 14 = .ok (.iload_n 2, 1) := by decide +kernel
theorem dX0_raise_15 : decode cX0_raise 15 = .ok (.iconst 1, 1) := by decide +kernel
theorem dX0_raise_16 : decode cX0_raise 16 = .ok (.invokevirtual 19, 3) := by decide +kernel
theorem dX0_raise_19 : decode cX0_raise 19 = .ok (.iload_n 1, 1) := by decide +kernel
theorem dX0_raise_20 : decode cX0_raise 20 = .ok (.iadd, 1) := by decide +kernel
theorem dX0_raise_21 : decode cX0_raise 21 = .ok (.invokevirtual 37, 3) := by decide +kernel
theorem dX0_raise_24 : decode cX0_raise 24 = .ok (.iinc 2 1, 3) := by decide +kernel
theorem dX0_raise_27 : decode cX0_raise 27 = .ok (.goto (-25), 3) := by decide +kernel
theorem dX0_raise_30 : decode cX0_raise 30 = .ok (.return_, 1) := by decide +kernel
set_option maxRecDepth 20000 in
theorem ggX0_canStretch_X0_cell : GoodIn wsX0_canStretch wsX0_cell := goodIn_r _ [6, 1, 7, 15, 16] (by decide +kernel) (by decide +kernel)
set_option maxRecDepth 20000 in
theorem gX0_canStretch_X0_cell : GoodIn wsX0_canStretch (wsV RX0 19 RX0 yX0_cell wsX0_cell) := goodIn_app (goodIn_of _ (by decide +kernel)) ggX0_canStretch_X0_cell
set_option maxRecDepth 20000 in
theorem ggX0_canStretch_X0_stretchedFrame : GoodIn wsX0_canStretch wsX0_stretchedFrame := goodIn_r _ [10] (by decide +kernel) (by decide +kernel)
set_option maxRecDepth 20000 in
theorem gX0_canStretch_X0_stretchedFrame : GoodIn wsX0_canStretch (va_wsS RX0 54 yX0_stretchedFrame wsX0_stretchedFrame) := goodIn_app (goodIn_of _ (by decide +kernel)) ggX0_canStretch_X0_stretchedFrame
set_option maxRecDepth 20000 in
theorem ggX0_canStretch_X0_isLocked : GoodIn wsX0_canStretch wsX0_isLocked := goodIn_r _ [14, 2, 3, 4, 5, 6, 1, 7, 15, 16] (by decide +kernel) (by decide +kernel)
set_option maxRecDepth 20000 in
theorem gX0_canStretch_X0_isLocked : GoodIn wsX0_canStretch (wsV RX0 23 RX0 yX0_isLocked wsX0_isLocked) := goodIn_app (goodIn_of _ (by decide +kernel)) ggX0_canStretch_X0_isLocked
theorem dX0_canStretch_0 : decode cX0_canStretch 0 = .ok (.iconst (-1), 1) := by decide +kernel
theorem dX0_canStretch_1 : decode cX0_canStretch 1 = .ok (.istore 4, 2) := by decide +kernel
theorem dX0_canStretch_3 : decode cX0_canStretch 3 = .ok (.iconst 0, 1) := by decide +kernel
theorem dX0_canStretch_4 : decode cX0_canStretch 4 = .ok (.istore 5, 2) := by decide +kernel
theorem dX0_canStretch_6 : decode cX0_canStretch 6 = .ok (.iload 5, 2) := by decide +kernel
theorem dX0_canStretch_8 : decode cX0_canStretch 8 = .ok (.aload_n 0, 1) := by decide +kernel
theorem dX0_canStretch_9 : decode cX0_canStretch 9 = .ok (.getfield 9, 3) := by decide +kernel
theorem dX0_canStretch_12 : decode cX0_canStretch 12 = .ok (.if_icmp .ge 65, 3) := by decide +kernel
theorem dX0_canStretch_15 : decode cX0_canStretch 15 = .ok (.aload_n 0, 1) := by decide +kernel
theorem dX0_canStretch_16 : decode cX0_canStretch 16 = .ok (.iload 5, 2) := by decide +kernel
theorem dX0_canStretch_18 : decode cX0_canStretch 18 = .ok (.iconst 0, 1) := by decide +kernel
theorem dX0_canStretch_19 : decode cX0_canStretch 19 = .ok (.invokevirtual 19, 3) := by decide +kernel
theorem dX0_canStretch_22 : decode cX0_canStretch 22 = .ok (.istore 6, 2) := by decide +kernel
theorem dX0_canStretch_24 : decode cX0_canStretch 24 = .ok (.iload 6, 2) := by decide +kernel
theorem dX0_canStretch_26 : decode cX0_canStretch 26 = .ok (.iload_n 1, 1) := by decide +kernel
theorem dX0_canStretch_27 : decode cX0_canStretch 27 = .ok (.iload_n 2, 1) := by decide +kernel
theorem dX0_canStretch_28 : decode cX0_canStretch 28 = .ok (.iload_n 3, 1) := by decide +kernel
theorem dX0_canStretch_29 : decode cX0_canStretch 29 = .ok (.invokestatic 54, 3) := by decide +kernel
theorem dX0_canStretch_32 : decode cX0_canStretch 32 = .ok (.istore 7, 2) := by decide +kernel
theorem dX0_canStretch_34 : decode cX0_canStretch 34 = .ok (.iload 7, 2) := by decide +kernel
theorem dX0_canStretch_36 : decode cX0_canStretch 36 = .ok (.sipush 999, 3) := by decide +kernel
theorem dX0_canStretch_39 : decode cX0_canStretch 39 = .ok (.if_icmp .gt 26, 3) := by decide +kernel
theorem dX0_canStretch_42 : decode cX0_canStretch 42 = .ok (.iload 7, 2) := by decide +kernel
theorem dX0_canStretch_44 : decode cX0_canStretch 44 = .ok (.iload 4, 2) := by decide +kernel
theorem dX0_canStretch_46 : decode cX0_canStretch 46 = .ok (.if_icmp .eq 19, 3) := by decide +kernel
theorem dX0_canStretch_49 : decode cX0_canStretch 49 = .ok (.aload_n 0, 1) := by decide +kernel
theorem dX0_canStretch_50 : decode cX0_canStretch 50 = .ok (.iload 5, 2) := by decide +kernel
theorem dX0_canStretch_52 : decode cX0_canStretch 52 = .ok (.invokevirtual 23, 3) := by decide +kernel
theorem dX0_canStretch_55 : decode cX0_canStretch 55 = .ok (.ifCond .eq 12, 3) := by decide +kernel
theorem dX0_canStretch_58 : decode cX0_canStretch 58 = .ok (.iload 7, 2) := by decide +kernel
theorem dX0_canStretch_60 : decode cX0_canStretch 60 = .ok (.iload 6, 2) := by decide +kernel
theorem dX0_canStretch_62 : decode cX0_canStretch 62 = .ok (.if_icmp .eq 5, 3) := by decide +kernel
theorem dX0_canStretch_65 : decode cX0_canStretch 65 = .ok (.iconst 0, 1) := by decide +kernel
theorem dX0_canStretch_66 : decode cX0_canStretch 66 = .ok (.ireturn, 1) := by decide +kernel
theorem dX0_canStretch_67 : decode cX0_canStretch 67 = .ok (.iload 7, 2) := by decide +kernel
theorem dX0_canStretch_69 : decode cX0_canStretch 69 = .ok (.istore 4, 2) := by decide +kernel
theorem dX0_canStretch_71 : decode cX0_canStretch 71 = .ok (.iinc 5 1, 3) := by decide +kernel
theorem dX0_canStretch_74 : decode cX0_canStretch 74 = .ok (.goto (-68), 3) := by decide +kernel
theorem dX0_canStretch_77 : decode cX0_canStretch 77 = .ok (.iconst 1, 1) := by decide +kernel
theorem dX0_canStretch_78 : decode cX0_canStretch 78 = .ok (.ireturn, 1) := by decide +kernel
set_option maxRecDepth 20000 in
theorem ggX0_stretchSpan_X0_cell : GoodIn wsX0_stretchSpan wsX0_cell := goodIn_r _ [6, 1, 7, 15, 16] (by decide +kernel) (by decide +kernel)
set_option maxRecDepth 20000 in
theorem gX0_stretchSpan_X0_cell : GoodIn wsX0_stretchSpan (wsV RX0 19 RX0 yX0_cell wsX0_cell) := goodIn_app (goodIn_of _ (by decide +kernel)) ggX0_stretchSpan_X0_cell
set_option maxRecDepth 20000 in
theorem ggX0_stretchSpan_X0_stretchedFrame : GoodIn wsX0_stretchSpan wsX0_stretchedFrame := goodIn_r _ [10] (by decide +kernel) (by decide +kernel)
set_option maxRecDepth 20000 in
theorem gX0_stretchSpan_X0_stretchedFrame : GoodIn wsX0_stretchSpan (va_wsS RX0 54 yX0_stretchedFrame wsX0_stretchedFrame) := goodIn_app (goodIn_of _ (by decide +kernel)) ggX0_stretchSpan_X0_stretchedFrame
set_option maxRecDepth 20000 in
theorem ggX0_stretchSpan_X0_put : GoodIn wsX0_stretchSpan wsX0_put := goodIn_r _ [14, 1, 7, 15, 16] (by decide +kernel) (by decide +kernel)
set_option maxRecDepth 20000 in
theorem gX0_stretchSpan_X0_put : GoodIn wsX0_stretchSpan (wsV RX0 37 RX0 yX0_put wsX0_put) := goodIn_app (goodIn_of _ (by decide +kernel)) ggX0_stretchSpan_X0_put
theorem dX0_stretchSpan_0 : decode cX0_stretchSpan 0 = .ok (.iconst 0, 1) := by decide +kernel
theorem dX0_stretchSpan_1 : decode cX0_stretchSpan 1 = .ok (.istore 4, 2) := by decide +kernel
theorem dX0_stretchSpan_3 : decode cX0_stretchSpan 3 = .ok (.iconst 0, 1) := by decide +kernel
theorem dX0_stretchSpan_4 : decode cX0_stretchSpan 4 = .ok (.istore 5, 2) := by decide +kernel
theorem dX0_stretchSpan_6 : decode cX0_stretchSpan 6 = .ok (.iload 5, 2) := by decide +kernel
theorem dX0_stretchSpan_8 : decode cX0_stretchSpan 8 = .ok (.aload_n 0, 1) := by decide +kernel
theorem dX0_stretchSpan_9 : decode cX0_stretchSpan 9 = .ok (.getfield 9, 3) := by decide +kernel
theorem dX0_stretchSpan_12 : decode cX0_stretchSpan 12 = .ok (.if_icmp .ge 47, 3) := by decide +kernel
theorem dX0_stretchSpan_15 : decode cX0_stretchSpan 15 = .ok (.aload_n 0, 1) := by decide +kernel
theorem dX0_stretchSpan_16 : decode cX0_stretchSpan 16 = .ok (.iload 5, 2) := by decide +kernel
theorem dX0_stretchSpan_18 : decode cX0_stretchSpan 18 = .ok (.iconst 0, 1) := by decide +kernel
theorem dX0_stretchSpan_19 : decode cX0_stretchSpan 19 = .ok (.invokevirtual 19, 3) := by decide +kernel
theorem dX0_stretchSpan_22 : decode cX0_stretchSpan 22 = .ok (.istore 6, 2) := by decide +kernel
theorem dX0_stretchSpan_24 : decode cX0_stretchSpan 24 = .ok (.iload 6, 2) := by decide +kernel
theorem dX0_stretchSpan_26 : decode cX0_stretchSpan 26 = .ok (.iload_n 1, 1) := by decide +kernel
theorem dX0_stretchSpan_27 : decode cX0_stretchSpan 27 = .ok (.iload_n 2, 1) := by decide +kernel
theorem dX0_stretchSpan_28 : decode cX0_stretchSpan 28 = .ok (.iload_n 3, 1) := by decide +kernel
theorem dX0_stretchSpan_29 : decode cX0_stretchSpan 29 = .ok (.invokestatic 54, 3) := by decide +kernel
theorem dX0_stretchSpan_32 : decode cX0_stretchSpan 32 = .ok (.istore 7, 2) := by decide +kernel
theorem dX0_stretchSpan_34 : decode cX0_stretchSpan 34 = .ok (.iload 7, 2) := by decide +kernel
theorem dX0_stretchSpan_36 : decode cX0_stretchSpan 36 = .ok (.iload 6, 2) := by decide +kernel
theorem dX0_stretchSpan_38 : decode cX0_stretchSpan 38 = .ok (.if_icmp .eq 6, 3) := by decide +kernel
theorem dX0_stretchSpan_41 : decode cX0_stretchSpan 41 = .ok (.iinc 4 1, 3) := by decide +kernel
theorem dX0_stretchSpan_44 : decode cX0_stretchSpan 44 = .ok (.aload_n 0, 1) := by decide +kernel
theorem dX0_stretchSpan_45 : decode cX0_stretchSpan 45 = .ok (.iload 5, 2) := by decide +kernel
theorem dX0_stretchSpan_47 : decode cX0_stretchSpan 47 = .ok (.iconst 0, 1) := by decide +kernel
theorem dX0_stretchSpan_48 : decode cX0_stretchSpan 48 = .ok (.iload 7, 2) := by decide +kernel
theorem dX0_stretchSpan_50 : decode cX0_stretchSpan 50 = .ok (.invokevirtual 37, 3) := by decide +kernel
theorem dX0_stretchSpan_53 : decode cX0_stretchSpan 53 = .ok (.iinc 5 1, 3) := by decide +kernel
theorem dX0_stretchSpan_56 : decode cX0_stretchSpan 56 = .ok (.goto (-50), 3) := by decide +kernel
theorem dX0_stretchSpan_59 : decode cX0_stretchSpan 59 = .ok (.iload 4, 2) := by decide +kernel
theorem dX0_stretchSpan_61 : decode cX0_stretchSpan 61 = .ok (.ireturn, 1) := by decide +kernel
theorem dX0_stretchedFrame_0 : decode cX0_stretchedFrame 0 = .ok (.iload_n 0, 1) := by decide +kernel
theorem dX0_stretchedFrame_1 : decode cX0_stretchedFrame 1 = .ok (.iload_n 1, 1) := by decide +kernel
theorem dX0_stretchedFrame_2 : decode cX0_stretchedFrame 2 = .ok (.if_icmp .ge 5, 3) := by decide +kernel
theorem dX0_stretchedFrame_5 : decode cX0_stretchedFrame 5 = .ok (.iload_n 0, 1) := by decide +kernel
theorem dX0_stretchedFrame_6 : decode cX0_stretchedFrame 6 = .ok (.ireturn, 1) := by decide +kernel
theorem dX0_stretchedFrame_7 : decode cX0_stretchedFrame 7 = .ok (.iload_n 0, 1) := by decide +kernel
theorem dX0_stretchedFrame_8 : decode cX0_stretchedFrame 8 = .ok (.iload_n 2, 1) := by decide +kernel
theorem dX0_stretchedFrame_9 : decode cX0_stretchedFrame 9 = .ok (.if_icmp .gt 14, 3) := by decide +kernel
theorem dX0_stretchedFrame_12 : decode cX0_stretchedFrame 12 = .ok (.iload_n 1, 1) := by decide +kernel
theorem dX0_stretchedFrame_13 : decode cX0_stretchedFrame 13 = .ok (.iload_n 0, 1) := by decide +kernel
theorem dX0_stretchedFrame_14 : decode cX0_stretchedFrame 14 = .ok (.iload_n 1, 1) := by decide +kernel
theorem dX0_stretchedFrame_15 : decode cX0_stretchedFrame 15 = .ok (.isub, 1) := by decide +kernel
theorem dX0_stretchedFrame_16 : decode cX0_stretchedFrame 16 = .ok (.iload_n 3, 1) := by decide +kernel
theorem dX0_stretchedFrame_17 : decode cX0_stretchedFrame 17 = .ok (.imul, 1) := by decide +kernel
theorem dX0_stretchedFrame_18 : decode cX0_stretchedFrame 18 = .ok (.bipush 100, 2) := by decide +kernel
theorem dX0_stretchedFrame_20 : decode cX0_stretchedFrame 20 = .ok (.idiv, 1) := by decide +kernel
theorem dX0_stretchedFrame_21 : decode cX0_stretchedFrame 21 = .ok (.iadd, 1) := by decide +kernel
theorem dX0_stretchedFrame_22 : decode cX0_stretchedFrame 22 = .ok (.ireturn, 1) := by decide +kernel
theorem dX0_stretchedFrame_23 : decode cX0_stretchedFrame 23 = .ok (.iload_n 0, 1) := by decide +kernel
theorem dX0_stretchedFrame_24 : decode cX0_stretchedFrame 24 = .ok (.iload_n 2, 1) := by decide +kernel
theorem dX0_stretchedFrame_25 : decode cX0_stretchedFrame 25 = .ok (.iload_n 1, 1) := by decide +kernel
theorem dX0_stretchedFrame_26 : decode cX0_stretchedFrame 26 = .ok (.isub, 1) := by decide +kernel
theorem dX0_stretchedFrame_27 : decode cX0_stretchedFrame 27 = .ok (.iload_n 3, 1) := by decide +kernel
theorem dX0_stretchedFrame_28 : decode cX0_stretchedFrame 28 = .ok (.imul, 1) := by decide +kernel
theorem dX0_stretchedFrame_29 : decode cX0_stretchedFrame 29 = .ok (.bipush 100, 2) := by decide +kernel
theorem dX0_stretchedFrame_31 : decode cX0_stretchedFrame 31 = .ok (.idiv, 1) := by decide +kernel
theorem dX0_stretchedFrame_32 : decode cX0_stretchedFrame 32 = .ok (.iadd, 1) := by decide +kernel
theorem dX0_stretchedFrame_33 : decode cX0_stretchedFrame 33 = .ok (.iload_n 2, 1) := by decide +kernel
theorem dX0_stretchedFrame_34 : decode cX0_stretchedFrame 34 = .ok (.iload_n 1, 1) := by decide +kernel
theorem dX0_stretchedFrame_35 : decode cX0_stretchedFrame 35 = .ok (.isub, 1) := by decide +kernel
theorem dX0_stretchedFrame_36 : decode cX0_stretchedFrame 36 = .ok (.isub, 1) := by decide +kernel
theorem dX0_stretchedFrame_37 : decode cX0_stretchedFrame 37 = .ok (.ireturn, 1) := by decide +kernel
set_option maxRecDepth 20000 in
theorem ggX0_tangentOf_X0_cell : GoodIn wsX0_tangentOf wsX0_cell := goodIn_r _ [6, 1, 7, 11, 12] (by decide +kernel) (by decide +kernel)
set_option maxRecDepth 20000 in
theorem gX0_tangentOf_X0_cell : GoodIn wsX0_tangentOf (wsV RX0 19 RX0 yX0_cell wsX0_cell) := goodIn_app (goodIn_of _ (by decide +kernel)) ggX0_tangentOf_X0_cell
set_option maxRecDepth 20000 in
theorem ggX0_tangentOf_X0_isTurn : GoodIn wsX0_tangentOf wsX0_isTurn := goodIn_r _ [10] (by decide +kernel) (by decide +kernel)
set_option maxRecDepth 20000 in
theorem gX0_tangentOf_X0_isTurn : GoodIn wsX0_tangentOf (va_wsS RX0 58 yX0_isTurn wsX0_isTurn) := goodIn_app (goodIn_of _ (by decide +kernel)) ggX0_tangentOf_X0_isTurn
theorem dX0_tangentOf_0 : decode cX0_tangentOf 0 = .ok (.aload_n 0, 1) := by decide +kernel
theorem dX0_tangentOf_1 : decode cX0_tangentOf 1 = .ok (.iload_n 1, 1) := by decide +kernel
theorem dX0_tangentOf_2 : decode cX0_tangentOf 2 = .ok (.iconst 3, 1) := by decide +kernel
theorem dX0_tangentOf_3 : decode cX0_tangentOf 3 = .ok (.invokevirtual 19, 3) := by decide +kernel
theorem dX0_tangentOf_6 : decode cX0_tangentOf 6 = .ok (.istore_n 2, 1) := by decide +kernel
theorem dX0_tangentOf_7 : decode cX0_tangentOf 7 = .ok (.iload_n 2, 1) := by decide +kernel
theorem dX0_tangentOf_8 : decode cX0_tangentOf 8 = .ok (.ifCond .ne 10, 3) := by decide +kernel
theorem dX0_tangentOf_11 : decode cX0_tangentOf 11 = .ok (.aload_n 0, 1) := by decide +kernel
theorem dX0_tangentOf_12 : decode cX0_tangentOf 12 = .ok (.iload_n 1, 1) := by decide +kernel
theorem dX0_tangentOf_13 : decode cX0_tangentOf 13 = .ok (.iconst 4, 1) := by decide +kernel
theorem dX0_tangentOf_14 : decode cX0_tangentOf 14 = .ok (.invokevirtual 19, 3) := by decide +kernel
theorem dX0_tangentOf_17 : decode cX0_tangentOf 17 = .ok (.ireturn, 1) := by decide +kernel
theorem dX0_tangentOf_18 : decode cX0_tangentOf 18 = .ok (.aload_n 0, 1) := by decide +kernel
theorem dX0_tangentOf_19 : decode cX0_tangentOf 19 = .ok (.iload_n 1, 1) := by decide +kernel
theorem dX0_tangentOf_20 : decode cX0_tangentOf 20 = .ok (.iconst 1, 1) := by decide +kernel
theorem dX0_tangentOf_21 : decode cX0_tangentOf 21 = .ok (.iadd, 1) := by decide +kernel
theorem dX0_tangentOf_22 : decode cX0_tangentOf 22 = .ok (.iconst 0, 1) := by decide +kernel
theorem dX0_tangentOf_23 : decode cX0_tangentOf 23 = .ok (.invokevirtual 19, 3) := by decide +kernel
theorem dX0_tangentOf_26 : decode cX0_tangentOf 26 = .ok (.aload_n 0, 1) := by decide +kernel
theorem dX0_tangentOf_27 : decode cX0_tangentOf 27 = .ok (.iload_n 1, 1) := by decide +kernel
theorem dX0_tangentOf_28 : decode cX0_tangentOf 28 = .ok (.iconst 1, 1) := by decide +kernel
theorem dX0_tangentOf_29 : decode cX0_tangentOf 29 = .ok (.isub, 1) := by decide +kernel
theorem dX0_tangentOf_30 : decode cX0_tangentOf 30 = .ok (.iconst 0, 1) := by decide +kernel
theorem dX0_tangentOf_31 : decode cX0_tangentOf 31 = .ok (.invokevirtual 19, 3) := by decide +kernel
theorem dX0_tangentOf_34 : decode cX0_tangentOf 34 = .ok (.isub, 1) := by decide +kernel
theorem dX0_tangentOf_35 : decode cX0_tangentOf 35 = .ok (.istore_n 3, 1) := by decide +kernel
theorem dX0_tangentOf_36 : decode cX0_tangentOf 36 = .ok (.iload_n 1, 1) := by decide +kernel
theorem dX0_tangentOf_37 : decode cX0_tangentOf 37 = .ok (.ifCond .le 17, 3) := by decide +kernel
theorem dX0_tangentOf_40 : decode cX0_tangentOf 40 = .ok (.iload_n 1, 1) := by decide +kernel
theorem dX0_tangentOf_41 : decode cX0_tangentOf 41 = .ok (.aload_n 0, 1) := by decide +kernel
theorem dX0_tangentOf_42 : decode cX0_tangentOf 42 = .ok (.getfield 9, 3) := by decide +kernel
theorem dX0_tangentOf_45 : decode cX0_tangentOf 45 = .ok (.iconst 1, 1) := by decide +kernel
theorem dX0_tangentOf_46 : decode cX0_tangentOf 46 = .ok (.isub, 1) := by decide +kernel
theorem dX0_tangentOf_47 : decode cX0_tangentOf 47 = .ok (.if_icmp .ge 7, 3) := by decide +kernel
theorem dX0_tangentOf_50 : decode cX0_tangentOf 50 = .ok (.iload_n 3, 1) := by decide +kernel
theorem dX0_tangentOf_51 : decode cX0_tangentOf 51 = .ok (.ifCond .gt 5, 3) := by decide +kernel
theorem dX0_tangentOf_54 : decode cX0_tangentOf 54 = .ok (.iconst 0, 1) := by decide +kernel
theorem dX0_tangentOf_55 : decode cX0_tangentOf 55 = .ok (.ireturn, 1) := by decide +kernel
theorem dX0_tangentOf_56 : decode cX0_tangentOf 56 = .ok (.aload_n 0, 1) := by decide +kernel
theorem dX0_tangentOf_57 : decode cX0_tangentOf 57 = .ok (.iload_n 1, 1) := by decide +kernel
theorem dX0_tangentOf_58 : decode cX0_tangentOf 58 = .ok (.iconst 1, 1) := by decide +kernel
theorem dX0_tangentOf_59 : decode cX0_tangentOf 59 = .ok (.isub, 1) := by decide +kernel
theorem dX0_tangentOf_60 : decode cX0_tangentOf 60 = .ok (.iconst 1, 1) := by decide +kernel
theorem dX0_tangentOf_61 : decode cX0_tangentOf 61 = .ok (.invokevirtual 19, 3) := by decide +kernel
theorem dX0_tangentOf_64 : decode cX0_tangentOf 64 = .ok (.istore 4, 2) := by decide +kernel
theorem dX0_tangentOf_66 : decode cX0_tangentOf 66 = .ok (.aload_n 0, 1) := by decide +kernel
theorem dX0_tangentOf_67 : decode cX0_tangentOf 67 = .ok (.iload_n 1, 1) := by decide +kernel
theorem dX0_tangentOf_68 : decode cX0_tangentOf 68 = .ok (.iconst 1, 1) := by decide +kernel
theorem dX0_tangentOf_69 : decode cX0_tangentOf 69 = .ok (.iadd, 1) := by decide +kernel
theorem dX0_tangentOf_70 : decode cX0_tangentOf 70 = .ok (.iconst 1, 1) := by decide +kernel
theorem dX0_tangentOf_71 : decode cX0_tangentOf 71 = .ok (.invokevirtual 19, 3) := by decide +kernel
theorem dX0_tangentOf_74 : decode cX0_tangentOf 74 = .ok (.istore 5, 2) := by decide +kernel
theorem dX0_tangentOf_76 : decode cX0_tangentOf 76 = .ok (.iload_n 2, 1) := by decide +kernel
theorem dX0_tangentOf_77 : decode cX0_tangentOf 77 = .ok (.iconst 2, 1) := by decide +kernel
theorem dX0_tangentOf_78 : decode cX0_tangentOf 78 = .ok (.if_icmp .ne 21, 3) := by decide +kernel
theorem dX0_tangentOf_81 : decode cX0_tangentOf 81 = .ok (.iload 4, 2) := by decide +kernel
theorem dX0_tangentOf_83 : decode cX0_tangentOf 83 = .ok (.aload_n 0, 1) := by decide +kernel
theorem dX0_tangentOf_84 : decode cX0_tangentOf 84 = .ok (.iload_n 1, 1) := by decide +kernel
theorem dX0_tangentOf_85 : decode cX0_tangentOf 85 = .ok (.iconst 1, 1) := by decide +kernel
theorem dX0_tangentOf_86 : decode cX0_tangentOf 86 = .ok (.invokevirtual 19, 3) := by decide +kernel
theorem dX0_tangentOf_89 : decode cX0_tangentOf 89 = .ok (.iload 5, 2) := by decide +kernel
theorem dX0_tangentOf_91 : decode cX0_tangentOf 91 = .ok (.invokestatic 58, 3) := by decide +kernel
theorem dX0_tangentOf_94 : decode cX0_tangentOf 94 = .ok (.ifCond .eq 5, 3) := by decide +kernel
theorem dX0_tangentOf_97 : decode cX0_tangentOf 97 = .ok (.iconst 0, 1) := by decide +kernel
theorem dX0_tangentOf_98 : decode cX0_tangentOf 98 = .ok (.ireturn, 1) := by decide +kernel
theorem dX0_tangentOf_99 : decode cX0_tangentOf 99 = .ok (.sipush 1000, 3) := by decide +kernel
theorem dX0_tangentOf_102 : decode cX0_tangentOf 102 = .ok (.iload 5, 2) := by decide +kernel
theorem dX0_tangentOf_104 : decode cX0_tangentOf 104 = .ok (.iload 4, 2) := by decide +kernel
theorem dX0_tangentOf_106 : decode cX0_tangentOf 106 = .ok (.isub, 1) := by decide +kernel
theorem dX0_tangentOf_107 : decode cX0_tangentOf 107 = .ok (.imul, 1) := by decide +kernel
theorem dX0_tangentOf_108 : decode cX0_tangentOf 108 = .ok (.iload_n 3, 1) := by decide +kernel
theorem dX0_tangentOf_109 : decode cX0_tangentOf 109 = .ok (.idiv, 1) := by decide +kernel
theorem dX0_tangentOf_110 : decode cX0_tangentOf 110 = .ok (.ireturn, 1) := by decide +kernel
theorem dX0_isTurn_0 : decode cX0_isTurn 0 = .ok (.iload_n 0, 1) := by decide +kernel
theorem dX0_isTurn_1 : decode cX0_isTurn 1 = .ok (.iload_n 1, 1) := by decide +kernel
theorem dX0_isTurn_2 : decode cX0_isTurn 2 = .ok (.if_icmp .gt 8, 3) := by decide +kernel
theorem dX0_isTurn_5 : decode cX0_isTurn 5 = .ok (.iload_n 2, 1) := by decide +kernel
theorem dX0_isTurn_6 : decode cX0_isTurn 6 = .ok (.iload_n 1, 1) := by decide +kernel
theorem dX0_isTurn_7 : decode cX0_isTurn 7 = .ok (.if_icmp .le 13, 3) := by decide +kernel
theorem dX0_isTurn_10 : decode cX0_isTurn 10 = .ok (.iload_n 0, 1) := by decide +kernel
theorem dX0_isTurn_11 : decode cX0_isTurn 11 = .ok (.iload_n 1, 1) := by decide +kernel
theorem dX0_isTurn_12 : decode cX0_isTurn 12 = .ok (.if_icmp .lt 12, 3) := by decide +kernel
theorem dX0_isTurn_15 : decode cX0_isTurn 15 = .ok (.iload_n 2, 1) := by decide +kernel
theorem dX0_isTurn_16 : decode cX0_isTurn 16 = .ok (.iload_n 1, 1) := by decide +kernel
theorem dX0_isTurn_17 : decode cX0_isTurn 17 = .ok (.if_icmp .lt 7, 3) := by decide +kernel
theorem dX0_isTurn_20 : decode cX0_isTurn 20 = .ok (.iconst 1, 1) := by decide +kernel
theorem dX0_isTurn_21 : decode cX0_isTurn 21 = .ok (.goto 4, 3) := by decide +kernel
theorem dX0_isTurn_24 : decode cX0_isTurn 24 = .ok (.iconst 0, 1) := by decide +kernel
theorem dX0_isTurn_25 : decode cX0_isTurn 25 = .ok (.ireturn, 1) := by decide +kernel
set_option maxRecDepth 20000 in
theorem ggX0_valueAt_X0_countUpTo : GoodIn wsX0_valueAt wsX0_countUpTo := goodIn_r _ [5, 6, 7, 8, 9, 4, 10, 11, 36, 37] (by decide +kernel) (by decide +kernel)
set_option maxRecDepth 20000 in
theorem gX0_valueAt_X0_countUpTo : GoodIn wsX0_valueAt (wsV RX0 27 RX0 yX0_countUpTo wsX0_countUpTo) := goodIn_app (goodIn_of _ (by decide +kernel)) ggX0_valueAt_X0_countUpTo
set_option maxRecDepth 20000 in
theorem ggX0_valueAt_X0_valueBehind : GoodIn wsX0_valueAt wsX0_valueBehind := goodIn_r _ [15, 16, 17, 18, 19, 6, 20, 21, 22, 23, 24, 7, 8, 9, 4, 10, 11, 25, 26, 27, 28, 29, 30, 31, 32, 33, 34, 35, 36, 37] (by decide +kernel) (by decide +kernel)
set_option maxRecDepth 20000 in
theorem gX0_valueAt_X0_valueBehind : GoodIn wsX0_valueAt (wsV RX0 62 RX0 yX0_valueBehind wsX0_valueBehind) := goodIn_app (goodIn_of _ (by decide +kernel)) ggX0_valueAt_X0_valueBehind
theorem dX0_valueAt_0 : decode cX0_valueAt 0 = .ok (.aload_n 0, 1) := by decide +kernel
theorem dX0_valueAt_1 : decode cX0_valueAt 1 = .ok (.aload_n 0, 1) := by decide +kernel
theorem dX0_valueAt_2 : decode cX0_valueAt 2 = .ok (.iload_n 1, 1) := by decide +kernel
theorem dX0_valueAt_3 : decode cX0_valueAt 3 = .ok (.invokevirtual 27, 3) := by decide +kernel
theorem dX0_valueAt_6 : decode cX0_valueAt 6 = .ok (.iconst 1, 1) := by decide +kernel
theorem dX0_valueAt_7 : decode cX0_valueAt 7 = .ok (.isub, 1) := by decide +kernel
theorem dX0_valueAt_8 : decode cX0_valueAt 8 = .ok (.iload_n 1, 1) := by decide +kernel
theorem dX0_valueAt_9 : decode cX0_valueAt 9 = .ok (.invokevirtual 62, 3) := by decide +kernel
theorem dX0_valueAt_12 : decode cX0_valueAt 12 = .ok (.ireturn, 1) := by decide +kernel
set_option maxRecDepth 20000 in
theorem ggX0_bake_X0_countUpTo : GoodIn wsX0_bake wsX0_countUpTo := goodIn_r _ [6, 1, 7, 8, 9, 5, 10, 11, 36, 37] (by decide +kernel) (by decide +kernel)
set_option maxRecDepth 20000 in
theorem gX0_bake_X0_countUpTo : GoodIn wsX0_bake (wsV RX0 27 RX0 yX0_countUpTo wsX0_countUpTo) := goodIn_app (goodIn_of _ (by decide +kernel)) ggX0_bake_X0_countUpTo
set_option maxRecDepth 20000 in
theorem ggX0_bake_X0_cell : GoodIn wsX0_bake wsX0_cell := goodIn_r _ [10, 1, 11, 36, 37] (by decide +kernel) (by decide +kernel)
set_option maxRecDepth 20000 in
theorem gX0_bake_X0_cell : GoodIn wsX0_bake (wsV RX0 19 RX0 yX0_cell wsX0_cell) := goodIn_app (goodIn_of _ (by decide +kernel)) ggX0_bake_X0_cell
set_option maxRecDepth 20000 in
theorem ggX0_bake_X0_valueBehind : GoodIn wsX0_bake wsX0_valueBehind := goodIn_r _ [15, 16, 17, 18, 19, 1, 20, 21, 22, 23, 24, 7, 8, 9, 5, 10, 11, 25, 26, 27, 28, 29, 30, 31, 32, 33, 34, 35, 36, 37] (by decide +kernel) (by decide +kernel)
set_option maxRecDepth 20000 in
theorem gX0_bake_X0_valueBehind : GoodIn wsX0_bake (wsV RX0 62 RX0 yX0_valueBehind wsX0_valueBehind) := goodIn_app (goodIn_of _ (by decide +kernel)) ggX0_bake_X0_valueBehind
theorem dX0_bake_0 : decode cX0_bake 0 = .ok (.iload_n 2, 1) := by decide +kernel
theorem dX0_bake_1 : decode cX0_bake 1 = .ok (.ifCond .lt 9, 3) := by decide +kernel
theorem dX0_bake_4 : decode cX0_bake 4 = .ok (.iload_n 3, 1) := by decide +kernel
theorem dX0_bake_5 : decode cX0_bake 5 = .ok (.aload_n 1, 1) := by decide +kernel
theorem dX0_bake_6 : decode cX0_bake 6 = .ok (.arraylength, 1) := by decide +kernel
theorem dX0_bake_7 : decode cX0_bake 7 = .ok (.if_icmp .lt 4, 3) := by decide +kernel
theorem dX0_bake_10 : decode cX0_bake 10 = .ok (.return_, 1) := by decide +kernel
theorem dX0_bake_11 : decode cX0_bake 11 = .ok (.aload_n 0, 1) := by decide +kernel
theorem dX0_bake_12 : decode cX0_bake 12 = .ok (.iload_n 2, 1) := by decide +kernel
theorem dX0_bake_13 : decode cX0_bake 13 = .ok (.invokevirtual 27, 3) := by decide +kernel
theorem dX0_bake_16 : decode cX0_bake 16 = .ok (.iconst 1, 1) := by decide +kernel
theorem dX0_bake_17 : decode cX0_bake 17 = .ok (.isub, 1) := by decide +kernel
theorem dX0_bake_18 : decode cX0_bake 18 = .ok (.istore 4, 2) := by decide +kernel
theorem dX0_bake_20 : decode cX0_bake 20 = .ok (.iload_n 2, 1) := by decide +kernel
theorem dX0_bake_21 : decode cX0_bake 21 = .ok (.istore 5, 2) := by decide +kernel
theorem dX0_bake_23 : decode cX0_bake 23 = .ok (.iload 5, 2) := by decide +kernel
theorem dX0_bake_25 : decode cX0_bake 25 = .ok (.iload_n 3, 1) := by decide +kernel
theorem dX0_bake_26 : decode cX0_bake 26 = .ok (.if_icmp .gt 49, 3) := by decide +kernel
theorem dX0_bake_29 : decode cX0_bake 29 = .ok (.iload 4, 2) := by decide +kernel
theorem dX0_bake_31 : decode cX0_bake 31 = .ok (.iconst 1, 1) := by decide +kernel
theorem dX0_bake_32 : decode cX0_bake 32 = .ok (.iadd, 1) := by decide +kernel
theorem dX0_bake_33 : decode cX0_bake 33 = .ok (.aload_n 0, 1) := by decide +kernel
theorem dX0_bake_34 : decode cX0_bake 34 = .ok (.getfield 9, 3) := by decide +kernel
theorem dX0_bake_37 : decode cX0_bake 37 = .ok (.if_icmp .ge 20, 3) := by decide +kernel
theorem dX0_bake_40 : decode cX0_bake 40 = .ok (.aload_n 0, 1) := by decide +kernel
theorem dX0_bake_41 : decode cX0_bake 41 = .ok (.iload 4, 2) := by decide +kernel
theorem dX0_bake_43 : decode cX0_bake 43 = .ok (.iconst 1, 1) := by decide +kernel
theorem dX0_bake_44 : decode cX0_bake 44 = .ok (.iadd, 1) := by decide +kernel
theorem dX0_bake_45 : decode cX0_bake 45 = .ok (.iconst 0, 1) := by decide +kernel
theorem dX0_bake_46 : decode cX0_bake 46 = .ok (.invokevirtual 19, 3) := by decide +kernel
theorem dX0_bake_49 : decode cX0_bake 49 = .ok (.iload 5, 2) := by decide +kernel
theorem dX0_bake_51 : decode cX0_bake 51 = .ok (.if_icmp .gt 6, 3) := by decide +kernel
theorem dX0_bake_54 : decode cX0_bake 54 = .ok (.iinc 4 1, 3) := by decide +kernel
theorem dX0_bake_57 : decode cX0_bake 57 = .ok (.aload_n 1, 1) := by decide +kernel
theorem dX0_bake_58 : decode cX0_bake 58 = .ok (.iload 5, 2) := by decide +kernel
theorem dX0_bake_60 : decode cX0_bake 60 = .ok (.aload_n 0, 1) := by decide +kernel
theorem dX0_bake_61 : decode cX0_bake 61 = .ok (.iload 4, 2) := by decide +kernel
theorem dX0_bake_63 : decode cX0_bake 63 = .ok (.iload 5, 2) := by decide +kernel
theorem dX0_bake_65 : decode cX0_bake 65 = .ok (.invokevirtual 62, 3) := by decide +kernel
theorem dX0_bake_68 : decode cX0_bake 68 = .ok (.iastore, 1) := by decide +kernel
theorem dX0_bake_69 : decode cX0_bake 69 = .ok (.iinc 5 1, 3) := by decide +kernel
theorem dX0_bake_72 : decode cX0_bake 72 = .ok (.goto (-49), 3) := by decide +kernel
theorem dX0_bake_75 : decode cX0_bake 75 = .ok (.return_, 1) := by decide +kernel
set_option maxRecDepth 20000 in
theorem ggX0_valueBehind_X0_cell : GoodIn wsX0_valueBehind wsX0_cell := goodIn_r _ [15, 5, 16, 28, 29] (by decide +kernel) (by decide +kernel)
set_option maxRecDepth 20000 in
theorem gX0_valueBehind_X0_cell : GoodIn wsX0_valueBehind (wsV RX0 19 RX0 yX0_cell wsX0_cell) := goodIn_app (goodIn_of _ (by decide +kernel)) ggX0_valueBehind_X0_cell
set_option maxRecDepth 20000 in
theorem ggX0_valueBehind_X0_tangentOf : GoodIn wsX0_valueBehind wsX0_tangentOf := goodIn_r _ [20, 5, 11, 12, 13, 14, 15, 16, 21, 22, 23, 28, 29] (by decide +kernel) (by decide +kernel)
set_option maxRecDepth 20000 in
theorem gX0_valueBehind_X0_tangentOf : GoodIn wsX0_valueBehind (wsV RX0 78 RX0 yX0_tangentOf wsX0_tangentOf) := goodIn_app (goodIn_of _ (by decide +kernel)) ggX0_valueBehind_X0_tangentOf
set_option maxRecDepth 20000 in
theorem ggX0_valueBehind_X0_riseByTangents : GoodIn wsX0_valueBehind wsX0_riseByTangents := goodIn_r _ [26, 8, 9, 27, 7, 6, 10] (by decide +kernel) (by decide +kernel)
set_option maxRecDepth 20000 in
theorem gX0_valueBehind_X0_riseByTangents : GoodIn wsX0_valueBehind (va_wsS RX0 81 yX0_riseByTangents wsX0_riseByTangents) := goodIn_app (goodIn_of _ (by decide +kernel)) ggX0_valueBehind_X0_riseByTangents
theorem dX0_valueBehind_0 : decode cX0_valueBehind 0 = .ok (.aload_n 0, 1) := by decide +kernel
theorem dX0_valueBehind_1 : decode cX0_valueBehind 1 = .ok (.iload_n 1, 1) := by decide +kernel
theorem dX0_valueBehind_2 : decode cX0_valueBehind 2 = .ok (.iconst 0, 1) := by decide +kernel
theorem dX0_valueBehind_3 : decode cX0_valueBehind 3 = .ok (.invokestatic 65, 3) := by decide +kernel
theorem dX0_valueBehind_6 : decode cX0_valueBehind 6 = .ok (.iconst 1, 1) := by decide +kernel
theorem dX0_valueBehind_7 : decode cX0_valueBehind 7 = .ok (.invokevirtual 19, 3) := by decide +kernel
theorem dX0_valueBehind_10 : decode cX0_valueBehind 10 = .ok (.istore_n 3, 1) := by decide +kernel
theorem dX0_valueBehind_11 : decode cX0_valueBehind 11 = .ok (.aload_n 0, 1) := by decide +kernel
theorem dX0_valueBehind_12 : decode cX0_valueBehind 12 = .ok (.iload_n 1, 1) := by decide +kernel
theorem dX0_valueBehind_13 : decode cX0_valueBehind 13 = .ok (.iconst 1, 1) := by decide +kernel
theorem dX0_valueBehind_14 : decode cX0_valueBehind 14 = .ok (.iadd, 1) := by decide +kernel
theorem dX0_valueBehind_15 : decode cX0_valueBehind 15 = .ok (.iconst 0, 1) := by decide +kernel
theorem dX0_valueBehind_16 : decode cX0_valueBehind 16 = .ok (.invokevirtual 19, 3) := by decide +kernel
theorem dX0_valueBehind_19 : decode cX0_valueBehind 19 = .ok (.aload_n 0, 1) := by decide +kernel
theorem dX0_valueBehind_20 : decode cX0_valueBehind 20 = .ok (.iload_n 1, 1) := by decide +kernel
theorem dX0_valueBehind_21 : decode cX0_valueBehind 21 = .ok (.iconst 0, 1) := by decide +kernel
theorem dX0_valueBehind_22 : decode cX0_valueBehind 22 = .ok (.invokevirtual 19, 3) := by decide +kernel
theorem dX0_valueBehind_25 : decode cX0_valueBehind 25 = .ok (.isub, 1) := by decide +kernel
theorem dX0_valueBehind_26 : decode cX0_valueBehind 26 = .ok (.i2l, 1) := by decide +kernel
theorem dX0_valueBehind_27 : decode cX0_valueBehind 27 = .ok (.lstore 4, 2) := by decide +kernel
theorem dX0_valueBehind_29 : decode cX0_valueBehind 29 = .ok (.iload_n 1, 1) := by decide +kernel
theorem dX0_valueBehind_30 : decode cX0_valueBehind 30 = .ok (.ifCond .lt 20, 3) := by decide +kernel
theorem dX0_valueBehind_33 : decode cX0_valueBehind 33 = .ok (.iload_n 1, 1) := by decide +kernel
theorem dX0_valueBehind_34 : decode cX0_valueBehind 34 = .ok (.aload_n 0, 1) := by decide +kernel
theorem dX0_valueBehind_35 : decode cX0_valueBehind 35 = .ok (.getfield 9, 3) := by decide +kernel
theorem dX0_valueBehind_38 : decode cX0_valueBehind 38 = .ok (.iconst 1, 1) := by decide +kernel
theorem dX0_valueBehind_39 : decode cX0_valueBehind 39 = .ok (.isub, 1) := by decide +kernel
theorem dX0_valueBehind_40 : decode cX0_valueBehind 40 = .ok (.if_icmp .ge 10, 3) := by decide +kernel
theorem dX0_valueBehind_43 : decode cX0_valueBehind 43 = .ok (.lload 4, 2) := by decide +kernel
theorem dX0_valueBehind_45 : decode cX0_valueBehind 45 = .ok (.lconst 0, 1) := by decide +kernel
theorem dX0_valueBehind_46 : decode cX0_valueBehind 46 = .ok (.lcmp, 1) := by decide +kernel
theorem dX0_valueBehind_47 : decode cX0_valueBehind 47 = .ok (.ifCond .gt 5, 3) := by decide +kernel
theorem dX0_valueBehind_50 : decode cX0_valueBehind 50 = .ok (.iload_n 3, 1) := by decide +kernel
theorem dX0_valueBehind_51 : decode cX0_valueBehind 51 = .ok (.ireturn, 1) := by decide +kernel
theorem dX0_valueBehind_52 : decode cX0_valueBehind 52 = .ok (.sipush 1000, 3) := by decide +kernel
theorem dX0_valueBehind_55 : decode cX0_valueBehind 55 = .ok (.iload_n 2, 1) := by decide +kernel
theorem dX0_valueBehind_56 : decode cX0_valueBehind 56 = .ok (.aload_n 0, 1) := by decide +kernel
theorem dX0_valueBehind_57 : decode cX0_valueBehind 57 = .ok (.iload_n 1, 1) := by decide +kernel
theorem dX0_valueBehind_58 : decode cX0_valueBehind 58 = .ok (.iconst 0, 1) := by decide +kernel
theorem dX0_valueBehind_59 : decode cX0_valueBehind 59 = .ok (.invokevirtual 19, 3) := by decide +kernel
theorem dX0_valueBehind_62 : decode cX0_valueBehind 62 = .ok (.isub, 1) := by decide +kernel
theorem dX0_valueBehind_63 : decode cX0_valueBehind 63 = .ok (.imul, 1) := by decide +kernel
theorem dX0_valueBehind_64 : decode cX0_valueBehind 64 = .ok (.i2l, 1) := by decide +kernel
theorem dX0_valueBehind_65 : decode cX0_valueBehind 65 = .ok (.lload 4, 2) := by decide +kernel
theorem dX0_valueBehind_67 : decode cX0_valueBehind 67 = .ok (.ldiv, 1) := by decide +kernel
theorem dX0_valueBehind_68 : decode cX0_valueBehind 68 = .ok (.lstore 6, 2) := by decide +kernel
theorem dX0_valueBehind_70 : decode cX0_valueBehind 70 = .ok (.aload_n 0, 1) := by decide +kernel
theorem dX0_valueBehind_71 : decode cX0_valueBehind 71 = .ok (.iload_n 1, 1) := by decide +kernel
theorem dX0_valueBehind_72 : decode cX0_valueBehind 72 = .ok (.iconst 1, 1) := by decide +kernel
theorem dX0_valueBehind_73 : decode cX0_valueBehind 73 = .ok (.iadd, 1) := by decide +kernel
theorem dX0_valueBehind_74 : decode cX0_valueBehind 74 = .ok (.iconst 1, 1) := by decide +kernel
theorem dX0_valueBehind_75 : decode cX0_valueBehind 75 = .ok (.invokevirtual 19, 3) := by decide +kernel
theorem dX0_valueBehind_78 : decode cX0_valueBehind 78 = .ok (.iload_n 3, 1) := by decide +kernel
theorem dX0_valueBehind_79 : decode cX0_valueBehind 79 = .ok (.isub, 1) := by decide +kernel
theorem dX0_valueBehind_80 : decode cX0_valueBehind 80 = .ok (.i2l, 1) := by decide +kernel
theorem dX0_valueBehind_81 : decode cX0_valueBehind 81 = .ok (.lstore 8, 2) := by decide +kernel
theorem dX0_valueBehind_83 : decode cX0_valueBehind 83 = .ok (.aload_n 0, 1) := by decide +kernel
theorem dX0_valueBehind_84 : decode cX0_valueBehind 84 = .ok (.iload_n 1, 1) := by decide +kernel
theorem dX0_valueBehind_85 : decode cX0_valueBehind 85 = .ok (.iconst 2, 1) := by decide +kernel
theorem dX0_valueBehind_86 : decode cX0_valueBehind 86 = .ok (.invokevirtual 19, 3) := by decide +kernel
theorem dX0_valueBehind_89 : decode cX0_valueBehind 89 = .ok (.tableswitch 166 1 5 #[35, 48, 64, 92, 119], 35) := by decide +kernel
theorem dX0_valueBehind_124 : decode cX0_valueBehind 124 = .ok (.iload_n 3, 1) := by decide +kernel
theorem dX0_valueBehind_125 : decode cX0_valueBehind 125 = .ok (.lload 8, 2) := by decide +kernel
theorem dX0_valueBehind_127 : decode cX0_valueBehind 127 = .ok (.lload 6, 2) := by decide +kernel
theorem dX0_valueBehind_129 : decode cX0_valueBehind 129 = .ok (.lmul, 1) := by decide +kernel
theorem dX0_valueBehind_130 : decode cX0_valueBehind 130 = .ok (.ldc2_w 68, 3) := by decide +kernel
theorem dX0_valueBehind_133 : decode cX0_valueBehind 133 = .ok (.ldiv, 1) := by decide +kernel
theorem dX0_valueBehind_134 : decode cX0_valueBehind 134 = .ok (.l2i, 1) := by decide +kernel
theorem dX0_valueBehind_135 : decode cX0_valueBehind 135 = .ok (.iadd, 1) := by decide +kernel
theorem dX0_valueBehind_136 : decode cX0_valueBehind 136 = .ok (.ireturn, 1) := by decide +kernel
theorem dX0_valueBehind_137 : decode cX0_valueBehind 137 = .ok (.iload_n 3, 1) := by decide +kernel
theorem dX0_valueBehind_138 : decode cX0_valueBehind 138 = .ok (.lload 8, 2) := by decide +kernel
theorem dX0_valueBehind_140 : decode cX0_valueBehind 140 = .ok (.lload 6, 2) := by decide +kernel
theorem dX0_valueBehind_142 : decode cX0_valueBehind 142 = .ok (.lmul, 1) := by decide +kernel
theorem dX0_valueBehind_143 : decode cX0_valueBehind 143 = .ok (.lload 6, 2) := by decide +kernel
theorem dX0_valueBehind_145 : decode cX0_valueBehind 145 = .ok (.lmul, 1) := by decide +kernel
theorem dX0_valueBehind_146 : decode cX0_valueBehind 146 = .ok (.ldc2_w 70, 3) := by decide +kernel
theorem dX0_valueBehind_149 : decode cX0_valueBehind 149 = .ok (.ldiv, 1) := by decide +kernel
theorem dX0_valueBehind_150 : decode cX0_valueBehind 150 = .ok (.l2i, 1) := by decide +kernel
theorem dX0_valueBehind_151 : decode cX0_valueBehind 151 = .ok (.iadd, 1) := by decide +kernel
theorem dX0_valueBehind_152 : decode cX0_valueBehind 152 = .ok (.ireturn, 1) := by decide +kernel
theorem dX0_valueBehind_153 : decode cX0_valueBehind 153 = .ok (.iload_n 3, 1) := by decide +kernel
theorem dX0_valueBehind_154 : decode cX0_valueBehind 154 = .ok (.lload 8, 2) := by decide +kernel
theorem dX0_valueBehind_156 : decode cX0_valueBehind 156 = .ok (.ldc2_w 70, 3) := by decide +kernel
theorem dX0_valueBehind_159 : decode cX0_valueBehind 159 = .ok (.ldc2_w 68, 3) := by decide +kernel
theorem dX0_valueBehind_162 : decode cX0_valueBehind 162 = .ok (.lload 6, 2) := by decide +kernel
theorem dX0_valueBehind_164 : decode cX0_valueBehind 164 = .ok (.lsub, 1) := by decide +kernel
theorem dX0_valueBehind_165 : decode cX0_valueBehind 165 = .ok (.ldc2_w 68, 3) := by decide +kernel
theorem dX0_valueBehind_168 : decode cX0_valueBehind 168 = .ok (.lload 6, 2) := by decide +kernel
theorem dX0_valueBehind_170 : decode cX0_valueBehind 170 = .ok (.lsub, 1) := by decide +kernel
theorem dX0_valueBehind_171 : decode cX0_valueBehind 171 = .ok (.lmul, 1) := by decide +kernel
theorem dX0_valueBehind_172 : decode cX0_valueBehind 172 = .ok (.lsub, 1) := by decide +kernel
theorem dX0_valueBehind_173 : decode cX0_valueBehind 173 = .ok (.lmul, 1) := by decide +kernel
theorem dX0_valueBehind_174 : decode cX0_valueBehind 174 = .ok (.ldc2_w 70, 3) := by decide +kernel
theorem dX0_valueBehind_177 : decode cX0_valueBehind 177 = .ok (.ldiv, 1) := by decide +kernel
theorem dX0_valueBehind_178 : decode cX0_valueBehind 178 = .ok (.l2i, 1) := by decide +kernel
theorem dX0_valueBehind_179 : decode cX0_valueBehind 179 = .ok (.iadd, 1) := by decide +kernel
theorem dX0_valueBehind_180 : decode cX0_valueBehind 180 = .ok (.ireturn, 1) := by decide +kernel
theorem dX0_valueBehind_181 : decode cX0_valueBehind 181 = .ok (.iload_n 3, 1) := by decide +kernel
theorem dX0_valueBehind_182 : decode cX0_valueBehind 182 = .ok (.lload 8, 2) := by decide +kernel
theorem dX0_valueBehind_184 : decode cX0_valueBehind 184 = .ok (.lload 6, 2) := by decide +kernel
theorem dX0_valueBehind_186 : decode cX0_valueBehind 186 = .ok (.lmul, 1) := by decide +kernel
theorem dX0_valueBehind_187 : decode cX0_valueBehind 187 = .ok (.lload 6, 2) := by decide +kernel
theorem dX0_valueBehind_189 : decode cX0_valueBehind 189 = .ok (.lmul, 1) := by decide +kernel
theorem dX0_valueBehind_190 : decode cX0_valueBehind 190 = .ok (.ldc2_w 72, 3) := by decide +kernel
theorem dX0_valueBehind_193 : decode cX0_valueBehind 193 = .ok (.ldc2_w 74, 3) := by decide +kernel
theorem dX0_valueBehind_196 : decode cX0_valueBehind 196 = .ok (.lload 6, 2) := by decide +kernel
theorem dX0_valueBehind_198 : decode cX0_valueBehind 198 = .ok (.lmul, 1) := by decide +kernel
theorem dX0_valueBehind_199 : decode cX0_valueBehind 199 = .ok (.lsub, 1) := by decide +kernel
theorem dX0_valueBehind_200 : decode cX0_valueBehind 200 = .ok (.lmul, 1) := by decide +kernel
theorem dX0_valueBehind_201 : decode cX0_valueBehind 201 = .ok (.ldc2_w 76, 3) := by decide +kernel
theorem dX0_valueBehind_204 : decode cX0_valueBehind 204 = .ok (.ldiv, 1) := by decide +kernel
theorem dX0_valueBehind_205 : decode cX0_valueBehind 205 = .ok (.l2i, 1) := by decide +kernel
theorem dX0_valueBehind_206 : decode cX0_valueBehind 206 = .ok (.iadd, 1) := by decide +kernel
theorem dX0_valueBehind_207 : decode cX0_valueBehind 207 = .ok (.ireturn, 1) := by decide +kernel
theorem dX0_valueBehind_208 : decode cX0_valueBehind 208 = .ok (.lload 4, 2) := by decide +kernel
theorem dX0_valueBehind_210 : decode cX0_valueBehind 210 = .ok (.aload_n 0, 1) := by decide +kernel
theorem dX0_valueBehind_211 : decode cX0_valueBehind 211 = .ok (.iload_n 1, 1) := by decide +kernel
theorem dX0_valueBehind_212 : decode cX0_valueBehind 212 = .ok (.invokevirtual 78, 3) := by decide +kernel
theorem dX0_valueBehind_215 : decode cX0_valueBehind 215 = .ok (.i2l, 1) := by decide +kernel
theorem dX0_valueBehind_216 : decode cX0_valueBehind 216 = .ok (.lmul, 1) := by decide +kernel
theorem dX0_valueBehind_217 : decode cX0_valueBehind 217 = .ok (.ldc2_w 68, 3) := by decide +kernel
theorem dX0_valueBehind_220 : decode cX0_valueBehind 220 = .ok (.ldiv, 1) := by decide +kernel
theorem dX0_valueBehind_221 : decode cX0_valueBehind 221 = .ok (.lstore 10, 2) := by decide +kernel
theorem dX0_valueBehind_223 : decode cX0_valueBehind 223 = .ok (.lload 4, 2) := by decide +kernel
theorem dX0_valueBehind_225 : decode cX0_valueBehind 225 = .ok (.aload_n 0, 1) := by decide +kernel
theorem dX0_valueBehind_226 : decode cX0_valueBehind 226 = .ok (.iload_n 1, 1) := by decide +kernel
theorem dX0_valueBehind_227 : decode cX0_valueBehind 227 = .ok (.iconst 1, 1) := by decide +kernel
theorem dX0_valueBehind_228 : decode cX0_valueBehind 228 = .ok (.iadd, 1) := by decide +kernel
theorem dX0_valueBehind_229 : decode cX0_valueBehind 229 = .ok (.invokevirtual 78, 3) := by decide +kernel
theorem dX0_valueBehind_232 : decode cX0_valueBehind 232 = .ok (.i2l, 1) := by decide +kernel
theorem dX0_valueBehind_233 : decode cX0_valueBehind 233 = .ok (.lmul, 1) := by decide +kernel
theorem dX0_valueBehind_234 : decode cX0_valueBehind 234 = .ok (.ldc2_w 68, 3) := by decide +kernel
theorem dX0_valueBehind_237 : decode cX0_valueBehind 237 = .ok (.ldiv, 1) := by decide +kernel
theorem dX0_valueBehind_238 : decode cX0_valueBehind 238 = .ok (.lstore 12, 2) := by decide +kernel
theorem dX0_valueBehind_240 : decode cX0_valueBehind 240 = .ok (.iload_n 3, 1) := by decide +kernel
theorem dX0_valueBehind_241 : decode cX0_valueBehind 241 = .ok (.lload 8, 2) := by decide +kernel
theorem dX0_valueBehind_243 : decode cX0_valueBehind 243 = .ok (.lload 6, 2) := by decide +kernel
theorem dX0_valueBehind_245 : decode cX0_valueBehind 245 = .ok (.lload 10, 2) := by decide +kernel
theorem dX0_valueBehind_247 : decode cX0_valueBehind 247 = .ok (.lload 12, 2) := by decide +kernel
theorem dX0_valueBehind_249 : decode cX0_valueBehind 249 = .ok (.invokestatic 81, 3) := by decide +kernel
theorem dX0_valueBehind_252 : decode cX0_valueBehind 252 = .ok (.l2i, 1) := by decide +kernel
theorem dX0_valueBehind_253 : decode cX0_valueBehind 253 = .ok (.iadd, 1) := by decide +kernel
theorem dX0_valueBehind_254 : decode cX0_valueBehind 254 = .ok (.ireturn, 1) := by decide +kernel
theorem dX0_valueBehind_255 : decode cX0_valueBehind 255 = .ok (.iload_n 3, 1) := by decide +kernel
theorem dX0_valueBehind_256 : decode cX0_valueBehind 256 = .ok (.ireturn, 1) := by decide +kernel
theorem dX0_riseByTangents_0 : decode cX0_riseByTangents 0 = .ok (.lload_n 2, 1) := by decide +kernel
theorem dX0_riseByTangents_1 : decode cX0_riseByTangents 1 = .ok (.lload_n 2, 1) := by decide +kernel
theorem dX0_riseByTangents_2 : decode cX0_riseByTangents 2 = .ok (.lmul, 1) := by decide +kernel
theorem dX0_riseByTangents_3 : decode cX0_riseByTangents 3 = .ok (.lstore 8, 2) := by decide +kernel
theorem dX0_riseByTangents_5 : decode cX0_riseByTangents 5 = .ok (.lload 8, 2) := by decide +kernel
theorem dX0_riseByTangents_7 : decode cX0_riseByTangents 7 = .ok (.lload_n 2, 1) := by decide +kernel
theorem dX0_riseByTangents_8 : decode cX0_riseByTangents 8 = .ok (.lmul, 1) := by decide +kernel
theorem dX0_riseByTangents_9 : decode cX0_riseByTangents 9 = .ok (.lstore 10, 2) := by decide +kernel
theorem dX0_riseByTangents_11 : decode cX0_riseByTangents 11 = .ok (.lload_n 0, 1) := by decide +kernel
theorem dX0_riseByTangents_12 : decode cX0_riseByTangents 12 = .ok (.ldc2_w 72, 3) := by decide +kernel
theorem dX0_riseByTangents_15 : decode cX0_riseByTangents 15 = .ok (.lload 8, 2) := by decide +kernel
theorem dX0_riseByTangents_17 : decode cX0_riseByTangents 17 = .ok (.lmul, 1) := by decide +kernel
theorem dX0_riseByTangents_18 : decode cX0_riseByTangents 18 = .ok (.ldc2_w 74, 3) := by decide +kernel
theorem dX0_riseByTangents_21 : decode cX0_riseByTangents 21 = .ok (.lload 10, 2) := by decide +kernel
theorem dX0_riseByTangents_23 : decode cX0_riseByTangents 23 = .ok (.lmul, 1) := by decide +kernel
theorem dX0_riseByTangents_24 : decode cX0_riseByTangents 24 = .ok (.lsub, 1) := by decide +kernel
theorem dX0_riseByTangents_25 : decode cX0_riseByTangents 25 = .ok (.lmul, 1) := by decide +kernel
theorem dX0_riseByTangents_26 : decode cX0_riseByTangents 26 = .ok (.lload 4, 2) := by decide +kernel
theorem dX0_riseByTangents_28 : decode cX0_riseByTangents 28 = .ok (.lload 10, 2) := by decide +kernel
theorem dX0_riseByTangents_30 : decode cX0_riseByTangents 30 = .ok (.ldc2_w 85, 3) := by decide +kernel
theorem dX0_riseByTangents_33 : decode cX0_riseByTangents 33 = .ok (.lload 8, 2) := by decide +kernel
theorem dX0_riseByTangents_35 : decode cX0_riseByTangents 35 = .ok (.lmul, 1) := by decide +kernel
theorem dX0_riseByTangents_36 : decode cX0_riseByTangents 36 = .ok (.lsub, 1) := by decide +kernel
theorem dX0_riseByTangents_37 : decode cX0_riseByTangents 37 = .ok (.ldc2_w 70, 3) := by decide +kernel
theorem dX0_riseByTangents_40 : decode cX0_riseByTangents 40 = .ok (.lload_n 2, 1) := by decide +kernel
theorem dX0_riseByTangents_41 : decode cX0_riseByTangents 41 = .ok (.lmul, 1) := by decide +kernel
theorem dX0_riseByTangents_42 : decode cX0_riseByTangents 42 = .ok (.ladd, 1) := by decide +kernel
theorem dX0_riseByTangents_43 : decode cX0_riseByTangents 43 = .ok (.lmul, 1) := by decide +kernel
theorem dX0_riseByTangents_44 : decode cX0_riseByTangents 44 = .ok (.ladd, 1) := by decide +kernel
theorem dX0_riseByTangents_45 : decode cX0_riseByTangents 45 = .ok (.lload 6, 2) := by decide +kernel
theorem dX0_riseByTangents_47 : decode cX0_riseByTangents 47 = .ok (.lload 10, 2) := by decide +kernel
theorem dX0_riseByTangents_49 : decode cX0_riseByTangents 49 = .ok (.ldc2_w 68, 3) := by decide +kernel
theorem dX0_riseByTangents_52 : decode cX0_riseByTangents 52 = .ok (.lload 8, 2) := by decide +kernel
theorem dX0_riseByTangents_54 : decode cX0_riseByTangents 54 = .ok (.lmul, 1) := by decide +kernel
theorem dX0_riseByTangents_55 : decode cX0_riseByTangents 55 = .ok (.lsub, 1) := by decide +kernel
theorem dX0_riseByTangents_56 : decode cX0_riseByTangents 56 = .ok (.lmul, 1) := by decide +kernel
theorem dX0_riseByTangents_57 : decode cX0_riseByTangents 57 = .ok (.ladd, 1) := by decide +kernel
theorem dX0_riseByTangents_58 : decode cX0_riseByTangents 58 = .ok (.ldc2_w 76, 3) := by decide +kernel
theorem dX0_riseByTangents_61 : decode cX0_riseByTangents 61 = .ok (.ldiv, 1) := by decide +kernel
theorem dX0_riseByTangents_62 : decode cX0_riseByTangents 62 = .ok (.lreturn, 1) := by decide +kernel
theorem dX1_init_0 : decode cX1_init 0 = .ok (.aload_n 0, 1) := by decide +kernel
theorem dX1_init_1 : decode cX1_init 1 = .ok (.invokespecial 3, 3) := by decide +kernel
theorem dX1_init_4 : decode cX1_init 4 = .ok (.aload_n 0, 1) := by decide +kernel
theorem dX1_init_5 : decode cX1_init 5 = .ok (.sipush 150, 3) := by decide +kernel
theorem dX1_init_8 : decode cX1_init 8 = .ok (.newarray .byte, 2) := by decide +kernel
theorem dX1_init_10 : decode cX1_init 10 = .ok (.putfield 9, 3) := by decide +kernel
theorem dX1_init_13 : decode cX1_init 13 = .ok (.aload_n 0, 1) := by decide +kernel
theorem dX1_init_14 : decode cX1_init 14 = .ok (.iconst 0, 1) := by decide +kernel
theorem dX1_init_15 : decode cX1_init 15 = .ok (.putfield 15, 3) := by decide +kernel
theorem dX1_init_18 : decode cX1_init 18 = .ok (.aload_n 0, 1) := by decide +kernel
theorem dX1_init_19 : decode cX1_init 19 = .ok (.iconst 0, 1) := by decide +kernel
theorem dX1_init_20 : decode cX1_init 20 = .ok (.putfield 19, 3) := by decide +kernel
theorem dX1_init_23 : decode cX1_init 23 = .ok (.return_, 1) := by decide +kernel
theorem dX1_add_0 : decode cX1_add 0 = .ok (.aload_n 0, 1) := by decide +kernel
theorem dX1_add_1 : decode cX1_add 1 = .ok (.getfield 15, 3) := by decide +kernel
theorem dX1_add_4 : decode cX1_add 4 = .ok (.sipush 150, 3) := by decide +kernel
theorem dX1_add_7 : decode cX1_add 7 = .ok (.if_icmp .ge 24, 3) := by decide +kernel
theorem dX1_add_10 : decode cX1_add 10 = .ok (.aload_n 0, 1) := by decide +kernel
theorem dX1_add_11 : decode cX1_add 11 = .ok (.getfield 9, 3) := by decide +kernel
theorem dX1_add_14 : decode cX1_add 14 = .ok (.aload_n 0, 1) := by decide +kernel
theorem dX1_add_15 : decode cX1_add 15 = .ok (.getfield 15, 3) := by decide +kernel
theorem dX1_add_18 : decode cX1_add 18 = .ok (.iload_n 1, 1) := by decide +kernel
theorem dX1_add_19 : decode cX1_add 19 = .ok (.i2b, 1) := by decide +kernel
theorem dX1_add_20 : decode cX1_add 20 = .ok (.bastore, 1) := by decide +kernel
theorem dX1_add_21 : decode cX1_add 21 = .ok (.aload_n 0, 1) := by decide +kernel
theorem dX1_add_22 : decode cX1_add 22 = .ok (.dup, 1) := by decide +kernel
theorem dX1_add_23 : decode cX1_add 23 = .ok (.getfield 15, 3) := by decide +kernel
theorem dX1_add_26 : decode cX1_add 26 = .ok (.iconst 1, 1) := by decide +kernel
theorem dX1_add_27 : decode cX1_add 27 = .ok (.iadd, 1) := by decide +kernel
theorem dX1_add_28 : decode cX1_add 28 = .ok (.putfield 15, 3) := by decide +kernel
theorem dX1_add_31 : decode cX1_add 31 = .ok (.return_, 1) := by decide +kernel
set_option maxRecDepth 20000 in
theorem ggX1_readInto_X1_readKey : GoodIn wsX1_readInto wsX1_readKey := goodIn_r _ [7, 1, 8, 9, 10, 6, 11, 12, 13, 14, 15, 16, 2, 17, 18, 19, 20, 21, 22, 23, 24, 25, 26, 27, 28, 29, 30, 31, 32, 33, 34, 35, 36, 37, 38, 39, 40, 41, 42, 43, 44, 45, 46, 47, 48, 49, 52, 53, 54, 50, 51] (by decide +kernel) (by decide +kernel)
set_option maxRecDepth 20000 in
theorem gX1_readInto_X1_readKey : GoodIn wsX1_readInto (wsV RX1 27 RX1 yX1_readKey wsX1_readKey) := goodIn_app (goodIn_of _ (by decide +kernel)) ggX1_readInto_X1_readKey
theorem dX1_readInto_0 : decode cX1_readInto 0 = .ok (.aload_n 1, 1) := by decide +kernel
theorem dX1_readInto_1 : decode cX1_readInto 1 = .ok (.iconst 0, 1) := by decide +kernel
theorem dX1_readInto_2 : decode cX1_readInto 2 = .ok (.putfield 22, 3) := by decide +kernel
theorem dX1_readInto_5 : decode cX1_readInto 5 = .ok (.aload_n 0, 1) := by decide +kernel
theorem dX1_readInto_6 : decode cX1_readInto 6 = .ok (.iconst 0, 1) := by decide +kernel
theorem dX1_readInto_7 : decode cX1_readInto 7 = .ok (.putfield 19, 3) := by decide +kernel
theorem dX1_readInto_10 : decode cX1_readInto 10 = .ok (.iconst 0, 1) := by decide +kernel
theorem dX1_readInto_11 : decode cX1_readInto 11 = .ok (.istore_n 2, 1) := by decide +kernel
theorem dX1_readInto_12 : decode cX1_readInto 12 = .ok (.iload_n 2, 1) := by decide +kernel
theorem dX1_readInto_13 : decode cX1_readInto 13 = .ok (.bipush 16, 2) := by decide +kernel
theorem dX1_readInto_15 : decode cX1_readInto 15 = .ok (.if_icmp .gt 41, 3) := by decide +kernel
theorem dX1_readInto_18 : decode cX1_readInto 18 = .ok (.aload_n 0, 1) := by decide +kernel
theorem dX1_readInto_19 : decode cX1_readInto 19 = .ok (.getfield 19, 3) := by decide +kernel
theorem dX1_readInto_22 : decode cX1_readInto 22 = .ok (.aload_n 0, 1) := by decide +kernel
theorem dX1_readInto_23 : decode cX1_readInto 23 = .ok (.getfield 15, 3) := by decide +kernel
theorem dX1_readInto_26 : decode cX1_readInto 26 = .ok (.if_icmp .lt 5, 3) := by decide +kernel
theorem dX1_readInto_29 : decode cX1_readInto 29 = .ok (.iconst (-1), 1) := by decide +kernel
theorem dX1_readInto_30 : decode cX1_readInto 30 = .ok (.ireturn, 1) := by decide +kernel
theorem dX1_readInto_31 : decode cX1_readInto 31 = .ok (.iload_n 2, 1) := by decide +kernel
theorem dX1_readInto_32 : decode cX1_readInto 32 = .ok (.bipush 16, 2) := by decide +kernel
theorem dX1_readInto_34 : decode cX1_readInto 34 = .ok (.if_icmp .eq 11, 3) := by decide +kernel
theorem dX1_readInto_37 : decode cX1_readInto 37 = .ok (.aload_n 0, 1) := by decide +kernel
theorem dX1_readInto_38 : decode cX1_readInto 38 = .ok (.aload_n 1, 1) := by decide +kernel
theorem dX1_readInto_39 : decode cX1_readInto 39 = .ok (.invokevirtual 27, 3) := by decide +kernel
theorem dX1_readInto_42 : decode cX1_readInto 42 = .ok (.ifCond .ne 8, 3) := by decide +kernel
theorem dX1_readInto_45 : decode cX1_readInto 45 = .ok (.aload_n 0, 1) := by decide +kernel
theorem dX1_readInto_46 : decode cX1_readInto 46 = .ok (.getfield 19, 3) := by decide +kernel
theorem dX1_readInto_49 : decode cX1_readInto 49 = .ok (.ireturn, 1) := by decide +kernel
theorem dX1_readInto_50 : decode cX1_readInto 50 = .ok (.iinc 2 1, 3) := by decide +kernel
theorem dX1_readInto_53 : decode cX1_readInto 53 = .ok (.goto (-41), 3) := by decide +kernel
theorem dX1_readInto_56 : decode cX1_readInto 56 = .ok (.iconst (-1), 1) := by decide +kernel
theorem dX1_readInto_57 : decode cX1_readInto 57 = .ok (.ireturn, 1) := by decide +kernel
set_option maxRecDepth 20000 in
theorem ggX1_readKey_X1_readDigits : GoodIn wsX1_readKey wsX1_readDigits := goodIn_r _ [6, 1, 7, 8, 9, 10, 5, 11, 12, 46, 47, 48] (by decide +kernel) (by decide +kernel)
set_option maxRecDepth 20000 in
theorem gX1_readKey_X1_readDigits : GoodIn wsX1_readKey (wsV RX1 31 RX1 yX1_readDigits wsX1_readDigits) := goodIn_app (goodIn_of _ (by decide +kernel)) ggX1_readKey_X1_readDigits
set_option maxRecDepth 20000 in
theorem ggX1_readKey_X1_isSign : GoodIn wsX1_readKey wsX1_isSign := goodIn_r _ [11, 12, 7, 46, 47, 48] (by decide +kernel) (by decide +kernel)
set_option maxRecDepth 20000 in
theorem gX1_readKey_X1_isSign : GoodIn wsX1_readKey (wsV RX1 35 RX1 yX1_isSign wsX1_isSign) := goodIn_app (goodIn_of _ (by decide +kernel)) ggX1_readKey_X1_isSign
set_option maxRecDepth 20000 in
theorem ggX1_readKey_X0_lastFrame : GoodIn wsX1_readKey wsX0_lastFrame := goodIn_r _ [16, 17, 18, 19, 20, 14, 21, 22, 49, 50] (by decide +kernel) (by decide +kernel)
set_option maxRecDepth 20000 in
theorem gX1_readKey_X0_lastFrame_n39 : GoodIn wsX1_readKey (wsX0_lastFrame) := ggX1_readKey_X0_lastFrame
set_option maxRecDepth 20000 in
theorem ggX1_readKey_X1_skip : GoodIn wsX1_readKey wsX1_skip := goodIn_r _ [26, 1, 8, 9, 10, 5, 11, 12, 7, 46, 47, 48] (by decide +kernel) (by decide +kernel)
set_option maxRecDepth 20000 in
theorem gX1_readKey_X1_skip : GoodIn wsX1_readKey (wsV RX1 43 RX1 yX1_skip wsX1_skip) := goodIn_app (goodIn_of _ (by decide +kernel)) ggX1_readKey_X1_skip
set_option maxRecDepth 20000 in
theorem ggX1_readKey_X1_readMode : GoodIn wsX1_readKey wsX1_readMode := goodIn_r _ [30, 23, 24, 25, 5, 26, 1, 8, 9, 10, 11, 12, 7, 46, 47, 48] (by decide +kernel) (by decide +kernel)
set_option maxRecDepth 20000 in
theorem gX1_readKey_X1_readMode : GoodIn wsX1_readKey (wsV RX1 47 RX1 yX1_readMode wsX1_readMode) := goodIn_app (goodIn_of _ (by decide +kernel)) ggX1_readKey_X1_readMode
set_option maxRecDepth 20000 in
theorem ggX1_readKey_X0_insert : GoodIn wsX1_readKey wsX0_insert := goodIn_r _ [33, 17, 22, 34, 35, 36, 37, 38, 39, 40, 14, 41, 18, 19, 20, 21, 42, 43, 44, 45, 49, 50] (by decide +kernel) (by decide +kernel)
set_option maxRecDepth 20000 in
theorem gX1_readKey_X0_insert_n50 : GoodIn wsX1_readKey (wsX0_insert) := ggX1_readKey_X0_insert
theorem dX1_readKey_0 : decode cX1_readKey 0 = .ok (.aload_n 0, 1) := by decide +kernel
theorem dX1_readKey_1 : decode cX1_readKey 1 = .ok (.getfield 19, 3) := by decide +kernel
theorem dX1_readKey_4 : decode cX1_readKey 4 = .ok (.istore_n 2, 1) := by decide +kernel
theorem dX1_readKey_5 : decode cX1_readKey 5 = .ok (.aload_n 0, 1) := by decide +kernel
theorem dX1_readKey_6 : decode cX1_readKey 6 = .ok (.iconst 3, 1) := by decide +kernel
theorem dX1_readKey_7 : decode cX1_readKey 7 = .ok (.invokevirtual 31, 3) := by decide +kernel
theorem dX1_readKey_10 : decode cX1_readKey 10 = .ok (.istore_n 3, 1) := by decide +kernel
theorem dX1_readKey_11 : decode cX1_readKey 11 = .ok (.iload_n 3, 1) := by decide +kernel
theorem dX1_readKey_12 : decode cX1_readKey 12 = .ok (.iconst (-1), 1) := by decide +kernel
theorem dX1_readKey_13 : decode cX1_readKey 13 = .ok (.if_icmp .eq 18, 3) := by decide +kernel
theorem dX1_readKey_16 : decode cX1_readKey 16 = .ok (.aload_n 0, 1) := by decide +kernel
theorem dX1_readKey_17 : decode cX1_readKey 17 = .ok (.aload_n 0, 1) := by decide +kernel
theorem dX1_readKey_18 : decode cX1_readKey 18 = .ok (.getfield 19, 3) := by decide +kernel
theorem dX1_readKey_21 : decode cX1_readKey 21 = .ok (.bipush 48, 2) := by decide +kernel
theorem dX1_readKey_23 : decode cX1_readKey 23 = .ok (.bipush 57, 2) := by decide +kernel
theorem dX1_readKey_25 : decode cX1_readKey 25 = .ok (.invokevirtual 35, 3) := by decide +kernel
theorem dX1_readKey_28 : decode cX1_readKey 28 = .ok (.ifCond .eq 5, 3) := by decide +kernel
theorem dX1_readKey_31 : decode cX1_readKey 31 = .ok (.iconst 0, 1) := by decide +kernel
theorem dX1_readKey_32 : decode cX1_readKey 32 = .ok (.ireturn, 1) := by decide +kernel
theorem dX1_readKey_33 : decode cX1_readKey 33 = .ok (.iload_n 3, 1) := by decide +kernel
theorem dX1_readKey_34 : decode cX1_readKey 34 = .ok (.aload_n 1, 1) := by decide +kernel
theorem dX1_readKey_35 : decode cX1_readKey 35 = .ok (.invokevirtual 39, 3) := by decide +kernel
theorem dX1_readKey_38 : decode cX1_readKey 38 = .ok (.if_icmp .gt 10, 3) := by decide +kernel
theorem dX1_readKey_41 : decode cX1_readKey 41 = .ok (.aload_n 0, 1) := by decide +kernel
theorem dX1_readKey_42 : decode cX1_readKey 42 = .ok (.iload_n 2, 1) := by decide +kernel
theorem dX1_readKey_43 : decode cX1_readKey 43 = .ok (.putfield 19, 3) := by decide +kernel
theorem dX1_readKey_46 : decode cX1_readKey 46 = .ok (.iconst 0, 1) := by decide +kernel
theorem dX1_readKey_47 : decode cX1_readKey 47 = .ok (.ireturn, 1) := by decide +kernel
theorem dX1_readKey_48 : decode cX1_readKey 48 = .ok (.aload_n 0, 1) := by decide +kernel
theorem dX1_readKey_49 : decode cX1_readKey 49 = .ok (.bipush 44, 2) := by decide +kernel
theorem dX1_readKey_51 : decode cX1_readKey 51 = .ok (.invokevirtual 43, 3) := by decide +kernel
theorem dX1_readKey_54 : decode cX1_readKey 54 = .ok (.ifCond .ne 5, 3) := by decide +kernel
theorem dX1_readKey_57 : decode cX1_readKey 57 = .ok (.iconst 0, 1) := by decide +kernel
theorem dX1_readKey_58 : decode cX1_readKey 58 = .ok (.ireturn, 1) := by decide +kernel
theorem dX1_readKey_59 : decode cX1_readKey 59 = .ok (.aload_n 0, 1) := by decide +kernel
theorem dX1_readKey_60 : decode cX1_readKey 60 = .ok (.bipush 45, 2) := by decide +kernel
theorem dX1_readKey_62 : decode cX1_readKey 62 = .ok (.invokevirtual 43, 3) := by decide +kernel
theorem dX1_readKey_65 : decode cX1_readKey 65 = .ok (.istore 4, 2) := by decide +kernel
theorem dX1_readKey_67 : decode cX1_readKey 67 = .ok (.aload_n 0, 1) := by decide +kernel
theorem dX1_readKey_68 : decode cX1_readKey 68 = .ok (.iconst 4, 1) := by decide +kernel
theorem dX1_readKey_69 : decode cX1_readKey 69 = .ok (.invokevirtual 31, 3) := by decide +kernel
theorem dX1_readKey_72 : decode cX1_readKey 72 = .ok (.istore 5, 2) := by decide +kernel
theorem dX1_readKey_74 : decode cX1_readKey 74 = .ok (.iload 5, 2) := by decide +kernel
theorem dX1_readKey_76 : decode cX1_readKey 76 = .ok (.iconst (-1), 1) := by decide +kernel
theorem dX1_readKey_77 : decode cX1_readKey 77 = .ok (.if_icmp .eq 27, 3) := by decide +kernel
theorem dX1_readKey_80 : decode cX1_readKey 80 = .ok (.aload_n 0, 1) := by decide +kernel
theorem dX1_readKey_81 : decode cX1_readKey 81 = .ok (.bipush 44, 2) := by decide +kernel
theorem dX1_readKey_83 : decode cX1_readKey 83 = .ok (.invokevirtual 43, 3) := by decide +kernel
theorem dX1_readKey_86 : decode cX1_readKey 86 = .ok (.ifCond .eq 18, 3) := by decide +kernel
theorem dX1_readKey_89 : decode cX1_readKey 89 = .ok (.aload_n 0, 1) := by decide +kernel
theorem dX1_readKey_90 : decode cX1_readKey 90 = .ok (.aload_n 0, 1) := by decide +kernel
theorem dX1_readKey_91 : decode cX1_readKey 91 = .ok (.getfield 19, 3) := by decide +kernel
theorem dX1_readKey_94 : decode cX1_readKey 94 = .ok (.bipush 48, 2) := by decide +kernel
theorem dX1_readKey_96 : decode cX1_readKey 96 = .ok (.bipush 53, 2) := by decide +kernel
theorem dX1_readKey_98 : decode cX1_readKey 98 = .ok (.invokevirtual 35, 3) := by decide +kernel
theorem dX1_readKey_101 : decode cX1_readKey 101 = .ok (.ifCond .ne 5, 3) := by decide +kernel
theorem dX1_readKey_104 : decode cX1_readKey 104 = .ok (.iconst 0, 1) := by decide +kernel
theorem dX1_readKey_105 : decode cX1_readKey 105 = .ok (.ireturn, 1) := by decide +kernel
theorem dX1_readKey_106 : decode cX1_readKey 106 = .ok (.aload_n 0, 1) := by decide +kernel
theorem dX1_readKey_107 : decode cX1_readKey 107 = .ok (.iconst 1, 1) := by decide +kernel
theorem dX1_readKey_108 : decode cX1_readKey 108 = .ok (.invokevirtual 31, 3) := by decide +kernel
theorem dX1_readKey_111 : decode cX1_readKey 111 = .ok (.istore 6, 2) := by decide +kernel
theorem dX1_readKey_113 : decode cX1_readKey 113 = .ok (.aload_n 0, 1) := by decide +kernel
theorem dX1_readKey_114 : decode cX1_readKey 114 = .ok (.bipush 108, 2) := by decide +kernel
theorem dX1_readKey_116 : decode cX1_readKey 116 = .ok (.invokevirtual 43, 3) := by decide +kernel
theorem dX1_readKey_119 : decode cX1_readKey 119 = .ok (.ifCond .eq 7, 3) := by decide +kernel
theorem dX1_readKey_122 : decode cX1_readKey 122 = .ok (.iconst 1, 1) := by decide +kernel
theorem dX1_readKey_123 : decode cX1_readKey 123 = .ok (.goto 4, 3) := by decide +kernel
theorem dX1_readKey_126 : decode cX1_readKey 126 = .ok (.iconst 0, 1) := by decide +kernel
theorem dX1_readKey_127 : decode cX1_readKey 127 = .ok (.istore 7, 2) := by decide +kernel
theorem dX1_readKey_129 : decode cX1_readKey 129 = .ok (.aload_n 0, 1) := by decide +kernel
theorem dX1_readKey_130 : decode cX1_readKey 130 = .ok (.invokevirtual 47, 3) := by decide +kernel
theorem dX1_readKey_133 : decode cX1_readKey 133 = .ok (.istore 8, 2) := by decide +kernel
theorem dX1_readKey_135 : decode cX1_readKey 135 = .ok (.aload_n 0, 1) := by decide +kernel
theorem dX1_readKey_136 : decode cX1_readKey 136 = .ok (.bipush 59, 2) := by decide +kernel
theorem dX1_readKey_138 : decode cX1_readKey 138 = .ok (.invokevirtual 43, 3) := by decide +kernel
theorem dX1_readKey_141 : decode cX1_readKey 141 = .ok (.ifCond .ne 5, 3) := by decide +kernel
theorem dX1_readKey_144 : decode cX1_readKey 144 = .ok (.iconst 0, 1) := by decide +kernel
theorem dX1_readKey_145 : decode cX1_readKey 145 = .ok (.ireturn, 1) := by decide +kernel
theorem dX1_readKey_146 : decode cX1_readKey 146 = .ok (.aload_n 1, 1) := by decide +kernel
theorem dX1_readKey_147 : decode cX1_readKey 147 = .ok (.iload_n 3, 1) := by decide +kernel
theorem dX1_readKey_148 : decode cX1_readKey 148 = .ok (.iload 4, 2) := by decide +kernel
theorem dX1_readKey_150 : decode cX1_readKey 150 = .ok (.ifCond .eq 9, 3) := by decide +kernel
theorem dX1_readKey_153 : decode cX1_readKey 153 = .ok (.iload 5, 2) := by decide +kernel
theorem dX1_readKey_155 : decode cX1_readKey 155 = .ok (.ineg, 1) := by decide +kernel
theorem dX1_readKey_156 : decode cX1_readKey 156 = .ok (.goto 5, 3) := by decide +kernel
theorem dX1_readKey_159 : decode cX1_readKey 159 = .ok (.iload 5, 2) := by decide +kernel
theorem dX1_readKey_161 : decode cX1_readKey 161 = .ok (.iload 6, 2) := by decide +kernel
theorem dX1_readKey_163 : decode cX1_readKey 163 = .ok (.iload 8, 2) := by decide +kernel
theorem dX1_readKey_165 : decode cX1_readKey 165 = .ok (.iconst 0, 1) := by decide +kernel
theorem dX1_readKey_166 : decode cX1_readKey 166 = .ok (.iload 7, 2) := by decide +kernel
theorem dX1_readKey_168 : decode cX1_readKey 168 = .ok (.invokevirtual 50, 3) := by decide +kernel
theorem dX1_readKey_171 : decode cX1_readKey 171 = .ok (.pop, 1) := by decide +kernel
theorem dX1_readKey_172 : decode cX1_readKey 172 = .ok (.iconst 1, 1) := by decide +kernel
theorem dX1_readKey_173 : decode cX1_readKey 173 = .ok (.ireturn, 1) := by decide +kernel
set_option maxRecDepth 20000 in
theorem ggX1_readMode_X1_skip : GoodIn wsX1_readMode wsX1_skip := goodIn_r _ [5, 6, 7, 8, 9, 4, 10, 11, 12, 13, 14, 15] (by decide +kernel) (by decide +kernel)
set_option maxRecDepth 20000 in
theorem gX1_readMode_X1_skip : GoodIn wsX1_readMode (wsV RX1 43 RX1 yX1_skip wsX1_skip) := goodIn_app (goodIn_of _ (by decide +kernel)) ggX1_readMode_X1_skip
theorem dX1_readMode_0 : decode cX1_readMode 0 = .ok (.aload_n 0, 1) := by decide +kernel
theorem dX1_readMode_1 : decode cX1_readMode 1 = .ok (.bipush 115, 2) := by decide +kernel
theorem dX1_readMode_3 : decode cX1_readMode 3 = .ok (.invokevirtual 43, 3) := by decide +kernel
theorem dX1_readMode_6 : decode cX1_readMode 6 = .ok (.ifCond .eq 5, 3) := by decide +kernel
theorem dX1_readMode_9 : decode cX1_readMode 9 = .ok (.iconst 1, 1) := by decide +kernel
theorem dX1_readMode_10 : decode cX1_readMode 10 = .ok (.ireturn, 1) := by decide +kernel
theorem dX1_readMode_11 : decode cX1_readMode 11 = .ok (.aload_n 0, 1) := by decide +kernel
theorem dX1_readMode_12 : decode cX1_readMode 12 = .ok (.bipush 118, 2) := by decide +kernel
theorem dX1_readMode_14 : decode cX1_readMode 14 = .ok (.invokevirtual 43, 3) := by decide +kernel
theorem dX1_readMode_17 : decode cX1_readMode 17 = .ok (.ifCond .eq 7, 3) := by decide +kernel
theorem dX1_readMode_20 : decode cX1_readMode 20 = .ok (.iconst 2, 1) := by decide +kernel
theorem dX1_readMode_21 : decode cX1_readMode 21 = .ok (.goto 4, 3) := by decide +kernel
theorem dX1_readMode_24 : decode cX1_readMode 24 = .ok (.iconst 0, 1) := by decide +kernel
theorem dX1_readMode_25 : decode cX1_readMode 25 = .ok (.ireturn, 1) := by decide +kernel
set_option maxRecDepth 20000 in
theorem ggX1_readDigits_X1_isSign : GoodIn wsX1_readDigits wsX1_isSign := goodIn_r _ [7, 8, 2, 9, 10, 11] (by decide +kernel) (by decide +kernel)
set_option maxRecDepth 20000 in
theorem gX1_readDigits_X1_isSign : GoodIn wsX1_readDigits (wsV RX1 35 RX1 yX1_isSign wsX1_isSign) := goodIn_app (goodIn_of _ (by decide +kernel)) ggX1_readDigits_X1_isSign
theorem dX1_readDigits_0 : decode cX1_readDigits 0 = .ok (.aload_n 0, 1) := by decide +kernel
theorem dX1_readDigits_1 : decode cX1_readDigits 1 = .ok (.aload_n 0, 1) := by decide +kernel
theorem dX1_readDigits_2 : decode cX1_readDigits 2 = .ok (.getfield 19, 3) := by decide +kernel
theorem dX1_readDigits_5 : decode cX1_readDigits 5 = .ok (.bipush 48, 2) := by decide +kernel
theorem dX1_readDigits_7 : decode cX1_readDigits 7 = .ok (.bipush 57, 2) := by decide +kernel
theorem dX1_readDigits_9 : decode cX1_readDigits 9 = .ok (.invokevirtual 35, 3) := by decide +kernel
theorem dX1_readDigits_12 : decode cX1_readDigits 12 = .ok (.ifCond .ne 5, 3) := by decide +kernel
theorem dX1_readDigits_15 : decode cX1_readDigits 15 = .ok (.iconst (-1), 1) := by decide +kernel
theorem dX1_readDigits_16 : decode cX1_readDigits 16 = .ok (.ireturn, 1) := by decide +kernel
theorem dX1_readDigits_17 : decode cX1_readDigits 17 = .ok (.iconst 0, 1) := by decide +kernel
theorem dX1_readDigits_18 : decode cX1_readDigits 18 = .ok (.istore_n 2, 1) := by decide +kernel
theorem dX1_readDigits_19 : decode cX1_readDigits 19 = .ok (.iconst 0, 1) := by decide +kernel
theorem dX1_readDigits_20 : decode cX1_readDigits 20 = .ok (.istore_n 3, 1) := by decide +kernel
theorem dX1_readDigits_21 : decode cX1_readDigits 21 = .ok (.iload_n 3, 1) := by decide +kernel
theorem dX1_readDigits_22 : decode cX1_readDigits 22 = .ok (.iload_n 1, 1) := by decide +kernel
theorem dX1_readDigits_23 : decode cX1_readDigits 23 = .ok (.if_icmp .ge 52, 3) := by decide +kernel
theorem dX1_readDigits_26 : decode cX1_readDigits 26 = .ok (.aload_n 0, 1) := by decide +kernel
theorem dX1_readDigits_27 : decode cX1_readDigits 27 = .ok (.aload_n 0, 1) := by decide +kernel
theorem dX1_readDigits_28 : decode cX1_readDigits 28 = .ok (.getfield 19, 3) := by decide +kernel
theorem dX1_readDigits_31 : decode cX1_readDigits 31 = .ok (.bipush 48, 2) := by decide +kernel
theorem dX1_readDigits_33 : decode cX1_readDigits 33 = .ok (.bipush 57, 2) := by decide +kernel
theorem dX1_readDigits_35 : decode cX1_readDigits 35 = .ok (.invokevirtual 35, 3) := by decide +kernel
theorem dX1_readDigits_38 : decode cX1_readDigits 38 = .ok (.ifCond .eq 37, 3) := by decide +kernel
theorem dX1_readDigits_41 : decode cX1_readDigits 41 = .ok (.iload_n 2, 1) := by decide +kernel
theorem dX1_readDigits_42 : decode cX1_readDigits 42 = .ok (.bipush 10, 2) := by decide +kernel
theorem dX1_readDigits_44 : decode cX1_readDigits 44 = .ok (.imul, 1) := by decide +kernel
theorem dX1_readDigits_45 : decode cX1_readDigits 45 = .ok (.aload_n 0, 1) := by decide +kernel
theorem dX1_readDigits_46 : decode cX1_readDigits 46 = .ok (.getfield 9, 3) := by decide +kernel
theorem dX1_readDigits_49 : decode cX1_readDigits 49 = .ok (.aload_n 0, 1) := by decide +kernel
theorem dX1_readDigits_50 : decode cX1_readDigits 50 = .ok (.getfield 19, 3) := by decide +kernel
theorem dX1_readDigits_53 : decode cX1_readDigits 53 = .ok (.baload, 1) := by decide +kernel
theorem dX1_readDigits_54 : decode cX1_readDigits 54 = .ok (.iadd, 1) := by decide +kernel
theorem dX1_readDigits_55 : decode cX1_readDigits 55 = .ok (.bipush 48, 2) := by decide +kernel
theorem dX1_readDigits_57 : decode cX1_readDigits 57 = .ok (.isub, 1) := by decide +kernel
theorem dX1_readDigits_58 : decode cX1_readDigits 58 = .ok (.istore_n 2, 1) := by decide +kernel
theorem dX1_readDigits_59 : decode cX1_readDigits 59 = .ok (.aload_n 0, 1) := by decide +kernel
theorem dX1_readDigits_60 : decode cX1_readDigits 60 = .ok (.dup, 1) := by decide +kernel
theorem dX1_readDigits_61 : decode cX1_readDigits 61 = .ok (.getfield 19, 3) := by decide +kernel
theorem dX1_readDigits_64 : decode cX1_readDigits 64 = .ok (.iconst 1, 1) := by decide +kernel
theorem dX1_readDigits_65 : decode cX1_readDigits 65 = .ok (.iadd, 1) := by decide +kernel
theorem dX1_readDigits_66 : decode cX1_readDigits 66 = .ok (.putfield 19, 3) := by decide +kernel
theorem dX1_readDigits_69 : decode cX1_readDigits 69 = .ok (.iinc 3 1, 3) := by decide +kernel
theorem dX1_readDigits_72 : decode cX1_readDigits 72 = .ok (.goto (-51), 3) := by decide +kernel
theorem dX1_readDigits_75 : decode cX1_readDigits 75 = .ok (.iload_n 2, 1) := by decide +kernel
theorem dX1_readDigits_76 : decode cX1_readDigits 76 = .ok (.ireturn, 1) := by decide +kernel
set_option maxRecDepth 20000 in
theorem ggX1_skip_X1_isSign : GoodIn wsX1_skip wsX1_isSign := goodIn_r _ [6, 7, 8, 9, 10, 11] (by decide +kernel) (by decide +kernel)
set_option maxRecDepth 20000 in
theorem gX1_skip_X1_isSign : GoodIn wsX1_skip (wsV RX1 35 RX1 yX1_isSign wsX1_isSign) := goodIn_app (goodIn_of _ (by decide +kernel)) ggX1_skip_X1_isSign
theorem dX1_skip_0 : decode cX1_skip 0 = .ok (.aload_n 0, 1) := by decide +kernel
theorem dX1_skip_1 : decode cX1_skip 1 = .ok (.aload_n 0, 1) := by decide +kernel
theorem dX1_skip_2 : decode cX1_skip 2 = .ok (.getfield 19, 3) := by decide +kernel
theorem dX1_skip_5 : decode cX1_skip 5 = .ok (.iload_n 1, 1) := by decide +kernel
theorem dX1_skip_6 : decode cX1_skip 6 = .ok (.iload_n 1, 1) := by decide +kernel
theorem dX1_skip_7 : decode cX1_skip 7 = .ok (.invokevirtual 35, 3) := by decide +kernel
theorem dX1_skip_10 : decode cX1_skip 10 = .ok (.ifCond .ne 5, 3) := by decide +kernel
theorem dX1_skip_13 : decode cX1_skip 13 = .ok (.iconst 0, 1) := by decide +kernel
theorem dX1_skip_14 : decode cX1_skip 14 = .ok (.ireturn, 1) := by decide +kernel
theorem dX1_skip_15 : decode cX1_skip 15 = .ok (.aload_n 0, 1) := by decide +kernel
theorem dX1_skip_16 : decode cX1_skip 16 = .ok (.dup, 1) := by decide +kernel
theorem dX1_skip_17 : decode cX1_skip 17 = .ok (.getfield 19, 3) := by decide +kernel
theorem dX1_skip_20 : decode cX1_skip 20 = .ok (.iconst 1, 1) := by decide +kernel
theorem dX1_skip_21 : decode cX1_skip 21 = .ok (.iadd, 1) := by decide +kernel
theorem dX1_skip_22 : decode cX1_skip 22 = .ok (.putfield 19, 3) := by decide +kernel
theorem dX1_skip_25 : decode cX1_skip 25 = .ok (.iconst 1, 1) := by decide +kernel
theorem dX1_skip_26 : decode cX1_skip 26 = .ok (.ireturn, 1) := by decide +kernel
theorem dX1_isSign_0 : decode cX1_isSign 0 = .ok (.iload_n 1, 1) := by decide +kernel
theorem dX1_isSign_1 : decode cX1_isSign 1 = .ok (.ifCond .lt 35, 3) := by decide +kernel
theorem dX1_isSign_4 : decode cX1_isSign 4 = .ok (.iload_n 1, 1) := by decide +kernel
theorem dX1_isSign_5 : decode cX1_isSign 5 = .ok (.aload_n 0, 1) := by decide +kernel
theorem dX1_isSign_6 : decode cX1_isSign 6 = .ok (.getfield 15, 3) := by decide +kernel
theorem dX1_isSign_9 : decode cX1_isSign 9 = .ok (.if_icmp .ge 27, 3) := by decide +kernel
theorem dX1_isSign_12 : decode cX1_isSign 12 = .ok (.aload_n 0, 1) := by decide +kernel
theorem dX1_isSign_13 : decode cX1_isSign 13 = .ok (.getfield 9, 3) := by decide +kernel
theorem dX1_isSign_16 : decode cX1_isSign 16 = .ok (.iload_n 1, 1) := by decide +kernel
theorem dX1_isSign_17 : decode cX1_isSign 17 = .ok (.baload, 1) := by decide +kernel
theorem dX1_isSign_18 : decode cX1_isSign 18 = .ok (.iload_n 2, 1) := by decide +kernel
theorem dX1_isSign_19 : decode cX1_isSign 19 = .ok (.if_icmp .lt 17, 3) := by decide +kernel
theorem dX1_isSign_22 : decode cX1_isSign 22 = .ok (.aload_n 0, 1) := by decide +kernel
theorem dX1_isSign_23 : decode cX1_isSign 23 = .ok (.getfield 9, 3) := by decide +kernel
theorem dX1_isSign_26 : decode cX1_isSign 26 = .ok (.iload_n 1, 1) := by decide +kernel
theorem dX1_isSign_27 : decode cX1_isSign 27 = .ok (.baload, 1) := by decide +kernel
theorem dX1_isSign_28 : decode cX1_isSign 28 = .ok (.iload_n 3, 1) := by decide +kernel
theorem dX1_isSign_29 : decode cX1_isSign 29 = .ok (.if_icmp .gt 7, 3) := by decide +kernel
theorem dX1_isSign_32 : decode cX1_isSign 32 = .ok (.iconst 1, 1) := by decide +kernel
theorem dX1_isSign_33 : decode cX1_isSign 33 = .ok (.goto 4, 3) := by decide +kernel
theorem dX1_isSign_36 : decode cX1_isSign 36 = .ok (.iconst 0, 1) := by decide +kernel
theorem dX1_isSign_37 : decode cX1_isSign 37 = .ok (.ireturn, 1) := by decide +kernel
set_option maxRecDepth 20000 in
theorem ggX2_init_X0_init : GoodIn wsX2_init wsX0_init := goodIn_r _ [9, 10, 2, 3, 11, 12, 13, 15, 16] (by decide +kernel) (by decide +kernel)
set_option maxRecDepth 20000 in
theorem gX2_init_X0_init_n17 : GoodIn wsX2_init (wsX0_init) := ggX2_init_X0_init
theorem dX2_init_0 : decode cX2_init 0 = .ok (.aload_n 0, 1) := by decide +kernel
theorem dX2_init_1 : decode cX2_init 1 = .ok (.invokespecial 3, 3) := by decide +kernel
theorem dX2_init_4 : decode cX2_init 4 = .ok (.aload_n 0, 1) := by decide +kernel
theorem dX2_init_5 : decode cX2_init 5 = .ok (.iconst 4, 1) := by decide +kernel
theorem dX2_init_6 : decode cX2_init 6 = .ok (.anewarray 9, 3) := by decide +kernel
theorem dX2_init_9 : decode cX2_init 9 = .ok (.putfield 11, 3) := by decide +kernel
theorem dX2_init_12 : decode cX2_init 12 = .ok (.iconst 0, 1) := by decide +kernel
theorem dX2_init_13 : decode cX2_init 13 = .ok (.istore_n 1, 1) := by decide +kernel
theorem dX2_init_14 : decode cX2_init 14 = .ok (.iload_n 1, 1) := by decide +kernel
theorem dX2_init_15 : decode cX2_init 15 = .ok (.iconst 4, 1) := by decide +kernel
theorem dX2_init_16 : decode cX2_init 16 = .ok (.if_icmp .ge 22, 3) := by decide +kernel
theorem dX2_init_19 : decode cX2_init 19 = .ok (.aload_n 0, 1) := by decide +kernel
theorem dX2_init_20 : decode cX2_init 20 = .ok (.getfield 11, 3) := by decide +kernel
theorem dX2_init_23 : decode cX2_init 23 = .ok (.iload_n 1, 1) := by decide +kernel
theorem dX2_init_24 : decode cX2_init 24 = .ok (.new 9, 3) := by decide +kernel
theorem dX2_init_27 : decode cX2_init 27 = .ok (.dup, 1) := by decide +kernel
theorem dX2_init_28 : decode cX2_init 28 = .ok (.invokespecial 17, 3) := by decide +kernel
theorem dX2_init_31 : decode cX2_init 31 = .ok (.aastore, 1) := by decide +kernel
theorem dX2_init_32 : decode cX2_init 32 = .ok (.iinc 1 1, 3) := by decide +kernel
theorem dX2_init_35 : decode cX2_init 35 = .ok (.goto (-21), 3) := by decide +kernel
theorem dX2_init_38 : decode cX2_init 38 = .ok (.return_, 1) := by decide +kernel
set_option maxRecDepth 20000 in
theorem ggX2_become_X0_become : GoodIn wsX2_become wsX0_become := goodIn_r _ [5, 6, 7, 8, 9, 10, 11, 13, 14] (by decide +kernel) (by decide +kernel)
set_option maxRecDepth 20000 in
theorem gX2_become_X0_become_n18 : GoodIn wsX2_become (wsX0_become) := ggX2_become_X0_become
theorem dX2_become_0 : decode cX2_become 0 = .ok (.iconst 0, 1) := by decide +kernel
theorem dX2_become_1 : decode cX2_become 1 = .ok (.istore_n 2, 1) := by decide +kernel
theorem dX2_become_2 : decode cX2_become 2 = .ok (.iload_n 2, 1) := by decide +kernel
theorem dX2_become_3 : decode cX2_become 3 = .ok (.iconst 4, 1) := by decide +kernel
theorem dX2_become_4 : decode cX2_become 4 = .ok (.if_icmp .ge 24, 3) := by decide +kernel
theorem dX2_become_7 : decode cX2_become 7 = .ok (.aload_n 0, 1) := by decide +kernel
theorem dX2_become_8 : decode cX2_become 8 = .ok (.getfield 11, 3) := by decide +kernel
theorem dX2_become_11 : decode cX2_become 11 = .ok (.iload_n 2, 1) := by decide +kernel
theorem dX2_become_12 : decode cX2_become 12 = .ok (.aaload, 1) := by decide +kernel
theorem dX2_become_13 : decode cX2_become 13 = .ok (.aload_n 1, 1) := by decide +kernel
theorem dX2_become_14 : decode cX2_become 14 = .ok (.getfield 11, 3) := by decide +kernel
theorem dX2_become_17 : decode cX2_become 17 = .ok (.iload_n 2, 1) := by decide +kernel
theorem dX2_become_18 : decode cX2_become 18 = .ok (.aaload, 1) := by decide +kernel
theorem dX2_become_19 : decode cX2_become 19 = .ok (.invokevirtual 18, 3) := by decide +kernel
theorem dX2_become_22 : decode cX2_become 22 = .ok (.iinc 2 1, 3) := by decide +kernel
theorem dX2_become_25 : decode cX2_become 25 = .ok (.goto (-23), 3) := by decide +kernel
theorem dX2_become_28 : decode cX2_become 28 = .ok (.return_, 1) := by decide +kernel
set_option maxRecDepth 20000 in
theorem ggX3_init_X2_init : GoodIn wsX3_init wsX2_init := goodIn_r _ [22, 23, 2, 3, 24, 25, 15, 16, 26, 27, 28, 29, 18, 30, 38, 49, 50] (by decide +kernel) (by decide +kernel)
set_option maxRecDepth 20000 in
theorem gX3_init_X2_init_n11 : GoodIn wsX3_init (wsX2_init) := ggX3_init_X2_init
set_option maxRecDepth 20000 in
theorem ggX3_init_X1_init : GoodIn wsX3_init wsX1_init := goodIn_r _ [32, 33, 2, 3, 34, 35, 36, 37, 46, 47, 48] (by decide +kernel) (by decide +kernel)
set_option maxRecDepth 20000 in
theorem gX3_init_X1_init_n26 : GoodIn wsX3_init (wsX1_init) := ggX3_init_X1_init
set_option maxRecDepth 20000 in
theorem ggX3_init_X0_init : GoodIn wsX3_init wsX0_init := goodIn_r _ [27, 28, 2, 3, 29, 18, 30, 49, 50] (by decide +kernel) (by decide +kernel)
set_option maxRecDepth 20000 in
theorem gX3_init_X0_init_n33 : GoodIn wsX3_init (wsX0_init) := ggX3_init_X0_init
end
section
/-! ===== words of the printed pure functions ===== -/
def vlet {α β : Type} (x : α) (k : α → Option β) : Option β := k x
def vgd {β : Type} (c : Prop) [Decidable c] (k : Option β) : Option β := if c then k else none
abbrev ix (i : Int32) (n : Nat) : Prop := 0 ≤ i.toInt ∧ i.toInt < (n : Int)
theorem q_if_t {α : Type} {c : Prop} {i : Decidable c} {a b r : Option α} (h : @ite _ c i a b = r) (hc : c) : a = r := by rw [if_pos hc] at h; exact h
theorem q_if_f {α : Type} {c : Prop} {i : Decidable c} {a b r : Option α} (h : @ite _ c i a b = r) (hc : ¬ c) : b = r := by rw [if_neg hc] at h; exact h
theorem q_gd {α : Type} {c : Prop} {i : Decidable c} {a : Option α} {r : α} (h : @vgd _ c i a = some r) : c ∧ a = some r := by
  unfold vgd at h
  by_cases hc : c
  · rw [if_pos hc] at h; exact ⟨hc, h⟩
  · rw [if_neg hc] at h; cases h
theorem q_let {α β : Type} {x y : α} {k : α → Option β} {r : Option β} (h : vlet x k = r) (e : y = x) : k y = r := by subst e; exact h
theorem q_bd {α β : Type} {x : Option α} {k : α → Option β} {r : β} (h : x.bind k = some r) : ∃ a, x = some a ∧ k a = some r := by
  cases x with
  | none => cases h
  | some a => exact ⟨a, rfl, h⟩
theorem q_rt {α : Type} {a r : α} (h : some a = some r) : a = r := Option.some.inj h
theorem q_no {α : Type} {r : α} {P : Prop} (h : (none : Option α) = some r) : P := by cases h
/-! ===== what every method's start gives: the tables, nest mates' links ===== -/
def nsM : List (String × Nat × MethodName × String) := [(RX3, 11, yX2_init, RX3), (RX2, 17, yX0_init, RX3), (RX3, 26, yX1_init, RX3), (RX3, 33, yX0_init, RX3), (RX3, 101, yX0_tangentOf, RX3), (RX3, 87, yX0_cell, RX3), (RX3, 142, yX0_valueAt, RX3), (RX3, 63, yX0_numberAtFrame, RX3), (RX3, 195, yX2_become, RX3), (RX2, 18, yX0_become, RX3), (RX3, 72, yX0_insert, RX3), (RX3, 219, yX0_isLocked, RX3), (RX3, 83, yX0_takeOut, RX3), (RX3, 91, yX0_put, RX3), (RX3, 96, yX0_moveTo, RX3), (RX3, 108, yX0_canStretch, RX3), (RX3, 114, yX0_stretchSpan, RX3), (RX3, 224, yX0_hasLock, RX3), (RX3, 122, yX0_canRaise, RX3), (RX3, 128, yX0_become, RX3), (RX3, 131, yX0_raise, RX3), (RX3, 152, yX0_bake, RX3), (RX3, 170, yX0_mayLeaveOut, RX3), (RX3, 186, yX1_add, RX3), (RX3, 189, yX1_readInto, RX3), (RX1, 39, yX0_lastFrame, RX3), (RX1, 50, yX0_insert, RX3)]
def nsF : List (String × Nat × String × String × String × String) := [(RX3, 53, RX0, "count", "I", RX3), (RX1, 22, RX0, "count", "I", RX3), (RX3, 200, RX2, "curves", "[LEaseCurves$Curve;", RX3), (RX3, 181, RX1, "length", "I", RX3)]
def nsts (U : State) : Prop := (∀ q ∈ nsM, va_Nw (.methodLinkNest q.1 q.2.1 q.2.2.1 q.2.2.2) U) ∧ ∀ q ∈ nsF, va_Nw (.fieldLinkNest q.1 q.2.1 q.2.2.1 q.2.2.2.1 q.2.2.2.2.1 q.2.2.2.2.2) U
theorem nsts.warm {s U : State} (hW : s.WarmedH U.vm) (h : nsts s) : nsts U := ⟨fun q hq => va_Nw.warmM hW (h.1 q hq), fun q hq => va_Nw.warmF hW (h.2 q hq)⟩
theorem nsts.same {s U : State} (hW : s.vm = U.vm) (h : nsts s) : nsts U := ⟨fun q hq => va_Nw.same rfl hW (h.1 q hq), fun q hq => va_Nw.same rfl hW (h.2 q hq)⟩
abbrev tyG (g : Nat → ClassId) : List (ClassId × FieldType) := [(g 0, .int), (g 1, .byte), (g 2, .object "EaseCurves$Curve"), (g 3, .object "EaseCurves$State"), (g 4, .long), (g 5, .double)]
def amb (G : va_G) (g : Nat → ClassId) (U : State) : Prop := va_K G vwCl (tyG g) U ∧ nsts U
theorem amb.warm {G : va_G} {g : Nat → ClassId} {s U : State} (hW : s.WarmedH U.vm) (h : amb G g s) : amb G g U := ⟨va_K.moved hW.alike h.1, h.2.warm hW⟩
theorem amb.call {G : va_G} {g : Nat → ClassId} {U : State} {f : JFrame} {mk : MethodId} {a : Array Value} (h : amb G g U) : amb G g (U.calling f mk a) := ⟨va_K.moved (u := U) (U := U.calling f mk a) (Vm.Alike.refl U.vm) h.1, h.2.same (s := U) (U := U.calling f mk a) rfl⟩
/-! ===== contracts: methods that only read, methods that write in their world ===== -/
def cx (p : Program) (s : State) (m : MethodId) (args : Array Value) (meth : Method) (c : Code) (cc : ByteArray) (nL : Nat) (ret : Option FieldType) (own : String) (ws : List Cond) : Prop :=
  p.tables.exec = Jvm.exec ∧ c.code = cc ∧ c.maxLocals = nL ∧ meth.sig.returnType = ret ∧ s.vm.findClass own = some m.cls ∧ (∀ w ∈ ws, w.before args s = true) ∧ meth.locks = false
abbrev rmF (fr lo : Nat) : Room := { frames := fr, cells := 0, slots := 0, locals := lo }
def roQ (v : Option Value) : Array Value → State → Outcome → State → Prop := fun _ st o t => o = .returned v ∧ t.heap = st.heap
def roP (G : va_G) (g : Nat → ClassId) (av : List Value) (wc : va_W) : Array Value → State → Prop := va_Pc av (fun U => va_P G vwCl wc U.heap ∧ amb G g U)
def roC (l : Launch) (y : MethodName) (ws : List Cond) (rm : Room) (G : va_G) (g : Nat → ClassId) (av : List Value) (wc : va_W) (v : Option Value) : Prop := Met l y ws rm (roP G g av wc) (roQ v) 0 0 (fun _ => False)
abbrev roM (below : List Frame) (v : Option Value) (args : Array Value) (s : State) : State → Prop := MQ below (roQ v) args s 0 0 (fun _ => False)
theorem roC.of {l : Launch} {y : MethodName} {ws ws' : List Cond} {fr lo : Nat} {G : va_G} {g : Nat → ClassId} {av : List Value} {wc : va_W} {v : Option Value} {cc : ByteArray} {maxL : Nat} {ret : Option FieldType} (hy : plainName y.cls = true) (hw : ws = Cond.code y cc maxL ret :: ws') (hlen : (lg_sl av).length ≤ maxL)
    (body : ∀ (p : Program) (e : Env) (s : State) (m : MethodId) (below : List Frame) (meth : Method) (c : Code) (ls : Array Slot), cx p s m av.toArray meth c cc maxL ret y.cls ws → amb G g s → va_P G vwCl wc s.heap → lv_has ls maxL (lv_args 0 av) → W p l e (rmF fr lo) s m av.toArray below meth c s.heap [] 0 0 (roM below v av.toArray s) (F0 m 0 ls [])) : roC l y ws (rmF fr lo) G g av wc v := by
  refine Met.ofW (cc := cc) (maxL := maxL) (ret := ret) hy hw ?_
  intro p e s m args below meth c s₁ B hml hv
  obtain ⟨rfl, hP, hK⟩ := hv
  have hl := lv_entry av (n := maxL) hlen
  rw [lg_entry_eq]
  exact body p e s m below meth c _ ⟨B.exec, B.bytes, hml, B.returns, findClass_of_methodNamed B.named, atoms_spec (ws := ws) B.pre, B.notSynchronized⟩ hK hP hl
def rwQ (G : va_G) (A : Nat → Prop) (v : Option Value) (w1 : va_W) : Array Value → State → Outcome → State → Prop := fun _ st o t => (o = .returned v ∧ va_P G vwCl w1 t.heap ∧ va_D A w1) ∧ va_F A st t
def rwP (G : va_G) (g : Nat → ClassId) (av : List Value) (wc : va_W) (sz : Nat) : Array Value → State → Prop := va_Pc av (fun U => U.heap.size = sz ∧ va_P G vwCl wc U.heap ∧ amb G g U ∧ va_D (fun _ => True) wc)
def rwC (l : Launch) (y : MethodName) (ws : List Cond) (rm : Room) (G : va_G) (g : Nat → ClassId) (av : List Value) (wc : va_W) (v : Option Value) (w1 : va_W) : Prop := ∀ sz : Nat, Met l y ws rm (rwP G g av wc sz) (rwQ G (va_A wc sz) v w1) 0 0 (va_A wc sz)
abbrev rwM (G : va_G) (A : Nat → Prop) (below : List Frame) (v : Option Value) (w1 : va_W) (args : Array Value) (s : State) : State → Prop := MQ below (rwQ G A v w1) args s 0 0 A
theorem rwC.of {l : Launch} {y : MethodName} {ws ws' : List Cond} {fr lo : Nat} {G : va_G} {g : Nat → ClassId} {av : List Value} {wc w1 : va_W} {v : Option Value} {cc : ByteArray} {maxL : Nat} {ret : Option FieldType} (hy : plainName y.cls = true) (hw : ws = Cond.code y cc maxL ret :: ws') (hlen : (lg_sl av).length ≤ maxL)
    (body : ∀ (p : Program) (e : Env) (s : State) (m : MethodId) (below : List Frame) (meth : Method) (c : Code) (ls : Array Slot) (A : Nat → Prop), cx p s m av.toArray meth c cc maxL ret y.cls ws → amb G g s → (∀ q : Nat, s.heap.size ≤ q → A q) → va_P G vwCl wc s.heap → va_D A wc → va_S A s.heap s.heap [] → lv_has ls maxL (lv_args 0 av) → W p l e (rmF fr lo) s m av.toArray below meth c s.heap [] 0 0 (rwM G A below v w1 av.toArray s) (F0 m 0 ls [])) : rwC l y ws (rmF fr lo) G g av wc v w1 := by
  intro sz
  refine Met.ofW (cc := cc) (maxL := maxL) (ret := ret) hy hw ?_
  intro p e s m args below meth c s₁ B hml hv
  obtain ⟨rfl, hsz, hP, hK, hD0⟩ := hv
  subst hsz
  have hl := lv_entry av (n := maxL) hlen
  rw [lg_entry_eq]
  exact body p e s m below meth c _ _ ⟨B.exec, B.bytes, hml, B.returns, findClass_of_methodNamed B.named, atoms_spec (ws := ws) B.pre, B.notSynchronized⟩ hK (fun q h => Or.inr h) hP (hD0.self (sz := s.heap.size)) va_S.rf hl
section MyRows
variable {p : Program} {l : Launch} {e : Env} {R : Room} {s : State} {m : MethodId} {args : Array Value} {below : List Frame} {meth : Method} {c : Code} {H H0 : Heap} {locs : List Loc} {cells slots : Nat} {Q : State → Prop} {pc : Nat} {ls : Array Slot}
variable {G : va_G} {g : Nat → ClassId} {A A0 : Nat → Prop} {cc : ByteArray} {nL : Nat} {rt : Option FieldType} {own : String} {Ts : List Cond}
theorem ro_iret {v : Int32} (hx : p.tables.exec = Jvm.exec) (hb : c.code = cc) (hr : meth.sig.returnType = some .int) (hk : meth.locks = false) (hdg : decode cc pc = .ok (.ireturn, 1)) : W p l e R s m args below meth c s.heap [] 0 0 (roM below (some (.int v)) args s) (F0 m pc ls [.int v]) :=
  W.iret hx hb hr (fun t ht _ => ⟨rfl, ht⟩) (fun q hq => absurd hq List.not_mem_nil) hdg hk
theorem ro_zret {v : Int32} (hx : p.tables.exec = Jvm.exec) (hb : c.code = cc) (hr : meth.sig.returnType = some .boolean) (hv : narrow .boolean (.int v) = .int v) (hk : meth.locks = false) (hdg : decode cc pc = .ok (.ireturn, 1)) : W p l e R s m args below meth c s.heap [] 0 0 (roM below (some (.int v)) args s) (F0 m pc ls [.int v]) :=
  W.zret hx hb hr hv (fun t ht _ => ⟨rfl, ht⟩) (fun q hq => absurd hq List.not_mem_nil) hdg hk
theorem ro_lret {v : Int64} (hx : p.tables.exec = Jvm.exec) (hb : c.code = cc) (hr : meth.sig.returnType = some .long) (hk : meth.locks = false) (hdg : decode cc pc = .ok (.lreturn, 1)) : W p l e R s m args below meth c s.heap [] 0 0 (roM below (some (.long v)) args s) (F0 m pc ls [.long v]) :=
  W.lret hx hb hr (fun t ht _ => ⟨rfl, ht⟩) (fun q hq => absurd hq List.not_mem_nil) hdg hk
theorem ro_vret (hx : p.tables.exec = Jvm.exec) (hb : c.code = cc) (hr : meth.sig.returnType = none) (hk : meth.locks = false) (hdg : decode cc pc = .ok (.return_, 1)) : W p l e R s m args below meth c s.heap [] 0 0 (roM below none args s) (F0 m pc ls []) :=
  W.vret hx hb hr (fun t ht _ => ⟨rfl, ht⟩) (fun q hq => absurd hq List.not_mem_nil) hdg hk
theorem rw_iret {v : Int32} {w1 : va_W} (hx : p.tables.exec = Jvm.exec) (hb : c.code = cc) (hr : meth.sig.returnType = some .int) (hk : meth.locks = false) (hP : va_P G vwCl w1 H) (hD : va_D A w1) (hS : va_S A s.heap H locs) (hdg : decode cc pc = .ok (.ireturn, 1)) : W p l e R s m args below meth c H locs 0 0 (rwM G A below (some (.int v)) w1 args s) (F0 m pc ls [.int v]) :=
  W.iret hx hb hr (fun t ht _ => ⟨⟨rfl, by rw [ht]; exact hP, hD⟩, hS.F ht⟩) hS.2.2 hdg hk
theorem rw_zret {v : Int32} {w1 : va_W} (hx : p.tables.exec = Jvm.exec) (hb : c.code = cc) (hr : meth.sig.returnType = some .boolean) (hv : narrow .boolean (.int v) = .int v) (hk : meth.locks = false) (hP : va_P G vwCl w1 H) (hD : va_D A w1) (hS : va_S A s.heap H locs) (hdg : decode cc pc = .ok (.ireturn, 1)) : W p l e R s m args below meth c H locs 0 0 (rwM G A below (some (.int v)) w1 args s) (F0 m pc ls [.int v]) :=
  W.zret hx hb hr hv (fun t ht _ => ⟨⟨rfl, by rw [ht]; exact hP, hD⟩, hS.F ht⟩) hS.2.2 hdg hk
theorem rw_lret {v : Int64} {w1 : va_W} (hx : p.tables.exec = Jvm.exec) (hb : c.code = cc) (hr : meth.sig.returnType = some .long) (hk : meth.locks = false) (hP : va_P G vwCl w1 H) (hD : va_D A w1) (hS : va_S A s.heap H locs) (hdg : decode cc pc = .ok (.lreturn, 1)) : W p l e R s m args below meth c H locs 0 0 (rwM G A below (some (.long v)) w1 args s) (F0 m pc ls [.long v]) :=
  W.lret hx hb hr (fun t ht _ => ⟨⟨rfl, by rw [ht]; exact hP, hD⟩, hS.F ht⟩) hS.2.2 hdg hk
theorem rw_vret {w1 : va_W} (hx : p.tables.exec = Jvm.exec) (hb : c.code = cc) (hr : meth.sig.returnType = none) (hk : meth.locks = false) (hP : va_P G vwCl w1 H) (hD : va_D A w1) (hS : va_S A s.heap H locs) (hdg : decode cc pc = .ok (.return_, 1)) : W p l e R s m args below meth c H locs 0 0 (rwM G A below none w1 args s) (F0 m pc ls []) :=
  W.vret hx hb hr (fun t ht _ => ⟨⟨rfl, by rw [ht]; exact hP, hD⟩, hS.F ht⟩) hS.2.2 hdg hk
theorem nz_0 : narrow .boolean (.int 0) = .int 0 := rfl
theorem nz_1 : narrow .boolean (.int 1) = .int 1 := rfl
theorem nz_b {v : Int32} (h : v = 0 ∨ v = 1) : narrow .boolean (.int v) = .int v := by rcases h with rfl | rfl <;> rfl
/-- behind a call of a method that only reads -/
theorem ro_go {a : Array Value} {v : Option Value} {st0 rest : List Value} (hr : va_Run p l e R s m args below meth c H locs cells slots 0 0 (F0 m pc ls st0) rest (roQ v a) (fun _ => False))
    (kk : W p l e R s m args below meth c H locs cells slots Q (F0 m (pc + 3) ls (v.toList ++ rest))) : W p l e R s m args below meth c H locs cells slots Q (F0 m pc ls st0) := by
  intro T hT X
  obtain ⟨v', st₀, t, T', L, h0, X', hL, e1, e2, ⟨hv, hh⟩, st⟩ := hr T hT X
  cases hv
  obtain ⟨t2, a1, b1⟩ := kk T' (by rw [e1, hh, h0]) (Stand.forget X' (fun q h => (hL q h).elim))
  exact ⟨t2, st t2 a1, b1⟩
/-- behind a call of a method that writes in its world -/
theorem rw_go {a : Array Value} {v : Option Value} {st0 rest : List Value} {ws wc wr w1 : va_W} (hr : va_Run p l e R s m args below meth c H locs cells slots 0 0 (F0 m pc ls st0) rest (rwQ G (va_A wc H.size) v w1 a) (va_A wc H.size))
    (hP : va_P G vwCl ws H) (hD : va_D A0 ws) (hS : va_S A0 H0 H locs) (hA : ∀ q, H0.size ≤ q → A0 q) (isC isR : List Nat) (hC : isC.map (fun i => ws[i]?) = wc.map some) (hR : isR.map (fun i => ws[i]?) = wr.map some) (hn : va_nd isR = true) (hdis : ∀ i ∈ isR, i ∉ isC)
    (kk : ∀ (H1 : Heap) (locs1 : List Loc), va_P G vwCl (wr ++ w1) H1 → va_D A0 (wr ++ w1) → va_S A0 H0 H1 locs1 → W p l e R s m args below meth c H1 locs1 cells slots Q (F0 m (pc + 3) ls (v.toList ++ rest))) : W p l e R s m args below meth c H locs cells slots Q (F0 m pc ls st0) := by
  have hFc := va_free (wc := wc) hD hS hA isC hC
  intro T hT X
  obtain ⟨v', st₀, t, T', L, h0, X', hL, e1, e2, ⟨⟨hv, hP1, hD1⟩, hz, hk⟩, st⟩ := hr T hT X
  cases hv
  rw [h0] at hz hk
  rw [← e1] at hP1 hz hk
  obtain ⟨hP2, hD2⟩ := va_join hP hD isC isR hC hR hn hdis hk hFc hP1 hD1
  have hS2 : va_S A0 H0 T'.heap (locs ++ L) := ⟨Nat.le_trans hS.1 hz, fun q h1 h2 => by rw [hk q (Nat.lt_of_lt_of_le h1 hS.1) (fun z => h2 (hFc q z))]; exact hS.2.1 q h1 h2, fun q hq => by
      rcases List.mem_append.mp hq with h | h
      · exact hS.2.2 q h
      · exact hFc _ (hL q h)⟩
  obtain ⟨t2, a1, b1⟩ := kk T'.heap (locs ++ L) hP2 hD2 hS2 T' rfl X'
  exact ⟨t2, st t2 a1, b1⟩
theorem roP.blind {av : List Value} {wc : va_W} : FrameBlind (roP G g av wc) := fun a U f mk q => ⟨q.1, q.2.1, q.2.2.call⟩
theorem rwP.blind {av : List Value} {wc : va_W} {sz : Nat} : FrameBlind (rwP G g av wc sz) := fun a U f mk q => ⟨q.1, q.2.1, q.2.2.1, q.2.2.2.1.call, q.2.2.2.2⟩
theorem cx.fix (C : cx p s m args meth c cc nL rt own Ts) : CallFix p m c cc nL s args Ts own := ⟨C.1, C.2.1, C.2.2.1, C.2.2.2.2.1, C.2.2.2.2.2.1⟩
def ynm (y : MethodName) (n : Nat) : Prop := y.cls ≠ "java/lang/invoke/MethodHandle" ∧ y.cls ≠ "java/lang/invoke/VarHandle" ∧ (parseMethodDescriptor y.desc).map (fun d => d.parameters.length) = some n
theorem roV (X : cx p s m args meth c cc nL rt own Ts) (K : amb G g s) {y : MethodName} {ws ws' : List Cond} {fr lo n index maxL ci N : Nat} {bytes : ByteArray} {ret : Option FieldType} {b : Addr} {As rest st0 fs : List Value} {wc : va_W} {v : Option Value} {T : u_T}
    (hM : roC l y ws (rmF fr lo) G g (.ref b :: As) wc v) (hd : ynm y n) (hT : GoodIn Ts (wsV own index y.cls y ws)) (hP : va_P G vwCl wc H) (hls : ls.size = nL) (hdg : decode cc pc = .ok (.invokevirtual index, 3)) (hw : ws = Cond.code y bytes maxL ret :: ws') (hn : As.length = n) (hR : fr + 1 ≤ R.frames ∧ 8 + (maxL + 11) + lo ≤ R.locals) (hc : vwCl[ci]? = some (y.cls, T, N)) (h0 : wc[0]? = some (b, .inr (ci, fs))) (hst : st0 = As.reverse ++ .ref b :: rest) (hsum : (rest.map fun v => v.category).sum ≤ 8) (hf : cells ≤ R.cells ∧ slots ≤ R.slots)
    (kk : W p l e R s m args below meth c H locs cells slots Q (F0 m (pc + 3) ls (v.toList ++ rest))) : W p l e R s m args below meth c H locs cells slots Q (F0 m pc ls st0) :=
  ro_go (va_runV (C := y.cls) X.fix hM (cwV n X.2.2.2.2.2.1 hT hw rfl rfl ⟨rfl, hd⟩ hR) ⟨roP.blind, va_recv K.1 hP hc h0, fun U hU hW => ⟨rfl, by rw [hU]; exact hP, K.warm hW⟩⟩ rfl hn hls hst (lv_room hsum) hdg hf) kk
theorem roS (X : cx p s m args meth c cc nL rt own Ts) (K : amb G g s) {y : MethodName} {ws ws' : List Cond} {fr lo n index maxL : Nat} {bytes : ByteArray} {ret : Option FieldType} {As rest st0 : List Value} {wc : va_W} {v : Option Value}
    (hM : roC l y ws (rmF fr lo) G g As wc v) (hd : ynm y n) (hT : GoodIn Ts (va_wsS own index y ws)) (hP : va_P G vwCl wc H) (hls : ls.size = nL) (hdg : decode cc pc = .ok (.invokestatic index, 3)) (hw : ws = Cond.code y bytes maxL ret :: ws') (hn : As.length = n) (hR : fr + 1 ≤ R.frames ∧ 8 + (maxL + 11) + lo ≤ R.locals) (hst : st0 = As.reverse ++ rest) (hsum : (rest.map fun v => v.category).sum ≤ 8) (hf : cells ≤ R.cells ∧ slots ≤ R.slots)
    (kk : W p l e R s m args below meth c H locs cells slots Q (F0 m (pc + 3) ls (v.toList ++ rest))) : W p l e R s m args below meth c H locs cells slots Q (F0 m pc ls st0) :=
  ro_go (va_runS X.fix hM (va_cwS n X.2.2.2.2.2.1 hT hw rfl rfl hd hR) ⟨roP.blind, fun U hU hW => ⟨rfl, by rw [hU]; exact hP, K.warm hW⟩⟩ rfl hn hls hst (lv_room hsum) hdg hf) kk
theorem roN (X : cx p s m args meth c cc nL rt own Ts) (K : amb G g s) {y : MethodName} {ws ws' : List Cond} {fr lo n index maxL ci N : Nat} {bytes : ByteArray} {ret : Option FieldType} {b : Addr} {As rest st0 fs : List Value} {wc : va_W} {v : Option Value} {T : u_T} {host : String}
    (hM : roC l y ws (rmF fr lo) G g (.ref b :: As) wc v) (hd : ynm y n) (hT : GoodIn Ts ws) (hns : (own, index, y, host) ∈ nsM) (hini : Cond.initialized y.cls ∈ Ts) (hins : Cond.instanceMethod y ∈ Ts) (hsel : Cond.selects y.cls y y ∈ Ts) (hP : va_P G vwCl wc H) (hls : ls.size = nL) (hdg : decode cc pc = .ok (.invokevirtual index, 3)) (hw : ws = Cond.code y bytes maxL ret :: ws') (hn : As.length = n) (hR : fr + 1 ≤ R.frames ∧ 8 + (maxL + 11) + lo ≤ R.locals) (hc : vwCl[ci]? = some (y.cls, T, N)) (h0 : wc[0]? = some (b, .inr (ci, fs))) (hst : st0 = As.reverse ++ .ref b :: rest) (hsum : (rest.map fun v => v.category).sum ≤ 8) (hf : cells ≤ R.cells ∧ slots ≤ R.slots)
    (kk : W p l e R s m args below meth c H locs cells slots Q (F0 m (pc + 3) ls (v.toList ++ rest))) : W p l e R s m args below meth c H locs cells slots Q (F0 m pc ls st0) :=
  ro_go (va_runVN (C := y.cls) (host := host) X.fix hM ⟨va_cnB n X.2.2.2.2.2.1 hT hw rfl rfl (K.2.1 _ hns) (X.2.2.2.2.2.1 _ hini) hd hR, X.2.2.2.2.2.1 _ hins, X.2.2.2.2.2.1 _ hsel⟩ ⟨roP.blind, va_recv K.1 hP hc h0, fun U hU hW => ⟨rfl, by rw [hU]; exact hP, K.warm hW⟩⟩ rfl hn hls hst (lv_room hsum) hdg hf) kk
theorem rwV (X : cx p s m args meth c cc nL rt own Ts) (K : amb G g s) {y : MethodName} {ws' wsy : List Cond} {fr lo n index maxL ci N : Nat} {bytes : ByteArray} {ret : Option FieldType} {b : Addr} {As rest st0 fs : List Value} {ws wc wr w1 : va_W} {v : Option Value} {T : u_T}
    (hM : rwC l y wsy (rmF fr lo) G g (.ref b :: As) wc v w1) (hd : ynm y n) (hT : GoodIn Ts (wsV own index y.cls y wsy)) (hP : va_P G vwCl ws H) (hD : va_D A0 ws) (hS : va_S A0 H0 H locs) (hA : ∀ q, H0.size ≤ q → A0 q) (isC isR : List Nat) (hC : isC.map (fun i => ws[i]?) = wc.map some) (hR' : isR.map (fun i => ws[i]?) = wr.map some) (hdis : va_nd isC = true ∧ va_nd isR = true ∧ ∀ i ∈ isR, i ∉ isC) (hls : ls.size = nL) (hdg : decode cc pc = .ok (.invokevirtual index, 3)) (hw : wsy = Cond.code y bytes maxL ret :: ws') (hn : As.length = n) (hR : fr + 1 ≤ R.frames ∧ 8 + (maxL + 11) + lo ≤ R.locals) (hc : vwCl[ci]? = some (y.cls, T, N)) (h0 : wc[0]? = some (b, .inr (ci, fs))) (hst : st0 = As.reverse ++ .ref b :: rest) (hsum : (rest.map fun v => v.category).sum ≤ 8) (hf : cells ≤ R.cells ∧ slots ≤ R.slots)
    (kk : ∀ (H1 : Heap) (locs1 : List Loc), va_P G vwCl (wr ++ w1) H1 → va_D A0 (wr ++ w1) → va_S A0 H0 H1 locs1 → W p l e R s m args below meth c H1 locs1 cells slots Q (F0 m (pc + 3) ls (v.toList ++ rest))) : W p l e R s m args below meth c H locs cells slots Q (F0 m pc ls st0) := by
  have hPc : va_P G vwCl wc H := hP.sub isC (by
    have h1 : isC.filterMap (fun i => ws[i]?) = (isC.map (fun i => ws[i]?)).filterMap id := by rw [List.filterMap_map]; rfl
    rw [h1, hC, List.filterMap_map]
    exact List.filterMap_some)
  have hDc : va_D A0 wc := hD.sub isC hdis.1 hC
  exact rw_go (va_runV (C := y.cls) X.fix (hM H.size) (cwV n X.2.2.2.2.2.1 hT hw rfl rfl ⟨rfl, hd⟩ hR) ⟨rwP.blind, va_recv K.1 hPc hc h0, fun U hU hW => ⟨rfl, by rw [hU], by rw [hU]; exact hPc, K.warm hW, hDc.weaken (fun _ _ _ _ => trivial)⟩⟩ rfl hn hls hst (lv_room hsum) hdg hf) hP hD hS hA isC isR hC hR' hdis.2.1 hdis.2.2 kk
theorem rwN (X : cx p s m args meth c cc nL rt own Ts) (K : amb G g s) {y : MethodName} {ws' wsy : List Cond} {fr lo n index maxL ci N : Nat} {bytes : ByteArray} {ret : Option FieldType} {b : Addr} {As rest st0 fs : List Value} {ws wc wr w1 : va_W} {v : Option Value} {T : u_T} {host : String}
    (hM : rwC l y wsy (rmF fr lo) G g (.ref b :: As) wc v w1) (hd : ynm y n) (hT : GoodIn Ts wsy) (hns : (own, index, y, host) ∈ nsM) (hini : Cond.initialized y.cls ∈ Ts) (hins : Cond.instanceMethod y ∈ Ts) (hsel : Cond.selects y.cls y y ∈ Ts) (hP : va_P G vwCl ws H) (hD : va_D A0 ws) (hS : va_S A0 H0 H locs) (hA : ∀ q, H0.size ≤ q → A0 q) (isC isR : List Nat) (hC : isC.map (fun i => ws[i]?) = wc.map some) (hR' : isR.map (fun i => ws[i]?) = wr.map some) (hdis : va_nd isC = true ∧ va_nd isR = true ∧ ∀ i ∈ isR, i ∉ isC) (hls : ls.size = nL) (hdg : decode cc pc = .ok (.invokevirtual index, 3)) (hw : wsy = Cond.code y bytes maxL ret :: ws') (hn : As.length = n) (hR : fr + 1 ≤ R.frames ∧ 8 + (maxL + 11) + lo ≤ R.locals) (hc : vwCl[ci]? = some (y.cls, T, N)) (h0 : wc[0]? = some (b, .inr (ci, fs))) (hst : st0 = As.reverse ++ .ref b :: rest) (hsum : (rest.map fun v => v.category).sum ≤ 8) (hf : cells ≤ R.cells ∧ slots ≤ R.slots)
    (kk : ∀ (H1 : Heap) (locs1 : List Loc), va_P G vwCl (wr ++ w1) H1 → va_D A0 (wr ++ w1) → va_S A0 H0 H1 locs1 → W p l e R s m args below meth c H1 locs1 cells slots Q (F0 m (pc + 3) ls (v.toList ++ rest))) : W p l e R s m args below meth c H locs cells slots Q (F0 m pc ls st0) := by
  have hPc : va_P G vwCl wc H := hP.sub isC (by
    have h1 : isC.filterMap (fun i => ws[i]?) = (isC.map (fun i => ws[i]?)).filterMap id := by rw [List.filterMap_map]; rfl
    rw [h1, hC, List.filterMap_map]
    exact List.filterMap_some)
  have hDc : va_D A0 wc := hD.sub isC hdis.1 hC
  exact rw_go (va_runVN (C := y.cls) (host := host) X.fix (hM H.size) ⟨va_cnB n X.2.2.2.2.2.1 hT hw rfl rfl (K.2.1 _ hns) (X.2.2.2.2.2.1 _ hini) hd hR, X.2.2.2.2.2.1 _ hins, X.2.2.2.2.2.1 _ hsel⟩ ⟨rwP.blind, va_recv K.1 hPc hc h0, fun U hU hW => ⟨rfl, by rw [hU], by rw [hU]; exact hPc, K.warm hW, hDc.weaken (fun _ _ _ _ => trivial)⟩⟩ rfl hn hls hst (lv_room hsum) hdg hf) hP hD hS hA isC isR hC hR' hdis.2.1 hdis.2.2 kk
end MyRows
/-! ===== methods that may throw: .inl k the exception's number, .inr what they answer ===== -/
def thr {α β : Type} (x : Option (Sum Nat α)) (k : α → Option (Sum Nat β)) : Option (Sum Nat β) := match x with
  | none => none
  | some (.inl n) => some (.inl n)
  | some (.inr a) => k a
theorem q_th {α β : Type} {x : Option (Sum Nat α)} {k : α → Option (Sum Nat β)} {r : β} (h : thr x k = some (.inr r)) : ∃ a, x = some (.inr a) ∧ k a = some (.inr r) := by
  cases x with
  | none => cases h
  | some o =>
    cases o with
    | inl n => cases h
    | inr a => exact ⟨a, rfl, h⟩
theorem q_ri {α : Type} {a r : α} (h : (some (.inr a) : Option (Sum Nat α)) = some (.inr r)) : a = r := by cases h; rfl
theorem q_lr {α : Type} {n : Nat} {r : α} {P : Prop} (h : (some (.inl n) : Option (Sum Nat α)) = some (.inr r)) : P := by cases h
theorem sw_c {x k : Int32} {P : Prop} (a : x = k → P) (b : ¬ x = k → P) : P := (Classical.em (x = k)).elim a b
end
section
theorem in_X0_cell_X0 : ∀ w ∈ wsX00, w ∈ wsX0_cell := fun _ h => List.mem_cons_of_mem _ (List.mem_append_right _ h)
def F_X0_cell (cn : Int32) (cf : Nat → Int32) (p1 : Int32) (p2 : Int32) : Option (Int32) := if p1 < 0 then (some (0)) else (if cn ≤ p1 then (some (0)) else (vgd (ix ((p1 * 6) + p2) 96) <| some (cf ((p1 * 6) + p2).toNatClampNeg)))
set_option maxHeartbeats 4000000 in
set_option maxRecDepth 100000 in
theorem k_X0_cell (l : Launch) (G : va_G) (g : Nat → ClassId) (h1 a1 : Nat) (cn : Int32) (cf : Nat → Int32) (p1 : Int32) (p2 : Int32) (res : Int32) (hq : F_X0_cell cn cf p1 p2 = some res) : roC l yX0_cell wsX0_cell (rmF 0 0) G g [.ref h1, .int p1, .int p2] [(h1, .inr (0, [.int cn, .ref a1])), (a1, .inl (g 0, 96, .inl cf))] (some (.int res)) := by
  refine roC.of (cc := cX0_cell) (maxL := 3) (ret := (some .int)) (by decide) rfl (Nat.le_of_ble_eq_true rfl) ?_
  intro p e s m below meth c ls X K hP hl
  obtain ⟨hx, hb, hml, hr, hown, hts, hk⟩ := id X
  have hl : lv_has ls 3 [(0, .ref h1), (1, .int p1), (2, .int p2)] := hl
  unfold F_X0_cell at hq
  refine lv_iload_n hx hb dX0_cell_0 rfl (lv_at hl 1 rfl) ?_
  refine lv_if_lt (tgt := 26) hx hb dX0_cell_1 (by decide) (fun c1 => ?_) (fun c1 => ?_)
  · have hq := q_if_t hq c1
    refine lv_iconst (v := 0) hx hb dX0_cell_26 (by decide) ?_
    obtain rfl := q_rt hq
    exact ro_iret hx hb hr hk dX0_cell_27
  · have hq := q_if_f hq c1
    refine lv_iload_n hx hb dX0_cell_4 rfl (lv_at hl 1 rfl) ?_
    refine lv_aload_n hx hb dX0_cell_5 rfl (lv_at hl 0 rfl) ?_
    refine va_get (D := G) (ci := 0) (v := .int cn) (C := RX0) (T := TX0) (N := 2) hx hb hts in_X0_cell_X0 hown K.1 hP 0 rfl rfl 0 (by decide) (hts _ (List.mem_of_getElem? (i := 1) rfl)) (fun _ h9 => h9) rfl dX0_cell_6 ?_
    refine lv_icmp_ge (tgt := 26) hx hb dX0_cell_9 (by decide) (fun c2 => ?_) (fun c2 => ?_)
    · have hq := q_if_t hq c2
      refine lv_iconst (v := 0) hx hb dX0_cell_26 (by decide) ?_
      obtain rfl := q_rt hq
      exact ro_iret hx hb hr hk dX0_cell_27
    · have hq := q_if_f hq c2
      refine lv_aload_n hx hb dX0_cell_12 rfl (lv_at hl 0 rfl) ?_
      refine va_get (D := G) (ci := 0) (v := .ref a1) (C := RX0) (T := TX0) (N := 2) hx hb hts in_X0_cell_X0 hown K.1 hP 0 rfl rfl 1 (by decide) (hts _ (List.mem_of_getElem? (i := 2) rfl)) (fun _ h9 => h9) rfl dX0_cell_13 ?_
      refine lv_iload_n hx hb dX0_cell_16 rfl (lv_at hl 1 rfl) ?_
      refine lv_bipush (v := 6) hx hb dX0_cell_17 (by decide) ?_
      refine lv_imul hx hb dX0_cell_19 ?_
      refine lv_iload_n hx hb dX0_cell_20 rfl (lv_at hl 2 rfl) ?_
      refine lv_iadd hx hb dX0_cell_21 ?_
      obtain ⟨hh3, hq⟩ := q_gd hq
      refine va_iald hx hb K.1 hP 1 0 rfl rfl (vp_in_iff.mpr hh3) dX0_cell_22 ?_
      refine lv_goto (tgt := 27) hx hb dX0_cell_23 (by decide) ?_
      obtain rfl := q_rt hq
      exact ro_iret hx hb hr hk dX0_cell_27
theorem in_X0_put_X0 : ∀ w ∈ wsX00, w ∈ wsX0_put := fun _ h => List.mem_cons_of_mem _ (List.mem_append_right _ h)
def F_X0_put (cn : Int32) (cf : Nat → Int32) (p1 : Int32) (p2 : Int32) (p3 : Int32) : Option ((Nat → Int32)) := if p1 < 0 then (some (cf)) else (if cn ≤ p1 then (some (cf)) else (vgd (ix ((p1 * 6) + p2) 96) <| vlet (upd cf ((p1 * 6) + p2).toNatClampNeg p3) fun f4 => some (f4)))
set_option maxHeartbeats 4000000 in
set_option maxRecDepth 100000 in
theorem k_X0_put (l : Launch) (G : va_G) (g : Nat → ClassId) (h1 a1 : Nat) (cn : Int32) (cf : Nat → Int32) (p1 : Int32) (p2 : Int32) (p3 : Int32) (res : (Nat → Int32)) (hq : F_X0_put cn cf p1 p2 p3 = some res) : rwC l yX0_put wsX0_put (rmF 0 0) G g [.ref h1, .int p1, .int p2, .int p3] [(h1, .inr (0, [.int cn, .ref a1])), (a1, .inl (g 0, 96, .inl cf))] none [(h1, .inr (0, [.int cn, .ref a1])), (a1, .inl (g 0, 96, .inl res))] := by
  refine rwC.of (cc := cX0_put) (maxL := 4) (ret := none) (by decide) rfl (Nat.le_of_ble_eq_true rfl) ?_
  intro p e s m below meth c ls A X K hA hP hD hS hl
  obtain ⟨hx, hb, hml, hr, hown, hts, hk⟩ := id X
  have hl : lv_has ls 4 [(0, .ref h1), (1, .int p1), (2, .int p2), (3, .int p3)] := hl
  unfold F_X0_put at hq
  refine lv_iload_n hx hb dX0_put_0 rfl (lv_at hl 1 rfl) ?_
  refine lv_if_lt (tgt := 24) hx hb dX0_put_1 (by decide) (fun c1 => ?_) (fun c1 => ?_)
  · have hq := q_if_t hq c1
    obtain rfl := q_rt hq
    exact rw_vret hx hb hr hk hP hD hS dX0_put_24
  · have hq := q_if_f hq c1
    refine lv_iload_n hx hb dX0_put_4 rfl (lv_at hl 1 rfl) ?_
    refine lv_aload_n hx hb dX0_put_5 rfl (lv_at hl 0 rfl) ?_
    refine va_get (D := G) (ci := 0) (v := .int cn) (C := RX0) (T := TX0) (N := 2) hx hb hts in_X0_put_X0 hown K.1 hP 0 rfl rfl 0 (by decide) (hts _ (List.mem_of_getElem? (i := 1) rfl)) (fun _ h9 => h9) rfl dX0_put_6 ?_
    refine lv_icmp_ge (tgt := 24) hx hb dX0_put_9 (by decide) (fun c2 => ?_) (fun c2 => ?_)
    · have hq := q_if_t hq c2
      obtain rfl := q_rt hq
      exact rw_vret hx hb hr hk hP hD hS dX0_put_24
    · have hq := q_if_f hq c2
      refine lv_aload_n hx hb dX0_put_12 rfl (lv_at hl 0 rfl) ?_
      refine va_get (D := G) (ci := 0) (v := .ref a1) (C := RX0) (T := TX0) (N := 2) hx hb hts in_X0_put_X0 hown K.1 hP 0 rfl rfl 1 (by decide) (hts _ (List.mem_of_getElem? (i := 2) rfl)) (fun _ h9 => h9) rfl dX0_put_13 ?_
      refine lv_iload_n hx hb dX0_put_16 rfl (lv_at hl 1 rfl) ?_
      refine lv_bipush (v := 6) hx hb dX0_put_17 (by decide) ?_
      refine lv_imul hx hb dX0_put_19 ?_
      refine lv_iload_n hx hb dX0_put_20 rfl (lv_at hl 2 rfl) ?_
      refine lv_iadd hx hb dX0_put_21 ?_
      refine lv_iload_n hx hb dX0_put_22 rfl (lv_at hl 3 rfl) ?_
      obtain ⟨hh3, hq⟩ := q_gd hq
      refine va_iast hx hb K.1 hP hD hS 1 0 rfl rfl (vp_in_iff.mpr hh3) dX0_put_23 (fun H locs hP hD hS => ?_)
      obtain ⟨f4, ef4⟩ : ∃ y, y = upd cf ((p1 * 6) + p2).toNatClampNeg p3 := ⟨_, rfl⟩
      have hq := q_let hq ef4
      have hP : va_P G vwCl [(h1, .inr (0, [.int cn, .ref a1])), (a1, .inl (g 0, 96, .inl f4))] H := by rw [ef4]; exact hP
      have hD : va_D A [(h1, .inr (0, [.int cn, .ref a1])), (a1, .inl (g 0, 96, .inl f4))] := by rw [ef4]; exact hD
      obtain rfl := q_rt hq
      exact rw_vret hx hb hr hk hP hD hS dX0_put_24
theorem hd_X0_cell : ynm yX0_cell 2 := by unfold ynm; decide +kernel
def F_X0_isLocked (cn : Int32) (cf : Nat → Int32) (p1 : Int32) : Option (Int32) := (F_X0_cell cn cf p1 5).bind fun r1 => if r1 = 1 then (some (1)) else (some (0))
set_option maxHeartbeats 4000000 in
set_option maxRecDepth 100000 in
theorem k_X0_isLocked (l : Launch) (G : va_G) (g : Nat → ClassId) (h1 a1 : Nat) (cn : Int32) (cf : Nat → Int32) (p1 : Int32) (res : Int32) (hq : F_X0_isLocked cn cf p1 = some res) : roC l yX0_isLocked wsX0_isLocked (rmF 1 22) G g [.ref h1, .int p1] [(h1, .inr (0, [.int cn, .ref a1])), (a1, .inl (g 0, 96, .inl cf))] (some (.int res)) := by
  refine roC.of (cc := cX0_isLocked) (maxL := 2) (ret := (some .boolean)) (by decide) rfl (Nat.le_of_ble_eq_true rfl) ?_
  intro p e s m below meth c ls X K hP hl
  obtain ⟨hx, hb, hml, hr, hown, hts, hk⟩ := id X
  have hl : lv_has ls 2 [(0, .ref h1), (1, .int p1)] := hl
  unfold F_X0_isLocked at hq
  refine lv_aload_n hx hb dX0_isLocked_0 rfl (lv_at hl 0 rfl) ?_
  refine lv_iload_n hx hb dX0_isLocked_1 rfl (lv_at hl 1 rfl) ?_
  refine lv_iconst (v := 5) hx hb dX0_isLocked_2 (by decide) ?_
  obtain ⟨r1, hh2, hq⟩ := q_bd hq
  refine roV (ci := 0) (As := [.int p1, .int 5]) (rest := []) X K (k_X0_cell l G g h1 a1 cn cf p1 5 _ hh2) hd_X0_cell gX0_isLocked_X0_cell hP hl.1 dX0_isLocked_3 rfl rfl ⟨Nat.le_of_ble_eq_true rfl, Nat.le_of_ble_eq_true rfl⟩ rfl rfl rfl (Nat.le_of_ble_eq_true rfl) ⟨Nat.zero_le _, Nat.zero_le _⟩ ?_
  refine lv_iconst (v := 1) hx hb dX0_isLocked_6 (by decide) ?_
  refine lv_icmp_ne (tgt := 14) hx hb dX0_isLocked_7 (by decide) (fun c3 => ?_) (fun c3 => ?_)
  · have hq := q_if_f hq c3
    refine lv_iconst (v := 0) hx hb dX0_isLocked_14 (by decide) ?_
    obtain rfl := q_rt hq
    exact ro_zret hx hb hr nz_0 hk dX0_isLocked_15
  · have hq := q_if_t hq c3
    refine lv_iconst (v := 1) hx hb dX0_isLocked_10 (by decide) ?_
    refine lv_goto (tgt := 15) hx hb dX0_isLocked_11 (by decide) ?_
    obtain rfl := q_rt hq
    exact ro_zret hx hb hr nz_1 hk dX0_isLocked_15
theorem hd_X0_isLocked : ynm yX0_isLocked 1 := by unfold ynm; decide +kernel
theorem in_X0_hasLock_X0 : ∀ w ∈ wsX00, w ∈ wsX0_hasLock := fun _ h => List.mem_cons_of_mem _ (List.mem_append_right _ h)
def F_X0_hasLock_2 (cn : Int32) (cf : Nat → Int32) : Nat → Int32 → Option (Int32)
  | 0, _ => none
  | n + 1, v1 => if cn ≤ v1 then (some (0)) else ((F_X0_isLocked cn cf v1).bind fun r3 => if r3 = 0 then (vlet ((v1 : Int32) + 1) fun x6 => F_X0_hasLock_2 cn cf n x6) else (some (1)))
set_option maxHeartbeats 4000000 in
set_option maxRecDepth 100000 in
theorem w_X0_hasLock_2 {p : Program} {l : Launch} {e : Env} {s : State} {m : MethodId} {args : Array Value} {below : List Frame} {meth : Method} {c : Code} {G : va_G} {g : Nat → ClassId} (X : cx p s m args meth c cX0_hasLock 2 (some .boolean) RX0 wsX0_hasLock) (K : amb G g s) (h1 a1 : Nat) (cn : Int32) (cf : Nat → Int32) (hP : va_P G vwCl [(h1, .inr (0, [.int cn, .ref a1])), (a1, .inl (g 0, 96, .inl cf))] s.heap) (res : Int32) : ∀ (n : Nat) (v1 : Int32), F_X0_hasLock_2 cn cf n v1 = some res → ∀ (ls : Array Slot), lv_has ls 2 [(0, .ref h1), (1, .int v1)] → W p l e (rmF 2 43) s m args below meth c s.heap [] 0 0 (roM below (some (.int res)) args s) (F0 m 2 ls []) := by
  obtain ⟨hx, hb, hml, hr, hown, hts, hk⟩ := id X
  intro n
  induction n with
  | zero => intro v1 hq; exact q_no hq
  | succ n ih =>
    intro v1 hq ls hl
    rw [F_X0_hasLock_2] at hq
    refine lv_iload_n hx hb dX0_hasLock_2 rfl (lv_at hl 1 rfl) ?_
    refine lv_aload_n hx hb dX0_hasLock_3 rfl (lv_at hl 0 rfl) ?_
    refine va_get (D := G) (ci := 0) (v := .int cn) (C := RX0) (T := TX0) (N := 2) hx hb hts in_X0_hasLock_X0 hown K.1 hP 0 rfl rfl 0 (by decide) (hts _ (List.mem_of_getElem? (i := 1) rfl)) (fun _ h9 => h9) rfl dX0_hasLock_4 ?_
    refine lv_icmp_ge (tgt := 26) hx hb dX0_hasLock_7 (by decide) (fun c2 => ?_) (fun c2 => ?_)
    · have hq := q_if_t hq c2
      refine lv_iconst (v := 0) hx hb dX0_hasLock_26 (by decide) ?_
      obtain rfl := q_rt hq
      exact ro_zret hx hb hr nz_0 hk dX0_hasLock_27
    · have hq := q_if_f hq c2
      refine lv_aload_n hx hb dX0_hasLock_10 rfl (lv_at hl 0 rfl) ?_
      refine lv_iload_n hx hb dX0_hasLock_11 rfl (lv_at hl 1 rfl) ?_
      obtain ⟨r3, hh4, hq⟩ := q_bd hq
      refine roV (ci := 0) (As := [.int v1]) (rest := []) X K (k_X0_isLocked l G g h1 a1 cn cf v1 _ hh4) hd_X0_isLocked gX0_hasLock_X0_isLocked hP hl.1 dX0_hasLock_12 rfl rfl ⟨Nat.le_of_ble_eq_true rfl, Nat.le_of_ble_eq_true rfl⟩ rfl rfl rfl (Nat.le_of_ble_eq_true rfl) ⟨Nat.zero_le _, Nat.zero_le _⟩ ?_
      refine lv_if_eq (tgt := 20) hx hb dX0_hasLock_15 (by decide) (fun c5 => ?_) (fun c5 => ?_)
      · have hq := q_if_t hq c5
        obtain ⟨x6, ex6⟩ : ∃ y : Int32, y = (v1 : Int32) + 1 := ⟨_, rfl⟩
        have hq := q_let hq ex6
        refine lv_iinc (v := x6) (lv' := [(1, .int x6), (0, .ref h1)]) hx hb dX0_hasLock_20 hl (k := 1) rfl (by rw [ex6]; rfl) (by decide) rfl (fun ls hl => ?_)
        refine lv_goto (tgt := 2) hx hb dX0_hasLock_23 (by decide) ?_
        exact ih x6 hq ls (lv_sub hl [1, 0] rfl)
      · have hq := q_if_f hq c5
        refine lv_iconst (v := 1) hx hb dX0_hasLock_18 (by decide) ?_
        obtain rfl := q_rt hq
        exact ro_zret hx hb hr nz_1 hk dX0_hasLock_19
def F_X0_hasLock (cn : Int32) (cf : Nat → Int32) : Option (Int32) := F_X0_hasLock_2 cn cf 2000 0
set_option maxHeartbeats 4000000 in
set_option maxRecDepth 100000 in
theorem k_X0_hasLock (l : Launch) (G : va_G) (g : Nat → ClassId) (h1 a1 : Nat) (cn : Int32) (cf : Nat → Int32) (res : Int32) (hq : F_X0_hasLock cn cf = some res) : roC l yX0_hasLock wsX0_hasLock (rmF 2 43) G g [.ref h1] [(h1, .inr (0, [.int cn, .ref a1])), (a1, .inl (g 0, 96, .inl cf))] (some (.int res)) := by
  refine roC.of (cc := cX0_hasLock) (maxL := 2) (ret := (some .boolean)) (by decide) rfl (Nat.le_of_ble_eq_true rfl) ?_
  intro p e s m below meth c ls X K hP hl
  obtain ⟨hx, hb, hml, hr, hown, hts, hk⟩ := id X
  have hl : lv_has ls 2 [(0, .ref h1)] := hl
  unfold F_X0_hasLock at hq
  refine lv_iconst (v := 0) hx hb dX0_hasLock_0 (by decide) ?_
  refine lv_istore_n (lv' := [(1, .int 0), (0, .ref h1)]) hx hb dX0_hasLock_1 rfl hl (by decide) rfl (fun ls hl => ?_)
  exact w_X0_hasLock_2 X K h1 a1 cn cf hP _ 2000 0 hq ls (lv_sub hl [1, 0] rfl)
theorem in_X0_mayLeaveOut_X0 : ∀ w ∈ wsX00, w ∈ wsX0_mayLeaveOut := fun _ h => List.mem_cons_of_mem _ (List.mem_append_right _ h)
def F_X0_mayLeaveOut (cn : Int32) (cf : Nat → Int32) (p1 : Int32) : Option (Int32) := if p1 ≤ 0 then (some (0)) else (if (cn - 1) ≤ p1 then (some (0)) else ((F_X0_isLocked cn cf p1).bind fun r3 => if r3 = 0 then (some (1)) else (some (0))))
set_option maxHeartbeats 4000000 in
set_option maxRecDepth 100000 in
theorem k_X0_mayLeaveOut (l : Launch) (G : va_G) (g : Nat → ClassId) (h1 a1 : Nat) (cn : Int32) (cf : Nat → Int32) (p1 : Int32) (res : Int32) (hq : F_X0_mayLeaveOut cn cf p1 = some res) : roC l yX0_mayLeaveOut wsX0_mayLeaveOut (rmF 2 43) G g [.ref h1, .int p1] [(h1, .inr (0, [.int cn, .ref a1])), (a1, .inl (g 0, 96, .inl cf))] (some (.int res)) := by
  refine roC.of (cc := cX0_mayLeaveOut) (maxL := 2) (ret := (some .boolean)) (by decide) rfl (Nat.le_of_ble_eq_true rfl) ?_
  intro p e s m below meth c ls X K hP hl
  obtain ⟨hx, hb, hml, hr, hown, hts, hk⟩ := id X
  have hl : lv_has ls 2 [(0, .ref h1), (1, .int p1)] := hl
  unfold F_X0_mayLeaveOut at hq
  refine lv_iload_n hx hb dX0_mayLeaveOut_0 rfl (lv_at hl 1 rfl) ?_
  refine lv_if_le (tgt := 26) hx hb dX0_mayLeaveOut_1 (by decide) (fun c1 => ?_) (fun c1 => ?_)
  · have hq := q_if_t hq c1
    refine lv_iconst (v := 0) hx hb dX0_mayLeaveOut_26 (by decide) ?_
    obtain rfl := q_rt hq
    exact ro_zret hx hb hr nz_0 hk dX0_mayLeaveOut_27
  · have hq := q_if_f hq c1
    refine lv_iload_n hx hb dX0_mayLeaveOut_4 rfl (lv_at hl 1 rfl) ?_
    refine lv_aload_n hx hb dX0_mayLeaveOut_5 rfl (lv_at hl 0 rfl) ?_
    refine va_get (D := G) (ci := 0) (v := .int cn) (C := RX0) (T := TX0) (N := 2) hx hb hts in_X0_mayLeaveOut_X0 hown K.1 hP 0 rfl rfl 0 (by decide) (hts _ (List.mem_of_getElem? (i := 1) rfl)) (fun _ h9 => h9) rfl dX0_mayLeaveOut_6 ?_
    refine lv_iconst (v := 1) hx hb dX0_mayLeaveOut_9 (by decide) ?_
    refine lv_isub hx hb dX0_mayLeaveOut_10 ?_
    refine lv_icmp_ge (tgt := 26) hx hb dX0_mayLeaveOut_11 (by decide) (fun c2 => ?_) (fun c2 => ?_)
    · have hq := q_if_t hq c2
      refine lv_iconst (v := 0) hx hb dX0_mayLeaveOut_26 (by decide) ?_
      obtain rfl := q_rt hq
      exact ro_zret hx hb hr nz_0 hk dX0_mayLeaveOut_27
    · have hq := q_if_f hq c2
      refine lv_aload_n hx hb dX0_mayLeaveOut_14 rfl (lv_at hl 0 rfl) ?_
      refine lv_iload_n hx hb dX0_mayLeaveOut_15 rfl (lv_at hl 1 rfl) ?_
      obtain ⟨r3, hh4, hq⟩ := q_bd hq
      refine roV (ci := 0) (As := [.int p1]) (rest := []) X K (k_X0_isLocked l G g h1 a1 cn cf p1 _ hh4) hd_X0_isLocked gX0_mayLeaveOut_X0_isLocked hP hl.1 dX0_mayLeaveOut_16 rfl rfl ⟨Nat.le_of_ble_eq_true rfl, Nat.le_of_ble_eq_true rfl⟩ rfl rfl rfl (Nat.le_of_ble_eq_true rfl) ⟨Nat.zero_le _, Nat.zero_le _⟩ ?_
      refine lv_if_ne (tgt := 26) hx hb dX0_mayLeaveOut_19 (by decide) (fun c5 => ?_) (fun c5 => ?_)
      · have hq := q_if_f hq c5
        refine lv_iconst (v := 0) hx hb dX0_mayLeaveOut_26 (by decide) ?_
        obtain rfl := q_rt hq
        exact ro_zret hx hb hr nz_0 hk dX0_mayLeaveOut_27
      · have hq := q_if_t hq c5
        refine lv_iconst (v := 1) hx hb dX0_mayLeaveOut_22 (by decide) ?_
        refine lv_goto (tgt := 27) hx hb dX0_mayLeaveOut_23 (by decide) ?_
        obtain rfl := q_rt hq
        exact ro_zret hx hb hr nz_1 hk dX0_mayLeaveOut_27
theorem in_X0_countUpTo_X0 : ∀ w ∈ wsX00, w ∈ wsX0_countUpTo := fun _ h => List.mem_cons_of_mem _ (List.mem_append_right _ h)
def F_X0_countUpTo_2 (cn : Int32) (cf : Nat → Int32) (v1 : Int32) : Nat → Int32 → Option (Int32)
  | 0, _ => none
  | n + 1, v2 => if cn ≤ v2 then (some (v2)) else ((F_X0_cell cn cf v2 0).bind fun r4 => if v1 < r4 then (some (v2)) else (vlet ((v2 : Int32) + 1) fun x7 => F_X0_countUpTo_2 cn cf v1 n x7))
set_option maxHeartbeats 4000000 in
set_option maxRecDepth 100000 in
theorem w_X0_countUpTo_2 {p : Program} {l : Launch} {e : Env} {s : State} {m : MethodId} {args : Array Value} {below : List Frame} {meth : Method} {c : Code} {G : va_G} {g : Nat → ClassId} (X : cx p s m args meth c cX0_countUpTo 3 (some .int) RX0 wsX0_countUpTo) (K : amb G g s) (h1 a1 : Nat) (cn : Int32) (cf : Nat → Int32) (v1 : Int32) (hP : va_P G vwCl [(h1, .inr (0, [.int cn, .ref a1])), (a1, .inl (g 0, 96, .inl cf))] s.heap) (res : Int32) : ∀ (n : Nat) (v2 : Int32), F_X0_countUpTo_2 cn cf v1 n v2 = some res → ∀ (ls : Array Slot), lv_has ls 3 [(0, .ref h1), (1, .int v1), (2, .int v2)] → W p l e (rmF 1 22) s m args below meth c s.heap [] 0 0 (roM below (some (.int res)) args s) (F0 m 2 ls []) := by
  obtain ⟨hx, hb, hml, hr, hown, hts, hk⟩ := id X
  intro n
  induction n with
  | zero => intro v2 hq; exact q_no hq
  | succ n ih =>
    intro v2 hq ls hl
    rw [F_X0_countUpTo_2] at hq
    refine lv_iload_n hx hb dX0_countUpTo_2 rfl (lv_at hl 2 rfl) ?_
    refine lv_aload_n hx hb dX0_countUpTo_3 rfl (lv_at hl 0 rfl) ?_
    refine va_get (D := G) (ci := 0) (v := .int cn) (C := RX0) (T := TX0) (N := 2) hx hb hts in_X0_countUpTo_X0 hown K.1 hP 0 rfl rfl 0 (by decide) (hts _ (List.mem_of_getElem? (i := 1) rfl)) (fun _ h9 => h9) rfl dX0_countUpTo_4 ?_
    refine lv_icmp_ge (tgt := 26) hx hb dX0_countUpTo_7 (by decide) (fun c3 => ?_) (fun c3 => ?_)
    · have hq := q_if_t hq c3
      refine lv_iload_n hx hb dX0_countUpTo_26 rfl (lv_at hl 2 rfl) ?_
      obtain rfl := q_rt hq
      exact ro_iret hx hb hr hk dX0_countUpTo_27
    · have hq := q_if_f hq c3
      refine lv_aload_n hx hb dX0_countUpTo_10 rfl (lv_at hl 0 rfl) ?_
      refine lv_iload_n hx hb dX0_countUpTo_11 rfl (lv_at hl 2 rfl) ?_
      refine lv_iconst (v := 0) hx hb dX0_countUpTo_12 (by decide) ?_
      obtain ⟨r4, hh5, hq⟩ := q_bd hq
      refine roV (ci := 0) (As := [.int v2, .int 0]) (rest := []) X K (k_X0_cell l G g h1 a1 cn cf v2 0 _ hh5) hd_X0_cell gX0_countUpTo_X0_cell hP hl.1 dX0_countUpTo_13 rfl rfl ⟨Nat.le_of_ble_eq_true rfl, Nat.le_of_ble_eq_true rfl⟩ rfl rfl rfl (Nat.le_of_ble_eq_true rfl) ⟨Nat.zero_le _, Nat.zero_le _⟩ ?_
      refine lv_iload_n hx hb dX0_countUpTo_16 rfl (lv_at hl 1 rfl) ?_
      refine lv_icmp_gt (tgt := 26) hx hb dX0_countUpTo_17 (by decide) (fun c6 => ?_) (fun c6 => ?_)
      · have hq := q_if_t hq c6
        refine lv_iload_n hx hb dX0_countUpTo_26 rfl (lv_at hl 2 rfl) ?_
        obtain rfl := q_rt hq
        exact ro_iret hx hb hr hk dX0_countUpTo_27
      · have hq := q_if_f hq c6
        obtain ⟨x7, ex7⟩ : ∃ y : Int32, y = (v2 : Int32) + 1 := ⟨_, rfl⟩
        have hq := q_let hq ex7
        refine lv_iinc (v := x7) (lv' := [(2, .int x7), (0, .ref h1), (1, .int v1)]) hx hb dX0_countUpTo_20 hl (k := 2) rfl (by rw [ex7]; rfl) (by decide) rfl (fun ls hl => ?_)
        refine lv_goto (tgt := 2) hx hb dX0_countUpTo_23 (by decide) ?_
        exact ih x7 hq ls (lv_sub hl [1, 2, 0] rfl)
def F_X0_countUpTo (cn : Int32) (cf : Nat → Int32) (p1 : Int32) : Option (Int32) := F_X0_countUpTo_2 cn cf p1 2000 0
set_option maxHeartbeats 4000000 in
set_option maxRecDepth 100000 in
theorem k_X0_countUpTo (l : Launch) (G : va_G) (g : Nat → ClassId) (h1 a1 : Nat) (cn : Int32) (cf : Nat → Int32) (p1 : Int32) (res : Int32) (hq : F_X0_countUpTo cn cf p1 = some res) : roC l yX0_countUpTo wsX0_countUpTo (rmF 1 22) G g [.ref h1, .int p1] [(h1, .inr (0, [.int cn, .ref a1])), (a1, .inl (g 0, 96, .inl cf))] (some (.int res)) := by
  refine roC.of (cc := cX0_countUpTo) (maxL := 3) (ret := (some .int)) (by decide) rfl (Nat.le_of_ble_eq_true rfl) ?_
  intro p e s m below meth c ls X K hP hl
  obtain ⟨hx, hb, hml, hr, hown, hts, hk⟩ := id X
  have hl : lv_has ls 3 [(0, .ref h1), (1, .int p1)] := hl
  unfold F_X0_countUpTo at hq
  refine lv_iconst (v := 0) hx hb dX0_countUpTo_0 (by decide) ?_
  refine lv_istore_n (lv' := [(2, .int 0), (0, .ref h1), (1, .int p1)]) hx hb dX0_countUpTo_1 rfl hl (by decide) rfl (fun ls hl => ?_)
  exact w_X0_countUpTo_2 X K h1 a1 cn cf p1 hP _ 2000 0 hq ls (lv_sub hl [1, 2, 0] rfl)
theorem hd_X0_countUpTo : ynm yX0_countUpTo 1 := by unfold ynm; decide +kernel
def F_X0_numberAtFrame (cn : Int32) (cf : Nat → Int32) (p1 : Int32) : Option (Int32) := (F_X0_countUpTo cn cf p1).bind fun r1 => vlet (r1 - 1) fun x3 => if x3 < 0 then (some ((-1))) else ((F_X0_cell cn cf x3 0).bind fun r5 => if r5 = p1 then (some (x3)) else (some ((-1))))
set_option maxHeartbeats 4000000 in
set_option maxRecDepth 100000 in
theorem k_X0_numberAtFrame (l : Launch) (G : va_G) (g : Nat → ClassId) (h1 a1 : Nat) (cn : Int32) (cf : Nat → Int32) (p1 : Int32) (res : Int32) (hq : F_X0_numberAtFrame cn cf p1 = some res) : roC l yX0_numberAtFrame wsX0_numberAtFrame (rmF 2 44) G g [.ref h1, .int p1] [(h1, .inr (0, [.int cn, .ref a1])), (a1, .inl (g 0, 96, .inl cf))] (some (.int res)) := by
  refine roC.of (cc := cX0_numberAtFrame) (maxL := 3) (ret := (some .int)) (by decide) rfl (Nat.le_of_ble_eq_true rfl) ?_
  intro p e s m below meth c ls X K hP hl
  obtain ⟨hx, hb, hml, hr, hown, hts, hk⟩ := id X
  have hl : lv_has ls 3 [(0, .ref h1), (1, .int p1)] := hl
  unfold F_X0_numberAtFrame at hq
  refine lv_aload_n hx hb dX0_numberAtFrame_0 rfl (lv_at hl 0 rfl) ?_
  refine lv_iload_n hx hb dX0_numberAtFrame_1 rfl (lv_at hl 1 rfl) ?_
  obtain ⟨r1, hh2, hq⟩ := q_bd hq
  refine roV (ci := 0) (As := [.int p1]) (rest := []) X K (k_X0_countUpTo l G g h1 a1 cn cf p1 _ hh2) hd_X0_countUpTo gX0_numberAtFrame_X0_countUpTo hP hl.1 dX0_numberAtFrame_2 rfl rfl ⟨Nat.le_of_ble_eq_true rfl, Nat.le_of_ble_eq_true rfl⟩ rfl rfl rfl (Nat.le_of_ble_eq_true rfl) ⟨Nat.zero_le _, Nat.zero_le _⟩ ?_
  refine lv_iconst (v := 1) hx hb dX0_numberAtFrame_5 (by decide) ?_
  refine lv_isub hx hb dX0_numberAtFrame_6 ?_
  refine lv_topi (fun x3 ex3 => ?_)
  have hq := q_let hq ex3
  refine lv_istore_n (lv' := [(2, .int x3), (0, .ref h1), (1, .int p1)]) hx hb dX0_numberAtFrame_7 rfl hl (by decide) rfl (fun ls hl => ?_)
  refine lv_iload_n hx hb dX0_numberAtFrame_8 rfl (lv_at hl 0 rfl) ?_
  refine lv_if_lt (tgt := 26) hx hb dX0_numberAtFrame_9 (by decide) (fun c4 => ?_) (fun c4 => ?_)
  · have hq := q_if_t hq c4
    refine lv_iconst (v := (-1)) hx hb dX0_numberAtFrame_26 (by decide) ?_
    obtain rfl := q_rt hq
    exact ro_iret hx hb hr hk dX0_numberAtFrame_27
  · have hq := q_if_f hq c4
    refine lv_aload_n hx hb dX0_numberAtFrame_12 rfl (lv_at hl 1 rfl) ?_
    refine lv_iload_n hx hb dX0_numberAtFrame_13 rfl (lv_at hl 0 rfl) ?_
    refine lv_iconst (v := 0) hx hb dX0_numberAtFrame_14 (by decide) ?_
    obtain ⟨r5, hh6, hq⟩ := q_bd hq
    refine roV (ci := 0) (As := [.int x3, .int 0]) (rest := []) X K (k_X0_cell l G g h1 a1 cn cf x3 0 _ hh6) hd_X0_cell gX0_numberAtFrame_X0_cell hP hl.1 dX0_numberAtFrame_15 rfl rfl ⟨Nat.le_of_ble_eq_true rfl, Nat.le_of_ble_eq_true rfl⟩ rfl rfl rfl (Nat.le_of_ble_eq_true rfl) ⟨Nat.zero_le _, Nat.zero_le _⟩ ?_
    refine lv_iload_n hx hb dX0_numberAtFrame_18 rfl (lv_at hl 2 rfl) ?_
    refine lv_icmp_ne (tgt := 26) hx hb dX0_numberAtFrame_19 (by decide) (fun c7 => ?_) (fun c7 => ?_)
    · have hq := q_if_f hq c7
      refine lv_iconst (v := (-1)) hx hb dX0_numberAtFrame_26 (by decide) ?_
      obtain rfl := q_rt hq
      exact ro_iret hx hb hr hk dX0_numberAtFrame_27
    · have hq := q_if_t hq c7
      refine lv_iload_n hx hb dX0_numberAtFrame_22 rfl (lv_at hl 0 rfl) ?_
      refine lv_goto (tgt := 27) hx hb dX0_numberAtFrame_23 (by decide) ?_
      obtain rfl := q_rt hq
      exact ro_iret hx hb hr hk dX0_numberAtFrame_27
theorem in_X0_lastFrame_X0 : ∀ w ∈ wsX00, w ∈ wsX0_lastFrame := fun _ h => List.mem_cons_of_mem _ (List.mem_append_right _ h)
def F_X0_lastFrame (cn : Int32) (cf : Nat → Int32) : Option (Int32) := if cn = 0 then (some ((-1))) else ((F_X0_cell cn cf (cn - 1) 0).bind fun r2 => some (r2))
set_option maxHeartbeats 4000000 in
set_option maxRecDepth 100000 in
theorem k_X0_lastFrame (l : Launch) (G : va_G) (g : Nat → ClassId) (h1 a1 : Nat) (cn : Int32) (cf : Nat → Int32) (res : Int32) (hq : F_X0_lastFrame cn cf = some res) : roC l yX0_lastFrame wsX0_lastFrame (rmF 1 22) G g [.ref h1] [(h1, .inr (0, [.int cn, .ref a1])), (a1, .inl (g 0, 96, .inl cf))] (some (.int res)) := by
  refine roC.of (cc := cX0_lastFrame) (maxL := 1) (ret := (some .int)) (by decide) rfl (Nat.le_of_ble_eq_true rfl) ?_
  intro p e s m below meth c ls X K hP hl
  obtain ⟨hx, hb, hml, hr, hown, hts, hk⟩ := id X
  have hl : lv_has ls 1 [(0, .ref h1)] := hl
  unfold F_X0_lastFrame at hq
  refine lv_aload_n hx hb dX0_lastFrame_0 rfl (lv_at hl 0 rfl) ?_
  refine va_get (D := G) (ci := 0) (v := .int cn) (C := RX0) (T := TX0) (N := 2) hx hb hts in_X0_lastFrame_X0 hown K.1 hP 0 rfl rfl 0 (by decide) (hts _ (List.mem_of_getElem? (i := 1) rfl)) (fun _ h9 => h9) rfl dX0_lastFrame_1 ?_
  refine lv_if_ne (tgt := 11) hx hb dX0_lastFrame_4 (by decide) (fun c1 => ?_) (fun c1 => ?_)
  · have hq := q_if_f hq c1
    refine lv_aload_n hx hb dX0_lastFrame_11 rfl (lv_at hl 0 rfl) ?_
    refine lv_aload_n hx hb dX0_lastFrame_12 rfl (lv_at hl 0 rfl) ?_
    refine va_get (D := G) (ci := 0) (v := .int cn) (C := RX0) (T := TX0) (N := 2) hx hb hts in_X0_lastFrame_X0 hown K.1 hP 0 rfl rfl 0 (by decide) (hts _ (List.mem_of_getElem? (i := 1) rfl)) (fun _ h9 => h9) rfl dX0_lastFrame_13 ?_
    refine lv_iconst (v := 1) hx hb dX0_lastFrame_16 (by decide) ?_
    refine lv_isub hx hb dX0_lastFrame_17 ?_
    refine lv_iconst (v := 0) hx hb dX0_lastFrame_18 (by decide) ?_
    obtain ⟨r2, hh3, hq⟩ := q_bd hq
    refine roV (ci := 0) (As := [.int (cn - 1), .int 0]) (rest := []) X K (k_X0_cell l G g h1 a1 cn cf (cn - 1) 0 _ hh3) hd_X0_cell gX0_lastFrame_X0_cell hP hl.1 dX0_lastFrame_19 rfl rfl ⟨Nat.le_of_ble_eq_true rfl, Nat.le_of_ble_eq_true rfl⟩ rfl rfl rfl (Nat.le_of_ble_eq_true rfl) ⟨Nat.zero_le _, Nat.zero_le _⟩ ?_
    obtain rfl := q_rt hq
    exact ro_iret hx hb hr hk dX0_lastFrame_22
  · have hq := q_if_t hq c1
    refine lv_iconst (v := (-1)) hx hb dX0_lastFrame_7 (by decide) ?_
    refine lv_goto (tgt := 22) hx hb dX0_lastFrame_8 (by decide) ?_
    obtain rfl := q_rt hq
    exact ro_iret hx hb hr hk dX0_lastFrame_22
theorem hd_X0_put : ynm yX0_put 3 := by unfold ynm; decide +kernel
theorem in_X0_insert_X0 : ∀ w ∈ wsX00, w ∈ wsX0_insert := fun _ h => List.mem_cons_of_mem _ (List.mem_append_right _ h)
def F_X0_insert (cn : Int32) (cf : Nat → Int32) (p1 : Int32) (p2 : Int32) (p3 : Int32) (p4 : Int32) (p5 : Int32) (p6 : Int32) : Option (Int32 × Int32 × (Nat → Int32)) := if cn < 16 then ((F_X0_countUpTo cn cf p1).bind fun r2 => vlet (r2 * 6) fun x4 => vgd (¬ x4 < 0 ∧ ¬ (x4 + 6) < 0 ∧ ¬ ((cn - r2) * 6) < 0 ∧ x4.toNatClampNeg + ((cn - r2) * 6).toNatClampNeg ≤ 96 ∧ (x4 + 6).toNatClampNeg + ((cn - r2) * 6).toNatClampNeg ≤ 96) <| vlet (va_cpy cf cf x4.toNatClampNeg (x4 + 6).toNatClampNeg ((cn - r2) * 6).toNatClampNeg) fun f6 => vlet (cn + 1) fun x7 => (F_X0_put x7 f6 r2 0 p1).bind fun y8 => (F_X0_put x7 y8 r2 1 p2).bind fun y10 => (F_X0_put x7 y10 r2 2 p3).bind fun y12 => (F_X0_put x7 y12 r2 3 p4).bind fun y14 => (F_X0_put x7 y14 r2 4 p5).bind fun y16 => (F_X0_put x7 y16 r2 5 p6).bind fun y18 => some (r2, x7, y18)) else (some ((-1), cn, cf))
set_option maxHeartbeats 4000000 in
set_option maxRecDepth 100000 in
theorem k_X0_insert (l : Launch) (G : va_G) (g : Nat → ClassId) (h1 a1 : Nat) (cn : Int32) (cf : Nat → Int32) (p1 : Int32) (p2 : Int32) (p3 : Int32) (p4 : Int32) (p5 : Int32) (p6 : Int32) (res : Int32 × Int32 × (Nat → Int32)) (hq : F_X0_insert cn cf p1 p2 p3 p4 p5 p6 = some res) : rwC l yX0_insert wsX0_insert (rmF 2 44) G g [.ref h1, .int p1, .int p2, .int p3, .int p4, .int p5, .int p6] [(h1, .inr (0, [.int cn, .ref a1])), (a1, .inl (g 0, 96, .inl cf))] (some (.int res.1)) [(h1, .inr (0, [.int res.2.1, .ref a1])), (a1, .inl (g 0, 96, .inl res.2.2))] := by
  refine rwC.of (cc := cX0_insert) (maxL := 9) (ret := (some .int)) (by decide) rfl (Nat.le_of_ble_eq_true rfl) ?_
  intro p e s m below meth c ls A X K hA hP hD hS hl
  obtain ⟨hx, hb, hml, hr, hown, hts, hk⟩ := id X
  have hl : lv_has ls 9 [(0, .ref h1), (1, .int p1), (2, .int p2), (3, .int p3), (4, .int p4), (5, .int p5), (6, .int p6)] := hl
  unfold F_X0_insert at hq
  refine lv_aload_n hx hb dX0_insert_0 rfl (lv_at hl 0 rfl) ?_
  refine va_get (D := G) (ci := 0) (v := .int cn) (C := RX0) (T := TX0) (N := 2) hx hb hts in_X0_insert_X0 hown K.1 hP 0 rfl rfl 0 (by decide) (hts _ (List.mem_of_getElem? (i := 1) rfl)) (fun _ h9 => h9) rfl dX0_insert_1 ?_
  refine lv_bipush (v := 16) hx hb dX0_insert_4 (by decide) ?_
  refine lv_icmp_lt (tgt := 11) hx hb dX0_insert_6 (by decide) (fun c1 => ?_) (fun c1 => ?_)
  · have hq := q_if_t hq c1
    refine lv_aload_n hx hb dX0_insert_11 rfl (lv_at hl 0 rfl) ?_
    refine lv_iload_n hx hb dX0_insert_12 rfl (lv_at hl 1 rfl) ?_
    obtain ⟨r2, hh3, hq⟩ := q_bd hq
    refine roV (ci := 0) (As := [.int p1]) (rest := []) X K (k_X0_countUpTo l G g h1 a1 cn cf p1 _ hh3) hd_X0_countUpTo gX0_insert_X0_countUpTo hP hl.1 dX0_insert_13 rfl rfl ⟨Nat.le_of_ble_eq_true rfl, Nat.le_of_ble_eq_true rfl⟩ rfl rfl rfl (Nat.le_of_ble_eq_true rfl) ⟨Nat.zero_le _, Nat.zero_le _⟩ ?_
    refine lv_istore (lv' := [(7, .int r2), (0, .ref h1), (1, .int p1), (2, .int p2), (3, .int p3), (4, .int p4), (5, .int p5), (6, .int p6)]) hx hb dX0_insert_16 hl (by decide) rfl (fun ls hl => ?_)
    refine lv_iload hx hb dX0_insert_18 (lv_at hl 0 rfl) ?_
    refine lv_bipush (v := 6) hx hb dX0_insert_20 (by decide) ?_
    refine lv_imul hx hb dX0_insert_22 ?_
    refine lv_topi (fun x4 ex4 => ?_)
    have hq := q_let hq ex4
    refine lv_istore (lv' := [(8, .int x4), (7, .int r2), (0, .ref h1), (1, .int p1), (2, .int p2), (3, .int p3), (4, .int p4), (5, .int p5), (6, .int p6)]) hx hb dX0_insert_23 hl (by decide) rfl (fun ls hl => ?_)
    refine lv_aload_n hx hb dX0_insert_25 rfl (lv_at hl 2 rfl) ?_
    refine va_get (D := G) (ci := 0) (v := .ref a1) (C := RX0) (T := TX0) (N := 2) hx hb hts in_X0_insert_X0 hown K.1 hP 0 rfl rfl 1 (by decide) (hts _ (List.mem_of_getElem? (i := 2) rfl)) (fun _ h9 => h9) rfl dX0_insert_26 ?_
    refine lv_iload hx hb dX0_insert_29 (lv_at hl 0 rfl) ?_
    refine lv_aload_n hx hb dX0_insert_31 rfl (lv_at hl 2 rfl) ?_
    refine va_get (D := G) (ci := 0) (v := .ref a1) (C := RX0) (T := TX0) (N := 2) hx hb hts in_X0_insert_X0 hown K.1 hP 0 rfl rfl 1 (by decide) (hts _ (List.mem_of_getElem? (i := 2) rfl)) (fun _ h9 => h9) rfl dX0_insert_32 ?_
    refine lv_iload hx hb dX0_insert_35 (lv_at hl 0 rfl) ?_
    refine lv_bipush (v := 6) hx hb dX0_insert_37 (by decide) ?_
    refine lv_iadd hx hb dX0_insert_39 ?_
    refine lv_aload_n hx hb dX0_insert_40 rfl (lv_at hl 2 rfl) ?_
    refine va_get (D := G) (ci := 0) (v := .int cn) (C := RX0) (T := TX0) (N := 2) hx hb hts in_X0_insert_X0 hown K.1 hP 0 rfl rfl 0 (by decide) (hts _ (List.mem_of_getElem? (i := 1) rfl)) (fun _ h9 => h9) rfl dX0_insert_41 ?_
    refine lv_iload hx hb dX0_insert_44 (lv_at hl 1 rfl) ?_
    refine lv_isub hx hb dX0_insert_46 ?_
    refine lv_bipush (v := 6) hx hb dX0_insert_47 (by decide) ?_
    refine lv_imul hx hb dX0_insert_49 ?_
    obtain ⟨hh5, hq⟩ := q_gd hq
    refine va_copyi hx hb (hml.trans hl.1.symm) hown (hts _ (List.mem_of_getElem? (i := 3) rfl)) (hts _ (List.mem_of_getElem? (i := 4) rfl)) (hts _ (List.mem_of_getElem? (i := 5) rfl)) (hts _ (List.mem_of_getElem? (i := 6) rfl)) K.1 hP hD hS 1 1 0 0 rfl rfl rfl rfl rfl hh5.1 hh5.2.1 hh5.2.2.1 hh5.2.2.2.1 hh5.2.2.2.2 (fun _ _ => rfl) (Nat.le_of_ble_eq_true rfl) (Nat.le_of_ble_eq_true rfl) dX0_insert_50 (fun H locs hP hD hS => ?_)
    obtain ⟨f6, ef6⟩ : ∃ y, y = va_cpy cf cf x4.toNatClampNeg (x4 + 6).toNatClampNeg ((cn - r2) * 6).toNatClampNeg := ⟨_, rfl⟩
    have hq := q_let hq ef6
    have hP : va_P G vwCl [(h1, .inr (0, [.int cn, .ref a1])), (a1, .inl (g 0, 96, .inl f6))] H := by rw [ef6]; exact hP
    have hD : va_D A [(h1, .inr (0, [.int cn, .ref a1])), (a1, .inl (g 0, 96, .inl f6))] := by rw [ef6]; exact hD
    refine lv_aload_n hx hb dX0_insert_53 rfl (lv_at hl 2 rfl) ?_
    refine lv_dup hx hb dX0_insert_54 rfl ?_
    refine va_get (D := G) (ci := 0) (v := .int cn) (C := RX0) (T := TX0) (N := 2) hx hb hts in_X0_insert_X0 hown K.1 hP 0 rfl rfl 0 (by decide) (hts _ (List.mem_of_getElem? (i := 1) rfl)) (fun _ h9 => h9) rfl dX0_insert_55 ?_
    refine lv_iconst (v := 1) hx hb dX0_insert_58 (by decide) ?_
    refine lv_iadd hx hb dX0_insert_59 ?_
    refine lv_topi (fun x7 ex7 => ?_)
    have hq := q_let hq ex7
    refine va_put (D := G) (ci := 0) (v := .int x7) (ty := .int) (C := RX0) (T := TX0) (N := 2) hx hb hts in_X0_insert_X0 tyX0 tyX0_ok nmX0 hown K.1 hP hD hS 0 rfl rfl 0 (by decide) (hts _ (List.mem_of_getElem? (i := 1) rfl)) (fun _ h9 => h9) rfl (by decide +kernel) rfl rfl (Nat.le_of_ble_eq_true rfl) dX0_insert_60 (fun H locs hP hD hS => ?_)
    have hP : va_P G vwCl [(h1, .inr (0, [.int x7, .ref a1])), (a1, .inl (g 0, 96, .inl f6))] H := hP
    have hD : va_D A [(h1, .inr (0, [.int x7, .ref a1])), (a1, .inl (g 0, 96, .inl f6))] := hD
    refine lv_aload_n hx hb dX0_insert_63 rfl (lv_at hl 2 rfl) ?_
    refine lv_iload hx hb dX0_insert_64 (lv_at hl 1 rfl) ?_
    refine lv_iconst (v := 0) hx hb dX0_insert_66 (by decide) ?_
    refine lv_iload_n hx hb dX0_insert_67 rfl (lv_at hl 3 rfl) ?_
    obtain ⟨y8, hh9, hq⟩ := q_bd hq
    refine rwV (ci := 0) (wr := []) (As := [.int r2, .int 0, .int p1]) (rest := []) X K (k_X0_put l G g h1 a1 x7 f6 r2 0 p1 _ hh9) hd_X0_put gX0_insert_X0_put hP hD hS hA [0, 1] [] rfl rfl ⟨by decide, by decide, by decide⟩ hl.1 dX0_insert_68 rfl rfl ⟨Nat.le_of_ble_eq_true rfl, Nat.le_of_ble_eq_true rfl⟩ rfl rfl rfl (Nat.le_of_ble_eq_true rfl) ⟨Nat.zero_le _, Nat.zero_le _⟩ (fun H locs hP hD hS => ?_)
    have hP : va_P G vwCl [(h1, .inr (0, [.int x7, .ref a1])), (a1, .inl (g 0, 96, .inl y8))] H := hP
    have hD : va_D A [(h1, .inr (0, [.int x7, .ref a1])), (a1, .inl (g 0, 96, .inl y8))] := hD
    refine lv_aload_n hx hb dX0_insert_71 rfl (lv_at hl 2 rfl) ?_
    refine lv_iload hx hb dX0_insert_72 (lv_at hl 1 rfl) ?_
    refine lv_iconst (v := 1) hx hb dX0_insert_74 (by decide) ?_
    refine lv_iload_n hx hb dX0_insert_75 rfl (lv_at hl 4 rfl) ?_
    obtain ⟨y10, hh11, hq⟩ := q_bd hq
    refine rwV (ci := 0) (wr := []) (As := [.int r2, .int 1, .int p2]) (rest := []) X K (k_X0_put l G g h1 a1 x7 y8 r2 1 p2 _ hh11) hd_X0_put gX0_insert_X0_put hP hD hS hA [0, 1] [] rfl rfl ⟨by decide, by decide, by decide⟩ hl.1 dX0_insert_76 rfl rfl ⟨Nat.le_of_ble_eq_true rfl, Nat.le_of_ble_eq_true rfl⟩ rfl rfl rfl (Nat.le_of_ble_eq_true rfl) ⟨Nat.zero_le _, Nat.zero_le _⟩ (fun H locs hP hD hS => ?_)
    have hP : va_P G vwCl [(h1, .inr (0, [.int x7, .ref a1])), (a1, .inl (g 0, 96, .inl y10))] H := hP
    have hD : va_D A [(h1, .inr (0, [.int x7, .ref a1])), (a1, .inl (g 0, 96, .inl y10))] := hD
    refine lv_aload_n hx hb dX0_insert_79 rfl (lv_at hl 2 rfl) ?_
    refine lv_iload hx hb dX0_insert_80 (lv_at hl 1 rfl) ?_
    refine lv_iconst (v := 2) hx hb dX0_insert_82 (by decide) ?_
    refine lv_iload_n hx hb dX0_insert_83 rfl (lv_at hl 5 rfl) ?_
    obtain ⟨y12, hh13, hq⟩ := q_bd hq
    refine rwV (ci := 0) (wr := []) (As := [.int r2, .int 2, .int p3]) (rest := []) X K (k_X0_put l G g h1 a1 x7 y10 r2 2 p3 _ hh13) hd_X0_put gX0_insert_X0_put hP hD hS hA [0, 1] [] rfl rfl ⟨by decide, by decide, by decide⟩ hl.1 dX0_insert_84 rfl rfl ⟨Nat.le_of_ble_eq_true rfl, Nat.le_of_ble_eq_true rfl⟩ rfl rfl rfl (Nat.le_of_ble_eq_true rfl) ⟨Nat.zero_le _, Nat.zero_le _⟩ (fun H locs hP hD hS => ?_)
    have hP : va_P G vwCl [(h1, .inr (0, [.int x7, .ref a1])), (a1, .inl (g 0, 96, .inl y12))] H := hP
    have hD : va_D A [(h1, .inr (0, [.int x7, .ref a1])), (a1, .inl (g 0, 96, .inl y12))] := hD
    refine lv_aload_n hx hb dX0_insert_87 rfl (lv_at hl 2 rfl) ?_
    refine lv_iload hx hb dX0_insert_88 (lv_at hl 1 rfl) ?_
    refine lv_iconst (v := 3) hx hb dX0_insert_90 (by decide) ?_
    refine lv_iload hx hb dX0_insert_91 (lv_at hl 6 rfl) ?_
    obtain ⟨y14, hh15, hq⟩ := q_bd hq
    refine rwV (ci := 0) (wr := []) (As := [.int r2, .int 3, .int p4]) (rest := []) X K (k_X0_put l G g h1 a1 x7 y12 r2 3 p4 _ hh15) hd_X0_put gX0_insert_X0_put hP hD hS hA [0, 1] [] rfl rfl ⟨by decide, by decide, by decide⟩ hl.1 dX0_insert_93 rfl rfl ⟨Nat.le_of_ble_eq_true rfl, Nat.le_of_ble_eq_true rfl⟩ rfl rfl rfl (Nat.le_of_ble_eq_true rfl) ⟨Nat.zero_le _, Nat.zero_le _⟩ (fun H locs hP hD hS => ?_)
    have hP : va_P G vwCl [(h1, .inr (0, [.int x7, .ref a1])), (a1, .inl (g 0, 96, .inl y14))] H := hP
    have hD : va_D A [(h1, .inr (0, [.int x7, .ref a1])), (a1, .inl (g 0, 96, .inl y14))] := hD
    refine lv_aload_n hx hb dX0_insert_96 rfl (lv_at hl 2 rfl) ?_
    refine lv_iload hx hb dX0_insert_97 (lv_at hl 1 rfl) ?_
    refine lv_iconst (v := 4) hx hb dX0_insert_99 (by decide) ?_
    refine lv_iload hx hb dX0_insert_100 (lv_at hl 7 rfl) ?_
    obtain ⟨y16, hh17, hq⟩ := q_bd hq
    refine rwV (ci := 0) (wr := []) (As := [.int r2, .int 4, .int p5]) (rest := []) X K (k_X0_put l G g h1 a1 x7 y14 r2 4 p5 _ hh17) hd_X0_put gX0_insert_X0_put hP hD hS hA [0, 1] [] rfl rfl ⟨by decide, by decide, by decide⟩ hl.1 dX0_insert_102 rfl rfl ⟨Nat.le_of_ble_eq_true rfl, Nat.le_of_ble_eq_true rfl⟩ rfl rfl rfl (Nat.le_of_ble_eq_true rfl) ⟨Nat.zero_le _, Nat.zero_le _⟩ (fun H locs hP hD hS => ?_)
    have hP : va_P G vwCl [(h1, .inr (0, [.int x7, .ref a1])), (a1, .inl (g 0, 96, .inl y16))] H := hP
    have hD : va_D A [(h1, .inr (0, [.int x7, .ref a1])), (a1, .inl (g 0, 96, .inl y16))] := hD
    refine lv_aload_n hx hb dX0_insert_105 rfl (lv_at hl 2 rfl) ?_
    refine lv_iload hx hb dX0_insert_106 (lv_at hl 1 rfl) ?_
    refine lv_iconst (v := 5) hx hb dX0_insert_108 (by decide) ?_
    refine lv_iload hx hb dX0_insert_109 (lv_at hl 8 rfl) ?_
    obtain ⟨y18, hh19, hq⟩ := q_bd hq
    refine rwV (ci := 0) (wr := []) (As := [.int r2, .int 5, .int p6]) (rest := []) X K (k_X0_put l G g h1 a1 x7 y16 r2 5 p6 _ hh19) hd_X0_put gX0_insert_X0_put hP hD hS hA [0, 1] [] rfl rfl ⟨by decide, by decide, by decide⟩ hl.1 dX0_insert_111 rfl rfl ⟨Nat.le_of_ble_eq_true rfl, Nat.le_of_ble_eq_true rfl⟩ rfl rfl rfl (Nat.le_of_ble_eq_true rfl) ⟨Nat.zero_le _, Nat.zero_le _⟩ (fun H locs hP hD hS => ?_)
    have hP : va_P G vwCl [(h1, .inr (0, [.int x7, .ref a1])), (a1, .inl (g 0, 96, .inl y18))] H := hP
    have hD : va_D A [(h1, .inr (0, [.int x7, .ref a1])), (a1, .inl (g 0, 96, .inl y18))] := hD
    refine lv_iload hx hb dX0_insert_114 (lv_at hl 1 rfl) ?_
    obtain rfl := q_rt hq
    exact rw_iret hx hb hr hk hP hD hS dX0_insert_116
  · have hq := q_if_f hq c1
    refine lv_iconst (v := (-1)) hx hb dX0_insert_9 (by decide) ?_
    obtain rfl := q_rt hq
    exact rw_iret hx hb hr hk hP hD hS dX0_insert_10
theorem in_X0_takeOut_X0 : ∀ w ∈ wsX00, w ∈ wsX0_takeOut := fun _ h => List.mem_cons_of_mem _ (List.mem_append_right _ h)
def F_X0_takeOut (cn : Int32) (cf : Nat → Int32) (p1 : Int32) : Option (Int32 × (Nat → Int32)) := if p1 < 0 then (some (cn, cf)) else (if p1 < cn then (vlet ((p1 + 1) * 6) fun x3 => vgd (¬ x3 < 0 ∧ ¬ (x3 - 6) < 0 ∧ ¬ ((cn * 6) - x3) < 0 ∧ x3.toNatClampNeg + ((cn * 6) - x3).toNatClampNeg ≤ 96 ∧ (x3 - 6).toNatClampNeg + ((cn * 6) - x3).toNatClampNeg ≤ 96) <| vlet (va_cpy cf cf x3.toNatClampNeg (x3 - 6).toNatClampNeg ((cn * 6) - x3).toNatClampNeg) fun f5 => vlet (cn - 1) fun x6 => some (x6, f5)) else (some (cn, cf)))
set_option maxHeartbeats 4000000 in
set_option maxRecDepth 100000 in
theorem k_X0_takeOut (l : Launch) (G : va_G) (g : Nat → ClassId) (h1 a1 : Nat) (cn : Int32) (cf : Nat → Int32) (p1 : Int32) (res : Int32 × (Nat → Int32)) (hq : F_X0_takeOut cn cf p1 = some res) : rwC l yX0_takeOut wsX0_takeOut (rmF 1 40) G g [.ref h1, .int p1] [(h1, .inr (0, [.int cn, .ref a1])), (a1, .inl (g 0, 96, .inl cf))] none [(h1, .inr (0, [.int res.1, .ref a1])), (a1, .inl (g 0, 96, .inl res.2))] := by
  refine rwC.of (cc := cX0_takeOut) (maxL := 3) (ret := none) (by decide) rfl (Nat.le_of_ble_eq_true rfl) ?_
  intro p e s m below meth c ls A X K hA hP hD hS hl
  obtain ⟨hx, hb, hml, hr, hown, hts, hk⟩ := id X
  have hl : lv_has ls 3 [(0, .ref h1), (1, .int p1)] := hl
  unfold F_X0_takeOut at hq
  refine lv_iload_n hx hb dX0_takeOut_0 rfl (lv_at hl 1 rfl) ?_
  refine lv_if_lt (tgt := 12) hx hb dX0_takeOut_1 (by decide) (fun c1 => ?_) (fun c1 => ?_)
  · have hq := q_if_t hq c1
    obtain rfl := q_rt hq
    exact rw_vret hx hb hr hk hP hD hS dX0_takeOut_12
  · have hq := q_if_f hq c1
    refine lv_iload_n hx hb dX0_takeOut_4 rfl (lv_at hl 1 rfl) ?_
    refine lv_aload_n hx hb dX0_takeOut_5 rfl (lv_at hl 0 rfl) ?_
    refine va_get (D := G) (ci := 0) (v := .int cn) (C := RX0) (T := TX0) (N := 2) hx hb hts in_X0_takeOut_X0 hown K.1 hP 0 rfl rfl 0 (by decide) (hts _ (List.mem_of_getElem? (i := 1) rfl)) (fun _ h9 => h9) rfl dX0_takeOut_6 ?_
    refine lv_icmp_lt (tgt := 13) hx hb dX0_takeOut_9 (by decide) (fun c2 => ?_) (fun c2 => ?_)
    · have hq := q_if_t hq c2
      refine lv_iload_n hx hb dX0_takeOut_13 rfl (lv_at hl 1 rfl) ?_
      refine lv_iconst (v := 1) hx hb dX0_takeOut_14 (by decide) ?_
      refine lv_iadd hx hb dX0_takeOut_15 ?_
      refine lv_bipush (v := 6) hx hb dX0_takeOut_16 (by decide) ?_
      refine lv_imul hx hb dX0_takeOut_18 ?_
      refine lv_topi (fun x3 ex3 => ?_)
      have hq := q_let hq ex3
      refine lv_istore_n (lv' := [(2, .int x3), (0, .ref h1), (1, .int p1)]) hx hb dX0_takeOut_19 rfl hl (by decide) rfl (fun ls hl => ?_)
      refine lv_aload_n hx hb dX0_takeOut_20 rfl (lv_at hl 1 rfl) ?_
      refine va_get (D := G) (ci := 0) (v := .ref a1) (C := RX0) (T := TX0) (N := 2) hx hb hts in_X0_takeOut_X0 hown K.1 hP 0 rfl rfl 1 (by decide) (hts _ (List.mem_of_getElem? (i := 2) rfl)) (fun _ h9 => h9) rfl dX0_takeOut_21 ?_
      refine lv_iload_n hx hb dX0_takeOut_24 rfl (lv_at hl 0 rfl) ?_
      refine lv_aload_n hx hb dX0_takeOut_25 rfl (lv_at hl 1 rfl) ?_
      refine va_get (D := G) (ci := 0) (v := .ref a1) (C := RX0) (T := TX0) (N := 2) hx hb hts in_X0_takeOut_X0 hown K.1 hP 0 rfl rfl 1 (by decide) (hts _ (List.mem_of_getElem? (i := 2) rfl)) (fun _ h9 => h9) rfl dX0_takeOut_26 ?_
      refine lv_iload_n hx hb dX0_takeOut_29 rfl (lv_at hl 0 rfl) ?_
      refine lv_bipush (v := 6) hx hb dX0_takeOut_30 (by decide) ?_
      refine lv_isub hx hb dX0_takeOut_32 ?_
      refine lv_aload_n hx hb dX0_takeOut_33 rfl (lv_at hl 1 rfl) ?_
      refine va_get (D := G) (ci := 0) (v := .int cn) (C := RX0) (T := TX0) (N := 2) hx hb hts in_X0_takeOut_X0 hown K.1 hP 0 rfl rfl 0 (by decide) (hts _ (List.mem_of_getElem? (i := 1) rfl)) (fun _ h9 => h9) rfl dX0_takeOut_34 ?_
      refine lv_bipush (v := 6) hx hb dX0_takeOut_37 (by decide) ?_
      refine lv_imul hx hb dX0_takeOut_39 ?_
      refine lv_iload_n hx hb dX0_takeOut_40 rfl (lv_at hl 0 rfl) ?_
      refine lv_isub hx hb dX0_takeOut_41 ?_
      obtain ⟨hh4, hq⟩ := q_gd hq
      refine va_copyi hx hb (hml.trans hl.1.symm) hown (hts _ (List.mem_of_getElem? (i := 3) rfl)) (hts _ (List.mem_of_getElem? (i := 4) rfl)) (hts _ (List.mem_of_getElem? (i := 5) rfl)) (hts _ (List.mem_of_getElem? (i := 6) rfl)) K.1 hP hD hS 1 1 0 0 rfl rfl rfl rfl rfl hh4.1 hh4.2.1 hh4.2.2.1 hh4.2.2.2.1 hh4.2.2.2.2 (fun _ _ => rfl) (Nat.le_of_ble_eq_true rfl) (Nat.le_of_ble_eq_true rfl) dX0_takeOut_42 (fun H locs hP hD hS => ?_)
      obtain ⟨f5, ef5⟩ : ∃ y, y = va_cpy cf cf x3.toNatClampNeg (x3 - 6).toNatClampNeg ((cn * 6) - x3).toNatClampNeg := ⟨_, rfl⟩
      have hq := q_let hq ef5
      have hP : va_P G vwCl [(h1, .inr (0, [.int cn, .ref a1])), (a1, .inl (g 0, 96, .inl f5))] H := by rw [ef5]; exact hP
      have hD : va_D A [(h1, .inr (0, [.int cn, .ref a1])), (a1, .inl (g 0, 96, .inl f5))] := by rw [ef5]; exact hD
      refine lv_aload_n hx hb dX0_takeOut_45 rfl (lv_at hl 1 rfl) ?_
      refine lv_dup hx hb dX0_takeOut_46 rfl ?_
      refine va_get (D := G) (ci := 0) (v := .int cn) (C := RX0) (T := TX0) (N := 2) hx hb hts in_X0_takeOut_X0 hown K.1 hP 0 rfl rfl 0 (by decide) (hts _ (List.mem_of_getElem? (i := 1) rfl)) (fun _ h9 => h9) rfl dX0_takeOut_47 ?_
      refine lv_iconst (v := 1) hx hb dX0_takeOut_50 (by decide) ?_
      refine lv_isub hx hb dX0_takeOut_51 ?_
      refine lv_topi (fun x6 ex6 => ?_)
      have hq := q_let hq ex6
      refine va_put (D := G) (ci := 0) (v := .int x6) (ty := .int) (C := RX0) (T := TX0) (N := 2) hx hb hts in_X0_takeOut_X0 tyX0 tyX0_ok nmX0 hown K.1 hP hD hS 0 rfl rfl 0 (by decide) (hts _ (List.mem_of_getElem? (i := 1) rfl)) (fun _ h9 => h9) rfl (by decide +kernel) rfl rfl (Nat.le_of_ble_eq_true rfl) dX0_takeOut_52 (fun H locs hP hD hS => ?_)
      have hP : va_P G vwCl [(h1, .inr (0, [.int x6, .ref a1])), (a1, .inl (g 0, 96, .inl f5))] H := hP
      have hD : va_D A [(h1, .inr (0, [.int x6, .ref a1])), (a1, .inl (g 0, 96, .inl f5))] := hD
      obtain rfl := q_rt hq
      exact rw_vret hx hb hr hk hP hD hS dX0_takeOut_55
    · have hq := q_if_f hq c2
      obtain rfl := q_rt hq
      exact rw_vret hx hb hr hk hP hD hS dX0_takeOut_12
theorem hd_X0_insert : ynm yX0_insert 6 := by unfold ynm; decide +kernel
theorem hd_X0_takeOut : ynm yX0_takeOut 1 := by unfold ynm; decide +kernel
def F_X0_moveTo (cn : Int32) (cf : Nat → Int32) (p1 : Int32) (p2 : Int32) : Option (Int32 × Int32 × (Nat → Int32)) := (F_X0_cell cn cf p1 1).bind fun r1 => (F_X0_cell cn cf p1 2).bind fun r3 => (F_X0_cell cn cf p1 3).bind fun r5 => (F_X0_cell cn cf p1 4).bind fun r7 => (F_X0_cell cn cf p1 5).bind fun r9 => (F_X0_takeOut cn cf p1).bind fun o14 => (F_X0_insert o14.1 o14.2 p2 r1 r3 r5 r7 r9).bind fun o19 => some (o19.1, o19.2.1, o19.2.2)
set_option maxHeartbeats 4000000 in
set_option maxRecDepth 100000 in
theorem k_X0_moveTo (l : Launch) (G : va_G) (g : Nat → ClassId) (h1 a1 : Nat) (cn : Int32) (cf : Nat → Int32) (p1 : Int32) (p2 : Int32) (res : Int32 × Int32 × (Nat → Int32)) (hq : F_X0_moveTo cn cf p1 p2 = some res) : rwC l yX0_moveTo wsX0_moveTo (rmF 3 72) G g [.ref h1, .int p1, .int p2] [(h1, .inr (0, [.int cn, .ref a1])), (a1, .inl (g 0, 96, .inl cf))] (some (.int res.1)) [(h1, .inr (0, [.int res.2.1, .ref a1])), (a1, .inl (g 0, 96, .inl res.2.2))] := by
  refine rwC.of (cc := cX0_moveTo) (maxL := 8) (ret := (some .int)) (by decide) rfl (Nat.le_of_ble_eq_true rfl) ?_
  intro p e s m below meth c ls A X K hA hP hD hS hl
  obtain ⟨hx, hb, hml, hr, hown, hts, hk⟩ := id X
  have hl : lv_has ls 8 [(0, .ref h1), (1, .int p1), (2, .int p2)] := hl
  unfold F_X0_moveTo at hq
  refine lv_aload_n hx hb dX0_moveTo_0 rfl (lv_at hl 0 rfl) ?_
  refine lv_iload_n hx hb dX0_moveTo_1 rfl (lv_at hl 1 rfl) ?_
  refine lv_iconst (v := 1) hx hb dX0_moveTo_2 (by decide) ?_
  obtain ⟨r1, hh2, hq⟩ := q_bd hq
  refine roV (ci := 0) (As := [.int p1, .int 1]) (rest := []) X K (k_X0_cell l G g h1 a1 cn cf p1 1 _ hh2) hd_X0_cell gX0_moveTo_X0_cell hP hl.1 dX0_moveTo_3 rfl rfl ⟨Nat.le_of_ble_eq_true rfl, Nat.le_of_ble_eq_true rfl⟩ rfl rfl rfl (Nat.le_of_ble_eq_true rfl) ⟨Nat.zero_le _, Nat.zero_le _⟩ ?_
  refine lv_istore_n (lv' := [(3, .int r1), (0, .ref h1), (1, .int p1), (2, .int p2)]) hx hb dX0_moveTo_6 rfl hl (by decide) rfl (fun ls hl => ?_)
  refine lv_aload_n hx hb dX0_moveTo_7 rfl (lv_at hl 1 rfl) ?_
  refine lv_iload_n hx hb dX0_moveTo_8 rfl (lv_at hl 2 rfl) ?_
  refine lv_iconst (v := 2) hx hb dX0_moveTo_9 (by decide) ?_
  obtain ⟨r3, hh4, hq⟩ := q_bd hq
  refine roV (ci := 0) (As := [.int p1, .int 2]) (rest := []) X K (k_X0_cell l G g h1 a1 cn cf p1 2 _ hh4) hd_X0_cell gX0_moveTo_X0_cell hP hl.1 dX0_moveTo_10 rfl rfl ⟨Nat.le_of_ble_eq_true rfl, Nat.le_of_ble_eq_true rfl⟩ rfl rfl rfl (Nat.le_of_ble_eq_true rfl) ⟨Nat.zero_le _, Nat.zero_le _⟩ ?_
  refine lv_istore (lv' := [(4, .int r3), (3, .int r1), (0, .ref h1), (1, .int p1), (2, .int p2)]) hx hb dX0_moveTo_13 hl (by decide) rfl (fun ls hl => ?_)
  refine lv_aload_n hx hb dX0_moveTo_15 rfl (lv_at hl 2 rfl) ?_
  refine lv_iload_n hx hb dX0_moveTo_16 rfl (lv_at hl 3 rfl) ?_
  refine lv_iconst (v := 3) hx hb dX0_moveTo_17 (by decide) ?_
  obtain ⟨r5, hh6, hq⟩ := q_bd hq
  refine roV (ci := 0) (As := [.int p1, .int 3]) (rest := []) X K (k_X0_cell l G g h1 a1 cn cf p1 3 _ hh6) hd_X0_cell gX0_moveTo_X0_cell hP hl.1 dX0_moveTo_18 rfl rfl ⟨Nat.le_of_ble_eq_true rfl, Nat.le_of_ble_eq_true rfl⟩ rfl rfl rfl (Nat.le_of_ble_eq_true rfl) ⟨Nat.zero_le _, Nat.zero_le _⟩ ?_
  refine lv_istore (lv' := [(5, .int r5), (4, .int r3), (3, .int r1), (0, .ref h1), (1, .int p1), (2, .int p2)]) hx hb dX0_moveTo_21 hl (by decide) rfl (fun ls hl => ?_)
  refine lv_aload_n hx hb dX0_moveTo_23 rfl (lv_at hl 3 rfl) ?_
  refine lv_iload_n hx hb dX0_moveTo_24 rfl (lv_at hl 4 rfl) ?_
  refine lv_iconst (v := 4) hx hb dX0_moveTo_25 (by decide) ?_
  obtain ⟨r7, hh8, hq⟩ := q_bd hq
  refine roV (ci := 0) (As := [.int p1, .int 4]) (rest := []) X K (k_X0_cell l G g h1 a1 cn cf p1 4 _ hh8) hd_X0_cell gX0_moveTo_X0_cell hP hl.1 dX0_moveTo_26 rfl rfl ⟨Nat.le_of_ble_eq_true rfl, Nat.le_of_ble_eq_true rfl⟩ rfl rfl rfl (Nat.le_of_ble_eq_true rfl) ⟨Nat.zero_le _, Nat.zero_le _⟩ ?_
  refine lv_istore (lv' := [(6, .int r7), (5, .int r5), (4, .int r3), (3, .int r1), (0, .ref h1), (1, .int p1), (2, .int p2)]) hx hb dX0_moveTo_29 hl (by decide) rfl (fun ls hl => ?_)
  refine lv_aload_n hx hb dX0_moveTo_31 rfl (lv_at hl 4 rfl) ?_
  refine lv_iload_n hx hb dX0_moveTo_32 rfl (lv_at hl 5 rfl) ?_
  refine lv_iconst (v := 5) hx hb dX0_moveTo_33 (by decide) ?_
  obtain ⟨r9, hh10, hq⟩ := q_bd hq
  refine roV (ci := 0) (As := [.int p1, .int 5]) (rest := []) X K (k_X0_cell l G g h1 a1 cn cf p1 5 _ hh10) hd_X0_cell gX0_moveTo_X0_cell hP hl.1 dX0_moveTo_34 rfl rfl ⟨Nat.le_of_ble_eq_true rfl, Nat.le_of_ble_eq_true rfl⟩ rfl rfl rfl (Nat.le_of_ble_eq_true rfl) ⟨Nat.zero_le _, Nat.zero_le _⟩ ?_
  refine lv_istore (lv' := [(7, .int r9), (6, .int r7), (5, .int r5), (4, .int r3), (3, .int r1), (0, .ref h1), (1, .int p1), (2, .int p2)]) hx hb dX0_moveTo_37 hl (by decide) rfl (fun ls hl => ?_)
  refine lv_aload_n hx hb dX0_moveTo_39 rfl (lv_at hl 5 rfl) ?_
  refine lv_iload_n hx hb dX0_moveTo_40 rfl (lv_at hl 6 rfl) ?_
  obtain ⟨⟨y11, y12⟩, hh13, hq⟩ := q_bd hq
  refine rwV (ci := 0) (wr := []) (As := [.int p1]) (rest := []) X K (k_X0_takeOut l G g h1 a1 cn cf p1 _ hh13) hd_X0_takeOut gX0_moveTo_X0_takeOut hP hD hS hA [0, 1] [] rfl rfl ⟨by decide, by decide, by decide⟩ hl.1 dX0_moveTo_41 rfl rfl ⟨Nat.le_of_ble_eq_true rfl, Nat.le_of_ble_eq_true rfl⟩ rfl rfl rfl (Nat.le_of_ble_eq_true rfl) ⟨Nat.zero_le _, Nat.zero_le _⟩ (fun H locs hP hD hS => ?_)
  have hP : va_P G vwCl [(h1, .inr (0, [.int y11, .ref a1])), (a1, .inl (g 0, 96, .inl y12))] H := hP
  have hD : va_D A [(h1, .inr (0, [.int y11, .ref a1])), (a1, .inl (g 0, 96, .inl y12))] := hD
  refine lv_aload_n hx hb dX0_moveTo_44 rfl (lv_at hl 5 rfl) ?_
  refine lv_iload_n hx hb dX0_moveTo_45 rfl (lv_at hl 7 rfl) ?_
  refine lv_iload_n hx hb dX0_moveTo_46 rfl (lv_at hl 4 rfl) ?_
  refine lv_iload hx hb dX0_moveTo_47 (lv_at hl 3 rfl) ?_
  refine lv_iload hx hb dX0_moveTo_49 (lv_at hl 2 rfl) ?_
  refine lv_iload hx hb dX0_moveTo_51 (lv_at hl 1 rfl) ?_
  refine lv_iload hx hb dX0_moveTo_53 (lv_at hl 0 rfl) ?_
  obtain ⟨⟨r15, y16, y17⟩, hh18, hq⟩ := q_bd hq
  refine rwV (ci := 0) (wr := []) (As := [.int p2, .int r1, .int r3, .int r5, .int r7, .int r9]) (rest := []) X K (k_X0_insert l G g h1 a1 y11 y12 p2 r1 r3 r5 r7 r9 _ hh18) hd_X0_insert gX0_moveTo_X0_insert hP hD hS hA [0, 1] [] rfl rfl ⟨by decide, by decide, by decide⟩ hl.1 dX0_moveTo_55 rfl rfl ⟨Nat.le_of_ble_eq_true rfl, Nat.le_of_ble_eq_true rfl⟩ rfl rfl rfl (Nat.le_of_ble_eq_true rfl) ⟨Nat.zero_le _, Nat.zero_le _⟩ (fun H locs hP hD hS => ?_)
  have hP : va_P G vwCl [(h1, .inr (0, [.int y16, .ref a1])), (a1, .inl (g 0, 96, .inl y17))] H := hP
  have hD : va_D A [(h1, .inr (0, [.int y16, .ref a1])), (a1, .inl (g 0, 96, .inl y17))] := hD
  obtain rfl := q_rt hq
  exact rw_iret hx hb hr hk hP hD hS dX0_moveTo_58
theorem in_X0_canRaise_X0 : ∀ w ∈ wsX00, w ∈ wsX0_canRaise := fun _ h => List.mem_cons_of_mem _ (List.mem_append_right _ h)
def F_X0_canRaise_2 (cn : Int32) (cf : Nat → Int32) (v1 : Int32) : Nat → Int32 → Option (Int32)
  | 0, _ => none
  | n + 1, v2 => if cn ≤ v2 then (some (1)) else ((F_X0_cell cn cf v2 1).bind fun r4 => vlet (if 0 ≤ (r4 + v1) then (r4 + v1) else 0 - (r4 + v1)) fun x6 => if x6 ≤ 9999 then (vlet ((v2 : Int32) + 1) fun x8 => F_X0_canRaise_2 cn cf v1 n x8) else (some (0)))
set_option maxHeartbeats 4000000 in
set_option maxRecDepth 100000 in
theorem w_X0_canRaise_2 {p : Program} {l : Launch} {e : Env} {s : State} {m : MethodId} {args : Array Value} {below : List Frame} {meth : Method} {c : Code} {G : va_G} {g : Nat → ClassId} (X : cx p s m args meth c cX0_canRaise 3 (some .boolean) RX0 wsX0_canRaise) (K : amb G g s) (h1 a1 : Nat) (cn : Int32) (cf : Nat → Int32) (v1 : Int32) (hP : va_P G vwCl [(h1, .inr (0, [.int cn, .ref a1])), (a1, .inl (g 0, 96, .inl cf))] s.heap) (res : Int32) : ∀ (n : Nat) (v2 : Int32), F_X0_canRaise_2 cn cf v1 n v2 = some res → ∀ (ls : Array Slot), lv_has ls 3 [(0, .ref h1), (1, .int v1), (2, .int v2)] → W p l e (rmF 1 22) s m args below meth c s.heap [] 0 0 (roM below (some (.int res)) args s) (F0 m 2 ls []) := by
  obtain ⟨hx, hb, hml, hr, hown, hts, hk⟩ := id X
  intro n
  induction n with
  | zero => intro v2 hq; exact q_no hq
  | succ n ih =>
    intro v2 hq ls hl
    rw [F_X0_canRaise_2] at hq
    refine lv_iload_n hx hb dX0_canRaise_2 rfl (lv_at hl 2 rfl) ?_
    refine lv_aload_n hx hb dX0_canRaise_3 rfl (lv_at hl 0 rfl) ?_
    refine va_get (D := G) (ci := 0) (v := .int cn) (C := RX0) (T := TX0) (N := 2) hx hb hts in_X0_canRaise_X0 hown K.1 hP 0 rfl rfl 0 (by decide) (hts _ (List.mem_of_getElem? (i := 1) rfl)) (fun _ h9 => h9) rfl dX0_canRaise_4 ?_
    refine lv_icmp_ge (tgt := 35) hx hb dX0_canRaise_7 (by decide) (fun c3 => ?_) (fun c3 => ?_)
    · have hq := q_if_t hq c3
      refine lv_iconst (v := 1) hx hb dX0_canRaise_35 (by decide) ?_
      obtain rfl := q_rt hq
      exact ro_zret hx hb hr nz_1 hk dX0_canRaise_36
    · have hq := q_if_f hq c3
      refine lv_aload_n hx hb dX0_canRaise_10 rfl (lv_at hl 0 rfl) ?_
      refine lv_iload_n hx hb dX0_canRaise_11 rfl (lv_at hl 2 rfl) ?_
      refine lv_iconst (v := 1) hx hb dX0_canRaise_12 (by decide) ?_
      obtain ⟨r4, hh5, hq⟩ := q_bd hq
      refine roV (ci := 0) (As := [.int v2, .int 1]) (rest := []) X K (k_X0_cell l G g h1 a1 cn cf v2 1 _ hh5) hd_X0_cell gX0_canRaise_X0_cell hP hl.1 dX0_canRaise_13 rfl rfl ⟨Nat.le_of_ble_eq_true rfl, Nat.le_of_ble_eq_true rfl⟩ rfl rfl rfl (Nat.le_of_ble_eq_true rfl) ⟨Nat.zero_le _, Nat.zero_le _⟩ ?_
      refine lv_iload_n hx hb dX0_canRaise_16 rfl (lv_at hl 1 rfl) ?_
      refine lv_iadd hx hb dX0_canRaise_17 ?_
      refine va_mabs hx hb (hml.trans hl.1.symm) hown (hts _ (List.mem_of_getElem? (i := 2) rfl)) (hts _ (List.mem_of_getElem? (i := 3) rfl)) (hts _ (List.mem_of_getElem? (i := 4) rfl)) (hts _ (List.mem_of_getElem? (i := 5) rfl)) (Nat.le_of_ble_eq_true rfl) (Nat.le_of_ble_eq_true rfl) (Nat.zero_le _) (Nat.zero_le _) dX0_canRaise_18 ?_
      refine lv_topi (fun x6 ex6 => ?_)
      have hq := q_let hq ex6
      refine lv_sipush (v := 9999) hx hb dX0_canRaise_21 (by decide) ?_
      refine lv_icmp_le (tgt := 29) hx hb dX0_canRaise_24 (by decide) (fun c7 => ?_) (fun c7 => ?_)
      · have hq := q_if_t hq c7
        obtain ⟨x8, ex8⟩ : ∃ y : Int32, y = (v2 : Int32) + 1 := ⟨_, rfl⟩
        have hq := q_let hq ex8
        refine lv_iinc (v := x8) (lv' := [(2, .int x8), (0, .ref h1), (1, .int v1)]) hx hb dX0_canRaise_29 hl (k := 2) rfl (by rw [ex8]; rfl) (by decide) rfl (fun ls hl => ?_)
        refine lv_goto (tgt := 2) hx hb dX0_canRaise_32 (by decide) ?_
        exact ih x8 hq ls (lv_sub hl [1, 2, 0] rfl)
      · have hq := q_if_f hq c7
        refine lv_iconst (v := 0) hx hb dX0_canRaise_27 (by decide) ?_
        obtain rfl := q_rt hq
        exact ro_zret hx hb hr nz_0 hk dX0_canRaise_28
def F_X0_canRaise (cn : Int32) (cf : Nat → Int32) (p1 : Int32) : Option (Int32) := F_X0_canRaise_2 cn cf p1 2000 0
set_option maxHeartbeats 4000000 in
set_option maxRecDepth 100000 in
theorem k_X0_canRaise (l : Launch) (G : va_G) (g : Nat → ClassId) (h1 a1 : Nat) (cn : Int32) (cf : Nat → Int32) (p1 : Int32) (res : Int32) (hq : F_X0_canRaise cn cf p1 = some res) : roC l yX0_canRaise wsX0_canRaise (rmF 1 22) G g [.ref h1, .int p1] [(h1, .inr (0, [.int cn, .ref a1])), (a1, .inl (g 0, 96, .inl cf))] (some (.int res)) := by
  refine roC.of (cc := cX0_canRaise) (maxL := 3) (ret := (some .boolean)) (by decide) rfl (Nat.le_of_ble_eq_true rfl) ?_
  intro p e s m below meth c ls X K hP hl
  obtain ⟨hx, hb, hml, hr, hown, hts, hk⟩ := id X
  have hl : lv_has ls 3 [(0, .ref h1), (1, .int p1)] := hl
  unfold F_X0_canRaise at hq
  refine lv_iconst (v := 0) hx hb dX0_canRaise_0 (by decide) ?_
  refine lv_istore_n (lv' := [(2, .int 0), (0, .ref h1), (1, .int p1)]) hx hb dX0_canRaise_1 rfl hl (by decide) rfl (fun ls hl => ?_)
  exact w_X0_canRaise_2 X K h1 a1 cn cf p1 hP _ 2000 0 hq ls (lv_sub hl [1, 2, 0] rfl)
theorem in_X0_raise_X0 : ∀ w ∈ wsX00, w ∈ wsX0_raise := fun _ h => List.mem_cons_of_mem _ (List.mem_append_right _ h)
def F_X0_raise_2 (cn : Int32) (v1 : Int32) : Nat → (Nat → Int32) → Int32 → Option ((Nat → Int32))
  | 0, _, _ => none
  | n + 1, cf, v2 => if cn ≤ v2 then (some (cf)) else ((F_X0_cell cn cf v2 1).bind fun r4 => (F_X0_put cn cf v2 1 (r4 + v1)).bind fun y6 => vlet ((v2 : Int32) + 1) fun x8 => F_X0_raise_2 cn v1 n y6 x8)
set_option maxHeartbeats 4000000 in
set_option maxRecDepth 100000 in
theorem w_X0_raise_2 {p : Program} {l : Launch} {e : Env} {s : State} {m : MethodId} {args : Array Value} {below : List Frame} {meth : Method} {c : Code} {G : va_G} {g : Nat → ClassId} (X : cx p s m args meth c cX0_raise 3 none RX0 wsX0_raise) (K : amb G g s) {A : Nat → Prop} (hA : ∀ q : Nat, s.heap.size ≤ q → A q) (h1 a1 : Nat) (cn : Int32) (v1 : Int32) (res : (Nat → Int32)) : ∀ (n : Nat) (cf : Nat → Int32) (v2 : Int32), F_X0_raise_2 cn v1 n cf v2 = some res → ∀ (H : Heap) (locs : List Loc), va_P G vwCl [(h1, .inr (0, [.int cn, .ref a1])), (a1, .inl (g 0, 96, .inl cf))] H → va_D A [(h1, .inr (0, [.int cn, .ref a1])), (a1, .inl (g 0, 96, .inl cf))] → va_S A s.heap H locs → ∀ (ls : Array Slot), lv_has ls 3 [(0, .ref h1), (1, .int v1), (2, .int v2)] → W p l e (rmF 1 23) s m args below meth c H locs 0 0 (rwM G A below none [(h1, .inr (0, [.int cn, .ref a1])), (a1, .inl (g 0, 96, .inl res))] args s) (F0 m 2 ls []) := by
  obtain ⟨hx, hb, hml, hr, hown, hts, hk⟩ := id X
  intro n
  induction n with
  | zero => intro cf v2 hq; exact q_no hq
  | succ n ih =>
    intro cf v2 hq H locs hP hD hS ls hl
    rw [F_X0_raise_2] at hq
    refine lv_iload_n hx hb dX0_raise_2 rfl (lv_at hl 2 rfl) ?_
    refine lv_aload_n hx hb dX0_raise_3 rfl (lv_at hl 0 rfl) ?_
    refine va_get (D := G) (ci := 0) (v := .int cn) (C := RX0) (T := TX0) (N := 2) hx hb hts in_X0_raise_X0 hown K.1 hP 0 rfl rfl 0 (by decide) (hts _ (List.mem_of_getElem? (i := 1) rfl)) (fun _ h9 => h9) rfl dX0_raise_4 ?_
    refine lv_icmp_ge (tgt := 30) hx hb dX0_raise_7 (by decide) (fun c3 => ?_) (fun c3 => ?_)
    · have hq := q_if_t hq c3
      obtain rfl := q_rt hq
      exact rw_vret hx hb hr hk hP hD hS dX0_raise_30
    · have hq := q_if_f hq c3
      refine lv_aload_n hx hb dX0_raise_10 rfl (lv_at hl 0 rfl) ?_
      refine lv_iload_n hx hb dX0_raise_11 rfl (lv_at hl 2 rfl) ?_
      refine lv_iconst (v := 1) hx hb dX0_raise_12 (by decide) ?_
      refine lv_aload_n hx hb dX0_raise_13 rfl (lv_at hl 0 rfl) ?_
      refine lv_iload_n hx hb dX0_raise_14 rfl (lv_at hl 2 rfl) ?_
      refine lv_iconst (v := 1) hx hb dX0_raise_15 (by decide) ?_
      obtain ⟨r4, hh5, hq⟩ := q_bd hq
      refine roV (ci := 0) (As := [.int v2, .int 1]) (rest := [.int 1, .int v2, .ref h1]) X K (k_X0_cell l G g h1 a1 cn cf v2 1 _ hh5) hd_X0_cell gX0_raise_X0_cell hP hl.1 dX0_raise_16 rfl rfl ⟨Nat.le_of_ble_eq_true rfl, Nat.le_of_ble_eq_true rfl⟩ rfl rfl rfl (Nat.le_of_ble_eq_true rfl) ⟨Nat.zero_le _, Nat.zero_le _⟩ ?_
      refine lv_iload_n hx hb dX0_raise_19 rfl (lv_at hl 1 rfl) ?_
      refine lv_iadd hx hb dX0_raise_20 ?_
      obtain ⟨y6, hh7, hq⟩ := q_bd hq
      refine rwV (ci := 0) (wr := []) (As := [.int v2, .int 1, .int (r4 + v1)]) (rest := []) X K (k_X0_put l G g h1 a1 cn cf v2 1 (r4 + v1) _ hh7) hd_X0_put gX0_raise_X0_put hP hD hS hA [0, 1] [] rfl rfl ⟨by decide, by decide, by decide⟩ hl.1 dX0_raise_21 rfl rfl ⟨Nat.le_of_ble_eq_true rfl, Nat.le_of_ble_eq_true rfl⟩ rfl rfl rfl (Nat.le_of_ble_eq_true rfl) ⟨Nat.zero_le _, Nat.zero_le _⟩ (fun H locs hP hD hS => ?_)
      have hP : va_P G vwCl [(h1, .inr (0, [.int cn, .ref a1])), (a1, .inl (g 0, 96, .inl y6))] H := hP
      have hD : va_D A [(h1, .inr (0, [.int cn, .ref a1])), (a1, .inl (g 0, 96, .inl y6))] := hD
      obtain ⟨x8, ex8⟩ : ∃ y : Int32, y = (v2 : Int32) + 1 := ⟨_, rfl⟩
      have hq := q_let hq ex8
      refine lv_iinc (v := x8) (lv' := [(2, .int x8), (0, .ref h1), (1, .int v1)]) hx hb dX0_raise_24 hl (k := 2) rfl (by rw [ex8]; rfl) (by decide) rfl (fun ls hl => ?_)
      refine lv_goto (tgt := 2) hx hb dX0_raise_27 (by decide) ?_
      exact ih y6 x8 hq _ _ hP hD hS ls (lv_sub hl [1, 2, 0] rfl)
def F_X0_raise (cn : Int32) (cf : Nat → Int32) (p1 : Int32) : Option ((Nat → Int32)) := F_X0_raise_2 cn p1 2000 cf 0
set_option maxHeartbeats 4000000 in
set_option maxRecDepth 100000 in
theorem k_X0_raise (l : Launch) (G : va_G) (g : Nat → ClassId) (h1 a1 : Nat) (cn : Int32) (cf : Nat → Int32) (p1 : Int32) (res : (Nat → Int32)) (hq : F_X0_raise cn cf p1 = some res) : rwC l yX0_raise wsX0_raise (rmF 1 23) G g [.ref h1, .int p1] [(h1, .inr (0, [.int cn, .ref a1])), (a1, .inl (g 0, 96, .inl cf))] none [(h1, .inr (0, [.int cn, .ref a1])), (a1, .inl (g 0, 96, .inl res))] := by
  refine rwC.of (cc := cX0_raise) (maxL := 3) (ret := none) (by decide) rfl (Nat.le_of_ble_eq_true rfl) ?_
  intro p e s m below meth c ls A X K hA hP hD hS hl
  obtain ⟨hx, hb, hml, hr, hown, hts, hk⟩ := id X
  have hl : lv_has ls 3 [(0, .ref h1), (1, .int p1)] := hl
  unfold F_X0_raise at hq
  refine lv_iconst (v := 0) hx hb dX0_raise_0 (by decide) ?_
  refine lv_istore_n (lv' := [(2, .int 0), (0, .ref h1), (1, .int p1)]) hx hb dX0_raise_1 rfl hl (by decide) rfl (fun ls hl => ?_)
  exact w_X0_raise_2 X K hA h1 a1 cn p1 _ 2000 cf 0 hq _ _ hP hD hS ls (lv_sub hl [1, 2, 0] rfl)
def F_X0_stretchedFrame (p1 : Int32) (p2 : Int32) (p3 : Int32) (p4 : Int32) : Option (Int32) := if p2 ≤ p1 then (if p3 < p1 then (some ((p1 + (((p3 - p2) * p4) / 100)) - (p3 - p2))) else (some (p2 + (((p1 - p2) * p4) / 100)))) else (some (p1))
set_option maxHeartbeats 4000000 in
set_option maxRecDepth 100000 in
theorem k_X0_stretchedFrame (l : Launch) (G : va_G) (g : Nat → ClassId) (p1 : Int32) (p2 : Int32) (p3 : Int32) (p4 : Int32) (res : Int32) (hq : F_X0_stretchedFrame p1 p2 p3 p4 = some res) : roC l yX0_stretchedFrame wsX0_stretchedFrame (rmF 0 0) G g [.int p1, .int p2, .int p3, .int p4] [] (some (.int res)) := by
  refine roC.of (cc := cX0_stretchedFrame) (maxL := 4) (ret := (some .int)) (by decide) rfl (Nat.le_of_ble_eq_true rfl) ?_
  intro p e s m below meth c ls X K hP hl
  obtain ⟨hx, hb, hml, hr, hown, hts, hk⟩ := id X
  have hl : lv_has ls 4 [(0, .int p1), (1, .int p2), (2, .int p3), (3, .int p4)] := hl
  unfold F_X0_stretchedFrame at hq
  refine lv_iload_n hx hb dX0_stretchedFrame_0 rfl (lv_at hl 0 rfl) ?_
  refine lv_iload_n hx hb dX0_stretchedFrame_1 rfl (lv_at hl 1 rfl) ?_
  refine lv_icmp_ge (tgt := 7) hx hb dX0_stretchedFrame_2 (by decide) (fun c1 => ?_) (fun c1 => ?_)
  · have hq := q_if_t hq c1
    refine lv_iload_n hx hb dX0_stretchedFrame_7 rfl (lv_at hl 0 rfl) ?_
    refine lv_iload_n hx hb dX0_stretchedFrame_8 rfl (lv_at hl 2 rfl) ?_
    refine lv_icmp_gt (tgt := 23) hx hb dX0_stretchedFrame_9 (by decide) (fun c2 => ?_) (fun c2 => ?_)
    · have hq := q_if_t hq c2
      refine lv_iload_n hx hb dX0_stretchedFrame_23 rfl (lv_at hl 0 rfl) ?_
      refine lv_iload_n hx hb dX0_stretchedFrame_24 rfl (lv_at hl 2 rfl) ?_
      refine lv_iload_n hx hb dX0_stretchedFrame_25 rfl (lv_at hl 1 rfl) ?_
      refine lv_isub hx hb dX0_stretchedFrame_26 ?_
      refine lv_iload_n hx hb dX0_stretchedFrame_27 rfl (lv_at hl 3 rfl) ?_
      refine lv_imul hx hb dX0_stretchedFrame_28 ?_
      refine lv_bipush (v := 100) hx hb dX0_stretchedFrame_29 (by decide) ?_
      refine lv_idiv hx hb dX0_stretchedFrame_31 (by decide) ?_
      refine lv_iadd hx hb dX0_stretchedFrame_32 ?_
      refine lv_iload_n hx hb dX0_stretchedFrame_33 rfl (lv_at hl 2 rfl) ?_
      refine lv_iload_n hx hb dX0_stretchedFrame_34 rfl (lv_at hl 1 rfl) ?_
      refine lv_isub hx hb dX0_stretchedFrame_35 ?_
      refine lv_isub hx hb dX0_stretchedFrame_36 ?_
      obtain rfl := q_rt hq
      exact ro_iret hx hb hr hk dX0_stretchedFrame_37
    · have hq := q_if_f hq c2
      refine lv_iload_n hx hb dX0_stretchedFrame_12 rfl (lv_at hl 1 rfl) ?_
      refine lv_iload_n hx hb dX0_stretchedFrame_13 rfl (lv_at hl 0 rfl) ?_
      refine lv_iload_n hx hb dX0_stretchedFrame_14 rfl (lv_at hl 1 rfl) ?_
      refine lv_isub hx hb dX0_stretchedFrame_15 ?_
      refine lv_iload_n hx hb dX0_stretchedFrame_16 rfl (lv_at hl 3 rfl) ?_
      refine lv_imul hx hb dX0_stretchedFrame_17 ?_
      refine lv_bipush (v := 100) hx hb dX0_stretchedFrame_18 (by decide) ?_
      refine lv_idiv hx hb dX0_stretchedFrame_20 (by decide) ?_
      refine lv_iadd hx hb dX0_stretchedFrame_21 ?_
      obtain rfl := q_rt hq
      exact ro_iret hx hb hr hk dX0_stretchedFrame_22
  · have hq := q_if_f hq c1
    refine lv_iload_n hx hb dX0_stretchedFrame_5 rfl (lv_at hl 0 rfl) ?_
    obtain rfl := q_rt hq
    exact ro_iret hx hb hr hk dX0_stretchedFrame_6
theorem hd_X0_stretchedFrame : ynm yX0_stretchedFrame 4 := by unfold ynm; decide +kernel
theorem in_X0_canStretch_X0 : ∀ w ∈ wsX00, w ∈ wsX0_canStretch := fun _ h => List.mem_cons_of_mem _ (List.mem_append_right _ h)
def F_X0_canStretch_6 (cn : Int32) (cf : Nat → Int32) (v1 : Int32) (v2 : Int32) (v3 : Int32) : Nat → Int32 → Int32 → Option (Int32)
  | 0, _, _ => none
  | n + 1, v4, v5 => if cn ≤ v5 then (some (1)) else ((F_X0_cell cn cf v5 0).bind fun r7 => (F_X0_stretchedFrame r7 v1 v2 v3).bind fun r9 => if (999 : Int32) < r9 then (some (0)) else (if r9 = v4 then (some (0)) else ((F_X0_isLocked cn cf v5).bind fun r13 => if r13 = 0 then (vlet ((v5 : Int32) + 1) fun x16 => F_X0_canStretch_6 cn cf v1 v2 v3 n r9 x16) else (if r9 = r7 then (vlet ((v5 : Int32) + 1) fun x18 => F_X0_canStretch_6 cn cf v1 v2 v3 n r9 x18) else (some (0))))))
set_option maxHeartbeats 4000000 in
set_option maxRecDepth 100000 in
theorem w_X0_canStretch_6 {p : Program} {l : Launch} {e : Env} {s : State} {m : MethodId} {args : Array Value} {below : List Frame} {meth : Method} {c : Code} {G : va_G} {g : Nat → ClassId} (X : cx p s m args meth c cX0_canStretch 8 (some .boolean) RX0 wsX0_canStretch) (K : amb G g s) (h1 a1 : Nat) (cn : Int32) (cf : Nat → Int32) (v1 : Int32) (v2 : Int32) (v3 : Int32) (hP : va_P G vwCl [(h1, .inr (0, [.int cn, .ref a1])), (a1, .inl (g 0, 96, .inl cf))] s.heap) (res : Int32) : ∀ (n : Nat) (v4 : Int32) (v5 : Int32), F_X0_canStretch_6 cn cf v1 v2 v3 n v4 v5 = some res → ∀ (ls : Array Slot), lv_has ls 8 [(0, .ref h1), (1, .int v1), (2, .int v2), (3, .int v3), (4, .int v4), (5, .int v5)] → W p l e (rmF 2 43) s m args below meth c s.heap [] 0 0 (roM below (some (.int res)) args s) (F0 m 6 ls []) := by
  obtain ⟨hx, hb, hml, hr, hown, hts, hk⟩ := id X
  intro n
  induction n with
  | zero => intro v4 v5 hq; exact q_no hq
  | succ n ih =>
    intro v4 v5 hq ls hl
    rw [F_X0_canStretch_6] at hq
    refine lv_iload hx hb dX0_canStretch_6 (lv_at hl 5 rfl) ?_
    refine lv_aload_n hx hb dX0_canStretch_8 rfl (lv_at hl 0 rfl) ?_
    refine va_get (D := G) (ci := 0) (v := .int cn) (C := RX0) (T := TX0) (N := 2) hx hb hts in_X0_canStretch_X0 hown K.1 hP 0 rfl rfl 0 (by decide) (hts _ (List.mem_of_getElem? (i := 1) rfl)) (fun _ h9 => h9) rfl dX0_canStretch_9 ?_
    refine lv_icmp_ge (tgt := 77) hx hb dX0_canStretch_12 (by decide) (fun c6 => ?_) (fun c6 => ?_)
    · have hq := q_if_t hq c6
      refine lv_iconst (v := 1) hx hb dX0_canStretch_77 (by decide) ?_
      obtain rfl := q_rt hq
      exact ro_zret hx hb hr nz_1 hk dX0_canStretch_78
    · have hq := q_if_f hq c6
      refine lv_aload_n hx hb dX0_canStretch_15 rfl (lv_at hl 0 rfl) ?_
      refine lv_iload hx hb dX0_canStretch_16 (lv_at hl 5 rfl) ?_
      refine lv_iconst (v := 0) hx hb dX0_canStretch_18 (by decide) ?_
      obtain ⟨r7, hh8, hq⟩ := q_bd hq
      refine roV (ci := 0) (As := [.int v5, .int 0]) (rest := []) X K (k_X0_cell l G g h1 a1 cn cf v5 0 _ hh8) hd_X0_cell gX0_canStretch_X0_cell hP hl.1 dX0_canStretch_19 rfl rfl ⟨Nat.le_of_ble_eq_true rfl, Nat.le_of_ble_eq_true rfl⟩ rfl rfl rfl (Nat.le_of_ble_eq_true rfl) ⟨Nat.zero_le _, Nat.zero_le _⟩ ?_
      refine lv_istore (lv' := [(6, .int r7), (0, .ref h1), (1, .int v1), (2, .int v2), (3, .int v3), (4, .int v4), (5, .int v5)]) hx hb dX0_canStretch_22 hl (by decide) rfl (fun ls hl => ?_)
      refine lv_iload hx hb dX0_canStretch_24 (lv_at hl 0 rfl) ?_
      refine lv_iload_n hx hb dX0_canStretch_26 rfl (lv_at hl 2 rfl) ?_
      refine lv_iload_n hx hb dX0_canStretch_27 rfl (lv_at hl 3 rfl) ?_
      refine lv_iload_n hx hb dX0_canStretch_28 rfl (lv_at hl 4 rfl) ?_
      obtain ⟨r9, hh10, hq⟩ := q_bd hq
      refine roS (As := [.int r7, .int v1, .int v2, .int v3]) (rest := []) X K (k_X0_stretchedFrame l G g r7 v1 v2 v3 _ hh10) hd_X0_stretchedFrame gX0_canStretch_X0_stretchedFrame (hP.sub [] rfl) hl.1 dX0_canStretch_29 rfl rfl ⟨Nat.le_of_ble_eq_true rfl, Nat.le_of_ble_eq_true rfl⟩ rfl (Nat.le_of_ble_eq_true rfl) ⟨Nat.zero_le _, Nat.zero_le _⟩ ?_
      refine lv_istore (lv' := [(7, .int r9), (6, .int r7), (0, .ref h1), (1, .int v1), (2, .int v2), (3, .int v3), (4, .int v4), (5, .int v5)]) hx hb dX0_canStretch_32 hl (by decide) rfl (fun ls hl => ?_)
      refine lv_iload hx hb dX0_canStretch_34 (lv_at hl 0 rfl) ?_
      refine lv_sipush (v := 999) hx hb dX0_canStretch_36 (by decide) ?_
      refine lv_icmp_gt (tgt := 65) hx hb dX0_canStretch_39 (by decide) (fun c11 => ?_) (fun c11 => ?_)
      · have hq := q_if_t hq c11
        refine lv_iconst (v := 0) hx hb dX0_canStretch_65 (by decide) ?_
        obtain rfl := q_rt hq
        exact ro_zret hx hb hr nz_0 hk dX0_canStretch_66
      · have hq := q_if_f hq c11
        refine lv_iload hx hb dX0_canStretch_42 (lv_at hl 0 rfl) ?_
        refine lv_iload hx hb dX0_canStretch_44 (lv_at hl 6 rfl) ?_
        refine lv_icmp_eq (tgt := 65) hx hb dX0_canStretch_46 (by decide) (fun c12 => ?_) (fun c12 => ?_)
        · have hq := q_if_t hq c12
          refine lv_iconst (v := 0) hx hb dX0_canStretch_65 (by decide) ?_
          obtain rfl := q_rt hq
          exact ro_zret hx hb hr nz_0 hk dX0_canStretch_66
        · have hq := q_if_f hq c12
          refine lv_aload_n hx hb dX0_canStretch_49 rfl (lv_at hl 2 rfl) ?_
          refine lv_iload hx hb dX0_canStretch_50 (lv_at hl 7 rfl) ?_
          obtain ⟨r13, hh14, hq⟩ := q_bd hq
          refine roV (ci := 0) (As := [.int v5]) (rest := []) X K (k_X0_isLocked l G g h1 a1 cn cf v5 _ hh14) hd_X0_isLocked gX0_canStretch_X0_isLocked hP hl.1 dX0_canStretch_52 rfl rfl ⟨Nat.le_of_ble_eq_true rfl, Nat.le_of_ble_eq_true rfl⟩ rfl rfl rfl (Nat.le_of_ble_eq_true rfl) ⟨Nat.zero_le _, Nat.zero_le _⟩ ?_
          refine lv_if_eq (tgt := 67) hx hb dX0_canStretch_55 (by decide) (fun c15 => ?_) (fun c15 => ?_)
          · have hq := q_if_t hq c15
            refine lv_iload hx hb dX0_canStretch_67 (lv_at hl 0 rfl) ?_
            refine lv_istore (lv' := [(4, .int r9), (7, .int r9), (6, .int r7), (0, .ref h1), (1, .int v1), (2, .int v2), (3, .int v3), (5, .int v5)]) hx hb dX0_canStretch_69 hl (by decide) rfl (fun ls hl => ?_)
            obtain ⟨x16, ex16⟩ : ∃ y : Int32, y = (v5 : Int32) + 1 := ⟨_, rfl⟩
            have hq := q_let hq ex16
            refine lv_iinc (v := x16) (lv' := [(5, .int x16), (4, .int r9), (7, .int r9), (6, .int r7), (0, .ref h1), (1, .int v1), (2, .int v2), (3, .int v3)]) hx hb dX0_canStretch_71 hl (k := 7) rfl (by rw [ex16]; rfl) (by decide) rfl (fun ls hl => ?_)
            refine lv_goto (tgt := 6) hx hb dX0_canStretch_74 (by decide) ?_
            exact ih r9 x16 hq ls (lv_sub hl [4, 5, 6, 7, 1, 0] rfl)
          · have hq := q_if_f hq c15
            refine lv_iload hx hb dX0_canStretch_58 (lv_at hl 0 rfl) ?_
            refine lv_iload hx hb dX0_canStretch_60 (lv_at hl 1 rfl) ?_
            refine lv_icmp_eq (tgt := 67) hx hb dX0_canStretch_62 (by decide) (fun c17 => ?_) (fun c17 => ?_)
            · have hq := q_if_t hq c17
              refine lv_iload hx hb dX0_canStretch_67 (lv_at hl 0 rfl) ?_
              refine lv_istore (lv' := [(4, .int r9), (7, .int r9), (6, .int r7), (0, .ref h1), (1, .int v1), (2, .int v2), (3, .int v3), (5, .int v5)]) hx hb dX0_canStretch_69 hl (by decide) rfl (fun ls hl => ?_)
              obtain ⟨x18, ex18⟩ : ∃ y : Int32, y = (v5 : Int32) + 1 := ⟨_, rfl⟩
              have hq := q_let hq ex18
              refine lv_iinc (v := x18) (lv' := [(5, .int x18), (4, .int r9), (7, .int r9), (6, .int r7), (0, .ref h1), (1, .int v1), (2, .int v2), (3, .int v3)]) hx hb dX0_canStretch_71 hl (k := 7) rfl (by rw [ex18]; rfl) (by decide) rfl (fun ls hl => ?_)
              refine lv_goto (tgt := 6) hx hb dX0_canStretch_74 (by decide) ?_
              exact ih r9 x18 hq ls (lv_sub hl [4, 5, 6, 7, 1, 0] rfl)
            · have hq := q_if_f hq c17
              refine lv_iconst (v := 0) hx hb dX0_canStretch_65 (by decide) ?_
              obtain rfl := q_rt hq
              exact ro_zret hx hb hr nz_0 hk dX0_canStretch_66
def F_X0_canStretch (cn : Int32) (cf : Nat → Int32) (p1 : Int32) (p2 : Int32) (p3 : Int32) : Option (Int32) := F_X0_canStretch_6 cn cf p1 p2 p3 2000 (-1) 0
set_option maxHeartbeats 4000000 in
set_option maxRecDepth 100000 in
theorem k_X0_canStretch (l : Launch) (G : va_G) (g : Nat → ClassId) (h1 a1 : Nat) (cn : Int32) (cf : Nat → Int32) (p1 : Int32) (p2 : Int32) (p3 : Int32) (res : Int32) (hq : F_X0_canStretch cn cf p1 p2 p3 = some res) : roC l yX0_canStretch wsX0_canStretch (rmF 2 43) G g [.ref h1, .int p1, .int p2, .int p3] [(h1, .inr (0, [.int cn, .ref a1])), (a1, .inl (g 0, 96, .inl cf))] (some (.int res)) := by
  refine roC.of (cc := cX0_canStretch) (maxL := 8) (ret := (some .boolean)) (by decide) rfl (Nat.le_of_ble_eq_true rfl) ?_
  intro p e s m below meth c ls X K hP hl
  obtain ⟨hx, hb, hml, hr, hown, hts, hk⟩ := id X
  have hl : lv_has ls 8 [(0, .ref h1), (1, .int p1), (2, .int p2), (3, .int p3)] := hl
  unfold F_X0_canStretch at hq
  refine lv_iconst (v := (-1)) hx hb dX0_canStretch_0 (by decide) ?_
  refine lv_istore (lv' := [(4, .int (-1)), (0, .ref h1), (1, .int p1), (2, .int p2), (3, .int p3)]) hx hb dX0_canStretch_1 hl (by decide) rfl (fun ls hl => ?_)
  refine lv_iconst (v := 0) hx hb dX0_canStretch_3 (by decide) ?_
  refine lv_istore (lv' := [(5, .int 0), (4, .int (-1)), (0, .ref h1), (1, .int p1), (2, .int p2), (3, .int p3)]) hx hb dX0_canStretch_4 hl (by decide) rfl (fun ls hl => ?_)
  exact w_X0_canStretch_6 X K h1 a1 cn cf p1 p2 p3 hP _ 2000 (-1) 0 hq ls (lv_sub hl [2, 3, 4, 5, 1, 0] rfl)
theorem in_X0_stretchSpan_X0 : ∀ w ∈ wsX00, w ∈ wsX0_stretchSpan := fun _ h => List.mem_cons_of_mem _ (List.mem_append_right _ h)
def F_X0_stretchSpan_6 (cn : Int32) (v1 : Int32) (v2 : Int32) (v3 : Int32) : Nat → (Nat → Int32) → Int32 → Int32 → Option (Int32 × (Nat → Int32))
  | 0, _, _, _ => none
  | n + 1, cf, v4, v5 => if cn ≤ v5 then (some (v4, cf)) else ((F_X0_cell cn cf v5 0).bind fun r7 => (F_X0_stretchedFrame r7 v1 v2 v3).bind fun r9 => if r9 = r7 then ((F_X0_put cn cf v5 0 r9).bind fun y12 => vlet ((v5 : Int32) + 1) fun x14 => F_X0_stretchSpan_6 cn v1 v2 v3 n y12 v4 x14) else (vlet ((v4 : Int32) + 1) fun x15 => (F_X0_put cn cf v5 0 r9).bind fun y16 => vlet ((v5 : Int32) + 1) fun x18 => F_X0_stretchSpan_6 cn v1 v2 v3 n y16 x15 x18))
set_option maxHeartbeats 4000000 in
set_option maxRecDepth 100000 in
theorem w_X0_stretchSpan_6 {p : Program} {l : Launch} {e : Env} {s : State} {m : MethodId} {args : Array Value} {below : List Frame} {meth : Method} {c : Code} {G : va_G} {g : Nat → ClassId} (X : cx p s m args meth c cX0_stretchSpan 8 (some .int) RX0 wsX0_stretchSpan) (K : amb G g s) {A : Nat → Prop} (hA : ∀ q : Nat, s.heap.size ≤ q → A q) (h1 a1 : Nat) (cn : Int32) (v1 : Int32) (v2 : Int32) (v3 : Int32) (res : Int32 × (Nat → Int32)) : ∀ (n : Nat) (cf : Nat → Int32) (v4 : Int32) (v5 : Int32), F_X0_stretchSpan_6 cn v1 v2 v3 n cf v4 v5 = some res → ∀ (H : Heap) (locs : List Loc), va_P G vwCl [(h1, .inr (0, [.int cn, .ref a1])), (a1, .inl (g 0, 96, .inl cf))] H → va_D A [(h1, .inr (0, [.int cn, .ref a1])), (a1, .inl (g 0, 96, .inl cf))] → va_S A s.heap H locs → ∀ (ls : Array Slot), lv_has ls 8 [(0, .ref h1), (1, .int v1), (2, .int v2), (3, .int v3), (4, .int v4), (5, .int v5)] → W p l e (rmF 1 23) s m args below meth c H locs 0 0 (rwM G A below (some (.int res.1)) [(h1, .inr (0, [.int cn, .ref a1])), (a1, .inl (g 0, 96, .inl res.2))] args s) (F0 m 6 ls []) := by
  obtain ⟨hx, hb, hml, hr, hown, hts, hk⟩ := id X
  intro n
  induction n with
  | zero => intro cf v4 v5 hq; exact q_no hq
  | succ n ih =>
    intro cf v4 v5 hq H locs hP hD hS ls hl
    rw [F_X0_stretchSpan_6] at hq
    refine lv_iload hx hb dX0_stretchSpan_6 (lv_at hl 5 rfl) ?_
    refine lv_aload_n hx hb dX0_stretchSpan_8 rfl (lv_at hl 0 rfl) ?_
    refine va_get (D := G) (ci := 0) (v := .int cn) (C := RX0) (T := TX0) (N := 2) hx hb hts in_X0_stretchSpan_X0 hown K.1 hP 0 rfl rfl 0 (by decide) (hts _ (List.mem_of_getElem? (i := 1) rfl)) (fun _ h9 => h9) rfl dX0_stretchSpan_9 ?_
    refine lv_icmp_ge (tgt := 59) hx hb dX0_stretchSpan_12 (by decide) (fun c6 => ?_) (fun c6 => ?_)
    · have hq := q_if_t hq c6
      refine lv_iload hx hb dX0_stretchSpan_59 (lv_at hl 4 rfl) ?_
      obtain rfl := q_rt hq
      exact rw_iret hx hb hr hk hP hD hS dX0_stretchSpan_61
    · have hq := q_if_f hq c6
      refine lv_aload_n hx hb dX0_stretchSpan_15 rfl (lv_at hl 0 rfl) ?_
      refine lv_iload hx hb dX0_stretchSpan_16 (lv_at hl 5 rfl) ?_
      refine lv_iconst (v := 0) hx hb dX0_stretchSpan_18 (by decide) ?_
      obtain ⟨r7, hh8, hq⟩ := q_bd hq
      refine roV (ci := 0) (As := [.int v5, .int 0]) (rest := []) X K (k_X0_cell l G g h1 a1 cn cf v5 0 _ hh8) hd_X0_cell gX0_stretchSpan_X0_cell hP hl.1 dX0_stretchSpan_19 rfl rfl ⟨Nat.le_of_ble_eq_true rfl, Nat.le_of_ble_eq_true rfl⟩ rfl rfl rfl (Nat.le_of_ble_eq_true rfl) ⟨Nat.zero_le _, Nat.zero_le _⟩ ?_
      refine lv_istore (lv' := [(6, .int r7), (0, .ref h1), (1, .int v1), (2, .int v2), (3, .int v3), (4, .int v4), (5, .int v5)]) hx hb dX0_stretchSpan_22 hl (by decide) rfl (fun ls hl => ?_)
      refine lv_iload hx hb dX0_stretchSpan_24 (lv_at hl 0 rfl) ?_
      refine lv_iload_n hx hb dX0_stretchSpan_26 rfl (lv_at hl 2 rfl) ?_
      refine lv_iload_n hx hb dX0_stretchSpan_27 rfl (lv_at hl 3 rfl) ?_
      refine lv_iload_n hx hb dX0_stretchSpan_28 rfl (lv_at hl 4 rfl) ?_
      obtain ⟨r9, hh10, hq⟩ := q_bd hq
      refine roS (As := [.int r7, .int v1, .int v2, .int v3]) (rest := []) X K (k_X0_stretchedFrame l G g r7 v1 v2 v3 _ hh10) hd_X0_stretchedFrame gX0_stretchSpan_X0_stretchedFrame (hP.sub [] rfl) hl.1 dX0_stretchSpan_29 rfl rfl ⟨Nat.le_of_ble_eq_true rfl, Nat.le_of_ble_eq_true rfl⟩ rfl (Nat.le_of_ble_eq_true rfl) ⟨Nat.zero_le _, Nat.zero_le _⟩ ?_
      refine lv_istore (lv' := [(7, .int r9), (6, .int r7), (0, .ref h1), (1, .int v1), (2, .int v2), (3, .int v3), (4, .int v4), (5, .int v5)]) hx hb dX0_stretchSpan_32 hl (by decide) rfl (fun ls hl => ?_)
      refine lv_iload hx hb dX0_stretchSpan_34 (lv_at hl 0 rfl) ?_
      refine lv_iload hx hb dX0_stretchSpan_36 (lv_at hl 1 rfl) ?_
      refine lv_icmp_eq (tgt := 44) hx hb dX0_stretchSpan_38 (by decide) (fun c11 => ?_) (fun c11 => ?_)
      · have hq := q_if_t hq c11
        refine lv_aload_n hx hb dX0_stretchSpan_44 rfl (lv_at hl 2 rfl) ?_
        refine lv_iload hx hb dX0_stretchSpan_45 (lv_at hl 7 rfl) ?_
        refine lv_iconst (v := 0) hx hb dX0_stretchSpan_47 (by decide) ?_
        refine lv_iload hx hb dX0_stretchSpan_48 (lv_at hl 0 rfl) ?_
        obtain ⟨y12, hh13, hq⟩ := q_bd hq
        refine rwV (ci := 0) (wr := []) (As := [.int v5, .int 0, .int r9]) (rest := []) X K (k_X0_put l G g h1 a1 cn cf v5 0 r9 _ hh13) hd_X0_put gX0_stretchSpan_X0_put hP hD hS hA [0, 1] [] rfl rfl ⟨by decide, by decide, by decide⟩ hl.1 dX0_stretchSpan_50 rfl rfl ⟨Nat.le_of_ble_eq_true rfl, Nat.le_of_ble_eq_true rfl⟩ rfl rfl rfl (Nat.le_of_ble_eq_true rfl) ⟨Nat.zero_le _, Nat.zero_le _⟩ (fun H locs hP hD hS => ?_)
        have hP : va_P G vwCl [(h1, .inr (0, [.int cn, .ref a1])), (a1, .inl (g 0, 96, .inl y12))] H := hP
        have hD : va_D A [(h1, .inr (0, [.int cn, .ref a1])), (a1, .inl (g 0, 96, .inl y12))] := hD
        obtain ⟨x14, ex14⟩ : ∃ y : Int32, y = (v5 : Int32) + 1 := ⟨_, rfl⟩
        have hq := q_let hq ex14
        refine lv_iinc (v := x14) (lv' := [(5, .int x14), (7, .int r9), (6, .int r7), (0, .ref h1), (1, .int v1), (2, .int v2), (3, .int v3), (4, .int v4)]) hx hb dX0_stretchSpan_53 hl (k := 7) rfl (by rw [ex14]; rfl) (by decide) rfl (fun ls hl => ?_)
        refine lv_goto (tgt := 6) hx hb dX0_stretchSpan_56 (by decide) ?_
        exact ih y12 v4 x14 hq _ _ hP hD hS ls (lv_sub hl [3, 4, 5, 6, 7, 0] rfl)
      · have hq := q_if_f hq c11
        obtain ⟨x15, ex15⟩ : ∃ y : Int32, y = (v4 : Int32) + 1 := ⟨_, rfl⟩
        have hq := q_let hq ex15
        refine lv_iinc (v := x15) (lv' := [(4, .int x15), (7, .int r9), (6, .int r7), (0, .ref h1), (1, .int v1), (2, .int v2), (3, .int v3), (5, .int v5)]) hx hb dX0_stretchSpan_41 hl (k := 6) rfl (by rw [ex15]; rfl) (by decide) rfl (fun ls hl => ?_)
        refine lv_aload_n hx hb dX0_stretchSpan_44 rfl (lv_at hl 3 rfl) ?_
        refine lv_iload hx hb dX0_stretchSpan_45 (lv_at hl 7 rfl) ?_
        refine lv_iconst (v := 0) hx hb dX0_stretchSpan_47 (by decide) ?_
        refine lv_iload hx hb dX0_stretchSpan_48 (lv_at hl 1 rfl) ?_
        obtain ⟨y16, hh17, hq⟩ := q_bd hq
        refine rwV (ci := 0) (wr := []) (As := [.int v5, .int 0, .int r9]) (rest := []) X K (k_X0_put l G g h1 a1 cn cf v5 0 r9 _ hh17) hd_X0_put gX0_stretchSpan_X0_put hP hD hS hA [0, 1] [] rfl rfl ⟨by decide, by decide, by decide⟩ hl.1 dX0_stretchSpan_50 rfl rfl ⟨Nat.le_of_ble_eq_true rfl, Nat.le_of_ble_eq_true rfl⟩ rfl rfl rfl (Nat.le_of_ble_eq_true rfl) ⟨Nat.zero_le _, Nat.zero_le _⟩ (fun H locs hP hD hS => ?_)
        have hP : va_P G vwCl [(h1, .inr (0, [.int cn, .ref a1])), (a1, .inl (g 0, 96, .inl y16))] H := hP
        have hD : va_D A [(h1, .inr (0, [.int cn, .ref a1])), (a1, .inl (g 0, 96, .inl y16))] := hD
        obtain ⟨x18, ex18⟩ : ∃ y : Int32, y = (v5 : Int32) + 1 := ⟨_, rfl⟩
        have hq := q_let hq ex18
        refine lv_iinc (v := x18) (lv' := [(5, .int x18), (4, .int x15), (7, .int r9), (6, .int r7), (0, .ref h1), (1, .int v1), (2, .int v2), (3, .int v3)]) hx hb dX0_stretchSpan_53 hl (k := 7) rfl (by rw [ex18]; rfl) (by decide) rfl (fun ls hl => ?_)
        refine lv_goto (tgt := 6) hx hb dX0_stretchSpan_56 (by decide) ?_
        exact ih y16 x15 x18 hq _ _ hP hD hS ls (lv_sub hl [4, 5, 6, 7, 1, 0] rfl)
def F_X0_stretchSpan (cn : Int32) (cf : Nat → Int32) (p1 : Int32) (p2 : Int32) (p3 : Int32) : Option (Int32 × (Nat → Int32)) := F_X0_stretchSpan_6 cn p1 p2 p3 2000 cf 0 0
set_option maxHeartbeats 4000000 in
set_option maxRecDepth 100000 in
theorem k_X0_stretchSpan (l : Launch) (G : va_G) (g : Nat → ClassId) (h1 a1 : Nat) (cn : Int32) (cf : Nat → Int32) (p1 : Int32) (p2 : Int32) (p3 : Int32) (res : Int32 × (Nat → Int32)) (hq : F_X0_stretchSpan cn cf p1 p2 p3 = some res) : rwC l yX0_stretchSpan wsX0_stretchSpan (rmF 1 23) G g [.ref h1, .int p1, .int p2, .int p3] [(h1, .inr (0, [.int cn, .ref a1])), (a1, .inl (g 0, 96, .inl cf))] (some (.int res.1)) [(h1, .inr (0, [.int cn, .ref a1])), (a1, .inl (g 0, 96, .inl res.2))] := by
  refine rwC.of (cc := cX0_stretchSpan) (maxL := 8) (ret := (some .int)) (by decide) rfl (Nat.le_of_ble_eq_true rfl) ?_
  intro p e s m below meth c ls A X K hA hP hD hS hl
  obtain ⟨hx, hb, hml, hr, hown, hts, hk⟩ := id X
  have hl : lv_has ls 8 [(0, .ref h1), (1, .int p1), (2, .int p2), (3, .int p3)] := hl
  unfold F_X0_stretchSpan at hq
  refine lv_iconst (v := 0) hx hb dX0_stretchSpan_0 (by decide) ?_
  refine lv_istore (lv' := [(4, .int 0), (0, .ref h1), (1, .int p1), (2, .int p2), (3, .int p3)]) hx hb dX0_stretchSpan_1 hl (by decide) rfl (fun ls hl => ?_)
  refine lv_iconst (v := 0) hx hb dX0_stretchSpan_3 (by decide) ?_
  refine lv_istore (lv' := [(5, .int 0), (4, .int 0), (0, .ref h1), (1, .int p1), (2, .int p2), (3, .int p3)]) hx hb dX0_stretchSpan_4 hl (by decide) rfl (fun ls hl => ?_)
  exact w_X0_stretchSpan_6 X K hA h1 a1 cn p1 p2 p3 _ 2000 cf 0 0 hq _ _ hP hD hS ls (lv_sub hl [2, 3, 4, 5, 1, 0] rfl)
def F_X0_isTurn_10 (v1 : Int32) (v2 : Int32) (v3 : Int32) : Option (Int32) := if v1 < v2 then (some (0)) else (if v3 < v2 then (some (0)) else (some (1)))
set_option maxHeartbeats 4000000 in
set_option maxRecDepth 100000 in
theorem w_X0_isTurn_10 {p : Program} {l : Launch} {e : Env} {s : State} {m : MethodId} {args : Array Value} {below : List Frame} {meth : Method} {c : Code} {G : va_G} {g : Nat → ClassId} (X : cx p s m args meth c cX0_isTurn 3 (some .boolean) RX0 wsX0_isTurn) (K : amb G g s) (v1 : Int32) (v2 : Int32) (v3 : Int32) (hP : va_P G vwCl [] s.heap) (res : Int32) (hq : F_X0_isTurn_10 v1 v2 v3 = some res) : ∀ (ls : Array Slot), lv_has ls 3 [(0, .int v1), (1, .int v2), (2, .int v3)] → W p l e (rmF 0 0) s m args below meth c s.heap [] 0 0 (roM below (some (.int res)) args s) (F0 m 10 ls []) := by
  obtain ⟨hx, hb, hml, hr, hown, hts, hk⟩ := id X
  intro ls hl
  unfold F_X0_isTurn_10 at hq
  refine lv_iload_n hx hb dX0_isTurn_10 rfl (lv_at hl 0 rfl) ?_
  refine lv_iload_n hx hb dX0_isTurn_11 rfl (lv_at hl 1 rfl) ?_
  refine lv_icmp_lt (tgt := 24) hx hb dX0_isTurn_12 (by decide) (fun c4 => ?_) (fun c4 => ?_)
  · have hq := q_if_t hq c4
    refine lv_iconst (v := 0) hx hb dX0_isTurn_24 (by decide) ?_
    obtain rfl := q_rt hq
    exact ro_zret hx hb hr nz_0 hk dX0_isTurn_25
  · have hq := q_if_f hq c4
    refine lv_iload_n hx hb dX0_isTurn_15 rfl (lv_at hl 2 rfl) ?_
    refine lv_iload_n hx hb dX0_isTurn_16 rfl (lv_at hl 1 rfl) ?_
    refine lv_icmp_lt (tgt := 24) hx hb dX0_isTurn_17 (by decide) (fun c5 => ?_) (fun c5 => ?_)
    · have hq := q_if_t hq c5
      refine lv_iconst (v := 0) hx hb dX0_isTurn_24 (by decide) ?_
      obtain rfl := q_rt hq
      exact ro_zret hx hb hr nz_0 hk dX0_isTurn_25
    · have hq := q_if_f hq c5
      refine lv_iconst (v := 1) hx hb dX0_isTurn_20 (by decide) ?_
      refine lv_goto (tgt := 25) hx hb dX0_isTurn_21 (by decide) ?_
      obtain rfl := q_rt hq
      exact ro_zret hx hb hr nz_1 hk dX0_isTurn_25
def F_X0_isTurn (p1 : Int32) (p2 : Int32) (p3 : Int32) : Option (Int32) := if p2 < p1 then (F_X0_isTurn_10 p1 p2 p3) else (if p3 ≤ p2 then (some (1)) else (F_X0_isTurn_10 p1 p2 p3))
set_option maxHeartbeats 4000000 in
set_option maxRecDepth 100000 in
theorem k_X0_isTurn (l : Launch) (G : va_G) (g : Nat → ClassId) (p1 : Int32) (p2 : Int32) (p3 : Int32) (res : Int32) (hq : F_X0_isTurn p1 p2 p3 = some res) : roC l yX0_isTurn wsX0_isTurn (rmF 0 0) G g [.int p1, .int p2, .int p3] [] (some (.int res)) := by
  refine roC.of (cc := cX0_isTurn) (maxL := 3) (ret := (some .boolean)) (by decide) rfl (Nat.le_of_ble_eq_true rfl) ?_
  intro p e s m below meth c ls X K hP hl
  obtain ⟨hx, hb, hml, hr, hown, hts, hk⟩ := id X
  have hl : lv_has ls 3 [(0, .int p1), (1, .int p2), (2, .int p3)] := hl
  unfold F_X0_isTurn at hq
  refine lv_iload_n hx hb dX0_isTurn_0 rfl (lv_at hl 0 rfl) ?_
  refine lv_iload_n hx hb dX0_isTurn_1 rfl (lv_at hl 1 rfl) ?_
  refine lv_icmp_gt (tgt := 10) hx hb dX0_isTurn_2 (by decide) (fun c1 => ?_) (fun c1 => ?_)
  · have hq := q_if_t hq c1
    exact w_X0_isTurn_10 X K p1 p2 p3 hP _ hq ls (lv_sub hl [0, 1, 2] rfl)
  · have hq := q_if_f hq c1
    refine lv_iload_n hx hb dX0_isTurn_5 rfl (lv_at hl 2 rfl) ?_
    refine lv_iload_n hx hb dX0_isTurn_6 rfl (lv_at hl 1 rfl) ?_
    refine lv_icmp_le (tgt := 20) hx hb dX0_isTurn_7 (by decide) (fun c2 => ?_) (fun c2 => ?_)
    · have hq := q_if_t hq c2
      refine lv_iconst (v := 1) hx hb dX0_isTurn_20 (by decide) ?_
      refine lv_goto (tgt := 25) hx hb dX0_isTurn_21 (by decide) ?_
      obtain rfl := q_rt hq
      exact ro_zret hx hb hr nz_1 hk dX0_isTurn_25
    · have hq := q_if_f hq c2
      exact w_X0_isTurn_10 X K p1 p2 p3 hP _ hq ls (lv_sub hl [0, 1, 2] rfl)
theorem hd_X0_isTurn : ynm yX0_isTurn 3 := by unfold ynm; decide +kernel
theorem in_X0_tangentOf_X0 : ∀ w ∈ wsX00, w ∈ wsX0_tangentOf := fun _ h => List.mem_cons_of_mem _ (List.mem_append_right _ h)
def F_X0_tangentOf (cn : Int32) (cf : Nat → Int32) (p1 : Int32) : Option (Int32) := (F_X0_cell cn cf p1 3).bind fun r1 => if r1 = 0 then ((F_X0_cell cn cf p1 4).bind fun r24 => some (r24)) else ((F_X0_cell cn cf (p1 + 1) 0).bind fun r4 => (F_X0_cell cn cf (p1 - 1) 0).bind fun r6 => vlet (r4 - r6) fun x8 => if p1 ≤ 0 then (some (0)) else (if (cn - 1) ≤ p1 then (some (0)) else (if (0 : Int32) < x8 then ((F_X0_cell cn cf (p1 - 1) 1).bind fun r12 => (F_X0_cell cn cf (p1 + 1) 1).bind fun r14 => if r1 = 2 then ((F_X0_cell cn cf p1 1).bind fun r18 => (F_X0_isTurn r12 r18 r14).bind fun r20 => if r20 = 0 then (vgd (¬ x8 = 0) <| some (((1000 : Int32) * (r14 - r12)) / x8)) else (some (0))) else (vgd (¬ x8 = 0) <| some (((1000 : Int32) * (r14 - r12)) / x8))) else (some (0)))))
set_option maxHeartbeats 4000000 in
set_option maxRecDepth 100000 in
theorem k_X0_tangentOf (l : Launch) (G : va_G) (g : Nat → ClassId) (h1 a1 : Nat) (cn : Int32) (cf : Nat → Int32) (p1 : Int32) (res : Int32) (hq : F_X0_tangentOf cn cf p1 = some res) : roC l yX0_tangentOf wsX0_tangentOf (rmF 1 22) G g [.ref h1, .int p1] [(h1, .inr (0, [.int cn, .ref a1])), (a1, .inl (g 0, 96, .inl cf))] (some (.int res)) := by
  refine roC.of (cc := cX0_tangentOf) (maxL := 6) (ret := (some .int)) (by decide) rfl (Nat.le_of_ble_eq_true rfl) ?_
  intro p e s m below meth c ls X K hP hl
  obtain ⟨hx, hb, hml, hr, hown, hts, hk⟩ := id X
  have hl : lv_has ls 6 [(0, .ref h1), (1, .int p1)] := hl
  unfold F_X0_tangentOf at hq
  refine lv_aload_n hx hb dX0_tangentOf_0 rfl (lv_at hl 0 rfl) ?_
  refine lv_iload_n hx hb dX0_tangentOf_1 rfl (lv_at hl 1 rfl) ?_
  refine lv_iconst (v := 3) hx hb dX0_tangentOf_2 (by decide) ?_
  obtain ⟨r1, hh2, hq⟩ := q_bd hq
  refine roV (ci := 0) (As := [.int p1, .int 3]) (rest := []) X K (k_X0_cell l G g h1 a1 cn cf p1 3 _ hh2) hd_X0_cell gX0_tangentOf_X0_cell hP hl.1 dX0_tangentOf_3 rfl rfl ⟨Nat.le_of_ble_eq_true rfl, Nat.le_of_ble_eq_true rfl⟩ rfl rfl rfl (Nat.le_of_ble_eq_true rfl) ⟨Nat.zero_le _, Nat.zero_le _⟩ ?_
  refine lv_istore_n (lv' := [(2, .int r1), (0, .ref h1), (1, .int p1)]) hx hb dX0_tangentOf_6 rfl hl (by decide) rfl (fun ls hl => ?_)
  refine lv_iload_n hx hb dX0_tangentOf_7 rfl (lv_at hl 0 rfl) ?_
  refine lv_if_ne (tgt := 18) hx hb dX0_tangentOf_8 (by decide) (fun c3 => ?_) (fun c3 => ?_)
  · have hq := q_if_f hq c3
    refine lv_aload_n hx hb dX0_tangentOf_18 rfl (lv_at hl 1 rfl) ?_
    refine lv_iload_n hx hb dX0_tangentOf_19 rfl (lv_at hl 2 rfl) ?_
    refine lv_iconst (v := 1) hx hb dX0_tangentOf_20 (by decide) ?_
    refine lv_iadd hx hb dX0_tangentOf_21 ?_
    refine lv_iconst (v := 0) hx hb dX0_tangentOf_22 (by decide) ?_
    obtain ⟨r4, hh5, hq⟩ := q_bd hq
    refine roV (ci := 0) (As := [.int (p1 + 1), .int 0]) (rest := []) X K (k_X0_cell l G g h1 a1 cn cf (p1 + 1) 0 _ hh5) hd_X0_cell gX0_tangentOf_X0_cell hP hl.1 dX0_tangentOf_23 rfl rfl ⟨Nat.le_of_ble_eq_true rfl, Nat.le_of_ble_eq_true rfl⟩ rfl rfl rfl (Nat.le_of_ble_eq_true rfl) ⟨Nat.zero_le _, Nat.zero_le _⟩ ?_
    refine lv_aload_n hx hb dX0_tangentOf_26 rfl (lv_at hl 1 rfl) ?_
    refine lv_iload_n hx hb dX0_tangentOf_27 rfl (lv_at hl 2 rfl) ?_
    refine lv_iconst (v := 1) hx hb dX0_tangentOf_28 (by decide) ?_
    refine lv_isub hx hb dX0_tangentOf_29 ?_
    refine lv_iconst (v := 0) hx hb dX0_tangentOf_30 (by decide) ?_
    obtain ⟨r6, hh7, hq⟩ := q_bd hq
    refine roV (ci := 0) (As := [.int (p1 - 1), .int 0]) (rest := [.int r4]) X K (k_X0_cell l G g h1 a1 cn cf (p1 - 1) 0 _ hh7) hd_X0_cell gX0_tangentOf_X0_cell hP hl.1 dX0_tangentOf_31 rfl rfl ⟨Nat.le_of_ble_eq_true rfl, Nat.le_of_ble_eq_true rfl⟩ rfl rfl rfl (Nat.le_of_ble_eq_true rfl) ⟨Nat.zero_le _, Nat.zero_le _⟩ ?_
    refine lv_isub hx hb dX0_tangentOf_34 ?_
    refine lv_topi (fun x8 ex8 => ?_)
    have hq := q_let hq ex8
    refine lv_istore_n (lv' := [(3, .int x8), (2, .int r1), (0, .ref h1), (1, .int p1)]) hx hb dX0_tangentOf_35 rfl hl (by decide) rfl (fun ls hl => ?_)
    refine lv_iload_n hx hb dX0_tangentOf_36 rfl (lv_at hl 3 rfl) ?_
    refine lv_if_le (tgt := 54) hx hb dX0_tangentOf_37 (by decide) (fun c9 => ?_) (fun c9 => ?_)
    · have hq := q_if_t hq c9
      refine lv_iconst (v := 0) hx hb dX0_tangentOf_54 (by decide) ?_
      obtain rfl := q_rt hq
      exact ro_iret hx hb hr hk dX0_tangentOf_55
    · have hq := q_if_f hq c9
      refine lv_iload_n hx hb dX0_tangentOf_40 rfl (lv_at hl 3 rfl) ?_
      refine lv_aload_n hx hb dX0_tangentOf_41 rfl (lv_at hl 2 rfl) ?_
      refine va_get (D := G) (ci := 0) (v := .int cn) (C := RX0) (T := TX0) (N := 2) hx hb hts in_X0_tangentOf_X0 hown K.1 hP 0 rfl rfl 0 (by decide) (hts _ (List.mem_of_getElem? (i := 1) rfl)) (fun _ h9 => h9) rfl dX0_tangentOf_42 ?_
      refine lv_iconst (v := 1) hx hb dX0_tangentOf_45 (by decide) ?_
      refine lv_isub hx hb dX0_tangentOf_46 ?_
      refine lv_icmp_ge (tgt := 54) hx hb dX0_tangentOf_47 (by decide) (fun c10 => ?_) (fun c10 => ?_)
      · have hq := q_if_t hq c10
        refine lv_iconst (v := 0) hx hb dX0_tangentOf_54 (by decide) ?_
        obtain rfl := q_rt hq
        exact ro_iret hx hb hr hk dX0_tangentOf_55
      · have hq := q_if_f hq c10
        refine lv_iload_n hx hb dX0_tangentOf_50 rfl (lv_at hl 0 rfl) ?_
        refine lv_if_gt (tgt := 56) hx hb dX0_tangentOf_51 (by decide) (fun c11 => ?_) (fun c11 => ?_)
        · have hq := q_if_t hq c11
          refine lv_aload_n hx hb dX0_tangentOf_56 rfl (lv_at hl 2 rfl) ?_
          refine lv_iload_n hx hb dX0_tangentOf_57 rfl (lv_at hl 3 rfl) ?_
          refine lv_iconst (v := 1) hx hb dX0_tangentOf_58 (by decide) ?_
          refine lv_isub hx hb dX0_tangentOf_59 ?_
          refine lv_iconst (v := 1) hx hb dX0_tangentOf_60 (by decide) ?_
          obtain ⟨r12, hh13, hq⟩ := q_bd hq
          refine roV (ci := 0) (As := [.int (p1 - 1), .int 1]) (rest := []) X K (k_X0_cell l G g h1 a1 cn cf (p1 - 1) 1 _ hh13) hd_X0_cell gX0_tangentOf_X0_cell hP hl.1 dX0_tangentOf_61 rfl rfl ⟨Nat.le_of_ble_eq_true rfl, Nat.le_of_ble_eq_true rfl⟩ rfl rfl rfl (Nat.le_of_ble_eq_true rfl) ⟨Nat.zero_le _, Nat.zero_le _⟩ ?_
          refine lv_istore (lv' := [(4, .int r12), (3, .int x8), (2, .int r1), (0, .ref h1), (1, .int p1)]) hx hb dX0_tangentOf_64 hl (by decide) rfl (fun ls hl => ?_)
          refine lv_aload_n hx hb dX0_tangentOf_66 rfl (lv_at hl 3 rfl) ?_
          refine lv_iload_n hx hb dX0_tangentOf_67 rfl (lv_at hl 4 rfl) ?_
          refine lv_iconst (v := 1) hx hb dX0_tangentOf_68 (by decide) ?_
          refine lv_iadd hx hb dX0_tangentOf_69 ?_
          refine lv_iconst (v := 1) hx hb dX0_tangentOf_70 (by decide) ?_
          obtain ⟨r14, hh15, hq⟩ := q_bd hq
          refine roV (ci := 0) (As := [.int (p1 + 1), .int 1]) (rest := []) X K (k_X0_cell l G g h1 a1 cn cf (p1 + 1) 1 _ hh15) hd_X0_cell gX0_tangentOf_X0_cell hP hl.1 dX0_tangentOf_71 rfl rfl ⟨Nat.le_of_ble_eq_true rfl, Nat.le_of_ble_eq_true rfl⟩ rfl rfl rfl (Nat.le_of_ble_eq_true rfl) ⟨Nat.zero_le _, Nat.zero_le _⟩ ?_
          refine lv_istore (lv' := [(5, .int r14), (4, .int r12), (3, .int x8), (2, .int r1), (0, .ref h1), (1, .int p1)]) hx hb dX0_tangentOf_74 hl (by decide) rfl (fun ls hl => ?_)
          refine lv_iload_n hx hb dX0_tangentOf_76 rfl (lv_at hl 3 rfl) ?_
          refine lv_iconst (v := 2) hx hb dX0_tangentOf_77 (by decide) ?_
          refine lv_icmp_ne (tgt := 99) hx hb dX0_tangentOf_78 (by decide) (fun c16 => ?_) (fun c16 => ?_)
          · have hq := q_if_f hq c16
            refine lv_sipush (v := 1000) hx hb dX0_tangentOf_99 (by decide) ?_
            refine lv_iload hx hb dX0_tangentOf_102 (lv_at hl 0 rfl) ?_
            refine lv_iload hx hb dX0_tangentOf_104 (lv_at hl 1 rfl) ?_
            refine lv_isub hx hb dX0_tangentOf_106 ?_
            refine lv_imul hx hb dX0_tangentOf_107 ?_
            refine lv_iload_n hx hb dX0_tangentOf_108 rfl (lv_at hl 2 rfl) ?_
            obtain ⟨hh17, hq⟩ := q_gd hq
            refine lv_idiv hx hb dX0_tangentOf_109 hh17 ?_
            obtain rfl := q_rt hq
            exact ro_iret hx hb hr hk dX0_tangentOf_110
          · have hq := q_if_t hq c16
            refine lv_iload hx hb dX0_tangentOf_81 (lv_at hl 1 rfl) ?_
            refine lv_aload_n hx hb dX0_tangentOf_83 rfl (lv_at hl 4 rfl) ?_
            refine lv_iload_n hx hb dX0_tangentOf_84 rfl (lv_at hl 5 rfl) ?_
            refine lv_iconst (v := 1) hx hb dX0_tangentOf_85 (by decide) ?_
            obtain ⟨r18, hh19, hq⟩ := q_bd hq
            refine roV (ci := 0) (As := [.int p1, .int 1]) (rest := [.int r12]) X K (k_X0_cell l G g h1 a1 cn cf p1 1 _ hh19) hd_X0_cell gX0_tangentOf_X0_cell hP hl.1 dX0_tangentOf_86 rfl rfl ⟨Nat.le_of_ble_eq_true rfl, Nat.le_of_ble_eq_true rfl⟩ rfl rfl rfl (Nat.le_of_ble_eq_true rfl) ⟨Nat.zero_le _, Nat.zero_le _⟩ ?_
            refine lv_iload hx hb dX0_tangentOf_89 (lv_at hl 0 rfl) ?_
            obtain ⟨r20, hh21, hq⟩ := q_bd hq
            refine roS (As := [.int r12, .int r18, .int r14]) (rest := []) X K (k_X0_isTurn l G g r12 r18 r14 _ hh21) hd_X0_isTurn gX0_tangentOf_X0_isTurn (hP.sub [] rfl) hl.1 dX0_tangentOf_91 rfl rfl ⟨Nat.le_of_ble_eq_true rfl, Nat.le_of_ble_eq_true rfl⟩ rfl (Nat.le_of_ble_eq_true rfl) ⟨Nat.zero_le _, Nat.zero_le _⟩ ?_
            refine lv_if_eq (tgt := 99) hx hb dX0_tangentOf_94 (by decide) (fun c22 => ?_) (fun c22 => ?_)
            · have hq := q_if_t hq c22
              refine lv_sipush (v := 1000) hx hb dX0_tangentOf_99 (by decide) ?_
              refine lv_iload hx hb dX0_tangentOf_102 (lv_at hl 0 rfl) ?_
              refine lv_iload hx hb dX0_tangentOf_104 (lv_at hl 1 rfl) ?_
              refine lv_isub hx hb dX0_tangentOf_106 ?_
              refine lv_imul hx hb dX0_tangentOf_107 ?_
              refine lv_iload_n hx hb dX0_tangentOf_108 rfl (lv_at hl 2 rfl) ?_
              obtain ⟨hh23, hq⟩ := q_gd hq
              refine lv_idiv hx hb dX0_tangentOf_109 hh23 ?_
              obtain rfl := q_rt hq
              exact ro_iret hx hb hr hk dX0_tangentOf_110
            · have hq := q_if_f hq c22
              refine lv_iconst (v := 0) hx hb dX0_tangentOf_97 (by decide) ?_
              obtain rfl := q_rt hq
              exact ro_iret hx hb hr hk dX0_tangentOf_98
        · have hq := q_if_f hq c11
          refine lv_iconst (v := 0) hx hb dX0_tangentOf_54 (by decide) ?_
          obtain rfl := q_rt hq
          exact ro_iret hx hb hr hk dX0_tangentOf_55
  · have hq := q_if_t hq c3
    refine lv_aload_n hx hb dX0_tangentOf_11 rfl (lv_at hl 1 rfl) ?_
    refine lv_iload_n hx hb dX0_tangentOf_12 rfl (lv_at hl 2 rfl) ?_
    refine lv_iconst (v := 4) hx hb dX0_tangentOf_13 (by decide) ?_
    obtain ⟨r24, hh25, hq⟩ := q_bd hq
    refine roV (ci := 0) (As := [.int p1, .int 4]) (rest := []) X K (k_X0_cell l G g h1 a1 cn cf p1 4 _ hh25) hd_X0_cell gX0_tangentOf_X0_cell hP hl.1 dX0_tangentOf_14 rfl rfl ⟨Nat.le_of_ble_eq_true rfl, Nat.le_of_ble_eq_true rfl⟩ rfl rfl rfl (Nat.le_of_ble_eq_true rfl) ⟨Nat.zero_le _, Nat.zero_le _⟩ ?_
    obtain rfl := q_rt hq
    exact ro_iret hx hb hr hk dX0_tangentOf_17
def F_X0_riseByTangents (p1 : Int64) (p2 : Int64) (p3 : Int64) (p4 : Int64) : Option (Int64) := vlet (p2 * p2) fun x1 => vlet (x1 * p2) fun x2 => some ((((p1 * (((3000 : Int64) * x1) - ((2 : Int64) * x2))) + (p3 * ((x2 - ((2000 : Int64) * x1)) + ((1000000 : Int64) * p2)))) + (p4 * (x2 - ((1000 : Int64) * x1)))) / 1000000000)
set_option maxHeartbeats 4000000 in
set_option maxRecDepth 100000 in
theorem k_X0_riseByTangents (l : Launch) (G : va_G) (g : Nat → ClassId) (p1 : Int64) (p2 : Int64) (p3 : Int64) (p4 : Int64) (res : Int64) (hq : F_X0_riseByTangents p1 p2 p3 p4 = some res) : roC l yX0_riseByTangents wsX0_riseByTangents (rmF 0 0) G g [.long p1, .long p2, .long p3, .long p4] [] (some (.long res)) := by
  refine roC.of (cc := cX0_riseByTangents) (maxL := 12) (ret := (some .long)) (by decide) rfl (Nat.le_of_ble_eq_true rfl) ?_
  intro p e s m below meth c ls X K hP hl
  obtain ⟨hx, hb, hml, hr, hown, hts, hk⟩ := id X
  have hl : lv_has ls 12 [(0, .long p1), (2, .long p2), (4, .long p3), (6, .long p4)] := hl
  unfold F_X0_riseByTangents at hq
  refine lv_lload_n hx hb dX0_riseByTangents_0 rfl (lv_at hl 1 rfl) ?_
  refine lv_lload_n hx hb dX0_riseByTangents_1 rfl (lv_at hl 1 rfl) ?_
  refine lv_lmul hx hb dX0_riseByTangents_2 ?_
  refine lv_topl (fun x1 ex1 => ?_)
  have hq := q_let hq ex1
  refine lv_lstore (lv' := [(8, .long x1), (0, .long p1), (2, .long p2), (4, .long p3), (6, .long p4)]) hx hb dX0_riseByTangents_3 hl (by decide) rfl (fun ls hl => ?_)
  refine lv_lload hx hb dX0_riseByTangents_5 (lv_at hl 0 rfl) ?_
  refine lv_lload_n hx hb dX0_riseByTangents_7 rfl (lv_at hl 2 rfl) ?_
  refine lv_lmul hx hb dX0_riseByTangents_8 ?_
  refine lv_topl (fun x2 ex2 => ?_)
  have hq := q_let hq ex2
  refine lv_lstore (lv' := [(10, .long x2), (8, .long x1), (0, .long p1), (2, .long p2), (4, .long p3), (6, .long p4)]) hx hb dX0_riseByTangents_9 hl (by decide) rfl (fun ls hl => ?_)
  refine lv_lload_n hx hb dX0_riseByTangents_11 rfl (lv_at hl 2 rfl) ?_
  refine lv_ldc2 (v := 3000) hx hb hown (hts _ (List.mem_of_getElem? (i := 1) rfl)) dX0_riseByTangents_12 ?_
  refine lv_lload hx hb dX0_riseByTangents_15 (lv_at hl 1 rfl) ?_
  refine lv_lmul hx hb dX0_riseByTangents_17 ?_
  refine lv_ldc2 (v := 2) hx hb hown (hts _ (List.mem_of_getElem? (i := 2) rfl)) dX0_riseByTangents_18 ?_
  refine lv_lload hx hb dX0_riseByTangents_21 (lv_at hl 0 rfl) ?_
  refine lv_lmul hx hb dX0_riseByTangents_23 ?_
  refine lv_lsub hx hb dX0_riseByTangents_24 ?_
  refine lv_lmul hx hb dX0_riseByTangents_25 ?_
  refine lv_lload hx hb dX0_riseByTangents_26 (lv_at hl 4 rfl) ?_
  refine lv_lload hx hb dX0_riseByTangents_28 (lv_at hl 0 rfl) ?_
  refine lv_ldc2 (v := 2000) hx hb hown (hts _ (List.mem_of_getElem? (i := 3) rfl)) dX0_riseByTangents_30 ?_
  refine lv_lload hx hb dX0_riseByTangents_33 (lv_at hl 1 rfl) ?_
  refine lv_lmul hx hb dX0_riseByTangents_35 ?_
  refine lv_lsub hx hb dX0_riseByTangents_36 ?_
  refine lv_ldc2 (v := 1000000) hx hb hown (hts _ (List.mem_of_getElem? (i := 4) rfl)) dX0_riseByTangents_37 ?_
  refine lv_lload_n hx hb dX0_riseByTangents_40 rfl (lv_at hl 3 rfl) ?_
  refine lv_lmul hx hb dX0_riseByTangents_41 ?_
  refine lv_ladd hx hb dX0_riseByTangents_42 ?_
  refine lv_lmul hx hb dX0_riseByTangents_43 ?_
  refine lv_ladd hx hb dX0_riseByTangents_44 ?_
  refine lv_lload hx hb dX0_riseByTangents_45 (lv_at hl 5 rfl) ?_
  refine lv_lload hx hb dX0_riseByTangents_47 (lv_at hl 0 rfl) ?_
  refine lv_ldc2 (v := 1000) hx hb hown (hts _ (List.mem_of_getElem? (i := 5) rfl)) dX0_riseByTangents_49 ?_
  refine lv_lload hx hb dX0_riseByTangents_52 (lv_at hl 1 rfl) ?_
  refine lv_lmul hx hb dX0_riseByTangents_54 ?_
  refine lv_lsub hx hb dX0_riseByTangents_55 ?_
  refine lv_lmul hx hb dX0_riseByTangents_56 ?_
  refine lv_ladd hx hb dX0_riseByTangents_57 ?_
  refine lv_ldc2 (v := 1000000000) hx hb hown (hts _ (List.mem_of_getElem? (i := 6) rfl)) dX0_riseByTangents_58 ?_
  refine lv_ldiv hx hb dX0_riseByTangents_61 (by decide) ?_
  obtain rfl := q_rt hq
  exact ro_lret hx hb hr hk dX0_riseByTangents_62
theorem hd_X0_riseByTangents : ynm yX0_riseByTangents 4 := by unfold ynm; decide +kernel
theorem hd_X0_tangentOf : ynm yX0_tangentOf 1 := by unfold ynm; decide +kernel
theorem in_X0_valueBehind_X0 : ∀ w ∈ wsX00, w ∈ wsX0_valueBehind := fun _ h => List.mem_cons_of_mem _ (List.mem_append_right _ h)
def F_X0_valueBehind (cn : Int32) (cf : Nat → Int32) (p1 : Int32) (p2 : Int32) : Option (Int32) := vlet (if p1 < 0 then (0 : Int32) else p1) fun x1 => (F_X0_cell cn cf x1 1).bind fun r2 => (F_X0_cell cn cf (p1 + 1) 0).bind fun r4 => (F_X0_cell cn cf p1 0).bind fun r6 => vlet ((r4 - r6).toInt64) fun x8 => if p1 < 0 then (some (r2)) else (if (cn - 1) ≤ p1 then (some (r2)) else (if (0 : Int32) < (lg_cmp x8 0) then ((F_X0_cell cn cf p1 0).bind fun r12 => vgd (¬ x8 = 0) <| vlet ((((1000 : Int32) * (p2 - r12)).toInt64) / x8) fun x15 => (F_X0_cell cn cf (p1 + 1) 1).bind fun r16 => vlet ((r16 - r2).toInt64) fun x18 => (F_X0_cell cn cf p1 2).bind fun r19 => if r19 = 1 then (some (r2 + (((x18 * x15) / 1000).toInt32))) else (if r19 = 2 then (some (r2 + ((((x18 * x15) * x15) / 1000000).toInt32))) else (if r19 = 3 then (some (r2 + (((x18 * ((1000000 : Int64) - (((1000 : Int64) - x15) * ((1000 : Int64) - x15)))) / 1000000).toInt32))) else (if r19 = 4 then (some (r2 + (((((x18 * x15) * x15) * ((3000 : Int64) - ((2 : Int64) * x15))) / 1000000000).toInt32))) else (if r19 = 5 then ((F_X0_tangentOf cn cf p1).bind fun r26 => vlet ((x8 * (r26.toInt64)) / 1000) fun x28 => (F_X0_tangentOf cn cf (p1 + 1)).bind fun r29 => vlet ((x8 * (r29.toInt64)) / 1000) fun x31 => (F_X0_riseByTangents x18 x15 x28 x31).bind fun r32 => some (r2 + (r32.toInt32))) else (some (r2))))))) else (some (r2))))
set_option maxHeartbeats 4000000 in
set_option maxRecDepth 100000 in
theorem k_X0_valueBehind (l : Launch) (G : va_G) (g : Nat → ClassId) (h1 a1 : Nat) (cn : Int32) (cf : Nat → Int32) (p1 : Int32) (p2 : Int32) (res : Int32) (hq : F_X0_valueBehind cn cf p1 p2 = some res) : roC l yX0_valueBehind wsX0_valueBehind (rmF 2 47) G g [.ref h1, .int p1, .int p2] [(h1, .inr (0, [.int cn, .ref a1])), (a1, .inl (g 0, 96, .inl cf))] (some (.int res)) := by
  refine roC.of (cc := cX0_valueBehind) (maxL := 14) (ret := (some .int)) (by decide) rfl (Nat.le_of_ble_eq_true rfl) ?_
  intro p e s m below meth c ls X K hP hl
  obtain ⟨hx, hb, hml, hr, hown, hts, hk⟩ := id X
  have hl : lv_has ls 14 [(0, .ref h1), (1, .int p1), (2, .int p2)] := hl
  unfold F_X0_valueBehind at hq
  refine lv_aload_n hx hb dX0_valueBehind_0 rfl (lv_at hl 0 rfl) ?_
  refine lv_iload_n hx hb dX0_valueBehind_1 rfl (lv_at hl 1 rfl) ?_
  refine lv_iconst (v := 0) hx hb dX0_valueBehind_2 (by decide) ?_
  refine va_mmax hx hb (hml.trans hl.1.symm) hown (hts _ (List.mem_of_getElem? (i := 1) rfl)) (hts _ (List.mem_of_getElem? (i := 2) rfl)) (hts _ (List.mem_of_getElem? (i := 3) rfl)) (hts _ (List.mem_of_getElem? (i := 4) rfl)) (Nat.le_of_ble_eq_true rfl) (Nat.le_of_ble_eq_true rfl) (Nat.zero_le _) (Nat.zero_le _) dX0_valueBehind_3 ?_
  refine lv_topi (fun x1 ex1 => ?_)
  have hq := q_let hq ex1
  refine lv_iconst (v := 1) hx hb dX0_valueBehind_6 (by decide) ?_
  obtain ⟨r2, hh3, hq⟩ := q_bd hq
  refine roV (ci := 0) (As := [.int x1, .int 1]) (rest := []) X K (k_X0_cell l G g h1 a1 cn cf x1 1 _ hh3) hd_X0_cell gX0_valueBehind_X0_cell hP hl.1 dX0_valueBehind_7 rfl rfl ⟨Nat.le_of_ble_eq_true rfl, Nat.le_of_ble_eq_true rfl⟩ rfl rfl rfl (Nat.le_of_ble_eq_true rfl) ⟨Nat.zero_le _, Nat.zero_le _⟩ ?_
  refine lv_istore_n (lv' := [(3, .int r2), (0, .ref h1), (1, .int p1), (2, .int p2)]) hx hb dX0_valueBehind_10 rfl hl (by decide) rfl (fun ls hl => ?_)
  refine lv_aload_n hx hb dX0_valueBehind_11 rfl (lv_at hl 1 rfl) ?_
  refine lv_iload_n hx hb dX0_valueBehind_12 rfl (lv_at hl 2 rfl) ?_
  refine lv_iconst (v := 1) hx hb dX0_valueBehind_13 (by decide) ?_
  refine lv_iadd hx hb dX0_valueBehind_14 ?_
  refine lv_iconst (v := 0) hx hb dX0_valueBehind_15 (by decide) ?_
  obtain ⟨r4, hh5, hq⟩ := q_bd hq
  refine roV (ci := 0) (As := [.int (p1 + 1), .int 0]) (rest := []) X K (k_X0_cell l G g h1 a1 cn cf (p1 + 1) 0 _ hh5) hd_X0_cell gX0_valueBehind_X0_cell hP hl.1 dX0_valueBehind_16 rfl rfl ⟨Nat.le_of_ble_eq_true rfl, Nat.le_of_ble_eq_true rfl⟩ rfl rfl rfl (Nat.le_of_ble_eq_true rfl) ⟨Nat.zero_le _, Nat.zero_le _⟩ ?_
  refine lv_aload_n hx hb dX0_valueBehind_19 rfl (lv_at hl 1 rfl) ?_
  refine lv_iload_n hx hb dX0_valueBehind_20 rfl (lv_at hl 2 rfl) ?_
  refine lv_iconst (v := 0) hx hb dX0_valueBehind_21 (by decide) ?_
  obtain ⟨r6, hh7, hq⟩ := q_bd hq
  refine roV (ci := 0) (As := [.int p1, .int 0]) (rest := [.int r4]) X K (k_X0_cell l G g h1 a1 cn cf p1 0 _ hh7) hd_X0_cell gX0_valueBehind_X0_cell hP hl.1 dX0_valueBehind_22 rfl rfl ⟨Nat.le_of_ble_eq_true rfl, Nat.le_of_ble_eq_true rfl⟩ rfl rfl rfl (Nat.le_of_ble_eq_true rfl) ⟨Nat.zero_le _, Nat.zero_le _⟩ ?_
  refine lv_isub hx hb dX0_valueBehind_25 ?_
  refine lv_i2l (v := (r4 - r6).toInt64) hx hb dX0_valueBehind_26 rfl ?_
  refine lv_topl (fun x8 ex8 => ?_)
  have hq := q_let hq ex8
  refine lv_lstore (lv' := [(4, .long x8), (3, .int r2), (0, .ref h1), (1, .int p1), (2, .int p2)]) hx hb dX0_valueBehind_27 hl (by decide) rfl (fun ls hl => ?_)
  refine lv_iload_n hx hb dX0_valueBehind_29 rfl (lv_at hl 3 rfl) ?_
  refine lv_if_lt (tgt := 50) hx hb dX0_valueBehind_30 (by decide) (fun c9 => ?_) (fun c9 => ?_)
  · have hq := q_if_t hq c9
    refine lv_iload_n hx hb dX0_valueBehind_50 rfl (lv_at hl 1 rfl) ?_
    obtain rfl := q_rt hq
    exact ro_iret hx hb hr hk dX0_valueBehind_51
  · have hq := q_if_f hq c9
    refine lv_iload_n hx hb dX0_valueBehind_33 rfl (lv_at hl 3 rfl) ?_
    refine lv_aload_n hx hb dX0_valueBehind_34 rfl (lv_at hl 2 rfl) ?_
    refine va_get (D := G) (ci := 0) (v := .int cn) (C := RX0) (T := TX0) (N := 2) hx hb hts in_X0_valueBehind_X0 hown K.1 hP 0 rfl rfl 0 (by decide) (hts _ (List.mem_of_getElem? (i := 5) rfl)) (fun _ h9 => h9) rfl dX0_valueBehind_35 ?_
    refine lv_iconst (v := 1) hx hb dX0_valueBehind_38 (by decide) ?_
    refine lv_isub hx hb dX0_valueBehind_39 ?_
    refine lv_icmp_ge (tgt := 50) hx hb dX0_valueBehind_40 (by decide) (fun c10 => ?_) (fun c10 => ?_)
    · have hq := q_if_t hq c10
      refine lv_iload_n hx hb dX0_valueBehind_50 rfl (lv_at hl 1 rfl) ?_
      obtain rfl := q_rt hq
      exact ro_iret hx hb hr hk dX0_valueBehind_51
    · have hq := q_if_f hq c10
      refine lv_lload hx hb dX0_valueBehind_43 (lv_at hl 0 rfl) ?_
      refine lv_lconst (v := 0) hx hb dX0_valueBehind_45 (by decide) ?_
      refine W.lcmp hx hb dX0_valueBehind_46 ?_
      refine lv_if_gt (tgt := 52) hx hb dX0_valueBehind_47 (by decide) (fun c11 => ?_) (fun c11 => ?_)
      · have hq := q_if_t hq c11
        refine lv_sipush (v := 1000) hx hb dX0_valueBehind_52 (by decide) ?_
        refine lv_iload_n hx hb dX0_valueBehind_55 rfl (lv_at hl 4 rfl) ?_
        refine lv_aload_n hx hb dX0_valueBehind_56 rfl (lv_at hl 2 rfl) ?_
        refine lv_iload_n hx hb dX0_valueBehind_57 rfl (lv_at hl 3 rfl) ?_
        refine lv_iconst (v := 0) hx hb dX0_valueBehind_58 (by decide) ?_
        obtain ⟨r12, hh13, hq⟩ := q_bd hq
        refine roV (ci := 0) (As := [.int p1, .int 0]) (rest := [.int p2, .int 1000]) X K (k_X0_cell l G g h1 a1 cn cf p1 0 _ hh13) hd_X0_cell gX0_valueBehind_X0_cell hP hl.1 dX0_valueBehind_59 rfl rfl ⟨Nat.le_of_ble_eq_true rfl, Nat.le_of_ble_eq_true rfl⟩ rfl rfl rfl (Nat.le_of_ble_eq_true rfl) ⟨Nat.zero_le _, Nat.zero_le _⟩ ?_
        refine lv_isub hx hb dX0_valueBehind_62 ?_
        refine lv_imul hx hb dX0_valueBehind_63 ?_
        refine lv_i2l (v := ((1000 : Int32) * (p2 - r12)).toInt64) hx hb dX0_valueBehind_64 rfl ?_
        refine lv_lload hx hb dX0_valueBehind_65 (lv_at hl 0 rfl) ?_
        obtain ⟨hh14, hq⟩ := q_gd hq
        refine lv_ldiv hx hb dX0_valueBehind_67 hh14 ?_
        refine lv_topl (fun x15 ex15 => ?_)
        have hq := q_let hq ex15
        refine lv_lstore (lv' := [(6, .long x15), (4, .long x8), (3, .int r2), (0, .ref h1), (1, .int p1), (2, .int p2)]) hx hb dX0_valueBehind_68 hl (by decide) rfl (fun ls hl => ?_)
        refine lv_aload_n hx hb dX0_valueBehind_70 rfl (lv_at hl 3 rfl) ?_
        refine lv_iload_n hx hb dX0_valueBehind_71 rfl (lv_at hl 4 rfl) ?_
        refine lv_iconst (v := 1) hx hb dX0_valueBehind_72 (by decide) ?_
        refine lv_iadd hx hb dX0_valueBehind_73 ?_
        refine lv_iconst (v := 1) hx hb dX0_valueBehind_74 (by decide) ?_
        obtain ⟨r16, hh17, hq⟩ := q_bd hq
        refine roV (ci := 0) (As := [.int (p1 + 1), .int 1]) (rest := []) X K (k_X0_cell l G g h1 a1 cn cf (p1 + 1) 1 _ hh17) hd_X0_cell gX0_valueBehind_X0_cell hP hl.1 dX0_valueBehind_75 rfl rfl ⟨Nat.le_of_ble_eq_true rfl, Nat.le_of_ble_eq_true rfl⟩ rfl rfl rfl (Nat.le_of_ble_eq_true rfl) ⟨Nat.zero_le _, Nat.zero_le _⟩ ?_
        refine lv_iload_n hx hb dX0_valueBehind_78 rfl (lv_at hl 2 rfl) ?_
        refine lv_isub hx hb dX0_valueBehind_79 ?_
        refine lv_i2l (v := (r16 - r2).toInt64) hx hb dX0_valueBehind_80 rfl ?_
        refine lv_topl (fun x18 ex18 => ?_)
        have hq := q_let hq ex18
        refine lv_lstore (lv' := [(8, .long x18), (6, .long x15), (4, .long x8), (3, .int r2), (0, .ref h1), (1, .int p1), (2, .int p2)]) hx hb dX0_valueBehind_81 hl (by decide) rfl (fun ls hl => ?_)
        refine lv_aload_n hx hb dX0_valueBehind_83 rfl (lv_at hl 4 rfl) ?_
        refine lv_iload_n hx hb dX0_valueBehind_84 rfl (lv_at hl 5 rfl) ?_
        refine lv_iconst (v := 2) hx hb dX0_valueBehind_85 (by decide) ?_
        obtain ⟨r19, hh20, hq⟩ := q_bd hq
        refine roV (ci := 0) (As := [.int p1, .int 2]) (rest := []) X K (k_X0_cell l G g h1 a1 cn cf p1 2 _ hh20) hd_X0_cell gX0_valueBehind_X0_cell hP hl.1 dX0_valueBehind_86 rfl rfl ⟨Nat.le_of_ble_eq_true rfl, Nat.le_of_ble_eq_true rfl⟩ rfl rfl rfl (Nat.le_of_ble_eq_true rfl) ⟨Nat.zero_le _, Nat.zero_le _⟩ ?_
        refine sw_c (x := r19) (k := 1) (fun c21 => ?_) (fun c21 => ?_)
        · have hq := q_if_t hq c21
          refine lv_tableIn (tgt := 124) hx hb dX0_valueBehind_89 (by rw [c21]; decide) (by rw [c21]; decide) (by rw [c21]; rfl) (by decide) ?_
          refine lv_iload_n hx hb dX0_valueBehind_124 rfl (lv_at hl 3 rfl) ?_
          refine lv_lload hx hb dX0_valueBehind_125 (lv_at hl 0 rfl) ?_
          refine lv_lload hx hb dX0_valueBehind_127 (lv_at hl 1 rfl) ?_
          refine lv_lmul hx hb dX0_valueBehind_129 ?_
          refine lv_ldc2 (v := 1000) hx hb hown (hts _ (List.mem_of_getElem? (i := 6) rfl)) dX0_valueBehind_130 ?_
          refine lv_ldiv hx hb dX0_valueBehind_133 (by decide) ?_
          refine lv_l2i (v := ((x18 * x15) / 1000).toInt32) hx hb dX0_valueBehind_134 rfl ?_
          refine lv_iadd hx hb dX0_valueBehind_135 ?_
          obtain rfl := q_rt hq
          exact ro_iret hx hb hr hk dX0_valueBehind_136
        have hq := q_if_f hq c21
        refine sw_c (x := r19) (k := 2) (fun c22 => ?_) (fun c22 => ?_)
        · have hq := q_if_t hq c22
          refine lv_tableIn (tgt := 137) hx hb dX0_valueBehind_89 (by rw [c22]; decide) (by rw [c22]; decide) (by rw [c22]; rfl) (by decide) ?_
          refine lv_iload_n hx hb dX0_valueBehind_137 rfl (lv_at hl 3 rfl) ?_
          refine lv_lload hx hb dX0_valueBehind_138 (lv_at hl 0 rfl) ?_
          refine lv_lload hx hb dX0_valueBehind_140 (lv_at hl 1 rfl) ?_
          refine lv_lmul hx hb dX0_valueBehind_142 ?_
          refine lv_lload hx hb dX0_valueBehind_143 (lv_at hl 1 rfl) ?_
          refine lv_lmul hx hb dX0_valueBehind_145 ?_
          refine lv_ldc2 (v := 1000000) hx hb hown (hts _ (List.mem_of_getElem? (i := 7) rfl)) dX0_valueBehind_146 ?_
          refine lv_ldiv hx hb dX0_valueBehind_149 (by decide) ?_
          refine lv_l2i (v := (((x18 * x15) * x15) / 1000000).toInt32) hx hb dX0_valueBehind_150 rfl ?_
          refine lv_iadd hx hb dX0_valueBehind_151 ?_
          obtain rfl := q_rt hq
          exact ro_iret hx hb hr hk dX0_valueBehind_152
        have hq := q_if_f hq c22
        refine sw_c (x := r19) (k := 3) (fun c23 => ?_) (fun c23 => ?_)
        · have hq := q_if_t hq c23
          refine lv_tableIn (tgt := 153) hx hb dX0_valueBehind_89 (by rw [c23]; decide) (by rw [c23]; decide) (by rw [c23]; rfl) (by decide) ?_
          refine lv_iload_n hx hb dX0_valueBehind_153 rfl (lv_at hl 3 rfl) ?_
          refine lv_lload hx hb dX0_valueBehind_154 (lv_at hl 0 rfl) ?_
          refine lv_ldc2 (v := 1000000) hx hb hown (hts _ (List.mem_of_getElem? (i := 7) rfl)) dX0_valueBehind_156 ?_
          refine lv_ldc2 (v := 1000) hx hb hown (hts _ (List.mem_of_getElem? (i := 6) rfl)) dX0_valueBehind_159 ?_
          refine lv_lload hx hb dX0_valueBehind_162 (lv_at hl 1 rfl) ?_
          refine lv_lsub hx hb dX0_valueBehind_164 ?_
          refine lv_ldc2 (v := 1000) hx hb hown (hts _ (List.mem_of_getElem? (i := 6) rfl)) dX0_valueBehind_165 ?_
          refine lv_lload hx hb dX0_valueBehind_168 (lv_at hl 1 rfl) ?_
          refine lv_lsub hx hb dX0_valueBehind_170 ?_
          refine lv_lmul hx hb dX0_valueBehind_171 ?_
          refine lv_lsub hx hb dX0_valueBehind_172 ?_
          refine lv_lmul hx hb dX0_valueBehind_173 ?_
          refine lv_ldc2 (v := 1000000) hx hb hown (hts _ (List.mem_of_getElem? (i := 7) rfl)) dX0_valueBehind_174 ?_
          refine lv_ldiv hx hb dX0_valueBehind_177 (by decide) ?_
          refine lv_l2i (v := ((x18 * ((1000000 : Int64) - (((1000 : Int64) - x15) * ((1000 : Int64) - x15)))) / 1000000).toInt32) hx hb dX0_valueBehind_178 rfl ?_
          refine lv_iadd hx hb dX0_valueBehind_179 ?_
          obtain rfl := q_rt hq
          exact ro_iret hx hb hr hk dX0_valueBehind_180
        have hq := q_if_f hq c23
        refine sw_c (x := r19) (k := 4) (fun c24 => ?_) (fun c24 => ?_)
        · have hq := q_if_t hq c24
          refine lv_tableIn (tgt := 181) hx hb dX0_valueBehind_89 (by rw [c24]; decide) (by rw [c24]; decide) (by rw [c24]; rfl) (by decide) ?_
          refine lv_iload_n hx hb dX0_valueBehind_181 rfl (lv_at hl 3 rfl) ?_
          refine lv_lload hx hb dX0_valueBehind_182 (lv_at hl 0 rfl) ?_
          refine lv_lload hx hb dX0_valueBehind_184 (lv_at hl 1 rfl) ?_
          refine lv_lmul hx hb dX0_valueBehind_186 ?_
          refine lv_lload hx hb dX0_valueBehind_187 (lv_at hl 1 rfl) ?_
          refine lv_lmul hx hb dX0_valueBehind_189 ?_
          refine lv_ldc2 (v := 3000) hx hb hown (hts _ (List.mem_of_getElem? (i := 8) rfl)) dX0_valueBehind_190 ?_
          refine lv_ldc2 (v := 2) hx hb hown (hts _ (List.mem_of_getElem? (i := 9) rfl)) dX0_valueBehind_193 ?_
          refine lv_lload hx hb dX0_valueBehind_196 (lv_at hl 1 rfl) ?_
          refine lv_lmul hx hb dX0_valueBehind_198 ?_
          refine lv_lsub hx hb dX0_valueBehind_199 ?_
          refine lv_lmul hx hb dX0_valueBehind_200 ?_
          refine lv_ldc2 (v := 1000000000) hx hb hown (hts _ (List.mem_of_getElem? (i := 10) rfl)) dX0_valueBehind_201 ?_
          refine lv_ldiv hx hb dX0_valueBehind_204 (by decide) ?_
          refine lv_l2i (v := ((((x18 * x15) * x15) * ((3000 : Int64) - ((2 : Int64) * x15))) / 1000000000).toInt32) hx hb dX0_valueBehind_205 rfl ?_
          refine lv_iadd hx hb dX0_valueBehind_206 ?_
          obtain rfl := q_rt hq
          exact ro_iret hx hb hr hk dX0_valueBehind_207
        have hq := q_if_f hq c24
        refine sw_c (x := r19) (k := 5) (fun c25 => ?_) (fun c25 => ?_)
        · have hq := q_if_t hq c25
          refine lv_tableIn (tgt := 208) hx hb dX0_valueBehind_89 (by rw [c25]; decide) (by rw [c25]; decide) (by rw [c25]; rfl) (by decide) ?_
          refine lv_lload hx hb dX0_valueBehind_208 (lv_at hl 2 rfl) ?_
          refine lv_aload_n hx hb dX0_valueBehind_210 rfl (lv_at hl 4 rfl) ?_
          refine lv_iload_n hx hb dX0_valueBehind_211 rfl (lv_at hl 5 rfl) ?_
          obtain ⟨r26, hh27, hq⟩ := q_bd hq
          refine roV (ci := 0) (As := [.int p1]) (rest := [.long x8]) X K (k_X0_tangentOf l G g h1 a1 cn cf p1 _ hh27) hd_X0_tangentOf gX0_valueBehind_X0_tangentOf hP hl.1 dX0_valueBehind_212 rfl rfl ⟨Nat.le_of_ble_eq_true rfl, Nat.le_of_ble_eq_true rfl⟩ rfl rfl rfl (Nat.le_of_ble_eq_true rfl) ⟨Nat.zero_le _, Nat.zero_le _⟩ ?_
          refine lv_i2l (v := r26.toInt64) hx hb dX0_valueBehind_215 rfl ?_
          refine lv_lmul hx hb dX0_valueBehind_216 ?_
          refine lv_ldc2 (v := 1000) hx hb hown (hts _ (List.mem_of_getElem? (i := 6) rfl)) dX0_valueBehind_217 ?_
          refine lv_ldiv hx hb dX0_valueBehind_220 (by decide) ?_
          refine lv_topl (fun x28 ex28 => ?_)
          have hq := q_let hq ex28
          refine lv_lstore (lv' := [(10, .long x28), (8, .long x18), (6, .long x15), (4, .long x8), (3, .int r2), (0, .ref h1), (1, .int p1), (2, .int p2)]) hx hb dX0_valueBehind_221 hl (by decide) rfl (fun ls hl => ?_)
          refine lv_lload hx hb dX0_valueBehind_223 (lv_at hl 3 rfl) ?_
          refine lv_aload_n hx hb dX0_valueBehind_225 rfl (lv_at hl 5 rfl) ?_
          refine lv_iload_n hx hb dX0_valueBehind_226 rfl (lv_at hl 6 rfl) ?_
          refine lv_iconst (v := 1) hx hb dX0_valueBehind_227 (by decide) ?_
          refine lv_iadd hx hb dX0_valueBehind_228 ?_
          obtain ⟨r29, hh30, hq⟩ := q_bd hq
          refine roV (ci := 0) (As := [.int (p1 + 1)]) (rest := [.long x8]) X K (k_X0_tangentOf l G g h1 a1 cn cf (p1 + 1) _ hh30) hd_X0_tangentOf gX0_valueBehind_X0_tangentOf hP hl.1 dX0_valueBehind_229 rfl rfl ⟨Nat.le_of_ble_eq_true rfl, Nat.le_of_ble_eq_true rfl⟩ rfl rfl rfl (Nat.le_of_ble_eq_true rfl) ⟨Nat.zero_le _, Nat.zero_le _⟩ ?_
          refine lv_i2l (v := r29.toInt64) hx hb dX0_valueBehind_232 rfl ?_
          refine lv_lmul hx hb dX0_valueBehind_233 ?_
          refine lv_ldc2 (v := 1000) hx hb hown (hts _ (List.mem_of_getElem? (i := 6) rfl)) dX0_valueBehind_234 ?_
          refine lv_ldiv hx hb dX0_valueBehind_237 (by decide) ?_
          refine lv_topl (fun x31 ex31 => ?_)
          have hq := q_let hq ex31
          refine lv_lstore (lv' := [(12, .long x31), (10, .long x28), (8, .long x18), (6, .long x15), (4, .long x8), (3, .int r2), (0, .ref h1), (1, .int p1), (2, .int p2)]) hx hb dX0_valueBehind_238 hl (by decide) rfl (fun ls hl => ?_)
          refine lv_iload_n hx hb dX0_valueBehind_240 rfl (lv_at hl 5 rfl) ?_
          refine lv_lload hx hb dX0_valueBehind_241 (lv_at hl 2 rfl) ?_
          refine lv_lload hx hb dX0_valueBehind_243 (lv_at hl 3 rfl) ?_
          refine lv_lload hx hb dX0_valueBehind_245 (lv_at hl 1 rfl) ?_
          refine lv_lload hx hb dX0_valueBehind_247 (lv_at hl 0 rfl) ?_
          obtain ⟨r32, hh33, hq⟩ := q_bd hq
          refine roS (As := [.long x18, .long x15, .long x28, .long x31]) (rest := [.int r2]) X K (k_X0_riseByTangents l G g x18 x15 x28 x31 _ hh33) hd_X0_riseByTangents gX0_valueBehind_X0_riseByTangents (hP.sub [] rfl) hl.1 dX0_valueBehind_249 rfl rfl ⟨Nat.le_of_ble_eq_true rfl, Nat.le_of_ble_eq_true rfl⟩ rfl (Nat.le_of_ble_eq_true rfl) ⟨Nat.zero_le _, Nat.zero_le _⟩ ?_
          refine lv_l2i (v := r32.toInt32) hx hb dX0_valueBehind_252 rfl ?_
          refine lv_iadd hx hb dX0_valueBehind_253 ?_
          obtain rfl := q_rt hq
          exact ro_iret hx hb hr hk dX0_valueBehind_254
        have hq := q_if_f hq c25
        refine lv_tableOut (tgt := 255) hx hb dX0_valueBehind_89 (by have zc21 := lv_neT (a := 1) c21 rfl; have zc22 := lv_neT (a := 2) c22 rfl; have zc23 := lv_neT (a := 3) c23 rfl; have zc24 := lv_neT (a := 4) c24 rfl; have zc25 := lv_neT (a := 5) c25 rfl; omega) (by decide) ?_
        refine lv_iload_n hx hb dX0_valueBehind_255 rfl (lv_at hl 3 rfl) ?_
        obtain rfl := q_rt hq
        exact ro_iret hx hb hr hk dX0_valueBehind_256
      · have hq := q_if_f hq c11
        refine lv_iload_n hx hb dX0_valueBehind_50 rfl (lv_at hl 1 rfl) ?_
        obtain rfl := q_rt hq
        exact ro_iret hx hb hr hk dX0_valueBehind_51
theorem hd_X0_valueBehind : ynm yX0_valueBehind 2 := by unfold ynm; decide +kernel
def F_X0_valueAt (cn : Int32) (cf : Nat → Int32) (p1 : Int32) : Option (Int32) := (F_X0_countUpTo cn cf p1).bind fun r1 => (F_X0_valueBehind cn cf (r1 - 1) p1).bind fun r3 => some (r3)
set_option maxHeartbeats 4000000 in
set_option maxRecDepth 100000 in
theorem k_X0_valueAt (l : Launch) (G : va_G) (g : Nat → ClassId) (h1 a1 : Nat) (cn : Int32) (cf : Nat → Int32) (p1 : Int32) (res : Int32) (hq : F_X0_valueAt cn cf p1 = some res) : roC l yX0_valueAt wsX0_valueAt (rmF 3 80) G g [.ref h1, .int p1] [(h1, .inr (0, [.int cn, .ref a1])), (a1, .inl (g 0, 96, .inl cf))] (some (.int res)) := by
  refine roC.of (cc := cX0_valueAt) (maxL := 2) (ret := (some .int)) (by decide) rfl (Nat.le_of_ble_eq_true rfl) ?_
  intro p e s m below meth c ls X K hP hl
  obtain ⟨hx, hb, hml, hr, hown, hts, hk⟩ := id X
  have hl : lv_has ls 2 [(0, .ref h1), (1, .int p1)] := hl
  unfold F_X0_valueAt at hq
  refine lv_aload_n hx hb dX0_valueAt_0 rfl (lv_at hl 0 rfl) ?_
  refine lv_aload_n hx hb dX0_valueAt_1 rfl (lv_at hl 0 rfl) ?_
  refine lv_iload_n hx hb dX0_valueAt_2 rfl (lv_at hl 1 rfl) ?_
  obtain ⟨r1, hh2, hq⟩ := q_bd hq
  refine roV (ci := 0) (As := [.int p1]) (rest := [.ref h1]) X K (k_X0_countUpTo l G g h1 a1 cn cf p1 _ hh2) hd_X0_countUpTo gX0_valueAt_X0_countUpTo hP hl.1 dX0_valueAt_3 rfl rfl ⟨Nat.le_of_ble_eq_true rfl, Nat.le_of_ble_eq_true rfl⟩ rfl rfl rfl (Nat.le_of_ble_eq_true rfl) ⟨Nat.zero_le _, Nat.zero_le _⟩ ?_
  refine lv_iconst (v := 1) hx hb dX0_valueAt_6 (by decide) ?_
  refine lv_isub hx hb dX0_valueAt_7 ?_
  refine lv_iload_n hx hb dX0_valueAt_8 rfl (lv_at hl 1 rfl) ?_
  obtain ⟨r3, hh4, hq⟩ := q_bd hq
  refine roV (ci := 0) (As := [.int (r1 - 1), .int p1]) (rest := []) X K (k_X0_valueBehind l G g h1 a1 cn cf (r1 - 1) p1 _ hh4) hd_X0_valueBehind gX0_valueAt_X0_valueBehind hP hl.1 dX0_valueAt_9 rfl rfl ⟨Nat.le_of_ble_eq_true rfl, Nat.le_of_ble_eq_true rfl⟩ rfl rfl rfl (Nat.le_of_ble_eq_true rfl) ⟨Nat.zero_le _, Nat.zero_le _⟩ ?_
  obtain rfl := q_rt hq
  exact ro_iret hx hb hr hk dX0_valueAt_12
theorem in_X0_become_X0 : ∀ w ∈ wsX00, w ∈ wsX0_become := fun _ h => List.mem_cons_of_mem _ (List.mem_append_right _ h)
def F_X0_become (cn : Int32) (cf : Nat → Int32) (dn : Int32) (df : Nat → Int32) : Option (Int32 × (Nat → Int32)) := vgd (¬ (0 : Int32) < 0 ∧ ¬ (0 : Int32) < 0 ∧ ¬ (dn * 6) < 0 ∧ (0 : Int32).toNatClampNeg + (dn * 6).toNatClampNeg ≤ 96 ∧ (0 : Int32).toNatClampNeg + (dn * 6).toNatClampNeg ≤ 96) <| vlet (va_cpy df cf (0 : Int32).toNatClampNeg (0 : Int32).toNatClampNeg (dn * 6).toNatClampNeg) fun f2 => some (dn, f2)
set_option maxHeartbeats 4000000 in
set_option maxRecDepth 100000 in
theorem k_X0_become (l : Launch) (G : va_G) (g : Nat → ClassId) (h1 a1 h2 a2 : Nat) (cn : Int32) (cf : Nat → Int32) (dn : Int32) (df : Nat → Int32) (res : Int32 × (Nat → Int32)) (hq : F_X0_become cn cf dn df = some res) : rwC l yX0_become wsX0_become (rmF 1 40) G g [.ref h1, .ref h2] [(h1, .inr (0, [.int cn, .ref a1])), (a1, .inl (g 0, 96, .inl cf)), (h2, .inr (0, [.int dn, .ref a2])), (a2, .inl (g 0, 96, .inl df))] none [(h1, .inr (0, [.int res.1, .ref a1])), (a1, .inl (g 0, 96, .inl res.2)), (h2, .inr (0, [.int dn, .ref a2])), (a2, .inl (g 0, 96, .inl df))] := by
  refine rwC.of (cc := cX0_become) (maxL := 2) (ret := none) (by decide) rfl (Nat.le_of_ble_eq_true rfl) ?_
  intro p e s m below meth c ls A X K hA hP hD hS hl
  obtain ⟨hx, hb, hml, hr, hown, hts, hk⟩ := id X
  have hl : lv_has ls 2 [(0, .ref h1), (1, .ref h2)] := hl
  unfold F_X0_become at hq
  refine lv_aload_n hx hb dX0_become_0 rfl (lv_at hl 0 rfl) ?_
  refine lv_aload_n hx hb dX0_become_1 rfl (lv_at hl 1 rfl) ?_
  refine va_get (D := G) (ci := 0) (v := .int dn) (C := RX0) (T := TX0) (N := 2) hx hb hts in_X0_become_X0 hown K.1 hP 2 rfl rfl 0 (by decide) (hts _ (List.mem_of_getElem? (i := 1) rfl)) (fun _ h9 => h9) rfl dX0_become_2 ?_
  refine va_put (D := G) (ci := 0) (v := .int dn) (ty := .int) (C := RX0) (T := TX0) (N := 2) hx hb hts in_X0_become_X0 tyX0 tyX0_ok nmX0 hown K.1 hP hD hS 0 rfl rfl 0 (by decide) (hts _ (List.mem_of_getElem? (i := 1) rfl)) (fun _ h9 => h9) rfl (by decide +kernel) rfl rfl (Nat.le_of_ble_eq_true rfl) dX0_become_5 (fun H locs hP hD hS => ?_)
  have hP : va_P G vwCl [(h1, .inr (0, [.int dn, .ref a1])), (a1, .inl (g 0, 96, .inl cf)), (h2, .inr (0, [.int dn, .ref a2])), (a2, .inl (g 0, 96, .inl df))] H := hP
  have hD : va_D A [(h1, .inr (0, [.int dn, .ref a1])), (a1, .inl (g 0, 96, .inl cf)), (h2, .inr (0, [.int dn, .ref a2])), (a2, .inl (g 0, 96, .inl df))] := hD
  refine lv_aload_n hx hb dX0_become_8 rfl (lv_at hl 1 rfl) ?_
  refine va_get (D := G) (ci := 0) (v := .ref a2) (C := RX0) (T := TX0) (N := 2) hx hb hts in_X0_become_X0 hown K.1 hP 2 rfl rfl 1 (by decide) (hts _ (List.mem_of_getElem? (i := 2) rfl)) (fun _ h9 => h9) rfl dX0_become_9 ?_
  refine lv_iconst (v := 0) hx hb dX0_become_12 (by decide) ?_
  refine lv_aload_n hx hb dX0_become_13 rfl (lv_at hl 0 rfl) ?_
  refine va_get (D := G) (ci := 0) (v := .ref a1) (C := RX0) (T := TX0) (N := 2) hx hb hts in_X0_become_X0 hown K.1 hP 0 rfl rfl 1 (by decide) (hts _ (List.mem_of_getElem? (i := 2) rfl)) (fun _ h9 => h9) rfl dX0_become_14 ?_
  refine lv_iconst (v := 0) hx hb dX0_become_17 (by decide) ?_
  refine lv_aload_n hx hb dX0_become_18 rfl (lv_at hl 0 rfl) ?_
  refine va_get (D := G) (ci := 0) (v := .int dn) (C := RX0) (T := TX0) (N := 2) hx hb hts in_X0_become_X0 hown K.1 hP 0 rfl rfl 0 (by decide) (hts _ (List.mem_of_getElem? (i := 1) rfl)) (fun _ h9 => h9) rfl dX0_become_19 ?_
  refine lv_bipush (v := 6) hx hb dX0_become_22 (by decide) ?_
  refine lv_imul hx hb dX0_become_24 ?_
  obtain ⟨hh1, hq⟩ := q_gd hq
  refine va_copyi hx hb (hml.trans hl.1.symm) hown (hts _ (List.mem_of_getElem? (i := 3) rfl)) (hts _ (List.mem_of_getElem? (i := 4) rfl)) (hts _ (List.mem_of_getElem? (i := 5) rfl)) (hts _ (List.mem_of_getElem? (i := 6) rfl)) K.1 hP hD hS 3 1 0 0 rfl rfl rfl rfl rfl hh1.1 hh1.2.1 hh1.2.2.1 hh1.2.2.2.1 hh1.2.2.2.2 (fun _ _ => rfl) (Nat.le_of_ble_eq_true rfl) (Nat.le_of_ble_eq_true rfl) dX0_become_25 (fun H locs hP hD hS => ?_)
  obtain ⟨f2, ef2⟩ : ∃ y, y = va_cpy df cf (0 : Int32).toNatClampNeg (0 : Int32).toNatClampNeg (dn * 6).toNatClampNeg := ⟨_, rfl⟩
  have hq := q_let hq ef2
  have hP : va_P G vwCl [(h1, .inr (0, [.int dn, .ref a1])), (a1, .inl (g 0, 96, .inl f2)), (h2, .inr (0, [.int dn, .ref a2])), (a2, .inl (g 0, 96, .inl df))] H := by rw [ef2]; exact hP
  have hD : va_D A [(h1, .inr (0, [.int dn, .ref a1])), (a1, .inl (g 0, 96, .inl f2)), (h2, .inr (0, [.int dn, .ref a2])), (a2, .inl (g 0, 96, .inl df))] := by rw [ef2]; exact hD
  obtain rfl := q_rt hq
  exact rw_vret hx hb hr hk hP hD hS dX0_become_28
theorem in_X0_becomeS_X0 : ∀ w ∈ wsX00, w ∈ wsX0_become := fun _ h => List.mem_cons_of_mem _ (List.mem_append_right _ h)
def F_X0_becomeS (cn : Int32) (cf : Nat → Int32) : Option (Int32 × (Nat → Int32)) := vgd (¬ (0 : Int32) < 0 ∧ ¬ (0 : Int32) < 0 ∧ ¬ (cn * 6) < 0 ∧ (0 : Int32).toNatClampNeg + (cn * 6).toNatClampNeg ≤ 96 ∧ (0 : Int32).toNatClampNeg + (cn * 6).toNatClampNeg ≤ 96) <| vlet (va_cpy cf cf (0 : Int32).toNatClampNeg (0 : Int32).toNatClampNeg (cn * 6).toNatClampNeg) fun f2 => some (cn, f2)
set_option maxHeartbeats 4000000 in
set_option maxRecDepth 100000 in
theorem k_X0_becomeS (l : Launch) (G : va_G) (g : Nat → ClassId) (h1 a1 : Nat) (cn : Int32) (cf : Nat → Int32) (res : Int32 × (Nat → Int32)) (hq : F_X0_becomeS cn cf = some res) : rwC l yX0_become wsX0_become (rmF 1 40) G g [.ref h1, .ref h1] [(h1, .inr (0, [.int cn, .ref a1])), (a1, .inl (g 0, 96, .inl cf))] none [(h1, .inr (0, [.int res.1, .ref a1])), (a1, .inl (g 0, 96, .inl res.2))] := by
  refine rwC.of (cc := cX0_become) (maxL := 2) (ret := none) (by decide) rfl (Nat.le_of_ble_eq_true rfl) ?_
  intro p e s m below meth c ls A X K hA hP hD hS hl
  obtain ⟨hx, hb, hml, hr, hown, hts, hk⟩ := id X
  have hl : lv_has ls 2 [(0, .ref h1), (1, .ref h1)] := hl
  unfold F_X0_becomeS at hq
  refine lv_aload_n hx hb dX0_become_0 rfl (lv_at hl 0 rfl) ?_
  refine lv_aload_n hx hb dX0_become_1 rfl (lv_at hl 1 rfl) ?_
  refine va_get (D := G) (ci := 0) (v := .int cn) (C := RX0) (T := TX0) (N := 2) hx hb hts in_X0_becomeS_X0 hown K.1 hP 0 rfl rfl 0 (by decide) (hts _ (List.mem_of_getElem? (i := 1) rfl)) (fun _ h9 => h9) rfl dX0_become_2 ?_
  refine va_put (D := G) (ci := 0) (v := .int cn) (ty := .int) (C := RX0) (T := TX0) (N := 2) hx hb hts in_X0_becomeS_X0 tyX0 tyX0_ok nmX0 hown K.1 hP hD hS 0 rfl rfl 0 (by decide) (hts _ (List.mem_of_getElem? (i := 1) rfl)) (fun _ h9 => h9) rfl (by decide +kernel) rfl rfl (Nat.le_of_ble_eq_true rfl) dX0_become_5 (fun H locs hP hD hS => ?_)
  have hP : va_P G vwCl [(h1, .inr (0, [.int cn, .ref a1])), (a1, .inl (g 0, 96, .inl cf))] H := hP
  have hD : va_D A [(h1, .inr (0, [.int cn, .ref a1])), (a1, .inl (g 0, 96, .inl cf))] := hD
  refine lv_aload_n hx hb dX0_become_8 rfl (lv_at hl 1 rfl) ?_
  refine va_get (D := G) (ci := 0) (v := .ref a1) (C := RX0) (T := TX0) (N := 2) hx hb hts in_X0_becomeS_X0 hown K.1 hP 0 rfl rfl 1 (by decide) (hts _ (List.mem_of_getElem? (i := 2) rfl)) (fun _ h9 => h9) rfl dX0_become_9 ?_
  refine lv_iconst (v := 0) hx hb dX0_become_12 (by decide) ?_
  refine lv_aload_n hx hb dX0_become_13 rfl (lv_at hl 0 rfl) ?_
  refine va_get (D := G) (ci := 0) (v := .ref a1) (C := RX0) (T := TX0) (N := 2) hx hb hts in_X0_becomeS_X0 hown K.1 hP 0 rfl rfl 1 (by decide) (hts _ (List.mem_of_getElem? (i := 2) rfl)) (fun _ h9 => h9) rfl dX0_become_14 ?_
  refine lv_iconst (v := 0) hx hb dX0_become_17 (by decide) ?_
  refine lv_aload_n hx hb dX0_become_18 rfl (lv_at hl 0 rfl) ?_
  refine va_get (D := G) (ci := 0) (v := .int cn) (C := RX0) (T := TX0) (N := 2) hx hb hts in_X0_becomeS_X0 hown K.1 hP 0 rfl rfl 0 (by decide) (hts _ (List.mem_of_getElem? (i := 1) rfl)) (fun _ h9 => h9) rfl dX0_become_19 ?_
  refine lv_bipush (v := 6) hx hb dX0_become_22 (by decide) ?_
  refine lv_imul hx hb dX0_become_24 ?_
  obtain ⟨hh1, hq⟩ := q_gd hq
  refine va_copyi hx hb (hml.trans hl.1.symm) hown (hts _ (List.mem_of_getElem? (i := 3) rfl)) (hts _ (List.mem_of_getElem? (i := 4) rfl)) (hts _ (List.mem_of_getElem? (i := 5) rfl)) (hts _ (List.mem_of_getElem? (i := 6) rfl)) K.1 hP hD hS 1 1 0 0 rfl rfl rfl rfl rfl hh1.1 hh1.2.1 hh1.2.2.1 hh1.2.2.2.1 hh1.2.2.2.2 (fun _ _ => rfl) (Nat.le_of_ble_eq_true rfl) (Nat.le_of_ble_eq_true rfl) dX0_become_25 (fun H locs hP hD hS => ?_)
  obtain ⟨f2, ef2⟩ : ∃ y, y = va_cpy cf cf (0 : Int32).toNatClampNeg (0 : Int32).toNatClampNeg (cn * 6).toNatClampNeg := ⟨_, rfl⟩
  have hq := q_let hq ef2
  have hP : va_P G vwCl [(h1, .inr (0, [.int cn, .ref a1])), (a1, .inl (g 0, 96, .inl f2))] H := by rw [ef2]; exact hP
  have hD : va_D A [(h1, .inr (0, [.int cn, .ref a1])), (a1, .inl (g 0, 96, .inl f2))] := by rw [ef2]; exact hD
  obtain rfl := q_rt hq
  exact rw_vret hx hb hr hk hP hD hS dX0_become_28
theorem in_X0_bake_X0 : ∀ w ∈ wsX00, w ∈ wsX0_bake := fun _ h => List.mem_cons_of_mem _ (List.mem_append_right _ h)
def F_X0_bake_23 (cn : Int32) (cf : Nat → Int32) (v1 : Int32) : Nat → (Nat → Int32) → Int32 → Int32 → Option ((Nat → Int32))
  | 0, _, _, _ => none
  | n + 1, rv, v2, v3 => if v1 < v3 then (some (rv)) else (if cn ≤ (v2 + 1) then ((F_X0_valueBehind cn cf v2 v3).bind fun r6 => vgd (ix (v3) 1000) <| vlet (upd rv v3.toNatClampNeg r6) fun f9 => vlet ((v3 : Int32) + 1) fun x10 => F_X0_bake_23 cn cf v1 n f9 v2 x10) else ((F_X0_cell cn cf (v2 + 1) 0).bind fun r11 => if v3 < r11 then ((F_X0_valueBehind cn cf v2 v3).bind fun r14 => vgd (ix (v3) 1000) <| vlet (upd rv v3.toNatClampNeg r14) fun f17 => vlet ((v3 : Int32) + 1) fun x18 => F_X0_bake_23 cn cf v1 n f17 v2 x18) else (vlet ((v2 : Int32) + 1) fun x19 => (F_X0_valueBehind cn cf x19 v3).bind fun r20 => vgd (ix (v3) 1000) <| vlet (upd rv v3.toNatClampNeg r20) fun f23 => vlet ((v3 : Int32) + 1) fun x24 => F_X0_bake_23 cn cf v1 n f23 x19 x24)))
set_option maxHeartbeats 4000000 in
set_option maxRecDepth 100000 in
theorem w_X0_bake_23 {p : Program} {l : Launch} {e : Env} {s : State} {m : MethodId} {args : Array Value} {below : List Frame} {meth : Method} {c : Code} {G : va_G} {g : Nat → ClassId} (X : cx p s m args meth c cX0_bake 6 none RX0 wsX0_bake) (K : amb G g s) {A : Nat → Prop} (hA : ∀ q : Nat, s.heap.size ≤ q → A q) (h1 a1 ra : Nat) (cn : Int32) (cf : Nat → Int32) (v1 : Int32) (res : (Nat → Int32)) : ∀ (n : Nat) (rv : Nat → Int32) (v2 : Int32) (v3 : Int32), F_X0_bake_23 cn cf v1 n rv v2 v3 = some res → ∀ (H : Heap) (locs : List Loc), va_P G vwCl [(h1, .inr (0, [.int cn, .ref a1])), (a1, .inl (g 0, 96, .inl cf)), (ra, .inl (g 0, 1000, .inl rv))] H → va_D A [(h1, .inr (0, [.int cn, .ref a1])), (a1, .inl (g 0, 96, .inl cf)), (ra, .inl (g 0, 1000, .inl rv))] → va_S A s.heap H locs → ∀ (ls : Array Slot), lv_has ls 6 [(0, .ref h1), (1, .ref ra), (3, .int v1), (4, .int v2), (5, .int v3)] → W p l e (rmF 3 80) s m args below meth c H locs 0 0 (rwM G A below none [(h1, .inr (0, [.int cn, .ref a1])), (a1, .inl (g 0, 96, .inl cf)), (ra, .inl (g 0, 1000, .inl res))] args s) (F0 m 23 ls []) := by
  obtain ⟨hx, hb, hml, hr, hown, hts, hk⟩ := id X
  intro n
  induction n with
  | zero => intro rv v2 v3 hq; exact q_no hq
  | succ n ih =>
    intro rv v2 v3 hq H locs hP hD hS ls hl
    rw [F_X0_bake_23] at hq
    refine lv_iload hx hb dX0_bake_23 (lv_at hl 4 rfl) ?_
    refine lv_iload_n hx hb dX0_bake_25 rfl (lv_at hl 2 rfl) ?_
    refine lv_icmp_gt (tgt := 75) hx hb dX0_bake_26 (by decide) (fun c4 => ?_) (fun c4 => ?_)
    · have hq := q_if_t hq c4
      obtain rfl := q_rt hq
      exact rw_vret hx hb hr hk hP hD hS dX0_bake_75
    · have hq := q_if_f hq c4
      refine lv_iload hx hb dX0_bake_29 (lv_at hl 3 rfl) ?_
      refine lv_iconst (v := 1) hx hb dX0_bake_31 (by decide) ?_
      refine lv_iadd hx hb dX0_bake_32 ?_
      refine lv_aload_n hx hb dX0_bake_33 rfl (lv_at hl 0 rfl) ?_
      refine va_get (D := G) (ci := 0) (v := .int cn) (C := RX0) (T := TX0) (N := 2) hx hb hts in_X0_bake_X0 hown K.1 hP 0 rfl rfl 0 (by decide) (hts _ (List.mem_of_getElem? (i := 1) rfl)) (fun _ h9 => h9) rfl dX0_bake_34 ?_
      refine lv_icmp_ge (tgt := 57) hx hb dX0_bake_37 (by decide) (fun c5 => ?_) (fun c5 => ?_)
      · have hq := q_if_t hq c5
        refine lv_aload_n hx hb dX0_bake_57 rfl (lv_at hl 1 rfl) ?_
        refine lv_iload hx hb dX0_bake_58 (lv_at hl 4 rfl) ?_
        refine lv_aload_n hx hb dX0_bake_60 rfl (lv_at hl 0 rfl) ?_
        refine lv_iload hx hb dX0_bake_61 (lv_at hl 3 rfl) ?_
        refine lv_iload hx hb dX0_bake_63 (lv_at hl 4 rfl) ?_
        obtain ⟨r6, hh7, hq⟩ := q_bd hq
        refine roV (ci := 0) (As := [.int v2, .int v3]) (rest := [.int v3, .ref ra]) X K (k_X0_valueBehind l G g h1 a1 cn cf v2 v3 _ hh7) hd_X0_valueBehind gX0_bake_X0_valueBehind (hP.sub [0, 1] rfl) hl.1 dX0_bake_65 rfl rfl ⟨Nat.le_of_ble_eq_true rfl, Nat.le_of_ble_eq_true rfl⟩ rfl rfl rfl (Nat.le_of_ble_eq_true rfl) ⟨Nat.zero_le _, Nat.zero_le _⟩ ?_
        obtain ⟨hh8, hq⟩ := q_gd hq
        refine va_iast hx hb K.1 hP hD hS 2 0 rfl rfl (vp_in_iff.mpr hh8) dX0_bake_68 (fun H locs hP hD hS => ?_)
        obtain ⟨f9, ef9⟩ : ∃ y, y = upd rv v3.toNatClampNeg r6 := ⟨_, rfl⟩
        have hq := q_let hq ef9
        have hP : va_P G vwCl [(h1, .inr (0, [.int cn, .ref a1])), (a1, .inl (g 0, 96, .inl cf)), (ra, .inl (g 0, 1000, .inl f9))] H := by rw [ef9]; exact hP
        have hD : va_D A [(h1, .inr (0, [.int cn, .ref a1])), (a1, .inl (g 0, 96, .inl cf)), (ra, .inl (g 0, 1000, .inl f9))] := by rw [ef9]; exact hD
        obtain ⟨x10, ex10⟩ : ∃ y : Int32, y = (v3 : Int32) + 1 := ⟨_, rfl⟩
        have hq := q_let hq ex10
        refine lv_iinc (v := x10) (lv' := [(5, .int x10), (0, .ref h1), (1, .ref ra), (3, .int v1), (4, .int v2)]) hx hb dX0_bake_69 hl (k := 4) rfl (by rw [ex10]; rfl) (by decide) rfl (fun ls hl => ?_)
        refine lv_goto (tgt := 23) hx hb dX0_bake_72 (by decide) ?_
        exact ih f9 v2 x10 hq _ _ hP hD hS ls (lv_sub hl [1, 2, 3, 4, 0] rfl)
      · have hq := q_if_f hq c5
        refine lv_aload_n hx hb dX0_bake_40 rfl (lv_at hl 0 rfl) ?_
        refine lv_iload hx hb dX0_bake_41 (lv_at hl 3 rfl) ?_
        refine lv_iconst (v := 1) hx hb dX0_bake_43 (by decide) ?_
        refine lv_iadd hx hb dX0_bake_44 ?_
        refine lv_iconst (v := 0) hx hb dX0_bake_45 (by decide) ?_
        obtain ⟨r11, hh12, hq⟩ := q_bd hq
        refine roV (ci := 0) (As := [.int (v2 + 1), .int 0]) (rest := []) X K (k_X0_cell l G g h1 a1 cn cf (v2 + 1) 0 _ hh12) hd_X0_cell gX0_bake_X0_cell (hP.sub [0, 1] rfl) hl.1 dX0_bake_46 rfl rfl ⟨Nat.le_of_ble_eq_true rfl, Nat.le_of_ble_eq_true rfl⟩ rfl rfl rfl (Nat.le_of_ble_eq_true rfl) ⟨Nat.zero_le _, Nat.zero_le _⟩ ?_
        refine lv_iload hx hb dX0_bake_49 (lv_at hl 4 rfl) ?_
        refine lv_icmp_gt (tgt := 57) hx hb dX0_bake_51 (by decide) (fun c13 => ?_) (fun c13 => ?_)
        · have hq := q_if_t hq c13
          refine lv_aload_n hx hb dX0_bake_57 rfl (lv_at hl 1 rfl) ?_
          refine lv_iload hx hb dX0_bake_58 (lv_at hl 4 rfl) ?_
          refine lv_aload_n hx hb dX0_bake_60 rfl (lv_at hl 0 rfl) ?_
          refine lv_iload hx hb dX0_bake_61 (lv_at hl 3 rfl) ?_
          refine lv_iload hx hb dX0_bake_63 (lv_at hl 4 rfl) ?_
          obtain ⟨r14, hh15, hq⟩ := q_bd hq
          refine roV (ci := 0) (As := [.int v2, .int v3]) (rest := [.int v3, .ref ra]) X K (k_X0_valueBehind l G g h1 a1 cn cf v2 v3 _ hh15) hd_X0_valueBehind gX0_bake_X0_valueBehind (hP.sub [0, 1] rfl) hl.1 dX0_bake_65 rfl rfl ⟨Nat.le_of_ble_eq_true rfl, Nat.le_of_ble_eq_true rfl⟩ rfl rfl rfl (Nat.le_of_ble_eq_true rfl) ⟨Nat.zero_le _, Nat.zero_le _⟩ ?_
          obtain ⟨hh16, hq⟩ := q_gd hq
          refine va_iast hx hb K.1 hP hD hS 2 0 rfl rfl (vp_in_iff.mpr hh16) dX0_bake_68 (fun H locs hP hD hS => ?_)
          obtain ⟨f17, ef17⟩ : ∃ y, y = upd rv v3.toNatClampNeg r14 := ⟨_, rfl⟩
          have hq := q_let hq ef17
          have hP : va_P G vwCl [(h1, .inr (0, [.int cn, .ref a1])), (a1, .inl (g 0, 96, .inl cf)), (ra, .inl (g 0, 1000, .inl f17))] H := by rw [ef17]; exact hP
          have hD : va_D A [(h1, .inr (0, [.int cn, .ref a1])), (a1, .inl (g 0, 96, .inl cf)), (ra, .inl (g 0, 1000, .inl f17))] := by rw [ef17]; exact hD
          obtain ⟨x18, ex18⟩ : ∃ y : Int32, y = (v3 : Int32) + 1 := ⟨_, rfl⟩
          have hq := q_let hq ex18
          refine lv_iinc (v := x18) (lv' := [(5, .int x18), (0, .ref h1), (1, .ref ra), (3, .int v1), (4, .int v2)]) hx hb dX0_bake_69 hl (k := 4) rfl (by rw [ex18]; rfl) (by decide) rfl (fun ls hl => ?_)
          refine lv_goto (tgt := 23) hx hb dX0_bake_72 (by decide) ?_
          exact ih f17 v2 x18 hq _ _ hP hD hS ls (lv_sub hl [1, 2, 3, 4, 0] rfl)
        · have hq := q_if_f hq c13
          obtain ⟨x19, ex19⟩ : ∃ y : Int32, y = (v2 : Int32) + 1 := ⟨_, rfl⟩
          have hq := q_let hq ex19
          refine lv_iinc (v := x19) (lv' := [(4, .int x19), (0, .ref h1), (1, .ref ra), (3, .int v1), (5, .int v3)]) hx hb dX0_bake_54 hl (k := 3) rfl (by rw [ex19]; rfl) (by decide) rfl (fun ls hl => ?_)
          refine lv_aload_n hx hb dX0_bake_57 rfl (lv_at hl 2 rfl) ?_
          refine lv_iload hx hb dX0_bake_58 (lv_at hl 4 rfl) ?_
          refine lv_aload_n hx hb dX0_bake_60 rfl (lv_at hl 1 rfl) ?_
          refine lv_iload hx hb dX0_bake_61 (lv_at hl 0 rfl) ?_
          refine lv_iload hx hb dX0_bake_63 (lv_at hl 4 rfl) ?_
          obtain ⟨r20, hh21, hq⟩ := q_bd hq
          refine roV (ci := 0) (As := [.int x19, .int v3]) (rest := [.int v3, .ref ra]) X K (k_X0_valueBehind l G g h1 a1 cn cf x19 v3 _ hh21) hd_X0_valueBehind gX0_bake_X0_valueBehind (hP.sub [0, 1] rfl) hl.1 dX0_bake_65 rfl rfl ⟨Nat.le_of_ble_eq_true rfl, Nat.le_of_ble_eq_true rfl⟩ rfl rfl rfl (Nat.le_of_ble_eq_true rfl) ⟨Nat.zero_le _, Nat.zero_le _⟩ ?_
          obtain ⟨hh22, hq⟩ := q_gd hq
          refine va_iast hx hb K.1 hP hD hS 2 0 rfl rfl (vp_in_iff.mpr hh22) dX0_bake_68 (fun H locs hP hD hS => ?_)
          obtain ⟨f23, ef23⟩ : ∃ y, y = upd rv v3.toNatClampNeg r20 := ⟨_, rfl⟩
          have hq := q_let hq ef23
          have hP : va_P G vwCl [(h1, .inr (0, [.int cn, .ref a1])), (a1, .inl (g 0, 96, .inl cf)), (ra, .inl (g 0, 1000, .inl f23))] H := by rw [ef23]; exact hP
          have hD : va_D A [(h1, .inr (0, [.int cn, .ref a1])), (a1, .inl (g 0, 96, .inl cf)), (ra, .inl (g 0, 1000, .inl f23))] := by rw [ef23]; exact hD
          obtain ⟨x24, ex24⟩ : ∃ y : Int32, y = (v3 : Int32) + 1 := ⟨_, rfl⟩
          have hq := q_let hq ex24
          refine lv_iinc (v := x24) (lv' := [(5, .int x24), (4, .int x19), (0, .ref h1), (1, .ref ra), (3, .int v1)]) hx hb dX0_bake_69 hl (k := 4) rfl (by rw [ex24]; rfl) (by decide) rfl (fun ls hl => ?_)
          refine lv_goto (tgt := 23) hx hb dX0_bake_72 (by decide) ?_
          exact ih f23 x19 x24 hq _ _ hP hD hS ls (lv_sub hl [2, 3, 4, 1, 0] rfl)
def F_X0_bake (cn : Int32) (cf : Nat → Int32) (rv : Nat → Int32) (p2 : Int32) (p3 : Int32) : Option ((Nat → Int32)) := if p2 < 0 then (some (rv)) else (if p3 < 1000 then ((F_X0_countUpTo cn cf p2).bind fun r3 => vlet (r3 - 1) fun x5 => F_X0_bake_23 cn cf p3 2000 rv x5 p2) else (some (rv)))
set_option maxHeartbeats 4000000 in
set_option maxRecDepth 100000 in
theorem k_X0_bake (l : Launch) (G : va_G) (g : Nat → ClassId) (h1 a1 ra : Nat) (cn : Int32) (cf : Nat → Int32) (rv : Nat → Int32) (p2 : Int32) (p3 : Int32) (res : (Nat → Int32)) (hq : F_X0_bake cn cf rv p2 p3 = some res) : rwC l yX0_bake wsX0_bake (rmF 3 80) G g [.ref h1, .ref ra, .int p2, .int p3] [(h1, .inr (0, [.int cn, .ref a1])), (a1, .inl (g 0, 96, .inl cf)), (ra, .inl (g 0, 1000, .inl rv))] none [(h1, .inr (0, [.int cn, .ref a1])), (a1, .inl (g 0, 96, .inl cf)), (ra, .inl (g 0, 1000, .inl res))] := by
  refine rwC.of (cc := cX0_bake) (maxL := 6) (ret := none) (by decide) rfl (Nat.le_of_ble_eq_true rfl) ?_
  intro p e s m below meth c ls A X K hA hP hD hS hl
  obtain ⟨hx, hb, hml, hr, hown, hts, hk⟩ := id X
  have hl : lv_has ls 6 [(0, .ref h1), (1, .ref ra), (2, .int p2), (3, .int p3)] := hl
  unfold F_X0_bake at hq
  refine lv_iload_n hx hb dX0_bake_0 rfl (lv_at hl 2 rfl) ?_
  refine lv_if_lt (tgt := 10) hx hb dX0_bake_1 (by decide) (fun c1 => ?_) (fun c1 => ?_)
  · have hq := q_if_t hq c1
    obtain rfl := q_rt hq
    exact rw_vret hx hb hr hk hP hD hS dX0_bake_10
  · have hq := q_if_f hq c1
    refine lv_iload_n hx hb dX0_bake_4 rfl (lv_at hl 3 rfl) ?_
    refine lv_aload_n hx hb dX0_bake_5 rfl (lv_at hl 1 rfl) ?_
    refine va_alen (v := 1000) hx hb K.1 hP 2 0 rfl rfl rfl dX0_bake_6 ?_
    refine lv_icmp_lt (tgt := 11) hx hb dX0_bake_7 (by decide) (fun c2 => ?_) (fun c2 => ?_)
    · have hq := q_if_t hq c2
      refine lv_aload_n hx hb dX0_bake_11 rfl (lv_at hl 0 rfl) ?_
      refine lv_iload_n hx hb dX0_bake_12 rfl (lv_at hl 2 rfl) ?_
      obtain ⟨r3, hh4, hq⟩ := q_bd hq
      refine roV (ci := 0) (As := [.int p2]) (rest := []) X K (k_X0_countUpTo l G g h1 a1 cn cf p2 _ hh4) hd_X0_countUpTo gX0_bake_X0_countUpTo (hP.sub [0, 1] rfl) hl.1 dX0_bake_13 rfl rfl ⟨Nat.le_of_ble_eq_true rfl, Nat.le_of_ble_eq_true rfl⟩ rfl rfl rfl (Nat.le_of_ble_eq_true rfl) ⟨Nat.zero_le _, Nat.zero_le _⟩ ?_
      refine lv_iconst (v := 1) hx hb dX0_bake_16 (by decide) ?_
      refine lv_isub hx hb dX0_bake_17 ?_
      refine lv_topi (fun x5 ex5 => ?_)
      have hq := q_let hq ex5
      refine lv_istore (lv' := [(4, .int x5), (0, .ref h1), (1, .ref ra), (2, .int p2), (3, .int p3)]) hx hb dX0_bake_18 hl (by decide) rfl (fun ls hl => ?_)
      refine lv_iload_n hx hb dX0_bake_20 rfl (lv_at hl 3 rfl) ?_
      refine lv_istore (lv' := [(5, .int p2), (4, .int x5), (0, .ref h1), (1, .ref ra), (2, .int p2), (3, .int p3)]) hx hb dX0_bake_21 hl (by decide) rfl (fun ls hl => ?_)
      exact w_X0_bake_23 X K hA h1 a1 ra cn cf p3 _ 2000 rv x5 p2 hq _ _ hP hD hS ls (lv_sub hl [2, 3, 5, 1, 0] rfl)
    · have hq := q_if_f hq c2
      obtain rfl := q_rt hq
      exact rw_vret hx hb hr hk hP hD hS dX0_bake_10
end
section
def vq4 (a b c d : Nat) : Nat → Option Nat := fun k => if k = 0 then some a else if k = 1 then some b else if k = 2 then some c else if k = 3 then some d else none
theorem in_X1_add_X1 : ∀ w ∈ wsX10, w ∈ wsX1_add := fun _ h => List.mem_cons_of_mem _ (List.mem_append_right _ h)
def F_X1_add (tl : Int32) (tb : Nat → Int32) (p1 : Int32) : Option (Int32 × (Nat → Int32)) := if (150 : Int32) ≤ tl then (some (tl, tb)) else (vgd (ix (tl) 150) <| vlet (upd tb tl.toNatClampNeg (vp_nar .byte (p1.toInt8.toInt32))) fun f3 => vlet (tl + 1) fun x4 => some (x4, f3))
set_option maxHeartbeats 4000000 in
set_option maxRecDepth 100000 in
theorem k_X1_add (l : Launch) (G : va_G) (g : Nat → ClassId) (t1 b1 : Nat) (tl : Int32) (ta : Int32) (tb : Nat → Int32) (p1 : Int32) (res : Int32 × (Nat → Int32)) (hq : F_X1_add tl tb p1 = some res) : rwC l yX1_add wsX1_add (rmF 0 0) G g [.ref t1, .int p1] [(t1, .inr (1, [.ref b1, .int tl, .int ta])), (b1, .inl (g 1, 150, .inl tb))] none [(t1, .inr (1, [.ref b1, .int res.1, .int ta])), (b1, .inl (g 1, 150, .inl res.2))] := by
  refine rwC.of (cc := cX1_add) (maxL := 2) (ret := none) (by decide) rfl (Nat.le_of_ble_eq_true rfl) ?_
  intro p e s m below meth c ls A X K hA hP hD hS hl
  obtain ⟨hx, hb, hml, hr, hown, hts, hk⟩ := id X
  have hl : lv_has ls 2 [(0, .ref t1), (1, .int p1)] := hl
  unfold F_X1_add at hq
  refine lv_aload_n hx hb dX1_add_0 rfl (lv_at hl 0 rfl) ?_
  refine va_get (D := G) (ci := 1) (v := .int tl) (C := RX1) (T := TX1) (N := 3) hx hb hts in_X1_add_X1 hown K.1 hP 0 rfl rfl 1 (by decide) (hts _ (List.mem_of_getElem? (i := 1) rfl)) (fun _ h9 => h9) rfl dX1_add_1 ?_
  refine lv_sipush (v := 150) hx hb dX1_add_4 (by decide) ?_
  refine lv_icmp_ge (tgt := 31) hx hb dX1_add_7 (by decide) (fun c1 => ?_) (fun c1 => ?_)
  · have hq := q_if_t hq c1
    obtain rfl := q_rt hq
    exact rw_vret hx hb hr hk hP hD hS dX1_add_31
  · have hq := q_if_f hq c1
    refine lv_aload_n hx hb dX1_add_10 rfl (lv_at hl 0 rfl) ?_
    refine va_get (D := G) (ci := 1) (v := .ref b1) (C := RX1) (T := TX1) (N := 3) hx hb hts in_X1_add_X1 hown K.1 hP 0 rfl rfl 0 (by decide) (hts _ (List.mem_of_getElem? (i := 2) rfl)) (fun _ h9 => h9) rfl dX1_add_11 ?_
    refine lv_aload_n hx hb dX1_add_14 rfl (lv_at hl 0 rfl) ?_
    refine va_get (D := G) (ci := 1) (v := .int tl) (C := RX1) (T := TX1) (N := 3) hx hb hts in_X1_add_X1 hown K.1 hP 0 rfl rfl 1 (by decide) (hts _ (List.mem_of_getElem? (i := 1) rfl)) (fun _ h9 => h9) rfl dX1_add_15 ?_
    refine lv_iload_n hx hb dX1_add_18 rfl (lv_at hl 1 rfl) ?_
    refine lv_i2b (v := p1.toInt8.toInt32) hx hb dX1_add_19 rfl ?_
    obtain ⟨hh2, hq⟩ := q_gd hq
    refine va_bast hx hb K.1 hP hD hS 1 1 rfl rfl (vp_in_iff.mpr hh2) dX1_add_20 (fun H locs hP hD hS => ?_)
    obtain ⟨f3, ef3⟩ : ∃ y, y = upd tb tl.toNatClampNeg (vp_nar .byte (p1.toInt8.toInt32)) := ⟨_, rfl⟩
    have hq := q_let hq ef3
    have hP : va_P G vwCl [(t1, .inr (1, [.ref b1, .int tl, .int ta])), (b1, .inl (g 1, 150, .inl f3))] H := by rw [ef3]; exact hP
    have hD : va_D A [(t1, .inr (1, [.ref b1, .int tl, .int ta])), (b1, .inl (g 1, 150, .inl f3))] := by rw [ef3]; exact hD
    refine lv_aload_n hx hb dX1_add_21 rfl (lv_at hl 0 rfl) ?_
    refine lv_dup hx hb dX1_add_22 rfl ?_
    refine va_get (D := G) (ci := 1) (v := .int tl) (C := RX1) (T := TX1) (N := 3) hx hb hts in_X1_add_X1 hown K.1 hP 0 rfl rfl 1 (by decide) (hts _ (List.mem_of_getElem? (i := 1) rfl)) (fun _ h9 => h9) rfl dX1_add_23 ?_
    refine lv_iconst (v := 1) hx hb dX1_add_26 (by decide) ?_
    refine lv_iadd hx hb dX1_add_27 ?_
    refine lv_topi (fun x4 ex4 => ?_)
    have hq := q_let hq ex4
    refine va_put (D := G) (ci := 1) (v := .int x4) (ty := .int) (C := RX1) (T := TX1) (N := 3) hx hb hts in_X1_add_X1 tyX1 tyX1_ok nmX1 hown K.1 hP hD hS 0 rfl rfl 1 (by decide) (hts _ (List.mem_of_getElem? (i := 1) rfl)) (fun _ h9 => h9) rfl (by decide +kernel) rfl rfl (Nat.le_of_ble_eq_true rfl) dX1_add_28 (fun H locs hP hD hS => ?_)
    have hP : va_P G vwCl [(t1, .inr (1, [.ref b1, .int x4, .int ta])), (b1, .inl (g 1, 150, .inl f3))] H := hP
    have hD : va_D A [(t1, .inr (1, [.ref b1, .int x4, .int ta])), (b1, .inl (g 1, 150, .inl f3))] := hD
    obtain rfl := q_rt hq
    exact rw_vret hx hb hr hk hP hD hS dX1_add_31
theorem in_X1_isSign_X1 : ∀ w ∈ wsX10, w ∈ wsX1_isSign := fun _ h => List.mem_cons_of_mem _ (List.mem_append_right _ h)
def F_X1_isSign (tl : Int32) (tb : Nat → Int32) (p1 : Int32) (p2 : Int32) (p3 : Int32) : Option (Int32) := if p1 < 0 then (some (0)) else (if tl ≤ p1 then (some (0)) else (vgd (ix (p1) 150) <| if (tb p1.toNatClampNeg) < p2 then (some (0)) else (vgd (ix (p1) 150) <| if p3 < (tb p1.toNatClampNeg) then (some (0)) else (some (1)))))
set_option maxHeartbeats 4000000 in
set_option maxRecDepth 100000 in
theorem k_X1_isSign (l : Launch) (G : va_G) (g : Nat → ClassId) (t1 b1 : Nat) (tl : Int32) (ta : Int32) (tb : Nat → Int32) (p1 : Int32) (p2 : Int32) (p3 : Int32) (res : Int32) (hq : F_X1_isSign tl tb p1 p2 p3 = some res) : roC l yX1_isSign wsX1_isSign (rmF 0 0) G g [.ref t1, .int p1, .int p2, .int p3] [(t1, .inr (1, [.ref b1, .int tl, .int ta])), (b1, .inl (g 1, 150, .inl tb))] (some (.int res)) := by
  refine roC.of (cc := cX1_isSign) (maxL := 4) (ret := (some .boolean)) (by decide) rfl (Nat.le_of_ble_eq_true rfl) ?_
  intro p e s m below meth c ls X K hP hl
  obtain ⟨hx, hb, hml, hr, hown, hts, hk⟩ := id X
  have hl : lv_has ls 4 [(0, .ref t1), (1, .int p1), (2, .int p2), (3, .int p3)] := hl
  unfold F_X1_isSign at hq
  refine lv_iload_n hx hb dX1_isSign_0 rfl (lv_at hl 1 rfl) ?_
  refine lv_if_lt (tgt := 36) hx hb dX1_isSign_1 (by decide) (fun c1 => ?_) (fun c1 => ?_)
  · have hq := q_if_t hq c1
    refine lv_iconst (v := 0) hx hb dX1_isSign_36 (by decide) ?_
    obtain rfl := q_rt hq
    exact ro_zret hx hb hr nz_0 hk dX1_isSign_37
  · have hq := q_if_f hq c1
    refine lv_iload_n hx hb dX1_isSign_4 rfl (lv_at hl 1 rfl) ?_
    refine lv_aload_n hx hb dX1_isSign_5 rfl (lv_at hl 0 rfl) ?_
    refine va_get (D := G) (ci := 1) (v := .int tl) (C := RX1) (T := TX1) (N := 3) hx hb hts in_X1_isSign_X1 hown K.1 hP 0 rfl rfl 1 (by decide) (hts _ (List.mem_of_getElem? (i := 1) rfl)) (fun _ h9 => h9) rfl dX1_isSign_6 ?_
    refine lv_icmp_ge (tgt := 36) hx hb dX1_isSign_9 (by decide) (fun c2 => ?_) (fun c2 => ?_)
    · have hq := q_if_t hq c2
      refine lv_iconst (v := 0) hx hb dX1_isSign_36 (by decide) ?_
      obtain rfl := q_rt hq
      exact ro_zret hx hb hr nz_0 hk dX1_isSign_37
    · have hq := q_if_f hq c2
      refine lv_aload_n hx hb dX1_isSign_12 rfl (lv_at hl 0 rfl) ?_
      refine va_get (D := G) (ci := 1) (v := .ref b1) (C := RX1) (T := TX1) (N := 3) hx hb hts in_X1_isSign_X1 hown K.1 hP 0 rfl rfl 0 (by decide) (hts _ (List.mem_of_getElem? (i := 2) rfl)) (fun _ h9 => h9) rfl dX1_isSign_13 ?_
      refine lv_iload_n hx hb dX1_isSign_16 rfl (lv_at hl 1 rfl) ?_
      obtain ⟨hh3, hq⟩ := q_gd hq
      refine va_bald hx hb K.1 hP 1 1 rfl rfl (vp_in_iff.mpr hh3) dX1_isSign_17 ?_
      refine lv_iload_n hx hb dX1_isSign_18 rfl (lv_at hl 2 rfl) ?_
      refine lv_icmp_lt (tgt := 36) hx hb dX1_isSign_19 (by decide) (fun c4 => ?_) (fun c4 => ?_)
      · have hq := q_if_t hq c4
        refine lv_iconst (v := 0) hx hb dX1_isSign_36 (by decide) ?_
        obtain rfl := q_rt hq
        exact ro_zret hx hb hr nz_0 hk dX1_isSign_37
      · have hq := q_if_f hq c4
        refine lv_aload_n hx hb dX1_isSign_22 rfl (lv_at hl 0 rfl) ?_
        refine va_get (D := G) (ci := 1) (v := .ref b1) (C := RX1) (T := TX1) (N := 3) hx hb hts in_X1_isSign_X1 hown K.1 hP 0 rfl rfl 0 (by decide) (hts _ (List.mem_of_getElem? (i := 2) rfl)) (fun _ h9 => h9) rfl dX1_isSign_23 ?_
        refine lv_iload_n hx hb dX1_isSign_26 rfl (lv_at hl 1 rfl) ?_
        obtain ⟨hh5, hq⟩ := q_gd hq
        refine va_bald hx hb K.1 hP 1 1 rfl rfl (vp_in_iff.mpr hh5) dX1_isSign_27 ?_
        refine lv_iload_n hx hb dX1_isSign_28 rfl (lv_at hl 3 rfl) ?_
        refine lv_icmp_gt (tgt := 36) hx hb dX1_isSign_29 (by decide) (fun c6 => ?_) (fun c6 => ?_)
        · have hq := q_if_t hq c6
          refine lv_iconst (v := 0) hx hb dX1_isSign_36 (by decide) ?_
          obtain rfl := q_rt hq
          exact ro_zret hx hb hr nz_0 hk dX1_isSign_37
        · have hq := q_if_f hq c6
          refine lv_iconst (v := 1) hx hb dX1_isSign_32 (by decide) ?_
          refine lv_goto (tgt := 37) hx hb dX1_isSign_33 (by decide) ?_
          obtain rfl := q_rt hq
          exact ro_zret hx hb hr nz_1 hk dX1_isSign_37
theorem hd_X1_isSign : ynm yX1_isSign 3 := by unfold ynm; decide +kernel
theorem in_X1_skip_X1 : ∀ w ∈ wsX10, w ∈ wsX1_skip := fun _ h => List.mem_cons_of_mem _ (List.mem_append_right _ h)
def F_X1_skip (tl : Int32) (ta : Int32) (tb : Nat → Int32) (p1 : Int32) : Option (Int32 × Int32) := (F_X1_isSign tl tb ta p1 p1).bind fun r1 => if r1 = 0 then (some (0, ta)) else (vlet (ta + 1) fun x4 => some (1, x4))
set_option maxHeartbeats 4000000 in
set_option maxRecDepth 100000 in
theorem k_X1_skip (l : Launch) (G : va_G) (g : Nat → ClassId) (t1 b1 : Nat) (tl : Int32) (ta : Int32) (tb : Nat → Int32) (p1 : Int32) (res : Int32 × Int32) (hq : F_X1_skip tl ta tb p1 = some res) : rwC l yX1_skip wsX1_skip (rmF 1 23) G g [.ref t1, .int p1] [(t1, .inr (1, [.ref b1, .int tl, .int ta])), (b1, .inl (g 1, 150, .inl tb))] (some (.int res.1)) [(t1, .inr (1, [.ref b1, .int tl, .int res.2])), (b1, .inl (g 1, 150, .inl tb))] := by
  refine rwC.of (cc := cX1_skip) (maxL := 2) (ret := (some .boolean)) (by decide) rfl (Nat.le_of_ble_eq_true rfl) ?_
  intro p e s m below meth c ls A X K hA hP hD hS hl
  obtain ⟨hx, hb, hml, hr, hown, hts, hk⟩ := id X
  have hl : lv_has ls 2 [(0, .ref t1), (1, .int p1)] := hl
  unfold F_X1_skip at hq
  refine lv_aload_n hx hb dX1_skip_0 rfl (lv_at hl 0 rfl) ?_
  refine lv_aload_n hx hb dX1_skip_1 rfl (lv_at hl 0 rfl) ?_
  refine va_get (D := G) (ci := 1) (v := .int ta) (C := RX1) (T := TX1) (N := 3) hx hb hts in_X1_skip_X1 hown K.1 hP 0 rfl rfl 2 (by decide) (hts _ (List.mem_of_getElem? (i := 1) rfl)) (fun _ h9 => h9) rfl dX1_skip_2 ?_
  refine lv_iload_n hx hb dX1_skip_5 rfl (lv_at hl 1 rfl) ?_
  refine lv_iload_n hx hb dX1_skip_6 rfl (lv_at hl 1 rfl) ?_
  obtain ⟨r1, hh2, hq⟩ := q_bd hq
  refine roV (ci := 1) (As := [.int ta, .int p1, .int p1]) (rest := []) X K (k_X1_isSign l G g t1 b1 tl ta tb ta p1 p1 _ hh2) hd_X1_isSign gX1_skip_X1_isSign hP hl.1 dX1_skip_7 rfl rfl ⟨Nat.le_of_ble_eq_true rfl, Nat.le_of_ble_eq_true rfl⟩ rfl rfl rfl (Nat.le_of_ble_eq_true rfl) ⟨Nat.zero_le _, Nat.zero_le _⟩ ?_
  refine lv_if_ne (tgt := 15) hx hb dX1_skip_10 (by decide) (fun c3 => ?_) (fun c3 => ?_)
  · have hq := q_if_f hq c3
    refine lv_aload_n hx hb dX1_skip_15 rfl (lv_at hl 0 rfl) ?_
    refine lv_dup hx hb dX1_skip_16 rfl ?_
    refine va_get (D := G) (ci := 1) (v := .int ta) (C := RX1) (T := TX1) (N := 3) hx hb hts in_X1_skip_X1 hown K.1 hP 0 rfl rfl 2 (by decide) (hts _ (List.mem_of_getElem? (i := 1) rfl)) (fun _ h9 => h9) rfl dX1_skip_17 ?_
    refine lv_iconst (v := 1) hx hb dX1_skip_20 (by decide) ?_
    refine lv_iadd hx hb dX1_skip_21 ?_
    refine lv_topi (fun x4 ex4 => ?_)
    have hq := q_let hq ex4
    refine va_put (D := G) (ci := 1) (v := .int x4) (ty := .int) (C := RX1) (T := TX1) (N := 3) hx hb hts in_X1_skip_X1 tyX1 tyX1_ok nmX1 hown K.1 hP hD hS 0 rfl rfl 2 (by decide) (hts _ (List.mem_of_getElem? (i := 1) rfl)) (fun _ h9 => h9) rfl (by decide +kernel) rfl rfl (Nat.le_of_ble_eq_true rfl) dX1_skip_22 (fun H locs hP hD hS => ?_)
    have hP : va_P G vwCl [(t1, .inr (1, [.ref b1, .int tl, .int x4])), (b1, .inl (g 1, 150, .inl tb))] H := hP
    have hD : va_D A [(t1, .inr (1, [.ref b1, .int tl, .int x4])), (b1, .inl (g 1, 150, .inl tb))] := hD
    refine lv_iconst (v := 1) hx hb dX1_skip_25 (by decide) ?_
    obtain rfl := q_rt hq
    exact rw_zret hx hb hr nz_1 hk hP hD hS dX1_skip_26
  · have hq := q_if_t hq c3
    refine lv_iconst (v := 0) hx hb dX1_skip_13 (by decide) ?_
    obtain rfl := q_rt hq
    exact rw_zret hx hb hr nz_0 hk hP hD hS dX1_skip_14
theorem hd_X1_skip : ynm yX1_skip 1 := by unfold ynm; decide +kernel
def F_X1_readMode (tl : Int32) (ta : Int32) (tb : Nat → Int32) : Option (Int32 × Int32) := (F_X1_skip tl ta tb 115).bind fun o4 => if o4.1 = 0 then ((F_X1_skip tl o4.2 tb 118).bind fun o9 => if o9.1 = 0 then (some (0, o9.2)) else (some (2, o9.2))) else (some (1, o4.2))
set_option maxHeartbeats 4000000 in
set_option maxRecDepth 100000 in
theorem k_X1_readMode (l : Launch) (G : va_G) (g : Nat → ClassId) (t1 b1 : Nat) (tl : Int32) (ta : Int32) (tb : Nat → Int32) (res : Int32 × Int32) (hq : F_X1_readMode tl ta tb = some res) : rwC l yX1_readMode wsX1_readMode (rmF 2 44) G g [.ref t1] [(t1, .inr (1, [.ref b1, .int tl, .int ta])), (b1, .inl (g 1, 150, .inl tb))] (some (.int res.1)) [(t1, .inr (1, [.ref b1, .int tl, .int res.2])), (b1, .inl (g 1, 150, .inl tb))] := by
  refine rwC.of (cc := cX1_readMode) (maxL := 1) (ret := (some .int)) (by decide) rfl (Nat.le_of_ble_eq_true rfl) ?_
  intro p e s m below meth c ls A X K hA hP hD hS hl
  obtain ⟨hx, hb, hml, hr, hown, hts, hk⟩ := id X
  have hl : lv_has ls 1 [(0, .ref t1)] := hl
  unfold F_X1_readMode at hq
  refine lv_aload_n hx hb dX1_readMode_0 rfl (lv_at hl 0 rfl) ?_
  refine lv_bipush (v := 115) hx hb dX1_readMode_1 (by decide) ?_
  obtain ⟨⟨r1, y2⟩, hh3, hq⟩ := q_bd hq
  refine rwV (ci := 1) (wr := []) (As := [.int 115]) (rest := []) X K (k_X1_skip l G g t1 b1 tl ta tb 115 _ hh3) hd_X1_skip gX1_readMode_X1_skip hP hD hS hA [0, 1] [] rfl rfl ⟨by decide, by decide, by decide⟩ hl.1 dX1_readMode_3 rfl rfl ⟨Nat.le_of_ble_eq_true rfl, Nat.le_of_ble_eq_true rfl⟩ rfl rfl rfl (Nat.le_of_ble_eq_true rfl) ⟨Nat.zero_le _, Nat.zero_le _⟩ (fun H locs hP hD hS => ?_)
  have hP : va_P G vwCl [(t1, .inr (1, [.ref b1, .int tl, .int y2])), (b1, .inl (g 1, 150, .inl tb))] H := hP
  have hD : va_D A [(t1, .inr (1, [.ref b1, .int tl, .int y2])), (b1, .inl (g 1, 150, .inl tb))] := hD
  refine lv_if_eq (tgt := 11) hx hb dX1_readMode_6 (by decide) (fun c5 => ?_) (fun c5 => ?_)
  · have hq := q_if_t hq c5
    refine lv_aload_n hx hb dX1_readMode_11 rfl (lv_at hl 0 rfl) ?_
    refine lv_bipush (v := 118) hx hb dX1_readMode_12 (by decide) ?_
    obtain ⟨⟨r6, y7⟩, hh8, hq⟩ := q_bd hq
    refine rwV (ci := 1) (wr := []) (As := [.int 118]) (rest := []) X K (k_X1_skip l G g t1 b1 tl y2 tb 118 _ hh8) hd_X1_skip gX1_readMode_X1_skip hP hD hS hA [0, 1] [] rfl rfl ⟨by decide, by decide, by decide⟩ hl.1 dX1_readMode_14 rfl rfl ⟨Nat.le_of_ble_eq_true rfl, Nat.le_of_ble_eq_true rfl⟩ rfl rfl rfl (Nat.le_of_ble_eq_true rfl) ⟨Nat.zero_le _, Nat.zero_le _⟩ (fun H locs hP hD hS => ?_)
    have hP : va_P G vwCl [(t1, .inr (1, [.ref b1, .int tl, .int y7])), (b1, .inl (g 1, 150, .inl tb))] H := hP
    have hD : va_D A [(t1, .inr (1, [.ref b1, .int tl, .int y7])), (b1, .inl (g 1, 150, .inl tb))] := hD
    refine lv_if_eq (tgt := 24) hx hb dX1_readMode_17 (by decide) (fun c10 => ?_) (fun c10 => ?_)
    · have hq := q_if_t hq c10
      refine lv_iconst (v := 0) hx hb dX1_readMode_24 (by decide) ?_
      obtain rfl := q_rt hq
      exact rw_iret hx hb hr hk hP hD hS dX1_readMode_25
    · have hq := q_if_f hq c10
      refine lv_iconst (v := 2) hx hb dX1_readMode_20 (by decide) ?_
      refine lv_goto (tgt := 25) hx hb dX1_readMode_21 (by decide) ?_
      obtain rfl := q_rt hq
      exact rw_iret hx hb hr hk hP hD hS dX1_readMode_25
  · have hq := q_if_f hq c5
    refine lv_iconst (v := 1) hx hb dX1_readMode_9 (by decide) ?_
    obtain rfl := q_rt hq
    exact rw_iret hx hb hr hk hP hD hS dX1_readMode_10
theorem in_X1_readDigits_X1 : ∀ w ∈ wsX10, w ∈ wsX1_readDigits := fun _ h => List.mem_cons_of_mem _ (List.mem_append_right _ h)
def F_X1_readDigits_21 (tl : Int32) (tb : Nat → Int32) (v1 : Int32) : Nat → Int32 → Int32 → Int32 → Option (Int32 × Int32)
  | 0, _, _, _ => none
  | n + 1, ta, v2, v3 => if v1 ≤ v3 then (some (v2, ta)) else ((F_X1_isSign tl tb ta 48 57).bind fun r5 => if r5 = 0 then (some (v2, ta)) else (vgd (ix (ta) 150) <| vlet (((v2 * 10) + (tb ta.toNatClampNeg)) - 48) fun x9 => vlet (ta + 1) fun x10 => vlet ((v3 : Int32) + 1) fun x11 => F_X1_readDigits_21 tl tb v1 n x10 x9 x11))
set_option maxHeartbeats 4000000 in
set_option maxRecDepth 100000 in
theorem w_X1_readDigits_21 {p : Program} {l : Launch} {e : Env} {s : State} {m : MethodId} {args : Array Value} {below : List Frame} {meth : Method} {c : Code} {G : va_G} {g : Nat → ClassId} (X : cx p s m args meth c cX1_readDigits 4 (some .int) RX1 wsX1_readDigits) (K : amb G g s) {A : Nat → Prop} (hA : ∀ q : Nat, s.heap.size ≤ q → A q) (t1 b1 : Nat) (tl : Int32) (tb : Nat → Int32) (v1 : Int32) (res : Int32 × Int32) : ∀ (n : Nat) (ta : Int32) (v2 : Int32) (v3 : Int32), F_X1_readDigits_21 tl tb v1 n ta v2 v3 = some res → ∀ (H : Heap) (locs : List Loc), va_P G vwCl [(t1, .inr (1, [.ref b1, .int tl, .int ta])), (b1, .inl (g 1, 150, .inl tb))] H → va_D A [(t1, .inr (1, [.ref b1, .int tl, .int ta])), (b1, .inl (g 1, 150, .inl tb))] → va_S A s.heap H locs → ∀ (ls : Array Slot), lv_has ls 4 [(0, .ref t1), (1, .int v1), (2, .int v2), (3, .int v3)] → W p l e (rmF 1 23) s m args below meth c H locs 0 0 (rwM G A below (some (.int res.1)) [(t1, .inr (1, [.ref b1, .int tl, .int res.2])), (b1, .inl (g 1, 150, .inl tb))] args s) (F0 m 21 ls []) := by
  obtain ⟨hx, hb, hml, hr, hown, hts, hk⟩ := id X
  intro n
  induction n with
  | zero => intro ta v2 v3 hq; exact q_no hq
  | succ n ih =>
    intro ta v2 v3 hq H locs hP hD hS ls hl
    rw [F_X1_readDigits_21] at hq
    refine lv_iload_n hx hb dX1_readDigits_21 rfl (lv_at hl 3 rfl) ?_
    refine lv_iload_n hx hb dX1_readDigits_22 rfl (lv_at hl 1 rfl) ?_
    refine lv_icmp_ge (tgt := 75) hx hb dX1_readDigits_23 (by decide) (fun c4 => ?_) (fun c4 => ?_)
    · have hq := q_if_t hq c4
      refine lv_iload_n hx hb dX1_readDigits_75 rfl (lv_at hl 2 rfl) ?_
      obtain rfl := q_rt hq
      exact rw_iret hx hb hr hk hP hD hS dX1_readDigits_76
    · have hq := q_if_f hq c4
      refine lv_aload_n hx hb dX1_readDigits_26 rfl (lv_at hl 0 rfl) ?_
      refine lv_aload_n hx hb dX1_readDigits_27 rfl (lv_at hl 0 rfl) ?_
      refine va_get (D := G) (ci := 1) (v := .int ta) (C := RX1) (T := TX1) (N := 3) hx hb hts in_X1_readDigits_X1 hown K.1 hP 0 rfl rfl 2 (by decide) (hts _ (List.mem_of_getElem? (i := 1) rfl)) (fun _ h9 => h9) rfl dX1_readDigits_28 ?_
      refine lv_bipush (v := 48) hx hb dX1_readDigits_31 (by decide) ?_
      refine lv_bipush (v := 57) hx hb dX1_readDigits_33 (by decide) ?_
      obtain ⟨r5, hh6, hq⟩ := q_bd hq
      refine roV (ci := 1) (As := [.int ta, .int 48, .int 57]) (rest := []) X K (k_X1_isSign l G g t1 b1 tl ta tb ta 48 57 _ hh6) hd_X1_isSign gX1_readDigits_X1_isSign hP hl.1 dX1_readDigits_35 rfl rfl ⟨Nat.le_of_ble_eq_true rfl, Nat.le_of_ble_eq_true rfl⟩ rfl rfl rfl (Nat.le_of_ble_eq_true rfl) ⟨Nat.zero_le _, Nat.zero_le _⟩ ?_
      refine lv_if_eq (tgt := 75) hx hb dX1_readDigits_38 (by decide) (fun c7 => ?_) (fun c7 => ?_)
      · have hq := q_if_t hq c7
        refine lv_iload_n hx hb dX1_readDigits_75 rfl (lv_at hl 2 rfl) ?_
        obtain rfl := q_rt hq
        exact rw_iret hx hb hr hk hP hD hS dX1_readDigits_76
      · have hq := q_if_f hq c7
        refine lv_iload_n hx hb dX1_readDigits_41 rfl (lv_at hl 2 rfl) ?_
        refine lv_bipush (v := 10) hx hb dX1_readDigits_42 (by decide) ?_
        refine lv_imul hx hb dX1_readDigits_44 ?_
        refine lv_aload_n hx hb dX1_readDigits_45 rfl (lv_at hl 0 rfl) ?_
        refine va_get (D := G) (ci := 1) (v := .ref b1) (C := RX1) (T := TX1) (N := 3) hx hb hts in_X1_readDigits_X1 hown K.1 hP 0 rfl rfl 0 (by decide) (hts _ (List.mem_of_getElem? (i := 2) rfl)) (fun _ h9 => h9) rfl dX1_readDigits_46 ?_
        refine lv_aload_n hx hb dX1_readDigits_49 rfl (lv_at hl 0 rfl) ?_
        refine va_get (D := G) (ci := 1) (v := .int ta) (C := RX1) (T := TX1) (N := 3) hx hb hts in_X1_readDigits_X1 hown K.1 hP 0 rfl rfl 2 (by decide) (hts _ (List.mem_of_getElem? (i := 1) rfl)) (fun _ h9 => h9) rfl dX1_readDigits_50 ?_
        obtain ⟨hh8, hq⟩ := q_gd hq
        refine va_bald hx hb K.1 hP 1 1 rfl rfl (vp_in_iff.mpr hh8) dX1_readDigits_53 ?_
        refine lv_iadd hx hb dX1_readDigits_54 ?_
        refine lv_bipush (v := 48) hx hb dX1_readDigits_55 (by decide) ?_
        refine lv_isub hx hb dX1_readDigits_57 ?_
        refine lv_topi (fun x9 ex9 => ?_)
        have hq := q_let hq ex9
        refine lv_istore_n (lv' := [(2, .int x9), (0, .ref t1), (1, .int v1), (3, .int v3)]) hx hb dX1_readDigits_58 rfl hl (by decide) rfl (fun ls hl => ?_)
        refine lv_aload_n hx hb dX1_readDigits_59 rfl (lv_at hl 1 rfl) ?_
        refine lv_dup hx hb dX1_readDigits_60 rfl ?_
        refine va_get (D := G) (ci := 1) (v := .int ta) (C := RX1) (T := TX1) (N := 3) hx hb hts in_X1_readDigits_X1 hown K.1 hP 0 rfl rfl 2 (by decide) (hts _ (List.mem_of_getElem? (i := 1) rfl)) (fun _ h9 => h9) rfl dX1_readDigits_61 ?_
        refine lv_iconst (v := 1) hx hb dX1_readDigits_64 (by decide) ?_
        refine lv_iadd hx hb dX1_readDigits_65 ?_
        refine lv_topi (fun x10 ex10 => ?_)
        have hq := q_let hq ex10
        refine va_put (D := G) (ci := 1) (v := .int x10) (ty := .int) (C := RX1) (T := TX1) (N := 3) hx hb hts in_X1_readDigits_X1 tyX1 tyX1_ok nmX1 hown K.1 hP hD hS 0 rfl rfl 2 (by decide) (hts _ (List.mem_of_getElem? (i := 1) rfl)) (fun _ h9 => h9) rfl (by decide +kernel) rfl rfl (Nat.le_of_ble_eq_true rfl) dX1_readDigits_66 (fun H locs hP hD hS => ?_)
        have hP : va_P G vwCl [(t1, .inr (1, [.ref b1, .int tl, .int x10])), (b1, .inl (g 1, 150, .inl tb))] H := hP
        have hD : va_D A [(t1, .inr (1, [.ref b1, .int tl, .int x10])), (b1, .inl (g 1, 150, .inl tb))] := hD
        obtain ⟨x11, ex11⟩ : ∃ y : Int32, y = (v3 : Int32) + 1 := ⟨_, rfl⟩
        have hq := q_let hq ex11
        refine lv_iinc (v := x11) (lv' := [(3, .int x11), (2, .int x9), (0, .ref t1), (1, .int v1)]) hx hb dX1_readDigits_69 hl (k := 3) rfl (by rw [ex11]; rfl) (by decide) rfl (fun ls hl => ?_)
        refine lv_goto (tgt := 21) hx hb dX1_readDigits_72 (by decide) ?_
        exact ih x10 x9 x11 hq _ _ hP hD hS ls (lv_sub hl [2, 3, 1, 0] rfl)
def F_X1_readDigits (tl : Int32) (ta : Int32) (tb : Nat → Int32) (p1 : Int32) : Option (Int32 × Int32) := (F_X1_isSign tl tb ta 48 57).bind fun r1 => if r1 = 0 then (some ((-1), ta)) else (F_X1_readDigits_21 tl tb p1 2000 ta 0 0)
set_option maxHeartbeats 4000000 in
set_option maxRecDepth 100000 in
theorem k_X1_readDigits (l : Launch) (G : va_G) (g : Nat → ClassId) (t1 b1 : Nat) (tl : Int32) (ta : Int32) (tb : Nat → Int32) (p1 : Int32) (res : Int32 × Int32) (hq : F_X1_readDigits tl ta tb p1 = some res) : rwC l yX1_readDigits wsX1_readDigits (rmF 1 23) G g [.ref t1, .int p1] [(t1, .inr (1, [.ref b1, .int tl, .int ta])), (b1, .inl (g 1, 150, .inl tb))] (some (.int res.1)) [(t1, .inr (1, [.ref b1, .int tl, .int res.2])), (b1, .inl (g 1, 150, .inl tb))] := by
  refine rwC.of (cc := cX1_readDigits) (maxL := 4) (ret := (some .int)) (by decide) rfl (Nat.le_of_ble_eq_true rfl) ?_
  intro p e s m below meth c ls A X K hA hP hD hS hl
  obtain ⟨hx, hb, hml, hr, hown, hts, hk⟩ := id X
  have hl : lv_has ls 4 [(0, .ref t1), (1, .int p1)] := hl
  unfold F_X1_readDigits at hq
  refine lv_aload_n hx hb dX1_readDigits_0 rfl (lv_at hl 0 rfl) ?_
  refine lv_aload_n hx hb dX1_readDigits_1 rfl (lv_at hl 0 rfl) ?_
  refine va_get (D := G) (ci := 1) (v := .int ta) (C := RX1) (T := TX1) (N := 3) hx hb hts in_X1_readDigits_X1 hown K.1 hP 0 rfl rfl 2 (by decide) (hts _ (List.mem_of_getElem? (i := 1) rfl)) (fun _ h9 => h9) rfl dX1_readDigits_2 ?_
  refine lv_bipush (v := 48) hx hb dX1_readDigits_5 (by decide) ?_
  refine lv_bipush (v := 57) hx hb dX1_readDigits_7 (by decide) ?_
  obtain ⟨r1, hh2, hq⟩ := q_bd hq
  refine roV (ci := 1) (As := [.int ta, .int 48, .int 57]) (rest := []) X K (k_X1_isSign l G g t1 b1 tl ta tb ta 48 57 _ hh2) hd_X1_isSign gX1_readDigits_X1_isSign hP hl.1 dX1_readDigits_9 rfl rfl ⟨Nat.le_of_ble_eq_true rfl, Nat.le_of_ble_eq_true rfl⟩ rfl rfl rfl (Nat.le_of_ble_eq_true rfl) ⟨Nat.zero_le _, Nat.zero_le _⟩ ?_
  refine lv_if_ne (tgt := 17) hx hb dX1_readDigits_12 (by decide) (fun c3 => ?_) (fun c3 => ?_)
  · have hq := q_if_f hq c3
    refine lv_iconst (v := 0) hx hb dX1_readDigits_17 (by decide) ?_
    refine lv_istore_n (lv' := [(2, .int 0), (0, .ref t1), (1, .int p1)]) hx hb dX1_readDigits_18 rfl hl (by decide) rfl (fun ls hl => ?_)
    refine lv_iconst (v := 0) hx hb dX1_readDigits_19 (by decide) ?_
    refine lv_istore_n (lv' := [(3, .int 0), (2, .int 0), (0, .ref t1), (1, .int p1)]) hx hb dX1_readDigits_20 rfl hl (by decide) rfl (fun ls hl => ?_)
    exact w_X1_readDigits_21 X K hA t1 b1 tl tb p1 _ 2000 ta 0 0 hq _ _ hP hD hS ls (lv_sub hl [2, 3, 1, 0] rfl)
  · have hq := q_if_t hq c3
    refine lv_iconst (v := (-1)) hx hb dX1_readDigits_15 (by decide) ?_
    obtain rfl := q_rt hq
    exact rw_iret hx hb hr hk hP hD hS dX1_readDigits_16
theorem hd_X0_lastFrame : ynm yX0_lastFrame 0 := by unfold ynm; decide +kernel
theorem hd_X1_readDigits : ynm yX1_readDigits 1 := by unfold ynm; decide +kernel
theorem hd_X1_readMode : ynm yX1_readMode 0 := by unfold ynm; decide +kernel
theorem in_X1_readKey_X1 : ∀ w ∈ wsX10, w ∈ wsX1_readKey := fun _ h => List.mem_cons_of_mem _ (List.mem_append_left _ (List.mem_append_right _ h))
def F_X1_readKey_127 (tl : Int32) (ta : Int32) (tb : Nat → Int32) (cn : Int32) (cf : Nat → Int32) (v1 : Int32) (v2 : Int32) (v3 : Int32) (v4 : Int32) (v5 : Int32) : Option (Int32 × Int32 × Int32 × (Nat → Int32)) := (F_X1_readMode tl ta tb).bind fun o9 => (F_X1_skip tl o9.2 tb 59).bind fun o13 => if o13.1 = 0 then (some (0, o13.2, cn, cf)) else (if v2 = 0 then ((F_X0_insert cn cf v1 v3 v4 o9.1 0 v5).bind fun o20 => some (1, o13.2, o20.2.1, o20.2.2)) else ((F_X0_insert cn cf v1 (-v3) v4 o9.1 0 v5).bind fun o25 => some (1, o13.2, o25.2.1, o25.2.2)))
set_option maxHeartbeats 4000000 in
set_option maxRecDepth 100000 in
theorem w_X1_readKey_127 {p : Program} {l : Launch} {e : Env} {s : State} {m : MethodId} {args : Array Value} {below : List Frame} {meth : Method} {c : Code} {G : va_G} {g : Nat → ClassId} (X : cx p s m args meth c cX1_readKey 9 (some .boolean) RX1 wsX1_readKey) (K : amb G g s) {A : Nat → Prop} (hA : ∀ q : Nat, s.heap.size ≤ q → A q) (t1 b1 h1 a1 : Nat) (tl : Int32) (ta : Int32) (tb : Nat → Int32) (cn : Int32) (cf : Nat → Int32) (v1 : Int32) (v2 : Int32) (v3 : Int32) (v4 : Int32) (v5 : Int32) (res : Int32 × Int32 × Int32 × (Nat → Int32)) (hq : F_X1_readKey_127 tl ta tb cn cf v1 v2 v3 v4 v5 = some res) : ∀ (H : Heap) (locs : List Loc), va_P G vwCl [(t1, .inr (1, [.ref b1, .int tl, .int ta])), (b1, .inl (g 1, 150, .inl tb)), (h1, .inr (0, [.int cn, .ref a1])), (a1, .inl (g 0, 96, .inl cf))] H → va_D A [(t1, .inr (1, [.ref b1, .int tl, .int ta])), (b1, .inl (g 1, 150, .inl tb)), (h1, .inr (0, [.int cn, .ref a1])), (a1, .inl (g 0, 96, .inl cf))] → va_S A s.heap H locs → ∀ (ls : Array Slot), lv_has ls 9 [(0, .ref t1), (1, .ref h1), (3, .int v1), (4, .int v2), (5, .int v3), (6, .int v4)] → W p l e (rmF 3 72) s m args below meth c H locs 0 0 (rwM G A below (some (.int res.1)) [(t1, .inr (1, [.ref b1, .int tl, .int res.2.1])), (b1, .inl (g 1, 150, .inl tb)), (h1, .inr (0, [.int res.2.2.1, .ref a1])), (a1, .inl (g 0, 96, .inl res.2.2.2))] args s) (F0 m 127 ls [.int v5]) := by
  obtain ⟨hx, hb, hml, hr, hown, hts, hk⟩ := id X
  intro H locs hP hD hS ls hl
  unfold F_X1_readKey_127 at hq
  refine lv_istore (lv' := [(7, .int v5), (0, .ref t1), (1, .ref h1), (3, .int v1), (4, .int v2), (5, .int v3), (6, .int v4)]) hx hb dX1_readKey_127 hl (by decide) rfl (fun ls hl => ?_)
  refine lv_aload_n hx hb dX1_readKey_129 rfl (lv_at hl 1 rfl) ?_
  obtain ⟨⟨r6, y7⟩, hh8, hq⟩ := q_bd hq
  refine rwV (ci := 1) (wr := [(h1, .inr (0, [.int cn, .ref a1])), (a1, .inl (g 0, 96, .inl cf))]) (As := []) (rest := []) X K (k_X1_readMode l G g t1 b1 tl ta tb _ hh8) hd_X1_readMode gX1_readKey_X1_readMode hP hD hS hA [0, 1] [2, 3] rfl rfl ⟨by decide, by decide, by decide⟩ hl.1 dX1_readKey_130 rfl rfl ⟨Nat.le_of_ble_eq_true rfl, Nat.le_of_ble_eq_true rfl⟩ rfl rfl rfl (Nat.le_of_ble_eq_true rfl) ⟨Nat.zero_le _, Nat.zero_le _⟩ (fun H locs hP hD hS => ?_)
  have hP : va_P G vwCl [(t1, .inr (1, [.ref b1, .int tl, .int y7])), (b1, .inl (g 1, 150, .inl tb)), (h1, .inr (0, [.int cn, .ref a1])), (a1, .inl (g 0, 96, .inl cf))] H := hP.sub [2, 3, 0, 1] rfl
  have hD : va_D A [(t1, .inr (1, [.ref b1, .int tl, .int y7])), (b1, .inl (g 1, 150, .inl tb)), (h1, .inr (0, [.int cn, .ref a1])), (a1, .inl (g 0, 96, .inl cf))] := hD.sub [2, 3, 0, 1] (by decide) rfl
  refine lv_istore (lv' := [(8, .int r6), (7, .int v5), (0, .ref t1), (1, .ref h1), (3, .int v1), (4, .int v2), (5, .int v3), (6, .int v4)]) hx hb dX1_readKey_133 hl (by decide) rfl (fun ls hl => ?_)
  refine lv_aload_n hx hb dX1_readKey_135 rfl (lv_at hl 2 rfl) ?_
  refine lv_bipush (v := 59) hx hb dX1_readKey_136 (by decide) ?_
  obtain ⟨⟨r10, y11⟩, hh12, hq⟩ := q_bd hq
  refine rwV (ci := 1) (wr := [(h1, .inr (0, [.int cn, .ref a1])), (a1, .inl (g 0, 96, .inl cf))]) (As := [.int 59]) (rest := []) X K (k_X1_skip l G g t1 b1 tl y7 tb 59 _ hh12) hd_X1_skip gX1_readKey_X1_skip hP hD hS hA [0, 1] [2, 3] rfl rfl ⟨by decide, by decide, by decide⟩ hl.1 dX1_readKey_138 rfl rfl ⟨Nat.le_of_ble_eq_true rfl, Nat.le_of_ble_eq_true rfl⟩ rfl rfl rfl (Nat.le_of_ble_eq_true rfl) ⟨Nat.zero_le _, Nat.zero_le _⟩ (fun H locs hP hD hS => ?_)
  have hP : va_P G vwCl [(t1, .inr (1, [.ref b1, .int tl, .int y11])), (b1, .inl (g 1, 150, .inl tb)), (h1, .inr (0, [.int cn, .ref a1])), (a1, .inl (g 0, 96, .inl cf))] H := hP.sub [2, 3, 0, 1] rfl
  have hD : va_D A [(t1, .inr (1, [.ref b1, .int tl, .int y11])), (b1, .inl (g 1, 150, .inl tb)), (h1, .inr (0, [.int cn, .ref a1])), (a1, .inl (g 0, 96, .inl cf))] := hD.sub [2, 3, 0, 1] (by decide) rfl
  refine lv_if_ne (tgt := 146) hx hb dX1_readKey_141 (by decide) (fun c14 => ?_) (fun c14 => ?_)
  · have hq := q_if_f hq c14
    refine lv_aload_n hx hb dX1_readKey_146 rfl (lv_at hl 3 rfl) ?_
    refine lv_iload_n hx hb dX1_readKey_147 rfl (lv_at hl 4 rfl) ?_
    refine lv_iload hx hb dX1_readKey_148 (lv_at hl 5 rfl) ?_
    refine lv_if_eq (tgt := 159) hx hb dX1_readKey_150 (by decide) (fun c15 => ?_) (fun c15 => ?_)
    · have hq := q_if_t hq c15
      refine lv_iload hx hb dX1_readKey_159 (lv_at hl 6 rfl) ?_
      refine lv_iload hx hb dX1_readKey_161 (lv_at hl 7 rfl) ?_
      refine lv_iload hx hb dX1_readKey_163 (lv_at hl 0 rfl) ?_
      refine lv_iconst (v := 0) hx hb dX1_readKey_165 (by decide) ?_
      refine lv_iload hx hb dX1_readKey_166 (lv_at hl 1 rfl) ?_
      obtain ⟨⟨r16, y17, y18⟩, hh19, hq⟩ := q_bd hq
      refine rwN (ci := 0) (host := RX3) (wr := [(t1, .inr (1, [.ref b1, .int tl, .int y11])), (b1, .inl (g 1, 150, .inl tb))]) (As := [.int v1, .int v3, .int v4, .int r6, .int 0, .int v5]) (rest := []) X K (k_X0_insert l G g h1 a1 cn cf v1 v3 v4 r6 0 v5 _ hh19) hd_X0_insert ggX1_readKey_X0_insert (by decide +kernel) (List.mem_of_getElem? (i := 14) rfl) (List.mem_of_getElem? (i := 31) rfl) (List.mem_of_getElem? (i := 32) rfl) hP hD hS hA [2, 3] [0, 1] rfl rfl ⟨by decide, by decide, by decide⟩ hl.1 dX1_readKey_168 rfl rfl ⟨Nat.le_of_ble_eq_true rfl, Nat.le_of_ble_eq_true rfl⟩ rfl rfl rfl (Nat.le_of_ble_eq_true rfl) ⟨Nat.zero_le _, Nat.zero_le _⟩ (fun H locs hP hD hS => ?_)
      have hP : va_P G vwCl [(t1, .inr (1, [.ref b1, .int tl, .int y11])), (b1, .inl (g 1, 150, .inl tb)), (h1, .inr (0, [.int y17, .ref a1])), (a1, .inl (g 0, 96, .inl y18))] H := hP
      have hD : va_D A [(t1, .inr (1, [.ref b1, .int tl, .int y11])), (b1, .inl (g 1, 150, .inl tb)), (h1, .inr (0, [.int y17, .ref a1])), (a1, .inl (g 0, 96, .inl y18))] := hD
      refine lv_pop hx hb dX1_readKey_171 rfl ?_
      refine lv_iconst (v := 1) hx hb dX1_readKey_172 (by decide) ?_
      obtain rfl := q_rt hq
      exact rw_zret hx hb hr nz_1 hk hP hD hS dX1_readKey_173
    · have hq := q_if_f hq c15
      refine lv_iload hx hb dX1_readKey_153 (lv_at hl 6 rfl) ?_
      refine lv_ineg hx hb dX1_readKey_155 ?_
      refine lv_goto (tgt := 161) hx hb dX1_readKey_156 (by decide) ?_
      refine lv_iload hx hb dX1_readKey_161 (lv_at hl 7 rfl) ?_
      refine lv_iload hx hb dX1_readKey_163 (lv_at hl 0 rfl) ?_
      refine lv_iconst (v := 0) hx hb dX1_readKey_165 (by decide) ?_
      refine lv_iload hx hb dX1_readKey_166 (lv_at hl 1 rfl) ?_
      obtain ⟨⟨r21, y22, y23⟩, hh24, hq⟩ := q_bd hq
      refine rwN (ci := 0) (host := RX3) (wr := [(t1, .inr (1, [.ref b1, .int tl, .int y11])), (b1, .inl (g 1, 150, .inl tb))]) (As := [.int v1, .int (-v3), .int v4, .int r6, .int 0, .int v5]) (rest := []) X K (k_X0_insert l G g h1 a1 cn cf v1 (-v3) v4 r6 0 v5 _ hh24) hd_X0_insert ggX1_readKey_X0_insert (by decide +kernel) (List.mem_of_getElem? (i := 14) rfl) (List.mem_of_getElem? (i := 31) rfl) (List.mem_of_getElem? (i := 32) rfl) hP hD hS hA [2, 3] [0, 1] rfl rfl ⟨by decide, by decide, by decide⟩ hl.1 dX1_readKey_168 rfl rfl ⟨Nat.le_of_ble_eq_true rfl, Nat.le_of_ble_eq_true rfl⟩ rfl rfl rfl (Nat.le_of_ble_eq_true rfl) ⟨Nat.zero_le _, Nat.zero_le _⟩ (fun H locs hP hD hS => ?_)
      have hP : va_P G vwCl [(t1, .inr (1, [.ref b1, .int tl, .int y11])), (b1, .inl (g 1, 150, .inl tb)), (h1, .inr (0, [.int y22, .ref a1])), (a1, .inl (g 0, 96, .inl y23))] H := hP
      have hD : va_D A [(t1, .inr (1, [.ref b1, .int tl, .int y11])), (b1, .inl (g 1, 150, .inl tb)), (h1, .inr (0, [.int y22, .ref a1])), (a1, .inl (g 0, 96, .inl y23))] := hD
      refine lv_pop hx hb dX1_readKey_171 rfl ?_
      refine lv_iconst (v := 1) hx hb dX1_readKey_172 (by decide) ?_
      obtain rfl := q_rt hq
      exact rw_zret hx hb hr nz_1 hk hP hD hS dX1_readKey_173
  · have hq := q_if_t hq c14
    refine lv_iconst (v := 0) hx hb dX1_readKey_144 (by decide) ?_
    obtain rfl := q_rt hq
    exact rw_zret hx hb hr nz_0 hk hP hD hS dX1_readKey_145
def F_X1_readKey (tl : Int32) (ta : Int32) (tb : Nat → Int32) (cn : Int32) (cf : Nat → Int32) : Option (Int32 × Int32 × Int32 × (Nat → Int32)) := (F_X1_readDigits tl ta tb 3).bind fun o4 => if o4.1 = (-1) then (some (0, o4.2, cn, cf)) else ((F_X1_isSign tl tb o4.2 48 57).bind fun r6 => if r6 = 0 then ((F_X0_lastFrame cn cf).bind fun r9 => if r9 < o4.1 then ((F_X1_skip tl o4.2 tb 44).bind fun o15 => if o15.1 = 0 then (some (0, o15.2, cn, cf)) else ((F_X1_skip tl o15.2 tb 45).bind fun o20 => (F_X1_readDigits tl o20.2 tb 4).bind fun o24 => if o24.1 = (-1) then (some (0, o24.2, cn, cf)) else ((F_X1_skip tl o24.2 tb 44).bind fun o29 => if o29.1 = 0 then (some (0, o29.2, cn, cf)) else ((F_X1_isSign tl tb o29.2 48 53).bind fun r31 => if r31 = 0 then (some (0, o29.2, cn, cf)) else ((F_X1_readDigits tl o29.2 tb 1).bind fun o37 => (F_X1_skip tl o37.2 tb 108).bind fun o41 => if o41.1 = 0 then (F_X1_readKey_127 tl o41.2 tb cn cf o4.1 o20.1 o24.1 o37.1 0) else (F_X1_readKey_127 tl o41.2 tb cn cf o4.1 o20.1 o24.1 o37.1 1)))))) else (some (0, ta, cn, cf))) else (some (0, o4.2, cn, cf)))
set_option maxHeartbeats 4000000 in
set_option maxRecDepth 100000 in
theorem k_X1_readKey (l : Launch) (G : va_G) (g : Nat → ClassId) (t1 b1 h1 a1 : Nat) (tl : Int32) (ta : Int32) (tb : Nat → Int32) (cn : Int32) (cf : Nat → Int32) (res : Int32 × Int32 × Int32 × (Nat → Int32)) (hq : F_X1_readKey tl ta tb cn cf = some res) : rwC l yX1_readKey wsX1_readKey (rmF 3 72) G g [.ref t1, .ref h1] [(t1, .inr (1, [.ref b1, .int tl, .int ta])), (b1, .inl (g 1, 150, .inl tb)), (h1, .inr (0, [.int cn, .ref a1])), (a1, .inl (g 0, 96, .inl cf))] (some (.int res.1)) [(t1, .inr (1, [.ref b1, .int tl, .int res.2.1])), (b1, .inl (g 1, 150, .inl tb)), (h1, .inr (0, [.int res.2.2.1, .ref a1])), (a1, .inl (g 0, 96, .inl res.2.2.2))] := by
  refine rwC.of (cc := cX1_readKey) (maxL := 9) (ret := (some .boolean)) (by decide) rfl (Nat.le_of_ble_eq_true rfl) ?_
  intro p e s m below meth c ls A X K hA hP hD hS hl
  obtain ⟨hx, hb, hml, hr, hown, hts, hk⟩ := id X
  have hl : lv_has ls 9 [(0, .ref t1), (1, .ref h1)] := hl
  unfold F_X1_readKey at hq
  refine lv_aload_n hx hb dX1_readKey_0 rfl (lv_at hl 0 rfl) ?_
  refine va_get (D := G) (ci := 1) (v := .int ta) (C := RX1) (T := TX1) (N := 3) hx hb hts in_X1_readKey_X1 hown K.1 hP 0 rfl rfl 2 (by decide) (hts _ (List.mem_of_getElem? (i := 1) rfl)) (fun _ h9 => h9) rfl dX1_readKey_1 ?_
  refine lv_istore_n (lv' := [(2, .int ta), (0, .ref t1), (1, .ref h1)]) hx hb dX1_readKey_4 rfl hl (by decide) rfl (fun ls hl => ?_)
  refine lv_aload_n hx hb dX1_readKey_5 rfl (lv_at hl 1 rfl) ?_
  refine lv_iconst (v := 3) hx hb dX1_readKey_6 (by decide) ?_
  obtain ⟨⟨r1, y2⟩, hh3, hq⟩ := q_bd hq
  refine rwV (ci := 1) (wr := [(h1, .inr (0, [.int cn, .ref a1])), (a1, .inl (g 0, 96, .inl cf))]) (As := [.int 3]) (rest := []) X K (k_X1_readDigits l G g t1 b1 tl ta tb 3 _ hh3) hd_X1_readDigits gX1_readKey_X1_readDigits hP hD hS hA [0, 1] [2, 3] rfl rfl ⟨by decide, by decide, by decide⟩ hl.1 dX1_readKey_7 rfl rfl ⟨Nat.le_of_ble_eq_true rfl, Nat.le_of_ble_eq_true rfl⟩ rfl rfl rfl (Nat.le_of_ble_eq_true rfl) ⟨Nat.zero_le _, Nat.zero_le _⟩ (fun H locs hP hD hS => ?_)
  have hP : va_P G vwCl [(t1, .inr (1, [.ref b1, .int tl, .int y2])), (b1, .inl (g 1, 150, .inl tb)), (h1, .inr (0, [.int cn, .ref a1])), (a1, .inl (g 0, 96, .inl cf))] H := hP.sub [2, 3, 0, 1] rfl
  have hD : va_D A [(t1, .inr (1, [.ref b1, .int tl, .int y2])), (b1, .inl (g 1, 150, .inl tb)), (h1, .inr (0, [.int cn, .ref a1])), (a1, .inl (g 0, 96, .inl cf))] := hD.sub [2, 3, 0, 1] (by decide) rfl
  refine lv_istore_n (lv' := [(3, .int r1), (2, .int ta), (0, .ref t1), (1, .ref h1)]) hx hb dX1_readKey_10 rfl hl (by decide) rfl (fun ls hl => ?_)
  refine lv_iload_n hx hb dX1_readKey_11 rfl (lv_at hl 0 rfl) ?_
  refine lv_iconst (v := (-1)) hx hb dX1_readKey_12 (by decide) ?_
  refine lv_icmp_eq (tgt := 31) hx hb dX1_readKey_13 (by decide) (fun c5 => ?_) (fun c5 => ?_)
  · have hq := q_if_t hq c5
    refine lv_iconst (v := 0) hx hb dX1_readKey_31 (by decide) ?_
    obtain rfl := q_rt hq
    exact rw_zret hx hb hr nz_0 hk hP hD hS dX1_readKey_32
  · have hq := q_if_f hq c5
    refine lv_aload_n hx hb dX1_readKey_16 rfl (lv_at hl 2 rfl) ?_
    refine lv_aload_n hx hb dX1_readKey_17 rfl (lv_at hl 2 rfl) ?_
    refine va_get (D := G) (ci := 1) (v := .int y2) (C := RX1) (T := TX1) (N := 3) hx hb hts in_X1_readKey_X1 hown K.1 hP 0 rfl rfl 2 (by decide) (hts _ (List.mem_of_getElem? (i := 1) rfl)) (fun _ h9 => h9) rfl dX1_readKey_18 ?_
    refine lv_bipush (v := 48) hx hb dX1_readKey_21 (by decide) ?_
    refine lv_bipush (v := 57) hx hb dX1_readKey_23 (by decide) ?_
    obtain ⟨r6, hh7, hq⟩ := q_bd hq
    refine roV (ci := 1) (As := [.int y2, .int 48, .int 57]) (rest := []) X K (k_X1_isSign l G g t1 b1 tl y2 tb y2 48 57 _ hh7) hd_X1_isSign gX1_readKey_X1_isSign (hP.sub [0, 1] rfl) hl.1 dX1_readKey_25 rfl rfl ⟨Nat.le_of_ble_eq_true rfl, Nat.le_of_ble_eq_true rfl⟩ rfl rfl rfl (Nat.le_of_ble_eq_true rfl) ⟨Nat.zero_le _, Nat.zero_le _⟩ ?_
    refine lv_if_eq (tgt := 33) hx hb dX1_readKey_28 (by decide) (fun c8 => ?_) (fun c8 => ?_)
    · have hq := q_if_t hq c8
      refine lv_iload_n hx hb dX1_readKey_33 rfl (lv_at hl 0 rfl) ?_
      refine lv_aload_n hx hb dX1_readKey_34 rfl (lv_at hl 3 rfl) ?_
      obtain ⟨r9, hh10, hq⟩ := q_bd hq
      refine roN (ci := 0) (host := RX3) (As := []) (rest := [.int r1]) X K (k_X0_lastFrame l G g h1 a1 cn cf _ hh10) hd_X0_lastFrame ggX1_readKey_X0_lastFrame (by decide +kernel) (List.mem_of_getElem? (i := 14) rfl) (List.mem_of_getElem? (i := 13) rfl) (List.mem_of_getElem? (i := 15) rfl) (hP.sub [2, 3] rfl) hl.1 dX1_readKey_35 rfl rfl ⟨Nat.le_of_ble_eq_true rfl, Nat.le_of_ble_eq_true rfl⟩ rfl rfl rfl (Nat.le_of_ble_eq_true rfl) ⟨Nat.zero_le _, Nat.zero_le _⟩ ?_
      refine lv_icmp_gt (tgt := 48) hx hb dX1_readKey_38 (by decide) (fun c11 => ?_) (fun c11 => ?_)
      · have hq := q_if_t hq c11
        refine lv_aload_n hx hb dX1_readKey_48 rfl (lv_at hl 2 rfl) ?_
        refine lv_bipush (v := 44) hx hb dX1_readKey_49 (by decide) ?_
        obtain ⟨⟨r12, y13⟩, hh14, hq⟩ := q_bd hq
        refine rwV (ci := 1) (wr := [(h1, .inr (0, [.int cn, .ref a1])), (a1, .inl (g 0, 96, .inl cf))]) (As := [.int 44]) (rest := []) X K (k_X1_skip l G g t1 b1 tl y2 tb 44 _ hh14) hd_X1_skip gX1_readKey_X1_skip hP hD hS hA [0, 1] [2, 3] rfl rfl ⟨by decide, by decide, by decide⟩ hl.1 dX1_readKey_51 rfl rfl ⟨Nat.le_of_ble_eq_true rfl, Nat.le_of_ble_eq_true rfl⟩ rfl rfl rfl (Nat.le_of_ble_eq_true rfl) ⟨Nat.zero_le _, Nat.zero_le _⟩ (fun H locs hP hD hS => ?_)
        have hP : va_P G vwCl [(t1, .inr (1, [.ref b1, .int tl, .int y13])), (b1, .inl (g 1, 150, .inl tb)), (h1, .inr (0, [.int cn, .ref a1])), (a1, .inl (g 0, 96, .inl cf))] H := hP.sub [2, 3, 0, 1] rfl
        have hD : va_D A [(t1, .inr (1, [.ref b1, .int tl, .int y13])), (b1, .inl (g 1, 150, .inl tb)), (h1, .inr (0, [.int cn, .ref a1])), (a1, .inl (g 0, 96, .inl cf))] := hD.sub [2, 3, 0, 1] (by decide) rfl
        refine lv_if_ne (tgt := 59) hx hb dX1_readKey_54 (by decide) (fun c16 => ?_) (fun c16 => ?_)
        · have hq := q_if_f hq c16
          refine lv_aload_n hx hb dX1_readKey_59 rfl (lv_at hl 2 rfl) ?_
          refine lv_bipush (v := 45) hx hb dX1_readKey_60 (by decide) ?_
          obtain ⟨⟨r17, y18⟩, hh19, hq⟩ := q_bd hq
          refine rwV (ci := 1) (wr := [(h1, .inr (0, [.int cn, .ref a1])), (a1, .inl (g 0, 96, .inl cf))]) (As := [.int 45]) (rest := []) X K (k_X1_skip l G g t1 b1 tl y13 tb 45 _ hh19) hd_X1_skip gX1_readKey_X1_skip hP hD hS hA [0, 1] [2, 3] rfl rfl ⟨by decide, by decide, by decide⟩ hl.1 dX1_readKey_62 rfl rfl ⟨Nat.le_of_ble_eq_true rfl, Nat.le_of_ble_eq_true rfl⟩ rfl rfl rfl (Nat.le_of_ble_eq_true rfl) ⟨Nat.zero_le _, Nat.zero_le _⟩ (fun H locs hP hD hS => ?_)
          have hP : va_P G vwCl [(t1, .inr (1, [.ref b1, .int tl, .int y18])), (b1, .inl (g 1, 150, .inl tb)), (h1, .inr (0, [.int cn, .ref a1])), (a1, .inl (g 0, 96, .inl cf))] H := hP.sub [2, 3, 0, 1] rfl
          have hD : va_D A [(t1, .inr (1, [.ref b1, .int tl, .int y18])), (b1, .inl (g 1, 150, .inl tb)), (h1, .inr (0, [.int cn, .ref a1])), (a1, .inl (g 0, 96, .inl cf))] := hD.sub [2, 3, 0, 1] (by decide) rfl
          refine lv_istore (lv' := [(4, .int r17), (3, .int r1), (2, .int ta), (0, .ref t1), (1, .ref h1)]) hx hb dX1_readKey_65 hl (by decide) rfl (fun ls hl => ?_)
          refine lv_aload_n hx hb dX1_readKey_67 rfl (lv_at hl 3 rfl) ?_
          refine lv_iconst (v := 4) hx hb dX1_readKey_68 (by decide) ?_
          obtain ⟨⟨r21, y22⟩, hh23, hq⟩ := q_bd hq
          refine rwV (ci := 1) (wr := [(h1, .inr (0, [.int cn, .ref a1])), (a1, .inl (g 0, 96, .inl cf))]) (As := [.int 4]) (rest := []) X K (k_X1_readDigits l G g t1 b1 tl y18 tb 4 _ hh23) hd_X1_readDigits gX1_readKey_X1_readDigits hP hD hS hA [0, 1] [2, 3] rfl rfl ⟨by decide, by decide, by decide⟩ hl.1 dX1_readKey_69 rfl rfl ⟨Nat.le_of_ble_eq_true rfl, Nat.le_of_ble_eq_true rfl⟩ rfl rfl rfl (Nat.le_of_ble_eq_true rfl) ⟨Nat.zero_le _, Nat.zero_le _⟩ (fun H locs hP hD hS => ?_)
          have hP : va_P G vwCl [(t1, .inr (1, [.ref b1, .int tl, .int y22])), (b1, .inl (g 1, 150, .inl tb)), (h1, .inr (0, [.int cn, .ref a1])), (a1, .inl (g 0, 96, .inl cf))] H := hP.sub [2, 3, 0, 1] rfl
          have hD : va_D A [(t1, .inr (1, [.ref b1, .int tl, .int y22])), (b1, .inl (g 1, 150, .inl tb)), (h1, .inr (0, [.int cn, .ref a1])), (a1, .inl (g 0, 96, .inl cf))] := hD.sub [2, 3, 0, 1] (by decide) rfl
          refine lv_istore (lv' := [(5, .int r21), (4, .int r17), (3, .int r1), (2, .int ta), (0, .ref t1), (1, .ref h1)]) hx hb dX1_readKey_72 hl (by decide) rfl (fun ls hl => ?_)
          refine lv_iload hx hb dX1_readKey_74 (lv_at hl 0 rfl) ?_
          refine lv_iconst (v := (-1)) hx hb dX1_readKey_76 (by decide) ?_
          refine lv_icmp_eq (tgt := 104) hx hb dX1_readKey_77 (by decide) (fun c25 => ?_) (fun c25 => ?_)
          · have hq := q_if_t hq c25
            refine lv_iconst (v := 0) hx hb dX1_readKey_104 (by decide) ?_
            obtain rfl := q_rt hq
            exact rw_zret hx hb hr nz_0 hk hP hD hS dX1_readKey_105
          · have hq := q_if_f hq c25
            refine lv_aload_n hx hb dX1_readKey_80 rfl (lv_at hl 4 rfl) ?_
            refine lv_bipush (v := 44) hx hb dX1_readKey_81 (by decide) ?_
            obtain ⟨⟨r26, y27⟩, hh28, hq⟩ := q_bd hq
            refine rwV (ci := 1) (wr := [(h1, .inr (0, [.int cn, .ref a1])), (a1, .inl (g 0, 96, .inl cf))]) (As := [.int 44]) (rest := []) X K (k_X1_skip l G g t1 b1 tl y22 tb 44 _ hh28) hd_X1_skip gX1_readKey_X1_skip hP hD hS hA [0, 1] [2, 3] rfl rfl ⟨by decide, by decide, by decide⟩ hl.1 dX1_readKey_83 rfl rfl ⟨Nat.le_of_ble_eq_true rfl, Nat.le_of_ble_eq_true rfl⟩ rfl rfl rfl (Nat.le_of_ble_eq_true rfl) ⟨Nat.zero_le _, Nat.zero_le _⟩ (fun H locs hP hD hS => ?_)
            have hP : va_P G vwCl [(t1, .inr (1, [.ref b1, .int tl, .int y27])), (b1, .inl (g 1, 150, .inl tb)), (h1, .inr (0, [.int cn, .ref a1])), (a1, .inl (g 0, 96, .inl cf))] H := hP.sub [2, 3, 0, 1] rfl
            have hD : va_D A [(t1, .inr (1, [.ref b1, .int tl, .int y27])), (b1, .inl (g 1, 150, .inl tb)), (h1, .inr (0, [.int cn, .ref a1])), (a1, .inl (g 0, 96, .inl cf))] := hD.sub [2, 3, 0, 1] (by decide) rfl
            refine lv_if_eq (tgt := 104) hx hb dX1_readKey_86 (by decide) (fun c30 => ?_) (fun c30 => ?_)
            · have hq := q_if_t hq c30
              refine lv_iconst (v := 0) hx hb dX1_readKey_104 (by decide) ?_
              obtain rfl := q_rt hq
              exact rw_zret hx hb hr nz_0 hk hP hD hS dX1_readKey_105
            · have hq := q_if_f hq c30
              refine lv_aload_n hx hb dX1_readKey_89 rfl (lv_at hl 4 rfl) ?_
              refine lv_aload_n hx hb dX1_readKey_90 rfl (lv_at hl 4 rfl) ?_
              refine va_get (D := G) (ci := 1) (v := .int y27) (C := RX1) (T := TX1) (N := 3) hx hb hts in_X1_readKey_X1 hown K.1 hP 0 rfl rfl 2 (by decide) (hts _ (List.mem_of_getElem? (i := 1) rfl)) (fun _ h9 => h9) rfl dX1_readKey_91 ?_
              refine lv_bipush (v := 48) hx hb dX1_readKey_94 (by decide) ?_
              refine lv_bipush (v := 53) hx hb dX1_readKey_96 (by decide) ?_
              obtain ⟨r31, hh32, hq⟩ := q_bd hq
              refine roV (ci := 1) (As := [.int y27, .int 48, .int 53]) (rest := []) X K (k_X1_isSign l G g t1 b1 tl y27 tb y27 48 53 _ hh32) hd_X1_isSign gX1_readKey_X1_isSign (hP.sub [0, 1] rfl) hl.1 dX1_readKey_98 rfl rfl ⟨Nat.le_of_ble_eq_true rfl, Nat.le_of_ble_eq_true rfl⟩ rfl rfl rfl (Nat.le_of_ble_eq_true rfl) ⟨Nat.zero_le _, Nat.zero_le _⟩ ?_
              refine lv_if_ne (tgt := 106) hx hb dX1_readKey_101 (by decide) (fun c33 => ?_) (fun c33 => ?_)
              · have hq := q_if_f hq c33
                refine lv_aload_n hx hb dX1_readKey_106 rfl (lv_at hl 4 rfl) ?_
                refine lv_iconst (v := 1) hx hb dX1_readKey_107 (by decide) ?_
                obtain ⟨⟨r34, y35⟩, hh36, hq⟩ := q_bd hq
                refine rwV (ci := 1) (wr := [(h1, .inr (0, [.int cn, .ref a1])), (a1, .inl (g 0, 96, .inl cf))]) (As := [.int 1]) (rest := []) X K (k_X1_readDigits l G g t1 b1 tl y27 tb 1 _ hh36) hd_X1_readDigits gX1_readKey_X1_readDigits hP hD hS hA [0, 1] [2, 3] rfl rfl ⟨by decide, by decide, by decide⟩ hl.1 dX1_readKey_108 rfl rfl ⟨Nat.le_of_ble_eq_true rfl, Nat.le_of_ble_eq_true rfl⟩ rfl rfl rfl (Nat.le_of_ble_eq_true rfl) ⟨Nat.zero_le _, Nat.zero_le _⟩ (fun H locs hP hD hS => ?_)
                have hP : va_P G vwCl [(t1, .inr (1, [.ref b1, .int tl, .int y35])), (b1, .inl (g 1, 150, .inl tb)), (h1, .inr (0, [.int cn, .ref a1])), (a1, .inl (g 0, 96, .inl cf))] H := hP.sub [2, 3, 0, 1] rfl
                have hD : va_D A [(t1, .inr (1, [.ref b1, .int tl, .int y35])), (b1, .inl (g 1, 150, .inl tb)), (h1, .inr (0, [.int cn, .ref a1])), (a1, .inl (g 0, 96, .inl cf))] := hD.sub [2, 3, 0, 1] (by decide) rfl
                refine lv_istore (lv' := [(6, .int r34), (5, .int r21), (4, .int r17), (3, .int r1), (2, .int ta), (0, .ref t1), (1, .ref h1)]) hx hb dX1_readKey_111 hl (by decide) rfl (fun ls hl => ?_)
                refine lv_aload_n hx hb dX1_readKey_113 rfl (lv_at hl 5 rfl) ?_
                refine lv_bipush (v := 108) hx hb dX1_readKey_114 (by decide) ?_
                obtain ⟨⟨r38, y39⟩, hh40, hq⟩ := q_bd hq
                refine rwV (ci := 1) (wr := [(h1, .inr (0, [.int cn, .ref a1])), (a1, .inl (g 0, 96, .inl cf))]) (As := [.int 108]) (rest := []) X K (k_X1_skip l G g t1 b1 tl y35 tb 108 _ hh40) hd_X1_skip gX1_readKey_X1_skip hP hD hS hA [0, 1] [2, 3] rfl rfl ⟨by decide, by decide, by decide⟩ hl.1 dX1_readKey_116 rfl rfl ⟨Nat.le_of_ble_eq_true rfl, Nat.le_of_ble_eq_true rfl⟩ rfl rfl rfl (Nat.le_of_ble_eq_true rfl) ⟨Nat.zero_le _, Nat.zero_le _⟩ (fun H locs hP hD hS => ?_)
                have hP : va_P G vwCl [(t1, .inr (1, [.ref b1, .int tl, .int y39])), (b1, .inl (g 1, 150, .inl tb)), (h1, .inr (0, [.int cn, .ref a1])), (a1, .inl (g 0, 96, .inl cf))] H := hP.sub [2, 3, 0, 1] rfl
                have hD : va_D A [(t1, .inr (1, [.ref b1, .int tl, .int y39])), (b1, .inl (g 1, 150, .inl tb)), (h1, .inr (0, [.int cn, .ref a1])), (a1, .inl (g 0, 96, .inl cf))] := hD.sub [2, 3, 0, 1] (by decide) rfl
                refine lv_if_eq (tgt := 126) hx hb dX1_readKey_119 (by decide) (fun c42 => ?_) (fun c42 => ?_)
                · have hq := q_if_t hq c42
                  refine lv_iconst (v := 0) hx hb dX1_readKey_126 (by decide) ?_
                  exact w_X1_readKey_127 X K hA t1 b1 h1 a1 tl y39 tb cn cf r1 r17 r21 r34 0 _ hq _ _ hP hD hS ls (lv_sub hl [5, 6, 3, 2, 1, 0] rfl)
                · have hq := q_if_f hq c42
                  refine lv_iconst (v := 1) hx hb dX1_readKey_122 (by decide) ?_
                  refine lv_goto (tgt := 127) hx hb dX1_readKey_123 (by decide) ?_
                  exact w_X1_readKey_127 X K hA t1 b1 h1 a1 tl y39 tb cn cf r1 r17 r21 r34 1 _ hq _ _ hP hD hS ls (lv_sub hl [5, 6, 3, 2, 1, 0] rfl)
              · have hq := q_if_t hq c33
                refine lv_iconst (v := 0) hx hb dX1_readKey_104 (by decide) ?_
                obtain rfl := q_rt hq
                exact rw_zret hx hb hr nz_0 hk hP hD hS dX1_readKey_105
        · have hq := q_if_t hq c16
          refine lv_iconst (v := 0) hx hb dX1_readKey_57 (by decide) ?_
          obtain rfl := q_rt hq
          exact rw_zret hx hb hr nz_0 hk hP hD hS dX1_readKey_58
      · have hq := q_if_f hq c11
        refine lv_aload_n hx hb dX1_readKey_41 rfl (lv_at hl 2 rfl) ?_
        refine lv_iload_n hx hb dX1_readKey_42 rfl (lv_at hl 1 rfl) ?_
        refine va_put (D := G) (ci := 1) (v := .int ta) (ty := .int) (C := RX1) (T := TX1) (N := 3) hx hb hts in_X1_readKey_X1 tyX1 tyX1_ok nmX1 hown K.1 hP hD hS 0 rfl rfl 2 (by decide) (hts _ (List.mem_of_getElem? (i := 1) rfl)) (fun _ h9 => h9) rfl (by decide +kernel) rfl rfl (Nat.le_of_ble_eq_true rfl) dX1_readKey_43 (fun H locs hP hD hS => ?_)
        have hP : va_P G vwCl [(t1, .inr (1, [.ref b1, .int tl, .int ta])), (b1, .inl (g 1, 150, .inl tb)), (h1, .inr (0, [.int cn, .ref a1])), (a1, .inl (g 0, 96, .inl cf))] H := hP
        have hD : va_D A [(t1, .inr (1, [.ref b1, .int tl, .int ta])), (b1, .inl (g 1, 150, .inl tb)), (h1, .inr (0, [.int cn, .ref a1])), (a1, .inl (g 0, 96, .inl cf))] := hD
        refine lv_iconst (v := 0) hx hb dX1_readKey_46 (by decide) ?_
        obtain rfl := q_rt hq
        exact rw_zret hx hb hr nz_0 hk hP hD hS dX1_readKey_47
    · have hq := q_if_f hq c8
      refine lv_iconst (v := 0) hx hb dX1_readKey_31 (by decide) ?_
      obtain rfl := q_rt hq
      exact rw_zret hx hb hr nz_0 hk hP hD hS dX1_readKey_32
theorem hd_X1_readKey : ynm yX1_readKey 1 := by unfold ynm; decide +kernel
theorem in_X1_readInto_X0 : ∀ w ∈ wsX00, w ∈ wsX1_readInto := fun _ h => List.mem_cons_of_mem _ (List.mem_append_left _ (List.mem_append_right _ h))
theorem in_X1_readInto_X1 : ∀ w ∈ wsX10, w ∈ wsX1_readInto := fun _ h => List.mem_cons_of_mem _ (List.mem_append_right _ h)
def F_X1_readInto_12 (tl : Int32) (tb : Nat → Int32) : Nat → Int32 → Int32 → (Nat → Int32) → Int32 → Option (Int32 × Int32 × Int32 × (Nat → Int32))
  | 0, _, _, _, _ => none
  | n + 1, ta, cn, cf, v1 => if (16 : Int32) < v1 then (some ((-1), ta, cn, cf)) else (if ta < tl then (if v1 = 16 then (some (ta, ta, cn, cf)) else ((F_X1_readKey tl ta tb cn cf).bind fun o10 => if o10.1 = 0 then (some (o10.2.1, o10.2.1, o10.2.2.1, o10.2.2.2)) else (vlet ((v1 : Int32) + 1) fun x12 => F_X1_readInto_12 tl tb n o10.2.1 o10.2.2.1 o10.2.2.2 x12))) else (some ((-1), ta, cn, cf)))
set_option maxHeartbeats 4000000 in
set_option maxRecDepth 100000 in
theorem w_X1_readInto_12 {p : Program} {l : Launch} {e : Env} {s : State} {m : MethodId} {args : Array Value} {below : List Frame} {meth : Method} {c : Code} {G : va_G} {g : Nat → ClassId} (X : cx p s m args meth c cX1_readInto 3 (some .int) RX1 wsX1_readInto) (K : amb G g s) {A : Nat → Prop} (hA : ∀ q : Nat, s.heap.size ≤ q → A q) (t1 b1 h1 a1 : Nat) (tl : Int32) (tb : Nat → Int32) (res : Int32 × Int32 × Int32 × (Nat → Int32)) : ∀ (n : Nat) (ta : Int32) (cn : Int32) (cf : Nat → Int32) (v1 : Int32), F_X1_readInto_12 tl tb n ta cn cf v1 = some res → ∀ (H : Heap) (locs : List Loc), va_P G vwCl [(t1, .inr (1, [.ref b1, .int tl, .int ta])), (b1, .inl (g 1, 150, .inl tb)), (h1, .inr (0, [.int cn, .ref a1])), (a1, .inl (g 0, 96, .inl cf))] H → va_D A [(t1, .inr (1, [.ref b1, .int tl, .int ta])), (b1, .inl (g 1, 150, .inl tb)), (h1, .inr (0, [.int cn, .ref a1])), (a1, .inl (g 0, 96, .inl cf))] → va_S A s.heap H locs → ∀ (ls : Array Slot), lv_has ls 3 [(0, .ref t1), (1, .ref h1), (2, .int v1)] → W p l e (rmF 4 100) s m args below meth c H locs 0 0 (rwM G A below (some (.int res.1)) [(t1, .inr (1, [.ref b1, .int tl, .int res.2.1])), (b1, .inl (g 1, 150, .inl tb)), (h1, .inr (0, [.int res.2.2.1, .ref a1])), (a1, .inl (g 0, 96, .inl res.2.2.2))] args s) (F0 m 12 ls []) := by
  obtain ⟨hx, hb, hml, hr, hown, hts, hk⟩ := id X
  intro n
  induction n with
  | zero => intro ta cn cf v1 hq; exact q_no hq
  | succ n ih =>
    intro ta cn cf v1 hq H locs hP hD hS ls hl
    rw [F_X1_readInto_12] at hq
    refine lv_iload_n hx hb dX1_readInto_12 rfl (lv_at hl 2 rfl) ?_
    refine lv_bipush (v := 16) hx hb dX1_readInto_13 (by decide) ?_
    refine lv_icmp_gt (tgt := 56) hx hb dX1_readInto_15 (by decide) (fun c2 => ?_) (fun c2 => ?_)
    · have hq := q_if_t hq c2
      refine lv_iconst (v := (-1)) hx hb dX1_readInto_56 (by decide) ?_
      obtain rfl := q_rt hq
      exact rw_iret hx hb hr hk hP hD hS dX1_readInto_57
    · have hq := q_if_f hq c2
      refine lv_aload_n hx hb dX1_readInto_18 rfl (lv_at hl 0 rfl) ?_
      refine va_get (D := G) (ci := 1) (v := .int ta) (C := RX1) (T := TX1) (N := 3) hx hb hts in_X1_readInto_X1 hown K.1 hP 0 rfl rfl 2 (by decide) (hts _ (List.mem_of_getElem? (i := 1) rfl)) (fun _ h9 => h9) rfl dX1_readInto_19 ?_
      refine lv_aload_n hx hb dX1_readInto_22 rfl (lv_at hl 0 rfl) ?_
      refine va_get (D := G) (ci := 1) (v := .int tl) (C := RX1) (T := TX1) (N := 3) hx hb hts in_X1_readInto_X1 hown K.1 hP 0 rfl rfl 1 (by decide) (hts _ (List.mem_of_getElem? (i := 2) rfl)) (fun _ h9 => h9) rfl dX1_readInto_23 ?_
      refine lv_icmp_lt (tgt := 31) hx hb dX1_readInto_26 (by decide) (fun c3 => ?_) (fun c3 => ?_)
      · have hq := q_if_t hq c3
        refine lv_iload_n hx hb dX1_readInto_31 rfl (lv_at hl 2 rfl) ?_
        refine lv_bipush (v := 16) hx hb dX1_readInto_32 (by decide) ?_
        refine lv_icmp_eq (tgt := 45) hx hb dX1_readInto_34 (by decide) (fun c4 => ?_) (fun c4 => ?_)
        · have hq := q_if_t hq c4
          refine lv_aload_n hx hb dX1_readInto_45 rfl (lv_at hl 0 rfl) ?_
          refine va_get (D := G) (ci := 1) (v := .int ta) (C := RX1) (T := TX1) (N := 3) hx hb hts in_X1_readInto_X1 hown K.1 hP 0 rfl rfl 2 (by decide) (hts _ (List.mem_of_getElem? (i := 1) rfl)) (fun _ h9 => h9) rfl dX1_readInto_46 ?_
          obtain rfl := q_rt hq
          exact rw_iret hx hb hr hk hP hD hS dX1_readInto_49
        · have hq := q_if_f hq c4
          refine lv_aload_n hx hb dX1_readInto_37 rfl (lv_at hl 0 rfl) ?_
          refine lv_aload_n hx hb dX1_readInto_38 rfl (lv_at hl 1 rfl) ?_
          obtain ⟨⟨r5, y6, y7, y8⟩, hh9, hq⟩ := q_bd hq
          refine rwV (ci := 1) (wr := []) (As := [.ref h1]) (rest := []) X K (k_X1_readKey l G g t1 b1 h1 a1 tl ta tb cn cf _ hh9) hd_X1_readKey gX1_readInto_X1_readKey hP hD hS hA [0, 1, 2, 3] [] rfl rfl ⟨by decide, by decide, by decide⟩ hl.1 dX1_readInto_39 rfl rfl ⟨Nat.le_of_ble_eq_true rfl, Nat.le_of_ble_eq_true rfl⟩ rfl rfl rfl (Nat.le_of_ble_eq_true rfl) ⟨Nat.zero_le _, Nat.zero_le _⟩ (fun H locs hP hD hS => ?_)
          have hP : va_P G vwCl [(t1, .inr (1, [.ref b1, .int tl, .int y6])), (b1, .inl (g 1, 150, .inl tb)), (h1, .inr (0, [.int y7, .ref a1])), (a1, .inl (g 0, 96, .inl y8))] H := hP
          have hD : va_D A [(t1, .inr (1, [.ref b1, .int tl, .int y6])), (b1, .inl (g 1, 150, .inl tb)), (h1, .inr (0, [.int y7, .ref a1])), (a1, .inl (g 0, 96, .inl y8))] := hD
          refine lv_if_ne (tgt := 50) hx hb dX1_readInto_42 (by decide) (fun c11 => ?_) (fun c11 => ?_)
          · have hq := q_if_f hq c11
            obtain ⟨x12, ex12⟩ : ∃ y : Int32, y = (v1 : Int32) + 1 := ⟨_, rfl⟩
            have hq := q_let hq ex12
            refine lv_iinc (v := x12) (lv' := [(2, .int x12), (0, .ref t1), (1, .ref h1)]) hx hb dX1_readInto_50 hl (k := 2) rfl (by rw [ex12]; rfl) (by decide) rfl (fun ls hl => ?_)
            refine lv_goto (tgt := 12) hx hb dX1_readInto_53 (by decide) ?_
            exact ih y6 y7 y8 x12 hq _ _ hP hD hS ls (lv_sub hl [1, 2, 0] rfl)
          · have hq := q_if_t hq c11
            refine lv_aload_n hx hb dX1_readInto_45 rfl (lv_at hl 0 rfl) ?_
            refine va_get (D := G) (ci := 1) (v := .int y6) (C := RX1) (T := TX1) (N := 3) hx hb hts in_X1_readInto_X1 hown K.1 hP 0 rfl rfl 2 (by decide) (hts _ (List.mem_of_getElem? (i := 1) rfl)) (fun _ h9 => h9) rfl dX1_readInto_46 ?_
            obtain rfl := q_rt hq
            exact rw_iret hx hb hr hk hP hD hS dX1_readInto_49
      · have hq := q_if_f hq c3
        refine lv_iconst (v := (-1)) hx hb dX1_readInto_29 (by decide) ?_
        obtain rfl := q_rt hq
        exact rw_iret hx hb hr hk hP hD hS dX1_readInto_30
def F_X1_readInto (tl : Int32) (ta : Int32) (tb : Nat → Int32) (cn : Int32) (cf : Nat → Int32) : Option (Int32 × Int32 × Int32 × (Nat → Int32)) := F_X1_readInto_12 tl tb 2000 0 0 cf 0
set_option maxHeartbeats 4000000 in
set_option maxRecDepth 100000 in
theorem k_X1_readInto (l : Launch) (G : va_G) (g : Nat → ClassId) (t1 b1 h1 a1 : Nat) (tl : Int32) (ta : Int32) (tb : Nat → Int32) (cn : Int32) (cf : Nat → Int32) (res : Int32 × Int32 × Int32 × (Nat → Int32)) (hq : F_X1_readInto tl ta tb cn cf = some res) : rwC l yX1_readInto wsX1_readInto (rmF 4 100) G g [.ref t1, .ref h1] [(t1, .inr (1, [.ref b1, .int tl, .int ta])), (b1, .inl (g 1, 150, .inl tb)), (h1, .inr (0, [.int cn, .ref a1])), (a1, .inl (g 0, 96, .inl cf))] (some (.int res.1)) [(t1, .inr (1, [.ref b1, .int tl, .int res.2.1])), (b1, .inl (g 1, 150, .inl tb)), (h1, .inr (0, [.int res.2.2.1, .ref a1])), (a1, .inl (g 0, 96, .inl res.2.2.2))] := by
  refine rwC.of (cc := cX1_readInto) (maxL := 3) (ret := (some .int)) (by decide) rfl (Nat.le_of_ble_eq_true rfl) ?_
  intro p e s m below meth c ls A X K hA hP hD hS hl
  obtain ⟨hx, hb, hml, hr, hown, hts, hk⟩ := id X
  have hl : lv_has ls 3 [(0, .ref t1), (1, .ref h1)] := hl
  unfold F_X1_readInto at hq
  refine lv_aload_n hx hb dX1_readInto_0 rfl (lv_at hl 1 rfl) ?_
  refine lv_iconst (v := 0) hx hb dX1_readInto_1 (by decide) ?_
  refine va_putN (D := G) (ci := 0) (v := .int 0) (ty := .int) (C := RX0) (T := TX0) (N := 2) (host := RX3) hx hb hts in_X1_readInto_X0 tyX0 tyX0_ok nmX0 hown K.1 hP hD hS 2 rfl rfl 0 (by decide) ((K.2.2 (RX1, 22, RX0, "count", "I", RX3) (by decide +kernel)).use rfl) (fun _ h9 => h9) rfl (by decide +kernel) rfl rfl (Nat.le_of_ble_eq_true rfl) dX1_readInto_2 (fun H locs hP hD hS => ?_)
  have hP : va_P G vwCl [(t1, .inr (1, [.ref b1, .int tl, .int ta])), (b1, .inl (g 1, 150, .inl tb)), (h1, .inr (0, [.int 0, .ref a1])), (a1, .inl (g 0, 96, .inl cf))] H := hP
  have hD : va_D A [(t1, .inr (1, [.ref b1, .int tl, .int ta])), (b1, .inl (g 1, 150, .inl tb)), (h1, .inr (0, [.int 0, .ref a1])), (a1, .inl (g 0, 96, .inl cf))] := hD
  refine lv_aload_n hx hb dX1_readInto_5 rfl (lv_at hl 0 rfl) ?_
  refine lv_iconst (v := 0) hx hb dX1_readInto_6 (by decide) ?_
  refine va_put (D := G) (ci := 1) (v := .int 0) (ty := .int) (C := RX1) (T := TX1) (N := 3) hx hb hts in_X1_readInto_X1 tyX1 tyX1_ok nmX1 hown K.1 hP hD hS 0 rfl rfl 2 (by decide) (hts _ (List.mem_of_getElem? (i := 1) rfl)) (fun _ h9 => h9) rfl (by decide +kernel) rfl rfl (Nat.le_of_ble_eq_true rfl) dX1_readInto_7 (fun H locs hP hD hS => ?_)
  have hP : va_P G vwCl [(t1, .inr (1, [.ref b1, .int tl, .int 0])), (b1, .inl (g 1, 150, .inl tb)), (h1, .inr (0, [.int 0, .ref a1])), (a1, .inl (g 0, 96, .inl cf))] H := hP
  have hD : va_D A [(t1, .inr (1, [.ref b1, .int tl, .int 0])), (b1, .inl (g 1, 150, .inl tb)), (h1, .inr (0, [.int 0, .ref a1])), (a1, .inl (g 0, 96, .inl cf))] := hD
  refine lv_iconst (v := 0) hx hb dX1_readInto_10 (by decide) ?_
  refine lv_istore_n (lv' := [(2, .int 0), (0, .ref t1), (1, .ref h1)]) hx hb dX1_readInto_11 rfl hl (by decide) rfl (fun ls hl => ?_)
  exact w_X1_readInto_12 X K hA t1 b1 h1 a1 tl tb _ 2000 0 0 cf 0 hq _ _ hP hD hS ls (lv_sub hl [1, 2, 0] rfl)
theorem hd_X0_become : ynm yX0_become 1 := by unfold ynm; decide +kernel
theorem in_X2_become_X2 : ∀ w ∈ wsX20, w ∈ wsX2_become := fun _ h => List.mem_cons_of_mem _ (List.mem_append_left _ (List.mem_append_right _ h))
def F_X2_become (bn0 : Int32) (bf0 : Nat → Int32) (bn1 : Int32) (bf1 : Nat → Int32) (bn2 : Int32) (bf2 : Nat → Int32) (bn3 : Int32) (bf3 : Nat → Int32) (dn0 : Int32) (df0 : Nat → Int32) (dn1 : Int32) (df1 : Nat → Int32) (dn2 : Int32) (df2 : Nat → Int32) (dn3 : Int32) (df3 : Nat → Int32) : Option (Int32 × (Nat → Int32) × Int32 × (Nat → Int32) × Int32 × (Nat → Int32) × Int32 × (Nat → Int32)) := (F_X0_become bn0 bf0 dn0 df0).bind fun o4 => (F_X0_become bn1 bf1 dn1 df1).bind fun o8 => (F_X0_become bn2 bf2 dn2 df2).bind fun o12 => (F_X0_become bn3 bf3 dn3 df3).bind fun o16 => some (o4.1, o4.2, o8.1, o8.2, o12.1, o12.2, o16.1, o16.2)
set_option maxHeartbeats 4000000 in
set_option maxRecDepth 100000 in
theorem k_X2_become (l : Launch) (G : va_G) (g : Nat → ClassId) (s1 q1 b0 ba0 b1 ba1 b2 ba2 b3 ba3 s2 q2 d0 da0 d1 da1 d2 da2 d3 da3 : Nat) (bn0 : Int32) (bf0 : Nat → Int32) (bn1 : Int32) (bf1 : Nat → Int32) (bn2 : Int32) (bf2 : Nat → Int32) (bn3 : Int32) (bf3 : Nat → Int32) (dn0 : Int32) (df0 : Nat → Int32) (dn1 : Int32) (df1 : Nat → Int32) (dn2 : Int32) (df2 : Nat → Int32) (dn3 : Int32) (df3 : Nat → Int32) (res : Int32 × (Nat → Int32) × Int32 × (Nat → Int32) × Int32 × (Nat → Int32) × Int32 × (Nat → Int32)) (hq : F_X2_become bn0 bf0 bn1 bf1 bn2 bf2 bn3 bf3 dn0 df0 dn1 df1 dn2 df2 dn3 df3 = some res) : rwC l yX2_become wsX2_become (rmF 2 61) G g [.ref s1, .ref s2] [(s1, .inr (2, [.ref q1])), (q1, .inl (g 2, 4, .inr (.inr (.inr (.inr (vq4 b0 b1 b2 b3)))))), (b0, .inr (0, [.int bn0, .ref ba0])), (ba0, .inl (g 0, 96, .inl bf0)), (b1, .inr (0, [.int bn1, .ref ba1])), (ba1, .inl (g 0, 96, .inl bf1)), (b2, .inr (0, [.int bn2, .ref ba2])), (ba2, .inl (g 0, 96, .inl bf2)), (b3, .inr (0, [.int bn3, .ref ba3])), (ba3, .inl (g 0, 96, .inl bf3)), (s2, .inr (2, [.ref q2])), (q2, .inl (g 2, 4, .inr (.inr (.inr (.inr (vq4 d0 d1 d2 d3)))))), (d0, .inr (0, [.int dn0, .ref da0])), (da0, .inl (g 0, 96, .inl df0)), (d1, .inr (0, [.int dn1, .ref da1])), (da1, .inl (g 0, 96, .inl df1)), (d2, .inr (0, [.int dn2, .ref da2])), (da2, .inl (g 0, 96, .inl df2)), (d3, .inr (0, [.int dn3, .ref da3])), (da3, .inl (g 0, 96, .inl df3))] none [(s1, .inr (2, [.ref q1])), (q1, .inl (g 2, 4, .inr (.inr (.inr (.inr (vq4 b0 b1 b2 b3)))))), (b0, .inr (0, [.int res.1, .ref ba0])), (ba0, .inl (g 0, 96, .inl res.2.1)), (b1, .inr (0, [.int res.2.2.1, .ref ba1])), (ba1, .inl (g 0, 96, .inl res.2.2.2.1)), (b2, .inr (0, [.int res.2.2.2.2.1, .ref ba2])), (ba2, .inl (g 0, 96, .inl res.2.2.2.2.2.1)), (b3, .inr (0, [.int res.2.2.2.2.2.2.1, .ref ba3])), (ba3, .inl (g 0, 96, .inl res.2.2.2.2.2.2.2)), (s2, .inr (2, [.ref q2])), (q2, .inl (g 2, 4, .inr (.inr (.inr (.inr (vq4 d0 d1 d2 d3)))))), (d0, .inr (0, [.int dn0, .ref da0])), (da0, .inl (g 0, 96, .inl df0)), (d1, .inr (0, [.int dn1, .ref da1])), (da1, .inl (g 0, 96, .inl df1)), (d2, .inr (0, [.int dn2, .ref da2])), (da2, .inl (g 0, 96, .inl df2)), (d3, .inr (0, [.int dn3, .ref da3])), (da3, .inl (g 0, 96, .inl df3))] := by
  refine rwC.of (cc := cX2_become) (maxL := 3) (ret := none) (by decide) rfl (Nat.le_of_ble_eq_true rfl) ?_
  intro p e s m below meth c ls A X K hA hP hD hS hl
  obtain ⟨hx, hb, hml, hr, hown, hts, hk⟩ := id X
  have hl : lv_has ls 3 [(0, .ref s1), (1, .ref s2)] := hl
  unfold F_X2_become at hq
  refine lv_iconst (v := 0) hx hb dX2_become_0 (by decide) ?_
  refine lv_istore_n (lv' := [(2, .int 0), (0, .ref s1), (1, .ref s2)]) hx hb dX2_become_1 rfl hl (by decide) rfl (fun ls hl => ?_)
  refine lv_iload_n hx hb dX2_become_2 rfl (lv_at hl 0 rfl) ?_
  refine lv_iconst (v := 4) hx hb dX2_become_3 (by decide) ?_
  refine lv_icmp_ge (tgt := 28) hx hb dX2_become_4 (by decide) (fun h => absurd h (by decide)) (fun _ => ?_)
  refine lv_aload_n hx hb dX2_become_7 rfl (lv_at hl 1 rfl) ?_
  refine va_get (D := G) (ci := 2) (v := .ref q1) (C := RX2) (T := TX2) (N := 1) hx hb hts in_X2_become_X2 hown K.1 hP 0 rfl rfl 0 (by decide) (hts _ (List.mem_of_getElem? (i := 1) rfl)) (fun _ h9 => h9) rfl dX2_become_8 ?_
  refine lv_iload_n hx hb dX2_become_11 rfl (lv_at hl 0 rfl) ?_
  refine va_aldq hx hb K.1 hP 1 2 rfl rfl (vp_in_iff.mpr (by decide)) dX2_become_12 ?_
  refine W.eq (g2 := F0 m 13 ls ([.ref b0])) (by rfl) ?_
  refine lv_aload_n hx hb dX2_become_13 rfl (lv_at hl 2 rfl) ?_
  refine va_get (D := G) (ci := 2) (v := .ref q2) (C := RX2) (T := TX2) (N := 1) hx hb hts in_X2_become_X2 hown K.1 hP 10 rfl rfl 0 (by decide) (hts _ (List.mem_of_getElem? (i := 1) rfl)) (fun _ h9 => h9) rfl dX2_become_14 ?_
  refine lv_iload_n hx hb dX2_become_17 rfl (lv_at hl 0 rfl) ?_
  refine va_aldq hx hb K.1 hP 11 2 rfl rfl (vp_in_iff.mpr (by decide)) dX2_become_18 ?_
  refine W.eq (g2 := F0 m 19 ls ([.ref d0, .ref b0])) (by rfl) ?_
  obtain ⟨⟨y1, y2⟩, hh3, hq⟩ := q_bd hq
  refine rwN (ci := 0) (host := RX3) (wr := [(s1, .inr (2, [.ref q1])), (q1, .inl (g 2, 4, .inr (.inr (.inr (.inr (vq4 b0 b1 b2 b3)))))), (b1, .inr (0, [.int bn1, .ref ba1])), (ba1, .inl (g 0, 96, .inl bf1)), (b2, .inr (0, [.int bn2, .ref ba2])), (ba2, .inl (g 0, 96, .inl bf2)), (b3, .inr (0, [.int bn3, .ref ba3])), (ba3, .inl (g 0, 96, .inl bf3)), (s2, .inr (2, [.ref q2])), (q2, .inl (g 2, 4, .inr (.inr (.inr (.inr (vq4 d0 d1 d2 d3)))))), (d1, .inr (0, [.int dn1, .ref da1])), (da1, .inl (g 0, 96, .inl df1)), (d2, .inr (0, [.int dn2, .ref da2])), (da2, .inl (g 0, 96, .inl df2)), (d3, .inr (0, [.int dn3, .ref da3])), (da3, .inl (g 0, 96, .inl df3))]) (As := [.ref d0]) (rest := []) X K (k_X0_become l G g b0 ba0 d0 da0 bn0 bf0 dn0 df0 _ hh3) hd_X0_become ggX2_become_X0_become (by decide +kernel) (List.mem_of_getElem? (i := 3) rfl) (List.mem_of_getElem? (i := 2) rfl) (List.mem_of_getElem? (i := 4) rfl) hP hD hS hA [2, 3, 12, 13] [0, 1, 4, 5, 6, 7, 8, 9, 10, 11, 14, 15, 16, 17, 18, 19] rfl rfl ⟨by decide, by decide, by decide⟩ hl.1 dX2_become_19 rfl rfl ⟨Nat.le_of_ble_eq_true rfl, Nat.le_of_ble_eq_true rfl⟩ rfl rfl rfl (Nat.le_of_ble_eq_true rfl) ⟨Nat.zero_le _, Nat.zero_le _⟩ (fun H locs hP hD hS => ?_)
  have hP : va_P G vwCl [(s1, .inr (2, [.ref q1])), (q1, .inl (g 2, 4, .inr (.inr (.inr (.inr (vq4 b0 b1 b2 b3)))))), (b0, .inr (0, [.int y1, .ref ba0])), (ba0, .inl (g 0, 96, .inl y2)), (b1, .inr (0, [.int bn1, .ref ba1])), (ba1, .inl (g 0, 96, .inl bf1)), (b2, .inr (0, [.int bn2, .ref ba2])), (ba2, .inl (g 0, 96, .inl bf2)), (b3, .inr (0, [.int bn3, .ref ba3])), (ba3, .inl (g 0, 96, .inl bf3)), (s2, .inr (2, [.ref q2])), (q2, .inl (g 2, 4, .inr (.inr (.inr (.inr (vq4 d0 d1 d2 d3)))))), (d0, .inr (0, [.int dn0, .ref da0])), (da0, .inl (g 0, 96, .inl df0)), (d1, .inr (0, [.int dn1, .ref da1])), (da1, .inl (g 0, 96, .inl df1)), (d2, .inr (0, [.int dn2, .ref da2])), (da2, .inl (g 0, 96, .inl df2)), (d3, .inr (0, [.int dn3, .ref da3])), (da3, .inl (g 0, 96, .inl df3))] H := hP.sub [0, 1, 16, 17, 2, 3, 4, 5, 6, 7, 8, 9, 18, 19, 10, 11, 12, 13, 14, 15] rfl
  have hD : va_D A [(s1, .inr (2, [.ref q1])), (q1, .inl (g 2, 4, .inr (.inr (.inr (.inr (vq4 b0 b1 b2 b3)))))), (b0, .inr (0, [.int y1, .ref ba0])), (ba0, .inl (g 0, 96, .inl y2)), (b1, .inr (0, [.int bn1, .ref ba1])), (ba1, .inl (g 0, 96, .inl bf1)), (b2, .inr (0, [.int bn2, .ref ba2])), (ba2, .inl (g 0, 96, .inl bf2)), (b3, .inr (0, [.int bn3, .ref ba3])), (ba3, .inl (g 0, 96, .inl bf3)), (s2, .inr (2, [.ref q2])), (q2, .inl (g 2, 4, .inr (.inr (.inr (.inr (vq4 d0 d1 d2 d3)))))), (d0, .inr (0, [.int dn0, .ref da0])), (da0, .inl (g 0, 96, .inl df0)), (d1, .inr (0, [.int dn1, .ref da1])), (da1, .inl (g 0, 96, .inl df1)), (d2, .inr (0, [.int dn2, .ref da2])), (da2, .inl (g 0, 96, .inl df2)), (d3, .inr (0, [.int dn3, .ref da3])), (da3, .inl (g 0, 96, .inl df3))] := hD.sub [0, 1, 16, 17, 2, 3, 4, 5, 6, 7, 8, 9, 18, 19, 10, 11, 12, 13, 14, 15] (by decide) rfl
  refine lv_iinc (v := 1) (lv' := [(2, .int 1), (0, .ref s1), (1, .ref s2)]) hx hb dX2_become_22 hl (k := 0) rfl (by decide) (by decide) rfl (fun ls hl => ?_)
  refine lv_goto (tgt := 2) hx hb dX2_become_25 (by decide) ?_
  refine lv_iload_n hx hb dX2_become_2 rfl (lv_at hl 0 rfl) ?_
  refine lv_iconst (v := 4) hx hb dX2_become_3 (by decide) ?_
  refine lv_icmp_ge (tgt := 28) hx hb dX2_become_4 (by decide) (fun h => absurd h (by decide)) (fun _ => ?_)
  refine lv_aload_n hx hb dX2_become_7 rfl (lv_at hl 1 rfl) ?_
  refine va_get (D := G) (ci := 2) (v := .ref q1) (C := RX2) (T := TX2) (N := 1) hx hb hts in_X2_become_X2 hown K.1 hP 0 rfl rfl 0 (by decide) (hts _ (List.mem_of_getElem? (i := 1) rfl)) (fun _ h9 => h9) rfl dX2_become_8 ?_
  refine lv_iload_n hx hb dX2_become_11 rfl (lv_at hl 0 rfl) ?_
  refine va_aldq hx hb K.1 hP 1 2 rfl rfl (vp_in_iff.mpr (by decide)) dX2_become_12 ?_
  refine W.eq (g2 := F0 m 13 ls ([.ref b1])) (by rfl) ?_
  refine lv_aload_n hx hb dX2_become_13 rfl (lv_at hl 2 rfl) ?_
  refine va_get (D := G) (ci := 2) (v := .ref q2) (C := RX2) (T := TX2) (N := 1) hx hb hts in_X2_become_X2 hown K.1 hP 10 rfl rfl 0 (by decide) (hts _ (List.mem_of_getElem? (i := 1) rfl)) (fun _ h9 => h9) rfl dX2_become_14 ?_
  refine lv_iload_n hx hb dX2_become_17 rfl (lv_at hl 0 rfl) ?_
  refine va_aldq hx hb K.1 hP 11 2 rfl rfl (vp_in_iff.mpr (by decide)) dX2_become_18 ?_
  refine W.eq (g2 := F0 m 19 ls ([.ref d1, .ref b1])) (by rfl) ?_
  obtain ⟨⟨y5, y6⟩, hh7, hq⟩ := q_bd hq
  refine rwN (ci := 0) (host := RX3) (wr := [(s1, .inr (2, [.ref q1])), (q1, .inl (g 2, 4, .inr (.inr (.inr (.inr (vq4 b0 b1 b2 b3)))))), (b0, .inr (0, [.int y1, .ref ba0])), (ba0, .inl (g 0, 96, .inl y2)), (b2, .inr (0, [.int bn2, .ref ba2])), (ba2, .inl (g 0, 96, .inl bf2)), (b3, .inr (0, [.int bn3, .ref ba3])), (ba3, .inl (g 0, 96, .inl bf3)), (s2, .inr (2, [.ref q2])), (q2, .inl (g 2, 4, .inr (.inr (.inr (.inr (vq4 d0 d1 d2 d3)))))), (d0, .inr (0, [.int dn0, .ref da0])), (da0, .inl (g 0, 96, .inl df0)), (d2, .inr (0, [.int dn2, .ref da2])), (da2, .inl (g 0, 96, .inl df2)), (d3, .inr (0, [.int dn3, .ref da3])), (da3, .inl (g 0, 96, .inl df3))]) (As := [.ref d1]) (rest := []) X K (k_X0_become l G g b1 ba1 d1 da1 bn1 bf1 dn1 df1 _ hh7) hd_X0_become ggX2_become_X0_become (by decide +kernel) (List.mem_of_getElem? (i := 3) rfl) (List.mem_of_getElem? (i := 2) rfl) (List.mem_of_getElem? (i := 4) rfl) hP hD hS hA [4, 5, 14, 15] [0, 1, 2, 3, 6, 7, 8, 9, 10, 11, 12, 13, 16, 17, 18, 19] rfl rfl ⟨by decide, by decide, by decide⟩ hl.1 dX2_become_19 rfl rfl ⟨Nat.le_of_ble_eq_true rfl, Nat.le_of_ble_eq_true rfl⟩ rfl rfl rfl (Nat.le_of_ble_eq_true rfl) ⟨Nat.zero_le _, Nat.zero_le _⟩ (fun H locs hP hD hS => ?_)
  have hP : va_P G vwCl [(s1, .inr (2, [.ref q1])), (q1, .inl (g 2, 4, .inr (.inr (.inr (.inr (vq4 b0 b1 b2 b3)))))), (b0, .inr (0, [.int y1, .ref ba0])), (ba0, .inl (g 0, 96, .inl y2)), (b1, .inr (0, [.int y5, .ref ba1])), (ba1, .inl (g 0, 96, .inl y6)), (b2, .inr (0, [.int bn2, .ref ba2])), (ba2, .inl (g 0, 96, .inl bf2)), (b3, .inr (0, [.int bn3, .ref ba3])), (ba3, .inl (g 0, 96, .inl bf3)), (s2, .inr (2, [.ref q2])), (q2, .inl (g 2, 4, .inr (.inr (.inr (.inr (vq4 d0 d1 d2 d3)))))), (d0, .inr (0, [.int dn0, .ref da0])), (da0, .inl (g 0, 96, .inl df0)), (d1, .inr (0, [.int dn1, .ref da1])), (da1, .inl (g 0, 96, .inl df1)), (d2, .inr (0, [.int dn2, .ref da2])), (da2, .inl (g 0, 96, .inl df2)), (d3, .inr (0, [.int dn3, .ref da3])), (da3, .inl (g 0, 96, .inl df3))] H := hP.sub [0, 1, 2, 3, 16, 17, 4, 5, 6, 7, 8, 9, 10, 11, 18, 19, 12, 13, 14, 15] rfl
  have hD : va_D A [(s1, .inr (2, [.ref q1])), (q1, .inl (g 2, 4, .inr (.inr (.inr (.inr (vq4 b0 b1 b2 b3)))))), (b0, .inr (0, [.int y1, .ref ba0])), (ba0, .inl (g 0, 96, .inl y2)), (b1, .inr (0, [.int y5, .ref ba1])), (ba1, .inl (g 0, 96, .inl y6)), (b2, .inr (0, [.int bn2, .ref ba2])), (ba2, .inl (g 0, 96, .inl bf2)), (b3, .inr (0, [.int bn3, .ref ba3])), (ba3, .inl (g 0, 96, .inl bf3)), (s2, .inr (2, [.ref q2])), (q2, .inl (g 2, 4, .inr (.inr (.inr (.inr (vq4 d0 d1 d2 d3)))))), (d0, .inr (0, [.int dn0, .ref da0])), (da0, .inl (g 0, 96, .inl df0)), (d1, .inr (0, [.int dn1, .ref da1])), (da1, .inl (g 0, 96, .inl df1)), (d2, .inr (0, [.int dn2, .ref da2])), (da2, .inl (g 0, 96, .inl df2)), (d3, .inr (0, [.int dn3, .ref da3])), (da3, .inl (g 0, 96, .inl df3))] := hD.sub [0, 1, 2, 3, 16, 17, 4, 5, 6, 7, 8, 9, 10, 11, 18, 19, 12, 13, 14, 15] (by decide) rfl
  refine lv_iinc (v := 2) (lv' := [(2, .int 2), (0, .ref s1), (1, .ref s2)]) hx hb dX2_become_22 hl (k := 0) rfl (by decide) (by decide) rfl (fun ls hl => ?_)
  refine lv_goto (tgt := 2) hx hb dX2_become_25 (by decide) ?_
  refine lv_iload_n hx hb dX2_become_2 rfl (lv_at hl 0 rfl) ?_
  refine lv_iconst (v := 4) hx hb dX2_become_3 (by decide) ?_
  refine lv_icmp_ge (tgt := 28) hx hb dX2_become_4 (by decide) (fun h => absurd h (by decide)) (fun _ => ?_)
  refine lv_aload_n hx hb dX2_become_7 rfl (lv_at hl 1 rfl) ?_
  refine va_get (D := G) (ci := 2) (v := .ref q1) (C := RX2) (T := TX2) (N := 1) hx hb hts in_X2_become_X2 hown K.1 hP 0 rfl rfl 0 (by decide) (hts _ (List.mem_of_getElem? (i := 1) rfl)) (fun _ h9 => h9) rfl dX2_become_8 ?_
  refine lv_iload_n hx hb dX2_become_11 rfl (lv_at hl 0 rfl) ?_
  refine va_aldq hx hb K.1 hP 1 2 rfl rfl (vp_in_iff.mpr (by decide)) dX2_become_12 ?_
  refine W.eq (g2 := F0 m 13 ls ([.ref b2])) (by rfl) ?_
  refine lv_aload_n hx hb dX2_become_13 rfl (lv_at hl 2 rfl) ?_
  refine va_get (D := G) (ci := 2) (v := .ref q2) (C := RX2) (T := TX2) (N := 1) hx hb hts in_X2_become_X2 hown K.1 hP 10 rfl rfl 0 (by decide) (hts _ (List.mem_of_getElem? (i := 1) rfl)) (fun _ h9 => h9) rfl dX2_become_14 ?_
  refine lv_iload_n hx hb dX2_become_17 rfl (lv_at hl 0 rfl) ?_
  refine va_aldq hx hb K.1 hP 11 2 rfl rfl (vp_in_iff.mpr (by decide)) dX2_become_18 ?_
  refine W.eq (g2 := F0 m 19 ls ([.ref d2, .ref b2])) (by rfl) ?_
  obtain ⟨⟨y9, y10⟩, hh11, hq⟩ := q_bd hq
  refine rwN (ci := 0) (host := RX3) (wr := [(s1, .inr (2, [.ref q1])), (q1, .inl (g 2, 4, .inr (.inr (.inr (.inr (vq4 b0 b1 b2 b3)))))), (b0, .inr (0, [.int y1, .ref ba0])), (ba0, .inl (g 0, 96, .inl y2)), (b1, .inr (0, [.int y5, .ref ba1])), (ba1, .inl (g 0, 96, .inl y6)), (b3, .inr (0, [.int bn3, .ref ba3])), (ba3, .inl (g 0, 96, .inl bf3)), (s2, .inr (2, [.ref q2])), (q2, .inl (g 2, 4, .inr (.inr (.inr (.inr (vq4 d0 d1 d2 d3)))))), (d0, .inr (0, [.int dn0, .ref da0])), (da0, .inl (g 0, 96, .inl df0)), (d1, .inr (0, [.int dn1, .ref da1])), (da1, .inl (g 0, 96, .inl df1)), (d3, .inr (0, [.int dn3, .ref da3])), (da3, .inl (g 0, 96, .inl df3))]) (As := [.ref d2]) (rest := []) X K (k_X0_become l G g b2 ba2 d2 da2 bn2 bf2 dn2 df2 _ hh11) hd_X0_become ggX2_become_X0_become (by decide +kernel) (List.mem_of_getElem? (i := 3) rfl) (List.mem_of_getElem? (i := 2) rfl) (List.mem_of_getElem? (i := 4) rfl) hP hD hS hA [6, 7, 16, 17] [0, 1, 2, 3, 4, 5, 8, 9, 10, 11, 12, 13, 14, 15, 18, 19] rfl rfl ⟨by decide, by decide, by decide⟩ hl.1 dX2_become_19 rfl rfl ⟨Nat.le_of_ble_eq_true rfl, Nat.le_of_ble_eq_true rfl⟩ rfl rfl rfl (Nat.le_of_ble_eq_true rfl) ⟨Nat.zero_le _, Nat.zero_le _⟩ (fun H locs hP hD hS => ?_)
  have hP : va_P G vwCl [(s1, .inr (2, [.ref q1])), (q1, .inl (g 2, 4, .inr (.inr (.inr (.inr (vq4 b0 b1 b2 b3)))))), (b0, .inr (0, [.int y1, .ref ba0])), (ba0, .inl (g 0, 96, .inl y2)), (b1, .inr (0, [.int y5, .ref ba1])), (ba1, .inl (g 0, 96, .inl y6)), (b2, .inr (0, [.int y9, .ref ba2])), (ba2, .inl (g 0, 96, .inl y10)), (b3, .inr (0, [.int bn3, .ref ba3])), (ba3, .inl (g 0, 96, .inl bf3)), (s2, .inr (2, [.ref q2])), (q2, .inl (g 2, 4, .inr (.inr (.inr (.inr (vq4 d0 d1 d2 d3)))))), (d0, .inr (0, [.int dn0, .ref da0])), (da0, .inl (g 0, 96, .inl df0)), (d1, .inr (0, [.int dn1, .ref da1])), (da1, .inl (g 0, 96, .inl df1)), (d2, .inr (0, [.int dn2, .ref da2])), (da2, .inl (g 0, 96, .inl df2)), (d3, .inr (0, [.int dn3, .ref da3])), (da3, .inl (g 0, 96, .inl df3))] H := hP.sub [0, 1, 2, 3, 4, 5, 16, 17, 6, 7, 8, 9, 10, 11, 12, 13, 18, 19, 14, 15] rfl
  have hD : va_D A [(s1, .inr (2, [.ref q1])), (q1, .inl (g 2, 4, .inr (.inr (.inr (.inr (vq4 b0 b1 b2 b3)))))), (b0, .inr (0, [.int y1, .ref ba0])), (ba0, .inl (g 0, 96, .inl y2)), (b1, .inr (0, [.int y5, .ref ba1])), (ba1, .inl (g 0, 96, .inl y6)), (b2, .inr (0, [.int y9, .ref ba2])), (ba2, .inl (g 0, 96, .inl y10)), (b3, .inr (0, [.int bn3, .ref ba3])), (ba3, .inl (g 0, 96, .inl bf3)), (s2, .inr (2, [.ref q2])), (q2, .inl (g 2, 4, .inr (.inr (.inr (.inr (vq4 d0 d1 d2 d3)))))), (d0, .inr (0, [.int dn0, .ref da0])), (da0, .inl (g 0, 96, .inl df0)), (d1, .inr (0, [.int dn1, .ref da1])), (da1, .inl (g 0, 96, .inl df1)), (d2, .inr (0, [.int dn2, .ref da2])), (da2, .inl (g 0, 96, .inl df2)), (d3, .inr (0, [.int dn3, .ref da3])), (da3, .inl (g 0, 96, .inl df3))] := hD.sub [0, 1, 2, 3, 4, 5, 16, 17, 6, 7, 8, 9, 10, 11, 12, 13, 18, 19, 14, 15] (by decide) rfl
  refine lv_iinc (v := 3) (lv' := [(2, .int 3), (0, .ref s1), (1, .ref s2)]) hx hb dX2_become_22 hl (k := 0) rfl (by decide) (by decide) rfl (fun ls hl => ?_)
  refine lv_goto (tgt := 2) hx hb dX2_become_25 (by decide) ?_
  refine lv_iload_n hx hb dX2_become_2 rfl (lv_at hl 0 rfl) ?_
  refine lv_iconst (v := 4) hx hb dX2_become_3 (by decide) ?_
  refine lv_icmp_ge (tgt := 28) hx hb dX2_become_4 (by decide) (fun h => absurd h (by decide)) (fun _ => ?_)
  refine lv_aload_n hx hb dX2_become_7 rfl (lv_at hl 1 rfl) ?_
  refine va_get (D := G) (ci := 2) (v := .ref q1) (C := RX2) (T := TX2) (N := 1) hx hb hts in_X2_become_X2 hown K.1 hP 0 rfl rfl 0 (by decide) (hts _ (List.mem_of_getElem? (i := 1) rfl)) (fun _ h9 => h9) rfl dX2_become_8 ?_
  refine lv_iload_n hx hb dX2_become_11 rfl (lv_at hl 0 rfl) ?_
  refine va_aldq hx hb K.1 hP 1 2 rfl rfl (vp_in_iff.mpr (by decide)) dX2_become_12 ?_
  refine W.eq (g2 := F0 m 13 ls ([.ref b3])) (by rfl) ?_
  refine lv_aload_n hx hb dX2_become_13 rfl (lv_at hl 2 rfl) ?_
  refine va_get (D := G) (ci := 2) (v := .ref q2) (C := RX2) (T := TX2) (N := 1) hx hb hts in_X2_become_X2 hown K.1 hP 10 rfl rfl 0 (by decide) (hts _ (List.mem_of_getElem? (i := 1) rfl)) (fun _ h9 => h9) rfl dX2_become_14 ?_
  refine lv_iload_n hx hb dX2_become_17 rfl (lv_at hl 0 rfl) ?_
  refine va_aldq hx hb K.1 hP 11 2 rfl rfl (vp_in_iff.mpr (by decide)) dX2_become_18 ?_
  refine W.eq (g2 := F0 m 19 ls ([.ref d3, .ref b3])) (by rfl) ?_
  obtain ⟨⟨y13, y14⟩, hh15, hq⟩ := q_bd hq
  refine rwN (ci := 0) (host := RX3) (wr := [(s1, .inr (2, [.ref q1])), (q1, .inl (g 2, 4, .inr (.inr (.inr (.inr (vq4 b0 b1 b2 b3)))))), (b0, .inr (0, [.int y1, .ref ba0])), (ba0, .inl (g 0, 96, .inl y2)), (b1, .inr (0, [.int y5, .ref ba1])), (ba1, .inl (g 0, 96, .inl y6)), (b2, .inr (0, [.int y9, .ref ba2])), (ba2, .inl (g 0, 96, .inl y10)), (s2, .inr (2, [.ref q2])), (q2, .inl (g 2, 4, .inr (.inr (.inr (.inr (vq4 d0 d1 d2 d3)))))), (d0, .inr (0, [.int dn0, .ref da0])), (da0, .inl (g 0, 96, .inl df0)), (d1, .inr (0, [.int dn1, .ref da1])), (da1, .inl (g 0, 96, .inl df1)), (d2, .inr (0, [.int dn2, .ref da2])), (da2, .inl (g 0, 96, .inl df2))]) (As := [.ref d3]) (rest := []) X K (k_X0_become l G g b3 ba3 d3 da3 bn3 bf3 dn3 df3 _ hh15) hd_X0_become ggX2_become_X0_become (by decide +kernel) (List.mem_of_getElem? (i := 3) rfl) (List.mem_of_getElem? (i := 2) rfl) (List.mem_of_getElem? (i := 4) rfl) hP hD hS hA [8, 9, 18, 19] [0, 1, 2, 3, 4, 5, 6, 7, 10, 11, 12, 13, 14, 15, 16, 17] rfl rfl ⟨by decide, by decide, by decide⟩ hl.1 dX2_become_19 rfl rfl ⟨Nat.le_of_ble_eq_true rfl, Nat.le_of_ble_eq_true rfl⟩ rfl rfl rfl (Nat.le_of_ble_eq_true rfl) ⟨Nat.zero_le _, Nat.zero_le _⟩ (fun H locs hP hD hS => ?_)
  have hP : va_P G vwCl [(s1, .inr (2, [.ref q1])), (q1, .inl (g 2, 4, .inr (.inr (.inr (.inr (vq4 b0 b1 b2 b3)))))), (b0, .inr (0, [.int y1, .ref ba0])), (ba0, .inl (g 0, 96, .inl y2)), (b1, .inr (0, [.int y5, .ref ba1])), (ba1, .inl (g 0, 96, .inl y6)), (b2, .inr (0, [.int y9, .ref ba2])), (ba2, .inl (g 0, 96, .inl y10)), (b3, .inr (0, [.int y13, .ref ba3])), (ba3, .inl (g 0, 96, .inl y14)), (s2, .inr (2, [.ref q2])), (q2, .inl (g 2, 4, .inr (.inr (.inr (.inr (vq4 d0 d1 d2 d3)))))), (d0, .inr (0, [.int dn0, .ref da0])), (da0, .inl (g 0, 96, .inl df0)), (d1, .inr (0, [.int dn1, .ref da1])), (da1, .inl (g 0, 96, .inl df1)), (d2, .inr (0, [.int dn2, .ref da2])), (da2, .inl (g 0, 96, .inl df2)), (d3, .inr (0, [.int dn3, .ref da3])), (da3, .inl (g 0, 96, .inl df3))] H := hP.sub [0, 1, 2, 3, 4, 5, 6, 7, 16, 17, 8, 9, 10, 11, 12, 13, 14, 15, 18, 19] rfl
  have hD : va_D A [(s1, .inr (2, [.ref q1])), (q1, .inl (g 2, 4, .inr (.inr (.inr (.inr (vq4 b0 b1 b2 b3)))))), (b0, .inr (0, [.int y1, .ref ba0])), (ba0, .inl (g 0, 96, .inl y2)), (b1, .inr (0, [.int y5, .ref ba1])), (ba1, .inl (g 0, 96, .inl y6)), (b2, .inr (0, [.int y9, .ref ba2])), (ba2, .inl (g 0, 96, .inl y10)), (b3, .inr (0, [.int y13, .ref ba3])), (ba3, .inl (g 0, 96, .inl y14)), (s2, .inr (2, [.ref q2])), (q2, .inl (g 2, 4, .inr (.inr (.inr (.inr (vq4 d0 d1 d2 d3)))))), (d0, .inr (0, [.int dn0, .ref da0])), (da0, .inl (g 0, 96, .inl df0)), (d1, .inr (0, [.int dn1, .ref da1])), (da1, .inl (g 0, 96, .inl df1)), (d2, .inr (0, [.int dn2, .ref da2])), (da2, .inl (g 0, 96, .inl df2)), (d3, .inr (0, [.int dn3, .ref da3])), (da3, .inl (g 0, 96, .inl df3))] := hD.sub [0, 1, 2, 3, 4, 5, 6, 7, 16, 17, 8, 9, 10, 11, 12, 13, 14, 15, 18, 19] (by decide) rfl
  refine lv_iinc (v := 4) (lv' := [(2, .int 4), (0, .ref s1), (1, .ref s2)]) hx hb dX2_become_22 hl (k := 0) rfl (by decide) (by decide) rfl (fun ls hl => ?_)
  refine lv_goto (tgt := 2) hx hb dX2_become_25 (by decide) ?_
  refine lv_iload_n hx hb dX2_become_2 rfl (lv_at hl 0 rfl) ?_
  refine lv_iconst (v := 4) hx hb dX2_become_3 (by decide) ?_
  refine lv_icmp_ge (tgt := 28) hx hb dX2_become_4 (by decide) (fun _ => ?_) (fun h => absurd (by decide) h)
  obtain rfl := q_rt hq
  exact rw_vret hx hb hr hk hP hD hS dX2_become_28
end
