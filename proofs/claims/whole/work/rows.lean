section
-- ===== PART A: goes FIRST, ahead of the names: the tables' words, and 'selects' of the private methods out of them =====
/-- a private method of a class that the tables say can be made, by its rows of tables_1 -/
def lw_okq (q : MethodName × Nat) : Prop := (q.1.cls ≠ "java/lang/invoke/MethodHandle" ∧ q.1.cls ≠ "java/lang/invoke/VarHandle") ∧ Cond.instantiable q.1.cls q.2 ∈ tables_1 ∧ Cond.privateMethod q.1 ∈ tables_1 ∧ Cond.instanceMethod q.1 ∈ tables_1
theorem lw_p0 : lw_okq (⟨"KeyframeCurves$History", "stateAt", "(I)LKeyframeCurves$State;"⟩, 3) := ⟨⟨by decide +kernel, by decide +kernel⟩, List.mem_of_getElem? (i := 126) (by decide +kernel), List.mem_of_getElem? (i := 301) (by decide +kernel), List.mem_of_getElem? (i := 302) (by decide +kernel)⟩
theorem lw_p1 : lw_okq (⟨"KeyframeCurves$Curve", "shift", "(II)V"⟩, 8) := ⟨⟨by decide +kernel, by decide +kernel⟩, List.mem_of_getElem? (i := 70) (by decide +kernel), List.mem_of_getElem? (i := 341) (by decide +kernel), List.mem_of_getElem? (i := 342) (by decide +kernel)⟩
theorem lw_p2 : lw_okq (⟨"KeyframeCurves$Curve", "secant", "(II)I"⟩, 8) := ⟨⟨by decide +kernel, by decide +kernel⟩, List.mem_of_getElem? (i := 70) (by decide +kernel), List.mem_of_getElem? (i := 381) (by decide +kernel), List.mem_of_getElem? (i := 382) (by decide +kernel)⟩
theorem lw_p3 : lw_okq (⟨"KeyframeCurves$Curve", "isBetweenNeighbors", "(I)Z"⟩, 8) := ⟨⟨by decide +kernel, by decide +kernel⟩, List.mem_of_getElem? (i := 70) (by decide +kernel), List.mem_of_getElem? (i := 393) (by decide +kernel), List.mem_of_getElem? (i := 394) (by decide +kernel)⟩
theorem lw_p4 : lw_okq (⟨"KeyframeCurves$Curve", "extrapolation", "(III)I"⟩, 8) := ⟨⟨by decide +kernel, by decide +kernel⟩, List.mem_of_getElem? (i := 70) (by decide +kernel), List.mem_of_getElem? (i := 433) (by decide +kernel), List.mem_of_getElem? (i := 434) (by decide +kernel)⟩
theorem lw_p5 : lw_okq (⟨"KeyframeCurves$Curve", "between", "(II)I"⟩, 8) := ⟨⟨by decide +kernel, by decide +kernel⟩, List.mem_of_getElem? (i := 70) (by decide +kernel), List.mem_of_getElem? (i := 443) (by decide +kernel), List.mem_of_getElem? (i := 444) (by decide +kernel)⟩
theorem lw_p6 : lw_okq (⟨"KeyframeCurves$Curve", "freeUnlessHold", "(I)V"⟩, 8) := ⟨⟨by decide +kernel, by decide +kernel⟩, List.mem_of_getElem? (i := 70) (by decide +kernel), List.mem_of_getElem? (i := 461) (by decide +kernel), List.mem_of_getElem? (i := 462) (by decide +kernel)⟩
theorem lw_p7 : lw_okq (⟨"KeyframeCurves$TimeMap", "pointsBefore", "(I)I"⟩, 3) := ⟨⟨by decide +kernel, by decide +kernel⟩, List.mem_of_getElem? (i := 31) (by decide +kernel), List.mem_of_getElem? (i := 553) (by decide +kernel), List.mem_of_getElem? (i := 554) (by decide +kernel)⟩
theorem lw_p8 : lw_okq (⟨"KeyframeCurves$TimeMap", "targetLength", "(I)I"⟩, 3) := ⟨⟨by decide +kernel, by decide +kernel⟩, List.mem_of_getElem? (i := 31) (by decide +kernel), List.mem_of_getElem? (i := 557) (by decide +kernel), List.mem_of_getElem? (i := 558) (by decide +kernel)⟩
theorem lw_p9 : lw_okq (⟨"KeyframeCurves$TimeMap", "sourceLength", "(I)I"⟩, 3) := ⟨⟨by decide +kernel, by decide +kernel⟩, List.mem_of_getElem? (i := 31) (by decide +kernel), List.mem_of_getElem? (i := 561) (by decide +kernel), List.mem_of_getElem? (i := 562) (by decide +kernel)⟩
theorem lw_p10 : lw_okq (⟨"KeyframeCurves$Polyline", "chooseNext", "(II)V"⟩, 5) := ⟨⟨by decide +kernel, by decide +kernel⟩, List.mem_of_getElem? (i := 203) (by decide +kernel), List.mem_of_getElem? (i := 627) (by decide +kernel), List.mem_of_getElem? (i := 628) (by decide +kernel)⟩
theorem lw_p11 : lw_okq (⟨"KeyframeCurves$Polyline", "misfit", "(III)I"⟩, 5) := ⟨⟨by decide +kernel, by decide +kernel⟩, List.mem_of_getElem? (i := 203) (by decide +kernel), List.mem_of_getElem? (i := 633) (by decide +kernel), List.mem_of_getElem? (i := 634) (by decide +kernel)⟩
theorem lw_p12 : lw_okq (⟨"KeyframeCurves$Decimator", "cheapest", "(LKeyframeCurves$Curve;I)I"⟩, 2) := ⟨⟨by decide +kernel, by decide +kernel⟩, List.mem_of_getElem? (i := 225) (by decide +kernel), List.mem_of_getElem? (i := 662) (by decide +kernel), List.mem_of_getElem? (i := 663) (by decide +kernel)⟩
theorem lw_p13 : lw_okq (⟨"KeyframeCurves$FormulaReader", "sum", "(LKeyframeCurves$Text;I)V"⟩, 1) := ⟨⟨by decide +kernel, by decide +kernel⟩, List.mem_of_getElem? (i := 167) (by decide +kernel), List.mem_of_getElem? (i := 697) (by decide +kernel), List.mem_of_getElem? (i := 698) (by decide +kernel)⟩
theorem lw_p14 : lw_okq (⟨"KeyframeCurves$FormulaReader", "product", "(LKeyframeCurves$Text;I)V"⟩, 1) := ⟨⟨by decide +kernel, by decide +kernel⟩, List.mem_of_getElem? (i := 167) (by decide +kernel), List.mem_of_getElem? (i := 701) (by decide +kernel), List.mem_of_getElem? (i := 702) (by decide +kernel)⟩
theorem lw_p15 : lw_okq (⟨"KeyframeCurves$FormulaReader", "factor", "(LKeyframeCurves$Text;I)V"⟩, 1) := ⟨⟨by decide +kernel, by decide +kernel⟩, List.mem_of_getElem? (i := 167) (by decide +kernel), List.mem_of_getElem? (i := 705) (by decide +kernel), List.mem_of_getElem? (i := 706) (by decide +kernel)⟩
def lw_privs_1 : List (MethodName × Nat) := [(⟨"KeyframeCurves$History", "stateAt", "(I)LKeyframeCurves$State;"⟩, 3), (⟨"KeyframeCurves$Curve", "shift", "(II)V"⟩, 8), (⟨"KeyframeCurves$Curve", "secant", "(II)I"⟩, 8), (⟨"KeyframeCurves$Curve", "isBetweenNeighbors", "(I)Z"⟩, 8), (⟨"KeyframeCurves$Curve", "extrapolation", "(III)I"⟩, 8), (⟨"KeyframeCurves$Curve", "between", "(II)I"⟩, 8), (⟨"KeyframeCurves$Curve", "freeUnlessHold", "(I)V"⟩, 8), (⟨"KeyframeCurves$TimeMap", "pointsBefore", "(I)I"⟩, 3), (⟨"KeyframeCurves$TimeMap", "targetLength", "(I)I"⟩, 3), (⟨"KeyframeCurves$TimeMap", "sourceLength", "(I)I"⟩, 3), (⟨"KeyframeCurves$Polyline", "chooseNext", "(II)V"⟩, 5), (⟨"KeyframeCurves$Polyline", "misfit", "(III)I"⟩, 5), (⟨"KeyframeCurves$Decimator", "cheapest", "(LKeyframeCurves$Curve;I)I"⟩, 2), (⟨"KeyframeCurves$FormulaReader", "sum", "(LKeyframeCurves$Text;I)V"⟩, 1), (⟨"KeyframeCurves$FormulaReader", "product", "(LKeyframeCurves$Text;I)V"⟩, 1), (⟨"KeyframeCurves$FormulaReader", "factor", "(LKeyframeCurves$Text;I)V"⟩, 1)]
theorem lw_r1 : ∀ q ∈ lw_privs_1, lw_okq q := List.forall_mem_cons.mpr ⟨lw_p0, List.forall_mem_cons.mpr ⟨lw_p1, List.forall_mem_cons.mpr ⟨lw_p2, List.forall_mem_cons.mpr ⟨lw_p3, List.forall_mem_cons.mpr ⟨lw_p4, List.forall_mem_cons.mpr ⟨lw_p5, List.forall_mem_cons.mpr ⟨lw_p6, List.forall_mem_cons.mpr ⟨lw_p7, List.forall_mem_cons.mpr ⟨lw_p8, List.forall_mem_cons.mpr ⟨lw_p9, List.forall_mem_cons.mpr ⟨lw_p10, List.forall_mem_cons.mpr ⟨lw_p11, List.forall_mem_cons.mpr ⟨lw_p12, List.forall_mem_cons.mpr ⟨lw_p13, List.forall_mem_cons.mpr ⟨lw_p14, List.forall_mem_cons.mpr ⟨lw_p15, fun _ h => absurd h List.not_mem_nil⟩⟩⟩⟩⟩⟩⟩⟩⟩⟩⟩⟩⟩⟩⟩⟩
theorem lw_p16 : lw_okq (⟨"KeyframeCurves$FormulaReader", "curve", "(LKeyframeCurves$Text;I)V"⟩, 1) := ⟨⟨by decide +kernel, by decide +kernel⟩, List.mem_of_getElem? (i := 167) (by decide +kernel), List.mem_of_getElem? (i := 714) (by decide +kernel), List.mem_of_getElem? (i := 715) (by decide +kernel)⟩
theorem lw_p17 : lw_okq (⟨"KeyframeCurves$FormulaReader", "choice", "(LKeyframeCurves$Text;I)V"⟩, 1) := ⟨⟨by decide +kernel, by decide +kernel⟩, List.mem_of_getElem? (i := 167) (by decide +kernel), List.mem_of_getElem? (i := 741) (by decide +kernel), List.mem_of_getElem? (i := 742) (by decide +kernel)⟩
theorem lw_p18 : lw_okq (⟨"KeyframeCurves$CurveReader", "key", "(LKeyframeCurves$Text;)V"⟩, 1) := ⟨⟨by decide +kernel, by decide +kernel⟩, List.mem_of_getElem? (i := 180) (by decide +kernel), List.mem_of_getElem? (i := 759) (by decide +kernel), List.mem_of_getElem? (i := 760) (by decide +kernel)⟩
theorem lw_p19 : lw_okq (⟨"KeyframeCurvesModel", "many", "(I)I"⟩, 27) := ⟨⟨by decide +kernel, by decide +kernel⟩, List.mem_of_getElem? (i := 818) (by decide +kernel), List.mem_of_getElem? (i := 925) (by decide +kernel), List.mem_of_getElem? (i := 926) (by decide +kernel)⟩
theorem lw_p20 : lw_okq (⟨"KeyframeCurvesModel", "valueAt", "(II)I"⟩, 27) := ⟨⟨by decide +kernel, by decide +kernel⟩, List.mem_of_getElem? (i := 818) (by decide +kernel), List.mem_of_getElem? (i := 932) (by decide +kernel), List.mem_of_getElem? (i := 933) (by decide +kernel)⟩
theorem lw_p21 : lw_okq (⟨"KeyframeCurvesModel", "frame", "(II)I"⟩, 27) := ⟨⟨by decide +kernel, by decide +kernel⟩, List.mem_of_getElem? (i := 818) (by decide +kernel), List.mem_of_getElem? (i := 936) (by decide +kernel), List.mem_of_getElem? (i := 937) (by decide +kernel)⟩
theorem lw_p22 : lw_okq (⟨"KeyframeCurvesModel", "inside", "(II)I"⟩, 27) := ⟨⟨by decide +kernel, by decide +kernel⟩, List.mem_of_getElem? (i := 818) (by decide +kernel), List.mem_of_getElem? (i := 940) (by decide +kernel), List.mem_of_getElem? (i := 941) (by decide +kernel)⟩
theorem lw_p23 : lw_okq (⟨"KeyframeCurvesModel", "slopeOf", "(IIZ)I"⟩, 27) := ⟨⟨by decide +kernel, by decide +kernel⟩, List.mem_of_getElem? (i := 818) (by decide +kernel), List.mem_of_getElem? (i := 945) (by decide +kernel), List.mem_of_getElem? (i := 946) (by decide +kernel)⟩
theorem lw_p24 : lw_okq (⟨"KeyframeCurvesModel", "secant", "(II)I"⟩, 27) := ⟨⟨by decide +kernel, by decide +kernel⟩, List.mem_of_getElem? (i := 818) (by decide +kernel), List.mem_of_getElem? (i := 955) (by decide +kernel), List.mem_of_getElem? (i := 956) (by decide +kernel)⟩
theorem lw_p25 : lw_okq (⟨"KeyframeCurvesModel", "auto", "(II)I"⟩, 27) := ⟨⟨by decide +kernel, by decide +kernel⟩, List.mem_of_getElem? (i := 818) (by decide +kernel), List.mem_of_getElem? (i := 966) (by decide +kernel), List.mem_of_getElem? (i := 967) (by decide +kernel)⟩
theorem lw_p26 : lw_okq (⟨"KeyframeCurvesModel", "isBetween", "(II)Z"⟩, 27) := ⟨⟨by decide +kernel, by decide +kernel⟩, List.mem_of_getElem? (i := 818) (by decide +kernel), List.mem_of_getElem? (i := 970) (by decide +kernel), List.mem_of_getElem? (i := 971) (by decide +kernel)⟩
theorem lw_p27 : lw_okq (⟨"KeyframeCurvesModel", "monotone", "(II)I"⟩, 27) := ⟨⟨by decide +kernel, by decide +kernel⟩, List.mem_of_getElem? (i := 818) (by decide +kernel), List.mem_of_getElem? (i := 974) (by decide +kernel), List.mem_of_getElem? (i := 975) (by decide +kernel)⟩
theorem lw_p28 : lw_okq (⟨"KeyframeCurvesModel", "isRange", "(III)Z"⟩, 27) := ⟨⟨by decide +kernel, by decide +kernel⟩, List.mem_of_getElem? (i := 818) (by decide +kernel), List.mem_of_getElem? (i := 989) (by decide +kernel), List.mem_of_getElem? (i := 990) (by decide +kernel)⟩
theorem lw_p29 : lw_okq (⟨"KeyframeCurvesModel", "find", "(II)I"⟩, 27) := ⟨⟨by decide +kernel, by decide +kernel⟩, List.mem_of_getElem? (i := 818) (by decide +kernel), List.mem_of_getElem? (i := 1011) (by decide +kernel), List.mem_of_getElem? (i := 1012) (by decide +kernel)⟩
theorem lw_p30 : lw_okq (⟨"KeyframeCurvesModel", "changes", "()V"⟩, 27) := ⟨⟨by decide +kernel, by decide +kernel⟩, List.mem_of_getElem? (i := 818) (by decide +kernel), List.mem_of_getElem? (i := 1016) (by decide +kernel), List.mem_of_getElem? (i := 1017) (by decide +kernel)⟩
theorem lw_p31 : lw_okq (⟨"KeyframeCurvesModel", "inserts", "(IIIIII)I"⟩, 27) := ⟨⟨by decide +kernel, by decide +kernel⟩, List.mem_of_getElem? (i := 818) (by decide +kernel), List.mem_of_getElem? (i := 1020) (by decide +kernel), List.mem_of_getElem? (i := 1021) (by decide +kernel)⟩
def lw_privs_2 : List (MethodName × Nat) := [(⟨"KeyframeCurves$FormulaReader", "curve", "(LKeyframeCurves$Text;I)V"⟩, 1), (⟨"KeyframeCurves$FormulaReader", "choice", "(LKeyframeCurves$Text;I)V"⟩, 1), (⟨"KeyframeCurves$CurveReader", "key", "(LKeyframeCurves$Text;)V"⟩, 1), (⟨"KeyframeCurvesModel", "many", "(I)I"⟩, 27), (⟨"KeyframeCurvesModel", "valueAt", "(II)I"⟩, 27), (⟨"KeyframeCurvesModel", "frame", "(II)I"⟩, 27), (⟨"KeyframeCurvesModel", "inside", "(II)I"⟩, 27), (⟨"KeyframeCurvesModel", "slopeOf", "(IIZ)I"⟩, 27), (⟨"KeyframeCurvesModel", "secant", "(II)I"⟩, 27), (⟨"KeyframeCurvesModel", "auto", "(II)I"⟩, 27), (⟨"KeyframeCurvesModel", "isBetween", "(II)Z"⟩, 27), (⟨"KeyframeCurvesModel", "monotone", "(II)I"⟩, 27), (⟨"KeyframeCurvesModel", "isRange", "(III)Z"⟩, 27), (⟨"KeyframeCurvesModel", "find", "(II)I"⟩, 27), (⟨"KeyframeCurvesModel", "changes", "()V"⟩, 27), (⟨"KeyframeCurvesModel", "inserts", "(IIIIII)I"⟩, 27)]
theorem lw_r2 : ∀ q ∈ lw_privs_2, lw_okq q := List.forall_mem_cons.mpr ⟨lw_p16, List.forall_mem_cons.mpr ⟨lw_p17, List.forall_mem_cons.mpr ⟨lw_p18, List.forall_mem_cons.mpr ⟨lw_p19, List.forall_mem_cons.mpr ⟨lw_p20, List.forall_mem_cons.mpr ⟨lw_p21, List.forall_mem_cons.mpr ⟨lw_p22, List.forall_mem_cons.mpr ⟨lw_p23, List.forall_mem_cons.mpr ⟨lw_p24, List.forall_mem_cons.mpr ⟨lw_p25, List.forall_mem_cons.mpr ⟨lw_p26, List.forall_mem_cons.mpr ⟨lw_p27, List.forall_mem_cons.mpr ⟨lw_p28, List.forall_mem_cons.mpr ⟨lw_p29, List.forall_mem_cons.mpr ⟨lw_p30, List.forall_mem_cons.mpr ⟨lw_p31, fun _ h => absurd h List.not_mem_nil⟩⟩⟩⟩⟩⟩⟩⟩⟩⟩⟩⟩⟩⟩⟩⟩
theorem lw_p32 : lw_okq (⟨"KeyframeCurvesModel", "removes", "(II)V"⟩, 27) := ⟨⟨by decide +kernel, by decide +kernel⟩, List.mem_of_getElem? (i := 818) (by decide +kernel), List.mem_of_getElem? (i := 1028) (by decide +kernel), List.mem_of_getElem? (i := 1029) (by decide +kernel)⟩
theorem lw_p33 : lw_okq (⟨"KeyframeCurvesModel", "frees", "(II)V"⟩, 27) := ⟨⟨by decide +kernel, by decide +kernel⟩, List.mem_of_getElem? (i := 818) (by decide +kernel), List.mem_of_getElem? (i := 1041) (by decide +kernel), List.mem_of_getElem? (i := 1042) (by decide +kernel)⟩
theorem lw_p34 : lw_okq (⟨"KeyframeCurvesModel", "isKey", "(II)Z"⟩, 27) := ⟨⟨by decide +kernel, by decide +kernel⟩, List.mem_of_getElem? (i := 818) (by decide +kernel), List.mem_of_getElem? (i := 1072) (by decide +kernel), List.mem_of_getElem? (i := 1073) (by decide +kernel)⟩
theorem lw_p35 : lw_okq (⟨"KeyframeCurvesModel", "sent", "(I)I"⟩, 27) := ⟨⟨by decide +kernel, by decide +kernel⟩, List.mem_of_getElem? (i := 818) (by decide +kernel), List.mem_of_getElem? (i := 1100) (by decide +kernel), List.mem_of_getElem? (i := 1101) (by decide +kernel)⟩
theorem lw_p36 : lw_okq (⟨"KeyframeCurvesModel", "stretched", "(IIZ)I"⟩, 27) := ⟨⟨by decide +kernel, by decide +kernel⟩, List.mem_of_getElem? (i := 818) (by decide +kernel), List.mem_of_getElem? (i := 1108) (by decide +kernel), List.mem_of_getElem? (i := 1109) (by decide +kernel)⟩
theorem lw_p37 : lw_okq (⟨"KeyframeCurvesModel", "outside", "(III)I"⟩, 27) := ⟨⟨by decide +kernel, by decide +kernel⟩, List.mem_of_getElem? (i := 818) (by decide +kernel), List.mem_of_getElem? (i := 1119) (by decide +kernel), List.mem_of_getElem? (i := 1120) (by decide +kernel)⟩
theorem lw_p38 : lw_okq (⟨"KeyframeCurvesModel", "bakes", "(IIII)I"⟩, 27) := ⟨⟨by decide +kernel, by decide +kernel⟩, List.mem_of_getElem? (i := 818) (by decide +kernel), List.mem_of_getElem? (i := 1123) (by decide +kernel), List.mem_of_getElem? (i := 1124) (by decide +kernel)⟩
theorem lw_p39 : lw_okq (⟨"KeyframeCurvesModel", "mixed", "(I)I"⟩, 27) := ⟨⟨by decide +kernel, by decide +kernel⟩, List.mem_of_getElem? (i := 818) (by decide +kernel), List.mem_of_getElem? (i := 1131) (by decide +kernel), List.mem_of_getElem? (i := 1132) (by decide +kernel)⟩
theorem lw_p40 : lw_okq (⟨"KeyframeCurvesModel", "begins", "(ZI)V"⟩, 27) := ⟨⟨by decide +kernel, by decide +kernel⟩, List.mem_of_getElem? (i := 818) (by decide +kernel), List.mem_of_getElem? (i := 1135) (by decide +kernel), List.mem_of_getElem? (i := 1136) (by decide +kernel)⟩
theorem lw_p41 : lw_okq (⟨"KeyframeCurvesModel", "sum", "()I"⟩, 27) := ⟨⟨by decide +kernel, by decide +kernel⟩, List.mem_of_getElem? (i := 818) (by decide +kernel), List.mem_of_getElem? (i := 1139) (by decide +kernel), List.mem_of_getElem? (i := 1140) (by decide +kernel)⟩
theorem lw_p42 : lw_okq (⟨"KeyframeCurvesModel", "opens", "(I)V"⟩, 27) := ⟨⟨by decide +kernel, by decide +kernel⟩, List.mem_of_getElem? (i := 818) (by decide +kernel), List.mem_of_getElem? (i := 1143) (by decide +kernel), List.mem_of_getElem? (i := 1144) (by decide +kernel)⟩
theorem lw_p43 : lw_okq (⟨"KeyframeCurvesModel", "faults", "(I)V"⟩, 27) := ⟨⟨by decide +kernel, by decide +kernel⟩, List.mem_of_getElem? (i := 818) (by decide +kernel), List.mem_of_getElem? (i := 1147) (by decide +kernel), List.mem_of_getElem? (i := 1148) (by decide +kernel)⟩
theorem lw_p44 : lw_okq (⟨"KeyframeCurvesModel", "isValue", "()Z"⟩, 27) := ⟨⟨by decide +kernel, by decide +kernel⟩, List.mem_of_getElem? (i := 818) (by decide +kernel), List.mem_of_getElem? (i := 1151) (by decide +kernel), List.mem_of_getElem? (i := 1152) (by decide +kernel)⟩
theorem lw_p45 : lw_okq (⟨"KeyframeCurvesModel", "here", "()I"⟩, 27) := ⟨⟨by decide +kernel, by decide +kernel⟩, List.mem_of_getElem? (i := 818) (by decide +kernel), List.mem_of_getElem? (i := 1155) (by decide +kernel), List.mem_of_getElem? (i := 1156) (by decide +kernel)⟩
theorem lw_p46 : lw_okq (⟨"KeyframeCurvesModel", "number", "()I"⟩, 27) := ⟨⟨by decide +kernel, by decide +kernel⟩, List.mem_of_getElem? (i := 818) (by decide +kernel), List.mem_of_getElem? (i := 1159) (by decide +kernel), List.mem_of_getElem? (i := 1160) (by decide +kernel)⟩
theorem lw_p47 : lw_okq (⟨"KeyframeCurvesModel", "curveValue", "(I)I"⟩, 27) := ⟨⟨by decide +kernel, by decide +kernel⟩, List.mem_of_getElem? (i := 818) (by decide +kernel), List.mem_of_getElem? (i := 1163) (by decide +kernel), List.mem_of_getElem? (i := 1164) (by decide +kernel)⟩
def lw_privs_3 : List (MethodName × Nat) := [(⟨"KeyframeCurvesModel", "removes", "(II)V"⟩, 27), (⟨"KeyframeCurvesModel", "frees", "(II)V"⟩, 27), (⟨"KeyframeCurvesModel", "isKey", "(II)Z"⟩, 27), (⟨"KeyframeCurvesModel", "sent", "(I)I"⟩, 27), (⟨"KeyframeCurvesModel", "stretched", "(IIZ)I"⟩, 27), (⟨"KeyframeCurvesModel", "outside", "(III)I"⟩, 27), (⟨"KeyframeCurvesModel", "bakes", "(IIII)I"⟩, 27), (⟨"KeyframeCurvesModel", "mixed", "(I)I"⟩, 27), (⟨"KeyframeCurvesModel", "begins", "(ZI)V"⟩, 27), (⟨"KeyframeCurvesModel", "sum", "()I"⟩, 27), (⟨"KeyframeCurvesModel", "opens", "(I)V"⟩, 27), (⟨"KeyframeCurvesModel", "faults", "(I)V"⟩, 27), (⟨"KeyframeCurvesModel", "isValue", "()Z"⟩, 27), (⟨"KeyframeCurvesModel", "here", "()I"⟩, 27), (⟨"KeyframeCurvesModel", "number", "()I"⟩, 27), (⟨"KeyframeCurvesModel", "curveValue", "(I)I"⟩, 27)]
theorem lw_r3 : ∀ q ∈ lw_privs_3, lw_okq q := List.forall_mem_cons.mpr ⟨lw_p32, List.forall_mem_cons.mpr ⟨lw_p33, List.forall_mem_cons.mpr ⟨lw_p34, List.forall_mem_cons.mpr ⟨lw_p35, List.forall_mem_cons.mpr ⟨lw_p36, List.forall_mem_cons.mpr ⟨lw_p37, List.forall_mem_cons.mpr ⟨lw_p38, List.forall_mem_cons.mpr ⟨lw_p39, List.forall_mem_cons.mpr ⟨lw_p40, List.forall_mem_cons.mpr ⟨lw_p41, List.forall_mem_cons.mpr ⟨lw_p42, List.forall_mem_cons.mpr ⟨lw_p43, List.forall_mem_cons.mpr ⟨lw_p44, List.forall_mem_cons.mpr ⟨lw_p45, List.forall_mem_cons.mpr ⟨lw_p46, List.forall_mem_cons.mpr ⟨lw_p47, fun _ h => absurd h List.not_mem_nil⟩⟩⟩⟩⟩⟩⟩⟩⟩⟩⟩⟩⟩⟩⟩⟩
theorem lw_p48 : lw_okq (⟨"KeyframeCurvesModel", "is", "(I)Z"⟩, 27) := ⟨⟨by decide +kernel, by decide +kernel⟩, List.mem_of_getElem? (i := 818) (by decide +kernel), List.mem_of_getElem? (i := 1167) (by decide +kernel), List.mem_of_getElem? (i := 1168) (by decide +kernel)⟩
theorem lw_p49 : lw_okq (⟨"KeyframeCurvesModel", "must", "(I)V"⟩, 27) := ⟨⟨by decide +kernel, by decide +kernel⟩, List.mem_of_getElem? (i := 818) (by decide +kernel), List.mem_of_getElem? (i := 1171) (by decide +kernel), List.mem_of_getElem? (i := 1172) (by decide +kernel)⟩
theorem lw_p50 : lw_okq (⟨"KeyframeCurvesModel", "goesOn", "()Z"⟩, 27) := ⟨⟨by decide +kernel, by decide +kernel⟩, List.mem_of_getElem? (i := 818) (by decide +kernel), List.mem_of_getElem? (i := 1175) (by decide +kernel), List.mem_of_getElem? (i := 1176) (by decide +kernel)⟩
theorem lw_p51 : lw_okq (⟨"KeyframeCurvesModel", "closes", "()V"⟩, 27) := ⟨⟨by decide +kernel, by decide +kernel⟩, List.mem_of_getElem? (i := 818) (by decide +kernel), List.mem_of_getElem? (i := 1180) (by decide +kernel), List.mem_of_getElem? (i := 1181) (by decide +kernel)⟩
theorem lw_p52 : lw_okq (⟨"KeyframeCurvesModel", "isOver", "()Z"⟩, 27) := ⟨⟨by decide +kernel, by decide +kernel⟩, List.mem_of_getElem? (i := 818) (by decide +kernel), List.mem_of_getElem? (i := 1184) (by decide +kernel), List.mem_of_getElem? (i := 1185) (by decide +kernel)⟩
theorem lw_p53 : lw_okq (⟨"KeyframeCurvesModel", "lines", "(II)V"⟩, 27) := ⟨⟨by decide +kernel, by decide +kernel⟩, List.mem_of_getElem? (i := 818) (by decide +kernel), List.mem_of_getElem? (i := 1192) (by decide +kernel), List.mem_of_getElem? (i := 1193) (by decide +kernel)⟩
theorem lw_p54 : lw_okq (⟨"KeyframeCurvesModel", "apart", "(III)J"⟩, 27) := ⟨⟨by decide +kernel, by decide +kernel⟩, List.mem_of_getElem? (i := 818) (by decide +kernel), List.mem_of_getElem? (i := 1196) (by decide +kernel), List.mem_of_getElem? (i := 1197) (by decide +kernel)⟩
theorem lw_p55 : lw_okq (⟨"KeyframeCurvesModel", "takes", "(II)V"⟩, 27) := ⟨⟨by decide +kernel, by decide +kernel⟩, List.mem_of_getElem? (i := 818) (by decide +kernel), List.mem_of_getElem? (i := 1205) (by decide +kernel), List.mem_of_getElem? (i := 1206) (by decide +kernel)⟩
theorem lw_p56 : lw_okq (⟨"KeyframeCurvesModel", "error", "(III)I"⟩, 27) := ⟨⟨by decide +kernel, by decide +kernel⟩, List.mem_of_getElem? (i := 818) (by decide +kernel), List.mem_of_getElem? (i := 1209) (by decide +kernel), List.mem_of_getElem? (i := 1210) (by decide +kernel)⟩
theorem lw_p57 : lw_okq (⟨"KeyframeCurvesModel", "gives", "(I)V"⟩, 27) := ⟨⟨by decide +kernel, by decide +kernel⟩, List.mem_of_getElem? (i := 818) (by decide +kernel), List.mem_of_getElem? (i := 1213) (by decide +kernel), List.mem_of_getElem? (i := 1214) (by decide +kernel)⟩
theorem lw_p58 : lw_okq (⟨"KeyframeCurvesModel", "formulaFault", "()I"⟩, 27) := ⟨⟨by decide +kernel, by decide +kernel⟩, List.mem_of_getElem? (i := 818) (by decide +kernel), List.mem_of_getElem? (i := 1229) (by decide +kernel), List.mem_of_getElem? (i := 1230) (by decide +kernel)⟩
theorem lw_p59 : lw_okq (⟨"KeyframeCurvesModel", "curveFault", "()I"⟩, 27) := ⟨⟨by decide +kernel, by decide +kernel⟩, List.mem_of_getElem? (i := 818) (by decide +kernel), List.mem_of_getElem? (i := 1233) (by decide +kernel), List.mem_of_getElem? (i := 1234) (by decide +kernel)⟩
theorem lw_p60 : lw_okq (⟨"KeyframeCurvesModel", "key", "()V"⟩, 27) := ⟨⟨by decide +kernel, by decide +kernel⟩, List.mem_of_getElem? (i := 818) (by decide +kernel), List.mem_of_getElem? (i := 1237) (by decide +kernel), List.mem_of_getElem? (i := 1238) (by decide +kernel)⟩
theorem lw_p61 : lw_okq (⟨"KeyframeCurvesModel", "moreOf", "(JI)J"⟩, 27) := ⟨⟨by decide +kernel, by decide +kernel⟩, List.mem_of_getElem? (i := 818) (by decide +kernel), List.mem_of_getElem? (i := 1261) (by decide +kernel), List.mem_of_getElem? (i := 1262) (by decide +kernel)⟩
def lw_privs_4 : List (MethodName × Nat) := [(⟨"KeyframeCurvesModel", "is", "(I)Z"⟩, 27), (⟨"KeyframeCurvesModel", "must", "(I)V"⟩, 27), (⟨"KeyframeCurvesModel", "goesOn", "()Z"⟩, 27), (⟨"KeyframeCurvesModel", "closes", "()V"⟩, 27), (⟨"KeyframeCurvesModel", "isOver", "()Z"⟩, 27), (⟨"KeyframeCurvesModel", "lines", "(II)V"⟩, 27), (⟨"KeyframeCurvesModel", "apart", "(III)J"⟩, 27), (⟨"KeyframeCurvesModel", "takes", "(II)V"⟩, 27), (⟨"KeyframeCurvesModel", "error", "(III)I"⟩, 27), (⟨"KeyframeCurvesModel", "gives", "(I)V"⟩, 27), (⟨"KeyframeCurvesModel", "formulaFault", "()I"⟩, 27), (⟨"KeyframeCurvesModel", "curveFault", "()I"⟩, 27), (⟨"KeyframeCurvesModel", "key", "()V"⟩, 27), (⟨"KeyframeCurvesModel", "moreOf", "(JI)J"⟩, 27)]
theorem lw_r4 : ∀ q ∈ lw_privs_4, lw_okq q := List.forall_mem_cons.mpr ⟨lw_p48, List.forall_mem_cons.mpr ⟨lw_p49, List.forall_mem_cons.mpr ⟨lw_p50, List.forall_mem_cons.mpr ⟨lw_p51, List.forall_mem_cons.mpr ⟨lw_p52, List.forall_mem_cons.mpr ⟨lw_p53, List.forall_mem_cons.mpr ⟨lw_p54, List.forall_mem_cons.mpr ⟨lw_p55, List.forall_mem_cons.mpr ⟨lw_p56, List.forall_mem_cons.mpr ⟨lw_p57, List.forall_mem_cons.mpr ⟨lw_p58, List.forall_mem_cons.mpr ⟨lw_p59, List.forall_mem_cons.mpr ⟨lw_p60, List.forall_mem_cons.mpr ⟨lw_p61, fun _ h => absurd h List.not_mem_nil⟩⟩⟩⟩⟩⟩⟩⟩⟩⟩⟩⟩⟩⟩
def lw_privs : List (MethodName × Nat) := lw_privs_1 ++ (lw_privs_2 ++ (lw_privs_3 ++ (lw_privs_4)))
def lw_tbl : List Cond := k2_sels lw_privs ++ tables_1
theorem lw_privs_ok : ∀ q ∈ lw_privs, lw_okq q := by
  show ∀ q ∈ lw_privs_1 ++ (lw_privs_2 ++ (lw_privs_3 ++ (lw_privs_4))), lw_okq q
  exact List.forall_mem_append.mpr ⟨lw_r1, List.forall_mem_append.mpr ⟨lw_r2, List.forall_mem_append.mpr ⟨lw_r3, lw_r4⟩⟩⟩
/-- the streams that the claim lets the run draw from -/
abbrev lw_cs : List Choice := [Jvm.Choice.named "NaN.bits"]
theorem lw_bits : nanBits ∈ lw_cs := by first | decide | exact List.mem_cons_self | simp [lw_cs, nanBits]
def RX0 : String := "KeyframeCurves$Curve"
def TX0 : u_T := fun k => match k with
  | 0 => ("KeyframeCurves$Curve", "count", "I", false)
  | 1 => ("KeyframeCurves$Curve", "before", "I", false)
  | 2 => ("KeyframeCurves$Curve", "after", "I", false)
  | 3 => ("KeyframeCurves$Curve", "frames", "[I", true)
  | 4 => ("KeyframeCurves$Curve", "heights", "[I", true)
  | 5 => ("KeyframeCurves$Curve", "modes", "[I", true)
  | 6 => ("KeyframeCurves$Curve", "ins", "[I", true)
  | _ => ("KeyframeCurves$Curve", "outs", "[I", true)
def tyX0 : Nat → FieldType := fun k => match k with
  | 0 => .int
  | 1 => .int
  | 2 => .int
  | 3 => .array .int
  | 4 => .array .int
  | 5 => .array .int
  | 6 => .array .int
  | _ => .array .int
abbrev wsX00 : List Cond := u_ws RX0 TX0 8
theorem nmX0 : ∀ a, a < 8 → ∀ b, b < 8 → a ≠ b → (TX0 a).2.1 ≠ (TX0 b).2.1 := by decide +kernel
theorem tyX0_ok : ∀ k, k < 8 → parseFieldDescriptor (TX0 k).2.2.1 = some (tyX0 k) := by decide +kernel
abbrev cX0_init : ByteArray := prog_2_method_1_code
def yX0_init : MethodName := ⟨RX0, "<init>", "()V"⟩
abbrev cX0_copy : ByteArray := prog_2_method_2_code
def yX0_copy : MethodName := ⟨RX0, "copy", "(LKeyframeCurves$Curve;)V"⟩
abbrev cX0_copyKeys : ByteArray := prog_2_method_3_code
def yX0_copyKeys : MethodName := ⟨RX0, "copyKeys", "(LKeyframeCurves$Curve;)V"⟩
abbrev cX0_has : ByteArray := prog_2_method_4_code
def yX0_has : MethodName := ⟨RX0, "has", "(I)Z"⟩
abbrev cX0_find : ByteArray := prog_2_method_5_code
def yX0_find : MethodName := ⟨RX0, "find", "(I)I"⟩
abbrev cX0_keysBefore : ByteArray := prog_2_method_6_code
def yX0_keysBefore : MethodName := ⟨RX0, "keysBefore", "(I)I"⟩
abbrev cX0_bothExtrapolations : ByteArray := prog_2_method_7_code
def yX0_bothExtrapolations : MethodName := ⟨RX0, "bothExtrapolations", "()I"⟩
abbrev cX0_insert : ByteArray := prog_2_method_8_code
def yX0_insert : MethodName := ⟨RX0, "insert", "(IIIII)I"⟩
abbrev cX0_drop : ByteArray := prog_2_method_9_code
def yX0_drop : MethodName := ⟨RX0, "drop", "(I)V"⟩
abbrev cX0_shift : ByteArray := prog_2_method_10_code
def yX0_shift : MethodName := ⟨RX0, "shift", "(II)V"⟩
abbrev cX0_keysOutside : ByteArray := prog_2_method_11_code
def yX0_keysOutside : MethodName := ⟨RX0, "keysOutside", "(II)I"⟩
abbrev cX0_replaceRange : ByteArray := prog_2_method_12_code
def yX0_replaceRange : MethodName := ⟨RX0, "replaceRange", "(III[I)V"⟩
abbrev cX0_move : ByteArray := prog_2_method_13_code
def yX0_move : MethodName := ⟨RX0, "move", "(II)I"⟩
abbrev cX0_changeMode : ByteArray := prog_2_method_14_code
def yX0_changeMode : MethodName := ⟨RX0, "changeMode", "(II)V"⟩
abbrev cX0_divide : ByteArray := prog_2_method_15_code
def yX0_divide : MethodName := ⟨RX0, "divide", "(II)I"⟩
abbrev cX0_freeUnlessHold : ByteArray := prog_2_method_16_code
def yX0_freeUnlessHold : MethodName := ⟨RX0, "freeUnlessHold", "(I)V"⟩
abbrev cX0_retimeKeys : ByteArray := prog_2_method_17_code
def yX0_retimeKeys : MethodName := ⟨RX0, "retimeKeys", "(LKeyframeCurves$TimeMap;[I)V"⟩
abbrev cX0_tangent : ByteArray := prog_2_method_18_code
def yX0_tangent : MethodName := ⟨RX0, "tangent", "(IZ)I"⟩
abbrev cX0_secant : ByteArray := prog_2_method_19_code
def yX0_secant : MethodName := ⟨RX0, "secant", "(II)I"⟩
abbrev cX0_isBetweenNeighbors : ByteArray := prog_2_method_20_code
def yX0_isBetweenNeighbors : MethodName := ⟨RX0, "isBetweenNeighbors", "(I)Z"⟩
abbrev cX0_monotone : ByteArray := prog_2_method_21_code
def yX0_monotone : MethodName := ⟨RX0, "monotone", "(III)I"⟩
abbrev cX0_partsAt : ByteArray := prog_2_method_22_code
def yX0_partsAt : MethodName := ⟨RX0, "partsAt", "(I)I"⟩
abbrev cX0_extrapolation : ByteArray := prog_2_method_23_code
def yX0_extrapolation : MethodName := ⟨RX0, "extrapolation", "(III)I"⟩
abbrev cX0_folded : ByteArray := prog_2_method_24_code
def yX0_folded : MethodName := ⟨RX0, "folded", "(IIII)I"⟩
abbrev cX0_between : ByteArray := prog_2_method_25_code
def yX0_between : MethodName := ⟨RX0, "between", "(II)I"⟩
abbrev cX0_hermite : ByteArray := prog_2_method_26_code
def yX0_hermite : MethodName := ⟨RX0, "hermite", "(JJJJJJ)I"⟩
abbrev cX0_distance : ByteArray := prog_2_method_27_code
def yX0_distance : MethodName := ⟨RX0, "distance", "([II)I"⟩
abbrev cX0_addTo : ByteArray := prog_2_method_28_code
def yX0_addTo : MethodName := ⟨RX0, "addTo", "(J)J"⟩
def RX1 : String := "KeyframeCurves$CurveReader"
def TX1 : u_T := fun k => match k with
  | _ => ("KeyframeCurves$CurveReader", "result", "LKeyframeCurves$Curve;", true)
def tyX1 : Nat → FieldType := fun k => match k with
  | _ => .object "KeyframeCurves$Curve"
abbrev wsX10 : List Cond := u_ws RX1 TX1 1
theorem nmX1 : ∀ a, a < 1 → ∀ b, b < 1 → a ≠ b → (TX1 a).2.1 ≠ (TX1 b).2.1 := by decide +kernel
theorem tyX1_ok : ∀ k, k < 1 → parseFieldDescriptor (TX1 k).2.2.1 = some (tyX1 k) := by decide +kernel
abbrev cX1_init : ByteArray := prog_3_method_1_code
def yX1_init : MethodName := ⟨RX1, "<init>", "()V"⟩
abbrev cX1_read : ByteArray := prog_3_method_2_code
def yX1_read : MethodName := ⟨RX1, "read", "(LKeyframeCurves$Text;)I"⟩
abbrev cX1_key : ByteArray := prog_3_method_3_code
def yX1_key : MethodName := ⟨RX1, "key", "(LKeyframeCurves$Text;)V"⟩
abbrev cX1_mode : ByteArray := prog_3_method_4_code
def yX1_mode : MethodName := ⟨RX1, "mode", "(LKeyframeCurves$Text;)I"⟩
def RX2 : String := "KeyframeCurves$Decimator"
def TX2 : u_T := fun k => match k with
  | 0 => ("KeyframeCurves$Decimator", "samples", "[I", true)
  | _ => ("KeyframeCurves$Decimator", "trial", "LKeyframeCurves$Curve;", true)
def tyX2 : Nat → FieldType := fun k => match k with
  | 0 => .array .int
  | _ => .object "KeyframeCurves$Curve"
abbrev wsX20 : List Cond := u_ws RX2 TX2 2
theorem nmX2 : ∀ a, a < 2 → ∀ b, b < 2 → a ≠ b → (TX2 a).2.1 ≠ (TX2 b).2.1 := by decide +kernel
theorem tyX2_ok : ∀ k, k < 2 → parseFieldDescriptor (TX2 k).2.2.1 = some (tyX2 k) := by decide +kernel
abbrev cX2_init : ByteArray := prog_4_method_1_code
def yX2_init : MethodName := ⟨RX2, "<init>", "()V"⟩
abbrev cX2_reduce : ByteArray := prog_4_method_2_code
def yX2_reduce : MethodName := ⟨RX2, "reduce", "(LKeyframeCurves$Curve;I)I"⟩
abbrev cX2_cheapest : ByteArray := prog_4_method_3_code
def yX2_cheapest : MethodName := ⟨RX2, "cheapest", "(LKeyframeCurves$Curve;I)I"⟩
def RX3 : String := "KeyframeCurves$Formula"
def TX3 : u_T := fun k => match k with
  | 0 => ("KeyframeCurves$Formula", "count", "I", false)
  | 1 => ("KeyframeCurves$Formula", "kinds", "[I", true)
  | _ => ("KeyframeCurves$Formula", "details", "[I", true)
def tyX3 : Nat → FieldType := fun k => match k with
  | 0 => .int
  | 1 => .array .int
  | _ => .array .int
abbrev wsX30 : List Cond := u_ws RX3 TX3 3
theorem nmX3 : ∀ a, a < 3 → ∀ b, b < 3 → a ≠ b → (TX3 a).2.1 ≠ (TX3 b).2.1 := by decide +kernel
theorem tyX3_ok : ∀ k, k < 3 → parseFieldDescriptor (TX3 k).2.2.1 = some (tyX3 k) := by decide +kernel
abbrev cX3_init : ByteArray := prog_5_method_1_code
def yX3_init : MethodName := ⟨RX3, "<init>", "()V"⟩
abbrev cX3_copy : ByteArray := prog_5_method_2_code
def yX3_copy : MethodName := ⟨RX3, "copy", "(LKeyframeCurves$Formula;)V"⟩
abbrev cX3_add : ByteArray := prog_5_method_3_code
def yX3_add : MethodName := ⟨RX3, "add", "(II)V"⟩
abbrev cX3_operands : ByteArray := prog_5_method_4_code
def yX3_operands : MethodName := ⟨RX3, "operands", "()I"⟩
def RX4 : String := "KeyframeCurves$FormulaReader"
def TX4 : u_T := fun k => match k with
  | _ => ("KeyframeCurves$FormulaReader", "result", "LKeyframeCurves$Formula;", true)
def tyX4 : Nat → FieldType := fun k => match k with
  | _ => .object "KeyframeCurves$Formula"
abbrev wsX40 : List Cond := u_ws RX4 TX4 1
theorem nmX4 : ∀ a, a < 1 → ∀ b, b < 1 → a ≠ b → (TX4 a).2.1 ≠ (TX4 b).2.1 := by decide +kernel
theorem tyX4_ok : ∀ k, k < 1 → parseFieldDescriptor (TX4 k).2.2.1 = some (tyX4 k) := by decide +kernel
abbrev cX4_init : ByteArray := prog_6_method_1_code
def yX4_init : MethodName := ⟨RX4, "<init>", "()V"⟩
abbrev cX4_read : ByteArray := prog_6_method_2_code
def yX4_read : MethodName := ⟨RX4, "read", "(LKeyframeCurves$Text;)I"⟩
abbrev cX4_sum : ByteArray := prog_6_method_3_code
def yX4_sum : MethodName := ⟨RX4, "sum", "(LKeyframeCurves$Text;I)V"⟩
abbrev cX4_product : ByteArray := prog_6_method_4_code
def yX4_product : MethodName := ⟨RX4, "product", "(LKeyframeCurves$Text;I)V"⟩
abbrev cX4_factor : ByteArray := prog_6_method_5_code
def yX4_factor : MethodName := ⟨RX4, "factor", "(LKeyframeCurves$Text;I)V"⟩
abbrev cX4_curve : ByteArray := prog_6_method_6_code
def yX4_curve : MethodName := ⟨RX4, "curve", "(LKeyframeCurves$Text;I)V"⟩
abbrev cX4_choice : ByteArray := prog_6_method_7_code
def yX4_choice : MethodName := ⟨RX4, "choice", "(LKeyframeCurves$Text;I)V"⟩
abbrev cX4_opens : ByteArray := prog_6_method_8_code
def yX4_opens : MethodName := ⟨RX4, "opens", "(LKeyframeCurves$Text;II)Z"⟩
def RX5 : String := "KeyframeCurves$History"
def TX5 : u_T := fun k => match k with
  | 0 => ("KeyframeCurves$History", "oldest", "I", false)
  | 1 => ("KeyframeCurves$History", "count", "I", false)
  | _ => ("KeyframeCurves$History", "states", "[LKeyframeCurves$State;", true)
def tyX5 : Nat → FieldType := fun k => match k with
  | 0 => .int
  | 1 => .int
  | _ => .array (.object "KeyframeCurves$State")
abbrev wsX50 : List Cond := u_ws RX5 TX5 3
theorem nmX5 : ∀ a, a < 3 → ∀ b, b < 3 → a ≠ b → (TX5 a).2.1 ≠ (TX5 b).2.1 := by decide +kernel
theorem tyX5_ok : ∀ k, k < 3 → parseFieldDescriptor (TX5 k).2.2.1 = some (tyX5 k) := by decide +kernel
abbrev cX5_init : ByteArray := prog_7_method_1_code
def yX5_init : MethodName := ⟨RX5, "<init>", "()V"⟩
abbrev cX5_record : ByteArray := prog_7_method_2_code
def yX5_record : MethodName := ⟨RX5, "record", "(LKeyframeCurves$State;)V"⟩
abbrev cX5_restore : ByteArray := prog_7_method_3_code
def yX5_restore : MethodName := ⟨RX5, "restore", "(LKeyframeCurves$State;)I"⟩
abbrev cX5_stateAt : ByteArray := prog_7_method_4_code
def yX5_stateAt : MethodName := ⟨RX5, "stateAt", "(I)LKeyframeCurves$State;"⟩
def RX6 : String := "KeyframeCurves$Mixer"
def TX6 : u_T := fun k => match k with
  | _ => ("KeyframeCurves$Mixer", "stack", "[I", true)
def tyX6 : Nat → FieldType := fun k => match k with
  | _ => .array .int
abbrev wsX60 : List Cond := u_ws RX6 TX6 1
theorem nmX6 : ∀ a, a < 1 → ∀ b, b < 1 → a ≠ b → (TX6 a).2.1 ≠ (TX6 b).2.1 := by decide +kernel
theorem tyX6_ok : ∀ k, k < 1 → parseFieldDescriptor (TX6 k).2.2.1 = some (tyX6 k) := by decide +kernel
abbrev cX6_init : ByteArray := prog_8_method_1_code
def yX6_init : MethodName := ⟨RX6, "<init>", "()V"⟩
abbrev cX6_run : ByteArray := prog_8_method_2_code
def yX6_run : MethodName := ⟨RX6, "run", "(LKeyframeCurves$State;I)I"⟩
abbrev cX6_combined : ByteArray := prog_8_method_3_code
def yX6_combined : MethodName := ⟨RX6, "combined", "(III)I"⟩
def RX7 : String := "KeyframeCurves$Polyline"
def TX7 : u_T := fun k => match k with
  | 0 => ("KeyframeCurves$Polyline", "last", "I", false)
  | 1 => ("KeyframeCurves$Polyline", "samples", "[I", true)
  | 2 => ("KeyframeCurves$Polyline", "sizes", "[I", true)
  | 3 => ("KeyframeCurves$Polyline", "sums", "[I", true)
  | _ => ("KeyframeCurves$Polyline", "nexts", "[I", true)
def tyX7 : Nat → FieldType := fun k => match k with
  | 0 => .int
  | 1 => .array .int
  | 2 => .array .int
  | 3 => .array .int
  | _ => .array .int
abbrev wsX70 : List Cond := u_ws RX7 TX7 5
theorem nmX7 : ∀ a, a < 5 → ∀ b, b < 5 → a ≠ b → (TX7 a).2.1 ≠ (TX7 b).2.1 := by decide +kernel
theorem tyX7_ok : ∀ k, k < 5 → parseFieldDescriptor (TX7 k).2.2.1 = some (tyX7 k) := by decide +kernel
abbrev cX7_init : ByteArray := prog_9_method_1_code
def yX7_init : MethodName := ⟨RX7, "<init>", "()V"⟩
abbrev cX7_solve : ByteArray := prog_9_method_2_code
def yX7_solve : MethodName := ⟨RX7, "solve", "(LKeyframeCurves$Curve;III)V"⟩
abbrev cX7_chooseNext : ByteArray := prog_9_method_3_code
def yX7_chooseNext : MethodName := ⟨RX7, "chooseNext", "(II)V"⟩
abbrev cX7_misfit : ByteArray := prog_9_method_4_code
def yX7_misfit : MethodName := ⟨RX7, "misfit", "(III)I"⟩
abbrev cX7_size : ByteArray := prog_9_method_5_code
def yX7_size : MethodName := ⟨RX7, "size", "()I"⟩
abbrev cX7_frameAt : ByteArray := prog_9_method_6_code
def yX7_frameAt : MethodName := ⟨RX7, "frameAt", "(II)I"⟩
def RX8 : String := "KeyframeCurves$State"
def TX8 : u_T := fun k => match k with
  | 0 => ("KeyframeCurves$State", "map", "LKeyframeCurves$TimeMap;", true)
  | 1 => ("KeyframeCurves$State", "formula", "LKeyframeCurves$Formula;", true)
  | _ => ("KeyframeCurves$State", "curves", "[LKeyframeCurves$Curve;", true)
def tyX8 : Nat → FieldType := fun k => match k with
  | 0 => .object "KeyframeCurves$TimeMap"
  | 1 => .object "KeyframeCurves$Formula"
  | _ => .array (.object "KeyframeCurves$Curve")
abbrev wsX80 : List Cond := u_ws RX8 TX8 3
theorem nmX8 : ∀ a, a < 3 → ∀ b, b < 3 → a ≠ b → (TX8 a).2.1 ≠ (TX8 b).2.1 := by decide +kernel
theorem tyX8_ok : ∀ k, k < 3 → parseFieldDescriptor (TX8 k).2.2.1 = some (tyX8 k) := by decide +kernel
abbrev cX8_init : ByteArray := prog_10_method_1_code
def yX8_init : MethodName := ⟨RX8, "<init>", "()V"⟩
abbrev cX8_curveAt : ByteArray := prog_10_method_2_code
def yX8_curveAt : MethodName := ⟨RX8, "curveAt", "(I)LKeyframeCurves$Curve;"⟩
abbrev cX8_copy : ByteArray := prog_10_method_3_code
def yX8_copy : MethodName := ⟨RX8, "copy", "(LKeyframeCurves$State;)V"⟩
def RX9 : String := "KeyframeCurves$Text"
def TX9 : u_T := fun k => match k with
  | 0 => ("KeyframeCurves$Text", "length", "I", false)
  | 1 => ("KeyframeCurves$Text", "position", "I", false)
  | 2 => ("KeyframeCurves$Text", "fault", "I", false)
  | _ => ("KeyframeCurves$Text", "letters", "[I", true)
def tyX9 : Nat → FieldType := fun k => match k with
  | 0 => .int
  | 1 => .int
  | 2 => .int
  | _ => .array .int
abbrev wsX90 : List Cond := u_ws RX9 TX9 4
theorem nmX9 : ∀ a, a < 4 → ∀ b, b < 4 → a ≠ b → (TX9 a).2.1 ≠ (TX9 b).2.1 := by decide +kernel
theorem tyX9_ok : ∀ k, k < 4 → parseFieldDescriptor (TX9 k).2.2.1 = some (tyX9 k) := by decide +kernel
abbrev cX9_init : ByteArray := prog_11_method_1_code
def yX9_init : MethodName := ⟨RX9, "<init>", "()V"⟩
abbrev cX9_add : ByteArray := prog_11_method_2_code
def yX9_add : MethodName := ⟨RX9, "add", "(I)I"⟩
abbrev cX9_rewind : ByteArray := prog_11_method_3_code
def yX9_rewind : MethodName := ⟨RX9, "rewind", "()V"⟩
abbrev cX9_peek : ByteArray := prog_11_method_4_code
def yX9_peek : MethodName := ⟨RX9, "peek", "()I"⟩
abbrev cX9_accept : ByteArray := prog_11_method_5_code
def yX9_accept : MethodName := ⟨RX9, "accept", "(I)Z"⟩
abbrev cX9_expect : ByteArray := prog_11_method_6_code
def yX9_expect : MethodName := ⟨RX9, "expect", "(I)V"⟩
abbrev cX9_fail : ByteArray := prog_11_method_7_code
def yX9_fail : MethodName := ⟨RX9, "fail", "(I)V"⟩
abbrev cX9_number : ByteArray := prog_11_method_8_code
def yX9_number : MethodName := ⟨RX9, "number", "()I"⟩
abbrev cX9_verdict : ByteArray := prog_11_method_9_code
def yX9_verdict : MethodName := ⟨RX9, "verdict", "()I"⟩
def RX10 : String := "KeyframeCurves$TimeMap"
def TX10 : u_T := fun k => match k with
  | 0 => ("KeyframeCurves$TimeMap", "count", "I", false)
  | 1 => ("KeyframeCurves$TimeMap", "sources", "[I", true)
  | _ => ("KeyframeCurves$TimeMap", "targets", "[I", true)
def tyX10 : Nat → FieldType := fun k => match k with
  | 0 => .int
  | 1 => .array .int
  | _ => .array .int
abbrev wsX100 : List Cond := u_ws RX10 TX10 3
theorem nmX10 : ∀ a, a < 3 → ∀ b, b < 3 → a ≠ b → (TX10 a).2.1 ≠ (TX10 b).2.1 := by decide +kernel
theorem tyX10_ok : ∀ k, k < 3 → parseFieldDescriptor (TX10 k).2.2.1 = some (tyX10 k) := by decide +kernel
abbrev cX10_init : ByteArray := prog_12_method_1_code
def yX10_init : MethodName := ⟨RX10, "<init>", "()V"⟩
abbrev cX10_copy : ByteArray := prog_12_method_2_code
def yX10_copy : MethodName := ⟨RX10, "copy", "(LKeyframeCurves$TimeMap;)V"⟩
abbrev cX10_canFollow : ByteArray := prog_12_method_3_code
def yX10_canFollow : MethodName := ⟨RX10, "canFollow", "(II)Z"⟩
abbrev cX10_add : ByteArray := prog_12_method_4_code
def yX10_add : MethodName := ⟨RX10, "add", "(II)V"⟩
abbrev cX10_send : ByteArray := prog_12_method_5_code
def yX10_send : MethodName := ⟨RX10, "send", "(I)I"⟩
abbrev cX10_stretched : ByteArray := prog_12_method_6_code
def yX10_stretched : MethodName := ⟨RX10, "stretched", "(IIZ)I"⟩
abbrev cX10_pointsBefore : ByteArray := prog_12_method_7_code
def yX10_pointsBefore : MethodName := ⟨RX10, "pointsBefore", "(I)I"⟩
abbrev cX10_sourceLength : ByteArray := prog_12_method_8_code
def yX10_sourceLength : MethodName := ⟨RX10, "sourceLength", "(I)I"⟩
abbrev cX10_targetLength : ByteArray := prog_12_method_9_code
def yX10_targetLength : MethodName := ⟨RX10, "targetLength", "(I)I"⟩
abbrev cX10_addTo : ByteArray := prog_12_method_10_code
def yX10_addTo : MethodName := ⟨RX10, "addTo", "(J)J"⟩
def RX11 : String := "KeyframeCurves"
def TX11 : u_T := fun k => match k with
  | 0 => ("KeyframeCurves", "now", "LKeyframeCurves$State;", true)
  | 1 => ("KeyframeCurves", "history", "LKeyframeCurves$History;", true)
  | 2 => ("KeyframeCurves", "text", "LKeyframeCurves$Text;", true)
  | 3 => ("KeyframeCurves", "formulaReader", "LKeyframeCurves$FormulaReader;", true)
  | 4 => ("KeyframeCurves", "curveReader", "LKeyframeCurves$CurveReader;", true)
  | 5 => ("KeyframeCurves", "mixer", "LKeyframeCurves$Mixer;", true)
  | 6 => ("KeyframeCurves", "shortest", "LKeyframeCurves$Polyline;", true)
  | 7 => ("KeyframeCurves", "decimator", "LKeyframeCurves$Decimator;", true)
  | _ => ("KeyframeCurves", "planned", "[I", true)
def tyX11 : Nat → FieldType := fun k => match k with
  | 0 => .object "KeyframeCurves$State"
  | 1 => .object "KeyframeCurves$History"
  | 2 => .object "KeyframeCurves$Text"
  | 3 => .object "KeyframeCurves$FormulaReader"
  | 4 => .object "KeyframeCurves$CurveReader"
  | 5 => .object "KeyframeCurves$Mixer"
  | 6 => .object "KeyframeCurves$Polyline"
  | 7 => .object "KeyframeCurves$Decimator"
  | _ => .array .int
abbrev wsX110 : List Cond := u_ws RX11 TX11 9
theorem nmX11 : ∀ a, a < 9 → ∀ b, b < 9 → a ≠ b → (TX11 a).2.1 ≠ (TX11 b).2.1 := by decide +kernel
theorem tyX11_ok : ∀ k, k < 9 → parseFieldDescriptor (TX11 k).2.2.1 = some (tyX11 k) := by decide +kernel
abbrev cX11_init : ByteArray := prog_1_method_1_code
def yX11_init : MethodName := ⟨RX11, "<init>", "()V"⟩
abbrev cX11_setKey : ByteArray := prog_1_method_2_code
def yX11_setKey : MethodName := ⟨RX11, "setKey", "(III)I"⟩
abbrev cX11_removeKey : ByteArray := prog_1_method_3_code
def yX11_removeKey : MethodName := ⟨RX11, "removeKey", "(II)I"⟩
abbrev cX11_moveKey : ByteArray := prog_1_method_4_code
def yX11_moveKey : MethodName := ⟨RX11, "moveKey", "(III)I"⟩
abbrev cX11_setMode : ByteArray := prog_1_method_5_code
def yX11_setMode : MethodName := ⟨RX11, "setMode", "(III)I"⟩
abbrev cX11_setSlopes : ByteArray := prog_1_method_6_code
def yX11_setSlopes : MethodName := ⟨RX11, "setSlopes", "(IIII)I"⟩
abbrev cX11_split : ByteArray := prog_1_method_7_code
def yX11_split : MethodName := ⟨RX11, "split", "(II)I"⟩
abbrev cX11_clear : ByteArray := prog_1_method_8_code
def yX11_clear : MethodName := ⟨RX11, "clear", "(I)I"⟩
abbrev cX11_setExtrapolation : ByteArray := prog_1_method_9_code
def yX11_setExtrapolation : MethodName := ⟨RX11, "setExtrapolation", "(III)I"⟩
abbrev cX11_keys : ByteArray := prog_1_method_10_code
def yX11_keys : MethodName := ⟨RX11, "keys", "(I)I"⟩
abbrev cX11_frameOf : ByteArray := prog_1_method_11_code
def yX11_frameOf : MethodName := ⟨RX11, "frameOf", "(II)I"⟩
abbrev cX11_valueOf : ByteArray := prog_1_method_12_code
def yX11_valueOf : MethodName := ⟨RX11, "valueOf", "(II)I"⟩
abbrev cX11_modeOf : ByteArray := prog_1_method_13_code
def yX11_modeOf : MethodName := ⟨RX11, "modeOf", "(II)I"⟩
abbrev cX11_slope : ByteArray := prog_1_method_14_code
def yX11_slope : MethodName := ⟨RX11, "slope", "(IIZ)I"⟩
abbrev cX11_value : ByteArray := prog_1_method_15_code
def yX11_value : MethodName := ⟨RX11, "value", "(II)I"⟩
abbrev cX11_units : ByteArray := prog_1_method_16_code
def yX11_units : MethodName := ⟨RX11, "units", "(II)F"⟩
abbrev cX11_mean : ByteArray := prog_1_method_17_code
def yX11_mean : MethodName := ⟨RX11, "mean", "(III)D"⟩
abbrev cX11_extreme : ByteArray := prog_1_method_18_code
def yX11_extreme : MethodName := ⟨RX11, "extreme", "(IIIZ)I"⟩
abbrev cX11_crossings : ByteArray := prog_1_method_19_code
def yX11_crossings : MethodName := ⟨RX11, "crossings", "(IIII)I"⟩
abbrev cX11_addPoint : ByteArray := prog_1_method_20_code
def yX11_addPoint : MethodName := ⟨RX11, "addPoint", "(II)I"⟩
abbrev cX11_clearMap : ByteArray := prog_1_method_21_code
def yX11_clearMap : MethodName := ⟨RX11, "clearMap", "()I"⟩
abbrev cX11_mapped : ByteArray := prog_1_method_22_code
def yX11_mapped : MethodName := ⟨RX11, "mapped", "(I)I"⟩
abbrev cX11_retime : ByteArray := prog_1_method_23_code
def yX11_retime : MethodName := ⟨RX11, "retime", "(I)I"⟩
abbrev cX11_bake : ByteArray := prog_1_method_24_code
def yX11_bake : MethodName := ⟨RX11, "bake", "(IIII)I"⟩
abbrev cX11_bakeFormula : ByteArray := prog_1_method_25_code
def yX11_bakeFormula : MethodName := ⟨RX11, "bakeFormula", "(IIII)I"⟩
abbrev cX11_polyline : ByteArray := prog_1_method_26_code
def yX11_polyline : MethodName := ⟨RX11, "polyline", "(IIIII)I"⟩
abbrev cX11_decimate : ByteArray := prog_1_method_27_code
def yX11_decimate : MethodName := ⟨RX11, "decimate", "(II)I"⟩
abbrev cX11_append : ByteArray := prog_1_method_28_code
def yX11_append : MethodName := ⟨RX11, "append", "(I)I"⟩
abbrev cX11_clearText : ByteArray := prog_1_method_29_code
def yX11_clearText : MethodName := ⟨RX11, "clearText", "()I"⟩
abbrev cX11_faultPosition : ByteArray := prog_1_method_30_code
def yX11_faultPosition : MethodName := ⟨RX11, "faultPosition", "(Z)I"⟩
abbrev cX11_readCurve : ByteArray := prog_1_method_31_code
def yX11_readCurve : MethodName := ⟨RX11, "readCurve", "(I)I"⟩
abbrev cX11_readFormula : ByteArray := prog_1_method_32_code
def yX11_readFormula : MethodName := ⟨RX11, "readFormula", "()I"⟩
abbrev cX11_mix : ByteArray := prog_1_method_33_code
def yX11_mix : MethodName := ⟨RX11, "mix", "(I)I"⟩
abbrev cX11_undo : ByteArray := prog_1_method_34_code
def yX11_undo : MethodName := ⟨RX11, "undo", "()I"⟩
abbrev cX11_checksum : ByteArray := prog_1_method_35_code
def yX11_checksum : MethodName := ⟨RX11, "checksum", "()J"⟩
abbrev cX11_within : ByteArray := prog_1_method_36_code
def yX11_within : MethodName := ⟨RX11, "within", "(III)Z"⟩
abbrev cX11_isRange : ByteArray := prog_1_method_37_code
def yX11_isRange : MethodName := ⟨RX11, "isRange", "(III)Z"⟩
abbrev cX11_stepsIn : ByteArray := prog_1_method_38_code
def yX11_stepsIn : MethodName := ⟨RX11, "stepsIn", "(III)I"⟩
abbrev cX11_at : ByteArray := prog_1_method_39_code
def yX11_at : MethodName := ⟨RX11, "at", "([II)I"⟩
abbrev cX11_put : ByteArray := prog_1_method_40_code
def yX11_put : MethodName := ⟨RX11, "put", "([III)V"⟩
abbrev cX11_copyRow : ByteArray := prog_1_method_41_code
def yX11_copyRow : MethodName := ⟨RX11, "copyRow", "([I[I)V"⟩
abbrev cX11_round : ByteArray := prog_1_method_42_code
def yX11_round : MethodName := ⟨RX11, "round", "(JJ)J"⟩
abbrev cX11_limited : ByteArray := prog_1_method_43_code
def yX11_limited : MethodName := ⟨RX11, "limited", "(JI)I"⟩
abbrev cX11_nearestValue : ByteArray := prog_1_method_44_code
def yX11_nearestValue : MethodName := ⟨RX11, "nearestValue", "(I)I"⟩
def RX12 : String := "KeyframeCurvesModel"
def TX12 : u_T := fun k => match k with
  | 0 => ("KeyframeCurvesModel", "v", "[I", true)
  | 1 => ("KeyframeCurvesModel", "past", "[I", true)
  | 2 => ("KeyframeCurvesModel", "pasts", "I", false)
  | 3 => ("KeyframeCurvesModel", "text", "[I", true)
  | 4 => ("KeyframeCurvesModel", "length", "I", false)
  | 5 => ("KeyframeCurvesModel", "held", "[I", true)
  | 6 => ("KeyframeCurvesModel", "sample", "[I", true)
  | 7 => ("KeyframeCurvesModel", "fewest", "[I", true)
  | 8 => ("KeyframeCurvesModel", "sums", "[J", true)
  | 9 => ("KeyframeCurvesModel", "next", "[I", true)
  | 10 => ("KeyframeCurvesModel", "aside", "[I", true)
  | 11 => ("KeyframeCurvesModel", "isOwn", "Z", false)
  | 12 => ("KeyframeCurvesModel", "place", "I", false)
  | 13 => ("KeyframeCurvesModel", "fault", "I", false)
  | 14 => ("KeyframeCurvesModel", "deep", "I", false)
  | 15 => ("KeyframeCurvesModel", "factors", "I", false)
  | 16 => ("KeyframeCurvesModel", "now", "I", false)
  | 17 => ("KeyframeCurvesModel", "kinds", "[I", true)
  | 18 => ("KeyframeCurvesModel", "signs", "[I", true)
  | 19 => ("KeyframeCurvesModel", "totals", "[I", true)
  | 20 => ("KeyframeCurvesModel", "products", "[I", true)
  | 21 => ("KeyframeCurvesModel", "isMultiplied", "[Z", true)
  | 22 => ("KeyframeCurvesModel", "firsts", "[I", true)
  | 23 => ("KeyframeCurvesModel", "open", "I", false)
  | 24 => ("KeyframeCurvesModel", "got", "I", false)
  | 25 => ("KeyframeCurvesModel", "told", "[I", true)
  | _ => ("KeyframeCurvesModel", "tellings", "I", false)
def tyX12 : Nat → FieldType := fun k => match k with
  | 0 => .array .int
  | 1 => .array .int
  | 2 => .int
  | 3 => .array .int
  | 4 => .int
  | 5 => .array .int
  | 6 => .array .int
  | 7 => .array .int
  | 8 => .array .long
  | 9 => .array .int
  | 10 => .array .int
  | 11 => .boolean
  | 12 => .int
  | 13 => .int
  | 14 => .int
  | 15 => .int
  | 16 => .int
  | 17 => .array .int
  | 18 => .array .int
  | 19 => .array .int
  | 20 => .array .int
  | 21 => .array .boolean
  | 22 => .array .int
  | 23 => .int
  | 24 => .int
  | 25 => .array .int
  | _ => .int
abbrev wsX120 : List Cond := u_ws RX12 TX12 27
theorem nmX12 : ∀ a, a < 27 → ∀ b, b < 27 → a ≠ b → (TX12 a).2.1 ≠ (TX12 b).2.1 := by decide +kernel
theorem tyX12_ok : ∀ k, k < 27 → parseFieldDescriptor (TX12 k).2.2.1 = some (tyX12 k) := by decide +kernel
abbrev cX12_init : ByteArray := prog_14_method_1_code
def yX12_init : MethodName := ⟨RX12, "<init>", "()V"⟩
abbrev cX12_in : ByteArray := prog_14_method_3_code
def yX12_in : MethodName := ⟨RX12, "in", "(III)Z"⟩
abbrev cX12_most : ByteArray := prog_14_method_4_code
def yX12_most : MethodName := ⟨RX12, "most", "(II)I"⟩
abbrev cX12_least : ByteArray := prog_14_method_5_code
def yX12_least : MethodName := ⟨RX12, "least", "(II)I"⟩
abbrev cX12_bound : ByteArray := prog_14_method_6_code
def yX12_bound : MethodName := ⟨RX12, "bound", "(JI)I"⟩
abbrev cX12_size : ByteArray := prog_14_method_7_code
def yX12_size : MethodName := ⟨RX12, "size", "(I)I"⟩
abbrev cX12_down : ByteArray := prog_14_method_8_code
def yX12_down : MethodName := ⟨RX12, "down", "(JJ)J"⟩
abbrev cX12_round : ByteArray := prog_14_method_9_code
def yX12_round : MethodName := ⟨RX12, "round", "(JJ)J"⟩
abbrev cX12_at : ByteArray := prog_14_method_10_code
def yX12_at : MethodName := ⟨RX12, "at", "(III)I"⟩
abbrev cX12_isCurve : ByteArray := prog_14_method_11_code
def yX12_isCurve : MethodName := ⟨RX12, "isCurve", "(I)Z"⟩
abbrev cX12_many : ByteArray := prog_14_method_12_code
def yX12_many : MethodName := ⟨RX12, "many", "(I)I"⟩
abbrev cX12_frame : ByteArray := prog_14_method_13_code
def yX12_frame : MethodName := ⟨RX12, "frame", "(II)I"⟩
abbrev cX12_isKey : ByteArray := prog_14_method_14_code
def yX12_isKey : MethodName := ⟨RX12, "isKey", "(II)Z"⟩
abbrev cX12_find : ByteArray := prog_14_method_15_code
def yX12_find : MethodName := ⟨RX12, "find", "(II)I"⟩
abbrev cX12_changes : ByteArray := prog_14_method_16_code
def yX12_changes : MethodName := ⟨RX12, "changes", "()V"⟩
abbrev cX12_undo : ByteArray := prog_14_method_17_code
def yX12_undo : MethodName := ⟨RX12, "undo", "()I"⟩
abbrev cX12_secant : ByteArray := prog_14_method_18_code
def yX12_secant : MethodName := ⟨RX12, "secant", "(II)I"⟩
abbrev cX12_auto : ByteArray := prog_14_method_19_code
def yX12_auto : MethodName := ⟨RX12, "auto", "(II)I"⟩
abbrev cX12_isBetween : ByteArray := prog_14_method_20_code
def yX12_isBetween : MethodName := ⟨RX12, "isBetween", "(II)Z"⟩
abbrev cX12_monotone : ByteArray := prog_14_method_21_code
def yX12_monotone : MethodName := ⟨RX12, "monotone", "(II)I"⟩
abbrev cX12_slopeOf : ByteArray := prog_14_method_22_code
def yX12_slopeOf : MethodName := ⟨RX12, "slopeOf", "(IIZ)I"⟩
abbrev cX12_inside : ByteArray := prog_14_method_23_code
def yX12_inside : MethodName := ⟨RX12, "inside", "(II)I"⟩
abbrev cX12_valueAt : ByteArray := prog_14_method_24_code
def yX12_valueAt : MethodName := ⟨RX12, "valueAt", "(II)I"⟩
abbrev cX12_value : ByteArray := prog_14_method_25_code
def yX12_value : MethodName := ⟨RX12, "value", "(II)I"⟩
abbrev cX12_isRange : ByteArray := prog_14_method_26_code
def yX12_isRange : MethodName := ⟨RX12, "isRange", "(III)Z"⟩
abbrev cX12_units : ByteArray := prog_14_method_27_code
def yX12_units : MethodName := ⟨RX12, "units", "(II)F"⟩
abbrev cX12_mean : ByteArray := prog_14_method_28_code
def yX12_mean : MethodName := ⟨RX12, "mean", "(III)D"⟩
abbrev cX12_extreme : ByteArray := prog_14_method_29_code
def yX12_extreme : MethodName := ⟨RX12, "extreme", "(IIIZ)I"⟩
abbrev cX12_crossings : ByteArray := prog_14_method_30_code
def yX12_crossings : MethodName := ⟨RX12, "crossings", "(IIII)I"⟩
abbrev cX12_inserts : ByteArray := prog_14_method_31_code
def yX12_inserts : MethodName := ⟨RX12, "inserts", "(IIIIII)I"⟩
abbrev cX12_removes : ByteArray := prog_14_method_32_code
def yX12_removes : MethodName := ⟨RX12, "removes", "(II)V"⟩
abbrev cX12_setKey : ByteArray := prog_14_method_33_code
def yX12_setKey : MethodName := ⟨RX12, "setKey", "(III)I"⟩
abbrev cX12_removeKey : ByteArray := prog_14_method_34_code
def yX12_removeKey : MethodName := ⟨RX12, "removeKey", "(II)I"⟩
abbrev cX12_moveKey : ByteArray := prog_14_method_35_code
def yX12_moveKey : MethodName := ⟨RX12, "moveKey", "(III)I"⟩
abbrev cX12_frees : ByteArray := prog_14_method_36_code
def yX12_frees : MethodName := ⟨RX12, "frees", "(II)V"⟩
abbrev cX12_setMode : ByteArray := prog_14_method_37_code
def yX12_setMode : MethodName := ⟨RX12, "setMode", "(III)I"⟩
abbrev cX12_setSlopes : ByteArray := prog_14_method_38_code
def yX12_setSlopes : MethodName := ⟨RX12, "setSlopes", "(IIII)I"⟩
abbrev cX12_inUnits : ByteArray := prog_14_method_39_code
def yX12_inUnits : MethodName := ⟨RX12, "inUnits", "(J)I"⟩
abbrev cX12_split : ByteArray := prog_14_method_40_code
def yX12_split : MethodName := ⟨RX12, "split", "(II)I"⟩
abbrev cX12_clear : ByteArray := prog_14_method_41_code
def yX12_clear : MethodName := ⟨RX12, "clear", "(I)I"⟩
abbrev cX12_setExtrapolation : ByteArray := prog_14_method_42_code
def yX12_setExtrapolation : MethodName := ⟨RX12, "setExtrapolation", "(III)I"⟩
abbrev cX12_keys : ByteArray := prog_14_method_43_code
def yX12_keys : MethodName := ⟨RX12, "keys", "(I)I"⟩
abbrev cX12_frameOf : ByteArray := prog_14_method_44_code
def yX12_frameOf : MethodName := ⟨RX12, "frameOf", "(II)I"⟩
abbrev cX12_valueOf : ByteArray := prog_14_method_45_code
def yX12_valueOf : MethodName := ⟨RX12, "valueOf", "(II)I"⟩
abbrev cX12_modeOf : ByteArray := prog_14_method_46_code
def yX12_modeOf : MethodName := ⟨RX12, "modeOf", "(II)I"⟩
abbrev cX12_slope : ByteArray := prog_14_method_47_code
def yX12_slope : MethodName := ⟨RX12, "slope", "(IIZ)I"⟩
abbrev cX12_addPoint : ByteArray := prog_14_method_48_code
def yX12_addPoint : MethodName := ⟨RX12, "addPoint", "(II)I"⟩
abbrev cX12_clearMap : ByteArray := prog_14_method_49_code
def yX12_clearMap : MethodName := ⟨RX12, "clearMap", "()I"⟩
abbrev cX12_sent : ByteArray := prog_14_method_50_code
def yX12_sent : MethodName := ⟨RX12, "sent", "(I)I"⟩
abbrev cX12_mapped : ByteArray := prog_14_method_51_code
def yX12_mapped : MethodName := ⟨RX12, "mapped", "(I)I"⟩
abbrev cX12_stretched : ByteArray := prog_14_method_52_code
def yX12_stretched : MethodName := ⟨RX12, "stretched", "(IIZ)I"⟩
abbrev cX12_retime : ByteArray := prog_14_method_53_code
def yX12_retime : MethodName := ⟨RX12, "retime", "(I)I"⟩
abbrev cX12_outside : ByteArray := prog_14_method_54_code
def yX12_outside : MethodName := ⟨RX12, "outside", "(III)I"⟩
abbrev cX12_bakes : ByteArray := prog_14_method_55_code
def yX12_bakes : MethodName := ⟨RX12, "bakes", "(IIII)I"⟩
abbrev cX12_isBaking : ByteArray := prog_14_method_56_code
def yX12_isBaking : MethodName := ⟨RX12, "isBaking", "(III)Z"⟩
abbrev cX12_bake : ByteArray := prog_14_method_57_code
def yX12_bake : MethodName := ⟨RX12, "bake", "(IIII)I"⟩
abbrev cX12_bakeFormula : ByteArray := prog_14_method_58_code
def yX12_bakeFormula : MethodName := ⟨RX12, "bakeFormula", "(IIII)I"⟩
abbrev cX12_apart : ByteArray := prog_14_method_59_code
def yX12_apart : MethodName := ⟨RX12, "apart", "(III)J"⟩
abbrev cX12_lines : ByteArray := prog_14_method_60_code
def yX12_lines : MethodName := ⟨RX12, "lines", "(II)V"⟩
abbrev cX12_polyline : ByteArray := prog_14_method_61_code
def yX12_polyline : MethodName := ⟨RX12, "polyline", "(IIIII)I"⟩
abbrev cX12_error : ByteArray := prog_14_method_62_code
def yX12_error : MethodName := ⟨RX12, "error", "(III)I"⟩
abbrev cX12_takes : ByteArray := prog_14_method_63_code
def yX12_takes : MethodName := ⟨RX12, "takes", "(II)V"⟩
abbrev cX12_gives : ByteArray := prog_14_method_64_code
def yX12_gives : MethodName := ⟨RX12, "gives", "(I)V"⟩
abbrev cX12_decimate : ByteArray := prog_14_method_65_code
def yX12_decimate : MethodName := ⟨RX12, "decimate", "(II)I"⟩
abbrev cX12_append : ByteArray := prog_14_method_66_code
def yX12_append : MethodName := ⟨RX12, "append", "(I)I"⟩
abbrev cX12_clearText : ByteArray := prog_14_method_67_code
def yX12_clearText : MethodName := ⟨RX12, "clearText", "()I"⟩
abbrev cX12_here : ByteArray := prog_14_method_68_code
def yX12_here : MethodName := ⟨RX12, "here", "()I"⟩
abbrev cX12_faults : ByteArray := prog_14_method_69_code
def yX12_faults : MethodName := ⟨RX12, "faults", "(I)V"⟩
abbrev cX12_is : ByteArray := prog_14_method_70_code
def yX12_is : MethodName := ⟨RX12, "is", "(I)Z"⟩
abbrev cX12_must : ByteArray := prog_14_method_71_code
def yX12_must : MethodName := ⟨RX12, "must", "(I)V"⟩
abbrev cX12_number : ByteArray := prog_14_method_72_code
def yX12_number : MethodName := ⟨RX12, "number", "()I"⟩
abbrev cX12_begins : ByteArray := prog_14_method_73_code
def yX12_begins : MethodName := ⟨RX12, "begins", "(ZI)V"⟩
abbrev cX12_opens : ByteArray := prog_14_method_74_code
def yX12_opens : MethodName := ⟨RX12, "opens", "(I)V"⟩
abbrev cX12_closes : ByteArray := prog_14_method_75_code
def yX12_closes : MethodName := ⟨RX12, "closes", "()V"⟩
abbrev cX12_isOver : ByteArray := prog_14_method_76_code
def yX12_isOver : MethodName := ⟨RX12, "isOver", "()Z"⟩
abbrev cX12_goesOn : ByteArray := prog_14_method_77_code
def yX12_goesOn : MethodName := ⟨RX12, "goesOn", "()Z"⟩
abbrev cX12_isValue : ByteArray := prog_14_method_78_code
def yX12_isValue : MethodName := ⟨RX12, "isValue", "()Z"⟩
abbrev cX12_sum : ByteArray := prog_14_method_79_code
def yX12_sum : MethodName := ⟨RX12, "sum", "()I"⟩
abbrev cX12_curveValue : ByteArray := prog_14_method_80_code
def yX12_curveValue : MethodName := ⟨RX12, "curveValue", "(I)I"⟩
abbrev cX12_formulaFault : ByteArray := prog_14_method_81_code
def yX12_formulaFault : MethodName := ⟨RX12, "formulaFault", "()I"⟩
abbrev cX12_mixed : ByteArray := prog_14_method_82_code
def yX12_mixed : MethodName := ⟨RX12, "mixed", "(I)I"⟩
abbrev cX12_modeBy : ByteArray := prog_14_method_83_code
def yX12_modeBy : MethodName := ⟨RX12, "modeBy", "(I)I"⟩
abbrev cX12_key : ByteArray := prog_14_method_84_code
def yX12_key : MethodName := ⟨RX12, "key", "()V"⟩
abbrev cX12_curveFault : ByteArray := prog_14_method_85_code
def yX12_curveFault : MethodName := ⟨RX12, "curveFault", "()I"⟩
abbrev cX12_faultPosition : ByteArray := prog_14_method_86_code
def yX12_faultPosition : MethodName := ⟨RX12, "faultPosition", "(Z)I"⟩
abbrev cX12_readCurve : ByteArray := prog_14_method_87_code
def yX12_readCurve : MethodName := ⟨RX12, "readCurve", "(I)I"⟩
abbrev cX12_readFormula : ByteArray := prog_14_method_88_code
def yX12_readFormula : MethodName := ⟨RX12, "readFormula", "()I"⟩
abbrev cX12_mix : ByteArray := prog_14_method_89_code
def yX12_mix : MethodName := ⟨RX12, "mix", "(I)I"⟩
abbrev cX12_more : ByteArray := prog_14_method_90_code
def yX12_more : MethodName := ⟨RX12, "more", "(JI)J"⟩
abbrev cX12_moreOf : ByteArray := prog_14_method_91_code
def yX12_moreOf : MethodName := ⟨RX12, "moreOf", "(JI)J"⟩
abbrev cX12_checksum : ByteArray := prog_14_method_92_code
def yX12_checksum : MethodName := ⟨RX12, "checksum", "()J"⟩
def RJ9 : String := "java/lang/Math"
def TJ9 : u_T := fun k => match k with
  | _ => ("", "", "", false)
def tyJ9 : Nat → FieldType := fun k => match k with
  | _ => .int
abbrev wsJ90 : List Cond := u_ws RJ9 TJ9 0
theorem nmJ9 : ∀ a, a < 0 → ∀ b, b < 0 → a ≠ b → (TJ9 a).2.1 ≠ (TJ9 b).2.1 := by decide +kernel
theorem tyJ9_ok : ∀ k, k < 0 → parseFieldDescriptor (TJ9 k).2.2.1 = some (tyJ9 k) := by decide +kernel
abbrev cJ9_floorDiv_7cf53 : ByteArray := prog_15_method_47_code
def yJ9_floorDiv_7cf53 : MethodName := ⟨RJ9, "floorDiv", "(II)I"⟩
abbrev cJ9_floorDiv_f86c9 : ByteArray := prog_15_method_49_code
def yJ9_floorDiv_f86c9 : MethodName := ⟨RJ9, "floorDiv", "(JJ)J"⟩
abbrev cJ9_floorMod_7cf53 : ByteArray := prog_15_method_50_code
def yJ9_floorMod_7cf53 : MethodName := ⟨RJ9, "floorMod", "(II)I"⟩
abbrev cJ9_abs_0f7a4 : ByteArray := prog_15_method_59_code
def yJ9_abs_0f7a4 : MethodName := ⟨RJ9, "abs", "(I)I"⟩
abbrev cJ9_abs_067f4 : ByteArray := prog_15_method_61_code
def yJ9_abs_067f4 : MethodName := ⟨RJ9, "abs", "(J)J"⟩
abbrev cJ9_max_7cf53 : ByteArray := prog_15_method_65_code
def yJ9_max_7cf53 : MethodName := ⟨RJ9, "max", "(II)I"⟩
abbrev cJ9_max_f86c9 : ByteArray := prog_15_method_66_code
def yJ9_max_f86c9 : MethodName := ⟨RJ9, "max", "(JJ)J"⟩
abbrev cJ9_min_7cf53 : ByteArray := prog_15_method_69_code
def yJ9_min_7cf53 : MethodName := ⟨RJ9, "min", "(II)I"⟩
abbrev cJ9_min_f86c9 : ByteArray := prog_15_method_70_code
def yJ9_min_f86c9 : MethodName := ⟨RJ9, "min", "(JJ)J"⟩
def RJ10 : String := "java/lang/System"
def TJ10 : u_T := fun k => match k with
  | _ => ("", "", "", false)
def tyJ10 : Nat → FieldType := fun k => match k with
  | _ => .int
abbrev wsJ100 : List Cond := u_ws RJ10 TJ10 0
theorem nmJ10 : ∀ a, a < 0 → ∀ b, b < 0 → a ≠ b → (TJ10 a).2.1 ≠ (TJ10 b).2.1 := by decide +kernel
theorem tyJ10_ok : ∀ k, k < 0 → parseFieldDescriptor (TJ10 k).2.2.1 = some (tyJ10 k) := by decide +kernel
def RL : String := "KeyframeCurvesLaw"
abbrev cL_law : ByteArray := code
def yL_law : MethodName := ⟨RL, "law", "([I)Z"⟩
abbrev vwCl : List vw_C := [(RX0, TX0, 8), (RX1, TX1, 1), (RX2, TX2, 2), (RX3, TX3, 3), (RX4, TX4, 1), (RX5, TX5, 3), (RX6, TX6, 1), (RX7, TX7, 5), (RX8, TX8, 3), (RX9, TX9, 4), (RX10, TX10, 3), (RX11, TX11, 9), (RX12, TX12, 27)]
end
section
theorem dX0_init_0 : decode cX0_init 0 = .ok (.aload_n 0, 1) := by decide +kernel
theorem dX0_init_1 : decode cX0_init 1 = .ok (.invokespecial 3, 3) := by decide +kernel
theorem dX0_init_4 : decode cX0_init 4 = .ok (.aload_n 0, 1) := by decide +kernel
theorem dX0_init_5 : decode cX0_init 5 = .ok (.iconst 0, 1) := by decide +kernel
theorem dX0_init_6 : decode cX0_init 6 = .ok (.putfield 9, 3) := by decide +kernel
theorem dX0_init_9 : decode cX0_init 9 = .ok (.aload_n 0, 1) := by decide +kernel
theorem dX0_init_10 : decode cX0_init 10 = .ok (.iconst 0, 1) := by decide +kernel
theorem dX0_init_11 : decode cX0_init 11 = .ok (.putfield 15, 3) := by decide +kernel
theorem dX0_init_14 : decode cX0_init 14 = .ok (.aload_n 0, 1) := by decide +kernel
theorem dX0_init_15 : decode cX0_init 15 = .ok (.bipush 24, 2) := by decide +kernel
theorem dX0_init_17 : decode cX0_init 17 = .ok (.newarray .int, 2) := by decide +kernel
theorem dX0_init_19 : decode cX0_init 19 = .ok (.putfield 18, 3) := by decide +kernel
theorem dX0_init_22 : decode cX0_init 22 = .ok (.aload_n 0, 1) := by decide +kernel
theorem dX0_init_23 : decode cX0_init 23 = .ok (.bipush 24, 2) := by decide +kernel
theorem dX0_init_25 : decode cX0_init 25 = .ok (.newarray .int, 2) := by decide +kernel
theorem dX0_init_27 : decode cX0_init 27 = .ok (.putfield 22, 3) := by decide +kernel
theorem dX0_init_30 : decode cX0_init 30 = .ok (.aload_n 0, 1) := by decide +kernel
theorem dX0_init_31 : decode cX0_init 31 = .ok (.bipush 24, 2) := by decide +kernel
theorem dX0_init_33 : decode cX0_init 33 = .ok (.newarray .int, 2) := by decide +kernel
theorem dX0_init_35 : decode cX0_init 35 = .ok (.putfield 25, 3) := by decide +kernel
theorem dX0_init_38 : decode cX0_init 38 = .ok (.aload_n 0, 1) := by decide +kernel
theorem dX0_init_39 : decode cX0_init 39 = .ok (.bipush 24, 2) := by decide +kernel
theorem dX0_init_41 : decode cX0_init 41 = .ok (.newarray .int, 2) := by decide +kernel
theorem dX0_init_43 : decode cX0_init 43 = .ok (.putfield 28, 3) := by decide +kernel
theorem dX0_init_46 : decode cX0_init 46 = .ok (.aload_n 0, 1) := by decide +kernel
theorem dX0_init_47 : decode cX0_init 47 = .ok (.bipush 24, 2) := by decide +kernel
theorem dX0_init_49 : decode cX0_init 49 = .ok (.newarray .int, 2) := by decide +kernel
theorem dX0_init_51 : decode cX0_init 51 = .ok (.putfield 31, 3) := by decide +kernel
theorem dX0_init_54 : decode cX0_init 54 = .ok (.return_, 1) := by decide +kernel
theorem dX0_copy_0 : decode cX0_copy 0 = .ok (.aload_n 0, 1) := by decide +kernel
theorem dX0_copy_1 : decode cX0_copy 1 = .ok (.aload_n 1, 1) := by decide +kernel
theorem dX0_copy_2 : decode cX0_copy 2 = .ok (.invokevirtual 34, 3) := by decide +kernel
theorem dX0_copy_5 : decode cX0_copy 5 = .ok (.aload_n 0, 1) := by decide +kernel
theorem dX0_copy_6 : decode cX0_copy 6 = .ok (.aload_n 1, 1) := by decide +kernel
theorem dX0_copy_7 : decode cX0_copy 7 = .ok (.getfield 9, 3) := by decide +kernel
theorem dX0_copy_10 : decode cX0_copy 10 = .ok (.putfield 9, 3) := by decide +kernel
theorem dX0_copy_13 : decode cX0_copy 13 = .ok (.aload_n 0, 1) := by decide +kernel
theorem dX0_copy_14 : decode cX0_copy 14 = .ok (.aload_n 1, 1) := by decide +kernel
theorem dX0_copy_15 : decode cX0_copy 15 = .ok (.getfield 15, 3) := by decide +kernel
theorem dX0_copy_18 : decode cX0_copy 18 = .ok (.putfield 15, 3) := by decide +kernel
theorem dX0_copy_21 : decode cX0_copy 21 = .ok (.return_, 1) := by decide +kernel
theorem dX0_copyKeys_0 : decode cX0_copyKeys 0 = .ok (.aload_n 0, 1) := by decide +kernel
theorem dX0_copyKeys_1 : decode cX0_copyKeys 1 = .ok (.aload_n 1, 1) := by decide +kernel
theorem dX0_copyKeys_2 : decode cX0_copyKeys 2 = .ok (.getfield 38, 3) := by decide +kernel
theorem dX0_copyKeys_5 : decode cX0_copyKeys 5 = .ok (.putfield 38, 3) := by decide +kernel
theorem dX0_copyKeys_8 : decode cX0_copyKeys 8 = .ok (.aload_n 1, 1) := by decide +kernel
theorem dX0_copyKeys_9 : decode cX0_copyKeys 9 = .ok (.getfield 18, 3) := by decide +kernel
theorem dX0_copyKeys_12 : decode cX0_copyKeys 12 = .ok (.aload_n 0, 1) := by decide +kernel
theorem dX0_copyKeys_13 : decode cX0_copyKeys 13 = .ok (.getfield 18, 3) := by decide +kernel
theorem dX0_copyKeys_16 : decode cX0_copyKeys 16 = .ok (.invokestatic 41, 3) := by decide +kernel
theorem dX0_copyKeys_19 : decode cX0_copyKeys 19 = .ok (.aload_n 1, 1) := by decide +kernel
theorem dX0_copyKeys_20 : decode cX0_copyKeys 20 = .ok (.getfield 22, 3) := by decide +kernel
theorem dX0_copyKeys_23 : decode cX0_copyKeys 23 = .ok (.aload_n 0, 1) := by decide +kernel
theorem dX0_copyKeys_24 : decode cX0_copyKeys 24 = .ok (.getfield 22, 3) := by decide +kernel
theorem dX0_copyKeys_27 : decode cX0_copyKeys 27 = .ok (.invokestatic 41, 3) := by decide +kernel
theorem dX0_copyKeys_30 : decode cX0_copyKeys 30 = .ok (.aload_n 1, 1) := by decide +kernel
theorem dX0_copyKeys_31 : decode cX0_copyKeys 31 = .ok (.getfield 25, 3) := by decide +kernel
theorem dX0_copyKeys_34 : decode cX0_copyKeys 34 = .ok (.aload_n 0, 1) := by decide +kernel
theorem dX0_copyKeys_35 : decode cX0_copyKeys 35 = .ok (.getfield 25, 3) := by decide +kernel
theorem dX0_copyKeys_38 : decode cX0_copyKeys 38 = .ok (.invokestatic 41, 3) := by decide +kernel
theorem dX0_copyKeys_41 : decode cX0_copyKeys 41 = .ok (.aload_n 1, 1) := by decide +kernel
theorem dX0_copyKeys_42 : decode cX0_copyKeys 42 = .ok (.getfield 28, 3) := by decide +kernel
theorem dX0_copyKeys_45 : decode cX0_copyKeys 45 = .ok (.aload_n 0, 1) := by decide +kernel
theorem dX0_copyKeys_46 : decode cX0_copyKeys 46 = .ok (.getfield 28, 3) := by decide +kernel
theorem dX0_copyKeys_49 : decode cX0_copyKeys 49 = .ok (.invokestatic 41, 3) := by decide +kernel
theorem dX0_copyKeys_52 : decode cX0_copyKeys 52 = .ok (.aload_n 1, 1) := by decide +kernel
theorem dX0_copyKeys_53 : decode cX0_copyKeys 53 = .ok (.getfield 31, 3) := by decide +kernel
theorem dX0_copyKeys_56 : decode cX0_copyKeys 56 = .ok (.aload_n 0, 1) := by decide +kernel
theorem dX0_copyKeys_57 : decode cX0_copyKeys 57 = .ok (.getfield 31, 3) := by decide +kernel
theorem dX0_copyKeys_60 : decode cX0_copyKeys 60 = .ok (.invokestatic 41, 3) := by decide +kernel
theorem dX0_copyKeys_63 : decode cX0_copyKeys 63 = .ok (.return_, 1) := by decide +kernel
theorem dX0_has_0 : decode cX0_has 0 = .ok (.iload_n 1, 1) := by decide +kernel
theorem dX0_has_1 : decode cX0_has 1 = .ok (.ifCond .lt 15, 3) := by decide +kernel
theorem dX0_has_4 : decode cX0_has 4 = .ok (.iload_n 1, 1) := by decide +kernel
theorem dX0_has_5 : decode cX0_has 5 = .ok (.aload_n 0, 1) := by decide +kernel
theorem dX0_has_6 : decode cX0_has 6 = .ok (.getfield 38, 3) := by decide +kernel
theorem dX0_has_9 : decode cX0_has 9 = .ok (.if_icmp .ge 7, 3) := by decide +kernel
theorem dX0_has_12 : decode cX0_has 12 = .ok (.iconst 1, 1) := by decide +kernel
theorem dX0_has_13 : decode cX0_has 13 = .ok (.goto 4, 3) := by decide +kernel
theorem dX0_has_16 : decode cX0_has 16 = .ok (.iconst 0, 1) := by decide +kernel
theorem dX0_has_17 : decode cX0_has 17 = .ok (.ireturn, 1) := by decide +kernel
theorem dX0_find_0 : decode cX0_find 0 = .ok (.aload_n 0, 1) := by decide +kernel
theorem dX0_find_1 : decode cX0_find 1 = .ok (.iload_n 1, 1) := by decide +kernel
theorem dX0_find_2 : decode cX0_find 2 = .ok (.invokevirtual 45, 3) := by decide +kernel
theorem dX0_find_5 : decode cX0_find 5 = .ok (.istore_n 2, 1) := by decide +kernel
theorem dX0_find_6 : decode cX0_find 6 = .ok (.aload_n 0, 1) := by decide +kernel
theorem dX0_find_7 : decode cX0_find 7 = .ok (.iload_n 2, 1) := by decide +kernel
theorem dX0_find_8 : decode cX0_find 8 = .ok (.invokevirtual 49, 3) := by decide +kernel
theorem dX0_find_11 : decode cX0_find 11 = .ok (.ifCond .eq 19, 3) := by decide +kernel
theorem dX0_find_14 : decode cX0_find 14 = .ok (.aload_n 0, 1) := by decide +kernel
theorem dX0_find_15 : decode cX0_find 15 = .ok (.getfield 18, 3) := by decide +kernel
theorem dX0_find_18 : decode cX0_find 18 = .ok (.iload_n 2, 1) := by decide +kernel
theorem dX0_find_19 : decode cX0_find 19 = .ok (.invokestatic 53, 3) := by decide +kernel
theorem dX0_find_22 : decode cX0_find 22 = .ok (.iload_n 1, 1) := by decide +kernel
theorem dX0_find_23 : decode cX0_find 23 = .ok (.if_icmp .ne 7, 3) := by decide +kernel
theorem dX0_find_26 : decode cX0_find 26 = .ok (.iload_n 2, 1) := by decide +kernel
theorem dX0_find_27 : decode cX0_find 27 = .ok (.goto 4, 3) := by decide +kernel
theorem dX0_find_30 : decode cX0_find 30 = .ok (.iconst (-1), 1) := by decide +kernel
theorem dX0_find_31 : decode cX0_find 31 = .ok (.ireturn, 1) := by decide +kernel
theorem dX0_keysBefore_0 : decode cX0_keysBefore 0 = .ok (.iconst 0, 1) := by decide +kernel
theorem dX0_keysBefore_1 : decode cX0_keysBefore 1 = .ok (.istore_n 2, 1) := by decide +kernel
theorem dX0_keysBefore_2 : decode cX0_keysBefore 2 = .ok (.iload_n 2, 1) := by decide +kernel
theorem dX0_keysBefore_3 : decode cX0_keysBefore 3 = .ok (.aload_n 0, 1) := by decide +kernel
theorem dX0_keysBefore_4 : decode cX0_keysBefore 4 = .ok (.getfield 38, 3) := by decide +kernel
theorem dX0_keysBefore_7 : decode cX0_keysBefore 7 = .ok (.if_icmp .ge 21, 3) := by decide +kernel
theorem dX0_keysBefore_10 : decode cX0_keysBefore 10 = .ok (.aload_n 0, 1) := by decide +kernel
theorem dX0_keysBefore_11 : decode cX0_keysBefore 11 = .ok (.getfield 18, 3) := by decide +kernel
theorem dX0_keysBefore_14 : decode cX0_keysBefore 14 = .ok (.iload_n 2, 1) := by decide +kernel
theorem dX0_keysBefore_15 : decode cX0_keysBefore 15 = .ok (.invokestatic 53, 3) := by decide +kernel
theorem dX0_keysBefore_18 : decode cX0_keysBefore 18 = .ok (.iload_n 1, 1) := by decide +kernel
theorem dX0_keysBefore_19 : decode cX0_keysBefore 19 = .ok (.if_icmp .ge 9, 3) := by decide +kernel
theorem dX0_keysBefore_22 : decode cX0_keysBefore 22 = .ok (.iinc 2 1, 3) := by decide +kernel
theorem dX0_keysBefore_25 : decode cX0_keysBefore 25 = .ok (.goto (-23), 3) := by decide +kernel
theorem dX0_keysBefore_28 : decode cX0_keysBefore 28 = .ok (.iload_n 2, 1) := by decide +kernel
theorem dX0_keysBefore_29 : decode cX0_keysBefore 29 = .ok (.ireturn, 1) := by decide +kernel
theorem dX0_bothExtrapolations_0 : decode cX0_bothExtrapolations 0 = .ok (.bipush 10, 2) := by decide +kernel
theorem dX0_bothExtrapolations_2 : decode cX0_bothExtrapolations 2 = .ok (.aload_n 0, 1) := by decide +kernel
theorem dX0_bothExtrapolations_3 : decode cX0_bothExtrapolations 3 = .ok (.getfield 9, 3) := by decide +kernel
theorem dX0_bothExtrapolations_6 : decode cX0_bothExtrapolations 6 = .ok (.imul, 1) := by decide +kernel
theorem dX0_bothExtrapolations_7 : decode cX0_bothExtrapolations 7 = .ok (.aload_n 0, 1) := by decide +kernel
theorem dX0_bothExtrapolations_8 : decode cX0_bothExtrapolations 8 = .ok (.getfield 15, 3) := by decide +kernel
theorem dX0_bothExtrapolations_11 : decode cX0_bothExtrapolations 11 = .ok (.iadd, 1) := by decide +kernel
theorem dX0_bothExtrapolations_12 : decode cX0_bothExtrapolations 12 = .ok (.ireturn, 1) := by decide +kernel
theorem dX0_insert_0 : decode cX0_insert 0 = .ok (.aload_n 0, 1) := by decide +kernel
theorem dX0_insert_1 : decode cX0_insert 1 = .ok (.iload_n 1, 1) := by decide +kernel
theorem dX0_insert_2 : decode cX0_insert 2 = .ok (.invokevirtual 45, 3) := by decide +kernel
theorem dX0_insert_5 : decode cX0_insert 5 = .ok (.istore 6, 2) := by decide +kernel
theorem dX0_insert_7 : decode cX0_insert 7 = .ok (.aload_n 0, 1) := by decide +kernel
theorem dX0_insert_8 : decode cX0_insert 8 = .ok (.getfield 38, 3) := by decide +kernel
theorem dX0_insert_11 : decode cX0_insert 11 = .ok (.istore 7, 2) := by decide +kernel
theorem dX0_insert_13 : decode cX0_insert 13 = .ok (.iload 7, 2) := by decide +kernel
theorem dX0_insert_15 : decode cX0_insert 15 = .ok (.iload 6, 2) := by decide +kernel
theorem dX0_insert_17 : decode cX0_insert 17 = .ok (.if_icmp .le 19, 3) := by decide +kernel
theorem dX0_insert_20 : decode cX0_insert 20 = .ok (.aload_n 0, 1) := by decide +kernel
theorem dX0_insert_21 : decode cX0_insert 21 = .ok (.iload 7, 2) := by decide +kernel
theorem dX0_insert_23 : decode cX0_insert 23 = .ok (.iconst 1, 1) := by decide +kernel
theorem dX0_insert_24 : decode cX0_insert 24 = .ok (.isub, 1) := by decide +kernel
theorem dX0_insert_25 : decode cX0_insert 25 = .ok (.iload 7, 2) := by decide +kernel
theorem dX0_insert_27 : decode cX0_insert 27 = .ok (.invokevirtual 57, 3) := by decide +kernel
theorem dX0_insert_30 : decode cX0_insert 30 = .ok (.iinc 7 (-1), 3) := by decide +kernel
theorem dX0_insert_33 : decode cX0_insert 33 = .ok (.goto (-20), 3) := by decide +kernel
theorem dX0_insert_36 : decode cX0_insert 36 = .ok (.aload_n 0, 1) := by decide +kernel
theorem dX0_insert_37 : decode cX0_insert 37 = .ok (.dup, 1) := by decide +kernel
theorem dX0_insert_38 : decode cX0_insert 38 = .ok (.getfield 38, 3) := by decide +kernel
theorem dX0_insert_41 : decode cX0_insert 41 = .ok (.iconst 1, 1) := by decide +kernel
theorem dX0_insert_42 : decode cX0_insert 42 = .ok (.iadd, 1) := by decide +kernel
theorem dX0_insert_43 : decode cX0_insert 43 = .ok (.putfield 38, 3) := by decide +kernel
theorem dX0_insert_46 : decode cX0_insert 46 = .ok (.aload_n 0, 1) := by decide +kernel
theorem dX0_insert_47 : decode cX0_insert 47 = .ok (.getfield 18, 3) := by decide +kernel
theorem dX0_insert_50 : decode cX0_insert 50 = .ok (.iload 6, 2) := by decide +kernel
theorem dX0_insert_52 : decode cX0_insert 52 = .ok (.iload_n 1, 1) := by decide +kernel
theorem dX0_insert_53 : decode cX0_insert 53 = .ok (.invokestatic 61, 3) := by decide +kernel
theorem dX0_insert_56 : decode cX0_insert 56 = .ok (.aload_n 0, 1) := by decide +kernel
theorem dX0_insert_57 : decode cX0_insert 57 = .ok (.getfield 22, 3) := by decide +kernel
theorem dX0_insert_60 : decode cX0_insert 60 = .ok (.iload 6, 2) := by decide +kernel
theorem dX0_insert_62 : decode cX0_insert 62 = .ok (.iload_n 2, 1) := by decide +kernel
theorem dX0_insert_63 : decode cX0_insert 63 = .ok (.invokestatic 61, 3) := by decide +kernel
theorem dX0_insert_66 : decode cX0_insert 66 = .ok (.aload_n 0, 1) := by decide +kernel
theorem dX0_insert_67 : decode cX0_insert 67 = .ok (.getfield 25, 3) := by decide +kernel
theorem dX0_insert_70 : decode cX0_insert 70 = .ok (.iload 6, 2) := by decide +kernel
theorem dX0_insert_72 : decode cX0_insert 72 = .ok (.iload_n 3, 1) := by decide +kernel
theorem dX0_insert_73 : decode cX0_insert 73 = .ok (.invokestatic 61, 3) := by decide +kernel
theorem dX0_insert_76 : decode cX0_insert 76 = .ok (.aload_n 0, 1) := by decide +kernel
theorem dX0_insert_77 : decode cX0_insert 77 = .ok (.getfield 28, 3) := by decide +kernel
theorem dX0_insert_80 : decode cX0_insert 80 = .ok (.iload 6, 2) := by decide +kernel
theorem dX0_insert_82 : decode cX0_insert 82 = .ok (.iload 4, 2) := by decide +kernel
theorem dX0_insert_84 : decode cX0_insert 84 = .ok (.invokestatic 61, 3) := by decide +kernel
theorem dX0_insert_87 : decode cX0_insert 87 = .ok (.aload_n 0, 1) := by decide +kernel
theorem dX0_insert_88 : decode cX0_insert 88 = .ok (.getfield 31, 3) := by decide +kernel
theorem dX0_insert_91 : decode cX0_insert 91 = .ok (.iload 6, 2) := by decide +kernel
theorem dX0_insert_93 : decode cX0_insert 93 = .ok (.iload 5, 2) := by decide +kernel
theorem dX0_insert_95 : decode cX0_insert 95 = .ok (.invokestatic 61, 3) := by decide +kernel
theorem dX0_insert_98 : decode cX0_insert 98 = .ok (.iload 6, 2) := by decide +kernel
theorem dX0_insert_100 : decode cX0_insert 100 = .ok (.ireturn, 1) := by decide +kernel
theorem dX0_drop_0 : decode cX0_drop 0 = .ok (.iload_n 1, 1) := by decide +kernel
theorem dX0_drop_1 : decode cX0_drop 1 = .ok (.iconst 1, 1) := by decide +kernel
theorem dX0_drop_2 : decode cX0_drop 2 = .ok (.iadd, 1) := by decide +kernel
theorem dX0_drop_3 : decode cX0_drop 3 = .ok (.istore_n 2, 1) := by decide +kernel
theorem dX0_drop_4 : decode cX0_drop 4 = .ok (.iload_n 2, 1) := by decide +kernel
theorem dX0_drop_5 : decode cX0_drop 5 = .ok (.aload_n 0, 1) := by decide +kernel
theorem dX0_drop_6 : decode cX0_drop 6 = .ok (.getfield 38, 3) := by decide +kernel
theorem dX0_drop_9 : decode cX0_drop 9 = .ok (.if_icmp .ge 17, 3) := by decide +kernel
theorem dX0_drop_12 : decode cX0_drop 12 = .ok (.aload_n 0, 1) := by decide +kernel
theorem dX0_drop_13 : decode cX0_drop 13 = .ok (.iload_n 2, 1) := by decide +kernel
theorem dX0_drop_14 : decode cX0_drop 14 = .ok (.iload_n 2, 1) := by decide +kernel
theorem dX0_drop_15 : decode cX0_drop 15 = .ok (.iconst 1, 1) := by decide +kernel
theorem dX0_drop_16 : decode cX0_drop 16 = .ok (.isub, 1) := by decide +kernel
theorem dX0_drop_17 : decode cX0_drop 17 = .ok (.invokevirtual 57, 3) := by decide +kernel
theorem dX0_drop_20 : decode cX0_drop 20 = .ok (.iinc 2 1, 3) := by decide +kernel
theorem dX0_drop_23 : decode cX0_drop 23 = .ok (.goto (-19), 3) := by decide +kernel
theorem dX0_drop_26 : decode cX0_drop 26 = .ok (.aload_n 0, 1) := by decide +kernel
theorem dX0_drop_27 : decode cX0_drop 27 = .ok (.dup, 1) := by decide +kernel
theorem dX0_drop_28 : decode cX0_drop 28 = .ok (.getfield 38, 3) := by decide +kernel
theorem dX0_drop_31 : decode cX0_drop 31 = .ok (.iconst 1, 1) := by decide +kernel
theorem dX0_drop_32 : decode cX0_drop 32 = .ok (.isub, 1) := by decide +kernel
theorem dX0_drop_33 : decode cX0_drop 33 = .ok (.putfield 38, 3) := by decide +kernel
theorem dX0_drop_36 : decode cX0_drop 36 = .ok (.return_, 1) := by decide +kernel
theorem dX0_shift_0 : decode cX0_shift 0 = .ok (.aload_n 0, 1) := by decide +kernel
theorem dX0_shift_1 : decode cX0_shift 1 = .ok (.getfield 18, 3) := by decide +kernel
theorem dX0_shift_4 : decode cX0_shift 4 = .ok (.iload_n 2, 1) := by decide +kernel
theorem dX0_shift_5 : decode cX0_shift 5 = .ok (.aload_n 0, 1) := by decide +kernel
theorem dX0_shift_6 : decode cX0_shift 6 = .ok (.getfield 18, 3) := by decide +kernel
theorem dX0_shift_9 : decode cX0_shift 9 = .ok (.iload_n 1, 1) := by decide +kernel
theorem dX0_shift_10 : decode cX0_shift 10 = .ok (.invokestatic 53, 3) := by decide +kernel
theorem dX0_shift_13 : decode cX0_shift 13 = .ok (.invokestatic 61, 3) := by decide +kernel
theorem dX0_shift_16 : decode cX0_shift 16 = .ok (.aload_n 0, 1) := by decide +kernel
theorem dX0_shift_17 : decode cX0_shift 17 = .ok (.getfield 22, 3) := by decide +kernel
theorem dX0_shift_20 : decode cX0_shift 20 = .ok (.iload_n 2, 1) := by decide +kernel
theorem dX0_shift_21 : decode cX0_shift 21 = .ok (.aload_n 0, 1) := by decide +kernel
theorem dX0_shift_22 : decode cX0_shift 22 = .ok (.getfield 22, 3) := by decide +kernel
theorem dX0_shift_25 : decode cX0_shift 25 = .ok (.iload_n 1, 1) := by decide +kernel
theorem dX0_shift_26 : decode cX0_shift 26 = .ok (.invokestatic 53, 3) := by decide +kernel
theorem dX0_shift_29 : decode cX0_shift 29 = .ok (.invokestatic 61, 3) := by decide +kernel
theorem dX0_shift_32 : decode cX0_shift 32 = .ok (.aload_n 0, 1) := by decide +kernel
theorem dX0_shift_33 : decode cX0_shift 33 = .ok (.getfield 25, 3) := by decide +kernel
theorem dX0_shift_36 : decode cX0_shift 36 = .ok (.iload_n 2, 1) := by decide +kernel
theorem dX0_shift_37 : decode cX0_shift 37 = .ok (.aload_n 0, 1) := by decide +kernel
theorem dX0_shift_38 : decode cX0_shift 38 = .ok (.getfield 25, 3) := by decide +kernel
theorem dX0_shift_41 : decode cX0_shift 41 = .ok (.iload_n 1, 1) := by decide +kernel
theorem dX0_shift_42 : decode cX0_shift 42 = .ok (.invokestatic 53, 3) := by decide +kernel
theorem dX0_shift_45 : decode cX0_shift 45 = .ok (.invokestatic 61, 3) := by decide +kernel
theorem dX0_shift_48 : decode cX0_shift 48 = .ok (.aload_n 0, 1) := by decide +kernel
theorem dX0_shift_49 : decode cX0_shift 49 = .ok (.getfield 28, 3) := by decide +kernel
theorem dX0_shift_52 : decode cX0_shift 52 = .ok (.iload_n 2, 1) := by decide +kernel
theorem dX0_shift_53 : decode cX0_shift 53 = .ok (.aload_n 0, 1) := by decide +kernel
theorem dX0_shift_54 : decode cX0_shift 54 = .ok (.getfield 28, 3) := by decide +kernel
theorem dX0_shift_57 : decode cX0_shift 57 = .ok (.iload_n 1, 1) := by decide +kernel
theorem dX0_shift_58 : decode cX0_shift 58 = .ok (.invokestatic 53, 3) := by decide +kernel
theorem dX0_shift_61 : decode cX0_shift 61 = .ok (.invokestatic 61, 3) := by decide +kernel
theorem dX0_shift_64 : decode cX0_shift 64 = .ok (.aload_n 0, 1) := by decide +kernel
theorem dX0_shift_65 : decode cX0_shift 65 = .ok (.getfield 31, 3) := by decide +kernel
theorem dX0_shift_68 : decode cX0_shift 68 = .ok (.iload_n 2, 1) := by decide +kernel
theorem dX0_shift_69 : decode cX0_shift 69 = .ok (.aload_n 0, 1) := by decide +kernel
theorem dX0_shift_70 : decode cX0_shift 70 = .ok (.getfield 31, 3) := by decide +kernel
theorem dX0_shift_73 : decode cX0_shift 73 = .ok (.iload_n 1, 1) := by decide +kernel
theorem dX0_shift_74 : decode cX0_shift 74 = .ok (.invokestatic 53, 3) := by decide +kernel
theorem dX0_shift_77 : decode cX0_shift 77 = .ok (.invokestatic 61, 3) := by decide +kernel
theorem dX0_shift_80 : decode cX0_shift 80 = .ok (.return_, 1) := by decide +kernel
theorem dX0_keysOutside_0 : decode cX0_keysOutside 0 = .ok (.aload_n 0, 1) := by decide +kernel
theorem dX0_keysOutside_1 : decode cX0_keysOutside 1 = .ok (.getfield 38, 3) := by decide +kernel
theorem dX0_keysOutside_4 : decode cX0_keysOutside 4 = .ok (.aload_n 0, 1) := by decide +kernel
theorem dX0_keysOutside_5 : decode cX0_keysOutside 5 = .ok (.iload_n 2, 1) := by decide +kernel
theorem dX0_keysOutside_6 : decode cX0_keysOutside 6 = .ok (.iconst 1, 1) := by decide +kernel
theorem dX0_keysOutside_7 : decode cX0_keysOutside 7 = .ok (.iadd, 1) := by decide +kernel
theorem dX0_keysOutside_8 : decode cX0_keysOutside 8 = .ok (.invokevirtual 45, 3) := by decide +kernel
theorem dX0_keysOutside_11 : decode cX0_keysOutside 11 = .ok (.aload_n 0, 1) := by decide +kernel
theorem dX0_keysOutside_12 : decode cX0_keysOutside 12 = .ok (.iload_n 1, 1) := by decide +kernel
theorem dX0_keysOutside_13 : decode cX0_keysOutside 13 = .ok (.invokevirtual 45, 3) := by decide +kernel
theorem dX0_keysOutside_16 : decode cX0_keysOutside 16 = .ok (.isub, 1) := by decide +kernel
theorem dX0_keysOutside_17 : decode cX0_keysOutside 17 = .ok (.isub, 1) := by decide +kernel
theorem dX0_keysOutside_18 : decode cX0_keysOutside 18 = .ok (.ireturn, 1) := by decide +kernel
theorem dX0_replaceRange_0 : decode cX0_replaceRange 0 = .ok (.aload_n 0, 1) := by decide +kernel
theorem dX0_replaceRange_1 : decode cX0_replaceRange 1 = .ok (.iload_n 1, 1) := by decide +kernel
theorem dX0_replaceRange_2 : decode cX0_replaceRange 2 = .ok (.invokevirtual 45, 3) := by decide +kernel
theorem dX0_replaceRange_5 : decode cX0_replaceRange 5 = .ok (.istore 5, 2) := by decide +kernel
theorem dX0_replaceRange_7 : decode cX0_replaceRange 7 = .ok (.aload_n 0, 1) := by decide +kernel
theorem dX0_replaceRange_8 : decode cX0_replaceRange 8 = .ok (.iload_n 2, 1) := by decide +kernel
theorem dX0_replaceRange_9 : decode cX0_replaceRange 9 = .ok (.iconst 1, 1) := by decide +kernel
theorem dX0_replaceRange_10 : decode cX0_replaceRange 10 = .ok (.iadd, 1) := by decide +kernel
theorem dX0_replaceRange_11 : decode cX0_replaceRange 11 = .ok (.invokevirtual 45, 3) := by decide +kernel
theorem dX0_replaceRange_14 : decode cX0_replaceRange 14 = .ok (.iconst 1, 1) := by decide +kernel
theorem dX0_replaceRange_15 : decode cX0_replaceRange 15 = .ok (.isub, 1) := by decide +kernel
theorem dX0_replaceRange_16 : decode cX0_replaceRange 16 = .ok (.istore 6, 2) := by decide +kernel
theorem dX0_replaceRange_18 : decode cX0_replaceRange 18 = .ok (.iload 6, 2) := by decide +kernel
theorem dX0_replaceRange_20 : decode cX0_replaceRange 20 = .ok (.iload 5, 2) := by decide +kernel
theorem dX0_replaceRange_22 : decode cX0_replaceRange 22 = .ok (.if_icmp .lt 15, 3) := by decide +kernel
theorem dX0_replaceRange_25 : decode cX0_replaceRange 25 = .ok (.aload_n 0, 1) := by decide +kernel
theorem dX0_replaceRange_26 : decode cX0_replaceRange 26 = .ok (.iload 6, 2) := by decide +kernel
theorem dX0_replaceRange_28 : decode cX0_replaceRange 28 = .ok (.invokevirtual 65, 3) := by decide +kernel
theorem dX0_replaceRange_31 : decode cX0_replaceRange 31 = .ok (.iinc 6 (-1), 3) := by decide +kernel
theorem dX0_replaceRange_34 : decode cX0_replaceRange 34 = .ok (.goto (-16), 3) := by decide +kernel
theorem dX0_replaceRange_37 : decode cX0_replaceRange 37 = .ok (.iload_n 1, 1) := by decide +kernel
theorem dX0_replaceRange_38 : decode cX0_replaceRange 38 = .ok (.iload_n 2, 1) := by decide +kernel
theorem dX0_replaceRange_39 : decode cX0_replaceRange 39 = .ok (.iload_n 3, 1) := by decide +kernel
theorem dX0_replaceRange_40 : decode cX0_replaceRange 40 = .ok (.invokestatic 69, 3) := by decide +kernel
theorem dX0_replaceRange_43 : decode cX0_replaceRange 43 = .ok (.istore 6, 2) := by decide +kernel
theorem dX0_replaceRange_45 : decode cX0_replaceRange 45 = .ok (.iconst 0, 1) := by decide +kernel
theorem dX0_replaceRange_46 : decode cX0_replaceRange 46 = .ok (.istore 7, 2) := by decide +kernel
theorem dX0_replaceRange_48 : decode cX0_replaceRange 48 = .ok (.iload 7, 2) := by decide +kernel
theorem dX0_replaceRange_50 : decode cX0_replaceRange 50 = .ok (.iload 6, 2) := by decide +kernel
theorem dX0_replaceRange_52 : decode cX0_replaceRange 52 = .ok (.if_icmp .ge 30, 3) := by decide +kernel
theorem dX0_replaceRange_55 : decode cX0_replaceRange 55 = .ok (.aload_n 0, 1) := by decide +kernel
theorem dX0_replaceRange_56 : decode cX0_replaceRange 56 = .ok (.iload_n 1, 1) := by decide +kernel
theorem dX0_replaceRange_57 : decode cX0_replaceRange 57 = .ok (.iload 7, 2) := by decide +kernel
theorem dX0_replaceRange_59 : decode cX0_replaceRange 59 = .ok (.iload_n 3, 1) := by decide +kernel
theorem dX0_replaceRange_60 : decode cX0_replaceRange 60 = .ok (.imul, 1) := by decide +kernel
theorem dX0_replaceRange_61 : decode cX0_replaceRange 61 = .ok (.iadd, 1) := by decide +kernel
theorem dX0_replaceRange_62 : decode cX0_replaceRange 62 = .ok (.aload 4, 2) := by decide +kernel
theorem dX0_replaceRange_64 : decode cX0_replaceRange 64 = .ok (.iload 7, 2) := by decide +kernel
theorem dX0_replaceRange_66 : decode cX0_replaceRange 66 = .ok (.invokestatic 53, 3) := by decide +kernel
theorem dX0_replaceRange_69 : decode cX0_replaceRange 69 = .ok (.iconst 2, 1) := by decide +kernel
theorem dX0_replaceRange_70 : decode cX0_replaceRange 70 = .ok (.iconst 0, 1) := by decide +kernel
theorem dX0_replaceRange_71 : decode cX0_replaceRange 71 = .ok (.iconst 0, 1) := by decide +kernel
theorem dX0_replaceRange_72 : decode cX0_replaceRange 72 = .ok (.invokevirtual 73, 3) := by decide +kernel
theorem dX0_replaceRange_75 : decode cX0_replaceRange 75 = .ok (.pop, 1) := by decide +kernel
theorem dX0_replaceRange_76 : decode cX0_replaceRange 76 = .ok (.iinc 7 1, 3) := by decide +kernel
theorem dX0_replaceRange_79 : decode cX0_replaceRange 79 = .ok (.goto (-31), 3) := by decide +kernel
theorem dX0_replaceRange_82 : decode cX0_replaceRange 82 = .ok (.return_, 1) := by decide +kernel
theorem dX0_move_0 : decode cX0_move 0 = .ok (.aload_n 0, 1) := by decide +kernel
theorem dX0_move_1 : decode cX0_move 1 = .ok (.getfield 22, 3) := by decide +kernel
theorem dX0_move_4 : decode cX0_move 4 = .ok (.iload_n 1, 1) := by decide +kernel
theorem dX0_move_5 : decode cX0_move 5 = .ok (.invokestatic 53, 3) := by decide +kernel
theorem dX0_move_8 : decode cX0_move 8 = .ok (.istore_n 3, 1) := by decide +kernel
theorem dX0_move_9 : decode cX0_move 9 = .ok (.aload_n 0, 1) := by decide +kernel
theorem dX0_move_10 : decode cX0_move 10 = .ok (.getfield 25, 3) := by decide +kernel
theorem dX0_move_13 : decode cX0_move 13 = .ok (.iload_n 1, 1) := by decide +kernel
theorem dX0_move_14 : decode cX0_move 14 = .ok (.invokestatic 53, 3) := by decide +kernel
theorem dX0_move_17 : decode cX0_move 17 = .ok (.istore 4, 2) := by decide +kernel
theorem dX0_move_19 : decode cX0_move 19 = .ok (.aload_n 0, 1) := by decide +kernel
theorem dX0_move_20 : decode cX0_move 20 = .ok (.getfield 28, 3) := by decide +kernel
theorem dX0_move_23 : decode cX0_move 23 = .ok (.iload_n 1, 1) := by decide +kernel
theorem dX0_move_24 : decode cX0_move 24 = .ok (.invokestatic 53, 3) := by decide +kernel
theorem dX0_move_27 : decode cX0_move 27 = .ok (.istore 5, 2) := by decide +kernel
theorem dX0_move_29 : decode cX0_move 29 = .ok (.aload_n 0, 1) := by decide +kernel
theorem dX0_move_30 : decode cX0_move 30 = .ok (.getfield 31, 3) := by decide +kernel
theorem dX0_move_33 : decode cX0_move 33 = .ok (.iload_n 1, 1) := by decide +kernel
theorem dX0_move_34 : decode cX0_move 34 = .ok (.invokestatic 53, 3) := by decide +kernel
theorem dX0_move_37 : decode cX0_move 37 = .ok (.istore 6, 2) := by decide +kernel
theorem dX0_move_39 : decode cX0_move 39 = .ok (.aload_n 0, 1) := by decide +kernel
theorem dX0_move_40 : decode cX0_move 40 = .ok (.iload_n 1, 1) := by decide +kernel
theorem dX0_move_41 : decode cX0_move 41 = .ok (.invokevirtual 65, 3) := by decide +kernel
theorem dX0_move_44 : decode cX0_move 44 = .ok (.aload_n 0, 1) := by decide +kernel
theorem dX0_move_45 : decode cX0_move 45 = .ok (.iload_n 2, 1) := by decide +kernel
theorem dX0_move_46 : decode cX0_move 46 = .ok (.iload_n 3, 1) := by decide +kernel
theorem dX0_move_47 : decode cX0_move 47 = .ok (.iload 4, 2) := by decide +kernel
theorem dX0_move_49 : decode cX0_move 49 = .ok (.iload 5, 2) := by decide +kernel
theorem dX0_move_51 : decode cX0_move 51 = .ok (.iload 6, 2) := by decide +kernel
theorem dX0_move_53 : decode cX0_move 53 = .ok (.invokevirtual 73, 3) := by decide +kernel
theorem dX0_move_56 : decode cX0_move 56 = .ok (.ireturn, 1) := by decide +kernel
theorem dX0_changeMode_0 : decode cX0_changeMode 0 = .ok (.iload_n 2, 1) := by decide +kernel
theorem dX0_changeMode_1 : decode cX0_changeMode 1 = .ok (.ifCond .ne 62, 3) := by decide +kernel
theorem dX0_changeMode_4 : decode cX0_changeMode 4 = .ok (.aload_n 0, 1) := by decide +kernel
theorem dX0_changeMode_5 : decode cX0_changeMode 5 = .ok (.getfield 25, 3) := by decide +kernel
theorem dX0_changeMode_8 : decode cX0_changeMode 8 = .ok (.iload_n 1, 1) := by decide +kernel
theorem dX0_changeMode_9 : decode cX0_changeMode 9 = .ok (.invokestatic 53, 3) := by decide +kernel
theorem dX0_changeMode_12 : decode cX0_changeMode 12 = .ok (.ifCond .eq 51, 3) := by decide +kernel
theorem dX0_changeMode_15 : decode cX0_changeMode 15 = .ok (.aload_n 0, 1) := by decide +kernel
theorem dX0_changeMode_16 : decode cX0_changeMode 16 = .ok (.iload_n 1, 1) := by decide +kernel
theorem dX0_changeMode_17 : decode cX0_changeMode 17 = .ok (.iconst 0, 1) := by decide +kernel
theorem dX0_changeMode_18 : decode cX0_changeMode 18 = .ok (.invokevirtual 77, 3) := by decide +kernel
theorem dX0_changeMode_21 : decode cX0_changeMode 21 = .ok (.istore_n 3, 1) := by decide +kernel
theorem dX0_changeMode_22 : decode cX0_changeMode 22 = .ok (.aload_n 0, 1) := by decide +kernel
theorem dX0_changeMode_23 : decode cX0_changeMode 23 = .ok (.iload_n 1, 1) := by decide +kernel
theorem dX0_changeMode_24 : decode cX0_changeMode 24 = .ok (.iconst 1, 1) := by decide +kernel
theorem dX0_changeMode_25 : decode cX0_changeMode 25 = .ok (.invokevirtual 77, 3) := by decide +kernel
theorem dX0_changeMode_28 : decode cX0_changeMode 28 = .ok (.istore 4, 2) := by decide +kernel
theorem dX0_changeMode_30 : decode cX0_changeMode 30 = .ok (.aload_n 0, 1) := by decide +kernel
theorem dX0_changeMode_31 : decode cX0_changeMode 31 = .ok (.getfield 28, 3) := by decide +kernel
theorem dX0_changeMode_34 : decode cX0_changeMode 34 = .ok (.iload_n 1, 1) := by decide +kernel
theorem dX0_changeMode_35 : decode cX0_changeMode 35 = .ok (.iload_n 3, 1) := by decide +kernel
theorem dX0_changeMode_36 : decode cX0_changeMode 36 = .ok (.i2l, 1) := by decide +kernel
theorem dX0_changeMode_37 : decode cX0_changeMode 37 = .ok (.sipush 9999, 3) := by decide +kernel
theorem dX0_changeMode_40 : decode cX0_changeMode 40 = .ok (.invokestatic 81, 3) := by decide +kernel
theorem dX0_changeMode_43 : decode cX0_changeMode 43 = .ok (.invokestatic 61, 3) := by decide +kernel
theorem dX0_changeMode_46 : decode cX0_changeMode 46 = .ok (.aload_n 0, 1) := by decide +kernel
theorem dX0_changeMode_47 : decode cX0_changeMode 47 = .ok (.getfield 31, 3) := by decide +kernel
theorem dX0_changeMode_50 : decode cX0_changeMode 50 = .ok (.iload_n 1, 1) := by decide +kernel
theorem dX0_changeMode_51 : decode cX0_changeMode 51 = .ok (.iload 4, 2) := by decide +kernel
theorem dX0_changeMode_53 : decode cX0_changeMode 53 = .ok (.i2l, 1) := by decide +kernel
theorem dX0_changeMode_54 : decode cX0_changeMode 54 = .ok (.sipush 9999, 3) := by decide +kernel
theorem dX0_changeMode_57 : decode cX0_changeMode 57 = .ok (.invokestatic 81, 3) := by decide +kernel
theorem dX0_changeMode_60 : decode cX0_changeMode 60 = .ok (.invokestatic 61, 3) := by decide +kernel
theorem dX0_changeMode_63 : decode cX0_changeMode 63 = .ok (.aload_n 0, 1) := by decide +kernel
theorem dX0_changeMode_64 : decode cX0_changeMode 64 = .ok (.getfield 25, 3) := by decide +kernel
theorem dX0_changeMode_67 : decode cX0_changeMode 67 = .ok (.iload_n 1, 1) := by decide +kernel
theorem dX0_changeMode_68 : decode cX0_changeMode 68 = .ok (.iload_n 2, 1) := by decide +kernel
theorem dX0_changeMode_69 : decode cX0_changeMode 69 = .ok (.invokestatic 61, 3) := by decide +kernel
theorem dX0_changeMode_72 : decode cX0_changeMode 72 = .ok (.return_, 1) := by decide +kernel
theorem dX0_divide_0 : decode cX0_divide 0 = .ok (.aload_n 0, 1) := by decide +kernel
theorem dX0_divide_1 : decode cX0_divide 1 = .ok (.getfield 25, 3) := by decide +kernel
theorem dX0_divide_4 : decode cX0_divide 4 = .ok (.iload_n 2, 1) := by decide +kernel
theorem dX0_divide_5 : decode cX0_divide 5 = .ok (.iconst 1, 1) := by decide +kernel
theorem dX0_divide_6 : decode cX0_divide 6 = .ok (.isub, 1) := by decide +kernel
theorem dX0_divide_7 : decode cX0_divide 7 = .ok (.invokestatic 53, 3) := by decide +kernel
theorem dX0_divide_10 : decode cX0_divide 10 = .ok (.bipush 6, 2) := by decide +kernel
theorem dX0_divide_12 : decode cX0_divide 12 = .ok (.if_icmp .ne 7, 3) := by decide +kernel
theorem dX0_divide_15 : decode cX0_divide 15 = .ok (.iconst 1, 1) := by decide +kernel
theorem dX0_divide_16 : decode cX0_divide 16 = .ok (.goto 4, 3) := by decide +kernel
theorem dX0_divide_19 : decode cX0_divide 19 = .ok (.iconst 0, 1) := by decide +kernel
theorem dX0_divide_20 : decode cX0_divide 20 = .ok (.istore_n 3, 1) := by decide +kernel
theorem dX0_divide_21 : decode cX0_divide 21 = .ok (.iload_n 3, 1) := by decide +kernel
theorem dX0_divide_22 : decode cX0_divide 22 = .ok (.ifCond .eq 16, 3) := by decide +kernel
theorem dX0_divide_25 : decode cX0_divide 25 = .ok (.aload_n 0, 1) := by decide +kernel
theorem dX0_divide_26 : decode cX0_divide 26 = .ok (.getfield 22, 3) := by decide +kernel
theorem dX0_divide_29 : decode cX0_divide 29 = .ok (.iload_n 2, 1) := by decide +kernel
theorem dX0_divide_30 : decode cX0_divide 30 = .ok (.iconst 1, 1) := by decide +kernel
theorem dX0_divide_31 : decode cX0_divide 31 = .ok (.isub, 1) := by decide +kernel
theorem dX0_divide_32 : decode cX0_divide 32 = .ok (.invokestatic 53, 3) := by decide +kernel
theorem dX0_divide_35 : decode cX0_divide 35 = .ok (.goto 11, 3) := by decide +kernel
theorem dX0_divide_38 : decode cX0_divide 38 = .ok (.aload_n 0, 1) := by decide +kernel
theorem dX0_divide_39 : decode cX0_divide 39 = .ok (.iload_n 1, 1) := by decide +kernel
theorem dX0_divide_40 : decode cX0_divide 40 = .ok (.invokevirtual 85, 3) := by decide +kernel
theorem dX0_divide_43 : decode cX0_divide 43 = .ok (.invokestatic 88, 3) := by decide +kernel
theorem dX0_divide_46 : decode cX0_divide 46 = .ok (.istore 4, 2) := by decide +kernel
theorem dX0_divide_48 : decode cX0_divide 48 = .ok (.aload_n 0, 1) := by decide +kernel
theorem dX0_divide_49 : decode cX0_divide 49 = .ok (.iload_n 1, 1) := by decide +kernel
theorem dX0_divide_50 : decode cX0_divide 50 = .ok (.iconst 1, 1) := by decide +kernel
theorem dX0_divide_51 : decode cX0_divide 51 = .ok (.iadd, 1) := by decide +kernel
theorem dX0_divide_52 : decode cX0_divide 52 = .ok (.invokevirtual 85, 3) := by decide +kernel
theorem dX0_divide_55 : decode cX0_divide 55 = .ok (.i2l, 1) := by decide +kernel
theorem dX0_divide_56 : decode cX0_divide 56 = .ok (.aload_n 0, 1) := by decide +kernel
theorem dX0_divide_57 : decode cX0_divide 57 = .ok (.iload_n 1, 1) := by decide +kernel
theorem dX0_divide_58 : decode cX0_divide 58 = .ok (.iconst 1, 1) := by decide +kernel
theorem dX0_divide_59 : decode cX0_divide 59 = .ok (.isub, 1) := by decide +kernel
theorem dX0_divide_60 : decode cX0_divide 60 = .ok (.invokevirtual 85, 3) := by decide +kernel
theorem dX0_divide_63 : decode cX0_divide 63 = .ok (.i2l, 1) := by decide +kernel
theorem dX0_divide_64 : decode cX0_divide 64 = .ok (.lsub, 1) := by decide +kernel
theorem dX0_divide_65 : decode cX0_divide 65 = .ok (.lstore 5, 2) := by decide +kernel
theorem dX0_divide_67 : decode cX0_divide 67 = .ok (.lload 5, 2) := by decide +kernel
theorem dX0_divide_69 : decode cX0_divide 69 = .ok (.ldc2_w 91, 3) := by decide +kernel
theorem dX0_divide_72 : decode cX0_divide 72 = .ok (.invokestatic 93, 3) := by decide +kernel
theorem dX0_divide_75 : decode cX0_divide 75 = .ok (.sipush 9999, 3) := by decide +kernel
theorem dX0_divide_78 : decode cX0_divide 78 = .ok (.invokestatic 81, 3) := by decide +kernel
theorem dX0_divide_81 : decode cX0_divide 81 = .ok (.istore 7, 2) := by decide +kernel
theorem dX0_divide_83 : decode cX0_divide 83 = .ok (.aload_n 0, 1) := by decide +kernel
theorem dX0_divide_84 : decode cX0_divide 84 = .ok (.iload_n 2, 1) := by decide +kernel
theorem dX0_divide_85 : decode cX0_divide 85 = .ok (.iconst 1, 1) := by decide +kernel
theorem dX0_divide_86 : decode cX0_divide 86 = .ok (.isub, 1) := by decide +kernel
theorem dX0_divide_87 : decode cX0_divide 87 = .ok (.invokevirtual 97, 3) := by decide +kernel
theorem dX0_divide_90 : decode cX0_divide 90 = .ok (.aload_n 0, 1) := by decide +kernel
theorem dX0_divide_91 : decode cX0_divide 91 = .ok (.iload_n 2, 1) := by decide +kernel
theorem dX0_divide_92 : decode cX0_divide 92 = .ok (.invokevirtual 97, 3) := by decide +kernel
theorem dX0_divide_95 : decode cX0_divide 95 = .ok (.aload_n 0, 1) := by decide +kernel
theorem dX0_divide_96 : decode cX0_divide 96 = .ok (.iload_n 1, 1) := by decide +kernel
theorem dX0_divide_97 : decode cX0_divide 97 = .ok (.iload 4, 2) := by decide +kernel
theorem dX0_divide_99 : decode cX0_divide 99 = .ok (.iload_n 3, 1) := by decide +kernel
theorem dX0_divide_100 : decode cX0_divide 100 = .ok (.ifCond .eq 8, 3) := by decide +kernel
theorem dX0_divide_103 : decode cX0_divide 103 = .ok (.bipush 6, 2) := by decide +kernel
theorem dX0_divide_105 : decode cX0_divide 105 = .ok (.goto 4, 3) := by decide +kernel
theorem dX0_divide_108 : decode cX0_divide 108 = .ok (.iconst 0, 1) := by decide +kernel
theorem dX0_divide_109 : decode cX0_divide 109 = .ok (.iload 7, 2) := by decide +kernel
theorem dX0_divide_111 : decode cX0_divide 111 = .ok (.iload 7, 2) := by decide +kernel
theorem dX0_divide_113 : decode cX0_divide 113 = .ok (.invokevirtual 73, 3) := by decide +kernel
theorem dX0_divide_116 : decode cX0_divide 116 = .ok (.ireturn, 1) := by decide +kernel
theorem dX0_freeUnlessHold_0 : decode cX0_freeUnlessHold 0 = .ok (.aload_n 0, 1) := by decide +kernel
theorem dX0_freeUnlessHold_1 : decode cX0_freeUnlessHold 1 = .ok (.getfield 25, 3) := by decide +kernel
theorem dX0_freeUnlessHold_4 : decode cX0_freeUnlessHold 4 = .ok (.iload_n 1, 1) := by decide +kernel
theorem dX0_freeUnlessHold_5 : decode cX0_freeUnlessHold 5 = .ok (.invokestatic 53, 3) := by decide +kernel
theorem dX0_freeUnlessHold_8 : decode cX0_freeUnlessHold 8 = .ok (.bipush 6, 2) := by decide +kernel
theorem dX0_freeUnlessHold_10 : decode cX0_freeUnlessHold 10 = .ok (.if_icmp .eq 9, 3) := by decide +kernel
theorem dX0_freeUnlessHold_13 : decode cX0_freeUnlessHold 13 = .ok (.aload_n 0, 1) := by decide +kernel
theorem dX0_freeUnlessHold_14 : decode cX0_freeUnlessHold 14 = .ok (.iload_n 1, 1) := by decide +kernel
theorem dX0_freeUnlessHold_15 : decode cX0_freeUnlessHold 15 = .ok (.iconst 0, 1) := by decide +kernel
theorem dX0_freeUnlessHold_16 : decode cX0_freeUnlessHold 16 = .ok (.invokevirtual 100, 3) := by decide +kernel
theorem dX0_freeUnlessHold_19 : decode cX0_freeUnlessHold 19 = .ok (.return_, 1) := by decide +kernel
theorem dX0_retimeKeys_0 : decode cX0_retimeKeys 0 = .ok (.iconst 0, 1) := by decide +kernel
theorem dX0_retimeKeys_1 : decode cX0_retimeKeys 1 = .ok (.istore_n 3, 1) := by decide +kernel
theorem dX0_retimeKeys_2 : decode cX0_retimeKeys 2 = .ok (.iload_n 3, 1) := by decide +kernel
theorem dX0_retimeKeys_3 : decode cX0_retimeKeys 3 = .ok (.aload_n 0, 1) := by decide +kernel
theorem dX0_retimeKeys_4 : decode cX0_retimeKeys 4 = .ok (.getfield 38, 3) := by decide +kernel
theorem dX0_retimeKeys_7 : decode cX0_retimeKeys 7 = .ok (.if_icmp .ge 89, 3) := by decide +kernel
theorem dX0_retimeKeys_10 : decode cX0_retimeKeys 10 = .ok (.aload_n 0, 1) := by decide +kernel
theorem dX0_retimeKeys_11 : decode cX0_retimeKeys 11 = .ok (.getfield 18, 3) := by decide +kernel
theorem dX0_retimeKeys_14 : decode cX0_retimeKeys 14 = .ok (.iload_n 3, 1) := by decide +kernel
theorem dX0_retimeKeys_15 : decode cX0_retimeKeys 15 = .ok (.invokestatic 53, 3) := by decide +kernel
theorem dX0_retimeKeys_18 : decode cX0_retimeKeys 18 = .ok (.istore 4, 2) := by decide +kernel
theorem dX0_retimeKeys_20 : decode cX0_retimeKeys 20 = .ok (.aload_n 0, 1) := by decide +kernel
theorem dX0_retimeKeys_21 : decode cX0_retimeKeys 21 = .ok (.getfield 25, 3) := by decide +kernel
theorem dX0_retimeKeys_24 : decode cX0_retimeKeys 24 = .ok (.iload_n 3, 1) := by decide +kernel
theorem dX0_retimeKeys_25 : decode cX0_retimeKeys 25 = .ok (.invokestatic 53, 3) := by decide +kernel
theorem dX0_retimeKeys_28 : decode cX0_retimeKeys 28 = .ok (.ifCond .ne 49, 3) := by decide +kernel
theorem dX0_retimeKeys_31 : decode cX0_retimeKeys 31 = .ok (.aload_n 0, 1) := by decide +kernel
theorem dX0_retimeKeys_32 : decode cX0_retimeKeys 32 = .ok (.getfield 28, 3) := by decide +kernel
theorem dX0_retimeKeys_35 : decode cX0_retimeKeys 35 = .ok (.iload_n 3, 1) := by decide +kernel
theorem dX0_retimeKeys_36 : decode cX0_retimeKeys 36 = .ok (.aload_n 1, 1) := by decide +kernel
theorem dX0_retimeKeys_37 : decode cX0_retimeKeys 37 = .ok (.aload_n 0, 1) := by decide +kernel
theorem dX0_retimeKeys_38 : decode cX0_retimeKeys 38 = .ok (.getfield 28, 3) := by decide +kernel
theorem dX0_retimeKeys_41 : decode cX0_retimeKeys 41 = .ok (.iload_n 3, 1) := by decide +kernel
theorem dX0_retimeKeys_42 : decode cX0_retimeKeys 42 = .ok (.invokestatic 53, 3) := by decide +kernel
theorem dX0_retimeKeys_45 : decode cX0_retimeKeys 45 = .ok (.iload 4, 2) := by decide +kernel
theorem dX0_retimeKeys_47 : decode cX0_retimeKeys 47 = .ok (.iconst 0, 1) := by decide +kernel
theorem dX0_retimeKeys_48 : decode cX0_retimeKeys 48 = .ok (.invokevirtual 103, 3) := by decide +kernel
theorem dX0_retimeKeys_51 : decode cX0_retimeKeys 51 = .ok (.invokestatic 61, 3) := by decide +kernel
theorem dX0_retimeKeys_54 : decode cX0_retimeKeys 54 = .ok (.aload_n 0, 1) := by decide +kernel
theorem dX0_retimeKeys_55 : decode cX0_retimeKeys 55 = .ok (.getfield 31, 3) := by decide +kernel
theorem dX0_retimeKeys_58 : decode cX0_retimeKeys 58 = .ok (.iload_n 3, 1) := by decide +kernel
theorem dX0_retimeKeys_59 : decode cX0_retimeKeys 59 = .ok (.aload_n 1, 1) := by decide +kernel
theorem dX0_retimeKeys_60 : decode cX0_retimeKeys 60 = .ok (.aload_n 0, 1) := by decide +kernel
theorem dX0_retimeKeys_61 : decode cX0_retimeKeys 61 = .ok (.getfield 31, 3) := by decide +kernel
theorem dX0_retimeKeys_64 : decode cX0_retimeKeys 64 = .ok (.iload_n 3, 1) := by decide +kernel
theorem dX0_retimeKeys_65 : decode cX0_retimeKeys 65 = .ok (.invokestatic 53, 3) := by decide +kernel
theorem dX0_retimeKeys_68 : decode cX0_retimeKeys 68 = .ok (.iload 4, 2) := by decide +kernel
theorem dX0_retimeKeys_70 : decode cX0_retimeKeys 70 = .ok (.iconst 1, 1) := by decide +kernel
theorem dX0_retimeKeys_71 : decode cX0_retimeKeys 71 = .ok (.invokevirtual 103, 3) := by decide +kernel
theorem dX0_retimeKeys_74 : decode cX0_retimeKeys 74 = .ok (.invokestatic 61, 3) := by decide +kernel
theorem dX0_retimeKeys_77 : decode cX0_retimeKeys 77 = .ok (.aload_n 0, 1) := by decide +kernel
theorem dX0_retimeKeys_78 : decode cX0_retimeKeys 78 = .ok (.getfield 18, 3) := by decide +kernel
theorem dX0_retimeKeys_81 : decode cX0_retimeKeys 81 = .ok (.iload_n 3, 1) := by decide +kernel
theorem dX0_retimeKeys_82 : decode cX0_retimeKeys 82 = .ok (.aload_n 2, 1) := by decide +kernel
theorem dX0_retimeKeys_83 : decode cX0_retimeKeys 83 = .ok (.iload_n 3, 1) := by decide +kernel
theorem dX0_retimeKeys_84 : decode cX0_retimeKeys 84 = .ok (.invokestatic 53, 3) := by decide +kernel
theorem dX0_retimeKeys_87 : decode cX0_retimeKeys 87 = .ok (.invokestatic 61, 3) := by decide +kernel
theorem dX0_retimeKeys_90 : decode cX0_retimeKeys 90 = .ok (.iinc 3 1, 3) := by decide +kernel
theorem dX0_retimeKeys_93 : decode cX0_retimeKeys 93 = .ok (.goto (-91), 3) := by decide +kernel
theorem dX0_retimeKeys_96 : decode cX0_retimeKeys 96 = .ok (.return_, 1) := by decide +kernel
theorem dX0_tangent_0 : decode cX0_tangent 0 = .ok (.aload_n 0, 1) := by decide +kernel
theorem dX0_tangent_1 : decode cX0_tangent 1 = .ok (.getfield 25, 3) := by decide +kernel
theorem dX0_tangent_4 : decode cX0_tangent 4 = .ok (.iload_n 1, 1) := by decide +kernel
theorem dX0_tangent_5 : decode cX0_tangent 5 = .ok (.invokestatic 53, 3) := by decide +kernel
theorem dX0_tangent_8 : decode cX0_tangent 8 = .ok (.istore_n 3, 1) := by decide +kernel
theorem dX0_tangent_9 : decode cX0_tangent 9 = .ok (.iload_n 3, 1) := by decide +kernel
theorem dX0_tangent_10 : decode cX0_tangent 10 = .ok (.ifCond .ne 23, 3) := by decide +kernel
theorem dX0_tangent_13 : decode cX0_tangent 13 = .ok (.iload_n 2, 1) := by decide +kernel
theorem dX0_tangent_14 : decode cX0_tangent 14 = .ok (.ifCond .eq 10, 3) := by decide +kernel
theorem dX0_tangent_17 : decode cX0_tangent 17 = .ok (.aload_n 0, 1) := by decide +kernel
theorem dX0_tangent_18 : decode cX0_tangent 18 = .ok (.getfield 31, 3) := by decide +kernel
theorem dX0_tangent_21 : decode cX0_tangent 21 = .ok (.goto 7, 3) := by decide +kernel
theorem dX0_tangent_24 : decode cX0_tangent 24 = .ok (.aload_n 0, 1) := by decide +kernel
theorem dX0_tangent_25 : decode cX0_tangent 25 = .ok (.getfield 28, 3) := by decide +kernel
theorem dX0_tangent_28 : decode cX0_tangent 28 = .ok (.iload_n 1, 1) := by decide +kernel
theorem dX0_tangent_29 : decode cX0_tangent 29 = .ok (.invokestatic 53, 3) := by decide +kernel
theorem dX0_tangent_32 : decode cX0_tangent 32 = .ok (.ireturn, 1) := by decide +kernel
theorem dX0_tangent_33 : decode cX0_tangent 33 = .ok (.aload_n 0, 1) := by decide +kernel
theorem dX0_tangent_34 : decode cX0_tangent 34 = .ok (.getfield 38, 3) := by decide +kernel
theorem dX0_tangent_37 : decode cX0_tangent 37 = .ok (.iconst 2, 1) := by decide +kernel
theorem dX0_tangent_38 : decode cX0_tangent 38 = .ok (.if_icmp .lt 14, 3) := by decide +kernel
theorem dX0_tangent_41 : decode cX0_tangent 41 = .ok (.iload_n 3, 1) := by decide +kernel
theorem dX0_tangent_42 : decode cX0_tangent 42 = .ok (.iconst 1, 1) := by decide +kernel
theorem dX0_tangent_43 : decode cX0_tangent 43 = .ok (.if_icmp .eq 9, 3) := by decide +kernel
theorem dX0_tangent_46 : decode cX0_tangent 46 = .ok (.iload_n 3, 1) := by decide +kernel
theorem dX0_tangent_47 : decode cX0_tangent 47 = .ok (.bipush 6, 2) := by decide +kernel
theorem dX0_tangent_49 : decode cX0_tangent 49 = .ok (.if_icmp .ne 5, 3) := by decide +kernel
theorem dX0_tangent_52 : decode cX0_tangent 52 = .ok (.iconst 0, 1) := by decide +kernel
theorem dX0_tangent_53 : decode cX0_tangent 53 = .ok (.ireturn, 1) := by decide +kernel
theorem dX0_tangent_54 : decode cX0_tangent 54 = .ok (.iload_n 1, 1) := by decide +kernel
theorem dX0_tangent_55 : decode cX0_tangent 55 = .ok (.ifCond .ne 7, 3) := by decide +kernel
theorem dX0_tangent_58 : decode cX0_tangent 58 = .ok (.iconst 1, 1) := by decide +kernel
theorem dX0_tangent_59 : decode cX0_tangent 59 = .ok (.goto 4, 3) := by decide +kernel
theorem dX0_tangent_62 : decode cX0_tangent 62 = .ok (.iconst 0, 1) := by decide +kernel
theorem dX0_tangent_63 : decode cX0_tangent 63 = .ok (.istore 4, 2) := by decide +kernel
theorem dX0_tangent_65 : decode cX0_tangent 65 = .ok (.iload_n 1, 1) := by decide +kernel
theorem dX0_tangent_66 : decode cX0_tangent 66 = .ok (.aload_n 0, 1) := by decide +kernel
theorem dX0_tangent_67 : decode cX0_tangent 67 = .ok (.getfield 38, 3) := by decide +kernel
theorem dX0_tangent_70 : decode cX0_tangent 70 = .ok (.iconst 1, 1) := by decide +kernel
theorem dX0_tangent_71 : decode cX0_tangent 71 = .ok (.isub, 1) := by decide +kernel
theorem dX0_tangent_72 : decode cX0_tangent 72 = .ok (.if_icmp .ne 7, 3) := by decide +kernel
theorem dX0_tangent_75 : decode cX0_tangent 75 = .ok (.iconst 1, 1) := by decide +kernel
theorem dX0_tangent_76 : decode cX0_tangent 76 = .ok (.goto 4, 3) := by decide +kernel
theorem dX0_tangent_79 : decode cX0_tangent 79 = .ok (.iconst 0, 1) := by decide +kernel
theorem dX0_tangent_80 : decode cX0_tangent 80 = .ok (.istore 5, 2) := by decide +kernel
theorem dX0_tangent_82 : decode cX0_tangent 82 = .ok (.iload_n 3, 1) := by decide +kernel
theorem dX0_tangent_83 : decode cX0_tangent 83 = .ok (.iconst 2, 1) := by decide +kernel
theorem dX0_tangent_84 : decode cX0_tangent 84 = .ok (.if_icmp .ne 37, 3) := by decide +kernel
theorem dX0_tangent_87 : decode cX0_tangent 87 = .ok (.iload 4, 2) := by decide +kernel
theorem dX0_tangent_89 : decode cX0_tangent 89 = .ok (.ifCond .ne 12, 3) := by decide +kernel
theorem dX0_tangent_92 : decode cX0_tangent 92 = .ok (.iload_n 2, 1) := by decide +kernel
theorem dX0_tangent_93 : decode cX0_tangent 93 = .ok (.ifCond .eq 19, 3) := by decide +kernel
theorem dX0_tangent_96 : decode cX0_tangent 96 = .ok (.iload 5, 2) := by decide +kernel
theorem dX0_tangent_98 : decode cX0_tangent 98 = .ok (.ifCond .ne 14, 3) := by decide +kernel
theorem dX0_tangent_101 : decode cX0_tangent 101 = .ok (.aload_n 0, 1) := by decide +kernel
theorem dX0_tangent_102 : decode cX0_tangent 102 = .ok (.iload_n 1, 1) := by decide +kernel
theorem dX0_tangent_103 : decode cX0_tangent 103 = .ok (.iload_n 1, 1) := by decide +kernel
theorem dX0_tangent_104 : decode cX0_tangent 104 = .ok (.iconst 1, 1) := by decide +kernel
theorem dX0_tangent_105 : decode cX0_tangent 105 = .ok (.iadd, 1) := by decide +kernel
theorem dX0_tangent_106 : decode cX0_tangent 106 = .ok (.invokevirtual 109, 3) := by decide +kernel
theorem dX0_tangent_109 : decode cX0_tangent 109 = .ok (.goto 11, 3) := by decide +kernel
theorem dX0_tangent_112 : decode cX0_tangent 112 = .ok (.aload_n 0, 1) := by decide +kernel
theorem dX0_tangent_113 : decode cX0_tangent 113 = .ok (.iload_n 1, 1) := by decide +kernel
theorem dX0_tangent_114 : decode cX0_tangent 114 = .ok (.iconst 1, 1) := by decide +kernel
theorem dX0_tangent_115 : decode cX0_tangent 115 = .ok (.isub, 1) := by decide +kernel
theorem dX0_tangent_116 : decode cX0_tangent 116 = .ok (.iload_n 1, 1) := by decide +kernel
theorem dX0_tangent_117 : decode cX0_tangent 117 = .ok (.invokevirtual 109, 3) := by decide +kernel
theorem dX0_tangent_120 : decode cX0_tangent 120 = .ok (.ireturn, 1) := by decide +kernel
theorem dX0_tangent_121 : decode cX0_tangent 121 = .ok (.aload_n 0, 1) := by decide +kernel
theorem dX0_tangent_122 : decode cX0_tangent 122 = .ok (.iload 4, 2) := by decide +kernel
theorem dX0_tangent_124 : decode cX0_tangent 124 = .ok (.ifCond .eq 7, 3) := by decide +kernel
theorem dX0_tangent_127 : decode cX0_tangent 127 = .ok (.iload_n 1, 1) := by decide +kernel
theorem dX0_tangent_128 : decode cX0_tangent 128 = .ok (.goto 6, 3) := by decide +kernel
theorem dX0_tangent_131 : decode cX0_tangent 131 = .ok (.iload_n 1, 1) := by decide +kernel
theorem dX0_tangent_132 : decode cX0_tangent 132 = .ok (.iconst 1, 1) := by decide +kernel
theorem dX0_tangent_133 : decode cX0_tangent 133 = .ok (.isub, 1) := by decide +kernel
theorem dX0_tangent_134 : decode cX0_tangent 134 = .ok (.iload 5, 2) := by decide +kernel
theorem dX0_tangent_136 : decode cX0_tangent 136 = .ok (.ifCond .eq 7, 3) := by decide +kernel
theorem dX0_tangent_139 : decode cX0_tangent 139 = .ok (.iload_n 1, 1) := by decide +kernel
theorem dX0_tangent_140 : decode cX0_tangent 140 = .ok (.goto 6, 3) := by decide +kernel
theorem dX0_tangent_143 : decode cX0_tangent 143 = .ok (.iload_n 1, 1) := by decide +kernel
theorem dX0_tangent_144 : decode cX0_tangent 144 = .ok (.iconst 1, 1) := by decide +kernel
theorem dX0_tangent_145 : decode cX0_tangent 145 = .ok (.iadd, 1) := by decide +kernel
theorem dX0_tangent_146 : decode cX0_tangent 146 = .ok (.invokevirtual 109, 3) := by decide +kernel
theorem dX0_tangent_149 : decode cX0_tangent 149 = .ok (.istore 6, 2) := by decide +kernel
theorem dX0_tangent_151 : decode cX0_tangent 151 = .ok (.iload_n 3, 1) := by decide +kernel
theorem dX0_tangent_152 : decode cX0_tangent 152 = .ok (.iconst 3, 1) := by decide +kernel
theorem dX0_tangent_153 : decode cX0_tangent 153 = .ok (.if_icmp .ne 6, 3) := by decide +kernel
theorem dX0_tangent_156 : decode cX0_tangent 156 = .ok (.iload 6, 2) := by decide +kernel
theorem dX0_tangent_158 : decode cX0_tangent 158 = .ok (.ireturn, 1) := by decide +kernel
theorem dX0_tangent_159 : decode cX0_tangent 159 = .ok (.iload 4, 2) := by decide +kernel
theorem dX0_tangent_161 : decode cX0_tangent 161 = .ok (.ifCond .ne 8, 3) := by decide +kernel
theorem dX0_tangent_164 : decode cX0_tangent 164 = .ok (.iload 5, 2) := by decide +kernel
theorem dX0_tangent_166 : decode cX0_tangent 166 = .ok (.ifCond .eq 5, 3) := by decide +kernel
theorem dX0_tangent_169 : decode cX0_tangent 169 = .ok (.iconst 0, 1) := by decide +kernel
theorem dX0_tangent_170 : decode cX0_tangent 170 = .ok (.ireturn, 1) := by decide +kernel
theorem dX0_tangent_171 : decode cX0_tangent 171 = .ok (.iload_n 3, 1) := by decide +kernel
theorem dX0_tangent_172 : decode cX0_tangent 172 = .ok (.iconst 4, 1) := by decide +kernel
theorem dX0_tangent_173 : decode cX0_tangent 173 = .ok (.if_icmp .ne 18, 3) := by decide +kernel
theorem dX0_tangent_176 : decode cX0_tangent 176 = .ok (.aload_n 0, 1) := by decide +kernel
theorem dX0_tangent_177 : decode cX0_tangent 177 = .ok (.iload_n 1, 1) := by decide +kernel
theorem dX0_tangent_178 : decode cX0_tangent 178 = .ok (.invokevirtual 113, 3) := by decide +kernel
theorem dX0_tangent_181 : decode cX0_tangent 181 = .ok (.ifCond .eq 8, 3) := by decide +kernel
theorem dX0_tangent_184 : decode cX0_tangent 184 = .ok (.iload 6, 2) := by decide +kernel
theorem dX0_tangent_186 : decode cX0_tangent 186 = .ok (.goto 4, 3) := by decide +kernel
theorem dX0_tangent_189 : decode cX0_tangent 189 = .ok (.iconst 0, 1) := by decide +kernel
theorem dX0_tangent_190 : decode cX0_tangent 190 = .ok (.ireturn, 1) := by decide +kernel
theorem dX0_tangent_191 : decode cX0_tangent 191 = .ok (.iload 6, 2) := by decide +kernel
theorem dX0_tangent_193 : decode cX0_tangent 193 = .ok (.aload_n 0, 1) := by decide +kernel
theorem dX0_tangent_194 : decode cX0_tangent 194 = .ok (.iload_n 1, 1) := by decide +kernel
theorem dX0_tangent_195 : decode cX0_tangent 195 = .ok (.iconst 1, 1) := by decide +kernel
theorem dX0_tangent_196 : decode cX0_tangent 196 = .ok (.isub, 1) := by decide +kernel
theorem dX0_tangent_197 : decode cX0_tangent 197 = .ok (.iload_n 1, 1) := by decide +kernel
theorem dX0_tangent_198 : decode cX0_tangent 198 = .ok (.invokevirtual 109, 3) := by decide +kernel
theorem dX0_tangent_201 : decode cX0_tangent 201 = .ok (.aload_n 0, 1) := by decide +kernel
theorem dX0_tangent_202 : decode cX0_tangent 202 = .ok (.iload_n 1, 1) := by decide +kernel
theorem dX0_tangent_203 : decode cX0_tangent 203 = .ok (.iload_n 1, 1) := by decide +kernel
theorem dX0_tangent_204 : decode cX0_tangent 204 = .ok (.iconst 1, 1) := by decide +kernel
theorem dX0_tangent_205 : decode cX0_tangent 205 = .ok (.iadd, 1) := by decide +kernel
theorem dX0_tangent_206 : decode cX0_tangent 206 = .ok (.invokevirtual 109, 3) := by decide +kernel
theorem dX0_tangent_209 : decode cX0_tangent 209 = .ok (.invokestatic 116, 3) := by decide +kernel
theorem dX0_tangent_212 : decode cX0_tangent 212 = .ok (.ireturn, 1) := by decide +kernel
theorem dX0_secant_0 : decode cX0_secant 0 = .ok (.aload_n 0, 1) := by decide +kernel
theorem dX0_secant_1 : decode cX0_secant 1 = .ok (.getfield 22, 3) := by decide +kernel
theorem dX0_secant_4 : decode cX0_secant 4 = .ok (.iload_n 2, 1) := by decide +kernel
theorem dX0_secant_5 : decode cX0_secant 5 = .ok (.invokestatic 53, 3) := by decide +kernel
theorem dX0_secant_8 : decode cX0_secant 8 = .ok (.i2l, 1) := by decide +kernel
theorem dX0_secant_9 : decode cX0_secant 9 = .ok (.aload_n 0, 1) := by decide +kernel
theorem dX0_secant_10 : decode cX0_secant 10 = .ok (.getfield 22, 3) := by decide +kernel
theorem dX0_secant_13 : decode cX0_secant 13 = .ok (.iload_n 1, 1) := by decide +kernel
theorem dX0_secant_14 : decode cX0_secant 14 = .ok (.invokestatic 53, 3) := by decide +kernel
theorem dX0_secant_17 : decode cX0_secant 17 = .ok (.i2l, 1) := by decide +kernel
theorem dX0_secant_18 : decode cX0_secant 18 = .ok (.lsub, 1) := by decide +kernel
theorem dX0_secant_19 : decode cX0_secant 19 = .ok (.lstore_n 3, 1) := by decide +kernel
theorem dX0_secant_20 : decode cX0_secant 20 = .ok (.ldc2_w 119, 3) := by decide +kernel
theorem dX0_secant_23 : decode cX0_secant 23 = .ok (.lload_n 3, 1) := by decide +kernel
theorem dX0_secant_24 : decode cX0_secant 24 = .ok (.lmul, 1) := by decide +kernel
theorem dX0_secant_25 : decode cX0_secant 25 = .ok (.aload_n 0, 1) := by decide +kernel
theorem dX0_secant_26 : decode cX0_secant 26 = .ok (.getfield 18, 3) := by decide +kernel
theorem dX0_secant_29 : decode cX0_secant 29 = .ok (.iload_n 2, 1) := by decide +kernel
theorem dX0_secant_30 : decode cX0_secant 30 = .ok (.invokestatic 53, 3) := by decide +kernel
theorem dX0_secant_33 : decode cX0_secant 33 = .ok (.aload_n 0, 1) := by decide +kernel
theorem dX0_secant_34 : decode cX0_secant 34 = .ok (.getfield 18, 3) := by decide +kernel
theorem dX0_secant_37 : decode cX0_secant 37 = .ok (.iload_n 1, 1) := by decide +kernel
theorem dX0_secant_38 : decode cX0_secant 38 = .ok (.invokestatic 53, 3) := by decide +kernel
theorem dX0_secant_41 : decode cX0_secant 41 = .ok (.isub, 1) := by decide +kernel
theorem dX0_secant_42 : decode cX0_secant 42 = .ok (.i2l, 1) := by decide +kernel
theorem dX0_secant_43 : decode cX0_secant 43 = .ok (.invokestatic 93, 3) := by decide +kernel
theorem dX0_secant_46 : decode cX0_secant 46 = .ok (.l2i, 1) := by decide +kernel
theorem dX0_secant_47 : decode cX0_secant 47 = .ok (.ireturn, 1) := by decide +kernel
theorem dX0_isBetweenNeighbors_0 : decode cX0_isBetweenNeighbors 0 = .ok (.aload_n 0, 1) := by decide +kernel
theorem dX0_isBetweenNeighbors_1 : decode cX0_isBetweenNeighbors 1 = .ok (.getfield 22, 3) := by decide +kernel
theorem dX0_isBetweenNeighbors_4 : decode cX0_isBetweenNeighbors 4 = .ok (.iload_n 1, 1) := by decide +kernel
theorem dX0_isBetweenNeighbors_5 : decode cX0_isBetweenNeighbors 5 = .ok (.invokestatic 53, 3) := by decide +kernel
theorem dX0_isBetweenNeighbors_8 : decode cX0_isBetweenNeighbors 8 = .ok (.istore_n 2, 1) := by decide +kernel
theorem dX0_isBetweenNeighbors_9 : decode cX0_isBetweenNeighbors 9 = .ok (.aload_n 0, 1) := by decide +kernel
theorem dX0_isBetweenNeighbors_10 : decode cX0_isBetweenNeighbors 10 = .ok (.getfield 22, 3) := by decide +kernel
theorem dX0_isBetweenNeighbors_13 : decode cX0_isBetweenNeighbors 13 = .ok (.iload_n 1, 1) := by decide +kernel
theorem dX0_isBetweenNeighbors_14 : decode cX0_isBetweenNeighbors 14 = .ok (.iconst 1, 1) := by decide +kernel
theorem dX0_isBetweenNeighbors_15 : decode cX0_isBetweenNeighbors 15 = .ok (.isub, 1) := by decide +kernel
theorem dX0_isBetweenNeighbors_16 : decode cX0_isBetweenNeighbors 16 = .ok (.invokestatic 53, 3) := by decide +kernel
theorem dX0_isBetweenNeighbors_19 : decode cX0_isBetweenNeighbors 19 = .ok (.istore_n 3, 1) := by decide +kernel
theorem dX0_isBetweenNeighbors_20 : decode cX0_isBetweenNeighbors 20 = .ok (.aload_n 0, 1) := by decide +kernel
theorem dX0_isBetweenNeighbors_21 : decode cX0_isBetweenNeighbors 21 = .ok (.getfield 22, 3) := by decide +kernel
theorem dX0_isBetweenNeighbors_24 : decode cX0_isBetweenNeighbors 24 = .ok (.iload_n 1, 1) := by decide +kernel
theorem dX0_isBetweenNeighbors_25 : decode cX0_isBetweenNeighbors 25 = .ok (.iconst 1, 1) := by decide +kernel
theorem dX0_isBetweenNeighbors_26 : decode cX0_isBetweenNeighbors 26 = .ok (.iadd, 1) := by decide +kernel
theorem dX0_isBetweenNeighbors_27 : decode cX0_isBetweenNeighbors 27 = .ok (.invokestatic 53, 3) := by decide +kernel
theorem dX0_isBetweenNeighbors_30 : decode cX0_isBetweenNeighbors 30 = .ok (.istore 4, 2) := by decide +kernel
theorem dX0_isBetweenNeighbors_32 : decode cX0_isBetweenNeighbors 32 = .ok (.iload_n 2, 1) := by decide +kernel
theorem dX0_isBetweenNeighbors_33 : decode cX0_isBetweenNeighbors 33 = .ok (.iload_n 3, 1) := by decide +kernel
theorem dX0_isBetweenNeighbors_34 : decode cX0_isBetweenNeighbors 34 = .ok (.iload 4, 2) := by decide +kernel
theorem dX0_isBetweenNeighbors_36 : decode cX0_isBetweenNeighbors 36 = .ok (.invokestatic 121, 3) := by decide +kernel
theorem dX0_isBetweenNeighbors_39 : decode cX0_isBetweenNeighbors 39 = .ok (.if_icmp .le 17, 3) := by decide +kernel
theorem dX0_isBetweenNeighbors_42 : decode cX0_isBetweenNeighbors 42 = .ok (.iload_n 2, 1) := by decide +kernel
theorem dX0_isBetweenNeighbors_43 : decode cX0_isBetweenNeighbors 43 = .ok (.iload_n 3, 1) := by decide +kernel
theorem dX0_isBetweenNeighbors_44 : decode cX0_isBetweenNeighbors 44 = .ok (.iload 4, 2) := by decide +kernel
theorem dX0_isBetweenNeighbors_46 : decode cX0_isBetweenNeighbors 46 = .ok (.invokestatic 126, 3) := by decide +kernel
theorem dX0_isBetweenNeighbors_49 : decode cX0_isBetweenNeighbors 49 = .ok (.if_icmp .ge 7, 3) := by decide +kernel
theorem dX0_isBetweenNeighbors_52 : decode cX0_isBetweenNeighbors 52 = .ok (.iconst 1, 1) := by decide +kernel
theorem dX0_isBetweenNeighbors_53 : decode cX0_isBetweenNeighbors 53 = .ok (.goto 4, 3) := by decide +kernel
theorem dX0_isBetweenNeighbors_56 : decode cX0_isBetweenNeighbors 56 = .ok (.iconst 0, 1) := by decide +kernel
theorem dX0_isBetweenNeighbors_57 : decode cX0_isBetweenNeighbors 57 = .ok (.ireturn, 1) := by decide +kernel
theorem dX0_monotone_0 : decode cX0_monotone 0 = .ok (.iload_n 1, 1) := by decide +kernel
theorem dX0_monotone_1 : decode cX0_monotone 1 = .ok (.ifCond .le 7, 3) := by decide +kernel
theorem dX0_monotone_4 : decode cX0_monotone 4 = .ok (.iload_n 2, 1) := by decide +kernel
theorem dX0_monotone_5 : decode cX0_monotone 5 = .ok (.ifCond .gt 11, 3) := by decide +kernel
theorem dX0_monotone_8 : decode cX0_monotone 8 = .ok (.iload_n 1, 1) := by decide +kernel
theorem dX0_monotone_9 : decode cX0_monotone 9 = .ok (.ifCond .ge 11, 3) := by decide +kernel
theorem dX0_monotone_12 : decode cX0_monotone 12 = .ok (.iload_n 2, 1) := by decide +kernel
theorem dX0_monotone_13 : decode cX0_monotone 13 = .ok (.ifCond .ge 7, 3) := by decide +kernel
theorem dX0_monotone_16 : decode cX0_monotone 16 = .ok (.iconst 1, 1) := by decide +kernel
theorem dX0_monotone_17 : decode cX0_monotone 17 = .ok (.goto 4, 3) := by decide +kernel
theorem dX0_monotone_20 : decode cX0_monotone 20 = .ok (.iconst 0, 1) := by decide +kernel
theorem dX0_monotone_21 : decode cX0_monotone 21 = .ok (.istore_n 3, 1) := by decide +kernel
theorem dX0_monotone_22 : decode cX0_monotone 22 = .ok (.iload_n 3, 1) := by decide +kernel
theorem dX0_monotone_23 : decode cX0_monotone 23 = .ok (.ifCond .ne 5, 3) := by decide +kernel
theorem dX0_monotone_26 : decode cX0_monotone 26 = .ok (.iconst 0, 1) := by decide +kernel
theorem dX0_monotone_27 : decode cX0_monotone 27 = .ok (.ireturn, 1) := by decide +kernel
theorem dX0_monotone_28 : decode cX0_monotone 28 = .ok (.iload_n 0, 1) := by decide +kernel
theorem dX0_monotone_29 : decode cX0_monotone 29 = .ok (.i2l, 1) := by decide +kernel
theorem dX0_monotone_30 : decode cX0_monotone 30 = .ok (.iconst 3, 1) := by decide +kernel
theorem dX0_monotone_31 : decode cX0_monotone 31 = .ok (.iload_n 1, 1) := by decide +kernel
theorem dX0_monotone_32 : decode cX0_monotone 32 = .ok (.invokestatic 129, 3) := by decide +kernel
theorem dX0_monotone_35 : decode cX0_monotone 35 = .ok (.iload_n 2, 1) := by decide +kernel
theorem dX0_monotone_36 : decode cX0_monotone 36 = .ok (.invokestatic 129, 3) := by decide +kernel
theorem dX0_monotone_39 : decode cX0_monotone 39 = .ok (.invokestatic 121, 3) := by decide +kernel
theorem dX0_monotone_42 : decode cX0_monotone 42 = .ok (.imul, 1) := by decide +kernel
theorem dX0_monotone_43 : decode cX0_monotone 43 = .ok (.invokestatic 81, 3) := by decide +kernel
theorem dX0_monotone_46 : decode cX0_monotone 46 = .ok (.ireturn, 1) := by decide +kernel
theorem dX0_partsAt_0 : decode cX0_partsAt 0 = .ok (.aload_n 0, 1) := by decide +kernel
theorem dX0_partsAt_1 : decode cX0_partsAt 1 = .ok (.getfield 38, 3) := by decide +kernel
theorem dX0_partsAt_4 : decode cX0_partsAt 4 = .ok (.iconst 1, 1) := by decide +kernel
theorem dX0_partsAt_5 : decode cX0_partsAt 5 = .ok (.if_icmp .ge 5, 3) := by decide +kernel
theorem dX0_partsAt_8 : decode cX0_partsAt 8 = .ok (.iconst 0, 1) := by decide +kernel
theorem dX0_partsAt_9 : decode cX0_partsAt 9 = .ok (.ireturn, 1) := by decide +kernel
theorem dX0_partsAt_10 : decode cX0_partsAt 10 = .ok (.aload_n 0, 1) := by decide +kernel
theorem dX0_partsAt_11 : decode cX0_partsAt 11 = .ok (.getfield 18, 3) := by decide +kernel
theorem dX0_partsAt_14 : decode cX0_partsAt 14 = .ok (.iconst 0, 1) := by decide +kernel
theorem dX0_partsAt_15 : decode cX0_partsAt 15 = .ok (.invokestatic 53, 3) := by decide +kernel
theorem dX0_partsAt_18 : decode cX0_partsAt 18 = .ok (.istore_n 2, 1) := by decide +kernel
theorem dX0_partsAt_19 : decode cX0_partsAt 19 = .ok (.aload_n 0, 1) := by decide +kernel
theorem dX0_partsAt_20 : decode cX0_partsAt 20 = .ok (.getfield 18, 3) := by decide +kernel
theorem dX0_partsAt_23 : decode cX0_partsAt 23 = .ok (.aload_n 0, 1) := by decide +kernel
theorem dX0_partsAt_24 : decode cX0_partsAt 24 = .ok (.getfield 38, 3) := by decide +kernel
theorem dX0_partsAt_27 : decode cX0_partsAt 27 = .ok (.iconst 1, 1) := by decide +kernel
theorem dX0_partsAt_28 : decode cX0_partsAt 28 = .ok (.isub, 1) := by decide +kernel
theorem dX0_partsAt_29 : decode cX0_partsAt 29 = .ok (.invokestatic 53, 3) := by decide +kernel
theorem dX0_partsAt_32 : decode cX0_partsAt 32 = .ok (.istore_n 3, 1) := by decide +kernel
theorem dX0_partsAt_33 : decode cX0_partsAt 33 = .ok (.aload_n 0, 1) := by decide +kernel
theorem dX0_partsAt_34 : decode cX0_partsAt 34 = .ok (.iload_n 1, 1) := by decide +kernel
theorem dX0_partsAt_35 : decode cX0_partsAt 35 = .ok (.iload_n 2, 1) := by decide +kernel
theorem dX0_partsAt_36 : decode cX0_partsAt 36 = .ok (.iload_n 3, 1) := by decide +kernel
theorem dX0_partsAt_37 : decode cX0_partsAt 37 = .ok (.invokevirtual 132, 3) := by decide +kernel
theorem dX0_partsAt_40 : decode cX0_partsAt 40 = .ok (.istore 4, 2) := by decide +kernel
theorem dX0_partsAt_42 : decode cX0_partsAt 42 = .ok (.iload 4, 2) := by decide +kernel
theorem dX0_partsAt_44 : decode cX0_partsAt 44 = .ok (.iload_n 1, 1) := by decide +kernel
theorem dX0_partsAt_45 : decode cX0_partsAt 45 = .ok (.iload_n 2, 1) := by decide +kernel
theorem dX0_partsAt_46 : decode cX0_partsAt 46 = .ok (.iload_n 3, 1) := by decide +kernel
theorem dX0_partsAt_47 : decode cX0_partsAt 47 = .ok (.invokestatic 135, 3) := by decide +kernel
theorem dX0_partsAt_50 : decode cX0_partsAt 50 = .ok (.istore 5, 2) := by decide +kernel
theorem dX0_partsAt_52 : decode cX0_partsAt 52 = .ok (.aload_n 0, 1) := by decide +kernel
theorem dX0_partsAt_53 : decode cX0_partsAt 53 = .ok (.iload 5, 2) := by decide +kernel
theorem dX0_partsAt_55 : decode cX0_partsAt 55 = .ok (.iconst 1, 1) := by decide +kernel
theorem dX0_partsAt_56 : decode cX0_partsAt 56 = .ok (.iadd, 1) := by decide +kernel
theorem dX0_partsAt_57 : decode cX0_partsAt 57 = .ok (.invokevirtual 45, 3) := by decide +kernel
theorem dX0_partsAt_60 : decode cX0_partsAt 60 = .ok (.iconst 1, 1) := by decide +kernel
theorem dX0_partsAt_61 : decode cX0_partsAt 61 = .ok (.isub, 1) := by decide +kernel
theorem dX0_partsAt_62 : decode cX0_partsAt 62 = .ok (.istore 6, 2) := by decide +kernel
theorem dX0_partsAt_64 : decode cX0_partsAt 64 = .ok (.aload_n 0, 1) := by decide +kernel
theorem dX0_partsAt_65 : decode cX0_partsAt 65 = .ok (.getfield 18, 3) := by decide +kernel
theorem dX0_partsAt_68 : decode cX0_partsAt 68 = .ok (.iload 6, 2) := by decide +kernel
theorem dX0_partsAt_70 : decode cX0_partsAt 70 = .ok (.invokestatic 53, 3) := by decide +kernel
theorem dX0_partsAt_73 : decode cX0_partsAt 73 = .ok (.iload 5, 2) := by decide +kernel
theorem dX0_partsAt_75 : decode cX0_partsAt 75 = .ok (.if_icmp .ne 19, 3) := by decide +kernel
theorem dX0_partsAt_78 : decode cX0_partsAt 78 = .ok (.bipush 64, 2) := by decide +kernel
theorem dX0_partsAt_80 : decode cX0_partsAt 80 = .ok (.aload_n 0, 1) := by decide +kernel
theorem dX0_partsAt_81 : decode cX0_partsAt 81 = .ok (.getfield 22, 3) := by decide +kernel
theorem dX0_partsAt_84 : decode cX0_partsAt 84 = .ok (.iload 6, 2) := by decide +kernel
theorem dX0_partsAt_86 : decode cX0_partsAt 86 = .ok (.invokestatic 53, 3) := by decide +kernel
theorem dX0_partsAt_89 : decode cX0_partsAt 89 = .ok (.imul, 1) := by decide +kernel
theorem dX0_partsAt_90 : decode cX0_partsAt 90 = .ok (.i2l, 1) := by decide +kernel
theorem dX0_partsAt_91 : decode cX0_partsAt 91 = .ok (.goto 12, 3) := by decide +kernel
theorem dX0_partsAt_94 : decode cX0_partsAt 94 = .ok (.aload_n 0, 1) := by decide +kernel
theorem dX0_partsAt_95 : decode cX0_partsAt 95 = .ok (.iload 6, 2) := by decide +kernel
theorem dX0_partsAt_97 : decode cX0_partsAt 97 = .ok (.iload 5, 2) := by decide +kernel
theorem dX0_partsAt_99 : decode cX0_partsAt 99 = .ok (.invokevirtual 139, 3) := by decide +kernel
theorem dX0_partsAt_102 : decode cX0_partsAt 102 = .ok (.i2l, 1) := by decide +kernel
theorem dX0_partsAt_103 : decode cX0_partsAt 103 = .ok (.lstore 7, 2) := by decide +kernel
theorem dX0_partsAt_105 : decode cX0_partsAt 105 = .ok (.iload 4, 2) := by decide +kernel
theorem dX0_partsAt_107 : decode cX0_partsAt 107 = .ok (.iconst 1, 1) := by decide +kernel
theorem dX0_partsAt_108 : decode cX0_partsAt 108 = .ok (.if_icmp .ne 31, 3) := by decide +kernel
theorem dX0_partsAt_111 : decode cX0_partsAt 111 = .ok (.lload 7, 2) := by decide +kernel
theorem dX0_partsAt_113 : decode cX0_partsAt 113 = .ok (.aload_n 0, 1) := by decide +kernel
theorem dX0_partsAt_114 : decode cX0_partsAt 114 = .ok (.iload 6, 2) := by decide +kernel
theorem dX0_partsAt_116 : decode cX0_partsAt 116 = .ok (.iload_n 1, 1) := by decide +kernel
theorem dX0_partsAt_117 : decode cX0_partsAt 117 = .ok (.iload_n 3, 1) := by decide +kernel
theorem dX0_partsAt_118 : decode cX0_partsAt 118 = .ok (.if_icmp .le 7, 3) := by decide +kernel
theorem dX0_partsAt_121 : decode cX0_partsAt 121 = .ok (.iconst 1, 1) := by decide +kernel
theorem dX0_partsAt_122 : decode cX0_partsAt 122 = .ok (.goto 4, 3) := by decide +kernel
theorem dX0_partsAt_125 : decode cX0_partsAt 125 = .ok (.iconst 0, 1) := by decide +kernel
theorem dX0_partsAt_126 : decode cX0_partsAt 126 = .ok (.invokevirtual 77, 3) := by decide +kernel
theorem dX0_partsAt_129 : decode cX0_partsAt 129 = .ok (.i2l, 1) := by decide +kernel
theorem dX0_partsAt_130 : decode cX0_partsAt 130 = .ok (.iload_n 1, 1) := by decide +kernel
theorem dX0_partsAt_131 : decode cX0_partsAt 131 = .ok (.iload 5, 2) := by decide +kernel
theorem dX0_partsAt_133 : decode cX0_partsAt 133 = .ok (.isub, 1) := by decide +kernel
theorem dX0_partsAt_134 : decode cX0_partsAt 134 = .ok (.i2l, 1) := by decide +kernel
theorem dX0_partsAt_135 : decode cX0_partsAt 135 = .ok (.lmul, 1) := by decide +kernel
theorem dX0_partsAt_136 : decode cX0_partsAt 136 = .ok (.ladd, 1) := by decide +kernel
theorem dX0_partsAt_137 : decode cX0_partsAt 137 = .ok (.lstore 7, 2) := by decide +kernel
theorem dX0_partsAt_139 : decode cX0_partsAt 139 = .ok (.iload 4, 2) := by decide +kernel
theorem dX0_partsAt_141 : decode cX0_partsAt 141 = .ok (.iconst 4, 1) := by decide +kernel
theorem dX0_partsAt_142 : decode cX0_partsAt 142 = .ok (.if_icmp .ne 55, 3) := by decide +kernel
theorem dX0_partsAt_145 : decode cX0_partsAt 145 = .ok (.iload_n 3, 1) := by decide +kernel
theorem dX0_partsAt_146 : decode cX0_partsAt 146 = .ok (.iload_n 2, 1) := by decide +kernel
theorem dX0_partsAt_147 : decode cX0_partsAt 147 = .ok (.if_icmp .le 50, 3) := by decide +kernel
theorem dX0_partsAt_150 : decode cX0_partsAt 150 = .ok (.aload_n 0, 1) := by decide +kernel
theorem dX0_partsAt_151 : decode cX0_partsAt 151 = .ok (.getfield 22, 3) := by decide +kernel
theorem dX0_partsAt_154 : decode cX0_partsAt 154 = .ok (.aload_n 0, 1) := by decide +kernel
theorem dX0_partsAt_155 : decode cX0_partsAt 155 = .ok (.getfield 38, 3) := by decide +kernel
theorem dX0_partsAt_158 : decode cX0_partsAt 158 = .ok (.iconst 1, 1) := by decide +kernel
theorem dX0_partsAt_159 : decode cX0_partsAt 159 = .ok (.isub, 1) := by decide +kernel
theorem dX0_partsAt_160 : decode cX0_partsAt 160 = .ok (.invokestatic 53, 3) := by decide +kernel
theorem dX0_partsAt_163 : decode cX0_partsAt 163 = .ok (.i2l, 1) := by decide +kernel
theorem dX0_partsAt_164 : decode cX0_partsAt 164 = .ok (.aload_n 0, 1) := by decide +kernel
theorem dX0_partsAt_165 : decode cX0_partsAt 165 = .ok (.getfield 22, 3) := by decide +kernel
theorem dX0_partsAt_168 : decode cX0_partsAt 168 = .ok (.iconst 0, 1) := by decide +kernel
theorem dX0_partsAt_169 : decode cX0_partsAt 169 = .ok (.invokestatic 53, 3) := by decide +kernel
theorem dX0_partsAt_172 : decode cX0_partsAt 172 = .ok (.i2l, 1) := by decide +kernel
theorem dX0_partsAt_173 : decode cX0_partsAt 173 = .ok (.lsub, 1) := by decide +kernel
theorem dX0_partsAt_174 : decode cX0_partsAt 174 = .ok (.lstore 9, 2) := by decide +kernel
theorem dX0_partsAt_176 : decode cX0_partsAt 176 = .ok (.lload 7, 2) := by decide +kernel
theorem dX0_partsAt_178 : decode cX0_partsAt 178 = .ok (.iload_n 1, 1) := by decide +kernel
theorem dX0_partsAt_179 : decode cX0_partsAt 179 = .ok (.iload_n 2, 1) := by decide +kernel
theorem dX0_partsAt_180 : decode cX0_partsAt 180 = .ok (.isub, 1) := by decide +kernel
theorem dX0_partsAt_181 : decode cX0_partsAt 181 = .ok (.iload_n 3, 1) := by decide +kernel
theorem dX0_partsAt_182 : decode cX0_partsAt 182 = .ok (.iload_n 2, 1) := by decide +kernel
theorem dX0_partsAt_183 : decode cX0_partsAt 183 = .ok (.isub, 1) := by decide +kernel
theorem dX0_partsAt_184 : decode cX0_partsAt 184 = .ok (.invokestatic 142, 3) := by decide +kernel
theorem dX0_partsAt_187 : decode cX0_partsAt 187 = .ok (.bipush 64, 2) := by decide +kernel
theorem dX0_partsAt_189 : decode cX0_partsAt 189 = .ok (.imul, 1) := by decide +kernel
theorem dX0_partsAt_190 : decode cX0_partsAt 190 = .ok (.i2l, 1) := by decide +kernel
theorem dX0_partsAt_191 : decode cX0_partsAt 191 = .ok (.lload 9, 2) := by decide +kernel
theorem dX0_partsAt_193 : decode cX0_partsAt 193 = .ok (.lmul, 1) := by decide +kernel
theorem dX0_partsAt_194 : decode cX0_partsAt 194 = .ok (.ladd, 1) := by decide +kernel
theorem dX0_partsAt_195 : decode cX0_partsAt 195 = .ok (.lstore 7, 2) := by decide +kernel
theorem dX0_partsAt_197 : decode cX0_partsAt 197 = .ok (.lload 7, 2) := by decide +kernel
theorem dX0_partsAt_199 : decode cX0_partsAt 199 = .ok (.l2i, 1) := by decide +kernel
theorem dX0_partsAt_200 : decode cX0_partsAt 200 = .ok (.ireturn, 1) := by decide +kernel
theorem dX0_extrapolation_0 : decode cX0_extrapolation 0 = .ok (.iload_n 2, 1) := by decide +kernel
theorem dX0_extrapolation_1 : decode cX0_extrapolation 1 = .ok (.iload_n 3, 1) := by decide +kernel
theorem dX0_extrapolation_2 : decode cX0_extrapolation 2 = .ok (.if_icmp .eq 13, 3) := by decide +kernel
theorem dX0_extrapolation_5 : decode cX0_extrapolation 5 = .ok (.iload_n 1, 1) := by decide +kernel
theorem dX0_extrapolation_6 : decode cX0_extrapolation 6 = .ok (.iload_n 2, 1) := by decide +kernel
theorem dX0_extrapolation_7 : decode cX0_extrapolation 7 = .ok (.if_icmp .lt 10, 3) := by decide +kernel
theorem dX0_extrapolation_10 : decode cX0_extrapolation 10 = .ok (.iload_n 1, 1) := by decide +kernel
theorem dX0_extrapolation_11 : decode cX0_extrapolation 11 = .ok (.iload_n 3, 1) := by decide +kernel
theorem dX0_extrapolation_12 : decode cX0_extrapolation 12 = .ok (.if_icmp .gt 5, 3) := by decide +kernel
theorem dX0_extrapolation_15 : decode cX0_extrapolation 15 = .ok (.iconst 0, 1) := by decide +kernel
theorem dX0_extrapolation_16 : decode cX0_extrapolation 16 = .ok (.ireturn, 1) := by decide +kernel
theorem dX0_extrapolation_17 : decode cX0_extrapolation 17 = .ok (.iload_n 1, 1) := by decide +kernel
theorem dX0_extrapolation_18 : decode cX0_extrapolation 18 = .ok (.iload_n 2, 1) := by decide +kernel
theorem dX0_extrapolation_19 : decode cX0_extrapolation 19 = .ok (.if_icmp .ge 10, 3) := by decide +kernel
theorem dX0_extrapolation_22 : decode cX0_extrapolation 22 = .ok (.aload_n 0, 1) := by decide +kernel
theorem dX0_extrapolation_23 : decode cX0_extrapolation 23 = .ok (.getfield 9, 3) := by decide +kernel
theorem dX0_extrapolation_26 : decode cX0_extrapolation 26 = .ok (.goto 7, 3) := by decide +kernel
theorem dX0_extrapolation_29 : decode cX0_extrapolation 29 = .ok (.aload_n 0, 1) := by decide +kernel
theorem dX0_extrapolation_30 : decode cX0_extrapolation 30 = .ok (.getfield 15, 3) := by decide +kernel
theorem dX0_extrapolation_33 : decode cX0_extrapolation 33 = .ok (.ireturn, 1) := by decide +kernel
theorem dX0_folded_0 : decode cX0_folded 0 = .ok (.iload_n 3, 1) := by decide +kernel
theorem dX0_folded_1 : decode cX0_folded 1 = .ok (.iload_n 2, 1) := by decide +kernel
theorem dX0_folded_2 : decode cX0_folded 2 = .ok (.isub, 1) := by decide +kernel
theorem dX0_folded_3 : decode cX0_folded 3 = .ok (.istore 4, 2) := by decide +kernel
theorem dX0_folded_5 : decode cX0_folded 5 = .ok (.iload_n 0, 1) := by decide +kernel
theorem dX0_folded_6 : decode cX0_folded 6 = .ok (.ifCond .eq 14, 3) := by decide +kernel
theorem dX0_folded_9 : decode cX0_folded 9 = .ok (.iload_n 0, 1) := by decide +kernel
theorem dX0_folded_10 : decode cX0_folded 10 = .ok (.iconst 1, 1) := by decide +kernel
theorem dX0_folded_11 : decode cX0_folded 11 = .ok (.if_icmp .eq 9, 3) := by decide +kernel
theorem dX0_folded_14 : decode cX0_folded 14 = .ok (.iload 4, 2) := by decide +kernel
theorem dX0_folded_16 : decode cX0_folded 16 = .ok (.iconst 1, 1) := by decide +kernel
theorem dX0_folded_17 : decode cX0_folded 17 = .ok (.if_icmp .ge 13, 3) := by decide +kernel
theorem dX0_folded_20 : decode cX0_folded 20 = .ok (.iload_n 2, 1) := by decide +kernel
theorem dX0_folded_21 : decode cX0_folded 21 = .ok (.iload_n 3, 1) := by decide +kernel
theorem dX0_folded_22 : decode cX0_folded 22 = .ok (.iload_n 1, 1) := by decide +kernel
theorem dX0_folded_23 : decode cX0_folded 23 = .ok (.invokestatic 121, 3) := by decide +kernel
theorem dX0_folded_26 : decode cX0_folded 26 = .ok (.invokestatic 126, 3) := by decide +kernel
theorem dX0_folded_29 : decode cX0_folded 29 = .ok (.ireturn, 1) := by decide +kernel
theorem dX0_folded_30 : decode cX0_folded 30 = .ok (.iload_n 0, 1) := by decide +kernel
theorem dX0_folded_31 : decode cX0_folded 31 = .ok (.iconst 3, 1) := by decide +kernel
theorem dX0_folded_32 : decode cX0_folded 32 = .ok (.if_icmp .eq 14, 3) := by decide +kernel
theorem dX0_folded_35 : decode cX0_folded 35 = .ok (.iload_n 2, 1) := by decide +kernel
theorem dX0_folded_36 : decode cX0_folded 36 = .ok (.iload_n 1, 1) := by decide +kernel
theorem dX0_folded_37 : decode cX0_folded 37 = .ok (.iload_n 2, 1) := by decide +kernel
theorem dX0_folded_38 : decode cX0_folded 38 = .ok (.isub, 1) := by decide +kernel
theorem dX0_folded_39 : decode cX0_folded 39 = .ok (.iload 4, 2) := by decide +kernel
theorem dX0_folded_41 : decode cX0_folded 41 = .ok (.invokestatic 145, 3) := by decide +kernel
theorem dX0_folded_44 : decode cX0_folded 44 = .ok (.iadd, 1) := by decide +kernel
theorem dX0_folded_45 : decode cX0_folded 45 = .ok (.ireturn, 1) := by decide +kernel
theorem dX0_folded_46 : decode cX0_folded 46 = .ok (.iload_n 1, 1) := by decide +kernel
theorem dX0_folded_47 : decode cX0_folded 47 = .ok (.iload_n 2, 1) := by decide +kernel
theorem dX0_folded_48 : decode cX0_folded 48 = .ok (.isub, 1) := by decide +kernel
theorem dX0_folded_49 : decode cX0_folded 49 = .ok (.iconst 2, 1) := by decide +kernel
theorem dX0_folded_50 : decode cX0_folded 50 = .ok (.iload 4, 2) := by decide +kernel
theorem dX0_folded_52 : decode cX0_folded 52 = .ok (.imul, 1) := by decide +kernel
theorem dX0_folded_53 : decode cX0_folded 53 = .ok (.invokestatic 145, 3) := by decide +kernel
theorem dX0_folded_56 : decode cX0_folded 56 = .ok (.istore 5, 2) := by decide +kernel
theorem dX0_folded_58 : decode cX0_folded 58 = .ok (.iload 5, 2) := by decide +kernel
theorem dX0_folded_60 : decode cX0_folded 60 = .ok (.iload 4, 2) := by decide +kernel
theorem dX0_folded_62 : decode cX0_folded 62 = .ok (.if_icmp .gt 10, 3) := by decide +kernel
theorem dX0_folded_65 : decode cX0_folded 65 = .ok (.iload_n 2, 1) := by decide +kernel
theorem dX0_folded_66 : decode cX0_folded 66 = .ok (.iload 5, 2) := by decide +kernel
theorem dX0_folded_68 : decode cX0_folded 68 = .ok (.iadd, 1) := by decide +kernel
theorem dX0_folded_69 : decode cX0_folded 69 = .ok (.goto 12, 3) := by decide +kernel
theorem dX0_folded_72 : decode cX0_folded 72 = .ok (.iload_n 2, 1) := by decide +kernel
theorem dX0_folded_73 : decode cX0_folded 73 = .ok (.iconst 2, 1) := by decide +kernel
theorem dX0_folded_74 : decode cX0_folded 74 = .ok (.iload 4, 2) := by decide +kernel
theorem dX0_folded_76 : decode cX0_folded 76 = .ok (.imul, 1) := by decide +kernel
theorem dX0_folded_77 : decode cX0_folded 77 = .ok (.iadd, 1) := by decide +kernel
theorem dX0_folded_78 : decode cX0_folded 78 = .ok (.iload 5, 2) := by decide +kernel
theorem dX0_folded_80 : decode cX0_folded 80 = .ok (.isub, 1) := by decide +kernel
theorem dX0_folded_81 : decode cX0_folded 81 = .ok (.ireturn, 1) := by decide +kernel
theorem dX0_between_0 : decode cX0_between 0 = .ok (.bipush 64, 2) := by decide +kernel
theorem dX0_between_2 : decode cX0_between 2 = .ok (.aload_n 0, 1) := by decide +kernel
theorem dX0_between_3 : decode cX0_between 3 = .ok (.getfield 22, 3) := by decide +kernel
theorem dX0_between_6 : decode cX0_between 6 = .ok (.iload_n 1, 1) := by decide +kernel
theorem dX0_between_7 : decode cX0_between 7 = .ok (.invokestatic 53, 3) := by decide +kernel
theorem dX0_between_10 : decode cX0_between 10 = .ok (.imul, 1) := by decide +kernel
theorem dX0_between_11 : decode cX0_between 11 = .ok (.istore_n 3, 1) := by decide +kernel
theorem dX0_between_12 : decode cX0_between 12 = .ok (.aload_n 0, 1) := by decide +kernel
theorem dX0_between_13 : decode cX0_between 13 = .ok (.getfield 25, 3) := by decide +kernel
theorem dX0_between_16 : decode cX0_between 16 = .ok (.iload_n 1, 1) := by decide +kernel
theorem dX0_between_17 : decode cX0_between 17 = .ok (.invokestatic 53, 3) := by decide +kernel
theorem dX0_between_20 : decode cX0_between 20 = .ok (.bipush 6, 2) := by decide +kernel
theorem dX0_between_22 : decode cX0_between 22 = .ok (.if_icmp .ne 5, 3) := by decide +kernel
theorem dX0_between_25 : decode cX0_between 25 = .ok (.iload_n 3, 1) := by decide +kernel
theorem dX0_between_26 : decode cX0_between 26 = .ok (.ireturn, 1) := by decide +kernel
theorem dX0_between_27 : decode cX0_between 27 = .ok (.bipush 64, 2) := by decide +kernel
theorem dX0_between_29 : decode cX0_between 29 = .ok (.aload_n 0, 1) := by decide +kernel
theorem dX0_between_30 : decode cX0_between 30 = .ok (.getfield 22, 3) := by decide +kernel
theorem dX0_between_33 : decode cX0_between 33 = .ok (.iload_n 1, 1) := by decide +kernel
theorem dX0_between_34 : decode cX0_between 34 = .ok (.iconst 1, 1) := by decide +kernel
theorem dX0_between_35 : decode cX0_between 35 = .ok (.iadd, 1) := by decide +kernel
theorem dX0_between_36 : decode cX0_between 36 = .ok (.invokestatic 53, 3) := by decide +kernel
theorem dX0_between_39 : decode cX0_between 39 = .ok (.imul, 1) := by decide +kernel
theorem dX0_between_40 : decode cX0_between 40 = .ok (.istore 4, 2) := by decide +kernel
theorem dX0_between_42 : decode cX0_between 42 = .ok (.aload_n 0, 1) := by decide +kernel
theorem dX0_between_43 : decode cX0_between 43 = .ok (.getfield 18, 3) := by decide +kernel
theorem dX0_between_46 : decode cX0_between 46 = .ok (.iload_n 1, 1) := by decide +kernel
theorem dX0_between_47 : decode cX0_between 47 = .ok (.invokestatic 53, 3) := by decide +kernel
theorem dX0_between_50 : decode cX0_between 50 = .ok (.istore 5, 2) := by decide +kernel
theorem dX0_between_52 : decode cX0_between 52 = .ok (.aload_n 0, 1) := by decide +kernel
theorem dX0_between_53 : decode cX0_between 53 = .ok (.getfield 18, 3) := by decide +kernel
theorem dX0_between_56 : decode cX0_between 56 = .ok (.iload_n 1, 1) := by decide +kernel
theorem dX0_between_57 : decode cX0_between 57 = .ok (.iconst 1, 1) := by decide +kernel
theorem dX0_between_58 : decode cX0_between 58 = .ok (.iadd, 1) := by decide +kernel
theorem dX0_between_59 : decode cX0_between 59 = .ok (.invokestatic 53, 3) := by decide +kernel
theorem dX0_between_62 : decode cX0_between 62 = .ok (.iload 5, 2) := by decide +kernel
theorem dX0_between_64 : decode cX0_between 64 = .ok (.isub, 1) := by decide +kernel
theorem dX0_between_65 : decode cX0_between 65 = .ok (.istore 6, 2) := by decide +kernel
theorem dX0_between_67 : decode cX0_between 67 = .ok (.iload_n 3, 1) := by decide +kernel
theorem dX0_between_68 : decode cX0_between 68 = .ok (.i2l, 1) := by decide +kernel
theorem dX0_between_69 : decode cX0_between 69 = .ok (.iload 4, 2) := by decide +kernel
theorem dX0_between_71 : decode cX0_between 71 = .ok (.i2l, 1) := by decide +kernel
theorem dX0_between_72 : decode cX0_between 72 = .ok (.aload_n 0, 1) := by decide +kernel
theorem dX0_between_73 : decode cX0_between 73 = .ok (.iload_n 1, 1) := by decide +kernel
theorem dX0_between_74 : decode cX0_between 74 = .ok (.iconst 1, 1) := by decide +kernel
theorem dX0_between_75 : decode cX0_between 75 = .ok (.invokevirtual 77, 3) := by decide +kernel
theorem dX0_between_78 : decode cX0_between 78 = .ok (.i2l, 1) := by decide +kernel
theorem dX0_between_79 : decode cX0_between 79 = .ok (.aload_n 0, 1) := by decide +kernel
theorem dX0_between_80 : decode cX0_between 80 = .ok (.iload_n 1, 1) := by decide +kernel
theorem dX0_between_81 : decode cX0_between 81 = .ok (.iconst 1, 1) := by decide +kernel
theorem dX0_between_82 : decode cX0_between 82 = .ok (.iadd, 1) := by decide +kernel
theorem dX0_between_83 : decode cX0_between 83 = .ok (.iconst 0, 1) := by decide +kernel
theorem dX0_between_84 : decode cX0_between 84 = .ok (.invokevirtual 77, 3) := by decide +kernel
theorem dX0_between_87 : decode cX0_between 87 = .ok (.i2l, 1) := by decide +kernel
theorem dX0_between_88 : decode cX0_between 88 = .ok (.iload 6, 2) := by decide +kernel
theorem dX0_between_90 : decode cX0_between 90 = .ok (.i2l, 1) := by decide +kernel
theorem dX0_between_91 : decode cX0_between 91 = .ok (.iload_n 2, 1) := by decide +kernel
theorem dX0_between_92 : decode cX0_between 92 = .ok (.iload 5, 2) := by decide +kernel
theorem dX0_between_94 : decode cX0_between 94 = .ok (.isub, 1) := by decide +kernel
theorem dX0_between_95 : decode cX0_between 95 = .ok (.i2l, 1) := by decide +kernel
theorem dX0_between_96 : decode cX0_between 96 = .ok (.invokestatic 148, 3) := by decide +kernel
theorem dX0_between_99 : decode cX0_between 99 = .ok (.ireturn, 1) := by decide +kernel
theorem dX0_hermite_0 : decode cX0_hermite 0 = .ok (.lload 10, 2) := by decide +kernel
theorem dX0_hermite_2 : decode cX0_hermite 2 = .ok (.lload 10, 2) := by decide +kernel
theorem dX0_hermite_4 : decode cX0_hermite 4 = .ok (.lmul, 1) := by decide +kernel
theorem dX0_hermite_5 : decode cX0_hermite 5 = .ok (.lstore 12, 2) := by decide +kernel
theorem dX0_hermite_7 : decode cX0_hermite 7 = .ok (.lload 12, 2) := by decide +kernel
theorem dX0_hermite_9 : decode cX0_hermite 9 = .ok (.lload 10, 2) := by decide +kernel
theorem dX0_hermite_11 : decode cX0_hermite 11 = .ok (.lmul, 1) := by decide +kernel
theorem dX0_hermite_12 : decode cX0_hermite 12 = .ok (.lstore 14, 2) := by decide +kernel
theorem dX0_hermite_14 : decode cX0_hermite 14 = .ok (.ldc2_w 152, 3) := by decide +kernel
theorem dX0_hermite_17 : decode cX0_hermite 17 = .ok (.lload 12, 2) := by decide +kernel
theorem dX0_hermite_19 : decode cX0_hermite 19 = .ok (.lmul, 1) := by decide +kernel
theorem dX0_hermite_20 : decode cX0_hermite 20 = .ok (.lload 8, 2) := by decide +kernel
theorem dX0_hermite_22 : decode cX0_hermite 22 = .ok (.lmul, 1) := by decide +kernel
theorem dX0_hermite_23 : decode cX0_hermite 23 = .ok (.ldc2_w 91, 3) := by decide +kernel
theorem dX0_hermite_26 : decode cX0_hermite 26 = .ok (.lload 14, 2) := by decide +kernel
theorem dX0_hermite_28 : decode cX0_hermite 28 = .ok (.lmul, 1) := by decide +kernel
theorem dX0_hermite_29 : decode cX0_hermite 29 = .ok (.lsub, 1) := by decide +kernel
theorem dX0_hermite_30 : decode cX0_hermite 30 = .ok (.lstore 16, 2) := by decide +kernel
theorem dX0_hermite_32 : decode cX0_hermite 32 = .ok (.lload 8, 2) := by decide +kernel
theorem dX0_hermite_34 : decode cX0_hermite 34 = .ok (.lload 8, 2) := by decide +kernel
theorem dX0_hermite_36 : decode cX0_hermite 36 = .ok (.lmul, 1) := by decide +kernel
theorem dX0_hermite_37 : decode cX0_hermite 37 = .ok (.lload 8, 2) := by decide +kernel
theorem dX0_hermite_39 : decode cX0_hermite 39 = .ok (.lmul, 1) := by decide +kernel
theorem dX0_hermite_40 : decode cX0_hermite 40 = .ok (.lstore 18, 2) := by decide +kernel
theorem dX0_hermite_42 : decode cX0_hermite 42 = .ok (.lload_n 0, 1) := by decide +kernel
theorem dX0_hermite_43 : decode cX0_hermite 43 = .ok (.lload 18, 2) := by decide +kernel
theorem dX0_hermite_45 : decode cX0_hermite 45 = .ok (.lload 16, 2) := by decide +kernel
theorem dX0_hermite_47 : decode cX0_hermite 47 = .ok (.lsub, 1) := by decide +kernel
theorem dX0_hermite_48 : decode cX0_hermite 48 = .ok (.lmul, 1) := by decide +kernel
theorem dX0_hermite_49 : decode cX0_hermite 49 = .ok (.lload_n 2, 1) := by decide +kernel
theorem dX0_hermite_50 : decode cX0_hermite 50 = .ok (.lload 16, 2) := by decide +kernel
theorem dX0_hermite_52 : decode cX0_hermite 52 = .ok (.lmul, 1) := by decide +kernel
theorem dX0_hermite_53 : decode cX0_hermite 53 = .ok (.ladd, 1) := by decide +kernel
theorem dX0_hermite_54 : decode cX0_hermite 54 = .ok (.lload 8, 2) := by decide +kernel
theorem dX0_hermite_56 : decode cX0_hermite 56 = .ok (.lload 4, 2) := by decide +kernel
theorem dX0_hermite_58 : decode cX0_hermite 58 = .ok (.lmul, 1) := by decide +kernel
theorem dX0_hermite_59 : decode cX0_hermite 59 = .ok (.lload 14, 2) := by decide +kernel
theorem dX0_hermite_61 : decode cX0_hermite 61 = .ok (.ldc2_w 91, 3) := by decide +kernel
theorem dX0_hermite_64 : decode cX0_hermite 64 = .ok (.lload 12, 2) := by decide +kernel
theorem dX0_hermite_66 : decode cX0_hermite 66 = .ok (.lmul, 1) := by decide +kernel
theorem dX0_hermite_67 : decode cX0_hermite 67 = .ok (.lload 8, 2) := by decide +kernel
theorem dX0_hermite_69 : decode cX0_hermite 69 = .ok (.lmul, 1) := by decide +kernel
theorem dX0_hermite_70 : decode cX0_hermite 70 = .ok (.lsub, 1) := by decide +kernel
theorem dX0_hermite_71 : decode cX0_hermite 71 = .ok (.lload 10, 2) := by decide +kernel
theorem dX0_hermite_73 : decode cX0_hermite 73 = .ok (.lload 8, 2) := by decide +kernel
theorem dX0_hermite_75 : decode cX0_hermite 75 = .ok (.lmul, 1) := by decide +kernel
theorem dX0_hermite_76 : decode cX0_hermite 76 = .ok (.lload 8, 2) := by decide +kernel
theorem dX0_hermite_78 : decode cX0_hermite 78 = .ok (.lmul, 1) := by decide +kernel
theorem dX0_hermite_79 : decode cX0_hermite 79 = .ok (.ladd, 1) := by decide +kernel
theorem dX0_hermite_80 : decode cX0_hermite 80 = .ok (.lmul, 1) := by decide +kernel
theorem dX0_hermite_81 : decode cX0_hermite 81 = .ok (.ladd, 1) := by decide +kernel
theorem dX0_hermite_82 : decode cX0_hermite 82 = .ok (.lload 8, 2) := by decide +kernel
theorem dX0_hermite_84 : decode cX0_hermite 84 = .ok (.lload 6, 2) := by decide +kernel
theorem dX0_hermite_86 : decode cX0_hermite 86 = .ok (.lmul, 1) := by decide +kernel
theorem dX0_hermite_87 : decode cX0_hermite 87 = .ok (.lload 14, 2) := by decide +kernel
theorem dX0_hermite_89 : decode cX0_hermite 89 = .ok (.lload 12, 2) := by decide +kernel
theorem dX0_hermite_91 : decode cX0_hermite 91 = .ok (.lload 8, 2) := by decide +kernel
theorem dX0_hermite_93 : decode cX0_hermite 93 = .ok (.lmul, 1) := by decide +kernel
theorem dX0_hermite_94 : decode cX0_hermite 94 = .ok (.lsub, 1) := by decide +kernel
theorem dX0_hermite_95 : decode cX0_hermite 95 = .ok (.lmul, 1) := by decide +kernel
theorem dX0_hermite_96 : decode cX0_hermite 96 = .ok (.ladd, 1) := by decide +kernel
theorem dX0_hermite_97 : decode cX0_hermite 97 = .ok (.lstore 20, 2) := by decide +kernel
theorem dX0_hermite_99 : decode cX0_hermite 99 = .ok (.lload 20, 2) := by decide +kernel
theorem dX0_hermite_101 : decode cX0_hermite 101 = .ok (.lload 18, 2) := by decide +kernel
theorem dX0_hermite_103 : decode cX0_hermite 103 = .ok (.invokestatic 93, 3) := by decide +kernel
theorem dX0_hermite_106 : decode cX0_hermite 106 = .ok (.l2i, 1) := by decide +kernel
theorem dX0_hermite_107 : decode cX0_hermite 107 = .ok (.ireturn, 1) := by decide +kernel
theorem dX0_distance_0 : decode cX0_distance 0 = .ok (.iconst 0, 1) := by decide +kernel
theorem dX0_distance_1 : decode cX0_distance 1 = .ok (.istore_n 3, 1) := by decide +kernel
theorem dX0_distance_2 : decode cX0_distance 2 = .ok (.iconst 0, 1) := by decide +kernel
theorem dX0_distance_3 : decode cX0_distance 3 = .ok (.istore 4, 2) := by decide +kernel
theorem dX0_distance_5 : decode cX0_distance 5 = .ok (.iload 4, 2) := by decide +kernel
theorem dX0_distance_7 : decode cX0_distance 7 = .ok (.iconst 1, 1) := by decide +kernel
theorem dX0_distance_8 : decode cX0_distance 8 = .ok (.iadd, 1) := by decide +kernel
theorem dX0_distance_9 : decode cX0_distance 9 = .ok (.aload_n 0, 1) := by decide +kernel
theorem dX0_distance_10 : decode cX0_distance 10 = .ok (.getfield 38, 3) := by decide +kernel
theorem dX0_distance_13 : decode cX0_distance 13 = .ok (.if_icmp .ge 186, 3) := by decide +kernel
theorem dX0_distance_16 : decode cX0_distance 16 = .ok (.iload_n 3, 1) := by decide +kernel
theorem dX0_distance_17 : decode cX0_distance 17 = .ok (.iload_n 2, 1) := by decide +kernel
theorem dX0_distance_18 : decode cX0_distance 18 = .ok (.if_icmp .ge 181, 3) := by decide +kernel
theorem dX0_distance_21 : decode cX0_distance 21 = .ok (.bipush 64, 2) := by decide +kernel
theorem dX0_distance_23 : decode cX0_distance 23 = .ok (.aload_n 0, 1) := by decide +kernel
theorem dX0_distance_24 : decode cX0_distance 24 = .ok (.getfield 22, 3) := by decide +kernel
theorem dX0_distance_27 : decode cX0_distance 27 = .ok (.iload 4, 2) := by decide +kernel
theorem dX0_distance_29 : decode cX0_distance 29 = .ok (.invokestatic 53, 3) := by decide +kernel
theorem dX0_distance_32 : decode cX0_distance 32 = .ok (.imul, 1) := by decide +kernel
theorem dX0_distance_33 : decode cX0_distance 33 = .ok (.istore 5, 2) := by decide +kernel
theorem dX0_distance_35 : decode cX0_distance 35 = .ok (.bipush 64, 2) := by decide +kernel
theorem dX0_distance_37 : decode cX0_distance 37 = .ok (.aload_n 0, 1) := by decide +kernel
theorem dX0_distance_38 : decode cX0_distance 38 = .ok (.getfield 22, 3) := by decide +kernel
theorem dX0_distance_41 : decode cX0_distance 41 = .ok (.iload 4, 2) := by decide +kernel
theorem dX0_distance_43 : decode cX0_distance 43 = .ok (.iconst 1, 1) := by decide +kernel
theorem dX0_distance_44 : decode cX0_distance 44 = .ok (.iadd, 1) := by decide +kernel
theorem dX0_distance_45 : decode cX0_distance 45 = .ok (.invokestatic 53, 3) := by decide +kernel
theorem dX0_distance_48 : decode cX0_distance 48 = .ok (.imul, 1) := by decide +kernel
theorem dX0_distance_49 : decode cX0_distance 49 = .ok (.istore 6, 2) := by decide +kernel
theorem dX0_distance_51 : decode cX0_distance 51 = .ok (.aload_n 0, 1) := by decide +kernel
theorem dX0_distance_52 : decode cX0_distance 52 = .ok (.getfield 25, 3) := by decide +kernel
theorem dX0_distance_55 : decode cX0_distance 55 = .ok (.iload 4, 2) := by decide +kernel
theorem dX0_distance_57 : decode cX0_distance 57 = .ok (.invokestatic 53, 3) := by decide +kernel
theorem dX0_distance_60 : decode cX0_distance 60 = .ok (.bipush 6, 2) := by decide +kernel
theorem dX0_distance_62 : decode cX0_distance 62 = .ok (.if_icmp .ne 7, 3) := by decide +kernel
theorem dX0_distance_65 : decode cX0_distance 65 = .ok (.iconst 1, 1) := by decide +kernel
theorem dX0_distance_66 : decode cX0_distance 66 = .ok (.goto 4, 3) := by decide +kernel
theorem dX0_distance_69 : decode cX0_distance 69 = .ok (.iconst 0, 1) := by decide +kernel
theorem dX0_distance_70 : decode cX0_distance 70 = .ok (.istore 7, 2) := by decide +kernel
theorem dX0_distance_72 : decode cX0_distance 72 = .ok (.aload_n 0, 1) := by decide +kernel
theorem dX0_distance_73 : decode cX0_distance 73 = .ok (.iload 4, 2) := by decide +kernel
theorem dX0_distance_75 : decode cX0_distance 75 = .ok (.iconst 1, 1) := by decide +kernel
theorem dX0_distance_76 : decode cX0_distance 76 = .ok (.invokevirtual 77, 3) := by decide +kernel
theorem dX0_distance_79 : decode cX0_distance 79 = .ok (.istore 8, 2) := by decide +kernel
theorem dX0_distance_81 : decode cX0_distance 81 = .ok (.aload_n 0, 1) := by decide +kernel
theorem dX0_distance_82 : decode cX0_distance 82 = .ok (.iload 4, 2) := by decide +kernel
theorem dX0_distance_84 : decode cX0_distance 84 = .ok (.iconst 1, 1) := by decide +kernel
theorem dX0_distance_85 : decode cX0_distance 85 = .ok (.iadd, 1) := by decide +kernel
theorem dX0_distance_86 : decode cX0_distance 86 = .ok (.iconst 0, 1) := by decide +kernel
theorem dX0_distance_87 : decode cX0_distance 87 = .ok (.invokevirtual 77, 3) := by decide +kernel
theorem dX0_distance_90 : decode cX0_distance 90 = .ok (.istore 9, 2) := by decide +kernel
theorem dX0_distance_92 : decode cX0_distance 92 = .ok (.aload_n 0, 1) := by decide +kernel
theorem dX0_distance_93 : decode cX0_distance 93 = .ok (.getfield 18, 3) := by decide +kernel
theorem dX0_distance_96 : decode cX0_distance 96 = .ok (.iload 4, 2) := by decide +kernel
theorem dX0_distance_98 : decode cX0_distance 98 = .ok (.invokestatic 53, 3) := by decide +kernel
theorem dX0_distance_101 : decode cX0_distance 101 = .ok (.istore 10, 2) := by decide +kernel
theorem dX0_distance_103 : decode cX0_distance 103 = .ok (.aload_n 0, 1) := by decide +kernel
theorem dX0_distance_104 : decode cX0_distance 104 = .ok (.getfield 18, 3) := by decide +kernel
theorem dX0_distance_107 : decode cX0_distance 107 = .ok (.iload 4, 2) := by decide +kernel
theorem dX0_distance_109 : decode cX0_distance 109 = .ok (.iconst 1, 1) := by decide +kernel
theorem dX0_distance_110 : decode cX0_distance 110 = .ok (.iadd, 1) := by decide +kernel
theorem dX0_distance_111 : decode cX0_distance 111 = .ok (.invokestatic 53, 3) := by decide +kernel
theorem dX0_distance_114 : decode cX0_distance 114 = .ok (.iload 10, 2) := by decide +kernel
theorem dX0_distance_116 : decode cX0_distance 116 = .ok (.isub, 1) := by decide +kernel
theorem dX0_distance_117 : decode cX0_distance 117 = .ok (.istore 11, 2) := by decide +kernel
theorem dX0_distance_119 : decode cX0_distance 119 = .ok (.iconst 1, 1) := by decide +kernel
theorem dX0_distance_120 : decode cX0_distance 120 = .ok (.istore 12, 2) := by decide +kernel
theorem dX0_distance_122 : decode cX0_distance 122 = .ok (.iload 12, 2) := by decide +kernel
theorem dX0_distance_124 : decode cX0_distance 124 = .ok (.iload 11, 2) := by decide +kernel
theorem dX0_distance_126 : decode cX0_distance 126 = .ok (.if_icmp .ge 67, 3) := by decide +kernel
theorem dX0_distance_129 : decode cX0_distance 129 = .ok (.iload_n 3, 1) := by decide +kernel
theorem dX0_distance_130 : decode cX0_distance 130 = .ok (.iload_n 2, 1) := by decide +kernel
theorem dX0_distance_131 : decode cX0_distance 131 = .ok (.if_icmp .ge 62, 3) := by decide +kernel
theorem dX0_distance_134 : decode cX0_distance 134 = .ok (.iload 7, 2) := by decide +kernel
theorem dX0_distance_136 : decode cX0_distance 136 = .ok (.ifCond .eq 8, 3) := by decide +kernel
theorem dX0_distance_139 : decode cX0_distance 139 = .ok (.iload 5, 2) := by decide +kernel
theorem dX0_distance_141 : decode cX0_distance 141 = .ok (.goto 24, 3) := by decide +kernel
theorem dX0_distance_144 : decode cX0_distance 144 = .ok (.iload 5, 2) := by decide +kernel
theorem dX0_distance_146 : decode cX0_distance 146 = .ok (.i2l, 1) := by decide +kernel
theorem dX0_distance_147 : decode cX0_distance 147 = .ok (.iload 6, 2) := by decide +kernel
theorem dX0_distance_149 : decode cX0_distance 149 = .ok (.i2l, 1) := by decide +kernel
theorem dX0_distance_150 : decode cX0_distance 150 = .ok (.iload 8, 2) := by decide +kernel
theorem dX0_distance_152 : decode cX0_distance 152 = .ok (.i2l, 1) := by decide +kernel
theorem dX0_distance_153 : decode cX0_distance 153 = .ok (.iload 9, 2) := by decide +kernel
theorem dX0_distance_155 : decode cX0_distance 155 = .ok (.i2l, 1) := by decide +kernel
theorem dX0_distance_156 : decode cX0_distance 156 = .ok (.iload 11, 2) := by decide +kernel
theorem dX0_distance_158 : decode cX0_distance 158 = .ok (.i2l, 1) := by decide +kernel
theorem dX0_distance_159 : decode cX0_distance 159 = .ok (.iload 12, 2) := by decide +kernel
theorem dX0_distance_161 : decode cX0_distance 161 = .ok (.i2l, 1) := by decide +kernel
theorem dX0_distance_162 : decode cX0_distance 162 = .ok (.invokestatic 148, 3) := by decide +kernel
theorem dX0_distance_165 : decode cX0_distance 165 = .ok (.istore 13, 2) := by decide +kernel
theorem dX0_distance_167 : decode cX0_distance 167 = .ok (.iload_n 3, 1) := by decide +kernel
theorem dX0_distance_168 : decode cX0_distance 168 = .ok (.iload 13, 2) := by decide +kernel
theorem dX0_distance_170 : decode cX0_distance 170 = .ok (.aload_n 1, 1) := by decide +kernel
theorem dX0_distance_171 : decode cX0_distance 171 = .ok (.iload 10, 2) := by decide +kernel
theorem dX0_distance_173 : decode cX0_distance 173 = .ok (.iload 12, 2) := by decide +kernel
theorem dX0_distance_175 : decode cX0_distance 175 = .ok (.iadd, 1) := by decide +kernel
theorem dX0_distance_176 : decode cX0_distance 176 = .ok (.invokestatic 53, 3) := by decide +kernel
theorem dX0_distance_179 : decode cX0_distance 179 = .ok (.isub, 1) := by decide +kernel
theorem dX0_distance_180 : decode cX0_distance 180 = .ok (.invokestatic 129, 3) := by decide +kernel
theorem dX0_distance_183 : decode cX0_distance 183 = .ok (.invokestatic 126, 3) := by decide +kernel
theorem dX0_distance_186 : decode cX0_distance 186 = .ok (.istore_n 3, 1) := by decide +kernel
theorem dX0_distance_187 : decode cX0_distance 187 = .ok (.iinc 12 1, 3) := by decide +kernel
theorem dX0_distance_190 : decode cX0_distance 190 = .ok (.goto (-68), 3) := by decide +kernel
theorem dX0_distance_193 : decode cX0_distance 193 = .ok (.iinc 4 1, 3) := by decide +kernel
theorem dX0_distance_196 : decode cX0_distance 196 = .ok (.goto (-191), 3) := by decide +kernel
theorem dX0_distance_199 : decode cX0_distance 199 = .ok (.iload_n 3, 1) := by decide +kernel
theorem dX0_distance_200 : decode cX0_distance 200 = .ok (.ireturn, 1) := by decide +kernel
theorem dX0_addTo_0 : decode cX0_addTo 0 = .ok (.ldc2_w 154, 3) := by decide +kernel
theorem dX0_addTo_3 : decode cX0_addTo 3 = .ok (.lload_n 1, 1) := by decide +kernel
theorem dX0_addTo_4 : decode cX0_addTo 4 = .ok (.lmul, 1) := by decide +kernel
theorem dX0_addTo_5 : decode cX0_addTo 5 = .ok (.aload_n 0, 1) := by decide +kernel
theorem dX0_addTo_6 : decode cX0_addTo 6 = .ok (.getfield 38, 3) := by decide +kernel
theorem dX0_addTo_9 : decode cX0_addTo 9 = .ok (.i2l, 1) := by decide +kernel
theorem dX0_addTo_10 : decode cX0_addTo 10 = .ok (.ladd, 1) := by decide +kernel
theorem dX0_addTo_11 : decode cX0_addTo 11 = .ok (.lstore_n 3, 1) := by decide +kernel
theorem dX0_addTo_12 : decode cX0_addTo 12 = .ok (.iconst 0, 1) := by decide +kernel
theorem dX0_addTo_13 : decode cX0_addTo 13 = .ok (.istore 5, 2) := by decide +kernel
theorem dX0_addTo_15 : decode cX0_addTo 15 = .ok (.iload 5, 2) := by decide +kernel
theorem dX0_addTo_17 : decode cX0_addTo 17 = .ok (.aload_n 0, 1) := by decide +kernel
theorem dX0_addTo_18 : decode cX0_addTo 18 = .ok (.getfield 38, 3) := by decide +kernel
theorem dX0_addTo_21 : decode cX0_addTo 21 = .ok (.if_icmp .ge 90, 3) := by decide +kernel
theorem dX0_addTo_24 : decode cX0_addTo 24 = .ok (.ldc2_w 154, 3) := by decide +kernel
theorem dX0_addTo_27 : decode cX0_addTo 27 = .ok (.lload_n 3, 1) := by decide +kernel
theorem dX0_addTo_28 : decode cX0_addTo 28 = .ok (.lmul, 1) := by decide +kernel
theorem dX0_addTo_29 : decode cX0_addTo 29 = .ok (.aload_n 0, 1) := by decide +kernel
theorem dX0_addTo_30 : decode cX0_addTo 30 = .ok (.getfield 18, 3) := by decide +kernel
theorem dX0_addTo_33 : decode cX0_addTo 33 = .ok (.iload 5, 2) := by decide +kernel
theorem dX0_addTo_35 : decode cX0_addTo 35 = .ok (.invokestatic 53, 3) := by decide +kernel
theorem dX0_addTo_38 : decode cX0_addTo 38 = .ok (.i2l, 1) := by decide +kernel
theorem dX0_addTo_39 : decode cX0_addTo 39 = .ok (.ladd, 1) := by decide +kernel
theorem dX0_addTo_40 : decode cX0_addTo 40 = .ok (.lstore_n 3, 1) := by decide +kernel
theorem dX0_addTo_41 : decode cX0_addTo 41 = .ok (.ldc2_w 154, 3) := by decide +kernel
theorem dX0_addTo_44 : decode cX0_addTo 44 = .ok (.lload_n 3, 1) := by decide +kernel
theorem dX0_addTo_45 : decode cX0_addTo 45 = .ok (.lmul, 1) := by decide +kernel
theorem dX0_addTo_46 : decode cX0_addTo 46 = .ok (.aload_n 0, 1) := by decide +kernel
theorem dX0_addTo_47 : decode cX0_addTo 47 = .ok (.getfield 22, 3) := by decide +kernel
theorem dX0_addTo_50 : decode cX0_addTo 50 = .ok (.iload 5, 2) := by decide +kernel
theorem dX0_addTo_52 : decode cX0_addTo 52 = .ok (.invokestatic 53, 3) := by decide +kernel
theorem dX0_addTo_55 : decode cX0_addTo 55 = .ok (.i2l, 1) := by decide +kernel
theorem dX0_addTo_56 : decode cX0_addTo 56 = .ok (.ladd, 1) := by decide +kernel
theorem dX0_addTo_57 : decode cX0_addTo 57 = .ok (.lstore_n 3, 1) := by decide +kernel
theorem dX0_addTo_58 : decode cX0_addTo 58 = .ok (.ldc2_w 154, 3) := by decide +kernel
theorem dX0_addTo_61 : decode cX0_addTo 61 = .ok (.lload_n 3, 1) := by decide +kernel
theorem dX0_addTo_62 : decode cX0_addTo 62 = .ok (.lmul, 1) := by decide +kernel
theorem dX0_addTo_63 : decode cX0_addTo 63 = .ok (.aload_n 0, 1) := by decide +kernel
theorem dX0_addTo_64 : decode cX0_addTo 64 = .ok (.getfield 25, 3) := by decide +kernel
theorem dX0_addTo_67 : decode cX0_addTo 67 = .ok (.iload 5, 2) := by decide +kernel
theorem dX0_addTo_69 : decode cX0_addTo 69 = .ok (.invokestatic 53, 3) := by decide +kernel
theorem dX0_addTo_72 : decode cX0_addTo 72 = .ok (.i2l, 1) := by decide +kernel
theorem dX0_addTo_73 : decode cX0_addTo 73 = .ok (.ladd, 1) := by decide +kernel
theorem dX0_addTo_74 : decode cX0_addTo 74 = .ok (.lstore_n 3, 1) := by decide +kernel
theorem dX0_addTo_75 : decode cX0_addTo 75 = .ok (.ldc2_w 154, 3) := by decide +kernel
theorem dX0_addTo_78 : decode cX0_addTo 78 = .ok (.lload_n 3, 1) := by decide +kernel
theorem dX0_addTo_79 : decode cX0_addTo 79 = .ok (.lmul, 1) := by decide +kernel
theorem dX0_addTo_80 : decode cX0_addTo 80 = .ok (.aload_n 0, 1) := by decide +kernel
theorem dX0_addTo_81 : decode cX0_addTo 81 = .ok (.iload 5, 2) := by decide +kernel
theorem dX0_addTo_83 : decode cX0_addTo 83 = .ok (.iconst 0, 1) := by decide +kernel
theorem dX0_addTo_84 : decode cX0_addTo 84 = .ok (.invokevirtual 77, 3) := by decide +kernel
theorem dX0_addTo_87 : decode cX0_addTo 87 = .ok (.i2l, 1) := by decide +kernel
theorem dX0_addTo_88 : decode cX0_addTo 88 = .ok (.ladd, 1) := by decide +kernel
theorem dX0_addTo_89 : decode cX0_addTo 89 = .ok (.lstore_n 3, 1) := by decide +kernel
theorem dX0_addTo_90 : decode cX0_addTo 90 = .ok (.ldc2_w 154, 3) := by decide +kernel
theorem dX0_addTo_93 : decode cX0_addTo 93 = .ok (.lload_n 3, 1) := by decide +kernel
theorem dX0_addTo_94 : decode cX0_addTo 94 = .ok (.lmul, 1) := by decide +kernel
theorem dX0_addTo_95 : decode cX0_addTo 95 = .ok (.aload_n 0, 1) := by decide +kernel
theorem dX0_addTo_96 : decode cX0_addTo 96 = .ok (.iload 5, 2) := by decide +kernel
theorem dX0_addTo_98 : decode cX0_addTo 98 = .ok (.iconst 1, 1) := by decide +kernel
theorem dX0_addTo_99 : decode cX0_addTo 99 = .ok (.invokevirtual 77, 3) := by decide +kernel
theorem dX0_addTo_102 : decode cX0_addTo 102 = .ok (.i2l, 1) := by decide +kernel
theorem dX0_addTo_103 : decode cX0_addTo 103 = .ok (.ladd, 1) := by decide +kernel
theorem dX0_addTo_104 : decode cX0_addTo 104 = .ok (.lstore_n 3, 1) := by decide +kernel
theorem dX0_addTo_105 : decode cX0_addTo 105 = .ok (.iinc 5 1, 3) := by decide +kernel
theorem dX0_addTo_108 : decode cX0_addTo 108 = .ok (.goto (-93), 3) := by decide +kernel
theorem dX0_addTo_111 : decode cX0_addTo 111 = .ok (.ldc2_w 154, 3) := by decide +kernel
theorem dX0_addTo_114 : decode cX0_addTo 114 = .ok (.lload_n 3, 1) := by decide +kernel
theorem dX0_addTo_115 : decode cX0_addTo 115 = .ok (.lmul, 1) := by decide +kernel
theorem dX0_addTo_116 : decode cX0_addTo 116 = .ok (.aload_n 0, 1) := by decide +kernel
theorem dX0_addTo_117 : decode cX0_addTo 117 = .ok (.invokevirtual 156, 3) := by decide +kernel
theorem dX0_addTo_120 : decode cX0_addTo 120 = .ok (.i2l, 1) := by decide +kernel
theorem dX0_addTo_121 : decode cX0_addTo 121 = .ok (.ladd, 1) := by decide +kernel
theorem dX0_addTo_122 : decode cX0_addTo 122 = .ok (.lstore_n 3, 1) := by decide +kernel
theorem dX0_addTo_123 : decode cX0_addTo 123 = .ok (.iconst 0, 1) := by decide +kernel
theorem dX0_addTo_124 : decode cX0_addTo 124 = .ok (.istore 5, 2) := by decide +kernel
theorem dX0_addTo_126 : decode cX0_addTo 126 = .ok (.iload 5, 2) := by decide +kernel
theorem dX0_addTo_128 : decode cX0_addTo 128 = .ok (.sipush 960, 3) := by decide +kernel
theorem dX0_addTo_131 : decode cX0_addTo 131 = .ok (.if_icmp .gt 30, 3) := by decide +kernel
theorem dX0_addTo_134 : decode cX0_addTo 134 = .ok (.aload_n 0, 1) := by decide +kernel
theorem dX0_addTo_135 : decode cX0_addTo 135 = .ok (.getfield 38, 3) := by decide +kernel
theorem dX0_addTo_138 : decode cX0_addTo 138 = .ok (.ifCond .le 23, 3) := by decide +kernel
theorem dX0_addTo_141 : decode cX0_addTo 141 = .ok (.ldc2_w 154, 3) := by decide +kernel
theorem dX0_addTo_144 : decode cX0_addTo 144 = .ok (.lload_n 3, 1) := by decide +kernel
theorem dX0_addTo_145 : decode cX0_addTo 145 = .ok (.lmul, 1) := by decide +kernel
theorem dX0_addTo_146 : decode cX0_addTo 146 = .ok (.aload_n 0, 1) := by decide +kernel
theorem dX0_addTo_147 : decode cX0_addTo 147 = .ok (.iload 5, 2) := by decide +kernel
theorem dX0_addTo_149 : decode cX0_addTo 149 = .ok (.invokevirtual 85, 3) := by decide +kernel
theorem dX0_addTo_152 : decode cX0_addTo 152 = .ok (.i2l, 1) := by decide +kernel
theorem dX0_addTo_153 : decode cX0_addTo 153 = .ok (.ladd, 1) := by decide +kernel
theorem dX0_addTo_154 : decode cX0_addTo 154 = .ok (.lstore_n 3, 1) := by decide +kernel
theorem dX0_addTo_155 : decode cX0_addTo 155 = .ok (.iinc 5 60, 3) := by decide +kernel
theorem dX0_addTo_158 : decode cX0_addTo 158 = .ok (.goto (-32), 3) := by decide +kernel
theorem dX0_addTo_161 : decode cX0_addTo 161 = .ok (.lload_n 3, 1) := by decide +kernel
theorem dX0_addTo_162 : decode cX0_addTo 162 = .ok (.lreturn, 1) := by decide +kernel
theorem dX1_init_0 : decode cX1_init 0 = .ok (.aload_n 0, 1) := by decide +kernel
theorem dX1_init_1 : decode cX1_init 1 = .ok (.invokespecial 3, 3) := by decide +kernel
theorem dX1_init_4 : decode cX1_init 4 = .ok (.aload_n 0, 1) := by decide +kernel
theorem dX1_init_5 : decode cX1_init 5 = .ok (.new 9, 3) := by decide +kernel
theorem dX1_init_8 : decode cX1_init 8 = .ok (.dup, 1) := by decide +kernel
theorem dX1_init_9 : decode cX1_init 9 = .ok (.invokespecial 11, 3) := by decide +kernel
theorem dX1_init_12 : decode cX1_init 12 = .ok (.putfield 12, 3) := by decide +kernel
theorem dX1_init_15 : decode cX1_init 15 = .ok (.return_, 1) := by decide +kernel
theorem dX1_read_0 : decode cX1_read 0 = .ok (.aload_n 1, 1) := by decide +kernel
theorem dX1_read_1 : decode cX1_read 1 = .ok (.invokevirtual 18, 3) := by decide +kernel
theorem dX1_read_4 : decode cX1_read 4 = .ok (.aload_n 0, 1) := by decide +kernel
theorem dX1_read_5 : decode cX1_read 5 = .ok (.getfield 12, 3) := by decide +kernel
theorem dX1_read_8 : decode cX1_read 8 = .ok (.iconst 0, 1) := by decide +kernel
theorem dX1_read_9 : decode cX1_read 9 = .ok (.putfield 23, 3) := by decide +kernel
theorem dX1_read_12 : decode cX1_read 12 = .ok (.aload_n 0, 1) := by decide +kernel
theorem dX1_read_13 : decode cX1_read 13 = .ok (.aload_n 1, 1) := by decide +kernel
theorem dX1_read_14 : decode cX1_read 14 = .ok (.invokevirtual 27, 3) := by decide +kernel
theorem dX1_read_17 : decode cX1_read 17 = .ok (.iconst 1, 1) := by decide +kernel
theorem dX1_read_18 : decode cX1_read 18 = .ok (.istore_n 2, 1) := by decide +kernel
theorem dX1_read_19 : decode cX1_read 19 = .ok (.iload_n 2, 1) := by decide +kernel
theorem dX1_read_20 : decode cX1_read 20 = .ok (.bipush 24, 2) := by decide +kernel
theorem dX1_read_22 : decode cX1_read 22 = .ok (.if_icmp .ge 23, 3) := by decide +kernel
theorem dX1_read_25 : decode cX1_read 25 = .ok (.aload_n 1, 1) := by decide +kernel
theorem dX1_read_26 : decode cX1_read 26 = .ok (.bipush 44, 2) := by decide +kernel
theorem dX1_read_28 : decode cX1_read 28 = .ok (.invokevirtual 31, 3) := by decide +kernel
theorem dX1_read_31 : decode cX1_read 31 = .ok (.ifCond .eq 14, 3) := by decide +kernel
theorem dX1_read_34 : decode cX1_read 34 = .ok (.aload_n 0, 1) := by decide +kernel
theorem dX1_read_35 : decode cX1_read 35 = .ok (.aload_n 1, 1) := by decide +kernel
theorem dX1_read_36 : decode cX1_read 36 = .ok (.invokevirtual 27, 3) := by decide +kernel
theorem dX1_read_39 : decode cX1_read 39 = .ok (.iinc 2 1, 3) := by decide +kernel
theorem dX1_read_42 : decode cX1_read 42 = .ok (.goto (-23), 3) := by decide +kernel
theorem dX1_read_45 : decode cX1_read 45 = .ok (.aload_n 1, 1) := by decide +kernel
theorem dX1_read_46 : decode cX1_read 46 = .ok (.bipush 59, 2) := by decide +kernel
theorem dX1_read_48 : decode cX1_read 48 = .ok (.invokevirtual 35, 3) := by decide +kernel
theorem dX1_read_51 : decode cX1_read 51 = .ok (.aload_n 1, 1) := by decide +kernel
theorem dX1_read_52 : decode cX1_read 52 = .ok (.invokevirtual 39, 3) := by decide +kernel
theorem dX1_read_55 : decode cX1_read 55 = .ok (.ireturn, 1) := by decide +kernel
theorem dX1_key_0 : decode cX1_key 0 = .ok (.aload_n 1, 1) := by decide +kernel
theorem dX1_key_1 : decode cX1_key 1 = .ok (.getfield 43, 3) := by decide +kernel
theorem dX1_key_4 : decode cX1_key 4 = .ok (.istore_n 2, 1) := by decide +kernel
theorem dX1_key_5 : decode cX1_key 5 = .ok (.aload_n 1, 1) := by decide +kernel
theorem dX1_key_6 : decode cX1_key 6 = .ok (.invokevirtual 46, 3) := by decide +kernel
theorem dX1_key_9 : decode cX1_key 9 = .ok (.istore_n 3, 1) := by decide +kernel
theorem dX1_key_10 : decode cX1_key 10 = .ok (.iload_n 3, 1) := by decide +kernel
theorem dX1_key_11 : decode cX1_key 11 = .ok (.sipush 480, 3) := by decide +kernel
theorem dX1_key_14 : decode cX1_key 14 = .ok (.if_icmp .gt 36, 3) := by decide +kernel
theorem dX1_key_17 : decode cX1_key 17 = .ok (.aload_n 0, 1) := by decide +kernel
theorem dX1_key_18 : decode cX1_key 18 = .ok (.getfield 12, 3) := by decide +kernel
theorem dX1_key_21 : decode cX1_key 21 = .ok (.getfield 23, 3) := by decide +kernel
theorem dX1_key_24 : decode cX1_key 24 = .ok (.ifCond .le 31, 3) := by decide +kernel
theorem dX1_key_27 : decode cX1_key 27 = .ok (.iload_n 3, 1) := by decide +kernel
theorem dX1_key_28 : decode cX1_key 28 = .ok (.aload_n 0, 1) := by decide +kernel
theorem dX1_key_29 : decode cX1_key 29 = .ok (.getfield 12, 3) := by decide +kernel
theorem dX1_key_32 : decode cX1_key 32 = .ok (.getfield 49, 3) := by decide +kernel
theorem dX1_key_35 : decode cX1_key 35 = .ok (.aload_n 0, 1) := by decide +kernel
theorem dX1_key_36 : decode cX1_key 36 = .ok (.getfield 12, 3) := by decide +kernel
theorem dX1_key_39 : decode cX1_key 39 = .ok (.getfield 23, 3) := by decide +kernel
theorem dX1_key_42 : decode cX1_key 42 = .ok (.iconst 1, 1) := by decide +kernel
theorem dX1_key_43 : decode cX1_key 43 = .ok (.isub, 1) := by decide +kernel
theorem dX1_key_44 : decode cX1_key 44 = .ok (.invokestatic 53, 3) := by decide +kernel
theorem dX1_key_47 : decode cX1_key 47 = .ok (.if_icmp .gt 8, 3) := by decide +kernel
theorem dX1_key_50 : decode cX1_key 50 = .ok (.aload_n 1, 1) := by decide +kernel
theorem dX1_key_51 : decode cX1_key 51 = .ok (.iload_n 2, 1) := by decide +kernel
theorem dX1_key_52 : decode cX1_key 52 = .ok (.invokevirtual 57, 3) := by decide +kernel
theorem dX1_key_55 : decode cX1_key 55 = .ok (.aload_n 1, 1) := by decide +kernel
theorem dX1_key_56 : decode cX1_key 56 = .ok (.bipush 58, 2) := by decide +kernel
theorem dX1_key_58 : decode cX1_key 58 = .ok (.invokevirtual 35, 3) := by decide +kernel
theorem dX1_key_61 : decode cX1_key 61 = .ok (.aload_n 1, 1) := by decide +kernel
theorem dX1_key_62 : decode cX1_key 62 = .ok (.bipush 45, 2) := by decide +kernel
theorem dX1_key_64 : decode cX1_key 64 = .ok (.invokevirtual 31, 3) := by decide +kernel
theorem dX1_key_67 : decode cX1_key 67 = .ok (.ifCond .eq 7, 3) := by decide +kernel
theorem dX1_key_70 : decode cX1_key 70 = .ok (.iconst (-1), 1) := by decide +kernel
theorem dX1_key_71 : decode cX1_key 71 = .ok (.goto 4, 3) := by decide +kernel
theorem dX1_key_74 : decode cX1_key 74 = .ok (.iconst 1, 1) := by decide +kernel
theorem dX1_key_75 : decode cX1_key 75 = .ok (.istore 4, 2) := by decide +kernel
theorem dX1_key_77 : decode cX1_key 77 = .ok (.iload 4, 2) := by decide +kernel
theorem dX1_key_79 : decode cX1_key 79 = .ok (.aload_n 1, 1) := by decide +kernel
theorem dX1_key_80 : decode cX1_key 80 = .ok (.invokevirtual 46, 3) := by decide +kernel
theorem dX1_key_83 : decode cX1_key 83 = .ok (.imul, 1) := by decide +kernel
theorem dX1_key_84 : decode cX1_key 84 = .ok (.istore 5, 2) := by decide +kernel
theorem dX1_key_86 : decode cX1_key 86 = .ok (.aload_n 0, 1) := by decide +kernel
theorem dX1_key_87 : decode cX1_key 87 = .ok (.getfield 12, 3) := by decide +kernel
theorem dX1_key_90 : decode cX1_key 90 = .ok (.iload_n 3, 1) := by decide +kernel
theorem dX1_key_91 : decode cX1_key 91 = .ok (.iload 5, 2) := by decide +kernel
theorem dX1_key_93 : decode cX1_key 93 = .ok (.aload_n 1, 1) := by decide +kernel
theorem dX1_key_94 : decode cX1_key 94 = .ok (.invokestatic 60, 3) := by decide +kernel
theorem dX1_key_97 : decode cX1_key 97 = .ok (.iconst 0, 1) := by decide +kernel
theorem dX1_key_98 : decode cX1_key 98 = .ok (.iconst 0, 1) := by decide +kernel
theorem dX1_key_99 : decode cX1_key 99 = .ok (.invokevirtual 64, 3) := by decide +kernel
theorem dX1_key_102 : decode cX1_key 102 = .ok (.pop, 1) := by decide +kernel
theorem dX1_key_103 : decode cX1_key 103 = .ok (.return_, 1) := by decide +kernel
theorem dX1_mode_0 : decode cX1_mode 0 = .ok (.aload_n 0, 1) := by decide +kernel
theorem dX1_mode_1 : decode cX1_mode 1 = .ok (.bipush 84, 2) := by decide +kernel
theorem dX1_mode_3 : decode cX1_mode 3 = .ok (.invokevirtual 31, 3) := by decide +kernel
theorem dX1_mode_6 : decode cX1_mode 6 = .ok (.ifCond .eq 5, 3) := by decide +kernel
theorem dX1_mode_9 : decode cX1_mode 9 = .ok (.iconst 1, 1) := by decide +kernel
theorem dX1_mode_10 : decode cX1_mode 10 = .ok (.ireturn, 1) := by decide +kernel
theorem dX1_mode_11 : decode cX1_mode 11 = .ok (.aload_n 0, 1) := by decide +kernel
theorem dX1_mode_12 : decode cX1_mode 12 = .ok (.bipush 76, 2) := by decide +kernel
theorem dX1_mode_14 : decode cX1_mode 14 = .ok (.invokevirtual 31, 3) := by decide +kernel
theorem dX1_mode_17 : decode cX1_mode 17 = .ok (.ifCond .eq 5, 3) := by decide +kernel
theorem dX1_mode_20 : decode cX1_mode 20 = .ok (.iconst 2, 1) := by decide +kernel
theorem dX1_mode_21 : decode cX1_mode 21 = .ok (.ireturn, 1) := by decide +kernel
theorem dX1_mode_22 : decode cX1_mode 22 = .ok (.aload_n 0, 1) := by decide +kernel
theorem dX1_mode_23 : decode cX1_mode 23 = .ok (.bipush 67, 2) := by decide +kernel
theorem dX1_mode_25 : decode cX1_mode 25 = .ok (.invokevirtual 31, 3) := by decide +kernel
theorem dX1_mode_28 : decode cX1_mode 28 = .ok (.ifCond .eq 5, 3) := by decide +kernel
theorem dX1_mode_31 : decode cX1_mode 31 = .ok (.iconst 4, 1) := by decide +kernel
theorem dX1_mode_32 : decode cX1_mode 32 = .ok (.ireturn, 1) := by decide +kernel
theorem dX1_mode_33 : decode cX1_mode 33 = .ok (.aload_n 0, 1) := by decide +kernel
theorem dX1_mode_34 : decode cX1_mode 34 = .ok (.bipush 77, 2) := by decide +kernel
theorem dX1_mode_36 : decode cX1_mode 36 = .ok (.invokevirtual 31, 3) := by decide +kernel
theorem dX1_mode_39 : decode cX1_mode 39 = .ok (.ifCond .eq 5, 3) := by decide +kernel
theorem dX1_mode_42 : decode cX1_mode 42 = .ok (.iconst 5, 1) := by decide +kernel
theorem dX1_mode_43 : decode cX1_mode 43 = .ok (.ireturn, 1) := by decide +kernel
theorem dX1_mode_44 : decode cX1_mode 44 = .ok (.aload_n 0, 1) := by decide +kernel
theorem dX1_mode_45 : decode cX1_mode 45 = .ok (.bipush 72, 2) := by decide +kernel
theorem dX1_mode_47 : decode cX1_mode 47 = .ok (.invokevirtual 31, 3) := by decide +kernel
theorem dX1_mode_50 : decode cX1_mode 50 = .ok (.ifCond .eq 6, 3) := by decide +kernel
theorem dX1_mode_53 : decode cX1_mode 53 = .ok (.bipush 6, 2) := by decide +kernel
theorem dX1_mode_55 : decode cX1_mode 55 = .ok (.ireturn, 1) := by decide +kernel
theorem dX1_mode_56 : decode cX1_mode 56 = .ok (.aload_n 0, 1) := by decide +kernel
theorem dX1_mode_57 : decode cX1_mode 57 = .ok (.bipush 65, 2) := by decide +kernel
theorem dX1_mode_59 : decode cX1_mode 59 = .ok (.invokevirtual 31, 3) := by decide +kernel
theorem dX1_mode_62 : decode cX1_mode 62 = .ok (.pop, 1) := by decide +kernel
theorem dX1_mode_63 : decode cX1_mode 63 = .ok (.iconst 3, 1) := by decide +kernel
theorem dX1_mode_64 : decode cX1_mode 64 = .ok (.ireturn, 1) := by decide +kernel
theorem dX2_init_0 : decode cX2_init 0 = .ok (.aload_n 0, 1) := by decide +kernel
theorem dX2_init_1 : decode cX2_init 1 = .ok (.invokespecial 3, 3) := by decide +kernel
theorem dX2_init_4 : decode cX2_init 4 = .ok (.aload_n 0, 1) := by decide +kernel
theorem dX2_init_5 : decode cX2_init 5 = .ok (.sipush 481, 3) := by decide +kernel
theorem dX2_init_8 : decode cX2_init 8 = .ok (.newarray .int, 2) := by decide +kernel
theorem dX2_init_10 : decode cX2_init 10 = .ok (.putfield 9, 3) := by decide +kernel
theorem dX2_init_13 : decode cX2_init 13 = .ok (.aload_n 0, 1) := by decide +kernel
theorem dX2_init_14 : decode cX2_init 14 = .ok (.new 15, 3) := by decide +kernel
theorem dX2_init_17 : decode cX2_init 17 = .ok (.dup, 1) := by decide +kernel
theorem dX2_init_18 : decode cX2_init 18 = .ok (.invokespecial 17, 3) := by decide +kernel
theorem dX2_init_21 : decode cX2_init 21 = .ok (.putfield 18, 3) := by decide +kernel
theorem dX2_init_24 : decode cX2_init 24 = .ok (.return_, 1) := by decide +kernel
theorem dX2_reduce_0 : decode cX2_reduce 0 = .ok (.aload_n 1, 1) := by decide +kernel
theorem dX2_reduce_1 : decode cX2_reduce 1 = .ok (.getfield 22, 3) := by decide +kernel
theorem dX2_reduce_4 : decode cX2_reduce 4 = .ok (.istore_n 3, 1) := by decide +kernel
theorem dX2_reduce_5 : decode cX2_reduce 5 = .ok (.iload_n 3, 1) := by decide +kernel
theorem dX2_reduce_6 : decode cX2_reduce 6 = .ok (.iconst 1, 1) := by decide +kernel
theorem dX2_reduce_7 : decode cX2_reduce 7 = .ok (.if_icmp .ge 7, 3) := by decide +kernel
theorem dX2_reduce_10 : decode cX2_reduce 10 = .ok (.iconst (-1), 1) := by decide +kernel
theorem dX2_reduce_11 : decode cX2_reduce 11 = .ok (.goto 13, 3) := by decide +kernel
theorem dX2_reduce_14 : decode cX2_reduce 14 = .ok (.aload_n 1, 1) := by decide +kernel
theorem dX2_reduce_15 : decode cX2_reduce 15 = .ok (.getfield 26, 3) := by decide +kernel
theorem dX2_reduce_18 : decode cX2_reduce 18 = .ok (.iload_n 3, 1) := by decide +kernel
theorem dX2_reduce_19 : decode cX2_reduce 19 = .ok (.iconst 1, 1) := by decide +kernel
theorem dX2_reduce_20 : decode cX2_reduce 20 = .ok (.isub, 1) := by decide +kernel
theorem dX2_reduce_21 : decode cX2_reduce 21 = .ok (.invokestatic 29, 3) := by decide +kernel
theorem dX2_reduce_24 : decode cX2_reduce 24 = .ok (.istore 4, 2) := by decide +kernel
theorem dX2_reduce_26 : decode cX2_reduce 26 = .ok (.iload_n 3, 1) := by decide +kernel
theorem dX2_reduce_27 : decode cX2_reduce 27 = .ok (.iconst 1, 1) := by decide +kernel
theorem dX2_reduce_28 : decode cX2_reduce 28 = .ok (.if_icmp .ge 7, 3) := by decide +kernel
theorem dX2_reduce_31 : decode cX2_reduce 31 = .ok (.iconst 0, 1) := by decide +kernel
theorem dX2_reduce_32 : decode cX2_reduce 32 = .ok (.goto 11, 3) := by decide +kernel
theorem dX2_reduce_35 : decode cX2_reduce 35 = .ok (.aload_n 1, 1) := by decide +kernel
theorem dX2_reduce_36 : decode cX2_reduce 36 = .ok (.getfield 26, 3) := by decide +kernel
theorem dX2_reduce_39 : decode cX2_reduce 39 = .ok (.iconst 0, 1) := by decide +kernel
theorem dX2_reduce_40 : decode cX2_reduce 40 = .ok (.invokestatic 29, 3) := by decide +kernel
theorem dX2_reduce_43 : decode cX2_reduce 43 = .ok (.istore 5, 2) := by decide +kernel
theorem dX2_reduce_45 : decode cX2_reduce 45 = .ok (.iload 5, 2) := by decide +kernel
theorem dX2_reduce_47 : decode cX2_reduce 47 = .ok (.iload 4, 2) := by decide +kernel
theorem dX2_reduce_49 : decode cX2_reduce 49 = .ok (.if_icmp .gt 24, 3) := by decide +kernel
theorem dX2_reduce_52 : decode cX2_reduce 52 = .ok (.aload_n 0, 1) := by decide +kernel
theorem dX2_reduce_53 : decode cX2_reduce 53 = .ok (.getfield 9, 3) := by decide +kernel
theorem dX2_reduce_56 : decode cX2_reduce 56 = .ok (.iload 5, 2) := by decide +kernel
theorem dX2_reduce_58 : decode cX2_reduce 58 = .ok (.aload_n 1, 1) := by decide +kernel
theorem dX2_reduce_59 : decode cX2_reduce 59 = .ok (.iload 5, 2) := by decide +kernel
end
section
theorem dX2_reduce_61 : decode cX2_reduce 61 = .ok (.invokevirtual 33, 3) := by decide +kernel
theorem dX2_reduce_64 : decode cX2_reduce 64 = .ok (.invokestatic 37, 3) := by decide +kernel
theorem dX2_reduce_67 : decode cX2_reduce 67 = .ok (.iinc 5 1, 3) := by decide +kernel
theorem dX2_reduce_70 : decode cX2_reduce 70 = .ok (.goto (-25), 3) := by decide +kernel
theorem dX2_reduce_73 : decode cX2_reduce 73 = .ok (.aload_n 0, 1) := by decide +kernel
theorem dX2_reduce_74 : decode cX2_reduce 74 = .ok (.aload_n 1, 1) := by decide +kernel
theorem dX2_reduce_75 : decode cX2_reduce 75 = .ok (.iload_n 2, 1) := by decide +kernel
theorem dX2_reduce_76 : decode cX2_reduce 76 = .ok (.invokevirtual 41, 3) := by decide +kernel
theorem dX2_reduce_79 : decode cX2_reduce 79 = .ok (.istore 5, 2) := by decide +kernel
theorem dX2_reduce_81 : decode cX2_reduce 81 = .ok (.iconst 0, 1) := by decide +kernel
theorem dX2_reduce_82 : decode cX2_reduce 82 = .ok (.istore 6, 2) := by decide +kernel
theorem dX2_reduce_84 : decode cX2_reduce 84 = .ok (.iload 6, 2) := by decide +kernel
theorem dX2_reduce_86 : decode cX2_reduce 86 = .ok (.bipush 24, 2) := by decide +kernel
theorem dX2_reduce_88 : decode cX2_reduce 88 = .ok (.if_icmp .ge 28, 3) := by decide +kernel
theorem dX2_reduce_91 : decode cX2_reduce 91 = .ok (.iload 5, 2) := by decide +kernel
theorem dX2_reduce_93 : decode cX2_reduce 93 = .ok (.ifCond .le 23, 3) := by decide +kernel
theorem dX2_reduce_96 : decode cX2_reduce 96 = .ok (.aload_n 1, 1) := by decide +kernel
theorem dX2_reduce_97 : decode cX2_reduce 97 = .ok (.iload 5, 2) := by decide +kernel
theorem dX2_reduce_99 : decode cX2_reduce 99 = .ok (.invokevirtual 45, 3) := by decide +kernel
theorem dX2_reduce_102 : decode cX2_reduce 102 = .ok (.aload_n 0, 1) := by decide +kernel
theorem dX2_reduce_103 : decode cX2_reduce 103 = .ok (.aload_n 1, 1) := by decide +kernel
theorem dX2_reduce_104 : decode cX2_reduce 104 = .ok (.iload_n 2, 1) := by decide +kernel
theorem dX2_reduce_105 : decode cX2_reduce 105 = .ok (.invokevirtual 41, 3) := by decide +kernel
theorem dX2_reduce_108 : decode cX2_reduce 108 = .ok (.istore 5, 2) := by decide +kernel
theorem dX2_reduce_110 : decode cX2_reduce 110 = .ok (.iinc 6 1, 3) := by decide +kernel
theorem dX2_reduce_113 : decode cX2_reduce 113 = .ok (.goto (-29), 3) := by decide +kernel
theorem dX2_reduce_116 : decode cX2_reduce 116 = .ok (.iload_n 3, 1) := by decide +kernel
theorem dX2_reduce_117 : decode cX2_reduce 117 = .ok (.aload_n 1, 1) := by decide +kernel
theorem dX2_reduce_118 : decode cX2_reduce 118 = .ok (.getfield 22, 3) := by decide +kernel
theorem dX2_reduce_121 : decode cX2_reduce 121 = .ok (.isub, 1) := by decide +kernel
theorem dX2_reduce_122 : decode cX2_reduce 122 = .ok (.ireturn, 1) := by decide +kernel
theorem dX2_cheapest_0 : decode cX2_cheapest 0 = .ok (.iconst (-1), 1) := by decide +kernel
theorem dX2_cheapest_1 : decode cX2_cheapest 1 = .ok (.istore_n 3, 1) := by decide +kernel
theorem dX2_cheapest_2 : decode cX2_cheapest 2 = .ok (.iload_n 2, 1) := by decide +kernel
theorem dX2_cheapest_3 : decode cX2_cheapest 3 = .ok (.iconst 1, 1) := by decide +kernel
theorem dX2_cheapest_4 : decode cX2_cheapest 4 = .ok (.iadd, 1) := by decide +kernel
theorem dX2_cheapest_5 : decode cX2_cheapest 5 = .ok (.istore 4, 2) := by decide +kernel
theorem dX2_cheapest_7 : decode cX2_cheapest 7 = .ok (.iconst 1, 1) := by decide +kernel
theorem dX2_cheapest_8 : decode cX2_cheapest 8 = .ok (.istore 5, 2) := by decide +kernel
theorem dX2_cheapest_10 : decode cX2_cheapest 10 = .ok (.iload 5, 2) := by decide +kernel
theorem dX2_cheapest_12 : decode cX2_cheapest 12 = .ok (.aload_n 1, 1) := by decide +kernel
theorem dX2_cheapest_13 : decode cX2_cheapest 13 = .ok (.getfield 22, 3) := by decide +kernel
theorem dX2_cheapest_16 : decode cX2_cheapest 16 = .ok (.iconst 1, 1) := by decide +kernel
theorem dX2_cheapest_17 : decode cX2_cheapest 17 = .ok (.isub, 1) := by decide +kernel
theorem dX2_cheapest_18 : decode cX2_cheapest 18 = .ok (.if_icmp .ge 55, 3) := by decide +kernel
theorem dX2_cheapest_21 : decode cX2_cheapest 21 = .ok (.aload_n 0, 1) := by decide +kernel
theorem dX2_cheapest_22 : decode cX2_cheapest 22 = .ok (.getfield 18, 3) := by decide +kernel
theorem dX2_cheapest_25 : decode cX2_cheapest 25 = .ok (.aload_n 1, 1) := by decide +kernel
theorem dX2_cheapest_26 : decode cX2_cheapest 26 = .ok (.invokevirtual 49, 3) := by decide +kernel
theorem dX2_cheapest_29 : decode cX2_cheapest 29 = .ok (.aload_n 0, 1) := by decide +kernel
theorem dX2_cheapest_30 : decode cX2_cheapest 30 = .ok (.getfield 18, 3) := by decide +kernel
theorem dX2_cheapest_33 : decode cX2_cheapest 33 = .ok (.iload 5, 2) := by decide +kernel
theorem dX2_cheapest_35 : decode cX2_cheapest 35 = .ok (.invokevirtual 45, 3) := by decide +kernel
theorem dX2_cheapest_38 : decode cX2_cheapest 38 = .ok (.aload_n 0, 1) := by decide +kernel
theorem dX2_cheapest_39 : decode cX2_cheapest 39 = .ok (.getfield 18, 3) := by decide +kernel
theorem dX2_cheapest_42 : decode cX2_cheapest 42 = .ok (.aload_n 0, 1) := by decide +kernel
theorem dX2_cheapest_43 : decode cX2_cheapest 43 = .ok (.getfield 9, 3) := by decide +kernel
theorem dX2_cheapest_46 : decode cX2_cheapest 46 = .ok (.iload 4, 2) := by decide +kernel
theorem dX2_cheapest_48 : decode cX2_cheapest 48 = .ok (.invokevirtual 53, 3) := by decide +kernel
theorem dX2_cheapest_51 : decode cX2_cheapest 51 = .ok (.istore 6, 2) := by decide +kernel
theorem dX2_cheapest_53 : decode cX2_cheapest 53 = .ok (.iload 6, 2) := by decide +kernel
theorem dX2_cheapest_55 : decode cX2_cheapest 55 = .ok (.iload 4, 2) := by decide +kernel
theorem dX2_cheapest_57 : decode cX2_cheapest 57 = .ok (.if_icmp .ge 10, 3) := by decide +kernel
theorem dX2_cheapest_60 : decode cX2_cheapest 60 = .ok (.iload 5, 2) := by decide +kernel
theorem dX2_cheapest_62 : decode cX2_cheapest 62 = .ok (.istore_n 3, 1) := by decide +kernel
theorem dX2_cheapest_63 : decode cX2_cheapest 63 = .ok (.iload 6, 2) := by decide +kernel
theorem dX2_cheapest_65 : decode cX2_cheapest 65 = .ok (.istore 4, 2) := by decide +kernel
theorem dX2_cheapest_67 : decode cX2_cheapest 67 = .ok (.iinc 5 1, 3) := by decide +kernel
theorem dX2_cheapest_70 : decode cX2_cheapest 70 = .ok (.goto (-60), 3) := by decide +kernel
theorem dX2_cheapest_73 : decode cX2_cheapest 73 = .ok (.iload_n 3, 1) := by decide +kernel
theorem dX2_cheapest_74 : decode cX2_cheapest 74 = .ok (.ireturn, 1) := by decide +kernel
theorem dX3_init_0 : decode cX3_init 0 = .ok (.aload_n 0, 1) := by decide +kernel
theorem dX3_init_1 : decode cX3_init 1 = .ok (.invokespecial 3, 3) := by decide +kernel
theorem dX3_init_4 : decode cX3_init 4 = .ok (.aload_n 0, 1) := by decide +kernel
theorem dX3_init_5 : decode cX3_init 5 = .ok (.iconst 1, 1) := by decide +kernel
theorem dX3_init_6 : decode cX3_init 6 = .ok (.putfield 9, 3) := by decide +kernel
theorem dX3_init_9 : decode cX3_init 9 = .ok (.aload_n 0, 1) := by decide +kernel
theorem dX3_init_10 : decode cX3_init 10 = .ok (.bipush 120, 2) := by decide +kernel
theorem dX3_init_12 : decode cX3_init 12 = .ok (.newarray .int, 2) := by decide +kernel
theorem dX3_init_14 : decode cX3_init 14 = .ok (.putfield 15, 3) := by decide +kernel
theorem dX3_init_17 : decode cX3_init 17 = .ok (.aload_n 0, 1) := by decide +kernel
theorem dX3_init_18 : decode cX3_init 18 = .ok (.bipush 120, 2) := by decide +kernel
theorem dX3_init_20 : decode cX3_init 20 = .ok (.newarray .int, 2) := by decide +kernel
theorem dX3_init_22 : decode cX3_init 22 = .ok (.putfield 19, 3) := by decide +kernel
theorem dX3_init_25 : decode cX3_init 25 = .ok (.return_, 1) := by decide +kernel
theorem dX3_copy_0 : decode cX3_copy 0 = .ok (.aload_n 0, 1) := by decide +kernel
theorem dX3_copy_1 : decode cX3_copy 1 = .ok (.aload_n 1, 1) := by decide +kernel
theorem dX3_copy_2 : decode cX3_copy 2 = .ok (.getfield 9, 3) := by decide +kernel
theorem dX3_copy_5 : decode cX3_copy 5 = .ok (.putfield 9, 3) := by decide +kernel
theorem dX3_copy_8 : decode cX3_copy 8 = .ok (.aload_n 1, 1) := by decide +kernel
theorem dX3_copy_9 : decode cX3_copy 9 = .ok (.getfield 15, 3) := by decide +kernel
theorem dX3_copy_12 : decode cX3_copy 12 = .ok (.aload_n 0, 1) := by decide +kernel
theorem dX3_copy_13 : decode cX3_copy 13 = .ok (.getfield 15, 3) := by decide +kernel
theorem dX3_copy_16 : decode cX3_copy 16 = .ok (.invokestatic 22, 3) := by decide +kernel
theorem dX3_copy_19 : decode cX3_copy 19 = .ok (.aload_n 1, 1) := by decide +kernel
theorem dX3_copy_20 : decode cX3_copy 20 = .ok (.getfield 19, 3) := by decide +kernel
theorem dX3_copy_23 : decode cX3_copy 23 = .ok (.aload_n 0, 1) := by decide +kernel
theorem dX3_copy_24 : decode cX3_copy 24 = .ok (.getfield 19, 3) := by decide +kernel
theorem dX3_copy_27 : decode cX3_copy 27 = .ok (.invokestatic 22, 3) := by decide +kernel
theorem dX3_copy_30 : decode cX3_copy 30 = .ok (.return_, 1) := by decide +kernel
theorem dX3_add_0 : decode cX3_add 0 = .ok (.aload_n 0, 1) := by decide +kernel
theorem dX3_add_1 : decode cX3_add 1 = .ok (.getfield 15, 3) := by decide +kernel
theorem dX3_add_4 : decode cX3_add 4 = .ok (.aload_n 0, 1) := by decide +kernel
theorem dX3_add_5 : decode cX3_add 5 = .ok (.getfield 9, 3) := by decide +kernel
theorem dX3_add_8 : decode cX3_add 8 = .ok (.iload_n 1, 1) := by decide +kernel
theorem dX3_add_9 : decode cX3_add 9 = .ok (.invokestatic 26, 3) := by decide +kernel
theorem dX3_add_12 : decode cX3_add 12 = .ok (.aload_n 0, 1) := by decide +kernel
theorem dX3_add_13 : decode cX3_add 13 = .ok (.getfield 19, 3) := by decide +kernel
theorem dX3_add_16 : decode cX3_add 16 = .ok (.aload_n 0, 1) := by decide +kernel
theorem dX3_add_17 : decode cX3_add 17 = .ok (.getfield 9, 3) := by decide +kernel
theorem dX3_add_20 : decode cX3_add 20 = .ok (.iload_n 2, 1) := by decide +kernel
theorem dX3_add_21 : decode cX3_add 21 = .ok (.invokestatic 26, 3) := by decide +kernel
theorem dX3_add_24 : decode cX3_add 24 = .ok (.aload_n 0, 1) := by decide +kernel
theorem dX3_add_25 : decode cX3_add 25 = .ok (.dup, 1) := by decide +kernel
theorem dX3_add_26 : decode cX3_add 26 = .ok (.getfield 9, 3) := by decide +kernel
theorem dX3_add_29 : decode cX3_add 29 = .ok (.iconst 1, 1) := by decide +kernel
theorem dX3_add_30 : decode cX3_add 30 = .ok (.iadd, 1) := by decide +kernel
theorem dX3_add_31 : decode cX3_add 31 = .ok (.putfield 9, 3) := by decide +kernel
theorem dX3_add_34 : decode cX3_add 34 = .ok (.return_, 1) := by decide +kernel
theorem dX3_operands_0 : decode cX3_operands 0 = .ok (.iconst 0, 1) := by decide +kernel
theorem dX3_operands_1 : decode cX3_operands 1 = .ok (.istore_n 1, 1) := by decide +kernel
theorem dX3_operands_2 : decode cX3_operands 2 = .ok (.iconst 0, 1) := by decide +kernel
theorem dX3_operands_3 : decode cX3_operands 3 = .ok (.istore_n 2, 1) := by decide +kernel
theorem dX3_operands_4 : decode cX3_operands 4 = .ok (.iload_n 2, 1) := by decide +kernel
theorem dX3_operands_5 : decode cX3_operands 5 = .ok (.aload_n 0, 1) := by decide +kernel
theorem dX3_operands_6 : decode cX3_operands 6 = .ok (.getfield 9, 3) := by decide +kernel
theorem dX3_operands_9 : decode cX3_operands 9 = .ok (.if_icmp .ge 35, 3) := by decide +kernel
theorem dX3_operands_12 : decode cX3_operands 12 = .ok (.aload_n 0, 1) := by decide +kernel
theorem dX3_operands_13 : decode cX3_operands 13 = .ok (.getfield 15, 3) := by decide +kernel
theorem dX3_operands_16 : decode cX3_operands 16 = .ok (.iload_n 2, 1) := by decide +kernel
theorem dX3_operands_17 : decode cX3_operands 17 = .ok (.invokestatic 30, 3) := by decide +kernel
theorem dX3_operands_20 : decode cX3_operands 20 = .ok (.istore_n 3, 1) := by decide +kernel
theorem dX3_operands_21 : decode cX3_operands 21 = .ok (.iload_n 1, 1) := by decide +kernel
theorem dX3_operands_22 : decode cX3_operands 22 = .ok (.iload_n 3, 1) := by decide +kernel
theorem dX3_operands_23 : decode cX3_operands 23 = .ok (.ifCond .eq 8, 3) := by decide +kernel
theorem dX3_operands_26 : decode cX3_operands 26 = .ok (.iload_n 3, 1) := by decide +kernel
theorem dX3_operands_27 : decode cX3_operands 27 = .ok (.iconst 1, 1) := by decide +kernel
theorem dX3_operands_28 : decode cX3_operands 28 = .ok (.if_icmp .ne 7, 3) := by decide +kernel
theorem dX3_operands_31 : decode cX3_operands 31 = .ok (.iconst 1, 1) := by decide +kernel
theorem dX3_operands_32 : decode cX3_operands 32 = .ok (.goto 4, 3) := by decide +kernel
theorem dX3_operands_35 : decode cX3_operands 35 = .ok (.iconst 0, 1) := by decide +kernel
theorem dX3_operands_36 : decode cX3_operands 36 = .ok (.iadd, 1) := by decide +kernel
theorem dX3_operands_37 : decode cX3_operands 37 = .ok (.istore_n 1, 1) := by decide +kernel
theorem dX3_operands_38 : decode cX3_operands 38 = .ok (.iinc 2 1, 3) := by decide +kernel
theorem dX3_operands_41 : decode cX3_operands 41 = .ok (.goto (-37), 3) := by decide +kernel
theorem dX3_operands_44 : decode cX3_operands 44 = .ok (.iload_n 1, 1) := by decide +kernel
theorem dX3_operands_45 : decode cX3_operands 45 = .ok (.ireturn, 1) := by decide +kernel
theorem dX4_init_0 : decode cX4_init 0 = .ok (.aload_n 0, 1) := by decide +kernel
theorem dX4_init_1 : decode cX4_init 1 = .ok (.invokespecial 3, 3) := by decide +kernel
theorem dX4_init_4 : decode cX4_init 4 = .ok (.aload_n 0, 1) := by decide +kernel
theorem dX4_init_5 : decode cX4_init 5 = .ok (.new 9, 3) := by decide +kernel
theorem dX4_init_8 : decode cX4_init 8 = .ok (.dup, 1) := by decide +kernel
theorem dX4_init_9 : decode cX4_init 9 = .ok (.invokespecial 11, 3) := by decide +kernel
theorem dX4_init_12 : decode cX4_init 12 = .ok (.putfield 12, 3) := by decide +kernel
theorem dX4_init_15 : decode cX4_init 15 = .ok (.return_, 1) := by decide +kernel
theorem dX4_read_0 : decode cX4_read 0 = .ok (.aload_n 1, 1) := by decide +kernel
theorem dX4_read_1 : decode cX4_read 1 = .ok (.invokevirtual 18, 3) := by decide +kernel
theorem dX4_read_4 : decode cX4_read 4 = .ok (.aload_n 0, 1) := by decide +kernel
theorem dX4_read_5 : decode cX4_read 5 = .ok (.getfield 12, 3) := by decide +kernel
theorem dX4_read_8 : decode cX4_read 8 = .ok (.iconst 0, 1) := by decide +kernel
theorem dX4_read_9 : decode cX4_read 9 = .ok (.putfield 23, 3) := by decide +kernel
theorem dX4_read_12 : decode cX4_read 12 = .ok (.aload_n 0, 1) := by decide +kernel
theorem dX4_read_13 : decode cX4_read 13 = .ok (.aload_n 1, 1) := by decide +kernel
theorem dX4_read_14 : decode cX4_read 14 = .ok (.iconst 0, 1) := by decide +kernel
theorem dX4_read_15 : decode cX4_read 15 = .ok (.invokevirtual 27, 3) := by decide +kernel
theorem dX4_read_18 : decode cX4_read 18 = .ok (.aload_n 1, 1) := by decide +kernel
theorem dX4_read_19 : decode cX4_read 19 = .ok (.invokevirtual 31, 3) := by decide +kernel
theorem dX4_read_22 : decode cX4_read 22 = .ok (.ireturn, 1) := by decide +kernel
theorem dX4_sum_0 : decode cX4_sum 0 = .ok (.aload_n 0, 1) := by decide +kernel
theorem dX4_sum_1 : decode cX4_sum 1 = .ok (.aload_n 1, 1) := by decide +kernel
theorem dX4_sum_2 : decode cX4_sum 2 = .ok (.iload_n 2, 1) := by decide +kernel
theorem dX4_sum_3 : decode cX4_sum 3 = .ok (.invokevirtual 35, 3) := by decide +kernel
theorem dX4_sum_6 : decode cX4_sum 6 = .ok (.iconst 0, 1) := by decide +kernel
theorem dX4_sum_7 : decode cX4_sum 7 = .ok (.istore_n 3, 1) := by decide +kernel
theorem dX4_sum_8 : decode cX4_sum 8 = .ok (.iload_n 3, 1) := by decide +kernel
theorem dX4_sum_9 : decode cX4_sum 9 = .ok (.bipush 120, 2) := by decide +kernel
theorem dX4_sum_11 : decode cX4_sum 11 = .ok (.if_icmp .ge 60, 3) := by decide +kernel
theorem dX4_sum_14 : decode cX4_sum 14 = .ok (.aload_n 1, 1) := by decide +kernel
theorem dX4_sum_15 : decode cX4_sum 15 = .ok (.invokevirtual 38, 3) := by decide +kernel
theorem dX4_sum_18 : decode cX4_sum 18 = .ok (.bipush 43, 2) := by decide +kernel
theorem dX4_sum_20 : decode cX4_sum 20 = .ok (.if_icmp .ne 7, 3) := by decide +kernel
theorem dX4_sum_23 : decode cX4_sum 23 = .ok (.iconst 2, 1) := by decide +kernel
theorem dX4_sum_24 : decode cX4_sum 24 = .ok (.goto 4, 3) := by decide +kernel
theorem dX4_sum_27 : decode cX4_sum 27 = .ok (.iconst 3, 1) := by decide +kernel
theorem dX4_sum_28 : decode cX4_sum 28 = .ok (.istore 4, 2) := by decide +kernel
theorem dX4_sum_30 : decode cX4_sum 30 = .ok (.aload_n 1, 1) := by decide +kernel
theorem dX4_sum_31 : decode cX4_sum 31 = .ok (.bipush 43, 2) := by decide +kernel
theorem dX4_sum_33 : decode cX4_sum 33 = .ok (.invokevirtual 41, 3) := by decide +kernel
theorem dX4_sum_36 : decode cX4_sum 36 = .ok (.ifCond .ne 13, 3) := by decide +kernel
theorem dX4_sum_39 : decode cX4_sum 39 = .ok (.aload_n 1, 1) := by decide +kernel
theorem dX4_sum_40 : decode cX4_sum 40 = .ok (.bipush 45, 2) := by decide +kernel
theorem dX4_sum_42 : decode cX4_sum 42 = .ok (.invokevirtual 41, 3) := by decide +kernel
theorem dX4_sum_45 : decode cX4_sum 45 = .ok (.ifCond .ne 4, 3) := by decide +kernel
theorem dX4_sum_48 : decode cX4_sum 48 = .ok (.return_, 1) := by decide +kernel
theorem dX4_sum_49 : decode cX4_sum 49 = .ok (.aload_n 0, 1) := by decide +kernel
theorem dX4_sum_50 : decode cX4_sum 50 = .ok (.aload_n 1, 1) := by decide +kernel
theorem dX4_sum_51 : decode cX4_sum 51 = .ok (.iload_n 2, 1) := by decide +kernel
theorem dX4_sum_52 : decode cX4_sum 52 = .ok (.invokevirtual 35, 3) := by decide +kernel
theorem dX4_sum_55 : decode cX4_sum 55 = .ok (.aload_n 0, 1) := by decide +kernel
theorem dX4_sum_56 : decode cX4_sum 56 = .ok (.getfield 12, 3) := by decide +kernel
theorem dX4_sum_59 : decode cX4_sum 59 = .ok (.iload 4, 2) := by decide +kernel
theorem dX4_sum_61 : decode cX4_sum 61 = .ok (.iconst 0, 1) := by decide +kernel
theorem dX4_sum_62 : decode cX4_sum 62 = .ok (.invokevirtual 45, 3) := by decide +kernel
theorem dX4_sum_65 : decode cX4_sum 65 = .ok (.iinc 3 1, 3) := by decide +kernel
theorem dX4_sum_68 : decode cX4_sum 68 = .ok (.goto (-60), 3) := by decide +kernel
theorem dX4_sum_71 : decode cX4_sum 71 = .ok (.return_, 1) := by decide +kernel
theorem dX4_product_0 : decode cX4_product 0 = .ok (.aload_n 0, 1) := by decide +kernel
theorem dX4_product_1 : decode cX4_product 1 = .ok (.aload_n 1, 1) := by decide +kernel
theorem dX4_product_2 : decode cX4_product 2 = .ok (.iload_n 2, 1) := by decide +kernel
theorem dX4_product_3 : decode cX4_product 3 = .ok (.invokevirtual 49, 3) := by decide +kernel
theorem dX4_product_6 : decode cX4_product 6 = .ok (.iconst 0, 1) := by decide +kernel
theorem dX4_product_7 : decode cX4_product 7 = .ok (.istore_n 3, 1) := by decide +kernel
theorem dX4_product_8 : decode cX4_product 8 = .ok (.iload_n 3, 1) := by decide +kernel
theorem dX4_product_9 : decode cX4_product 9 = .ok (.bipush 120, 2) := by decide +kernel
theorem dX4_product_11 : decode cX4_product 11 = .ok (.if_icmp .ge 33, 3) := by decide +kernel
theorem dX4_product_14 : decode cX4_product 14 = .ok (.aload_n 1, 1) := by decide +kernel
theorem dX4_product_15 : decode cX4_product 15 = .ok (.bipush 42, 2) := by decide +kernel
theorem dX4_product_17 : decode cX4_product 17 = .ok (.invokevirtual 41, 3) := by decide +kernel
theorem dX4_product_20 : decode cX4_product 20 = .ok (.ifCond .eq 24, 3) := by decide +kernel
theorem dX4_product_23 : decode cX4_product 23 = .ok (.aload_n 0, 1) := by decide +kernel
theorem dX4_product_24 : decode cX4_product 24 = .ok (.aload_n 1, 1) := by decide +kernel
theorem dX4_product_25 : decode cX4_product 25 = .ok (.iload_n 2, 1) := by decide +kernel
theorem dX4_product_26 : decode cX4_product 26 = .ok (.invokevirtual 49, 3) := by decide +kernel
theorem dX4_product_29 : decode cX4_product 29 = .ok (.aload_n 0, 1) := by decide +kernel
theorem dX4_product_30 : decode cX4_product 30 = .ok (.getfield 12, 3) := by decide +kernel
theorem dX4_product_33 : decode cX4_product 33 = .ok (.iconst 4, 1) := by decide +kernel
theorem dX4_product_34 : decode cX4_product 34 = .ok (.iconst 0, 1) := by decide +kernel
theorem dX4_product_35 : decode cX4_product 35 = .ok (.invokevirtual 45, 3) := by decide +kernel
theorem dX4_product_38 : decode cX4_product 38 = .ok (.iinc 3 1, 3) := by decide +kernel
theorem dX4_product_41 : decode cX4_product 41 = .ok (.goto (-33), 3) := by decide +kernel
theorem dX4_product_44 : decode cX4_product 44 = .ok (.return_, 1) := by decide +kernel
theorem dX4_factor_0 : decode cX4_factor 0 = .ok (.aload_n 1, 1) := by decide +kernel
theorem dX4_factor_1 : decode cX4_factor 1 = .ok (.invokevirtual 38, 3) := by decide +kernel
theorem dX4_factor_4 : decode cX4_factor 4 = .ok (.istore_n 3, 1) := by decide +kernel
theorem dX4_factor_5 : decode cX4_factor 5 = .ok (.iload_n 3, 1) := by decide +kernel
theorem dX4_factor_6 : decode cX4_factor 6 = .ok (.bipush 97, 2) := by decide +kernel
theorem dX4_factor_8 : decode cX4_factor 8 = .ok (.if_icmp .lt 18, 3) := by decide +kernel
theorem dX4_factor_11 : decode cX4_factor 11 = .ok (.iload_n 3, 1) := by decide +kernel
theorem dX4_factor_12 : decode cX4_factor 12 = .ok (.bipush 100, 2) := by decide +kernel
theorem dX4_factor_14 : decode cX4_factor 14 = .ok (.if_icmp .gt 12, 3) := by decide +kernel
theorem dX4_factor_17 : decode cX4_factor 17 = .ok (.aload_n 0, 1) := by decide +kernel
theorem dX4_factor_18 : decode cX4_factor 18 = .ok (.aload_n 1, 1) := by decide +kernel
theorem dX4_factor_19 : decode cX4_factor 19 = .ok (.iload_n 3, 1) := by decide +kernel
theorem dX4_factor_20 : decode cX4_factor 20 = .ok (.invokevirtual 52, 3) := by decide +kernel
theorem dX4_factor_23 : decode cX4_factor 23 = .ok (.goto 98, 3) := by decide +kernel
theorem dX4_factor_26 : decode cX4_factor 26 = .ok (.iload_n 3, 1) := by decide +kernel
theorem dX4_factor_27 : decode cX4_factor 27 = .ok (.bipush 109, 2) := by decide +kernel
theorem dX4_factor_29 : decode cX4_factor 29 = .ok (.if_icmp .ne 12, 3) := by decide +kernel
theorem dX4_factor_32 : decode cX4_factor 32 = .ok (.aload_n 0, 1) := by decide +kernel
theorem dX4_factor_33 : decode cX4_factor 33 = .ok (.aload_n 1, 1) := by decide +kernel
theorem dX4_factor_34 : decode cX4_factor 34 = .ok (.iload_n 2, 1) := by decide +kernel
theorem dX4_factor_35 : decode cX4_factor 35 = .ok (.invokevirtual 55, 3) := by decide +kernel
theorem dX4_factor_38 : decode cX4_factor 38 = .ok (.goto 83, 3) := by decide +kernel
theorem dX4_factor_41 : decode cX4_factor 41 = .ok (.iload_n 3, 1) := by decide +kernel
theorem dX4_factor_42 : decode cX4_factor 42 = .ok (.bipush 40, 2) := by decide +kernel
theorem dX4_factor_44 : decode cX4_factor 44 = .ok (.if_icmp .ne 29, 3) := by decide +kernel
theorem dX4_factor_47 : decode cX4_factor 47 = .ok (.aload_n 1, 1) := by decide +kernel
theorem dX4_factor_48 : decode cX4_factor 48 = .ok (.iload_n 3, 1) := by decide +kernel
theorem dX4_factor_49 : decode cX4_factor 49 = .ok (.iload_n 2, 1) := by decide +kernel
theorem dX4_factor_50 : decode cX4_factor 50 = .ok (.invokestatic 58, 3) := by decide +kernel
theorem dX4_factor_53 : decode cX4_factor 53 = .ok (.ifCond .eq 68, 3) := by decide +kernel
theorem dX4_factor_56 : decode cX4_factor 56 = .ok (.aload_n 0, 1) := by decide +kernel
theorem dX4_factor_57 : decode cX4_factor 57 = .ok (.aload_n 1, 1) := by decide +kernel
theorem dX4_factor_58 : decode cX4_factor 58 = .ok (.iload_n 2, 1) := by decide +kernel
theorem dX4_factor_59 : decode cX4_factor 59 = .ok (.iconst 1, 1) := by decide +kernel
theorem dX4_factor_60 : decode cX4_factor 60 = .ok (.iadd, 1) := by decide +kernel
theorem dX4_factor_61 : decode cX4_factor 61 = .ok (.invokevirtual 27, 3) := by decide +kernel
theorem dX4_factor_64 : decode cX4_factor 64 = .ok (.aload_n 1, 1) := by decide +kernel
theorem dX4_factor_65 : decode cX4_factor 65 = .ok (.bipush 41, 2) := by decide +kernel
theorem dX4_factor_67 : decode cX4_factor 67 = .ok (.invokevirtual 62, 3) := by decide +kernel
theorem dX4_factor_70 : decode cX4_factor 70 = .ok (.goto 51, 3) := by decide +kernel
theorem dX4_factor_73 : decode cX4_factor 73 = .ok (.iload_n 3, 1) := by decide +kernel
theorem dX4_factor_74 : decode cX4_factor 74 = .ok (.bipush 45, 2) := by decide +kernel
theorem dX4_factor_76 : decode cX4_factor 76 = .ok (.if_icmp .ne 33, 3) := by decide +kernel
theorem dX4_factor_79 : decode cX4_factor 79 = .ok (.aload_n 1, 1) := by decide +kernel
theorem dX4_factor_80 : decode cX4_factor 80 = .ok (.iload_n 3, 1) := by decide +kernel
theorem dX4_factor_81 : decode cX4_factor 81 = .ok (.iload_n 2, 1) := by decide +kernel
theorem dX4_factor_82 : decode cX4_factor 82 = .ok (.invokestatic 58, 3) := by decide +kernel
theorem dX4_factor_85 : decode cX4_factor 85 = .ok (.ifCond .eq 36, 3) := by decide +kernel
theorem dX4_factor_88 : decode cX4_factor 88 = .ok (.aload_n 0, 1) := by decide +kernel
theorem dX4_factor_89 : decode cX4_factor 89 = .ok (.aload_n 1, 1) := by decide +kernel
theorem dX4_factor_90 : decode cX4_factor 90 = .ok (.iload_n 2, 1) := by decide +kernel
theorem dX4_factor_91 : decode cX4_factor 91 = .ok (.iconst 1, 1) := by decide +kernel
theorem dX4_factor_92 : decode cX4_factor 92 = .ok (.iadd, 1) := by decide +kernel
theorem dX4_factor_93 : decode cX4_factor 93 = .ok (.invokevirtual 49, 3) := by decide +kernel
theorem dX4_factor_96 : decode cX4_factor 96 = .ok (.aload_n 0, 1) := by decide +kernel
theorem dX4_factor_97 : decode cX4_factor 97 = .ok (.getfield 12, 3) := by decide +kernel
theorem dX4_factor_100 : decode cX4_factor 100 = .ok (.bipush 7, 2) := by decide +kernel
theorem dX4_factor_102 : decode cX4_factor 102 = .ok (.iconst 0, 1) := by decide +kernel
theorem dX4_factor_103 : decode cX4_factor 103 = .ok (.invokevirtual 45, 3) := by decide +kernel
theorem dX4_factor_106 : decode cX4_factor 106 = .ok (.goto 15, 3) := by decide +kernel
theorem dX4_factor_109 : decode cX4_factor 109 = .ok (.aload_n 0, 1) := by decide +kernel
theorem dX4_factor_110 : decode cX4_factor 110 = .ok (.getfield 12, 3) := by decide +kernel
theorem dX4_factor_113 : decode cX4_factor 113 = .ok (.iconst 0, 1) := by decide +kernel
theorem dX4_factor_114 : decode cX4_factor 114 = .ok (.aload_n 1, 1) := by decide +kernel
theorem dX4_factor_115 : decode cX4_factor 115 = .ok (.invokevirtual 66, 3) := by decide +kernel
theorem dX4_factor_118 : decode cX4_factor 118 = .ok (.invokevirtual 45, 3) := by decide +kernel
theorem dX4_factor_121 : decode cX4_factor 121 = .ok (.return_, 1) := by decide +kernel
theorem dX4_curve_0 : decode cX4_curve 0 = .ok (.aload_n 1, 1) := by decide +kernel
theorem dX4_curve_1 : decode cX4_curve 1 = .ok (.iload_n 2, 1) := by decide +kernel
theorem dX4_curve_2 : decode cX4_curve 2 = .ok (.invokevirtual 62, 3) := by decide +kernel
theorem dX4_curve_5 : decode cX4_curve 5 = .ok (.aload_n 1, 1) := by decide +kernel
theorem dX4_curve_6 : decode cX4_curve 6 = .ok (.bipush 64, 2) := by decide +kernel
theorem dX4_curve_8 : decode cX4_curve 8 = .ok (.invokevirtual 41, 3) := by decide +kernel
theorem dX4_curve_11 : decode cX4_curve 11 = .ok (.ifCond .eq 10, 3) := by decide +kernel
theorem dX4_curve_14 : decode cX4_curve 14 = .ok (.aload_n 1, 1) := by decide +kernel
theorem dX4_curve_15 : decode cX4_curve 15 = .ok (.invokevirtual 66, 3) := by decide +kernel
theorem dX4_curve_18 : decode cX4_curve 18 = .ok (.goto 4, 3) := by decide +kernel
theorem dX4_curve_21 : decode cX4_curve 21 = .ok (.iconst 0, 1) := by decide +kernel
theorem dX4_curve_22 : decode cX4_curve 22 = .ok (.istore_n 3, 1) := by decide +kernel
theorem dX4_curve_23 : decode cX4_curve 23 = .ok (.aload_n 0, 1) := by decide +kernel
theorem dX4_curve_24 : decode cX4_curve 24 = .ok (.getfield 12, 3) := by decide +kernel
theorem dX4_curve_27 : decode cX4_curve 27 = .ok (.iconst 1, 1) := by decide +kernel
theorem dX4_curve_28 : decode cX4_curve 28 = .ok (.iload_n 2, 1) := by decide +kernel
theorem dX4_curve_29 : decode cX4_curve 29 = .ok (.bipush 97, 2) := by decide +kernel
theorem dX4_curve_31 : decode cX4_curve 31 = .ok (.isub, 1) := by decide +kernel
theorem dX4_curve_32 : decode cX4_curve 32 = .ok (.sipush 1000, 3) := by decide +kernel
theorem dX4_curve_35 : decode cX4_curve 35 = .ok (.imul, 1) := by decide +kernel
theorem dX4_curve_36 : decode cX4_curve 36 = .ok (.iload_n 3, 1) := by decide +kernel
theorem dX4_curve_37 : decode cX4_curve 37 = .ok (.iadd, 1) := by decide +kernel
theorem dX4_curve_38 : decode cX4_curve 38 = .ok (.invokevirtual 45, 3) := by decide +kernel
theorem dX4_curve_41 : decode cX4_curve 41 = .ok (.return_, 1) := by decide +kernel
theorem dX4_choice_0 : decode cX4_choice 0 = .ok (.aload_n 1, 1) := by decide +kernel
theorem dX4_choice_1 : decode cX4_choice 1 = .ok (.bipush 109, 2) := by decide +kernel
theorem dX4_choice_3 : decode cX4_choice 3 = .ok (.invokevirtual 62, 3) := by decide +kernel
theorem dX4_choice_6 : decode cX4_choice 6 = .ok (.aload_n 1, 1) := by decide +kernel
theorem dX4_choice_7 : decode cX4_choice 7 = .ok (.bipush 105, 2) := by decide +kernel
theorem dX4_choice_9 : decode cX4_choice 9 = .ok (.invokevirtual 41, 3) := by decide +kernel
theorem dX4_choice_12 : decode cX4_choice 12 = .ok (.istore_n 3, 1) := by decide +kernel
theorem dX4_choice_13 : decode cX4_choice 13 = .ok (.iload_n 3, 1) := by decide +kernel
theorem dX4_choice_14 : decode cX4_choice 14 = .ok (.ifCond .ne 9, 3) := by decide +kernel
theorem dX4_choice_17 : decode cX4_choice 17 = .ok (.aload_n 1, 1) := by decide +kernel
theorem dX4_choice_18 : decode cX4_choice 18 = .ok (.bipush 97, 2) := by decide +kernel
theorem dX4_choice_20 : decode cX4_choice 20 = .ok (.invokevirtual 62, 3) := by decide +kernel
theorem dX4_choice_23 : decode cX4_choice 23 = .ok (.aload_n 1, 1) := by decide +kernel
theorem dX4_choice_24 : decode cX4_choice 24 = .ok (.iload_n 3, 1) := by decide +kernel
theorem dX4_choice_25 : decode cX4_choice 25 = .ok (.ifCond .eq 8, 3) := by decide +kernel
theorem dX4_choice_28 : decode cX4_choice 28 = .ok (.bipush 110, 2) := by decide +kernel
theorem dX4_choice_30 : decode cX4_choice 30 = .ok (.goto 5, 3) := by decide +kernel
theorem dX4_choice_33 : decode cX4_choice 33 = .ok (.bipush 120, 2) := by decide +kernel
theorem dX4_choice_35 : decode cX4_choice 35 = .ok (.invokevirtual 62, 3) := by decide +kernel
theorem dX4_choice_38 : decode cX4_choice 38 = .ok (.aload_n 1, 1) := by decide +kernel
theorem dX4_choice_39 : decode cX4_choice 39 = .ok (.bipush 40, 2) := by decide +kernel
theorem dX4_choice_41 : decode cX4_choice 41 = .ok (.iload_n 2, 1) := by decide +kernel
theorem dX4_choice_42 : decode cX4_choice 42 = .ok (.invokestatic 58, 3) := by decide +kernel
theorem dX4_choice_45 : decode cX4_choice 45 = .ok (.ifCond .eq 49, 3) := by decide +kernel
theorem dX4_choice_48 : decode cX4_choice 48 = .ok (.aload_n 0, 1) := by decide +kernel
theorem dX4_choice_49 : decode cX4_choice 49 = .ok (.aload_n 1, 1) := by decide +kernel
theorem dX4_choice_50 : decode cX4_choice 50 = .ok (.iload_n 2, 1) := by decide +kernel
theorem dX4_choice_51 : decode cX4_choice 51 = .ok (.iconst 1, 1) := by decide +kernel
theorem dX4_choice_52 : decode cX4_choice 52 = .ok (.iadd, 1) := by decide +kernel
theorem dX4_choice_53 : decode cX4_choice 53 = .ok (.invokevirtual 27, 3) := by decide +kernel
theorem dX4_choice_56 : decode cX4_choice 56 = .ok (.aload_n 1, 1) := by decide +kernel
theorem dX4_choice_57 : decode cX4_choice 57 = .ok (.bipush 44, 2) := by decide +kernel
theorem dX4_choice_59 : decode cX4_choice 59 = .ok (.invokevirtual 62, 3) := by decide +kernel
theorem dX4_choice_62 : decode cX4_choice 62 = .ok (.aload_n 0, 1) := by decide +kernel
theorem dX4_choice_63 : decode cX4_choice 63 = .ok (.aload_n 1, 1) := by decide +kernel
theorem dX4_choice_64 : decode cX4_choice 64 = .ok (.iload_n 2, 1) := by decide +kernel
theorem dX4_choice_65 : decode cX4_choice 65 = .ok (.iconst 1, 1) := by decide +kernel
theorem dX4_choice_66 : decode cX4_choice 66 = .ok (.iadd, 1) := by decide +kernel
theorem dX4_choice_67 : decode cX4_choice 67 = .ok (.invokevirtual 27, 3) := by decide +kernel
theorem dX4_choice_70 : decode cX4_choice 70 = .ok (.aload_n 1, 1) := by decide +kernel
theorem dX4_choice_71 : decode cX4_choice 71 = .ok (.bipush 41, 2) := by decide +kernel
theorem dX4_choice_73 : decode cX4_choice 73 = .ok (.invokevirtual 62, 3) := by decide +kernel
theorem dX4_choice_76 : decode cX4_choice 76 = .ok (.aload_n 0, 1) := by decide +kernel
theorem dX4_choice_77 : decode cX4_choice 77 = .ok (.getfield 12, 3) := by decide +kernel
theorem dX4_choice_80 : decode cX4_choice 80 = .ok (.iload_n 3, 1) := by decide +kernel
theorem dX4_choice_81 : decode cX4_choice 81 = .ok (.ifCond .eq 7, 3) := by decide +kernel
theorem dX4_choice_84 : decode cX4_choice 84 = .ok (.iconst 5, 1) := by decide +kernel
theorem dX4_choice_85 : decode cX4_choice 85 = .ok (.goto 5, 3) := by decide +kernel
theorem dX4_choice_88 : decode cX4_choice 88 = .ok (.bipush 6, 2) := by decide +kernel
theorem dX4_choice_90 : decode cX4_choice 90 = .ok (.iconst 0, 1) := by decide +kernel
theorem dX4_choice_91 : decode cX4_choice 91 = .ok (.invokevirtual 45, 3) := by decide +kernel
theorem dX4_choice_94 : decode cX4_choice 94 = .ok (.return_, 1) := by decide +kernel
theorem dX4_opens_0 : decode cX4_opens 0 = .ok (.iload_n 2, 1) := by decide +kernel
theorem dX4_opens_1 : decode cX4_opens 1 = .ok (.bipush 8, 2) := by decide +kernel
theorem dX4_opens_3 : decode cX4_opens 3 = .ok (.if_icmp .ge 13, 3) := by decide +kernel
theorem dX4_opens_6 : decode cX4_opens 6 = .ok (.aload_n 0, 1) := by decide +kernel
theorem dX4_opens_7 : decode cX4_opens 7 = .ok (.iload_n 1, 1) := by decide +kernel
theorem dX4_opens_8 : decode cX4_opens 8 = .ok (.invokevirtual 41, 3) := by decide +kernel
theorem dX4_opens_11 : decode cX4_opens 11 = .ok (.ifCond .eq 5, 3) := by decide +kernel
theorem dX4_opens_14 : decode cX4_opens 14 = .ok (.iconst 1, 1) := by decide +kernel
theorem dX4_opens_15 : decode cX4_opens 15 = .ok (.ireturn, 1) := by decide +kernel
theorem dX4_opens_16 : decode cX4_opens 16 = .ok (.aload_n 0, 1) := by decide +kernel
theorem dX4_opens_17 : decode cX4_opens 17 = .ok (.aload_n 0, 1) := by decide +kernel
theorem dX4_opens_18 : decode cX4_opens 18 = .ok (.getfield 69, 3) := by decide +kernel
theorem dX4_opens_21 : decode cX4_opens 21 = .ok (.invokevirtual 72, 3) := by decide +kernel
theorem dX4_opens_24 : decode cX4_opens 24 = .ok (.iconst 0, 1) := by decide +kernel
theorem dX4_opens_25 : decode cX4_opens 25 = .ok (.ireturn, 1) := by decide +kernel
theorem dX5_init_0 : decode cX5_init 0 = .ok (.aload_n 0, 1) := by decide +kernel
theorem dX5_init_1 : decode cX5_init 1 = .ok (.invokespecial 3, 3) := by decide +kernel
theorem dX5_init_4 : decode cX5_init 4 = .ok (.aload_n 0, 1) := by decide +kernel
theorem dX5_init_5 : decode cX5_init 5 = .ok (.bipush 10, 2) := by decide +kernel
theorem dX5_init_7 : decode cX5_init 7 = .ok (.anewarray 9, 3) := by decide +kernel
theorem dX5_init_10 : decode cX5_init 10 = .ok (.putfield 11, 3) := by decide +kernel
theorem dX5_init_13 : decode cX5_init 13 = .ok (.iconst 0, 1) := by decide +kernel
theorem dX5_init_14 : decode cX5_init 14 = .ok (.istore_n 1, 1) := by decide +kernel
theorem dX5_init_15 : decode cX5_init 15 = .ok (.iload_n 1, 1) := by decide +kernel
theorem dX5_init_16 : decode cX5_init 16 = .ok (.aload_n 0, 1) := by decide +kernel
theorem dX5_init_17 : decode cX5_init 17 = .ok (.getfield 11, 3) := by decide +kernel
theorem dX5_init_20 : decode cX5_init 20 = .ok (.arraylength, 1) := by decide +kernel
theorem dX5_init_21 : decode cX5_init 21 = .ok (.if_icmp .ge 22, 3) := by decide +kernel
theorem dX5_init_24 : decode cX5_init 24 = .ok (.aload_n 0, 1) := by decide +kernel
theorem dX5_init_25 : decode cX5_init 25 = .ok (.getfield 11, 3) := by decide +kernel
theorem dX5_init_28 : decode cX5_init 28 = .ok (.iload_n 1, 1) := by decide +kernel
theorem dX5_init_29 : decode cX5_init 29 = .ok (.new 9, 3) := by decide +kernel
theorem dX5_init_32 : decode cX5_init 32 = .ok (.dup, 1) := by decide +kernel
theorem dX5_init_33 : decode cX5_init 33 = .ok (.invokespecial 17, 3) := by decide +kernel
theorem dX5_init_36 : decode cX5_init 36 = .ok (.aastore, 1) := by decide +kernel
theorem dX5_init_37 : decode cX5_init 37 = .ok (.iinc 1 1, 3) := by decide +kernel
theorem dX5_init_40 : decode cX5_init 40 = .ok (.goto (-25), 3) := by decide +kernel
theorem dX5_init_43 : decode cX5_init 43 = .ok (.return_, 1) := by decide +kernel
theorem dX5_record_0 : decode cX5_record 0 = .ok (.aload_n 0, 1) := by decide +kernel
theorem dX5_record_1 : decode cX5_record 1 = .ok (.getfield 18, 3) := by decide +kernel
theorem dX5_record_4 : decode cX5_record 4 = .ok (.bipush 10, 2) := by decide +kernel
theorem dX5_record_6 : decode cX5_record 6 = .ok (.if_icmp .ne 26, 3) := by decide +kernel
theorem dX5_record_9 : decode cX5_record 9 = .ok (.aload_n 0, 1) := by decide +kernel
theorem dX5_record_10 : decode cX5_record 10 = .ok (.aload_n 0, 1) := by decide +kernel
theorem dX5_record_11 : decode cX5_record 11 = .ok (.getfield 22, 3) := by decide +kernel
theorem dX5_record_14 : decode cX5_record 14 = .ok (.iconst 1, 1) := by decide +kernel
theorem dX5_record_15 : decode cX5_record 15 = .ok (.iadd, 1) := by decide +kernel
theorem dX5_record_16 : decode cX5_record 16 = .ok (.bipush 10, 2) := by decide +kernel
theorem dX5_record_18 : decode cX5_record 18 = .ok (.irem, 1) := by decide +kernel
theorem dX5_record_19 : decode cX5_record 19 = .ok (.putfield 22, 3) := by decide +kernel
theorem dX5_record_22 : decode cX5_record 22 = .ok (.aload_n 0, 1) := by decide +kernel
theorem dX5_record_23 : decode cX5_record 23 = .ok (.dup, 1) := by decide +kernel
theorem dX5_record_24 : decode cX5_record 24 = .ok (.getfield 18, 3) := by decide +kernel
theorem dX5_record_27 : decode cX5_record 27 = .ok (.iconst 1, 1) := by decide +kernel
theorem dX5_record_28 : decode cX5_record 28 = .ok (.isub, 1) := by decide +kernel
theorem dX5_record_29 : decode cX5_record 29 = .ok (.putfield 18, 3) := by decide +kernel
theorem dX5_record_32 : decode cX5_record 32 = .ok (.aload_n 0, 1) := by decide +kernel
theorem dX5_record_33 : decode cX5_record 33 = .ok (.aload_n 0, 1) := by decide +kernel
theorem dX5_record_34 : decode cX5_record 34 = .ok (.getfield 22, 3) := by decide +kernel
theorem dX5_record_37 : decode cX5_record 37 = .ok (.aload_n 0, 1) := by decide +kernel
theorem dX5_record_38 : decode cX5_record 38 = .ok (.getfield 18, 3) := by decide +kernel
theorem dX5_record_41 : decode cX5_record 41 = .ok (.iadd, 1) := by decide +kernel
theorem dX5_record_42 : decode cX5_record 42 = .ok (.bipush 10, 2) := by decide +kernel
theorem dX5_record_44 : decode cX5_record 44 = .ok (.irem, 1) := by decide +kernel
theorem dX5_record_45 : decode cX5_record 45 = .ok (.invokevirtual 25, 3) := by decide +kernel
theorem dX5_record_48 : decode cX5_record 48 = .ok (.astore_n 2, 1) := by decide +kernel
theorem dX5_record_49 : decode cX5_record 49 = .ok (.aload_n 2, 1) := by decide +kernel
theorem dX5_record_50 : decode cX5_record 50 = .ok (.ifnull 8, 3) := by decide +kernel
theorem dX5_record_53 : decode cX5_record 53 = .ok (.aload_n 2, 1) := by decide +kernel
theorem dX5_record_54 : decode cX5_record 54 = .ok (.aload_n 1, 1) := by decide +kernel
theorem dX5_record_55 : decode cX5_record 55 = .ok (.invokevirtual 29, 3) := by decide +kernel
theorem dX5_record_58 : decode cX5_record 58 = .ok (.aload_n 0, 1) := by decide +kernel
theorem dX5_record_59 : decode cX5_record 59 = .ok (.dup, 1) := by decide +kernel
theorem dX5_record_60 : decode cX5_record 60 = .ok (.getfield 18, 3) := by decide +kernel
theorem dX5_record_63 : decode cX5_record 63 = .ok (.iconst 1, 1) := by decide +kernel
theorem dX5_record_64 : decode cX5_record 64 = .ok (.iadd, 1) := by decide +kernel
theorem dX5_record_65 : decode cX5_record 65 = .ok (.putfield 18, 3) := by decide +kernel
theorem dX5_record_68 : decode cX5_record 68 = .ok (.return_, 1) := by decide +kernel
theorem dX5_restore_0 : decode cX5_restore 0 = .ok (.aload_n 0, 1) := by decide +kernel
theorem dX5_restore_1 : decode cX5_restore 1 = .ok (.getfield 18, 3) := by decide +kernel
theorem dX5_restore_4 : decode cX5_restore 4 = .ok (.ifCond .ne 6, 3) := by decide +kernel
theorem dX5_restore_7 : decode cX5_restore 7 = .ok (.ldc 33, 2) := by decide +kernel
theorem dX5_restore_9 : decode cX5_restore 9 = .ok (.ireturn, 1) := by decide +kernel
theorem dX5_restore_10 : decode cX5_restore 10 = .ok (.aload_n 0, 1) := by decide +kernel
theorem dX5_restore_11 : decode cX5_restore 11 = .ok (.dup, 1) := by decide +kernel
theorem dX5_restore_12 : decode cX5_restore 12 = .ok (.getfield 18, 3) := by decide +kernel
theorem dX5_restore_15 : decode cX5_restore 15 = .ok (.iconst 1, 1) := by decide +kernel
theorem dX5_restore_16 : decode cX5_restore 16 = .ok (.isub, 1) := by decide +kernel
theorem dX5_restore_17 : decode cX5_restore 17 = .ok (.putfield 18, 3) := by decide +kernel
theorem dX5_restore_20 : decode cX5_restore 20 = .ok (.aload_n 0, 1) := by decide +kernel
theorem dX5_restore_21 : decode cX5_restore 21 = .ok (.aload_n 0, 1) := by decide +kernel
theorem dX5_restore_22 : decode cX5_restore 22 = .ok (.getfield 22, 3) := by decide +kernel
theorem dX5_restore_25 : decode cX5_restore 25 = .ok (.aload_n 0, 1) := by decide +kernel
theorem dX5_restore_26 : decode cX5_restore 26 = .ok (.getfield 18, 3) := by decide +kernel
theorem dX5_restore_29 : decode cX5_restore 29 = .ok (.iadd, 1) := by decide +kernel
theorem dX5_restore_30 : decode cX5_restore 30 = .ok (.bipush 10, 2) := by decide +kernel
theorem dX5_restore_32 : decode cX5_restore 32 = .ok (.irem, 1) := by decide +kernel
theorem dX5_restore_33 : decode cX5_restore 33 = .ok (.invokevirtual 25, 3) := by decide +kernel
theorem dX5_restore_36 : decode cX5_restore 36 = .ok (.astore_n 2, 1) := by decide +kernel
theorem dX5_restore_37 : decode cX5_restore 37 = .ok (.aload_n 2, 1) := by decide +kernel
theorem dX5_restore_38 : decode cX5_restore 38 = .ok (.ifnull 8, 3) := by decide +kernel
theorem dX5_restore_41 : decode cX5_restore 41 = .ok (.aload_n 1, 1) := by decide +kernel
theorem dX5_restore_42 : decode cX5_restore 42 = .ok (.aload_n 2, 1) := by decide +kernel
theorem dX5_restore_43 : decode cX5_restore 43 = .ok (.invokevirtual 29, 3) := by decide +kernel
theorem dX5_restore_46 : decode cX5_restore 46 = .ok (.aload_n 0, 1) := by decide +kernel
theorem dX5_restore_47 : decode cX5_restore 47 = .ok (.getfield 18, 3) := by decide +kernel
theorem dX5_restore_50 : decode cX5_restore 50 = .ok (.ireturn, 1) := by decide +kernel
theorem dX5_stateAt_0 : decode cX5_stateAt 0 = .ok (.iload_n 1, 1) := by decide +kernel
theorem dX5_stateAt_1 : decode cX5_stateAt 1 = .ok (.ifCond .lt 21, 3) := by decide +kernel
theorem dX5_stateAt_4 : decode cX5_stateAt 4 = .ok (.iload_n 1, 1) := by decide +kernel
theorem dX5_stateAt_5 : decode cX5_stateAt 5 = .ok (.aload_n 0, 1) := by decide +kernel
theorem dX5_stateAt_6 : decode cX5_stateAt 6 = .ok (.getfield 11, 3) := by decide +kernel
theorem dX5_stateAt_9 : decode cX5_stateAt 9 = .ok (.arraylength, 1) := by decide +kernel
theorem dX5_stateAt_10 : decode cX5_stateAt 10 = .ok (.if_icmp .ge 12, 3) := by decide +kernel
theorem dX5_stateAt_13 : decode cX5_stateAt 13 = .ok (.aload_n 0, 1) := by decide +kernel
theorem dX5_stateAt_14 : decode cX5_stateAt 14 = .ok (.getfield 11, 3) := by decide +kernel
theorem dX5_stateAt_17 : decode cX5_stateAt 17 = .ok (.iload_n 1, 1) := by decide +kernel
theorem dX5_stateAt_18 : decode cX5_stateAt 18 = .ok (.aaload, 1) := by decide +kernel
theorem dX5_stateAt_19 : decode cX5_stateAt 19 = .ok (.goto 4, 3) := by decide +kernel
theorem dX5_stateAt_22 : decode cX5_stateAt 22 = .ok (.aconst_null, 1) := by decide +kernel
theorem dX5_stateAt_23 : decode cX5_stateAt 23 = .ok (.areturn, 1) := by decide +kernel
theorem dX6_init_0 : decode cX6_init 0 = .ok (.aload_n 0, 1) := by decide +kernel
theorem dX6_init_1 : decode cX6_init 1 = .ok (.invokespecial 3, 3) := by decide +kernel
theorem dX6_init_4 : decode cX6_init 4 = .ok (.aload_n 0, 1) := by decide +kernel
theorem dX6_init_5 : decode cX6_init 5 = .ok (.bipush 120, 2) := by decide +kernel
theorem dX6_init_7 : decode cX6_init 7 = .ok (.newarray .int, 2) := by decide +kernel
theorem dX6_init_9 : decode cX6_init 9 = .ok (.putfield 9, 3) := by decide +kernel
theorem dX6_init_12 : decode cX6_init 12 = .ok (.return_, 1) := by decide +kernel
theorem dX6_run_0 : decode cX6_run 0 = .ok (.aload_n 1, 1) := by decide +kernel
theorem dX6_run_1 : decode cX6_run 1 = .ok (.getfield 15, 3) := by decide +kernel
theorem dX6_run_4 : decode cX6_run 4 = .ok (.astore_n 3, 1) := by decide +kernel
theorem dX6_run_5 : decode cX6_run 5 = .ok (.iconst (-1), 1) := by decide +kernel
theorem dX6_run_6 : decode cX6_run 6 = .ok (.istore 4, 2) := by decide +kernel
theorem dX6_run_8 : decode cX6_run 8 = .ok (.iconst 0, 1) := by decide +kernel
theorem dX6_run_9 : decode cX6_run 9 = .ok (.istore 5, 2) := by decide +kernel
theorem dX6_run_11 : decode cX6_run 11 = .ok (.iload 5, 2) := by decide +kernel
theorem dX6_run_13 : decode cX6_run 13 = .ok (.aload_n 3, 1) := by decide +kernel
theorem dX6_run_14 : decode cX6_run 14 = .ok (.getfield 21, 3) := by decide +kernel
theorem dX6_run_17 : decode cX6_run 17 = .ok (.if_icmp .ge 191, 3) := by decide +kernel
theorem dX6_run_20 : decode cX6_run 20 = .ok (.aload_n 3, 1) := by decide +kernel
theorem dX6_run_21 : decode cX6_run 21 = .ok (.getfield 27, 3) := by decide +kernel
theorem dX6_run_24 : decode cX6_run 24 = .ok (.iload 5, 2) := by decide +kernel
theorem dX6_run_26 : decode cX6_run 26 = .ok (.invokestatic 30, 3) := by decide +kernel
theorem dX6_run_29 : decode cX6_run 29 = .ok (.istore 6, 2) := by decide +kernel
theorem dX6_run_31 : decode cX6_run 31 = .ok (.aload_n 3, 1) := by decide +kernel
theorem dX6_run_32 : decode cX6_run 32 = .ok (.getfield 34, 3) := by decide +kernel
theorem dX6_run_35 : decode cX6_run 35 = .ok (.iload 5, 2) := by decide +kernel
theorem dX6_run_37 : decode cX6_run 37 = .ok (.invokestatic 30, 3) := by decide +kernel
theorem dX6_run_40 : decode cX6_run 40 = .ok (.istore 7, 2) := by decide +kernel
theorem dX6_run_42 : decode cX6_run 42 = .ok (.iload 6, 2) := by decide +kernel
theorem dX6_run_44 : decode cX6_run 44 = .ok (.ifCond .ne 23, 3) := by decide +kernel
theorem dX6_run_47 : decode cX6_run 47 = .ok (.iinc 4 1, 3) := by decide +kernel
theorem dX6_run_50 : decode cX6_run 50 = .ok (.aload_n 0, 1) := by decide +kernel
theorem dX6_run_51 : decode cX6_run 51 = .ok (.getfield 9, 3) := by decide +kernel
theorem dX6_run_54 : decode cX6_run 54 = .ok (.iload 4, 2) := by decide +kernel
theorem dX6_run_56 : decode cX6_run 56 = .ok (.bipush 64, 2) := by decide +kernel
theorem dX6_run_58 : decode cX6_run 58 = .ok (.iload 7, 2) := by decide +kernel
theorem dX6_run_60 : decode cX6_run 60 = .ok (.imul, 1) := by decide +kernel
theorem dX6_run_61 : decode cX6_run 61 = .ok (.invokestatic 37, 3) := by decide +kernel
theorem dX6_run_64 : decode cX6_run 64 = .ok (.goto 138, 3) := by decide +kernel
theorem dX6_run_67 : decode cX6_run 67 = .ok (.iload 6, 2) := by decide +kernel
theorem dX6_run_69 : decode cX6_run 69 = .ok (.iconst 1, 1) := by decide +kernel
theorem dX6_run_70 : decode cX6_run 70 = .ok (.if_icmp .ne 60, 3) := by decide +kernel
theorem dX6_run_73 : decode cX6_run 73 = .ok (.aload_n 1, 1) := by decide +kernel
theorem dX6_run_74 : decode cX6_run 74 = .ok (.iload 7, 2) := by decide +kernel
theorem dX6_run_76 : decode cX6_run 76 = .ok (.sipush 1000, 3) := by decide +kernel
theorem dX6_run_79 : decode cX6_run 79 = .ok (.idiv, 1) := by decide +kernel
theorem dX6_run_80 : decode cX6_run 80 = .ok (.invokevirtual 41, 3) := by decide +kernel
theorem dX6_run_83 : decode cX6_run 83 = .ok (.astore 8, 2) := by decide +kernel
theorem dX6_run_85 : decode cX6_run 85 = .ok (.iconst 0, 1) := by decide +kernel
theorem dX6_run_86 : decode cX6_run 86 = .ok (.iload_n 2, 1) := by decide +kernel
theorem dX6_run_87 : decode cX6_run 87 = .ok (.iload 7, 2) := by decide +kernel
theorem dX6_run_89 : decode cX6_run 89 = .ok (.sipush 1000, 3) := by decide +kernel
theorem dX6_run_92 : decode cX6_run 92 = .ok (.irem, 1) := by decide +kernel
theorem dX6_run_93 : decode cX6_run 93 = .ok (.isub, 1) := by decide +kernel
theorem dX6_run_94 : decode cX6_run 94 = .ok (.invokestatic 45, 3) := by decide +kernel
theorem dX6_run_97 : decode cX6_run 97 = .ok (.istore 9, 2) := by decide +kernel
theorem dX6_run_99 : decode cX6_run 99 = .ok (.iinc 4 1, 3) := by decide +kernel
theorem dX6_run_102 : decode cX6_run 102 = .ok (.aload_n 0, 1) := by decide +kernel
theorem dX6_run_103 : decode cX6_run 103 = .ok (.getfield 9, 3) := by decide +kernel
theorem dX6_run_106 : decode cX6_run 106 = .ok (.iload 4, 2) := by decide +kernel
theorem dX6_run_108 : decode cX6_run 108 = .ok (.aload 8, 2) := by decide +kernel
theorem dX6_run_110 : decode cX6_run 110 = .ok (.ifnonnull 7, 3) := by decide +kernel
theorem dX6_run_113 : decode cX6_run 113 = .ok (.iconst 0, 1) := by decide +kernel
theorem dX6_run_114 : decode cX6_run 114 = .ok (.goto 10, 3) := by decide +kernel
theorem dX6_run_117 : decode cX6_run 117 = .ok (.aload 8, 2) := by decide +kernel
theorem dX6_run_119 : decode cX6_run 119 = .ok (.iload 9, 2) := by decide +kernel
theorem dX6_run_121 : decode cX6_run 121 = .ok (.invokevirtual 51, 3) := by decide +kernel
theorem dX6_run_124 : decode cX6_run 124 = .ok (.invokestatic 37, 3) := by decide +kernel
theorem dX6_run_127 : decode cX6_run 127 = .ok (.goto 75, 3) := by decide +kernel
theorem dX6_run_130 : decode cX6_run 130 = .ok (.iload 6, 2) := by decide +kernel
theorem dX6_run_132 : decode cX6_run 132 = .ok (.bipush 7, 2) := by decide +kernel
theorem dX6_run_134 : decode cX6_run 134 = .ok (.if_icmp .ne 31, 3) := by decide +kernel
theorem dX6_run_137 : decode cX6_run 137 = .ok (.aload_n 0, 1) := by decide +kernel
theorem dX6_run_138 : decode cX6_run 138 = .ok (.getfield 9, 3) := by decide +kernel
theorem dX6_run_141 : decode cX6_run 141 = .ok (.iload 4, 2) := by decide +kernel
theorem dX6_run_143 : decode cX6_run 143 = .ok (.aload_n 0, 1) := by decide +kernel
theorem dX6_run_144 : decode cX6_run 144 = .ok (.getfield 9, 3) := by decide +kernel
theorem dX6_run_147 : decode cX6_run 147 = .ok (.iload 4, 2) := by decide +kernel
theorem dX6_run_149 : decode cX6_run 149 = .ok (.invokestatic 30, 3) := by decide +kernel
theorem dX6_run_152 : decode cX6_run 152 = .ok (.i2l, 1) := by decide +kernel
theorem dX6_run_153 : decode cX6_run 153 = .ok (.lneg, 1) := by decide +kernel
theorem dX6_run_154 : decode cX6_run 154 = .ok (.ldc 57, 2) := by decide +kernel
theorem dX6_run_156 : decode cX6_run 156 = .ok (.invokestatic 58, 3) := by decide +kernel
theorem dX6_run_159 : decode cX6_run 159 = .ok (.invokestatic 37, 3) := by decide +kernel
theorem dX6_run_162 : decode cX6_run 162 = .ok (.goto 40, 3) := by decide +kernel
theorem dX6_run_165 : decode cX6_run 165 = .ok (.iinc 4 (-1), 3) := by decide +kernel
theorem dX6_run_168 : decode cX6_run 168 = .ok (.aload_n 0, 1) := by decide +kernel
theorem dX6_run_169 : decode cX6_run 169 = .ok (.getfield 9, 3) := by decide +kernel
theorem dX6_run_172 : decode cX6_run 172 = .ok (.iload 4, 2) := by decide +kernel
theorem dX6_run_174 : decode cX6_run 174 = .ok (.iload 6, 2) := by decide +kernel
theorem dX6_run_176 : decode cX6_run 176 = .ok (.aload_n 0, 1) := by decide +kernel
theorem dX6_run_177 : decode cX6_run 177 = .ok (.getfield 9, 3) := by decide +kernel
theorem dX6_run_180 : decode cX6_run 180 = .ok (.iload 4, 2) := by decide +kernel
theorem dX6_run_182 : decode cX6_run 182 = .ok (.invokestatic 30, 3) := by decide +kernel
theorem dX6_run_185 : decode cX6_run 185 = .ok (.aload_n 0, 1) := by decide +kernel
theorem dX6_run_186 : decode cX6_run 186 = .ok (.getfield 9, 3) := by decide +kernel
theorem dX6_run_189 : decode cX6_run 189 = .ok (.iload 4, 2) := by decide +kernel
theorem dX6_run_191 : decode cX6_run 191 = .ok (.iconst 1, 1) := by decide +kernel
theorem dX6_run_192 : decode cX6_run 192 = .ok (.iadd, 1) := by decide +kernel
theorem dX6_run_193 : decode cX6_run 193 = .ok (.invokestatic 30, 3) := by decide +kernel
theorem dX6_run_196 : decode cX6_run 196 = .ok (.invokestatic 62, 3) := by decide +kernel
theorem dX6_run_199 : decode cX6_run 199 = .ok (.invokestatic 37, 3) := by decide +kernel
theorem dX6_run_202 : decode cX6_run 202 = .ok (.iinc 5 1, 3) := by decide +kernel
theorem dX6_run_205 : decode cX6_run 205 = .ok (.goto (-194), 3) := by decide +kernel
theorem dX6_run_208 : decode cX6_run 208 = .ok (.aload_n 0, 1) := by decide +kernel
theorem dX6_run_209 : decode cX6_run 209 = .ok (.getfield 9, 3) := by decide +kernel
theorem dX6_run_212 : decode cX6_run 212 = .ok (.iconst 0, 1) := by decide +kernel
theorem dX6_run_213 : decode cX6_run 213 = .ok (.invokestatic 30, 3) := by decide +kernel
theorem dX6_run_216 : decode cX6_run 216 = .ok (.ireturn, 1) := by decide +kernel
theorem dX6_combined_0 : decode cX6_combined 0 = .ok (.iload_n 0, 1) := by decide +kernel
theorem dX6_combined_1 : decode cX6_combined 1 = .ok (.tableswitch 76 2 5 #[31, 42, 53, 70], 31) := by decide +kernel
theorem dX6_combined_32 : decode cX6_combined 32 = .ok (.iload_n 1, 1) := by decide +kernel
theorem dX6_combined_33 : decode cX6_combined 33 = .ok (.i2l, 1) := by decide +kernel
theorem dX6_combined_34 : decode cX6_combined 34 = .ok (.iload_n 2, 1) := by decide +kernel
theorem dX6_combined_35 : decode cX6_combined 35 = .ok (.i2l, 1) := by decide +kernel
theorem dX6_combined_36 : decode cX6_combined 36 = .ok (.ladd, 1) := by decide +kernel
theorem dX6_combined_37 : decode cX6_combined 37 = .ok (.ldc 57, 2) := by decide +kernel
theorem dX6_combined_39 : decode cX6_combined 39 = .ok (.invokestatic 58, 3) := by decide +kernel
theorem dX6_combined_42 : decode cX6_combined 42 = .ok (.ireturn, 1) := by decide +kernel
theorem dX6_combined_43 : decode cX6_combined 43 = .ok (.iload_n 1, 1) := by decide +kernel
theorem dX6_combined_44 : decode cX6_combined 44 = .ok (.i2l, 1) := by decide +kernel
theorem dX6_combined_45 : decode cX6_combined 45 = .ok (.iload_n 2, 1) := by decide +kernel
theorem dX6_combined_46 : decode cX6_combined 46 = .ok (.i2l, 1) := by decide +kernel
theorem dX6_combined_47 : decode cX6_combined 47 = .ok (.lsub, 1) := by decide +kernel
theorem dX6_combined_48 : decode cX6_combined 48 = .ok (.ldc 57, 2) := by decide +kernel
theorem dX6_combined_50 : decode cX6_combined 50 = .ok (.invokestatic 58, 3) := by decide +kernel
theorem dX6_combined_53 : decode cX6_combined 53 = .ok (.ireturn, 1) := by decide +kernel
theorem dX6_combined_54 : decode cX6_combined 54 = .ok (.iload_n 1, 1) := by decide +kernel
theorem dX6_combined_55 : decode cX6_combined 55 = .ok (.i2l, 1) := by decide +kernel
theorem dX6_combined_56 : decode cX6_combined 56 = .ok (.iload_n 2, 1) := by decide +kernel
theorem dX6_combined_57 : decode cX6_combined 57 = .ok (.i2l, 1) := by decide +kernel
theorem dX6_combined_58 : decode cX6_combined 58 = .ok (.lmul, 1) := by decide +kernel
theorem dX6_combined_59 : decode cX6_combined 59 = .ok (.ldc2_w 66, 3) := by decide +kernel
theorem dX6_combined_62 : decode cX6_combined 62 = .ok (.invokestatic 68, 3) := by decide +kernel
theorem dX6_combined_65 : decode cX6_combined 65 = .ok (.ldc 57, 2) := by decide +kernel
theorem dX6_combined_67 : decode cX6_combined 67 = .ok (.invokestatic 58, 3) := by decide +kernel
theorem dX6_combined_70 : decode cX6_combined 70 = .ok (.ireturn, 1) := by decide +kernel
theorem dX6_combined_71 : decode cX6_combined 71 = .ok (.iload_n 1, 1) := by decide +kernel
theorem dX6_combined_72 : decode cX6_combined 72 = .ok (.iload_n 2, 1) := by decide +kernel
theorem dX6_combined_73 : decode cX6_combined 73 = .ok (.invokestatic 72, 3) := by decide +kernel
theorem dX6_combined_76 : decode cX6_combined 76 = .ok (.ireturn, 1) := by decide +kernel
theorem dX6_combined_77 : decode cX6_combined 77 = .ok (.iload_n 1, 1) := by decide +kernel
theorem dX6_combined_78 : decode cX6_combined 78 = .ok (.iload_n 2, 1) := by decide +kernel
theorem dX6_combined_79 : decode cX6_combined 79 = .ok (.invokestatic 45, 3) := by decide +kernel
theorem dX6_combined_82 : decode cX6_combined 82 = .ok (.ireturn, 1) := by decide +kernel
theorem dX7_init_0 : decode cX7_init 0 = .ok (.aload_n 0, 1) := by decide +kernel
theorem dX7_init_1 : decode cX7_init 1 = .ok (.invokespecial 3, 3) := by decide +kernel
theorem dX7_init_4 : decode cX7_init 4 = .ok (.aload_n 0, 1) := by decide +kernel
theorem dX7_init_5 : decode cX7_init 5 = .ok (.bipush 41, 2) := by decide +kernel
theorem dX7_init_7 : decode cX7_init 7 = .ok (.newarray .int, 2) := by decide +kernel
theorem dX7_init_9 : decode cX7_init 9 = .ok (.putfield 9, 3) := by decide +kernel
theorem dX7_init_12 : decode cX7_init 12 = .ok (.aload_n 0, 1) := by decide +kernel
theorem dX7_init_13 : decode cX7_init 13 = .ok (.bipush 41, 2) := by decide +kernel
theorem dX7_init_15 : decode cX7_init 15 = .ok (.newarray .int, 2) := by decide +kernel
theorem dX7_init_17 : decode cX7_init 17 = .ok (.putfield 15, 3) := by decide +kernel
theorem dX7_init_20 : decode cX7_init 20 = .ok (.aload_n 0, 1) := by decide +kernel
theorem dX7_init_21 : decode cX7_init 21 = .ok (.bipush 41, 2) := by decide +kernel
theorem dX7_init_23 : decode cX7_init 23 = .ok (.newarray .int, 2) := by decide +kernel
theorem dX7_init_25 : decode cX7_init 25 = .ok (.putfield 18, 3) := by decide +kernel
theorem dX7_init_28 : decode cX7_init 28 = .ok (.aload_n 0, 1) := by decide +kernel
theorem dX7_init_29 : decode cX7_init 29 = .ok (.bipush 41, 2) := by decide +kernel
theorem dX7_init_31 : decode cX7_init 31 = .ok (.newarray .int, 2) := by decide +kernel
theorem dX7_init_33 : decode cX7_init 33 = .ok (.putfield 21, 3) := by decide +kernel
theorem dX7_init_36 : decode cX7_init 36 = .ok (.return_, 1) := by decide +kernel
theorem dX7_solve_0 : decode cX7_solve 0 = .ok (.aload_n 0, 1) := by decide +kernel
theorem dX7_solve_1 : decode cX7_solve 1 = .ok (.iload_n 3, 1) := by decide +kernel
theorem dX7_solve_2 : decode cX7_solve 2 = .ok (.iload_n 2, 1) := by decide +kernel
theorem dX7_solve_3 : decode cX7_solve 3 = .ok (.isub, 1) := by decide +kernel
theorem dX7_solve_4 : decode cX7_solve 4 = .ok (.putfield 24, 3) := by decide +kernel
theorem dX7_solve_7 : decode cX7_solve 7 = .ok (.iconst 0, 1) := by decide +kernel
theorem dX7_solve_8 : decode cX7_solve 8 = .ok (.istore 5, 2) := by decide +kernel
theorem dX7_solve_10 : decode cX7_solve 10 = .ok (.iload 5, 2) := by decide +kernel
theorem dX7_solve_12 : decode cX7_solve 12 = .ok (.aload_n 0, 1) := by decide +kernel
theorem dX7_solve_13 : decode cX7_solve 13 = .ok (.getfield 24, 3) := by decide +kernel
theorem dX7_solve_16 : decode cX7_solve 16 = .ok (.if_icmp .gt 26, 3) := by decide +kernel
theorem dX7_solve_19 : decode cX7_solve 19 = .ok (.aload_n 0, 1) := by decide +kernel
theorem dX7_solve_20 : decode cX7_solve 20 = .ok (.getfield 9, 3) := by decide +kernel
theorem dX7_solve_23 : decode cX7_solve 23 = .ok (.iload 5, 2) := by decide +kernel
theorem dX7_solve_25 : decode cX7_solve 25 = .ok (.aload_n 1, 1) := by decide +kernel
theorem dX7_solve_26 : decode cX7_solve 26 = .ok (.iload_n 2, 1) := by decide +kernel
theorem dX7_solve_27 : decode cX7_solve 27 = .ok (.iload 5, 2) := by decide +kernel
theorem dX7_solve_29 : decode cX7_solve 29 = .ok (.iadd, 1) := by decide +kernel
theorem dX7_solve_30 : decode cX7_solve 30 = .ok (.invokevirtual 28, 3) := by decide +kernel
theorem dX7_solve_33 : decode cX7_solve 33 = .ok (.invokestatic 34, 3) := by decide +kernel
theorem dX7_solve_36 : decode cX7_solve 36 = .ok (.iinc 5 1, 3) := by decide +kernel
theorem dX7_solve_39 : decode cX7_solve 39 = .ok (.goto (-29), 3) := by decide +kernel
theorem dX7_solve_42 : decode cX7_solve 42 = .ok (.aload_n 0, 1) := by decide +kernel
theorem dX7_solve_43 : decode cX7_solve 43 = .ok (.getfield 15, 3) := by decide +kernel
theorem dX7_solve_46 : decode cX7_solve 46 = .ok (.aload_n 0, 1) := by decide +kernel
theorem dX7_solve_47 : decode cX7_solve 47 = .ok (.getfield 24, 3) := by decide +kernel
theorem dX7_solve_50 : decode cX7_solve 50 = .ok (.iconst 1, 1) := by decide +kernel
theorem dX7_solve_51 : decode cX7_solve 51 = .ok (.invokestatic 34, 3) := by decide +kernel
theorem dX7_solve_54 : decode cX7_solve 54 = .ok (.aload_n 0, 1) := by decide +kernel
theorem dX7_solve_55 : decode cX7_solve 55 = .ok (.getfield 18, 3) := by decide +kernel
theorem dX7_solve_58 : decode cX7_solve 58 = .ok (.aload_n 0, 1) := by decide +kernel
theorem dX7_solve_59 : decode cX7_solve 59 = .ok (.getfield 24, 3) := by decide +kernel
theorem dX7_solve_62 : decode cX7_solve 62 = .ok (.iconst 0, 1) := by decide +kernel
theorem dX7_solve_63 : decode cX7_solve 63 = .ok (.invokestatic 34, 3) := by decide +kernel
theorem dX7_solve_66 : decode cX7_solve 66 = .ok (.aload_n 0, 1) := by decide +kernel
theorem dX7_solve_67 : decode cX7_solve 67 = .ok (.getfield 24, 3) := by decide +kernel
theorem dX7_solve_70 : decode cX7_solve 70 = .ok (.iconst 1, 1) := by decide +kernel
theorem dX7_solve_71 : decode cX7_solve 71 = .ok (.isub, 1) := by decide +kernel
theorem dX7_solve_72 : decode cX7_solve 72 = .ok (.istore 5, 2) := by decide +kernel
theorem dX7_solve_74 : decode cX7_solve 74 = .ok (.iload 5, 2) := by decide +kernel
theorem dX7_solve_76 : decode cX7_solve 76 = .ok (.ifCond .lt 17, 3) := by decide +kernel
theorem dX7_solve_79 : decode cX7_solve 79 = .ok (.aload_n 0, 1) := by decide +kernel
theorem dX7_solve_80 : decode cX7_solve 80 = .ok (.iload 5, 2) := by decide +kernel
theorem dX7_solve_82 : decode cX7_solve 82 = .ok (.iload 4, 2) := by decide +kernel
theorem dX7_solve_84 : decode cX7_solve 84 = .ok (.invokevirtual 38, 3) := by decide +kernel
theorem dX7_solve_87 : decode cX7_solve 87 = .ok (.iinc 5 (-1), 3) := by decide +kernel
theorem dX7_solve_90 : decode cX7_solve 90 = .ok (.goto (-16), 3) := by decide +kernel
theorem dX7_solve_93 : decode cX7_solve 93 = .ok (.return_, 1) := by decide +kernel
theorem dX7_chooseNext_0 : decode cX7_chooseNext 0 = .ok (.ldc 44, 2) := by decide +kernel
theorem dX7_chooseNext_2 : decode cX7_chooseNext 2 = .ok (.istore_n 3, 1) := by decide +kernel
theorem dX7_chooseNext_3 : decode cX7_chooseNext 3 = .ok (.ldc 44, 2) := by decide +kernel
theorem dX7_chooseNext_5 : decode cX7_chooseNext 5 = .ok (.istore 4, 2) := by decide +kernel
theorem dX7_chooseNext_7 : decode cX7_chooseNext 7 = .ok (.iload_n 1, 1) := by decide +kernel
theorem dX7_chooseNext_8 : decode cX7_chooseNext 8 = .ok (.iconst 1, 1) := by decide +kernel
theorem dX7_chooseNext_9 : decode cX7_chooseNext 9 = .ok (.iadd, 1) := by decide +kernel
theorem dX7_chooseNext_10 : decode cX7_chooseNext 10 = .ok (.istore 5, 2) := by decide +kernel
theorem dX7_chooseNext_12 : decode cX7_chooseNext 12 = .ok (.iload 5, 2) := by decide +kernel
theorem dX7_chooseNext_14 : decode cX7_chooseNext 14 = .ok (.aload_n 0, 1) := by decide +kernel
theorem dX7_chooseNext_15 : decode cX7_chooseNext 15 = .ok (.getfield 24, 3) := by decide +kernel
theorem dX7_chooseNext_18 : decode cX7_chooseNext 18 = .ok (.if_icmp .gt 91, 3) := by decide +kernel
theorem dX7_chooseNext_21 : decode cX7_chooseNext 21 = .ok (.aload_n 0, 1) := by decide +kernel
theorem dX7_chooseNext_22 : decode cX7_chooseNext 22 = .ok (.getfield 15, 3) := by decide +kernel
theorem dX7_chooseNext_25 : decode cX7_chooseNext 25 = .ok (.iload 5, 2) := by decide +kernel
theorem dX7_chooseNext_27 : decode cX7_chooseNext 27 = .ok (.invokestatic 45, 3) := by decide +kernel
theorem dX7_chooseNext_30 : decode cX7_chooseNext 30 = .ok (.iconst 1, 1) := by decide +kernel
theorem dX7_chooseNext_31 : decode cX7_chooseNext 31 = .ok (.iadd, 1) := by decide +kernel
theorem dX7_chooseNext_32 : decode cX7_chooseNext 32 = .ok (.istore 6, 2) := by decide +kernel
theorem dX7_chooseNext_34 : decode cX7_chooseNext 34 = .ok (.iload 6, 2) := by decide +kernel
theorem dX7_chooseNext_36 : decode cX7_chooseNext 36 = .ok (.iload_n 3, 1) := by decide +kernel
theorem dX7_chooseNext_37 : decode cX7_chooseNext 37 = .ok (.if_icmp .le 7, 3) := by decide +kernel
theorem dX7_chooseNext_40 : decode cX7_chooseNext 40 = .ok (.iconst (-1), 1) := by decide +kernel
theorem dX7_chooseNext_41 : decode cX7_chooseNext 41 = .ok (.goto 11, 3) := by decide +kernel
theorem dX7_chooseNext_44 : decode cX7_chooseNext 44 = .ok (.aload_n 0, 1) := by decide +kernel
theorem dX7_chooseNext_45 : decode cX7_chooseNext 45 = .ok (.iload_n 1, 1) := by decide +kernel
theorem dX7_chooseNext_46 : decode cX7_chooseNext 46 = .ok (.iload 5, 2) := by decide +kernel
theorem dX7_chooseNext_48 : decode cX7_chooseNext 48 = .ok (.iload_n 2, 1) := by decide +kernel
theorem dX7_chooseNext_49 : decode cX7_chooseNext 49 = .ok (.invokevirtual 49, 3) := by decide +kernel
theorem dX7_chooseNext_52 : decode cX7_chooseNext 52 = .ok (.istore 7, 2) := by decide +kernel
theorem dX7_chooseNext_54 : decode cX7_chooseNext 54 = .ok (.aload_n 0, 1) := by decide +kernel
theorem dX7_chooseNext_55 : decode cX7_chooseNext 55 = .ok (.getfield 18, 3) := by decide +kernel
theorem dX7_chooseNext_58 : decode cX7_chooseNext 58 = .ok (.iload 5, 2) := by decide +kernel
theorem dX7_chooseNext_60 : decode cX7_chooseNext 60 = .ok (.invokestatic 45, 3) := by decide +kernel
theorem dX7_chooseNext_63 : decode cX7_chooseNext 63 = .ok (.iload 7, 2) := by decide +kernel
theorem dX7_chooseNext_65 : decode cX7_chooseNext 65 = .ok (.iadd, 1) := by decide +kernel
theorem dX7_chooseNext_66 : decode cX7_chooseNext 66 = .ok (.istore 8, 2) := by decide +kernel
theorem dX7_chooseNext_68 : decode cX7_chooseNext 68 = .ok (.iload 7, 2) := by decide +kernel
theorem dX7_chooseNext_70 : decode cX7_chooseNext 70 = .ok (.ifCond .lt 33, 3) := by decide +kernel
theorem dX7_chooseNext_73 : decode cX7_chooseNext 73 = .ok (.iload 6, 2) := by decide +kernel
theorem dX7_chooseNext_75 : decode cX7_chooseNext 75 = .ok (.iload_n 3, 1) := by decide +kernel
theorem dX7_chooseNext_76 : decode cX7_chooseNext 76 = .ok (.if_icmp .lt 10, 3) := by decide +kernel
theorem dX7_chooseNext_79 : decode cX7_chooseNext 79 = .ok (.iload 8, 2) := by decide +kernel
theorem dX7_chooseNext_81 : decode cX7_chooseNext 81 = .ok (.iload 4, 2) := by decide +kernel
theorem dX7_chooseNext_83 : decode cX7_chooseNext 83 = .ok (.if_icmp .ge 20, 3) := by decide +kernel
theorem dX7_chooseNext_86 : decode cX7_chooseNext 86 = .ok (.iload 6, 2) := by decide +kernel
theorem dX7_chooseNext_88 : decode cX7_chooseNext 88 = .ok (.istore_n 3, 1) := by decide +kernel
theorem dX7_chooseNext_89 : decode cX7_chooseNext 89 = .ok (.iload 8, 2) := by decide +kernel
theorem dX7_chooseNext_91 : decode cX7_chooseNext 91 = .ok (.istore 4, 2) := by decide +kernel
theorem dX7_chooseNext_93 : decode cX7_chooseNext 93 = .ok (.aload_n 0, 1) := by decide +kernel
theorem dX7_chooseNext_94 : decode cX7_chooseNext 94 = .ok (.getfield 21, 3) := by decide +kernel
theorem dX7_chooseNext_97 : decode cX7_chooseNext 97 = .ok (.iload_n 1, 1) := by decide +kernel
theorem dX7_chooseNext_98 : decode cX7_chooseNext 98 = .ok (.iload 5, 2) := by decide +kernel
theorem dX7_chooseNext_100 : decode cX7_chooseNext 100 = .ok (.invokestatic 34, 3) := by decide +kernel
theorem dX7_chooseNext_103 : decode cX7_chooseNext 103 = .ok (.iinc 5 1, 3) := by decide +kernel
theorem dX7_chooseNext_106 : decode cX7_chooseNext 106 = .ok (.goto (-94), 3) := by decide +kernel
theorem dX7_chooseNext_109 : decode cX7_chooseNext 109 = .ok (.aload_n 0, 1) := by decide +kernel
theorem dX7_chooseNext_110 : decode cX7_chooseNext 110 = .ok (.getfield 15, 3) := by decide +kernel
theorem dX7_chooseNext_113 : decode cX7_chooseNext 113 = .ok (.iload_n 1, 1) := by decide +kernel
theorem dX7_chooseNext_114 : decode cX7_chooseNext 114 = .ok (.iload_n 3, 1) := by decide +kernel
theorem dX7_chooseNext_115 : decode cX7_chooseNext 115 = .ok (.invokestatic 34, 3) := by decide +kernel
theorem dX7_chooseNext_118 : decode cX7_chooseNext 118 = .ok (.aload_n 0, 1) := by decide +kernel
theorem dX7_chooseNext_119 : decode cX7_chooseNext 119 = .ok (.getfield 18, 3) := by decide +kernel
theorem dX7_chooseNext_122 : decode cX7_chooseNext 122 = .ok (.iload_n 1, 1) := by decide +kernel
theorem dX7_chooseNext_123 : decode cX7_chooseNext 123 = .ok (.iload 4, 2) := by decide +kernel
theorem dX7_chooseNext_125 : decode cX7_chooseNext 125 = .ok (.invokestatic 34, 3) := by decide +kernel
theorem dX7_chooseNext_128 : decode cX7_chooseNext 128 = .ok (.return_, 1) := by decide +kernel
theorem dX7_misfit_0 : decode cX7_misfit 0 = .ok (.aload_n 0, 1) := by decide +kernel
theorem dX7_misfit_1 : decode cX7_misfit 1 = .ok (.getfield 9, 3) := by decide +kernel
theorem dX7_misfit_4 : decode cX7_misfit 4 = .ok (.iload_n 1, 1) := by decide +kernel
theorem dX7_misfit_5 : decode cX7_misfit 5 = .ok (.invokestatic 45, 3) := by decide +kernel
theorem dX7_misfit_8 : decode cX7_misfit 8 = .ok (.i2l, 1) := by decide +kernel
theorem dX7_misfit_9 : decode cX7_misfit 9 = .ok (.lstore 4, 2) := by decide +kernel
theorem dX7_misfit_11 : decode cX7_misfit 11 = .ok (.aload_n 0, 1) := by decide +kernel
theorem dX7_misfit_12 : decode cX7_misfit 12 = .ok (.getfield 9, 3) := by decide +kernel
theorem dX7_misfit_15 : decode cX7_misfit 15 = .ok (.iload_n 2, 1) := by decide +kernel
theorem dX7_misfit_16 : decode cX7_misfit 16 = .ok (.invokestatic 45, 3) := by decide +kernel
theorem dX7_misfit_19 : decode cX7_misfit 19 = .ok (.i2l, 1) := by decide +kernel
theorem dX7_misfit_20 : decode cX7_misfit 20 = .ok (.lload 4, 2) := by decide +kernel
theorem dX7_misfit_22 : decode cX7_misfit 22 = .ok (.lsub, 1) := by decide +kernel
theorem dX7_misfit_23 : decode cX7_misfit 23 = .ok (.lstore 6, 2) := by decide +kernel
theorem dX7_misfit_25 : decode cX7_misfit 25 = .ok (.iconst 0, 1) := by decide +kernel
theorem dX7_misfit_26 : decode cX7_misfit 26 = .ok (.istore 8, 2) := by decide +kernel
theorem dX7_misfit_28 : decode cX7_misfit 28 = .ok (.iload_n 1, 1) := by decide +kernel
theorem dX7_misfit_29 : decode cX7_misfit 29 = .ok (.iconst 1, 1) := by decide +kernel
theorem dX7_misfit_30 : decode cX7_misfit 30 = .ok (.iadd, 1) := by decide +kernel
theorem dX7_misfit_31 : decode cX7_misfit 31 = .ok (.istore 9, 2) := by decide +kernel
theorem dX7_misfit_33 : decode cX7_misfit 33 = .ok (.iload 9, 2) := by decide +kernel
theorem dX7_misfit_35 : decode cX7_misfit 35 = .ok (.iload_n 2, 1) := by decide +kernel
theorem dX7_misfit_36 : decode cX7_misfit 36 = .ok (.if_icmp .ge 61, 3) := by decide +kernel
theorem dX7_misfit_39 : decode cX7_misfit 39 = .ok (.lload 4, 2) := by decide +kernel
theorem dX7_misfit_41 : decode cX7_misfit 41 = .ok (.lload 6, 2) := by decide +kernel
theorem dX7_misfit_43 : decode cX7_misfit 43 = .ok (.iload 9, 2) := by decide +kernel
theorem dX7_misfit_45 : decode cX7_misfit 45 = .ok (.iload_n 1, 1) := by decide +kernel
theorem dX7_misfit_46 : decode cX7_misfit 46 = .ok (.isub, 1) := by decide +kernel
theorem dX7_misfit_47 : decode cX7_misfit 47 = .ok (.i2l, 1) := by decide +kernel
theorem dX7_misfit_48 : decode cX7_misfit 48 = .ok (.lmul, 1) := by decide +kernel
theorem dX7_misfit_49 : decode cX7_misfit 49 = .ok (.iload_n 2, 1) := by decide +kernel
theorem dX7_misfit_50 : decode cX7_misfit 50 = .ok (.iload_n 1, 1) := by decide +kernel
theorem dX7_misfit_51 : decode cX7_misfit 51 = .ok (.isub, 1) := by decide +kernel
theorem dX7_misfit_52 : decode cX7_misfit 52 = .ok (.i2l, 1) := by decide +kernel
theorem dX7_misfit_53 : decode cX7_misfit 53 = .ok (.invokestatic 53, 3) := by decide +kernel
theorem dX7_misfit_56 : decode cX7_misfit 56 = .ok (.ladd, 1) := by decide +kernel
theorem dX7_misfit_57 : decode cX7_misfit 57 = .ok (.aload_n 0, 1) := by decide +kernel
theorem dX7_misfit_58 : decode cX7_misfit 58 = .ok (.getfield 9, 3) := by decide +kernel
theorem dX7_misfit_61 : decode cX7_misfit 61 = .ok (.iload 9, 2) := by decide +kernel
theorem dX7_misfit_63 : decode cX7_misfit 63 = .ok (.invokestatic 45, 3) := by decide +kernel
theorem dX7_misfit_66 : decode cX7_misfit 66 = .ok (.i2l, 1) := by decide +kernel
theorem dX7_misfit_67 : decode cX7_misfit 67 = .ok (.lsub, 1) := by decide +kernel
theorem dX7_misfit_68 : decode cX7_misfit 68 = .ok (.invokestatic 57, 3) := by decide +kernel
theorem dX7_misfit_71 : decode cX7_misfit 71 = .ok (.lstore 10, 2) := by decide +kernel
theorem dX7_misfit_73 : decode cX7_misfit 73 = .ok (.lload 10, 2) := by decide +kernel
theorem dX7_misfit_75 : decode cX7_misfit 75 = .ok (.iload_n 3, 1) := by decide +kernel
theorem dX7_misfit_76 : decode cX7_misfit 76 = .ok (.i2l, 1) := by decide +kernel
theorem dX7_misfit_77 : decode cX7_misfit 77 = .ok (.lcmp, 1) := by decide +kernel
theorem dX7_misfit_78 : decode cX7_misfit 78 = .ok (.ifCond .le 5, 3) := by decide +kernel
theorem dX7_misfit_81 : decode cX7_misfit 81 = .ok (.iconst (-1), 1) := by decide +kernel
theorem dX7_misfit_82 : decode cX7_misfit 82 = .ok (.ireturn, 1) := by decide +kernel
theorem dX7_misfit_83 : decode cX7_misfit 83 = .ok (.iload 8, 2) := by decide +kernel
theorem dX7_misfit_85 : decode cX7_misfit 85 = .ok (.lload 10, 2) := by decide +kernel
theorem dX7_misfit_87 : decode cX7_misfit 87 = .ok (.l2i, 1) := by decide +kernel
theorem dX7_misfit_88 : decode cX7_misfit 88 = .ok (.iadd, 1) := by decide +kernel
theorem dX7_misfit_89 : decode cX7_misfit 89 = .ok (.istore 8, 2) := by decide +kernel
theorem dX7_misfit_91 : decode cX7_misfit 91 = .ok (.iinc 9 1, 3) := by decide +kernel
theorem dX7_misfit_94 : decode cX7_misfit 94 = .ok (.goto (-61), 3) := by decide +kernel
theorem dX7_misfit_97 : decode cX7_misfit 97 = .ok (.iload 8, 2) := by decide +kernel
theorem dX7_misfit_99 : decode cX7_misfit 99 = .ok (.ireturn, 1) := by decide +kernel
theorem dX7_size_0 : decode cX7_size 0 = .ok (.aload_n 0, 1) := by decide +kernel
theorem dX7_size_1 : decode cX7_size 1 = .ok (.getfield 15, 3) := by decide +kernel
theorem dX7_size_4 : decode cX7_size 4 = .ok (.iconst 0, 1) := by decide +kernel
theorem dX7_size_5 : decode cX7_size 5 = .ok (.invokestatic 45, 3) := by decide +kernel
theorem dX7_size_8 : decode cX7_size 8 = .ok (.ireturn, 1) := by decide +kernel
theorem dX7_frameAt_0 : decode cX7_frameAt 0 = .ok (.iload_n 2, 1) := by decide +kernel
theorem dX7_frameAt_1 : decode cX7_frameAt 1 = .ok (.ifCond .lt 11, 3) := by decide +kernel
theorem dX7_frameAt_4 : decode cX7_frameAt 4 = .ok (.iload_n 2, 1) := by decide +kernel
theorem dX7_frameAt_5 : decode cX7_frameAt 5 = .ok (.aload_n 0, 1) := by decide +kernel
theorem dX7_frameAt_6 : decode cX7_frameAt 6 = .ok (.invokevirtual 63, 3) := by decide +kernel
theorem dX7_frameAt_9 : decode cX7_frameAt 9 = .ok (.if_icmp .lt 6, 3) := by decide +kernel
theorem dX7_frameAt_12 : decode cX7_frameAt 12 = .ok (.ldc 67, 2) := by decide +kernel
theorem dX7_frameAt_14 : decode cX7_frameAt 14 = .ok (.ireturn, 1) := by decide +kernel
theorem dX7_frameAt_15 : decode cX7_frameAt 15 = .ok (.iconst 0, 1) := by decide +kernel
theorem dX7_frameAt_16 : decode cX7_frameAt 16 = .ok (.istore_n 3, 1) := by decide +kernel
theorem dX7_frameAt_17 : decode cX7_frameAt 17 = .ok (.iconst 0, 1) := by decide +kernel
theorem dX7_frameAt_18 : decode cX7_frameAt 18 = .ok (.istore 4, 2) := by decide +kernel
theorem dX7_frameAt_20 : decode cX7_frameAt 20 = .ok (.iload 4, 2) := by decide +kernel
theorem dX7_frameAt_22 : decode cX7_frameAt 22 = .ok (.iload_n 2, 1) := by decide +kernel
theorem dX7_frameAt_23 : decode cX7_frameAt 23 = .ok (.if_icmp .ge 18, 3) := by decide +kernel
theorem dX7_frameAt_26 : decode cX7_frameAt 26 = .ok (.aload_n 0, 1) := by decide +kernel
theorem dX7_frameAt_27 : decode cX7_frameAt 27 = .ok (.getfield 21, 3) := by decide +kernel
theorem dX7_frameAt_30 : decode cX7_frameAt 30 = .ok (.iload_n 3, 1) := by decide +kernel
theorem dX7_frameAt_31 : decode cX7_frameAt 31 = .ok (.invokestatic 45, 3) := by decide +kernel
theorem dX7_frameAt_34 : decode cX7_frameAt 34 = .ok (.istore_n 3, 1) := by decide +kernel
theorem dX7_frameAt_35 : decode cX7_frameAt 35 = .ok (.iinc 4 1, 3) := by decide +kernel
theorem dX7_frameAt_38 : decode cX7_frameAt 38 = .ok (.goto (-18), 3) := by decide +kernel
theorem dX7_frameAt_41 : decode cX7_frameAt 41 = .ok (.iload_n 1, 1) := by decide +kernel
theorem dX7_frameAt_42 : decode cX7_frameAt 42 = .ok (.iload_n 3, 1) := by decide +kernel
theorem dX7_frameAt_43 : decode cX7_frameAt 43 = .ok (.iadd, 1) := by decide +kernel
theorem dX7_frameAt_44 : decode cX7_frameAt 44 = .ok (.ireturn, 1) := by decide +kernel
theorem dX8_init_0 : decode cX8_init 0 = .ok (.aload_n 0, 1) := by decide +kernel
theorem dX8_init_1 : decode cX8_init 1 = .ok (.invokespecial 3, 3) := by decide +kernel
theorem dX8_init_4 : decode cX8_init 4 = .ok (.aload_n 0, 1) := by decide +kernel
theorem dX8_init_5 : decode cX8_init 5 = .ok (.new 9, 3) := by decide +kernel
theorem dX8_init_8 : decode cX8_init 8 = .ok (.dup, 1) := by decide +kernel
theorem dX8_init_9 : decode cX8_init 9 = .ok (.invokespecial 11, 3) := by decide +kernel
theorem dX8_init_12 : decode cX8_init 12 = .ok (.putfield 12, 3) := by decide +kernel
theorem dX8_init_15 : decode cX8_init 15 = .ok (.aload_n 0, 1) := by decide +kernel
theorem dX8_init_16 : decode cX8_init 16 = .ok (.new 18, 3) := by decide +kernel
theorem dX8_init_19 : decode cX8_init 19 = .ok (.dup, 1) := by decide +kernel
theorem dX8_init_20 : decode cX8_init 20 = .ok (.invokespecial 20, 3) := by decide +kernel
theorem dX8_init_23 : decode cX8_init 23 = .ok (.putfield 21, 3) := by decide +kernel
theorem dX8_init_26 : decode cX8_init 26 = .ok (.aload_n 0, 1) := by decide +kernel
theorem dX8_init_27 : decode cX8_init 27 = .ok (.iconst 4, 1) := by decide +kernel
theorem dX8_init_28 : decode cX8_init 28 = .ok (.anewarray 25, 3) := by decide +kernel
theorem dX8_init_31 : decode cX8_init 31 = .ok (.putfield 27, 3) := by decide +kernel
theorem dX8_init_34 : decode cX8_init 34 = .ok (.iconst 0, 1) := by decide +kernel
theorem dX8_init_35 : decode cX8_init 35 = .ok (.istore_n 1, 1) := by decide +kernel
theorem dX8_init_36 : decode cX8_init 36 = .ok (.iload_n 1, 1) := by decide +kernel
theorem dX8_init_37 : decode cX8_init 37 = .ok (.aload_n 0, 1) := by decide +kernel
theorem dX8_init_38 : decode cX8_init 38 = .ok (.getfield 27, 3) := by decide +kernel
theorem dX8_init_41 : decode cX8_init 41 = .ok (.arraylength, 1) := by decide +kernel
theorem dX8_init_42 : decode cX8_init 42 = .ok (.if_icmp .ge 22, 3) := by decide +kernel
theorem dX8_init_45 : decode cX8_init 45 = .ok (.aload_n 0, 1) := by decide +kernel
theorem dX8_init_46 : decode cX8_init 46 = .ok (.getfield 27, 3) := by decide +kernel
theorem dX8_init_49 : decode cX8_init 49 = .ok (.iload_n 1, 1) := by decide +kernel
theorem dX8_init_50 : decode cX8_init 50 = .ok (.new 25, 3) := by decide +kernel
theorem dX8_init_53 : decode cX8_init 53 = .ok (.dup, 1) := by decide +kernel
theorem dX8_init_54 : decode cX8_init 54 = .ok (.invokespecial 31, 3) := by decide +kernel
theorem dX8_init_57 : decode cX8_init 57 = .ok (.aastore, 1) := by decide +kernel
theorem dX8_init_58 : decode cX8_init 58 = .ok (.iinc 1 1, 3) := by decide +kernel
theorem dX8_init_61 : decode cX8_init 61 = .ok (.goto (-25), 3) := by decide +kernel
theorem dX8_init_64 : decode cX8_init 64 = .ok (.return_, 1) := by decide +kernel
theorem dX8_curveAt_0 : decode cX8_curveAt 0 = .ok (.iload_n 1, 1) := by decide +kernel
theorem dX8_curveAt_1 : decode cX8_curveAt 1 = .ok (.ifCond .lt 21, 3) := by decide +kernel
theorem dX8_curveAt_4 : decode cX8_curveAt 4 = .ok (.iload_n 1, 1) := by decide +kernel
theorem dX8_curveAt_5 : decode cX8_curveAt 5 = .ok (.aload_n 0, 1) := by decide +kernel
theorem dX8_curveAt_6 : decode cX8_curveAt 6 = .ok (.getfield 27, 3) := by decide +kernel
theorem dX8_curveAt_9 : decode cX8_curveAt 9 = .ok (.arraylength, 1) := by decide +kernel
theorem dX8_curveAt_10 : decode cX8_curveAt 10 = .ok (.if_icmp .ge 12, 3) := by decide +kernel
theorem dX8_curveAt_13 : decode cX8_curveAt 13 = .ok (.aload_n 0, 1) := by decide +kernel
theorem dX8_curveAt_14 : decode cX8_curveAt 14 = .ok (.getfield 27, 3) := by decide +kernel
theorem dX8_curveAt_17 : decode cX8_curveAt 17 = .ok (.iload_n 1, 1) := by decide +kernel
theorem dX8_curveAt_18 : decode cX8_curveAt 18 = .ok (.aaload, 1) := by decide +kernel
theorem dX8_curveAt_19 : decode cX8_curveAt 19 = .ok (.goto 4, 3) := by decide +kernel
theorem dX8_curveAt_22 : decode cX8_curveAt 22 = .ok (.aconst_null, 1) := by decide +kernel
theorem dX8_curveAt_23 : decode cX8_curveAt 23 = .ok (.areturn, 1) := by decide +kernel
theorem dX8_copy_0 : decode cX8_copy 0 = .ok (.aload_n 0, 1) := by decide +kernel
theorem dX8_copy_1 : decode cX8_copy 1 = .ok (.getfield 12, 3) := by decide +kernel
theorem dX8_copy_4 : decode cX8_copy 4 = .ok (.aload_n 1, 1) := by decide +kernel
theorem dX8_copy_5 : decode cX8_copy 5 = .ok (.getfield 12, 3) := by decide +kernel
theorem dX8_copy_8 : decode cX8_copy 8 = .ok (.invokevirtual 32, 3) := by decide +kernel
theorem dX8_copy_11 : decode cX8_copy 11 = .ok (.aload_n 0, 1) := by decide +kernel
theorem dX8_copy_12 : decode cX8_copy 12 = .ok (.getfield 21, 3) := by decide +kernel
theorem dX8_copy_15 : decode cX8_copy 15 = .ok (.aload_n 1, 1) := by decide +kernel
theorem dX8_copy_16 : decode cX8_copy 16 = .ok (.getfield 21, 3) := by decide +kernel
theorem dX8_copy_19 : decode cX8_copy 19 = .ok (.invokevirtual 36, 3) := by decide +kernel
theorem dX8_copy_22 : decode cX8_copy 22 = .ok (.iconst 0, 1) := by decide +kernel
theorem dX8_copy_23 : decode cX8_copy 23 = .ok (.istore_n 2, 1) := by decide +kernel
theorem dX8_copy_24 : decode cX8_copy 24 = .ok (.iload_n 2, 1) := by decide +kernel
theorem dX8_copy_25 : decode cX8_copy 25 = .ok (.iconst 4, 1) := by decide +kernel
theorem dX8_copy_26 : decode cX8_copy 26 = .ok (.if_icmp .ge 37, 3) := by decide +kernel
theorem dX8_copy_29 : decode cX8_copy 29 = .ok (.aload_n 0, 1) := by decide +kernel
theorem dX8_copy_30 : decode cX8_copy 30 = .ok (.iload_n 2, 1) := by decide +kernel
theorem dX8_copy_31 : decode cX8_copy 31 = .ok (.invokevirtual 39, 3) := by decide +kernel
theorem dX8_copy_34 : decode cX8_copy 34 = .ok (.astore_n 3, 1) := by decide +kernel
theorem dX8_copy_35 : decode cX8_copy 35 = .ok (.aload_n 1, 1) := by decide +kernel
theorem dX8_copy_36 : decode cX8_copy 36 = .ok (.iload_n 2, 1) := by decide +kernel
theorem dX8_copy_37 : decode cX8_copy 37 = .ok (.invokevirtual 39, 3) := by decide +kernel
theorem dX8_copy_40 : decode cX8_copy 40 = .ok (.astore 4, 2) := by decide +kernel
theorem dX8_copy_42 : decode cX8_copy 42 = .ok (.aload_n 3, 1) := by decide +kernel
theorem dX8_copy_43 : decode cX8_copy 43 = .ok (.ifnull 14, 3) := by decide +kernel
theorem dX8_copy_46 : decode cX8_copy 46 = .ok (.aload 4, 2) := by decide +kernel
theorem dX8_copy_48 : decode cX8_copy 48 = .ok (.ifnull 9, 3) := by decide +kernel
theorem dX8_copy_51 : decode cX8_copy 51 = .ok (.aload_n 3, 1) := by decide +kernel
theorem dX8_copy_52 : decode cX8_copy 52 = .ok (.aload 4, 2) := by decide +kernel
theorem dX8_copy_54 : decode cX8_copy 54 = .ok (.invokevirtual 43, 3) := by decide +kernel
theorem dX8_copy_57 : decode cX8_copy 57 = .ok (.iinc 2 1, 3) := by decide +kernel
theorem dX8_copy_60 : decode cX8_copy 60 = .ok (.goto (-36), 3) := by decide +kernel
theorem dX8_copy_63 : decode cX8_copy 63 = .ok (.return_, 1) := by decide +kernel
theorem dX9_init_0 : decode cX9_init 0 = .ok (.aload_n 0, 1) := by decide +kernel
theorem dX9_init_1 : decode cX9_init 1 = .ok (.invokespecial 3, 3) := by decide +kernel
theorem dX9_init_4 : decode cX9_init 4 = .ok (.aload_n 0, 1) := by decide +kernel
theorem dX9_init_5 : decode cX9_init 5 = .ok (.iconst (-1), 1) := by decide +kernel
theorem dX9_init_6 : decode cX9_init 6 = .ok (.putfield 11, 3) := by decide +kernel
theorem dX9_init_9 : decode cX9_init 9 = .ok (.aload_n 0, 1) := by decide +kernel
theorem dX9_init_10 : decode cX9_init 10 = .ok (.bipush 120, 2) := by decide +kernel
theorem dX9_init_12 : decode cX9_init 12 = .ok (.newarray .int, 2) := by decide +kernel
theorem dX9_init_14 : decode cX9_init 14 = .ok (.putfield 15, 3) := by decide +kernel
theorem dX9_init_17 : decode cX9_init 17 = .ok (.return_, 1) := by decide +kernel
theorem dX9_add_0 : decode cX9_add 0 = .ok (.aload_n 0, 1) := by decide +kernel
theorem dX9_add_1 : decode cX9_add 1 = .ok (.getfield 15, 3) := by decide +kernel
theorem dX9_add_4 : decode cX9_add 4 = .ok (.aload_n 0, 1) := by decide +kernel
theorem dX9_add_5 : decode cX9_add 5 = .ok (.getfield 19, 3) := by decide +kernel
theorem dX9_add_8 : decode cX9_add 8 = .ok (.iload_n 1, 1) := by decide +kernel
theorem dX9_add_9 : decode cX9_add 9 = .ok (.invokestatic 22, 3) := by decide +kernel
theorem dX9_add_12 : decode cX9_add 12 = .ok (.aload_n 0, 1) := by decide +kernel
theorem dX9_add_13 : decode cX9_add 13 = .ok (.dup, 1) := by decide +kernel
theorem dX9_add_14 : decode cX9_add 14 = .ok (.getfield 19, 3) := by decide +kernel
theorem dX9_add_17 : decode cX9_add 17 = .ok (.iconst 1, 1) := by decide +kernel
theorem dX9_add_18 : decode cX9_add 18 = .ok (.iadd, 1) := by decide +kernel
theorem dX9_add_19 : decode cX9_add 19 = .ok (.putfield 19, 3) := by decide +kernel
theorem dX9_add_22 : decode cX9_add 22 = .ok (.aload_n 0, 1) := by decide +kernel
theorem dX9_add_23 : decode cX9_add 23 = .ok (.getfield 19, 3) := by decide +kernel
theorem dX9_add_26 : decode cX9_add 26 = .ok (.ireturn, 1) := by decide +kernel
theorem dX9_rewind_0 : decode cX9_rewind 0 = .ok (.aload_n 0, 1) := by decide +kernel
theorem dX9_rewind_1 : decode cX9_rewind 1 = .ok (.iconst 0, 1) := by decide +kernel
theorem dX9_rewind_2 : decode cX9_rewind 2 = .ok (.putfield 26, 3) := by decide +kernel
theorem dX9_rewind_5 : decode cX9_rewind 5 = .ok (.aload_n 0, 1) := by decide +kernel
theorem dX9_rewind_6 : decode cX9_rewind 6 = .ok (.iconst (-1), 1) := by decide +kernel
theorem dX9_rewind_7 : decode cX9_rewind 7 = .ok (.putfield 11, 3) := by decide +kernel
theorem dX9_rewind_10 : decode cX9_rewind 10 = .ok (.return_, 1) := by decide +kernel
theorem dX9_peek_0 : decode cX9_peek 0 = .ok (.aload_n 0, 1) := by decide +kernel
theorem dX9_peek_1 : decode cX9_peek 1 = .ok (.getfield 11, 3) := by decide +kernel
theorem dX9_peek_4 : decode cX9_peek 4 = .ok (.iconst (-1), 1) := by decide +kernel
theorem dX9_peek_5 : decode cX9_peek 5 = .ok (.if_icmp .ne 28, 3) := by decide +kernel
theorem dX9_peek_8 : decode cX9_peek 8 = .ok (.aload_n 0, 1) := by decide +kernel
theorem dX9_peek_9 : decode cX9_peek 9 = .ok (.getfield 26, 3) := by decide +kernel
theorem dX9_peek_12 : decode cX9_peek 12 = .ok (.aload_n 0, 1) := by decide +kernel
theorem dX9_peek_13 : decode cX9_peek 13 = .ok (.getfield 19, 3) := by decide +kernel
theorem dX9_peek_16 : decode cX9_peek 16 = .ok (.if_icmp .ge 17, 3) := by decide +kernel
theorem dX9_peek_19 : decode cX9_peek 19 = .ok (.aload_n 0, 1) := by decide +kernel
theorem dX9_peek_20 : decode cX9_peek 20 = .ok (.getfield 15, 3) := by decide +kernel
theorem dX9_peek_23 : decode cX9_peek 23 = .ok (.aload_n 0, 1) := by decide +kernel
theorem dX9_peek_24 : decode cX9_peek 24 = .ok (.getfield 26, 3) := by decide +kernel
theorem dX9_peek_27 : decode cX9_peek 27 = .ok (.invokestatic 29, 3) := by decide +kernel
theorem dX9_peek_30 : decode cX9_peek 30 = .ok (.goto 4, 3) := by decide +kernel
theorem dX9_peek_33 : decode cX9_peek 33 = .ok (.iconst (-1), 1) := by decide +kernel
theorem dX9_peek_34 : decode cX9_peek 34 = .ok (.ireturn, 1) := by decide +kernel
theorem dX9_accept_0 : decode cX9_accept 0 = .ok (.aload_n 0, 1) := by decide +kernel
theorem dX9_accept_1 : decode cX9_accept 1 = .ok (.invokevirtual 33, 3) := by decide +kernel
theorem dX9_accept_4 : decode cX9_accept 4 = .ok (.iload_n 1, 1) := by decide +kernel
theorem dX9_accept_5 : decode cX9_accept 5 = .ok (.if_icmp .eq 5, 3) := by decide +kernel
theorem dX9_accept_8 : decode cX9_accept 8 = .ok (.iconst 0, 1) := by decide +kernel
theorem dX9_accept_9 : decode cX9_accept 9 = .ok (.ireturn, 1) := by decide +kernel
theorem dX9_accept_10 : decode cX9_accept 10 = .ok (.aload_n 0, 1) := by decide +kernel
theorem dX9_accept_11 : decode cX9_accept 11 = .ok (.dup, 1) := by decide +kernel
theorem dX9_accept_12 : decode cX9_accept 12 = .ok (.getfield 26, 3) := by decide +kernel
theorem dX9_accept_15 : decode cX9_accept 15 = .ok (.iconst 1, 1) := by decide +kernel
theorem dX9_accept_16 : decode cX9_accept 16 = .ok (.iadd, 1) := by decide +kernel
theorem dX9_accept_17 : decode cX9_accept 17 = .ok (.putfield 26, 3) := by decide +kernel
theorem dX9_accept_20 : decode cX9_accept 20 = .ok (.iconst 1, 1) := by decide +kernel
theorem dX9_accept_21 : decode cX9_accept 21 = .ok (.ireturn, 1) := by decide +kernel
theorem dX9_expect_0 : decode cX9_expect 0 = .ok (.aload_n 0, 1) := by decide +kernel
theorem dX9_expect_1 : decode cX9_expect 1 = .ok (.iload_n 1, 1) := by decide +kernel
theorem dX9_expect_2 : decode cX9_expect 2 = .ok (.invokevirtual 37, 3) := by decide +kernel
theorem dX9_expect_5 : decode cX9_expect 5 = .ok (.ifCond .ne 11, 3) := by decide +kernel
theorem dX9_expect_8 : decode cX9_expect 8 = .ok (.aload_n 0, 1) := by decide +kernel
theorem dX9_expect_9 : decode cX9_expect 9 = .ok (.aload_n 0, 1) := by decide +kernel
theorem dX9_expect_10 : decode cX9_expect 10 = .ok (.getfield 26, 3) := by decide +kernel
theorem dX9_expect_13 : decode cX9_expect 13 = .ok (.invokevirtual 41, 3) := by decide +kernel
theorem dX9_expect_16 : decode cX9_expect 16 = .ok (.return_, 1) := by decide +kernel
theorem dX9_fail_0 : decode cX9_fail 0 = .ok (.aload_n 0, 1) := by decide +kernel
theorem dX9_fail_1 : decode cX9_fail 1 = .ok (.getfield 11, 3) := by decide +kernel
theorem dX9_fail_4 : decode cX9_fail 4 = .ok (.iconst (-1), 1) := by decide +kernel
theorem dX9_fail_5 : decode cX9_fail 5 = .ok (.if_icmp .ne 8, 3) := by decide +kernel
theorem dX9_fail_8 : decode cX9_fail 8 = .ok (.aload_n 0, 1) := by decide +kernel
theorem dX9_fail_9 : decode cX9_fail 9 = .ok (.iload_n 1, 1) := by decide +kernel
theorem dX9_fail_10 : decode cX9_fail 10 = .ok (.putfield 11, 3) := by decide +kernel
theorem dX9_fail_13 : decode cX9_fail 13 = .ok (.return_, 1) := by decide +kernel
theorem dX9_number_0 : decode cX9_number 0 = .ok (.aload_n 0, 1) := by decide +kernel
theorem dX9_number_1 : decode cX9_number 1 = .ok (.getfield 26, 3) := by decide +kernel
theorem dX9_number_4 : decode cX9_number 4 = .ok (.istore_n 1, 1) := by decide +kernel
theorem dX9_number_5 : decode cX9_number 5 = .ok (.iconst 0, 1) := by decide +kernel
theorem dX9_number_6 : decode cX9_number 6 = .ok (.istore_n 2, 1) := by decide +kernel
theorem dX9_number_7 : decode cX9_number 7 = .ok (.iconst 0, 1) := by decide +kernel
theorem dX9_number_8 : decode cX9_number 8 = .ok (.istore_n 3, 1) := by decide +kernel
theorem dX9_number_9 : decode cX9_number 9 = .ok (.iload_n 3, 1) := by decide +kernel
theorem dX9_number_10 : decode cX9_number 10 = .ok (.bipush 120, 2) := by decide +kernel
theorem dX9_number_12 : decode cX9_number 12 = .ok (.if_icmp .ge 59, 3) := by decide +kernel
theorem dX9_number_15 : decode cX9_number 15 = .ok (.aload_n 0, 1) := by decide +kernel
theorem dX9_number_16 : decode cX9_number 16 = .ok (.invokevirtual 33, 3) := by decide +kernel
theorem dX9_number_19 : decode cX9_number 19 = .ok (.bipush 48, 2) := by decide +kernel
theorem dX9_number_21 : decode cX9_number 21 = .ok (.if_icmp .lt 50, 3) := by decide +kernel
theorem dX9_number_24 : decode cX9_number 24 = .ok (.aload_n 0, 1) := by decide +kernel
theorem dX9_number_25 : decode cX9_number 25 = .ok (.invokevirtual 33, 3) := by decide +kernel
theorem dX9_number_28 : decode cX9_number 28 = .ok (.bipush 57, 2) := by decide +kernel
theorem dX9_number_30 : decode cX9_number 30 = .ok (.if_icmp .gt 41, 3) := by decide +kernel
theorem dX9_number_33 : decode cX9_number 33 = .ok (.iload_n 3, 1) := by decide +kernel
theorem dX9_number_34 : decode cX9_number 34 = .ok (.iconst 3, 1) := by decide +kernel
theorem dX9_number_35 : decode cX9_number 35 = .ok (.if_icmp .ge 18, 3) := by decide +kernel
theorem dX9_number_38 : decode cX9_number 38 = .ok (.bipush 10, 2) := by decide +kernel
theorem dX9_number_40 : decode cX9_number 40 = .ok (.iload_n 2, 1) := by decide +kernel
theorem dX9_number_41 : decode cX9_number 41 = .ok (.imul, 1) := by decide +kernel
theorem dX9_number_42 : decode cX9_number 42 = .ok (.aload_n 0, 1) := by decide +kernel
theorem dX9_number_43 : decode cX9_number 43 = .ok (.invokevirtual 33, 3) := by decide +kernel
theorem dX9_number_46 : decode cX9_number 46 = .ok (.iadd, 1) := by decide +kernel
theorem dX9_number_47 : decode cX9_number 47 = .ok (.bipush 48, 2) := by decide +kernel
theorem dX9_number_49 : decode cX9_number 49 = .ok (.isub, 1) := by decide +kernel
theorem dX9_number_50 : decode cX9_number 50 = .ok (.goto 4, 3) := by decide +kernel
theorem dX9_number_53 : decode cX9_number 53 = .ok (.iload_n 2, 1) := by decide +kernel
theorem dX9_number_54 : decode cX9_number 54 = .ok (.istore_n 2, 1) := by decide +kernel
theorem dX9_number_55 : decode cX9_number 55 = .ok (.iinc 3 1, 3) := by decide +kernel
theorem dX9_number_58 : decode cX9_number 58 = .ok (.aload_n 0, 1) := by decide +kernel
theorem dX9_number_59 : decode cX9_number 59 = .ok (.dup, 1) := by decide +kernel
theorem dX9_number_60 : decode cX9_number 60 = .ok (.getfield 26, 3) := by decide +kernel
theorem dX9_number_63 : decode cX9_number 63 = .ok (.iconst 1, 1) := by decide +kernel
theorem dX9_number_64 : decode cX9_number 64 = .ok (.iadd, 1) := by decide +kernel
theorem dX9_number_65 : decode cX9_number 65 = .ok (.putfield 26, 3) := by decide +kernel
theorem dX9_number_68 : decode cX9_number 68 = .ok (.goto (-59), 3) := by decide +kernel
theorem dX9_number_71 : decode cX9_number 71 = .ok (.iload_n 3, 1) := by decide +kernel
theorem dX9_number_72 : decode cX9_number 72 = .ok (.iconst 1, 1) := by decide +kernel
theorem dX9_number_73 : decode cX9_number 73 = .ok (.if_icmp .lt 8, 3) := by decide +kernel
theorem dX9_number_76 : decode cX9_number 76 = .ok (.iload_n 3, 1) := by decide +kernel
theorem dX9_number_77 : decode cX9_number 77 = .ok (.iconst 3, 1) := by decide +kernel
theorem dX9_number_78 : decode cX9_number 78 = .ok (.if_icmp .le 8, 3) := by decide +kernel
theorem dX9_number_81 : decode cX9_number 81 = .ok (.aload_n 0, 1) := by decide +kernel
theorem dX9_number_82 : decode cX9_number 82 = .ok (.iload_n 1, 1) := by decide +kernel
theorem dX9_number_83 : decode cX9_number 83 = .ok (.invokevirtual 41, 3) := by decide +kernel
theorem dX9_number_86 : decode cX9_number 86 = .ok (.iload_n 2, 1) := by decide +kernel
theorem dX9_number_87 : decode cX9_number 87 = .ok (.ireturn, 1) := by decide +kernel
theorem dX9_verdict_0 : decode cX9_verdict 0 = .ok (.aload_n 0, 1) := by decide +kernel
theorem dX9_verdict_1 : decode cX9_verdict 1 = .ok (.getfield 26, 3) := by decide +kernel
theorem dX9_verdict_4 : decode cX9_verdict 4 = .ok (.aload_n 0, 1) := by decide +kernel
theorem dX9_verdict_5 : decode cX9_verdict 5 = .ok (.getfield 19, 3) := by decide +kernel
theorem dX9_verdict_8 : decode cX9_verdict 8 = .ok (.if_icmp .ge 11, 3) := by decide +kernel
theorem dX9_verdict_11 : decode cX9_verdict 11 = .ok (.aload_n 0, 1) := by decide +kernel
theorem dX9_verdict_12 : decode cX9_verdict 12 = .ok (.aload_n 0, 1) := by decide +kernel
theorem dX9_verdict_13 : decode cX9_verdict 13 = .ok (.getfield 26, 3) := by decide +kernel
theorem dX9_verdict_16 : decode cX9_verdict 16 = .ok (.invokevirtual 41, 3) := by decide +kernel
theorem dX9_verdict_19 : decode cX9_verdict 19 = .ok (.aload_n 0, 1) := by decide +kernel
theorem dX9_verdict_20 : decode cX9_verdict 20 = .ok (.getfield 11, 3) := by decide +kernel
theorem dX9_verdict_23 : decode cX9_verdict 23 = .ok (.iconst (-1), 1) := by decide +kernel
theorem dX9_verdict_24 : decode cX9_verdict 24 = .ok (.if_icmp .ne 8, 3) := by decide +kernel
theorem dX9_verdict_27 : decode cX9_verdict 27 = .ok (.ldc 45, 2) := by decide +kernel
theorem dX9_verdict_29 : decode cX9_verdict 29 = .ok (.goto 7, 3) := by decide +kernel
theorem dX9_verdict_32 : decode cX9_verdict 32 = .ok (.aload_n 0, 1) := by decide +kernel
theorem dX9_verdict_33 : decode cX9_verdict 33 = .ok (.getfield 11, 3) := by decide +kernel
theorem dX9_verdict_36 : decode cX9_verdict 36 = .ok (.ireturn, 1) := by decide +kernel
theorem dX10_init_0 : decode cX10_init 0 = .ok (.aload_n 0, 1) := by decide +kernel
theorem dX10_init_1 : decode cX10_init 1 = .ok (.invokespecial 3, 3) := by decide +kernel
theorem dX10_init_4 : decode cX10_init 4 = .ok (.aload_n 0, 1) := by decide +kernel
theorem dX10_init_5 : decode cX10_init 5 = .ok (.bipush 8, 2) := by decide +kernel
theorem dX10_init_7 : decode cX10_init 7 = .ok (.newarray .int, 2) := by decide +kernel
theorem dX10_init_9 : decode cX10_init 9 = .ok (.putfield 9, 3) := by decide +kernel
theorem dX10_init_12 : decode cX10_init 12 = .ok (.aload_n 0, 1) := by decide +kernel
theorem dX10_init_13 : decode cX10_init 13 = .ok (.bipush 8, 2) := by decide +kernel
theorem dX10_init_15 : decode cX10_init 15 = .ok (.newarray .int, 2) := by decide +kernel
theorem dX10_init_17 : decode cX10_init 17 = .ok (.putfield 15, 3) := by decide +kernel
theorem dX10_init_20 : decode cX10_init 20 = .ok (.return_, 1) := by decide +kernel
theorem dX10_copy_0 : decode cX10_copy 0 = .ok (.aload_n 0, 1) := by decide +kernel
theorem dX10_copy_1 : decode cX10_copy 1 = .ok (.aload_n 1, 1) := by decide +kernel
theorem dX10_copy_2 : decode cX10_copy 2 = .ok (.getfield 18, 3) := by decide +kernel
theorem dX10_copy_5 : decode cX10_copy 5 = .ok (.putfield 18, 3) := by decide +kernel
theorem dX10_copy_8 : decode cX10_copy 8 = .ok (.aload_n 1, 1) := by decide +kernel
theorem dX10_copy_9 : decode cX10_copy 9 = .ok (.getfield 9, 3) := by decide +kernel
theorem dX10_copy_12 : decode cX10_copy 12 = .ok (.aload_n 0, 1) := by decide +kernel
theorem dX10_copy_13 : decode cX10_copy 13 = .ok (.getfield 9, 3) := by decide +kernel
theorem dX10_copy_16 : decode cX10_copy 16 = .ok (.invokestatic 22, 3) := by decide +kernel
theorem dX10_copy_19 : decode cX10_copy 19 = .ok (.aload_n 1, 1) := by decide +kernel
theorem dX10_copy_20 : decode cX10_copy 20 = .ok (.getfield 15, 3) := by decide +kernel
theorem dX10_copy_23 : decode cX10_copy 23 = .ok (.aload_n 0, 1) := by decide +kernel
theorem dX10_copy_24 : decode cX10_copy 24 = .ok (.getfield 15, 3) := by decide +kernel
theorem dX10_copy_27 : decode cX10_copy 27 = .ok (.invokestatic 22, 3) := by decide +kernel
theorem dX10_copy_30 : decode cX10_copy 30 = .ok (.return_, 1) := by decide +kernel
theorem dX10_canFollow_0 : decode cX10_canFollow 0 = .ok (.aload_n 0, 1) := by decide +kernel
theorem dX10_canFollow_1 : decode cX10_canFollow 1 = .ok (.getfield 18, 3) := by decide +kernel
theorem dX10_canFollow_4 : decode cX10_canFollow 4 = .ok (.ifCond .eq 37, 3) := by decide +kernel
theorem dX10_canFollow_7 : decode cX10_canFollow 7 = .ok (.iload_n 1, 1) := by decide +kernel
theorem dX10_canFollow_8 : decode cX10_canFollow 8 = .ok (.aload_n 0, 1) := by decide +kernel
theorem dX10_canFollow_9 : decode cX10_canFollow 9 = .ok (.getfield 9, 3) := by decide +kernel
theorem dX10_canFollow_12 : decode cX10_canFollow 12 = .ok (.aload_n 0, 1) := by decide +kernel
theorem dX10_canFollow_13 : decode cX10_canFollow 13 = .ok (.getfield 18, 3) := by decide +kernel
theorem dX10_canFollow_16 : decode cX10_canFollow 16 = .ok (.iconst 1, 1) := by decide +kernel
theorem dX10_canFollow_17 : decode cX10_canFollow 17 = .ok (.isub, 1) := by decide +kernel
theorem dX10_canFollow_18 : decode cX10_canFollow 18 = .ok (.invokestatic 26, 3) := by decide +kernel
theorem dX10_canFollow_21 : decode cX10_canFollow 21 = .ok (.if_icmp .le 24, 3) := by decide +kernel
theorem dX10_canFollow_24 : decode cX10_canFollow 24 = .ok (.iload_n 2, 1) := by decide +kernel
theorem dX10_canFollow_25 : decode cX10_canFollow 25 = .ok (.aload_n 0, 1) := by decide +kernel
theorem dX10_canFollow_26 : decode cX10_canFollow 26 = .ok (.getfield 15, 3) := by decide +kernel
theorem dX10_canFollow_29 : decode cX10_canFollow 29 = .ok (.aload_n 0, 1) := by decide +kernel
theorem dX10_canFollow_30 : decode cX10_canFollow 30 = .ok (.getfield 18, 3) := by decide +kernel
theorem dX10_canFollow_33 : decode cX10_canFollow 33 = .ok (.iconst 1, 1) := by decide +kernel
theorem dX10_canFollow_34 : decode cX10_canFollow 34 = .ok (.isub, 1) := by decide +kernel
theorem dX10_canFollow_35 : decode cX10_canFollow 35 = .ok (.invokestatic 26, 3) := by decide +kernel
theorem dX10_canFollow_38 : decode cX10_canFollow 38 = .ok (.if_icmp .le 7, 3) := by decide +kernel
theorem dX10_canFollow_41 : decode cX10_canFollow 41 = .ok (.iconst 1, 1) := by decide +kernel
theorem dX10_canFollow_42 : decode cX10_canFollow 42 = .ok (.goto 4, 3) := by decide +kernel
theorem dX10_canFollow_45 : decode cX10_canFollow 45 = .ok (.iconst 0, 1) := by decide +kernel
theorem dX10_canFollow_46 : decode cX10_canFollow 46 = .ok (.ireturn, 1) := by decide +kernel
theorem dX10_add_0 : decode cX10_add 0 = .ok (.aload_n 0, 1) := by decide +kernel
theorem dX10_add_1 : decode cX10_add 1 = .ok (.getfield 9, 3) := by decide +kernel
theorem dX10_add_4 : decode cX10_add 4 = .ok (.aload_n 0, 1) := by decide +kernel
theorem dX10_add_5 : decode cX10_add 5 = .ok (.getfield 18, 3) := by decide +kernel
theorem dX10_add_8 : decode cX10_add 8 = .ok (.iload_n 1, 1) := by decide +kernel
theorem dX10_add_9 : decode cX10_add 9 = .ok (.invokestatic 30, 3) := by decide +kernel
theorem dX10_add_12 : decode cX10_add 12 = .ok (.aload_n 0, 1) := by decide +kernel
theorem dX10_add_13 : decode cX10_add 13 = .ok (.getfield 15, 3) := by decide +kernel
theorem dX10_add_16 : decode cX10_add 16 = .ok (.aload_n 0, 1) := by decide +kernel
theorem dX10_add_17 : decode cX10_add 17 = .ok (.getfield 18, 3) := by decide +kernel
theorem dX10_add_20 : decode cX10_add 20 = .ok (.iload_n 2, 1) := by decide +kernel
theorem dX10_add_21 : decode cX10_add 21 = .ok (.invokestatic 30, 3) := by decide +kernel
theorem dX10_add_24 : decode cX10_add 24 = .ok (.aload_n 0, 1) := by decide +kernel
theorem dX10_add_25 : decode cX10_add 25 = .ok (.dup, 1) := by decide +kernel
theorem dX10_add_26 : decode cX10_add 26 = .ok (.getfield 18, 3) := by decide +kernel
theorem dX10_add_29 : decode cX10_add 29 = .ok (.iconst 1, 1) := by decide +kernel
theorem dX10_add_30 : decode cX10_add 30 = .ok (.iadd, 1) := by decide +kernel
theorem dX10_add_31 : decode cX10_add 31 = .ok (.putfield 18, 3) := by decide +kernel
theorem dX10_add_34 : decode cX10_add 34 = .ok (.return_, 1) := by decide +kernel
theorem dX10_send_0 : decode cX10_send 0 = .ok (.aload_n 0, 1) := by decide +kernel
theorem dX10_send_1 : decode cX10_send 1 = .ok (.getfield 18, 3) := by decide +kernel
theorem dX10_send_4 : decode cX10_send 4 = .ok (.ifCond .ne 5, 3) := by decide +kernel
theorem dX10_send_7 : decode cX10_send 7 = .ok (.iload_n 1, 1) := by decide +kernel
theorem dX10_send_8 : decode cX10_send 8 = .ok (.ireturn, 1) := by decide +kernel
theorem dX10_send_9 : decode cX10_send 9 = .ok (.aload_n 0, 1) := by decide +kernel
theorem dX10_send_10 : decode cX10_send 10 = .ok (.iload_n 1, 1) := by decide +kernel
theorem dX10_send_11 : decode cX10_send 11 = .ok (.invokevirtual 34, 3) := by decide +kernel
theorem dX10_send_14 : decode cX10_send 14 = .ok (.istore_n 2, 1) := by decide +kernel
theorem dX10_send_15 : decode cX10_send 15 = .ok (.iload_n 2, 1) := by decide +kernel
theorem dX10_send_16 : decode cX10_send 16 = .ok (.ifCond .eq 11, 3) := by decide +kernel
theorem dX10_send_19 : decode cX10_send 19 = .ok (.iload_n 2, 1) := by decide +kernel
theorem dX10_send_20 : decode cX10_send 20 = .ok (.aload_n 0, 1) := by decide +kernel
theorem dX10_send_21 : decode cX10_send 21 = .ok (.getfield 18, 3) := by decide +kernel
theorem dX10_send_24 : decode cX10_send 24 = .ok (.if_icmp .ne 38, 3) := by decide +kernel
theorem dX10_send_27 : decode cX10_send 27 = .ok (.iload_n 2, 1) := by decide +kernel
theorem dX10_send_28 : decode cX10_send 28 = .ok (.ifCond .ne 7, 3) := by decide +kernel
theorem dX10_send_31 : decode cX10_send 31 = .ok (.iconst 0, 1) := by decide +kernel
theorem dX10_send_32 : decode cX10_send 32 = .ok (.goto 9, 3) := by decide +kernel
theorem dX10_send_35 : decode cX10_send 35 = .ok (.aload_n 0, 1) := by decide +kernel
theorem dX10_send_36 : decode cX10_send 36 = .ok (.getfield 18, 3) := by decide +kernel
theorem dX10_send_39 : decode cX10_send 39 = .ok (.iconst 1, 1) := by decide +kernel
theorem dX10_send_40 : decode cX10_send 40 = .ok (.isub, 1) := by decide +kernel
theorem dX10_send_41 : decode cX10_send 41 = .ok (.istore_n 3, 1) := by decide +kernel
theorem dX10_send_42 : decode cX10_send 42 = .ok (.iload_n 1, 1) := by decide +kernel
theorem dX10_send_43 : decode cX10_send 43 = .ok (.aload_n 0, 1) := by decide +kernel
theorem dX10_send_44 : decode cX10_send 44 = .ok (.getfield 15, 3) := by decide +kernel
theorem dX10_send_47 : decode cX10_send 47 = .ok (.iload_n 3, 1) := by decide +kernel
theorem dX10_send_48 : decode cX10_send 48 = .ok (.invokestatic 26, 3) := by decide +kernel
theorem dX10_send_51 : decode cX10_send 51 = .ok (.iadd, 1) := by decide +kernel
theorem dX10_send_52 : decode cX10_send 52 = .ok (.aload_n 0, 1) := by decide +kernel
theorem dX10_send_53 : decode cX10_send 53 = .ok (.getfield 9, 3) := by decide +kernel
theorem dX10_send_56 : decode cX10_send 56 = .ok (.iload_n 3, 1) := by decide +kernel
theorem dX10_send_57 : decode cX10_send 57 = .ok (.invokestatic 26, 3) := by decide +kernel
theorem dX10_send_60 : decode cX10_send 60 = .ok (.isub, 1) := by decide +kernel
theorem dX10_send_61 : decode cX10_send 61 = .ok (.ireturn, 1) := by decide +kernel
theorem dX10_send_62 : decode cX10_send 62 = .ok (.iload_n 2, 1) := by decide +kernel
theorem dX10_send_63 : decode cX10_send 63 = .ok (.iconst 1, 1) := by decide +kernel
theorem dX10_send_64 : decode cX10_send 64 = .ok (.isub, 1) := by decide +kernel
theorem dX10_send_65 : decode cX10_send 65 = .ok (.istore_n 3, 1) := by decide +kernel
theorem dX10_send_66 : decode cX10_send 66 = .ok (.iload_n 1, 1) := by decide +kernel
theorem dX10_send_67 : decode cX10_send 67 = .ok (.aload_n 0, 1) := by decide +kernel
theorem dX10_send_68 : decode cX10_send 68 = .ok (.getfield 9, 3) := by decide +kernel
theorem dX10_send_71 : decode cX10_send 71 = .ok (.iload_n 3, 1) := by decide +kernel
theorem dX10_send_72 : decode cX10_send 72 = .ok (.invokestatic 26, 3) := by decide +kernel
theorem dX10_send_75 : decode cX10_send 75 = .ok (.isub, 1) := by decide +kernel
theorem dX10_send_76 : decode cX10_send 76 = .ok (.i2l, 1) := by decide +kernel
theorem dX10_send_77 : decode cX10_send 77 = .ok (.aload_n 0, 1) := by decide +kernel
theorem dX10_send_78 : decode cX10_send 78 = .ok (.iload_n 3, 1) := by decide +kernel
theorem dX10_send_79 : decode cX10_send 79 = .ok (.invokevirtual 38, 3) := by decide +kernel
theorem dX10_send_82 : decode cX10_send 82 = .ok (.i2l, 1) := by decide +kernel
theorem dX10_send_83 : decode cX10_send 83 = .ok (.lmul, 1) := by decide +kernel
theorem dX10_send_84 : decode cX10_send 84 = .ok (.lstore 4, 2) := by decide +kernel
theorem dX10_send_86 : decode cX10_send 86 = .ok (.aload_n 0, 1) := by decide +kernel
theorem dX10_send_87 : decode cX10_send 87 = .ok (.getfield 15, 3) := by decide +kernel
theorem dX10_send_90 : decode cX10_send 90 = .ok (.iload_n 3, 1) := by decide +kernel
theorem dX10_send_91 : decode cX10_send 91 = .ok (.invokestatic 26, 3) := by decide +kernel
theorem dX10_send_94 : decode cX10_send 94 = .ok (.lload 4, 2) := by decide +kernel
theorem dX10_send_96 : decode cX10_send 96 = .ok (.aload_n 0, 1) := by decide +kernel
theorem dX10_send_97 : decode cX10_send 97 = .ok (.iload_n 3, 1) := by decide +kernel
theorem dX10_send_98 : decode cX10_send 98 = .ok (.invokevirtual 41, 3) := by decide +kernel
theorem dX10_send_101 : decode cX10_send 101 = .ok (.i2l, 1) := by decide +kernel
theorem dX10_send_102 : decode cX10_send 102 = .ok (.invokestatic 44, 3) := by decide +kernel
theorem dX10_send_105 : decode cX10_send 105 = .ok (.l2i, 1) := by decide +kernel
theorem dX10_send_106 : decode cX10_send 106 = .ok (.iadd, 1) := by decide +kernel
theorem dX10_send_107 : decode cX10_send 107 = .ok (.ireturn, 1) := by decide +kernel
theorem dX10_stretched_0 : decode cX10_stretched 0 = .ok (.aload_n 0, 1) := by decide +kernel
theorem dX10_stretched_1 : decode cX10_stretched 1 = .ok (.iload_n 3, 1) := by decide +kernel
theorem dX10_stretched_2 : decode cX10_stretched 2 = .ok (.ifCond .eq 9, 3) := by decide +kernel
theorem dX10_stretched_5 : decode cX10_stretched 5 = .ok (.iload_n 2, 1) := by decide +kernel
theorem dX10_stretched_6 : decode cX10_stretched 6 = .ok (.iconst 1, 1) := by decide +kernel
theorem dX10_stretched_7 : decode cX10_stretched 7 = .ok (.iadd, 1) := by decide +kernel
theorem dX10_stretched_8 : decode cX10_stretched 8 = .ok (.goto 4, 3) := by decide +kernel
theorem dX10_stretched_11 : decode cX10_stretched 11 = .ok (.iload_n 2, 1) := by decide +kernel
theorem dX10_stretched_12 : decode cX10_stretched 12 = .ok (.invokevirtual 34, 3) := by decide +kernel
theorem dX10_stretched_15 : decode cX10_stretched 15 = .ok (.istore 4, 2) := by decide +kernel
theorem dX10_stretched_17 : decode cX10_stretched 17 = .ok (.iload 4, 2) := by decide +kernel
theorem dX10_stretched_19 : decode cX10_stretched 19 = .ok (.ifCond .eq 12, 3) := by decide +kernel
theorem dX10_stretched_22 : decode cX10_stretched 22 = .ok (.iload 4, 2) := by decide +kernel
theorem dX10_stretched_24 : decode cX10_stretched 24 = .ok (.aload_n 0, 1) := by decide +kernel
theorem dX10_stretched_25 : decode cX10_stretched 25 = .ok (.getfield 18, 3) := by decide +kernel
theorem dX10_stretched_28 : decode cX10_stretched 28 = .ok (.if_icmp .ne 5, 3) := by decide +kernel
theorem dX10_stretched_31 : decode cX10_stretched 31 = .ok (.iload_n 1, 1) := by decide +kernel
theorem dX10_stretched_32 : decode cX10_stretched 32 = .ok (.ireturn, 1) := by decide +kernel
theorem dX10_stretched_33 : decode cX10_stretched 33 = .ok (.iload 4, 2) := by decide +kernel
theorem dX10_stretched_35 : decode cX10_stretched 35 = .ok (.iconst 1, 1) := by decide +kernel
theorem dX10_stretched_36 : decode cX10_stretched 36 = .ok (.isub, 1) := by decide +kernel
theorem dX10_stretched_37 : decode cX10_stretched 37 = .ok (.istore 5, 2) := by decide +kernel
theorem dX10_stretched_39 : decode cX10_stretched 39 = .ok (.iload_n 1, 1) := by decide +kernel
theorem dX10_stretched_40 : decode cX10_stretched 40 = .ok (.i2l, 1) := by decide +kernel
theorem dX10_stretched_41 : decode cX10_stretched 41 = .ok (.aload_n 0, 1) := by decide +kernel
theorem dX10_stretched_42 : decode cX10_stretched 42 = .ok (.iload 5, 2) := by decide +kernel
theorem dX10_stretched_44 : decode cX10_stretched 44 = .ok (.invokevirtual 41, 3) := by decide +kernel
theorem dX10_stretched_47 : decode cX10_stretched 47 = .ok (.i2l, 1) := by decide +kernel
theorem dX10_stretched_48 : decode cX10_stretched 48 = .ok (.lmul, 1) := by decide +kernel
theorem dX10_stretched_49 : decode cX10_stretched 49 = .ok (.aload_n 0, 1) := by decide +kernel
theorem dX10_stretched_50 : decode cX10_stretched 50 = .ok (.iload 5, 2) := by decide +kernel
theorem dX10_stretched_52 : decode cX10_stretched 52 = .ok (.invokevirtual 38, 3) := by decide +kernel
theorem dX10_stretched_55 : decode cX10_stretched 55 = .ok (.i2l, 1) := by decide +kernel
theorem dX10_stretched_56 : decode cX10_stretched 56 = .ok (.invokestatic 44, 3) := by decide +kernel
theorem dX10_stretched_59 : decode cX10_stretched 59 = .ok (.sipush 9999, 3) := by decide +kernel
theorem dX10_stretched_62 : decode cX10_stretched 62 = .ok (.invokestatic 48, 3) := by decide +kernel
theorem dX10_stretched_65 : decode cX10_stretched 65 = .ok (.ireturn, 1) := by decide +kernel
theorem dX10_pointsBefore_0 : decode cX10_pointsBefore 0 = .ok (.iconst 0, 1) := by decide +kernel
theorem dX10_pointsBefore_1 : decode cX10_pointsBefore 1 = .ok (.istore_n 2, 1) := by decide +kernel
theorem dX10_pointsBefore_2 : decode cX10_pointsBefore 2 = .ok (.iload_n 2, 1) := by decide +kernel
theorem dX10_pointsBefore_3 : decode cX10_pointsBefore 3 = .ok (.aload_n 0, 1) := by decide +kernel
theorem dX10_pointsBefore_4 : decode cX10_pointsBefore 4 = .ok (.getfield 18, 3) := by decide +kernel
theorem dX10_pointsBefore_7 : decode cX10_pointsBefore 7 = .ok (.if_icmp .ge 21, 3) := by decide +kernel
theorem dX10_pointsBefore_10 : decode cX10_pointsBefore 10 = .ok (.aload_n 0, 1) := by decide +kernel
theorem dX10_pointsBefore_11 : decode cX10_pointsBefore 11 = .ok (.getfield 9, 3) := by decide +kernel
theorem dX10_pointsBefore_14 : decode cX10_pointsBefore 14 = .ok (.iload_n 2, 1) := by decide +kernel
theorem dX10_pointsBefore_15 : decode cX10_pointsBefore 15 = .ok (.invokestatic 26, 3) := by decide +kernel
theorem dX10_pointsBefore_18 : decode cX10_pointsBefore 18 = .ok (.iload_n 1, 1) := by decide +kernel
theorem dX10_pointsBefore_19 : decode cX10_pointsBefore 19 = .ok (.if_icmp .ge 9, 3) := by decide +kernel
theorem dX10_pointsBefore_22 : decode cX10_pointsBefore 22 = .ok (.iinc 2 1, 3) := by decide +kernel
theorem dX10_pointsBefore_25 : decode cX10_pointsBefore 25 = .ok (.goto (-23), 3) := by decide +kernel
theorem dX10_pointsBefore_28 : decode cX10_pointsBefore 28 = .ok (.iload_n 2, 1) := by decide +kernel
theorem dX10_pointsBefore_29 : decode cX10_pointsBefore 29 = .ok (.ireturn, 1) := by decide +kernel
theorem dX10_sourceLength_0 : decode cX10_sourceLength 0 = .ok (.aload_n 0, 1) := by decide +kernel
theorem dX10_sourceLength_1 : decode cX10_sourceLength 1 = .ok (.getfield 9, 3) := by decide +kernel
theorem dX10_sourceLength_4 : decode cX10_sourceLength 4 = .ok (.iload_n 1, 1) := by decide +kernel
theorem dX10_sourceLength_5 : decode cX10_sourceLength 5 = .ok (.iconst 1, 1) := by decide +kernel
theorem dX10_sourceLength_6 : decode cX10_sourceLength 6 = .ok (.iadd, 1) := by decide +kernel
theorem dX10_sourceLength_7 : decode cX10_sourceLength 7 = .ok (.invokestatic 26, 3) := by decide +kernel
theorem dX10_sourceLength_10 : decode cX10_sourceLength 10 = .ok (.aload_n 0, 1) := by decide +kernel
theorem dX10_sourceLength_11 : decode cX10_sourceLength 11 = .ok (.getfield 9, 3) := by decide +kernel
theorem dX10_sourceLength_14 : decode cX10_sourceLength 14 = .ok (.iload_n 1, 1) := by decide +kernel
theorem dX10_sourceLength_15 : decode cX10_sourceLength 15 = .ok (.invokestatic 26, 3) := by decide +kernel
theorem dX10_sourceLength_18 : decode cX10_sourceLength 18 = .ok (.isub, 1) := by decide +kernel
theorem dX10_sourceLength_19 : decode cX10_sourceLength 19 = .ok (.ireturn, 1) := by decide +kernel
theorem dX10_targetLength_0 : decode cX10_targetLength 0 = .ok (.aload_n 0, 1) := by decide +kernel
theorem dX10_targetLength_1 : decode cX10_targetLength 1 = .ok (.getfield 15, 3) := by decide +kernel
theorem dX10_targetLength_4 : decode cX10_targetLength 4 = .ok (.iload_n 1, 1) := by decide +kernel
theorem dX10_targetLength_5 : decode cX10_targetLength 5 = .ok (.iconst 1, 1) := by decide +kernel
theorem dX10_targetLength_6 : decode cX10_targetLength 6 = .ok (.iadd, 1) := by decide +kernel
theorem dX10_targetLength_7 : decode cX10_targetLength 7 = .ok (.invokestatic 26, 3) := by decide +kernel
theorem dX10_targetLength_10 : decode cX10_targetLength 10 = .ok (.aload_n 0, 1) := by decide +kernel
theorem dX10_targetLength_11 : decode cX10_targetLength 11 = .ok (.getfield 15, 3) := by decide +kernel
theorem dX10_targetLength_14 : decode cX10_targetLength 14 = .ok (.iload_n 1, 1) := by decide +kernel
theorem dX10_targetLength_15 : decode cX10_targetLength 15 = .ok (.invokestatic 26, 3) := by decide +kernel
theorem dX10_targetLength_18 : decode cX10_targetLength 18 = .ok (.isub, 1) := by decide +kernel
theorem dX10_targetLength_19 : decode cX10_targetLength 19 = .ok (.ireturn, 1) := by decide +kernel
theorem dX10_addTo_0 : decode cX10_addTo 0 = .ok (.ldc2_w 52, 3) := by decide +kernel
theorem dX10_addTo_3 : decode cX10_addTo 3 = .ok (.lload_n 1, 1) := by decide +kernel
theorem dX10_addTo_4 : decode cX10_addTo 4 = .ok (.lmul, 1) := by decide +kernel
theorem dX10_addTo_5 : decode cX10_addTo 5 = .ok (.aload_n 0, 1) := by decide +kernel
theorem dX10_addTo_6 : decode cX10_addTo 6 = .ok (.getfield 18, 3) := by decide +kernel
theorem dX10_addTo_9 : decode cX10_addTo 9 = .ok (.i2l, 1) := by decide +kernel
theorem dX10_addTo_10 : decode cX10_addTo 10 = .ok (.ladd, 1) := by decide +kernel
theorem dX10_addTo_11 : decode cX10_addTo 11 = .ok (.lstore_n 3, 1) := by decide +kernel
theorem dX10_addTo_12 : decode cX10_addTo 12 = .ok (.iconst 0, 1) := by decide +kernel
theorem dX10_addTo_13 : decode cX10_addTo 13 = .ok (.istore 5, 2) := by decide +kernel
theorem dX10_addTo_15 : decode cX10_addTo 15 = .ok (.iload 5, 2) := by decide +kernel
theorem dX10_addTo_17 : decode cX10_addTo 17 = .ok (.aload_n 0, 1) := by decide +kernel
theorem dX10_addTo_18 : decode cX10_addTo 18 = .ok (.getfield 18, 3) := by decide +kernel
theorem dX10_addTo_21 : decode cX10_addTo 21 = .ok (.if_icmp .ge 43, 3) := by decide +kernel
theorem dX10_addTo_24 : decode cX10_addTo 24 = .ok (.ldc2_w 52, 3) := by decide +kernel
theorem dX10_addTo_27 : decode cX10_addTo 27 = .ok (.lload_n 3, 1) := by decide +kernel
theorem dX10_addTo_28 : decode cX10_addTo 28 = .ok (.lmul, 1) := by decide +kernel
theorem dX10_addTo_29 : decode cX10_addTo 29 = .ok (.aload_n 0, 1) := by decide +kernel
theorem dX10_addTo_30 : decode cX10_addTo 30 = .ok (.getfield 9, 3) := by decide +kernel
theorem dX10_addTo_33 : decode cX10_addTo 33 = .ok (.iload 5, 2) := by decide +kernel
theorem dX10_addTo_35 : decode cX10_addTo 35 = .ok (.invokestatic 26, 3) := by decide +kernel
theorem dX10_addTo_38 : decode cX10_addTo 38 = .ok (.i2l, 1) := by decide +kernel
theorem dX10_addTo_39 : decode cX10_addTo 39 = .ok (.ladd, 1) := by decide +kernel
theorem dX10_addTo_40 : decode cX10_addTo 40 = .ok (.lstore_n 3, 1) := by decide +kernel
theorem dX10_addTo_41 : decode cX10_addTo 41 = .ok (.ldc2_w 52, 3) := by decide +kernel
theorem dX10_addTo_44 : decode cX10_addTo 44 = .ok (.lload_n 3, 1) := by decide +kernel
theorem dX10_addTo_45 : decode cX10_addTo 45 = .ok (.lmul, 1) := by decide +kernel
theorem dX10_addTo_46 : decode cX10_addTo 46 = .ok (.aload_n 0, 1) := by decide +kernel
theorem dX10_addTo_47 : decode cX10_addTo 47 = .ok (.getfield 15, 3) := by decide +kernel
theorem dX10_addTo_50 : decode cX10_addTo 50 = .ok (.iload 5, 2) := by decide +kernel
theorem dX10_addTo_52 : decode cX10_addTo 52 = .ok (.invokestatic 26, 3) := by decide +kernel
theorem dX10_addTo_55 : decode cX10_addTo 55 = .ok (.i2l, 1) := by decide +kernel
theorem dX10_addTo_56 : decode cX10_addTo 56 = .ok (.ladd, 1) := by decide +kernel
theorem dX10_addTo_57 : decode cX10_addTo 57 = .ok (.lstore_n 3, 1) := by decide +kernel
theorem dX10_addTo_58 : decode cX10_addTo 58 = .ok (.iinc 5 1, 3) := by decide +kernel
theorem dX10_addTo_61 : decode cX10_addTo 61 = .ok (.goto (-46), 3) := by decide +kernel
theorem dX10_addTo_64 : decode cX10_addTo 64 = .ok (.lload_n 3, 1) := by decide +kernel
theorem dX10_addTo_65 : decode cX10_addTo 65 = .ok (.lreturn, 1) := by decide +kernel
theorem dX11_init_0 : decode cX11_init 0 = .ok (.aload_n 0, 1) := by decide +kernel
theorem dX11_init_1 : decode cX11_init 1 = .ok (.invokespecial 1, 3) := by decide +kernel
theorem dX11_init_4 : decode cX11_init 4 = .ok (.aload_n 0, 1) := by decide +kernel
theorem dX11_init_5 : decode cX11_init 5 = .ok (.new 7, 3) := by decide +kernel
theorem dX11_init_8 : decode cX11_init 8 = .ok (.dup, 1) := by decide +kernel
theorem dX11_init_9 : decode cX11_init 9 = .ok (.invokespecial 9, 3) := by decide +kernel
theorem dX11_init_12 : decode cX11_init 12 = .ok (.putfield 10, 3) := by decide +kernel
theorem dX11_init_15 : decode cX11_init 15 = .ok (.aload_n 0, 1) := by decide +kernel
theorem dX11_init_16 : decode cX11_init 16 = .ok (.new 16, 3) := by decide +kernel
theorem dX11_init_19 : decode cX11_init 19 = .ok (.dup, 1) := by decide +kernel
theorem dX11_init_20 : decode cX11_init 20 = .ok (.invokespecial 18, 3) := by decide +kernel
theorem dX11_init_23 : decode cX11_init 23 = .ok (.putfield 19, 3) := by decide +kernel
theorem dX11_init_26 : decode cX11_init 26 = .ok (.aload_n 0, 1) := by decide +kernel
theorem dX11_init_27 : decode cX11_init 27 = .ok (.new 23, 3) := by decide +kernel
theorem dX11_init_30 : decode cX11_init 30 = .ok (.dup, 1) := by decide +kernel
theorem dX11_init_31 : decode cX11_init 31 = .ok (.invokespecial 25, 3) := by decide +kernel
theorem dX11_init_34 : decode cX11_init 34 = .ok (.putfield 26, 3) := by decide +kernel
theorem dX11_init_37 : decode cX11_init 37 = .ok (.aload_n 0, 1) := by decide +kernel
theorem dX11_init_38 : decode cX11_init 38 = .ok (.new 30, 3) := by decide +kernel
theorem dX11_init_41 : decode cX11_init 41 = .ok (.dup, 1) := by decide +kernel
theorem dX11_init_42 : decode cX11_init 42 = .ok (.invokespecial 32, 3) := by decide +kernel
theorem dX11_init_45 : decode cX11_init 45 = .ok (.putfield 33, 3) := by decide +kernel
theorem dX11_init_48 : decode cX11_init 48 = .ok (.aload_n 0, 1) := by decide +kernel
theorem dX11_init_49 : decode cX11_init 49 = .ok (.new 37, 3) := by decide +kernel
theorem dX11_init_52 : decode cX11_init 52 = .ok (.dup, 1) := by decide +kernel
theorem dX11_init_53 : decode cX11_init 53 = .ok (.invokespecial 39, 3) := by decide +kernel
theorem dX11_init_56 : decode cX11_init 56 = .ok (.putfield 40, 3) := by decide +kernel
theorem dX11_init_59 : decode cX11_init 59 = .ok (.aload_n 0, 1) := by decide +kernel
theorem dX11_init_60 : decode cX11_init 60 = .ok (.new 44, 3) := by decide +kernel
theorem dX11_init_63 : decode cX11_init 63 = .ok (.dup, 1) := by decide +kernel
theorem dX11_init_64 : decode cX11_init 64 = .ok (.invokespecial 46, 3) := by decide +kernel
theorem dX11_init_67 : decode cX11_init 67 = .ok (.putfield 47, 3) := by decide +kernel
theorem dX11_init_70 : decode cX11_init 70 = .ok (.aload_n 0, 1) := by decide +kernel
theorem dX11_init_71 : decode cX11_init 71 = .ok (.new 51, 3) := by decide +kernel
theorem dX11_init_74 : decode cX11_init 74 = .ok (.dup, 1) := by decide +kernel
theorem dX11_init_75 : decode cX11_init 75 = .ok (.invokespecial 53, 3) := by decide +kernel
theorem dX11_init_78 : decode cX11_init 78 = .ok (.putfield 54, 3) := by decide +kernel
theorem dX11_init_81 : decode cX11_init 81 = .ok (.aload_n 0, 1) := by decide +kernel
theorem dX11_init_82 : decode cX11_init 82 = .ok (.new 58, 3) := by decide +kernel
theorem dX11_init_85 : decode cX11_init 85 = .ok (.dup, 1) := by decide +kernel
theorem dX11_init_86 : decode cX11_init 86 = .ok (.invokespecial 60, 3) := by decide +kernel
theorem dX11_init_89 : decode cX11_init 89 = .ok (.putfield 61, 3) := by decide +kernel
theorem dX11_init_92 : decode cX11_init 92 = .ok (.aload_n 0, 1) := by decide +kernel
theorem dX11_init_93 : decode cX11_init 93 = .ok (.bipush 24, 2) := by decide +kernel
theorem dX11_init_95 : decode cX11_init 95 = .ok (.newarray .int, 2) := by decide +kernel
theorem dX11_init_97 : decode cX11_init 97 = .ok (.putfield 65, 3) := by decide +kernel
theorem dX11_init_100 : decode cX11_init 100 = .ok (.return_, 1) := by decide +kernel
theorem dX11_setKey_0 : decode cX11_setKey 0 = .ok (.aload_n 0, 1) := by decide +kernel
theorem dX11_setKey_1 : decode cX11_setKey 1 = .ok (.getfield 10, 3) := by decide +kernel
theorem dX11_setKey_4 : decode cX11_setKey 4 = .ok (.iload_n 1, 1) := by decide +kernel
theorem dX11_setKey_5 : decode cX11_setKey 5 = .ok (.invokevirtual 69, 3) := by decide +kernel
theorem dX11_setKey_8 : decode cX11_setKey 8 = .ok (.astore 4, 2) := by decide +kernel
theorem dX11_setKey_10 : decode cX11_setKey 10 = .ok (.aload 4, 2) := by decide +kernel
theorem dX11_setKey_12 : decode cX11_setKey 12 = .ok (.ifnonnull 6, 3) := by decide +kernel
theorem dX11_setKey_15 : decode cX11_setKey 15 = .ok (.ldc 73, 2) := by decide +kernel
end
section
theorem dX11_setKey_17 : decode cX11_setKey 17 = .ok (.ireturn, 1) := by decide +kernel
theorem dX11_setKey_18 : decode cX11_setKey 18 = .ok (.iload_n 2, 1) := by decide +kernel
theorem dX11_setKey_19 : decode cX11_setKey 19 = .ok (.iconst 0, 1) := by decide +kernel
theorem dX11_setKey_20 : decode cX11_setKey 20 = .ok (.sipush 480, 3) := by decide +kernel
theorem dX11_setKey_23 : decode cX11_setKey 23 = .ok (.invokestatic 74, 3) := by decide +kernel
theorem dX11_setKey_26 : decode cX11_setKey 26 = .ok (.ifCond .eq 16, 3) := by decide +kernel
theorem dX11_setKey_29 : decode cX11_setKey 29 = .ok (.iload_n 3, 1) := by decide +kernel
theorem dX11_setKey_30 : decode cX11_setKey 30 = .ok (.sipush (-999), 3) := by decide +kernel
theorem dX11_setKey_33 : decode cX11_setKey 33 = .ok (.sipush 999, 3) := by decide +kernel
theorem dX11_setKey_36 : decode cX11_setKey 36 = .ok (.invokestatic 74, 3) := by decide +kernel
theorem dX11_setKey_39 : decode cX11_setKey 39 = .ok (.ifCond .ne 6, 3) := by decide +kernel
theorem dX11_setKey_42 : decode cX11_setKey 42 = .ok (.ldc 78, 2) := by decide +kernel
theorem dX11_setKey_44 : decode cX11_setKey 44 = .ok (.ireturn, 1) := by decide +kernel
theorem dX11_setKey_45 : decode cX11_setKey 45 = .ok (.aload 4, 2) := by decide +kernel
theorem dX11_setKey_47 : decode cX11_setKey 47 = .ok (.iload_n 2, 1) := by decide +kernel
theorem dX11_setKey_48 : decode cX11_setKey 48 = .ok (.invokevirtual 79, 3) := by decide +kernel
theorem dX11_setKey_51 : decode cX11_setKey 51 = .ok (.istore 5, 2) := by decide +kernel
theorem dX11_setKey_53 : decode cX11_setKey 53 = .ok (.iload 5, 2) := by decide +kernel
theorem dX11_setKey_55 : decode cX11_setKey 55 = .ok (.ifCond .ge 16, 3) := by decide +kernel
theorem dX11_setKey_58 : decode cX11_setKey 58 = .ok (.aload 4, 2) := by decide +kernel
theorem dX11_setKey_60 : decode cX11_setKey 60 = .ok (.getfield 85, 3) := by decide +kernel
theorem dX11_setKey_63 : decode cX11_setKey 63 = .ok (.bipush 24, 2) := by decide +kernel
theorem dX11_setKey_65 : decode cX11_setKey 65 = .ok (.if_icmp .lt 6, 3) := by decide +kernel
theorem dX11_setKey_68 : decode cX11_setKey 68 = .ok (.ldc 89, 2) := by decide +kernel
theorem dX11_setKey_70 : decode cX11_setKey 70 = .ok (.ireturn, 1) := by decide +kernel
theorem dX11_setKey_71 : decode cX11_setKey 71 = .ok (.aload_n 0, 1) := by decide +kernel
theorem dX11_setKey_72 : decode cX11_setKey 72 = .ok (.getfield 19, 3) := by decide +kernel
theorem dX11_setKey_75 : decode cX11_setKey 75 = .ok (.aload_n 0, 1) := by decide +kernel
theorem dX11_setKey_76 : decode cX11_setKey 76 = .ok (.getfield 10, 3) := by decide +kernel
theorem dX11_setKey_79 : decode cX11_setKey 79 = .ok (.invokevirtual 90, 3) := by decide +kernel
theorem dX11_setKey_82 : decode cX11_setKey 82 = .ok (.iload 5, 2) := by decide +kernel
theorem dX11_setKey_84 : decode cX11_setKey 84 = .ok (.ifCond .ge 17, 3) := by decide +kernel
theorem dX11_setKey_87 : decode cX11_setKey 87 = .ok (.aload 4, 2) := by decide +kernel
theorem dX11_setKey_89 : decode cX11_setKey 89 = .ok (.iload_n 2, 1) := by decide +kernel
theorem dX11_setKey_90 : decode cX11_setKey 90 = .ok (.iload_n 3, 1) := by decide +kernel
theorem dX11_setKey_91 : decode cX11_setKey 91 = .ok (.iconst 3, 1) := by decide +kernel
theorem dX11_setKey_92 : decode cX11_setKey 92 = .ok (.iconst 0, 1) := by decide +kernel
theorem dX11_setKey_93 : decode cX11_setKey 93 = .ok (.iconst 0, 1) := by decide +kernel
theorem dX11_setKey_94 : decode cX11_setKey 94 = .ok (.invokevirtual 94, 3) := by decide +kernel
theorem dX11_setKey_97 : decode cX11_setKey 97 = .ok (.pop, 1) := by decide +kernel
theorem dX11_setKey_98 : decode cX11_setKey 98 = .ok (.goto 14, 3) := by decide +kernel
theorem dX11_setKey_101 : decode cX11_setKey 101 = .ok (.aload 4, 2) := by decide +kernel
theorem dX11_setKey_103 : decode cX11_setKey 103 = .ok (.getfield 98, 3) := by decide +kernel
theorem dX11_setKey_106 : decode cX11_setKey 106 = .ok (.iload 5, 2) := by decide +kernel
theorem dX11_setKey_108 : decode cX11_setKey 108 = .ok (.iload_n 3, 1) := by decide +kernel
theorem dX11_setKey_109 : decode cX11_setKey 109 = .ok (.invokestatic 101, 3) := by decide +kernel
theorem dX11_setKey_112 : decode cX11_setKey 112 = .ok (.aload 4, 2) := by decide +kernel
theorem dX11_setKey_114 : decode cX11_setKey 114 = .ok (.getfield 85, 3) := by decide +kernel
theorem dX11_setKey_117 : decode cX11_setKey 117 = .ok (.ireturn, 1) := by decide +kernel
theorem dX11_removeKey_0 : decode cX11_removeKey 0 = .ok (.aload_n 0, 1) := by decide +kernel
theorem dX11_removeKey_1 : decode cX11_removeKey 1 = .ok (.getfield 10, 3) := by decide +kernel
theorem dX11_removeKey_4 : decode cX11_removeKey 4 = .ok (.iload_n 1, 1) := by decide +kernel
theorem dX11_removeKey_5 : decode cX11_removeKey 5 = .ok (.invokevirtual 69, 3) := by decide +kernel
theorem dX11_removeKey_8 : decode cX11_removeKey 8 = .ok (.astore_n 3, 1) := by decide +kernel
theorem dX11_removeKey_9 : decode cX11_removeKey 9 = .ok (.aload_n 3, 1) := by decide +kernel
theorem dX11_removeKey_10 : decode cX11_removeKey 10 = .ok (.ifnonnull 7, 3) := by decide +kernel
theorem dX11_removeKey_13 : decode cX11_removeKey 13 = .ok (.iconst (-1), 1) := by decide +kernel
theorem dX11_removeKey_14 : decode cX11_removeKey 14 = .ok (.goto 8, 3) := by decide +kernel
theorem dX11_removeKey_17 : decode cX11_removeKey 17 = .ok (.aload_n 3, 1) := by decide +kernel
theorem dX11_removeKey_18 : decode cX11_removeKey 18 = .ok (.iload_n 2, 1) := by decide +kernel
theorem dX11_removeKey_19 : decode cX11_removeKey 19 = .ok (.invokevirtual 79, 3) := by decide +kernel
theorem dX11_removeKey_22 : decode cX11_removeKey 22 = .ok (.istore 4, 2) := by decide +kernel
theorem dX11_removeKey_24 : decode cX11_removeKey 24 = .ok (.aload_n 3, 1) := by decide +kernel
theorem dX11_removeKey_25 : decode cX11_removeKey 25 = .ok (.ifnull 8, 3) := by decide +kernel
theorem dX11_removeKey_28 : decode cX11_removeKey 28 = .ok (.iload 4, 2) := by decide +kernel
theorem dX11_removeKey_30 : decode cX11_removeKey 30 = .ok (.ifCond .ge 6, 3) := by decide +kernel
theorem dX11_removeKey_33 : decode cX11_removeKey 33 = .ok (.ldc 73, 2) := by decide +kernel
theorem dX11_removeKey_35 : decode cX11_removeKey 35 = .ok (.ireturn, 1) := by decide +kernel
theorem dX11_removeKey_36 : decode cX11_removeKey 36 = .ok (.aload_n 0, 1) := by decide +kernel
theorem dX11_removeKey_37 : decode cX11_removeKey 37 = .ok (.getfield 19, 3) := by decide +kernel
theorem dX11_removeKey_40 : decode cX11_removeKey 40 = .ok (.aload_n 0, 1) := by decide +kernel
theorem dX11_removeKey_41 : decode cX11_removeKey 41 = .ok (.getfield 10, 3) := by decide +kernel
theorem dX11_removeKey_44 : decode cX11_removeKey 44 = .ok (.invokevirtual 90, 3) := by decide +kernel
theorem dX11_removeKey_47 : decode cX11_removeKey 47 = .ok (.aload_n 3, 1) := by decide +kernel
theorem dX11_removeKey_48 : decode cX11_removeKey 48 = .ok (.iload 4, 2) := by decide +kernel
theorem dX11_removeKey_50 : decode cX11_removeKey 50 = .ok (.invokevirtual 105, 3) := by decide +kernel
theorem dX11_removeKey_53 : decode cX11_removeKey 53 = .ok (.aload_n 3, 1) := by decide +kernel
theorem dX11_removeKey_54 : decode cX11_removeKey 54 = .ok (.getfield 85, 3) := by decide +kernel
theorem dX11_removeKey_57 : decode cX11_removeKey 57 = .ok (.ireturn, 1) := by decide +kernel
theorem dX11_moveKey_0 : decode cX11_moveKey 0 = .ok (.aload_n 0, 1) := by decide +kernel
theorem dX11_moveKey_1 : decode cX11_moveKey 1 = .ok (.getfield 10, 3) := by decide +kernel
theorem dX11_moveKey_4 : decode cX11_moveKey 4 = .ok (.iload_n 1, 1) := by decide +kernel
theorem dX11_moveKey_5 : decode cX11_moveKey 5 = .ok (.invokevirtual 69, 3) := by decide +kernel
theorem dX11_moveKey_8 : decode cX11_moveKey 8 = .ok (.astore 4, 2) := by decide +kernel
theorem dX11_moveKey_10 : decode cX11_moveKey 10 = .ok (.aload 4, 2) := by decide +kernel
theorem dX11_moveKey_12 : decode cX11_moveKey 12 = .ok (.ifnonnull 7, 3) := by decide +kernel
theorem dX11_moveKey_15 : decode cX11_moveKey 15 = .ok (.iconst (-1), 1) := by decide +kernel
theorem dX11_moveKey_16 : decode cX11_moveKey 16 = .ok (.goto 9, 3) := by decide +kernel
theorem dX11_moveKey_19 : decode cX11_moveKey 19 = .ok (.aload 4, 2) := by decide +kernel
theorem dX11_moveKey_21 : decode cX11_moveKey 21 = .ok (.iload_n 2, 1) := by decide +kernel
theorem dX11_moveKey_22 : decode cX11_moveKey 22 = .ok (.invokevirtual 79, 3) := by decide +kernel
theorem dX11_moveKey_25 : decode cX11_moveKey 25 = .ok (.istore 5, 2) := by decide +kernel
theorem dX11_moveKey_27 : decode cX11_moveKey 27 = .ok (.aload 4, 2) := by decide +kernel
theorem dX11_moveKey_29 : decode cX11_moveKey 29 = .ok (.ifnull 8, 3) := by decide +kernel
theorem dX11_moveKey_32 : decode cX11_moveKey 32 = .ok (.iload 5, 2) := by decide +kernel
theorem dX11_moveKey_34 : decode cX11_moveKey 34 = .ok (.ifCond .ge 6, 3) := by decide +kernel
theorem dX11_moveKey_37 : decode cX11_moveKey 37 = .ok (.ldc 73, 2) := by decide +kernel
theorem dX11_moveKey_39 : decode cX11_moveKey 39 = .ok (.ireturn, 1) := by decide +kernel
theorem dX11_moveKey_40 : decode cX11_moveKey 40 = .ok (.iload_n 3, 1) := by decide +kernel
theorem dX11_moveKey_41 : decode cX11_moveKey 41 = .ok (.iconst 0, 1) := by decide +kernel
theorem dX11_moveKey_42 : decode cX11_moveKey 42 = .ok (.sipush 480, 3) := by decide +kernel
theorem dX11_moveKey_45 : decode cX11_moveKey 45 = .ok (.invokestatic 74, 3) := by decide +kernel
theorem dX11_moveKey_48 : decode cX11_moveKey 48 = .ok (.ifCond .ne 6, 3) := by decide +kernel
theorem dX11_moveKey_51 : decode cX11_moveKey 51 = .ok (.ldc 78, 2) := by decide +kernel
theorem dX11_moveKey_53 : decode cX11_moveKey 53 = .ok (.ireturn, 1) := by decide +kernel
theorem dX11_moveKey_54 : decode cX11_moveKey 54 = .ok (.iload_n 3, 1) := by decide +kernel
theorem dX11_moveKey_55 : decode cX11_moveKey 55 = .ok (.iload_n 2, 1) := by decide +kernel
theorem dX11_moveKey_56 : decode cX11_moveKey 56 = .ok (.if_icmp .eq 15, 3) := by decide +kernel
theorem dX11_moveKey_59 : decode cX11_moveKey 59 = .ok (.aload 4, 2) := by decide +kernel
theorem dX11_moveKey_61 : decode cX11_moveKey 61 = .ok (.iload_n 3, 1) := by decide +kernel
theorem dX11_moveKey_62 : decode cX11_moveKey 62 = .ok (.invokevirtual 79, 3) := by decide +kernel
theorem dX11_moveKey_65 : decode cX11_moveKey 65 = .ok (.ifCond .lt 6, 3) := by decide +kernel
theorem dX11_moveKey_68 : decode cX11_moveKey 68 = .ok (.ldc 109, 2) := by decide +kernel
theorem dX11_moveKey_70 : decode cX11_moveKey 70 = .ok (.ireturn, 1) := by decide +kernel
theorem dX11_moveKey_71 : decode cX11_moveKey 71 = .ok (.aload_n 0, 1) := by decide +kernel
theorem dX11_moveKey_72 : decode cX11_moveKey 72 = .ok (.getfield 19, 3) := by decide +kernel
theorem dX11_moveKey_75 : decode cX11_moveKey 75 = .ok (.aload_n 0, 1) := by decide +kernel
theorem dX11_moveKey_76 : decode cX11_moveKey 76 = .ok (.getfield 10, 3) := by decide +kernel
theorem dX11_moveKey_79 : decode cX11_moveKey 79 = .ok (.invokevirtual 90, 3) := by decide +kernel
theorem dX11_moveKey_82 : decode cX11_moveKey 82 = .ok (.aload 4, 2) := by decide +kernel
theorem dX11_moveKey_84 : decode cX11_moveKey 84 = .ok (.iload 5, 2) := by decide +kernel
theorem dX11_moveKey_86 : decode cX11_moveKey 86 = .ok (.iload_n 3, 1) := by decide +kernel
theorem dX11_moveKey_87 : decode cX11_moveKey 87 = .ok (.invokevirtual 110, 3) := by decide +kernel
theorem dX11_moveKey_90 : decode cX11_moveKey 90 = .ok (.ireturn, 1) := by decide +kernel
theorem dX11_setMode_0 : decode cX11_setMode 0 = .ok (.aload_n 0, 1) := by decide +kernel
theorem dX11_setMode_1 : decode cX11_setMode 1 = .ok (.getfield 10, 3) := by decide +kernel
theorem dX11_setMode_4 : decode cX11_setMode 4 = .ok (.iload_n 1, 1) := by decide +kernel
theorem dX11_setMode_5 : decode cX11_setMode 5 = .ok (.invokevirtual 69, 3) := by decide +kernel
theorem dX11_setMode_8 : decode cX11_setMode 8 = .ok (.astore 4, 2) := by decide +kernel
theorem dX11_setMode_10 : decode cX11_setMode 10 = .ok (.aload 4, 2) := by decide +kernel
theorem dX11_setMode_12 : decode cX11_setMode 12 = .ok (.ifnonnull 7, 3) := by decide +kernel
theorem dX11_setMode_15 : decode cX11_setMode 15 = .ok (.iconst (-1), 1) := by decide +kernel
theorem dX11_setMode_16 : decode cX11_setMode 16 = .ok (.goto 9, 3) := by decide +kernel
theorem dX11_setMode_19 : decode cX11_setMode 19 = .ok (.aload 4, 2) := by decide +kernel
theorem dX11_setMode_21 : decode cX11_setMode 21 = .ok (.iload_n 2, 1) := by decide +kernel
theorem dX11_setMode_22 : decode cX11_setMode 22 = .ok (.invokevirtual 79, 3) := by decide +kernel
theorem dX11_setMode_25 : decode cX11_setMode 25 = .ok (.istore 5, 2) := by decide +kernel
theorem dX11_setMode_27 : decode cX11_setMode 27 = .ok (.aload 4, 2) := by decide +kernel
theorem dX11_setMode_29 : decode cX11_setMode 29 = .ok (.ifnull 8, 3) := by decide +kernel
theorem dX11_setMode_32 : decode cX11_setMode 32 = .ok (.iload 5, 2) := by decide +kernel
theorem dX11_setMode_34 : decode cX11_setMode 34 = .ok (.ifCond .ge 6, 3) := by decide +kernel
theorem dX11_setMode_37 : decode cX11_setMode 37 = .ok (.ldc 73, 2) := by decide +kernel
theorem dX11_setMode_39 : decode cX11_setMode 39 = .ok (.ireturn, 1) := by decide +kernel
theorem dX11_setMode_40 : decode cX11_setMode 40 = .ok (.iload_n 3, 1) := by decide +kernel
theorem dX11_setMode_41 : decode cX11_setMode 41 = .ok (.iconst 0, 1) := by decide +kernel
theorem dX11_setMode_42 : decode cX11_setMode 42 = .ok (.bipush 6, 2) := by decide +kernel
theorem dX11_setMode_44 : decode cX11_setMode 44 = .ok (.invokestatic 74, 3) := by decide +kernel
theorem dX11_setMode_47 : decode cX11_setMode 47 = .ok (.ifCond .ne 6, 3) := by decide +kernel
theorem dX11_setMode_50 : decode cX11_setMode 50 = .ok (.ldc 78, 2) := by decide +kernel
theorem dX11_setMode_52 : decode cX11_setMode 52 = .ok (.ireturn, 1) := by decide +kernel
theorem dX11_setMode_53 : decode cX11_setMode 53 = .ok (.aload 4, 2) := by decide +kernel
theorem dX11_setMode_55 : decode cX11_setMode 55 = .ok (.getfield 114, 3) := by decide +kernel
theorem dX11_setMode_58 : decode cX11_setMode 58 = .ok (.iload 5, 2) := by decide +kernel
theorem dX11_setMode_60 : decode cX11_setMode 60 = .ok (.invokestatic 117, 3) := by decide +kernel
theorem dX11_setMode_63 : decode cX11_setMode 63 = .ok (.istore 6, 2) := by decide +kernel
theorem dX11_setMode_65 : decode cX11_setMode 65 = .ok (.aload_n 0, 1) := by decide +kernel
theorem dX11_setMode_66 : decode cX11_setMode 66 = .ok (.getfield 19, 3) := by decide +kernel
theorem dX11_setMode_69 : decode cX11_setMode 69 = .ok (.aload_n 0, 1) := by decide +kernel
theorem dX11_setMode_70 : decode cX11_setMode 70 = .ok (.getfield 10, 3) := by decide +kernel
theorem dX11_setMode_73 : decode cX11_setMode 73 = .ok (.invokevirtual 90, 3) := by decide +kernel
theorem dX11_setMode_76 : decode cX11_setMode 76 = .ok (.aload 4, 2) := by decide +kernel
theorem dX11_setMode_78 : decode cX11_setMode 78 = .ok (.iload 5, 2) := by decide +kernel
theorem dX11_setMode_80 : decode cX11_setMode 80 = .ok (.iload_n 3, 1) := by decide +kernel
theorem dX11_setMode_81 : decode cX11_setMode 81 = .ok (.invokevirtual 121, 3) := by decide +kernel
theorem dX11_setMode_84 : decode cX11_setMode 84 = .ok (.iload 6, 2) := by decide +kernel
theorem dX11_setMode_86 : decode cX11_setMode 86 = .ok (.ireturn, 1) := by decide +kernel
theorem dX11_setSlopes_0 : decode cX11_setSlopes 0 = .ok (.aload_n 0, 1) := by decide +kernel
theorem dX11_setSlopes_1 : decode cX11_setSlopes 1 = .ok (.getfield 10, 3) := by decide +kernel
theorem dX11_setSlopes_4 : decode cX11_setSlopes 4 = .ok (.iload_n 1, 1) := by decide +kernel
theorem dX11_setSlopes_5 : decode cX11_setSlopes 5 = .ok (.invokevirtual 69, 3) := by decide +kernel
theorem dX11_setSlopes_8 : decode cX11_setSlopes 8 = .ok (.astore 5, 2) := by decide +kernel
theorem dX11_setSlopes_10 : decode cX11_setSlopes 10 = .ok (.aload 5, 2) := by decide +kernel
theorem dX11_setSlopes_12 : decode cX11_setSlopes 12 = .ok (.ifnonnull 7, 3) := by decide +kernel
theorem dX11_setSlopes_15 : decode cX11_setSlopes 15 = .ok (.iconst (-1), 1) := by decide +kernel
theorem dX11_setSlopes_16 : decode cX11_setSlopes 16 = .ok (.goto 9, 3) := by decide +kernel
theorem dX11_setSlopes_19 : decode cX11_setSlopes 19 = .ok (.aload 5, 2) := by decide +kernel
theorem dX11_setSlopes_21 : decode cX11_setSlopes 21 = .ok (.iload_n 2, 1) := by decide +kernel
theorem dX11_setSlopes_22 : decode cX11_setSlopes 22 = .ok (.invokevirtual 79, 3) := by decide +kernel
theorem dX11_setSlopes_25 : decode cX11_setSlopes 25 = .ok (.istore 6, 2) := by decide +kernel
theorem dX11_setSlopes_27 : decode cX11_setSlopes 27 = .ok (.aload 5, 2) := by decide +kernel
theorem dX11_setSlopes_29 : decode cX11_setSlopes 29 = .ok (.ifnull 8, 3) := by decide +kernel
theorem dX11_setSlopes_32 : decode cX11_setSlopes 32 = .ok (.iload 6, 2) := by decide +kernel
theorem dX11_setSlopes_34 : decode cX11_setSlopes 34 = .ok (.ifCond .ge 6, 3) := by decide +kernel
theorem dX11_setSlopes_37 : decode cX11_setSlopes 37 = .ok (.ldc 73, 2) := by decide +kernel
theorem dX11_setSlopes_39 : decode cX11_setSlopes 39 = .ok (.ireturn, 1) := by decide +kernel
theorem dX11_setSlopes_40 : decode cX11_setSlopes 40 = .ok (.iload_n 3, 1) := by decide +kernel
theorem dX11_setSlopes_41 : decode cX11_setSlopes 41 = .ok (.sipush (-9999), 3) := by decide +kernel
theorem dX11_setSlopes_44 : decode cX11_setSlopes 44 = .ok (.sipush 9999, 3) := by decide +kernel
theorem dX11_setSlopes_47 : decode cX11_setSlopes 47 = .ok (.invokestatic 74, 3) := by decide +kernel
theorem dX11_setSlopes_50 : decode cX11_setSlopes 50 = .ok (.ifCond .eq 17, 3) := by decide +kernel
theorem dX11_setSlopes_53 : decode cX11_setSlopes 53 = .ok (.iload 4, 2) := by decide +kernel
theorem dX11_setSlopes_55 : decode cX11_setSlopes 55 = .ok (.sipush (-9999), 3) := by decide +kernel
theorem dX11_setSlopes_58 : decode cX11_setSlopes 58 = .ok (.sipush 9999, 3) := by decide +kernel
theorem dX11_setSlopes_61 : decode cX11_setSlopes 61 = .ok (.invokestatic 74, 3) := by decide +kernel
theorem dX11_setSlopes_64 : decode cX11_setSlopes 64 = .ok (.ifCond .ne 6, 3) := by decide +kernel
theorem dX11_setSlopes_67 : decode cX11_setSlopes 67 = .ok (.ldc 78, 2) := by decide +kernel
theorem dX11_setSlopes_69 : decode cX11_setSlopes 69 = .ok (.ireturn, 1) := by decide +kernel
theorem dX11_setSlopes_70 : decode cX11_setSlopes 70 = .ok (.aload 5, 2) := by decide +kernel
theorem dX11_setSlopes_72 : decode cX11_setSlopes 72 = .ok (.getfield 114, 3) := by decide +kernel
theorem dX11_setSlopes_75 : decode cX11_setSlopes 75 = .ok (.iload 6, 2) := by decide +kernel
theorem dX11_setSlopes_77 : decode cX11_setSlopes 77 = .ok (.invokestatic 117, 3) := by decide +kernel
theorem dX11_setSlopes_80 : decode cX11_setSlopes 80 = .ok (.istore 7, 2) := by decide +kernel
theorem dX11_setSlopes_82 : decode cX11_setSlopes 82 = .ok (.aload_n 0, 1) := by decide +kernel
theorem dX11_setSlopes_83 : decode cX11_setSlopes 83 = .ok (.getfield 19, 3) := by decide +kernel
theorem dX11_setSlopes_86 : decode cX11_setSlopes 86 = .ok (.aload_n 0, 1) := by decide +kernel
theorem dX11_setSlopes_87 : decode cX11_setSlopes 87 = .ok (.getfield 10, 3) := by decide +kernel
theorem dX11_setSlopes_90 : decode cX11_setSlopes 90 = .ok (.invokevirtual 90, 3) := by decide +kernel
theorem dX11_setSlopes_93 : decode cX11_setSlopes 93 = .ok (.aload 5, 2) := by decide +kernel
theorem dX11_setSlopes_95 : decode cX11_setSlopes 95 = .ok (.getfield 114, 3) := by decide +kernel
theorem dX11_setSlopes_98 : decode cX11_setSlopes 98 = .ok (.iload 6, 2) := by decide +kernel
theorem dX11_setSlopes_100 : decode cX11_setSlopes 100 = .ok (.iconst 0, 1) := by decide +kernel
theorem dX11_setSlopes_101 : decode cX11_setSlopes 101 = .ok (.invokestatic 101, 3) := by decide +kernel
theorem dX11_setSlopes_104 : decode cX11_setSlopes 104 = .ok (.aload 5, 2) := by decide +kernel
theorem dX11_setSlopes_106 : decode cX11_setSlopes 106 = .ok (.getfield 125, 3) := by decide +kernel
theorem dX11_setSlopes_109 : decode cX11_setSlopes 109 = .ok (.iload 6, 2) := by decide +kernel
theorem dX11_setSlopes_111 : decode cX11_setSlopes 111 = .ok (.iload_n 3, 1) := by decide +kernel
theorem dX11_setSlopes_112 : decode cX11_setSlopes 112 = .ok (.invokestatic 101, 3) := by decide +kernel
theorem dX11_setSlopes_115 : decode cX11_setSlopes 115 = .ok (.aload 5, 2) := by decide +kernel
theorem dX11_setSlopes_117 : decode cX11_setSlopes 117 = .ok (.getfield 128, 3) := by decide +kernel
theorem dX11_setSlopes_120 : decode cX11_setSlopes 120 = .ok (.iload 6, 2) := by decide +kernel
theorem dX11_setSlopes_122 : decode cX11_setSlopes 122 = .ok (.iload 4, 2) := by decide +kernel
theorem dX11_setSlopes_124 : decode cX11_setSlopes 124 = .ok (.invokestatic 101, 3) := by decide +kernel
theorem dX11_setSlopes_127 : decode cX11_setSlopes 127 = .ok (.iload 7, 2) := by decide +kernel
theorem dX11_setSlopes_129 : decode cX11_setSlopes 129 = .ok (.ireturn, 1) := by decide +kernel
theorem dX11_split_0 : decode cX11_split 0 = .ok (.aload_n 0, 1) := by decide +kernel
theorem dX11_split_1 : decode cX11_split 1 = .ok (.getfield 10, 3) := by decide +kernel
theorem dX11_split_4 : decode cX11_split 4 = .ok (.iload_n 1, 1) := by decide +kernel
theorem dX11_split_5 : decode cX11_split 5 = .ok (.invokevirtual 69, 3) := by decide +kernel
theorem dX11_split_8 : decode cX11_split 8 = .ok (.astore_n 3, 1) := by decide +kernel
theorem dX11_split_9 : decode cX11_split 9 = .ok (.aload_n 3, 1) := by decide +kernel
theorem dX11_split_10 : decode cX11_split 10 = .ok (.ifnonnull 6, 3) := by decide +kernel
theorem dX11_split_13 : decode cX11_split 13 = .ok (.ldc 73, 2) := by decide +kernel
theorem dX11_split_15 : decode cX11_split 15 = .ok (.ireturn, 1) := by decide +kernel
theorem dX11_split_16 : decode cX11_split 16 = .ok (.aload_n 3, 1) := by decide +kernel
theorem dX11_split_17 : decode cX11_split 17 = .ok (.iload_n 2, 1) := by decide +kernel
theorem dX11_split_18 : decode cX11_split 18 = .ok (.invokevirtual 131, 3) := by decide +kernel
theorem dX11_split_21 : decode cX11_split 21 = .ok (.istore 4, 2) := by decide +kernel
theorem dX11_split_23 : decode cX11_split 23 = .ok (.iload 4, 2) := by decide +kernel
theorem dX11_split_25 : decode cX11_split 25 = .ok (.iconst 1, 1) := by decide +kernel
theorem dX11_split_26 : decode cX11_split 26 = .ok (.if_icmp .lt 20, 3) := by decide +kernel
theorem dX11_split_29 : decode cX11_split 29 = .ok (.iload 4, 2) := by decide +kernel
theorem dX11_split_31 : decode cX11_split 31 = .ok (.aload_n 3, 1) := by decide +kernel
theorem dX11_split_32 : decode cX11_split 32 = .ok (.getfield 85, 3) := by decide +kernel
theorem dX11_split_35 : decode cX11_split 35 = .ok (.if_icmp .ge 11, 3) := by decide +kernel
theorem dX11_split_38 : decode cX11_split 38 = .ok (.aload_n 3, 1) := by decide +kernel
theorem dX11_split_39 : decode cX11_split 39 = .ok (.iload_n 2, 1) := by decide +kernel
theorem dX11_split_40 : decode cX11_split 40 = .ok (.invokevirtual 79, 3) := by decide +kernel
theorem dX11_split_43 : decode cX11_split 43 = .ok (.ifCond .lt 6, 3) := by decide +kernel
theorem dX11_split_46 : decode cX11_split 46 = .ok (.ldc 78, 2) := by decide +kernel
theorem dX11_split_48 : decode cX11_split 48 = .ok (.ireturn, 1) := by decide +kernel
theorem dX11_split_49 : decode cX11_split 49 = .ok (.aload_n 3, 1) := by decide +kernel
theorem dX11_split_50 : decode cX11_split 50 = .ok (.getfield 85, 3) := by decide +kernel
theorem dX11_split_53 : decode cX11_split 53 = .ok (.bipush 24, 2) := by decide +kernel
theorem dX11_split_55 : decode cX11_split 55 = .ok (.if_icmp .lt 6, 3) := by decide +kernel
theorem dX11_split_58 : decode cX11_split 58 = .ok (.ldc 89, 2) := by decide +kernel
theorem dX11_split_60 : decode cX11_split 60 = .ok (.ireturn, 1) := by decide +kernel
theorem dX11_split_61 : decode cX11_split 61 = .ok (.aload_n 0, 1) := by decide +kernel
theorem dX11_split_62 : decode cX11_split 62 = .ok (.getfield 19, 3) := by decide +kernel
theorem dX11_split_65 : decode cX11_split 65 = .ok (.aload_n 0, 1) := by decide +kernel
theorem dX11_split_66 : decode cX11_split 66 = .ok (.getfield 10, 3) := by decide +kernel
theorem dX11_split_69 : decode cX11_split 69 = .ok (.invokevirtual 90, 3) := by decide +kernel
theorem dX11_split_72 : decode cX11_split 72 = .ok (.aload_n 3, 1) := by decide +kernel
theorem dX11_split_73 : decode cX11_split 73 = .ok (.iload_n 2, 1) := by decide +kernel
theorem dX11_split_74 : decode cX11_split 74 = .ok (.iload 4, 2) := by decide +kernel
theorem dX11_split_76 : decode cX11_split 76 = .ok (.invokevirtual 134, 3) := by decide +kernel
theorem dX11_split_79 : decode cX11_split 79 = .ok (.ireturn, 1) := by decide +kernel
theorem dX11_clear_0 : decode cX11_clear 0 = .ok (.aload_n 0, 1) := by decide +kernel
theorem dX11_clear_1 : decode cX11_clear 1 = .ok (.getfield 10, 3) := by decide +kernel
theorem dX11_clear_4 : decode cX11_clear 4 = .ok (.iload_n 1, 1) := by decide +kernel
theorem dX11_clear_5 : decode cX11_clear 5 = .ok (.invokevirtual 69, 3) := by decide +kernel
theorem dX11_clear_8 : decode cX11_clear 8 = .ok (.astore_n 2, 1) := by decide +kernel
theorem dX11_clear_9 : decode cX11_clear 9 = .ok (.aload_n 2, 1) := by decide +kernel
theorem dX11_clear_10 : decode cX11_clear 10 = .ok (.ifnonnull 6, 3) := by decide +kernel
theorem dX11_clear_13 : decode cX11_clear 13 = .ok (.ldc 73, 2) := by decide +kernel
theorem dX11_clear_15 : decode cX11_clear 15 = .ok (.ireturn, 1) := by decide +kernel
theorem dX11_clear_16 : decode cX11_clear 16 = .ok (.aload_n 0, 1) := by decide +kernel
theorem dX11_clear_17 : decode cX11_clear 17 = .ok (.getfield 19, 3) := by decide +kernel
theorem dX11_clear_20 : decode cX11_clear 20 = .ok (.aload_n 0, 1) := by decide +kernel
theorem dX11_clear_21 : decode cX11_clear 21 = .ok (.getfield 10, 3) := by decide +kernel
theorem dX11_clear_24 : decode cX11_clear 24 = .ok (.invokevirtual 90, 3) := by decide +kernel
theorem dX11_clear_27 : decode cX11_clear 27 = .ok (.aload_n 2, 1) := by decide +kernel
theorem dX11_clear_28 : decode cX11_clear 28 = .ok (.getfield 85, 3) := by decide +kernel
theorem dX11_clear_31 : decode cX11_clear 31 = .ok (.istore_n 3, 1) := by decide +kernel
theorem dX11_clear_32 : decode cX11_clear 32 = .ok (.aload_n 2, 1) := by decide +kernel
theorem dX11_clear_33 : decode cX11_clear 33 = .ok (.iconst 0, 1) := by decide +kernel
theorem dX11_clear_34 : decode cX11_clear 34 = .ok (.putfield 85, 3) := by decide +kernel
theorem dX11_clear_37 : decode cX11_clear 37 = .ok (.aload_n 2, 1) := by decide +kernel
theorem dX11_clear_38 : decode cX11_clear 38 = .ok (.iconst 0, 1) := by decide +kernel
theorem dX11_clear_39 : decode cX11_clear 39 = .ok (.putfield 137, 3) := by decide +kernel
theorem dX11_clear_42 : decode cX11_clear 42 = .ok (.aload_n 2, 1) := by decide +kernel
theorem dX11_clear_43 : decode cX11_clear 43 = .ok (.iconst 0, 1) := by decide +kernel
theorem dX11_clear_44 : decode cX11_clear 44 = .ok (.putfield 140, 3) := by decide +kernel
theorem dX11_clear_47 : decode cX11_clear 47 = .ok (.iload_n 3, 1) := by decide +kernel
theorem dX11_clear_48 : decode cX11_clear 48 = .ok (.ireturn, 1) := by decide +kernel
theorem dX11_setExtrapolation_0 : decode cX11_setExtrapolation 0 = .ok (.aload_n 0, 1) := by decide +kernel
theorem dX11_setExtrapolation_1 : decode cX11_setExtrapolation 1 = .ok (.getfield 10, 3) := by decide +kernel
theorem dX11_setExtrapolation_4 : decode cX11_setExtrapolation 4 = .ok (.iload_n 1, 1) := by decide +kernel
theorem dX11_setExtrapolation_5 : decode cX11_setExtrapolation 5 = .ok (.invokevirtual 69, 3) := by decide +kernel
theorem dX11_setExtrapolation_8 : decode cX11_setExtrapolation 8 = .ok (.astore 4, 2) := by decide +kernel
theorem dX11_setExtrapolation_10 : decode cX11_setExtrapolation 10 = .ok (.aload 4, 2) := by decide +kernel
theorem dX11_setExtrapolation_12 : decode cX11_setExtrapolation 12 = .ok (.ifnonnull 6, 3) := by decide +kernel
theorem dX11_setExtrapolation_15 : decode cX11_setExtrapolation 15 = .ok (.ldc 73, 2) := by decide +kernel
theorem dX11_setExtrapolation_17 : decode cX11_setExtrapolation 17 = .ok (.ireturn, 1) := by decide +kernel
theorem dX11_setExtrapolation_18 : decode cX11_setExtrapolation 18 = .ok (.iload_n 2, 1) := by decide +kernel
theorem dX11_setExtrapolation_19 : decode cX11_setExtrapolation 19 = .ok (.iconst 0, 1) := by decide +kernel
theorem dX11_setExtrapolation_20 : decode cX11_setExtrapolation 20 = .ok (.iconst 4, 1) := by decide +kernel
theorem dX11_setExtrapolation_21 : decode cX11_setExtrapolation 21 = .ok (.invokestatic 74, 3) := by decide +kernel
theorem dX11_setExtrapolation_24 : decode cX11_setExtrapolation 24 = .ok (.ifCond .eq 12, 3) := by decide +kernel
theorem dX11_setExtrapolation_27 : decode cX11_setExtrapolation 27 = .ok (.iload_n 3, 1) := by decide +kernel
theorem dX11_setExtrapolation_28 : decode cX11_setExtrapolation 28 = .ok (.iconst 0, 1) := by decide +kernel
theorem dX11_setExtrapolation_29 : decode cX11_setExtrapolation 29 = .ok (.iconst 4, 1) := by decide +kernel
theorem dX11_setExtrapolation_30 : decode cX11_setExtrapolation 30 = .ok (.invokestatic 74, 3) := by decide +kernel
theorem dX11_setExtrapolation_33 : decode cX11_setExtrapolation 33 = .ok (.ifCond .ne 6, 3) := by decide +kernel
theorem dX11_setExtrapolation_36 : decode cX11_setExtrapolation 36 = .ok (.ldc 78, 2) := by decide +kernel
theorem dX11_setExtrapolation_38 : decode cX11_setExtrapolation 38 = .ok (.ireturn, 1) := by decide +kernel
theorem dX11_setExtrapolation_39 : decode cX11_setExtrapolation 39 = .ok (.aload 4, 2) := by decide +kernel
theorem dX11_setExtrapolation_41 : decode cX11_setExtrapolation 41 = .ok (.invokevirtual 143, 3) := by decide +kernel
theorem dX11_setExtrapolation_44 : decode cX11_setExtrapolation 44 = .ok (.istore 5, 2) := by decide +kernel
theorem dX11_setExtrapolation_46 : decode cX11_setExtrapolation 46 = .ok (.aload_n 0, 1) := by decide +kernel
theorem dX11_setExtrapolation_47 : decode cX11_setExtrapolation 47 = .ok (.getfield 19, 3) := by decide +kernel
theorem dX11_setExtrapolation_50 : decode cX11_setExtrapolation 50 = .ok (.aload_n 0, 1) := by decide +kernel
theorem dX11_setExtrapolation_51 : decode cX11_setExtrapolation 51 = .ok (.getfield 10, 3) := by decide +kernel
theorem dX11_setExtrapolation_54 : decode cX11_setExtrapolation 54 = .ok (.invokevirtual 90, 3) := by decide +kernel
theorem dX11_setExtrapolation_57 : decode cX11_setExtrapolation 57 = .ok (.aload 4, 2) := by decide +kernel
theorem dX11_setExtrapolation_59 : decode cX11_setExtrapolation 59 = .ok (.iload_n 2, 1) := by decide +kernel
theorem dX11_setExtrapolation_60 : decode cX11_setExtrapolation 60 = .ok (.putfield 137, 3) := by decide +kernel
theorem dX11_setExtrapolation_63 : decode cX11_setExtrapolation 63 = .ok (.aload 4, 2) := by decide +kernel
theorem dX11_setExtrapolation_65 : decode cX11_setExtrapolation 65 = .ok (.iload_n 3, 1) := by decide +kernel
theorem dX11_setExtrapolation_66 : decode cX11_setExtrapolation 66 = .ok (.putfield 140, 3) := by decide +kernel
theorem dX11_setExtrapolation_69 : decode cX11_setExtrapolation 69 = .ok (.iload 5, 2) := by decide +kernel
theorem dX11_setExtrapolation_71 : decode cX11_setExtrapolation 71 = .ok (.ireturn, 1) := by decide +kernel
theorem dX11_keys_0 : decode cX11_keys 0 = .ok (.aload_n 0, 1) := by decide +kernel
theorem dX11_keys_1 : decode cX11_keys 1 = .ok (.getfield 10, 3) := by decide +kernel
theorem dX11_keys_4 : decode cX11_keys 4 = .ok (.iload_n 1, 1) := by decide +kernel
theorem dX11_keys_5 : decode cX11_keys 5 = .ok (.invokevirtual 69, 3) := by decide +kernel
theorem dX11_keys_8 : decode cX11_keys 8 = .ok (.astore_n 2, 1) := by decide +kernel
theorem dX11_keys_9 : decode cX11_keys 9 = .ok (.aload_n 2, 1) := by decide +kernel
theorem dX11_keys_10 : decode cX11_keys 10 = .ok (.ifnonnull 8, 3) := by decide +kernel
theorem dX11_keys_13 : decode cX11_keys 13 = .ok (.ldc 73, 2) := by decide +kernel
theorem dX11_keys_15 : decode cX11_keys 15 = .ok (.goto 7, 3) := by decide +kernel
theorem dX11_keys_18 : decode cX11_keys 18 = .ok (.aload_n 2, 1) := by decide +kernel
theorem dX11_keys_19 : decode cX11_keys 19 = .ok (.getfield 85, 3) := by decide +kernel
theorem dX11_keys_22 : decode cX11_keys 22 = .ok (.ireturn, 1) := by decide +kernel
theorem dX11_frameOf_0 : decode cX11_frameOf 0 = .ok (.aload_n 0, 1) := by decide +kernel
theorem dX11_frameOf_1 : decode cX11_frameOf 1 = .ok (.getfield 10, 3) := by decide +kernel
theorem dX11_frameOf_4 : decode cX11_frameOf 4 = .ok (.iload_n 1, 1) := by decide +kernel
theorem dX11_frameOf_5 : decode cX11_frameOf 5 = .ok (.invokevirtual 69, 3) := by decide +kernel
theorem dX11_frameOf_8 : decode cX11_frameOf 8 = .ok (.astore_n 3, 1) := by decide +kernel
theorem dX11_frameOf_9 : decode cX11_frameOf 9 = .ok (.aload_n 3, 1) := by decide +kernel
theorem dX11_frameOf_10 : decode cX11_frameOf 10 = .ok (.ifnull 11, 3) := by decide +kernel
theorem dX11_frameOf_13 : decode cX11_frameOf 13 = .ok (.aload_n 3, 1) := by decide +kernel
theorem dX11_frameOf_14 : decode cX11_frameOf 14 = .ok (.iload_n 2, 1) := by decide +kernel
theorem dX11_frameOf_15 : decode cX11_frameOf 15 = .ok (.invokevirtual 147, 3) := by decide +kernel
theorem dX11_frameOf_18 : decode cX11_frameOf 18 = .ok (.ifCond .ne 8, 3) := by decide +kernel
theorem dX11_frameOf_21 : decode cX11_frameOf 21 = .ok (.ldc 73, 2) := by decide +kernel
theorem dX11_frameOf_23 : decode cX11_frameOf 23 = .ok (.goto 11, 3) := by decide +kernel
theorem dX11_frameOf_26 : decode cX11_frameOf 26 = .ok (.aload_n 3, 1) := by decide +kernel
theorem dX11_frameOf_27 : decode cX11_frameOf 27 = .ok (.getfield 151, 3) := by decide +kernel
theorem dX11_frameOf_30 : decode cX11_frameOf 30 = .ok (.iload_n 2, 1) := by decide +kernel
theorem dX11_frameOf_31 : decode cX11_frameOf 31 = .ok (.invokestatic 117, 3) := by decide +kernel
theorem dX11_frameOf_34 : decode cX11_frameOf 34 = .ok (.ireturn, 1) := by decide +kernel
theorem dX11_valueOf_0 : decode cX11_valueOf 0 = .ok (.aload_n 0, 1) := by decide +kernel
theorem dX11_valueOf_1 : decode cX11_valueOf 1 = .ok (.getfield 10, 3) := by decide +kernel
theorem dX11_valueOf_4 : decode cX11_valueOf 4 = .ok (.iload_n 1, 1) := by decide +kernel
theorem dX11_valueOf_5 : decode cX11_valueOf 5 = .ok (.invokevirtual 69, 3) := by decide +kernel
theorem dX11_valueOf_8 : decode cX11_valueOf 8 = .ok (.astore_n 3, 1) := by decide +kernel
theorem dX11_valueOf_9 : decode cX11_valueOf 9 = .ok (.aload_n 3, 1) := by decide +kernel
theorem dX11_valueOf_10 : decode cX11_valueOf 10 = .ok (.ifnull 11, 3) := by decide +kernel
theorem dX11_valueOf_13 : decode cX11_valueOf 13 = .ok (.aload_n 3, 1) := by decide +kernel
theorem dX11_valueOf_14 : decode cX11_valueOf 14 = .ok (.iload_n 2, 1) := by decide +kernel
theorem dX11_valueOf_15 : decode cX11_valueOf 15 = .ok (.invokevirtual 147, 3) := by decide +kernel
theorem dX11_valueOf_18 : decode cX11_valueOf 18 = .ok (.ifCond .ne 8, 3) := by decide +kernel
theorem dX11_valueOf_21 : decode cX11_valueOf 21 = .ok (.ldc 73, 2) := by decide +kernel
theorem dX11_valueOf_23 : decode cX11_valueOf 23 = .ok (.goto 11, 3) := by decide +kernel
theorem dX11_valueOf_26 : decode cX11_valueOf 26 = .ok (.aload_n 3, 1) := by decide +kernel
theorem dX11_valueOf_27 : decode cX11_valueOf 27 = .ok (.getfield 98, 3) := by decide +kernel
theorem dX11_valueOf_30 : decode cX11_valueOf 30 = .ok (.iload_n 2, 1) := by decide +kernel
theorem dX11_valueOf_31 : decode cX11_valueOf 31 = .ok (.invokestatic 117, 3) := by decide +kernel
theorem dX11_valueOf_34 : decode cX11_valueOf 34 = .ok (.ireturn, 1) := by decide +kernel
theorem dX11_modeOf_0 : decode cX11_modeOf 0 = .ok (.aload_n 0, 1) := by decide +kernel
theorem dX11_modeOf_1 : decode cX11_modeOf 1 = .ok (.getfield 10, 3) := by decide +kernel
theorem dX11_modeOf_4 : decode cX11_modeOf 4 = .ok (.iload_n 1, 1) := by decide +kernel
theorem dX11_modeOf_5 : decode cX11_modeOf 5 = .ok (.invokevirtual 69, 3) := by decide +kernel
theorem dX11_modeOf_8 : decode cX11_modeOf 8 = .ok (.astore_n 3, 1) := by decide +kernel
theorem dX11_modeOf_9 : decode cX11_modeOf 9 = .ok (.aload_n 3, 1) := by decide +kernel
theorem dX11_modeOf_10 : decode cX11_modeOf 10 = .ok (.ifnull 11, 3) := by decide +kernel
theorem dX11_modeOf_13 : decode cX11_modeOf 13 = .ok (.aload_n 3, 1) := by decide +kernel
theorem dX11_modeOf_14 : decode cX11_modeOf 14 = .ok (.iload_n 2, 1) := by decide +kernel
theorem dX11_modeOf_15 : decode cX11_modeOf 15 = .ok (.invokevirtual 147, 3) := by decide +kernel
theorem dX11_modeOf_18 : decode cX11_modeOf 18 = .ok (.ifCond .ne 8, 3) := by decide +kernel
theorem dX11_modeOf_21 : decode cX11_modeOf 21 = .ok (.ldc 73, 2) := by decide +kernel
theorem dX11_modeOf_23 : decode cX11_modeOf 23 = .ok (.goto 11, 3) := by decide +kernel
theorem dX11_modeOf_26 : decode cX11_modeOf 26 = .ok (.aload_n 3, 1) := by decide +kernel
theorem dX11_modeOf_27 : decode cX11_modeOf 27 = .ok (.getfield 114, 3) := by decide +kernel
theorem dX11_modeOf_30 : decode cX11_modeOf 30 = .ok (.iload_n 2, 1) := by decide +kernel
theorem dX11_modeOf_31 : decode cX11_modeOf 31 = .ok (.invokestatic 117, 3) := by decide +kernel
theorem dX11_modeOf_34 : decode cX11_modeOf 34 = .ok (.ireturn, 1) := by decide +kernel
theorem dX11_slope_0 : decode cX11_slope 0 = .ok (.aload_n 0, 1) := by decide +kernel
theorem dX11_slope_1 : decode cX11_slope 1 = .ok (.getfield 10, 3) := by decide +kernel
theorem dX11_slope_4 : decode cX11_slope 4 = .ok (.iload_n 1, 1) := by decide +kernel
theorem dX11_slope_5 : decode cX11_slope 5 = .ok (.invokevirtual 69, 3) := by decide +kernel
theorem dX11_slope_8 : decode cX11_slope 8 = .ok (.astore 4, 2) := by decide +kernel
theorem dX11_slope_10 : decode cX11_slope 10 = .ok (.aload 4, 2) := by decide +kernel
theorem dX11_slope_12 : decode cX11_slope 12 = .ok (.ifnull 12, 3) := by decide +kernel
theorem dX11_slope_15 : decode cX11_slope 15 = .ok (.aload 4, 2) := by decide +kernel
theorem dX11_slope_17 : decode cX11_slope 17 = .ok (.iload_n 2, 1) := by decide +kernel
theorem dX11_slope_18 : decode cX11_slope 18 = .ok (.invokevirtual 147, 3) := by decide +kernel
theorem dX11_slope_21 : decode cX11_slope 21 = .ok (.ifCond .ne 8, 3) := by decide +kernel
theorem dX11_slope_24 : decode cX11_slope 24 = .ok (.ldc 73, 2) := by decide +kernel
theorem dX11_slope_26 : decode cX11_slope 26 = .ok (.goto 10, 3) := by decide +kernel
theorem dX11_slope_29 : decode cX11_slope 29 = .ok (.aload 4, 2) := by decide +kernel
theorem dX11_slope_31 : decode cX11_slope 31 = .ok (.iload_n 2, 1) := by decide +kernel
theorem dX11_slope_32 : decode cX11_slope 32 = .ok (.iload_n 3, 1) := by decide +kernel
theorem dX11_slope_33 : decode cX11_slope 33 = .ok (.invokevirtual 154, 3) := by decide +kernel
theorem dX11_slope_36 : decode cX11_slope 36 = .ok (.ireturn, 1) := by decide +kernel
theorem dX11_value_0 : decode cX11_value 0 = .ok (.aload_n 0, 1) := by decide +kernel
theorem dX11_value_1 : decode cX11_value 1 = .ok (.getfield 10, 3) := by decide +kernel
theorem dX11_value_4 : decode cX11_value 4 = .ok (.iload_n 1, 1) := by decide +kernel
theorem dX11_value_5 : decode cX11_value 5 = .ok (.invokevirtual 69, 3) := by decide +kernel
theorem dX11_value_8 : decode cX11_value 8 = .ok (.astore_n 3, 1) := by decide +kernel
theorem dX11_value_9 : decode cX11_value 9 = .ok (.aload_n 3, 1) := by decide +kernel
theorem dX11_value_10 : decode cX11_value 10 = .ok (.ifnonnull 6, 3) := by decide +kernel
theorem dX11_value_13 : decode cX11_value 13 = .ok (.ldc 73, 2) := by decide +kernel
theorem dX11_value_15 : decode cX11_value 15 = .ok (.ireturn, 1) := by decide +kernel
theorem dX11_value_16 : decode cX11_value 16 = .ok (.iload_n 2, 1) := by decide +kernel
theorem dX11_value_17 : decode cX11_value 17 = .ok (.iconst 0, 1) := by decide +kernel
theorem dX11_value_18 : decode cX11_value 18 = .ok (.sipush 960, 3) := by decide +kernel
theorem dX11_value_21 : decode cX11_value 21 = .ok (.invokestatic 74, 3) := by decide +kernel
theorem dX11_value_24 : decode cX11_value 24 = .ok (.ifCond .ne 6, 3) := by decide +kernel
theorem dX11_value_27 : decode cX11_value 27 = .ok (.ldc 78, 2) := by decide +kernel
theorem dX11_value_29 : decode cX11_value 29 = .ok (.ireturn, 1) := by decide +kernel
theorem dX11_value_30 : decode cX11_value 30 = .ok (.aload_n 3, 1) := by decide +kernel
theorem dX11_value_31 : decode cX11_value 31 = .ok (.getfield 85, 3) := by decide +kernel
theorem dX11_value_34 : decode cX11_value 34 = .ok (.ifCond .ne 8, 3) := by decide +kernel
theorem dX11_value_37 : decode cX11_value 37 = .ok (.ldc 158, 2) := by decide +kernel
theorem dX11_value_39 : decode cX11_value 39 = .ok (.goto 8, 3) := by decide +kernel
theorem dX11_value_42 : decode cX11_value 42 = .ok (.aload_n 3, 1) := by decide +kernel
theorem dX11_value_43 : decode cX11_value 43 = .ok (.iload_n 2, 1) := by decide +kernel
theorem dX11_value_44 : decode cX11_value 44 = .ok (.invokevirtual 159, 3) := by decide +kernel
theorem dX11_value_47 : decode cX11_value 47 = .ok (.ireturn, 1) := by decide +kernel
theorem dX11_units_0 : decode cX11_units 0 = .ok (.aload_n 0, 1) := by decide +kernel
theorem dX11_units_1 : decode cX11_units 1 = .ok (.getfield 10, 3) := by decide +kernel
theorem dX11_units_4 : decode cX11_units 4 = .ok (.iload_n 1, 1) := by decide +kernel
theorem dX11_units_5 : decode cX11_units 5 = .ok (.invokevirtual 69, 3) := by decide +kernel
theorem dX11_units_8 : decode cX11_units 8 = .ok (.astore_n 3, 1) := by decide +kernel
theorem dX11_units_9 : decode cX11_units 9 = .ok (.aload_n 3, 1) := by decide +kernel
theorem dX11_units_10 : decode cX11_units 10 = .ok (.ifnull 21, 3) := by decide +kernel
theorem dX11_units_13 : decode cX11_units 13 = .ok (.iload_n 2, 1) := by decide +kernel
theorem dX11_units_14 : decode cX11_units 14 = .ok (.iconst 0, 1) := by decide +kernel
theorem dX11_units_15 : decode cX11_units 15 = .ok (.sipush 960, 3) := by decide +kernel
theorem dX11_units_18 : decode cX11_units 18 = .ok (.invokestatic 74, 3) := by decide +kernel
theorem dX11_units_21 : decode cX11_units 21 = .ok (.ifCond .eq 10, 3) := by decide +kernel
theorem dX11_units_24 : decode cX11_units 24 = .ok (.aload_n 3, 1) := by decide +kernel
theorem dX11_units_25 : decode cX11_units 25 = .ok (.getfield 85, 3) := by decide +kernel
theorem dX11_units_28 : decode cX11_units 28 = .ok (.ifCond .ne 5, 3) := by decide +kernel
theorem dX11_units_31 : decode cX11_units 31 = .ok (.fconst 0, 1) := by decide +kernel
theorem dX11_units_32 : decode cX11_units 32 = .ok (.freturn, 1) := by decide +kernel
theorem dX11_units_33 : decode cX11_units 33 = .ok (.aload_n 3, 1) := by decide +kernel
theorem dX11_units_34 : decode cX11_units 34 = .ok (.iload_n 2, 1) := by decide +kernel
theorem dX11_units_35 : decode cX11_units 35 = .ok (.invokevirtual 159, 3) := by decide +kernel
theorem dX11_units_38 : decode cX11_units 38 = .ok (.i2f, 1) := by decide +kernel
theorem dX11_units_39 : decode cX11_units 39 = .ok (.ldc 162, 2) := by decide +kernel
theorem dX11_units_41 : decode cX11_units 41 = .ok (.fdiv, 1) := by decide +kernel
theorem dX11_units_42 : decode cX11_units 42 = .ok (.freturn, 1) := by decide +kernel
theorem dX11_mean_0 : decode cX11_mean 0 = .ok (.aload_n 0, 1) := by decide +kernel
theorem dX11_mean_1 : decode cX11_mean 1 = .ok (.getfield 10, 3) := by decide +kernel
theorem dX11_mean_4 : decode cX11_mean 4 = .ok (.iload_n 1, 1) := by decide +kernel
theorem dX11_mean_5 : decode cX11_mean 5 = .ok (.invokevirtual 69, 3) := by decide +kernel
theorem dX11_mean_8 : decode cX11_mean 8 = .ok (.astore 4, 2) := by decide +kernel
theorem dX11_mean_10 : decode cX11_mean 10 = .ok (.aload 4, 2) := by decide +kernel
theorem dX11_mean_12 : decode cX11_mean 12 = .ok (.ifnull 22, 3) := by decide +kernel
theorem dX11_mean_15 : decode cX11_mean 15 = .ok (.iload_n 2, 1) := by decide +kernel
theorem dX11_mean_16 : decode cX11_mean 16 = .ok (.iload_n 3, 1) := by decide +kernel
theorem dX11_mean_17 : decode cX11_mean 17 = .ok (.sipush 960, 3) := by decide +kernel
theorem dX11_mean_20 : decode cX11_mean 20 = .ok (.invokestatic 163, 3) := by decide +kernel
theorem dX11_mean_23 : decode cX11_mean 23 = .ok (.ifCond .eq 11, 3) := by decide +kernel
theorem dX11_mean_26 : decode cX11_mean 26 = .ok (.aload 4, 2) := by decide +kernel
theorem dX11_mean_28 : decode cX11_mean 28 = .ok (.getfield 85, 3) := by decide +kernel
theorem dX11_mean_31 : decode cX11_mean 31 = .ok (.ifCond .ne 5, 3) := by decide +kernel
theorem dX11_mean_34 : decode cX11_mean 34 = .ok (.dconst 0, 1) := by decide +kernel
theorem dX11_mean_35 : decode cX11_mean 35 = .ok (.dreturn, 1) := by decide +kernel
theorem dX11_mean_36 : decode cX11_mean 36 = .ok (.lconst 0, 1) := by decide +kernel
theorem dX11_mean_37 : decode cX11_mean 37 = .ok (.lstore 5, 2) := by decide +kernel
theorem dX11_mean_39 : decode cX11_mean 39 = .ok (.iload_n 2, 1) := by decide +kernel
theorem dX11_mean_40 : decode cX11_mean 40 = .ok (.istore 7, 2) := by decide +kernel
theorem dX11_mean_42 : decode cX11_mean 42 = .ok (.iload 7, 2) := by decide +kernel
theorem dX11_mean_44 : decode cX11_mean 44 = .ok (.iload_n 3, 1) := by decide +kernel
theorem dX11_mean_45 : decode cX11_mean 45 = .ok (.if_icmp .gt 22, 3) := by decide +kernel
theorem dX11_mean_48 : decode cX11_mean 48 = .ok (.lload 5, 2) := by decide +kernel
theorem dX11_mean_50 : decode cX11_mean 50 = .ok (.aload 4, 2) := by decide +kernel
theorem dX11_mean_52 : decode cX11_mean 52 = .ok (.iload 7, 2) := by decide +kernel
theorem dX11_mean_54 : decode cX11_mean 54 = .ok (.invokevirtual 159, 3) := by decide +kernel
theorem dX11_mean_57 : decode cX11_mean 57 = .ok (.i2l, 1) := by decide +kernel
theorem dX11_mean_58 : decode cX11_mean 58 = .ok (.ladd, 1) := by decide +kernel
theorem dX11_mean_59 : decode cX11_mean 59 = .ok (.lstore 5, 2) := by decide +kernel
theorem dX11_mean_61 : decode cX11_mean 61 = .ok (.iinc 7 1, 3) := by decide +kernel
theorem dX11_mean_64 : decode cX11_mean 64 = .ok (.goto (-22), 3) := by decide +kernel
theorem dX11_mean_67 : decode cX11_mean 67 = .ok (.lload 5, 2) := by decide +kernel
theorem dX11_mean_69 : decode cX11_mean 69 = .ok (.l2d, 1) := by decide +kernel
theorem dX11_mean_70 : decode cX11_mean 70 = .ok (.ldc2_w 166, 3) := by decide +kernel
theorem dX11_mean_73 : decode cX11_mean 73 = .ok (.iload_n 3, 1) := by decide +kernel
theorem dX11_mean_74 : decode cX11_mean 74 = .ok (.iload_n 2, 1) := by decide +kernel
theorem dX11_mean_75 : decode cX11_mean 75 = .ok (.isub, 1) := by decide +kernel
theorem dX11_mean_76 : decode cX11_mean 76 = .ok (.iconst 1, 1) := by decide +kernel
theorem dX11_mean_77 : decode cX11_mean 77 = .ok (.iadd, 1) := by decide +kernel
theorem dX11_mean_78 : decode cX11_mean 78 = .ok (.i2d, 1) := by decide +kernel
theorem dX11_mean_79 : decode cX11_mean 79 = .ok (.dmul, 1) := by decide +kernel
theorem dX11_mean_80 : decode cX11_mean 80 = .ok (.ddiv, 1) := by decide +kernel
theorem dX11_mean_81 : decode cX11_mean 81 = .ok (.dreturn, 1) := by decide +kernel
theorem dX11_extreme_0 : decode cX11_extreme 0 = .ok (.aload_n 0, 1) := by decide +kernel
theorem dX11_extreme_1 : decode cX11_extreme 1 = .ok (.getfield 10, 3) := by decide +kernel
theorem dX11_extreme_4 : decode cX11_extreme 4 = .ok (.iload_n 1, 1) := by decide +kernel
theorem dX11_extreme_5 : decode cX11_extreme 5 = .ok (.invokevirtual 69, 3) := by decide +kernel
theorem dX11_extreme_8 : decode cX11_extreme 8 = .ok (.astore 5, 2) := by decide +kernel
theorem dX11_extreme_10 : decode cX11_extreme 10 = .ok (.aload 5, 2) := by decide +kernel
theorem dX11_extreme_12 : decode cX11_extreme 12 = .ok (.ifnonnull 6, 3) := by decide +kernel
theorem dX11_extreme_15 : decode cX11_extreme 15 = .ok (.ldc 73, 2) := by decide +kernel
theorem dX11_extreme_17 : decode cX11_extreme 17 = .ok (.ireturn, 1) := by decide +kernel
theorem dX11_extreme_18 : decode cX11_extreme 18 = .ok (.iload_n 2, 1) := by decide +kernel
theorem dX11_extreme_19 : decode cX11_extreme 19 = .ok (.iload_n 3, 1) := by decide +kernel
theorem dX11_extreme_20 : decode cX11_extreme 20 = .ok (.sipush 960, 3) := by decide +kernel
theorem dX11_extreme_23 : decode cX11_extreme 23 = .ok (.invokestatic 163, 3) := by decide +kernel
theorem dX11_extreme_26 : decode cX11_extreme 26 = .ok (.ifCond .ne 6, 3) := by decide +kernel
theorem dX11_extreme_29 : decode cX11_extreme 29 = .ok (.ldc 78, 2) := by decide +kernel
theorem dX11_extreme_31 : decode cX11_extreme 31 = .ok (.ireturn, 1) := by decide +kernel
theorem dX11_extreme_32 : decode cX11_extreme 32 = .ok (.aload 5, 2) := by decide +kernel
theorem dX11_extreme_34 : decode cX11_extreme 34 = .ok (.getfield 85, 3) := by decide +kernel
theorem dX11_extreme_37 : decode cX11_extreme 37 = .ok (.ifCond .ne 6, 3) := by decide +kernel
theorem dX11_extreme_40 : decode cX11_extreme 40 = .ok (.ldc 158, 2) := by decide +kernel
theorem dX11_extreme_42 : decode cX11_extreme 42 = .ok (.ireturn, 1) := by decide +kernel
theorem dX11_extreme_43 : decode cX11_extreme 43 = .ok (.iload_n 2, 1) := by decide +kernel
theorem dX11_extreme_44 : decode cX11_extreme 44 = .ok (.istore 6, 2) := by decide +kernel
theorem dX11_extreme_46 : decode cX11_extreme 46 = .ok (.aload 5, 2) := by decide +kernel
theorem dX11_extreme_48 : decode cX11_extreme 48 = .ok (.iload_n 2, 1) := by decide +kernel
theorem dX11_extreme_49 : decode cX11_extreme 49 = .ok (.invokevirtual 159, 3) := by decide +kernel
theorem dX11_extreme_52 : decode cX11_extreme 52 = .ok (.istore 7, 2) := by decide +kernel
theorem dX11_extreme_54 : decode cX11_extreme 54 = .ok (.iload_n 2, 1) := by decide +kernel
theorem dX11_extreme_55 : decode cX11_extreme 55 = .ok (.iconst 1, 1) := by decide +kernel
theorem dX11_extreme_56 : decode cX11_extreme 56 = .ok (.iadd, 1) := by decide +kernel
theorem dX11_extreme_57 : decode cX11_extreme 57 = .ok (.istore 8, 2) := by decide +kernel
theorem dX11_extreme_59 : decode cX11_extreme 59 = .ok (.iload 8, 2) := by decide +kernel
theorem dX11_extreme_61 : decode cX11_extreme 61 = .ok (.iload_n 3, 1) := by decide +kernel
theorem dX11_extreme_62 : decode cX11_extreme 62 = .ok (.if_icmp .gt 48, 3) := by decide +kernel
theorem dX11_extreme_65 : decode cX11_extreme 65 = .ok (.aload 5, 2) := by decide +kernel
theorem dX11_extreme_67 : decode cX11_extreme 67 = .ok (.iload 8, 2) := by decide +kernel
theorem dX11_extreme_69 : decode cX11_extreme 69 = .ok (.invokevirtual 159, 3) := by decide +kernel
theorem dX11_extreme_72 : decode cX11_extreme 72 = .ok (.istore 9, 2) := by decide +kernel
theorem dX11_extreme_74 : decode cX11_extreme 74 = .ok (.iload 4, 2) := by decide +kernel
theorem dX11_extreme_76 : decode cX11_extreme 76 = .ok (.ifCond .eq 13, 3) := by decide +kernel
theorem dX11_extreme_79 : decode cX11_extreme 79 = .ok (.iload 9, 2) := by decide +kernel
theorem dX11_extreme_81 : decode cX11_extreme 81 = .ok (.iload 7, 2) := by decide +kernel
theorem dX11_extreme_83 : decode cX11_extreme 83 = .ok (.if_icmp .le 21, 3) := by decide +kernel
theorem dX11_extreme_86 : decode cX11_extreme 86 = .ok (.goto 10, 3) := by decide +kernel
theorem dX11_extreme_89 : decode cX11_extreme 89 = .ok (.iload 9, 2) := by decide +kernel
theorem dX11_extreme_91 : decode cX11_extreme 91 = .ok (.iload 7, 2) := by decide +kernel
theorem dX11_extreme_93 : decode cX11_extreme 93 = .ok (.if_icmp .ge 11, 3) := by decide +kernel
theorem dX11_extreme_96 : decode cX11_extreme 96 = .ok (.iload 8, 2) := by decide +kernel
theorem dX11_extreme_98 : decode cX11_extreme 98 = .ok (.istore 6, 2) := by decide +kernel
theorem dX11_extreme_100 : decode cX11_extreme 100 = .ok (.iload 9, 2) := by decide +kernel
theorem dX11_extreme_102 : decode cX11_extreme 102 = .ok (.istore 7, 2) := by decide +kernel
theorem dX11_extreme_104 : decode cX11_extreme 104 = .ok (.iinc 8 1, 3) := by decide +kernel
theorem dX11_extreme_107 : decode cX11_extreme 107 = .ok (.goto (-48), 3) := by decide +kernel
theorem dX11_extreme_110 : decode cX11_extreme 110 = .ok (.iload 6, 2) := by decide +kernel
theorem dX11_extreme_112 : decode cX11_extreme 112 = .ok (.ireturn, 1) := by decide +kernel
theorem dX11_crossings_0 : decode cX11_crossings 0 = .ok (.aload_n 0, 1) := by decide +kernel
theorem dX11_crossings_1 : decode cX11_crossings 1 = .ok (.getfield 10, 3) := by decide +kernel
theorem dX11_crossings_4 : decode cX11_crossings 4 = .ok (.iload_n 1, 1) := by decide +kernel
theorem dX11_crossings_5 : decode cX11_crossings 5 = .ok (.invokevirtual 69, 3) := by decide +kernel
theorem dX11_crossings_8 : decode cX11_crossings 8 = .ok (.astore 5, 2) := by decide +kernel
theorem dX11_crossings_10 : decode cX11_crossings 10 = .ok (.aload 5, 2) := by decide +kernel
theorem dX11_crossings_12 : decode cX11_crossings 12 = .ok (.ifnonnull 6, 3) := by decide +kernel
theorem dX11_crossings_15 : decode cX11_crossings 15 = .ok (.ldc 73, 2) := by decide +kernel
theorem dX11_crossings_17 : decode cX11_crossings 17 = .ok (.ireturn, 1) := by decide +kernel
theorem dX11_crossings_18 : decode cX11_crossings 18 = .ok (.iload_n 2, 1) := by decide +kernel
theorem dX11_crossings_19 : decode cX11_crossings 19 = .ok (.iload_n 3, 1) := by decide +kernel
theorem dX11_crossings_20 : decode cX11_crossings 20 = .ok (.sipush 960, 3) := by decide +kernel
theorem dX11_crossings_23 : decode cX11_crossings 23 = .ok (.invokestatic 163, 3) := by decide +kernel
theorem dX11_crossings_26 : decode cX11_crossings 26 = .ok (.ifCond .eq 17, 3) := by decide +kernel
theorem dX11_crossings_29 : decode cX11_crossings 29 = .ok (.iload 4, 2) := by decide +kernel
theorem dX11_crossings_31 : decode cX11_crossings 31 = .ok (.sipush (-999), 3) := by decide +kernel
theorem dX11_crossings_34 : decode cX11_crossings 34 = .ok (.sipush 999, 3) := by decide +kernel
theorem dX11_crossings_37 : decode cX11_crossings 37 = .ok (.invokestatic 74, 3) := by decide +kernel
theorem dX11_crossings_40 : decode cX11_crossings 40 = .ok (.ifCond .ne 6, 3) := by decide +kernel
theorem dX11_crossings_43 : decode cX11_crossings 43 = .ok (.ldc 78, 2) := by decide +kernel
theorem dX11_crossings_45 : decode cX11_crossings 45 = .ok (.ireturn, 1) := by decide +kernel
theorem dX11_crossings_46 : decode cX11_crossings 46 = .ok (.aload 5, 2) := by decide +kernel
theorem dX11_crossings_48 : decode cX11_crossings 48 = .ok (.getfield 85, 3) := by decide +kernel
theorem dX11_crossings_51 : decode cX11_crossings 51 = .ok (.ifCond .ne 6, 3) := by decide +kernel
theorem dX11_crossings_54 : decode cX11_crossings 54 = .ok (.ldc 158, 2) := by decide +kernel
theorem dX11_crossings_56 : decode cX11_crossings 56 = .ok (.ireturn, 1) := by decide +kernel
theorem dX11_crossings_57 : decode cX11_crossings 57 = .ok (.iconst 0, 1) := by decide +kernel
theorem dX11_crossings_58 : decode cX11_crossings 58 = .ok (.istore 6, 2) := by decide +kernel
theorem dX11_crossings_60 : decode cX11_crossings 60 = .ok (.aload 5, 2) := by decide +kernel
theorem dX11_crossings_62 : decode cX11_crossings 62 = .ok (.iload_n 2, 1) := by decide +kernel
theorem dX11_crossings_63 : decode cX11_crossings 63 = .ok (.invokevirtual 159, 3) := by decide +kernel
theorem dX11_crossings_66 : decode cX11_crossings 66 = .ok (.bipush 64, 2) := by decide +kernel
theorem dX11_crossings_68 : decode cX11_crossings 68 = .ok (.iload 4, 2) := by decide +kernel
theorem dX11_crossings_70 : decode cX11_crossings 70 = .ok (.imul, 1) := by decide +kernel
theorem dX11_crossings_71 : decode cX11_crossings 71 = .ok (.if_icmp .ge 7, 3) := by decide +kernel
theorem dX11_crossings_74 : decode cX11_crossings 74 = .ok (.iconst 1, 1) := by decide +kernel
theorem dX11_crossings_75 : decode cX11_crossings 75 = .ok (.goto 4, 3) := by decide +kernel
theorem dX11_crossings_78 : decode cX11_crossings 78 = .ok (.iconst 0, 1) := by decide +kernel
theorem dX11_crossings_79 : decode cX11_crossings 79 = .ok (.istore 7, 2) := by decide +kernel
theorem dX11_crossings_81 : decode cX11_crossings 81 = .ok (.iload_n 2, 1) := by decide +kernel
theorem dX11_crossings_82 : decode cX11_crossings 82 = .ok (.iconst 1, 1) := by decide +kernel
theorem dX11_crossings_83 : decode cX11_crossings 83 = .ok (.iadd, 1) := by decide +kernel
theorem dX11_crossings_84 : decode cX11_crossings 84 = .ok (.istore 8, 2) := by decide +kernel
theorem dX11_crossings_86 : decode cX11_crossings 86 = .ok (.iload 8, 2) := by decide +kernel
theorem dX11_crossings_88 : decode cX11_crossings 88 = .ok (.iload_n 3, 1) := by decide +kernel
theorem dX11_crossings_89 : decode cX11_crossings 89 = .ok (.if_icmp .gt 45, 3) := by decide +kernel
theorem dX11_crossings_92 : decode cX11_crossings 92 = .ok (.aload 5, 2) := by decide +kernel
theorem dX11_crossings_94 : decode cX11_crossings 94 = .ok (.iload 8, 2) := by decide +kernel
theorem dX11_crossings_96 : decode cX11_crossings 96 = .ok (.invokevirtual 159, 3) := by decide +kernel
theorem dX11_crossings_99 : decode cX11_crossings 99 = .ok (.bipush 64, 2) := by decide +kernel
theorem dX11_crossings_101 : decode cX11_crossings 101 = .ok (.iload 4, 2) := by decide +kernel
theorem dX11_crossings_103 : decode cX11_crossings 103 = .ok (.imul, 1) := by decide +kernel
theorem dX11_crossings_104 : decode cX11_crossings 104 = .ok (.if_icmp .ge 7, 3) := by decide +kernel
theorem dX11_crossings_107 : decode cX11_crossings 107 = .ok (.iconst 1, 1) := by decide +kernel
theorem dX11_crossings_108 : decode cX11_crossings 108 = .ok (.goto 4, 3) := by decide +kernel
theorem dX11_crossings_111 : decode cX11_crossings 111 = .ok (.iconst 0, 1) := by decide +kernel
theorem dX11_crossings_112 : decode cX11_crossings 112 = .ok (.istore 9, 2) := by decide +kernel
theorem dX11_crossings_114 : decode cX11_crossings 114 = .ok (.iload 9, 2) := by decide +kernel
theorem dX11_crossings_116 : decode cX11_crossings 116 = .ok (.iload 7, 2) := by decide +kernel
theorem dX11_crossings_118 : decode cX11_crossings 118 = .ok (.if_icmp .eq 6, 3) := by decide +kernel
theorem dX11_crossings_121 : decode cX11_crossings 121 = .ok (.iinc 6 1, 3) := by decide +kernel
theorem dX11_crossings_124 : decode cX11_crossings 124 = .ok (.iload 9, 2) := by decide +kernel
theorem dX11_crossings_126 : decode cX11_crossings 126 = .ok (.istore 7, 2) := by decide +kernel
theorem dX11_crossings_128 : decode cX11_crossings 128 = .ok (.iinc 8 1, 3) := by decide +kernel
theorem dX11_crossings_131 : decode cX11_crossings 131 = .ok (.goto (-45), 3) := by decide +kernel
theorem dX11_crossings_134 : decode cX11_crossings 134 = .ok (.iload 6, 2) := by decide +kernel
theorem dX11_crossings_136 : decode cX11_crossings 136 = .ok (.ireturn, 1) := by decide +kernel
theorem dX11_addPoint_0 : decode cX11_addPoint 0 = .ok (.aload_n 0, 1) := by decide +kernel
theorem dX11_addPoint_1 : decode cX11_addPoint 1 = .ok (.getfield 10, 3) := by decide +kernel
theorem dX11_addPoint_4 : decode cX11_addPoint 4 = .ok (.getfield 168, 3) := by decide +kernel
theorem dX11_addPoint_7 : decode cX11_addPoint 7 = .ok (.astore_n 3, 1) := by decide +kernel
theorem dX11_addPoint_8 : decode cX11_addPoint 8 = .ok (.iload_n 1, 1) := by decide +kernel
theorem dX11_addPoint_9 : decode cX11_addPoint 9 = .ok (.iconst 0, 1) := by decide +kernel
theorem dX11_addPoint_10 : decode cX11_addPoint 10 = .ok (.sipush 480, 3) := by decide +kernel
theorem dX11_addPoint_13 : decode cX11_addPoint 13 = .ok (.invokestatic 74, 3) := by decide +kernel
theorem dX11_addPoint_16 : decode cX11_addPoint 16 = .ok (.ifCond .eq 23, 3) := by decide +kernel
theorem dX11_addPoint_19 : decode cX11_addPoint 19 = .ok (.iload_n 2, 1) := by decide +kernel
theorem dX11_addPoint_20 : decode cX11_addPoint 20 = .ok (.iconst 0, 1) := by decide +kernel
theorem dX11_addPoint_21 : decode cX11_addPoint 21 = .ok (.sipush 480, 3) := by decide +kernel
theorem dX11_addPoint_24 : decode cX11_addPoint 24 = .ok (.invokestatic 74, 3) := by decide +kernel
theorem dX11_addPoint_27 : decode cX11_addPoint 27 = .ok (.ifCond .eq 12, 3) := by decide +kernel
theorem dX11_addPoint_30 : decode cX11_addPoint 30 = .ok (.aload_n 3, 1) := by decide +kernel
theorem dX11_addPoint_31 : decode cX11_addPoint 31 = .ok (.iload_n 1, 1) := by decide +kernel
theorem dX11_addPoint_32 : decode cX11_addPoint 32 = .ok (.iload_n 2, 1) := by decide +kernel
theorem dX11_addPoint_33 : decode cX11_addPoint 33 = .ok (.invokevirtual 172, 3) := by decide +kernel
theorem dX11_addPoint_36 : decode cX11_addPoint 36 = .ok (.ifCond .ne 6, 3) := by decide +kernel
theorem dX11_addPoint_39 : decode cX11_addPoint 39 = .ok (.ldc 78, 2) := by decide +kernel
theorem dX11_addPoint_41 : decode cX11_addPoint 41 = .ok (.ireturn, 1) := by decide +kernel
theorem dX11_addPoint_42 : decode cX11_addPoint 42 = .ok (.aload_n 3, 1) := by decide +kernel
theorem dX11_addPoint_43 : decode cX11_addPoint 43 = .ok (.getfield 178, 3) := by decide +kernel
theorem dX11_addPoint_46 : decode cX11_addPoint 46 = .ok (.bipush 8, 2) := by decide +kernel
theorem dX11_addPoint_48 : decode cX11_addPoint 48 = .ok (.if_icmp .lt 6, 3) := by decide +kernel
theorem dX11_addPoint_51 : decode cX11_addPoint 51 = .ok (.ldc 89, 2) := by decide +kernel
theorem dX11_addPoint_53 : decode cX11_addPoint 53 = .ok (.ireturn, 1) := by decide +kernel
theorem dX11_addPoint_54 : decode cX11_addPoint 54 = .ok (.aload_n 0, 1) := by decide +kernel
theorem dX11_addPoint_55 : decode cX11_addPoint 55 = .ok (.getfield 19, 3) := by decide +kernel
theorem dX11_addPoint_58 : decode cX11_addPoint 58 = .ok (.aload_n 0, 1) := by decide +kernel
theorem dX11_addPoint_59 : decode cX11_addPoint 59 = .ok (.getfield 10, 3) := by decide +kernel
theorem dX11_addPoint_62 : decode cX11_addPoint 62 = .ok (.invokevirtual 90, 3) := by decide +kernel
theorem dX11_addPoint_65 : decode cX11_addPoint 65 = .ok (.aload_n 3, 1) := by decide +kernel
theorem dX11_addPoint_66 : decode cX11_addPoint 66 = .ok (.iload_n 1, 1) := by decide +kernel
theorem dX11_addPoint_67 : decode cX11_addPoint 67 = .ok (.iload_n 2, 1) := by decide +kernel
theorem dX11_addPoint_68 : decode cX11_addPoint 68 = .ok (.invokevirtual 179, 3) := by decide +kernel
theorem dX11_addPoint_71 : decode cX11_addPoint 71 = .ok (.aload_n 3, 1) := by decide +kernel
theorem dX11_addPoint_72 : decode cX11_addPoint 72 = .ok (.getfield 178, 3) := by decide +kernel
theorem dX11_addPoint_75 : decode cX11_addPoint 75 = .ok (.ireturn, 1) := by decide +kernel
theorem dX11_clearMap_0 : decode cX11_clearMap 0 = .ok (.aload_n 0, 1) := by decide +kernel
theorem dX11_clearMap_1 : decode cX11_clearMap 1 = .ok (.getfield 19, 3) := by decide +kernel
theorem dX11_clearMap_4 : decode cX11_clearMap 4 = .ok (.aload_n 0, 1) := by decide +kernel
theorem dX11_clearMap_5 : decode cX11_clearMap 5 = .ok (.getfield 10, 3) := by decide +kernel
theorem dX11_clearMap_8 : decode cX11_clearMap 8 = .ok (.invokevirtual 90, 3) := by decide +kernel
theorem dX11_clearMap_11 : decode cX11_clearMap 11 = .ok (.aload_n 0, 1) := by decide +kernel
theorem dX11_clearMap_12 : decode cX11_clearMap 12 = .ok (.getfield 10, 3) := by decide +kernel
theorem dX11_clearMap_15 : decode cX11_clearMap 15 = .ok (.getfield 168, 3) := by decide +kernel
theorem dX11_clearMap_18 : decode cX11_clearMap 18 = .ok (.getfield 178, 3) := by decide +kernel
theorem dX11_clearMap_21 : decode cX11_clearMap 21 = .ok (.istore_n 1, 1) := by decide +kernel
theorem dX11_clearMap_22 : decode cX11_clearMap 22 = .ok (.aload_n 0, 1) := by decide +kernel
theorem dX11_clearMap_23 : decode cX11_clearMap 23 = .ok (.getfield 10, 3) := by decide +kernel
theorem dX11_clearMap_26 : decode cX11_clearMap 26 = .ok (.getfield 168, 3) := by decide +kernel
theorem dX11_clearMap_29 : decode cX11_clearMap 29 = .ok (.iconst 0, 1) := by decide +kernel
theorem dX11_clearMap_30 : decode cX11_clearMap 30 = .ok (.putfield 178, 3) := by decide +kernel
theorem dX11_clearMap_33 : decode cX11_clearMap 33 = .ok (.iload_n 1, 1) := by decide +kernel
theorem dX11_clearMap_34 : decode cX11_clearMap 34 = .ok (.ireturn, 1) := by decide +kernel
theorem dX11_mapped_0 : decode cX11_mapped 0 = .ok (.iload_n 1, 1) := by decide +kernel
theorem dX11_mapped_1 : decode cX11_mapped 1 = .ok (.iconst 0, 1) := by decide +kernel
theorem dX11_mapped_2 : decode cX11_mapped 2 = .ok (.sipush 480, 3) := by decide +kernel
theorem dX11_mapped_5 : decode cX11_mapped 5 = .ok (.invokestatic 74, 3) := by decide +kernel
theorem dX11_mapped_8 : decode cX11_mapped 8 = .ok (.ifCond .eq 17, 3) := by decide +kernel
theorem dX11_mapped_11 : decode cX11_mapped 11 = .ok (.aload_n 0, 1) := by decide +kernel
theorem dX11_mapped_12 : decode cX11_mapped 12 = .ok (.getfield 10, 3) := by decide +kernel
theorem dX11_mapped_15 : decode cX11_mapped 15 = .ok (.getfield 168, 3) := by decide +kernel
theorem dX11_mapped_18 : decode cX11_mapped 18 = .ok (.iload_n 1, 1) := by decide +kernel
theorem dX11_mapped_19 : decode cX11_mapped 19 = .ok (.invokevirtual 182, 3) := by decide +kernel
theorem dX11_mapped_22 : decode cX11_mapped 22 = .ok (.goto 5, 3) := by decide +kernel
theorem dX11_mapped_25 : decode cX11_mapped 25 = .ok (.ldc 78, 2) := by decide +kernel
theorem dX11_mapped_27 : decode cX11_mapped 27 = .ok (.ireturn, 1) := by decide +kernel
theorem dX11_retime_0 : decode cX11_retime 0 = .ok (.aload_n 0, 1) := by decide +kernel
theorem dX11_retime_1 : decode cX11_retime 1 = .ok (.getfield 10, 3) := by decide +kernel
theorem dX11_retime_4 : decode cX11_retime 4 = .ok (.iload_n 1, 1) := by decide +kernel
theorem dX11_retime_5 : decode cX11_retime 5 = .ok (.invokevirtual 69, 3) := by decide +kernel
theorem dX11_retime_8 : decode cX11_retime 8 = .ok (.astore_n 2, 1) := by decide +kernel
theorem dX11_retime_9 : decode cX11_retime 9 = .ok (.aload_n 2, 1) := by decide +kernel
theorem dX11_retime_10 : decode cX11_retime 10 = .ok (.ifnonnull 6, 3) := by decide +kernel
theorem dX11_retime_13 : decode cX11_retime 13 = .ok (.ldc 73, 2) := by decide +kernel
theorem dX11_retime_15 : decode cX11_retime 15 = .ok (.ireturn, 1) := by decide +kernel
theorem dX11_retime_16 : decode cX11_retime 16 = .ok (.iconst 0, 1) := by decide +kernel
theorem dX11_retime_17 : decode cX11_retime 17 = .ok (.istore_n 3, 1) := by decide +kernel
theorem dX11_retime_18 : decode cX11_retime 18 = .ok (.iconst (-1), 1) := by decide +kernel
theorem dX11_retime_19 : decode cX11_retime 19 = .ok (.istore 4, 2) := by decide +kernel
theorem dX11_retime_21 : decode cX11_retime 21 = .ok (.iconst 0, 1) := by decide +kernel
theorem dX11_retime_22 : decode cX11_retime 22 = .ok (.istore 5, 2) := by decide +kernel
theorem dX11_retime_24 : decode cX11_retime 24 = .ok (.iload 5, 2) := by decide +kernel
theorem dX11_retime_26 : decode cX11_retime 26 = .ok (.aload_n 2, 1) := by decide +kernel
theorem dX11_retime_27 : decode cX11_retime 27 = .ok (.getfield 85, 3) := by decide +kernel
theorem dX11_retime_30 : decode cX11_retime 30 = .ok (.if_icmp .ge 86, 3) := by decide +kernel
theorem dX11_retime_33 : decode cX11_retime 33 = .ok (.aload_n 2, 1) := by decide +kernel
theorem dX11_retime_34 : decode cX11_retime 34 = .ok (.getfield 151, 3) := by decide +kernel
theorem dX11_retime_37 : decode cX11_retime 37 = .ok (.iload 5, 2) := by decide +kernel
theorem dX11_retime_39 : decode cX11_retime 39 = .ok (.invokestatic 117, 3) := by decide +kernel
theorem dX11_retime_42 : decode cX11_retime 42 = .ok (.istore 6, 2) := by decide +kernel
theorem dX11_retime_44 : decode cX11_retime 44 = .ok (.aload_n 0, 1) := by decide +kernel
theorem dX11_retime_45 : decode cX11_retime 45 = .ok (.getfield 10, 3) := by decide +kernel
theorem dX11_retime_48 : decode cX11_retime 48 = .ok (.getfield 168, 3) := by decide +kernel
theorem dX11_retime_51 : decode cX11_retime 51 = .ok (.iload 6, 2) := by decide +kernel
theorem dX11_retime_53 : decode cX11_retime 53 = .ok (.invokevirtual 182, 3) := by decide +kernel
theorem dX11_retime_56 : decode cX11_retime 56 = .ok (.istore 7, 2) := by decide +kernel
theorem dX11_retime_58 : decode cX11_retime 58 = .ok (.iload 7, 2) := by decide +kernel
theorem dX11_retime_60 : decode cX11_retime 60 = .ok (.iconst 0, 1) := by decide +kernel
theorem dX11_retime_61 : decode cX11_retime 61 = .ok (.sipush 480, 3) := by decide +kernel
theorem dX11_retime_64 : decode cX11_retime 64 = .ok (.invokestatic 74, 3) := by decide +kernel
theorem dX11_retime_67 : decode cX11_retime 67 = .ok (.ifCond .eq 10, 3) := by decide +kernel
theorem dX11_retime_70 : decode cX11_retime 70 = .ok (.iload 7, 2) := by decide +kernel
theorem dX11_retime_72 : decode cX11_retime 72 = .ok (.iload 4, 2) := by decide +kernel
theorem dX11_retime_74 : decode cX11_retime 74 = .ok (.if_icmp .gt 6, 3) := by decide +kernel
theorem dX11_retime_77 : decode cX11_retime 77 = .ok (.ldc 109, 2) := by decide +kernel
theorem dX11_retime_79 : decode cX11_retime 79 = .ok (.ireturn, 1) := by decide +kernel
theorem dX11_retime_80 : decode cX11_retime 80 = .ok (.aload_n 0, 1) := by decide +kernel
theorem dX11_retime_81 : decode cX11_retime 81 = .ok (.getfield 65, 3) := by decide +kernel
theorem dX11_retime_84 : decode cX11_retime 84 = .ok (.iload 5, 2) := by decide +kernel
theorem dX11_retime_86 : decode cX11_retime 86 = .ok (.iload 7, 2) := by decide +kernel
theorem dX11_retime_88 : decode cX11_retime 88 = .ok (.invokestatic 101, 3) := by decide +kernel
theorem dX11_retime_91 : decode cX11_retime 91 = .ok (.iload_n 3, 1) := by decide +kernel
theorem dX11_retime_92 : decode cX11_retime 92 = .ok (.iload 7, 2) := by decide +kernel
theorem dX11_retime_94 : decode cX11_retime 94 = .ok (.iload 6, 2) := by decide +kernel
theorem dX11_retime_96 : decode cX11_retime 96 = .ok (.if_icmp .ne 7, 3) := by decide +kernel
theorem dX11_retime_99 : decode cX11_retime 99 = .ok (.iconst 0, 1) := by decide +kernel
theorem dX11_retime_100 : decode cX11_retime 100 = .ok (.goto 4, 3) := by decide +kernel
theorem dX11_retime_103 : decode cX11_retime 103 = .ok (.iconst 1, 1) := by decide +kernel
theorem dX11_retime_104 : decode cX11_retime 104 = .ok (.iadd, 1) := by decide +kernel
theorem dX11_retime_105 : decode cX11_retime 105 = .ok (.istore_n 3, 1) := by decide +kernel
theorem dX11_retime_106 : decode cX11_retime 106 = .ok (.iload 7, 2) := by decide +kernel
theorem dX11_retime_108 : decode cX11_retime 108 = .ok (.istore 4, 2) := by decide +kernel
theorem dX11_retime_110 : decode cX11_retime 110 = .ok (.iinc 5 1, 3) := by decide +kernel
theorem dX11_retime_113 : decode cX11_retime 113 = .ok (.goto (-89), 3) := by decide +kernel
theorem dX11_retime_116 : decode cX11_retime 116 = .ok (.aload_n 0, 1) := by decide +kernel
theorem dX11_retime_117 : decode cX11_retime 117 = .ok (.getfield 19, 3) := by decide +kernel
theorem dX11_retime_120 : decode cX11_retime 120 = .ok (.aload_n 0, 1) := by decide +kernel
theorem dX11_retime_121 : decode cX11_retime 121 = .ok (.getfield 10, 3) := by decide +kernel
theorem dX11_retime_124 : decode cX11_retime 124 = .ok (.invokevirtual 90, 3) := by decide +kernel
theorem dX11_retime_127 : decode cX11_retime 127 = .ok (.aload_n 2, 1) := by decide +kernel
theorem dX11_retime_128 : decode cX11_retime 128 = .ok (.aload_n 0, 1) := by decide +kernel
theorem dX11_retime_129 : decode cX11_retime 129 = .ok (.getfield 10, 3) := by decide +kernel
theorem dX11_retime_132 : decode cX11_retime 132 = .ok (.getfield 168, 3) := by decide +kernel
theorem dX11_retime_135 : decode cX11_retime 135 = .ok (.aload_n 0, 1) := by decide +kernel
theorem dX11_retime_136 : decode cX11_retime 136 = .ok (.getfield 65, 3) := by decide +kernel
theorem dX11_retime_139 : decode cX11_retime 139 = .ok (.invokevirtual 185, 3) := by decide +kernel
theorem dX11_retime_142 : decode cX11_retime 142 = .ok (.iload_n 3, 1) := by decide +kernel
theorem dX11_retime_143 : decode cX11_retime 143 = .ok (.ireturn, 1) := by decide +kernel
theorem dX11_bake_0 : decode cX11_bake 0 = .ok (.aload_n 0, 1) := by decide +kernel
theorem dX11_bake_1 : decode cX11_bake 1 = .ok (.getfield 10, 3) := by decide +kernel
theorem dX11_bake_4 : decode cX11_bake 4 = .ok (.iload_n 1, 1) := by decide +kernel
theorem dX11_bake_5 : decode cX11_bake 5 = .ok (.invokevirtual 69, 3) := by decide +kernel
theorem dX11_bake_8 : decode cX11_bake 8 = .ok (.astore 5, 2) := by decide +kernel
theorem dX11_bake_10 : decode cX11_bake 10 = .ok (.aload 5, 2) := by decide +kernel
theorem dX11_bake_12 : decode cX11_bake 12 = .ok (.ifnonnull 6, 3) := by decide +kernel
theorem dX11_bake_15 : decode cX11_bake 15 = .ok (.ldc 73, 2) := by decide +kernel
theorem dX11_bake_17 : decode cX11_bake 17 = .ok (.ireturn, 1) := by decide +kernel
theorem dX11_bake_18 : decode cX11_bake 18 = .ok (.iload_n 2, 1) := by decide +kernel
theorem dX11_bake_19 : decode cX11_bake 19 = .ok (.iload_n 3, 1) := by decide +kernel
theorem dX11_bake_20 : decode cX11_bake 20 = .ok (.sipush 480, 3) := by decide +kernel
theorem dX11_bake_23 : decode cX11_bake 23 = .ok (.invokestatic 163, 3) := by decide +kernel
theorem dX11_bake_26 : decode cX11_bake 26 = .ok (.ifCond .eq 15, 3) := by decide +kernel
theorem dX11_bake_29 : decode cX11_bake 29 = .ok (.iload 4, 2) := by decide +kernel
theorem dX11_bake_31 : decode cX11_bake 31 = .ok (.iconst 1, 1) := by decide +kernel
theorem dX11_bake_32 : decode cX11_bake 32 = .ok (.sipush 480, 3) := by decide +kernel
theorem dX11_bake_35 : decode cX11_bake 35 = .ok (.invokestatic 74, 3) := by decide +kernel
theorem dX11_bake_38 : decode cX11_bake 38 = .ok (.ifCond .ne 6, 3) := by decide +kernel
theorem dX11_bake_41 : decode cX11_bake 41 = .ok (.ldc 78, 2) := by decide +kernel
theorem dX11_bake_43 : decode cX11_bake 43 = .ok (.ireturn, 1) := by decide +kernel
theorem dX11_bake_44 : decode cX11_bake 44 = .ok (.aload 5, 2) := by decide +kernel
theorem dX11_bake_46 : decode cX11_bake 46 = .ok (.getfield 85, 3) := by decide +kernel
theorem dX11_bake_49 : decode cX11_bake 49 = .ok (.ifCond .ne 6, 3) := by decide +kernel
theorem dX11_bake_52 : decode cX11_bake 52 = .ok (.ldc 109, 2) := by decide +kernel
theorem dX11_bake_54 : decode cX11_bake 54 = .ok (.ireturn, 1) := by decide +kernel
theorem dX11_bake_55 : decode cX11_bake 55 = .ok (.iload_n 2, 1) := by decide +kernel
theorem dX11_bake_56 : decode cX11_bake 56 = .ok (.iload_n 3, 1) := by decide +kernel
theorem dX11_bake_57 : decode cX11_bake 57 = .ok (.iload 4, 2) := by decide +kernel
theorem dX11_bake_59 : decode cX11_bake 59 = .ok (.invokestatic 189, 3) := by decide +kernel
theorem dX11_bake_62 : decode cX11_bake 62 = .ok (.istore 6, 2) := by decide +kernel
theorem dX11_bake_64 : decode cX11_bake 64 = .ok (.aload 5, 2) := by decide +kernel
theorem dX11_bake_66 : decode cX11_bake 66 = .ok (.iload_n 2, 1) := by decide +kernel
theorem dX11_bake_67 : decode cX11_bake 67 = .ok (.iload_n 3, 1) := by decide +kernel
theorem dX11_bake_68 : decode cX11_bake 68 = .ok (.invokevirtual 193, 3) := by decide +kernel
theorem dX11_bake_71 : decode cX11_bake 71 = .ok (.iload 6, 2) := by decide +kernel
theorem dX11_bake_73 : decode cX11_bake 73 = .ok (.iadd, 1) := by decide +kernel
theorem dX11_bake_74 : decode cX11_bake 74 = .ok (.bipush 24, 2) := by decide +kernel
theorem dX11_bake_76 : decode cX11_bake 76 = .ok (.if_icmp .le 6, 3) := by decide +kernel
theorem dX11_bake_79 : decode cX11_bake 79 = .ok (.ldc 89, 2) := by decide +kernel
theorem dX11_bake_81 : decode cX11_bake 81 = .ok (.ireturn, 1) := by decide +kernel
theorem dX11_bake_82 : decode cX11_bake 82 = .ok (.iconst 0, 1) := by decide +kernel
theorem dX11_bake_83 : decode cX11_bake 83 = .ok (.istore 7, 2) := by decide +kernel
theorem dX11_bake_85 : decode cX11_bake 85 = .ok (.iload 7, 2) := by decide +kernel
theorem dX11_bake_87 : decode cX11_bake 87 = .ok (.iload 6, 2) := by decide +kernel
theorem dX11_bake_89 : decode cX11_bake 89 = .ok (.if_icmp .ge 33, 3) := by decide +kernel
theorem dX11_bake_92 : decode cX11_bake 92 = .ok (.aload_n 0, 1) := by decide +kernel
theorem dX11_bake_93 : decode cX11_bake 93 = .ok (.getfield 65, 3) := by decide +kernel
theorem dX11_bake_96 : decode cX11_bake 96 = .ok (.iload 7, 2) := by decide +kernel
theorem dX11_bake_98 : decode cX11_bake 98 = .ok (.aload 5, 2) := by decide +kernel
theorem dX11_bake_100 : decode cX11_bake 100 = .ok (.iload_n 2, 1) := by decide +kernel
theorem dX11_bake_101 : decode cX11_bake 101 = .ok (.iload 7, 2) := by decide +kernel
theorem dX11_bake_103 : decode cX11_bake 103 = .ok (.iload 4, 2) := by decide +kernel
theorem dX11_bake_105 : decode cX11_bake 105 = .ok (.imul, 1) := by decide +kernel
theorem dX11_bake_106 : decode cX11_bake 106 = .ok (.iadd, 1) := by decide +kernel
theorem dX11_bake_107 : decode cX11_bake 107 = .ok (.invokevirtual 159, 3) := by decide +kernel
theorem dX11_bake_110 : decode cX11_bake 110 = .ok (.invokestatic 196, 3) := by decide +kernel
theorem dX11_bake_113 : decode cX11_bake 113 = .ok (.invokestatic 101, 3) := by decide +kernel
theorem dX11_bake_116 : decode cX11_bake 116 = .ok (.iinc 7 1, 3) := by decide +kernel
theorem dX11_bake_119 : decode cX11_bake 119 = .ok (.goto (-34), 3) := by decide +kernel
theorem dX11_bake_122 : decode cX11_bake 122 = .ok (.aload_n 0, 1) := by decide +kernel
theorem dX11_bake_123 : decode cX11_bake 123 = .ok (.getfield 19, 3) := by decide +kernel
theorem dX11_bake_126 : decode cX11_bake 126 = .ok (.aload_n 0, 1) := by decide +kernel
theorem dX11_bake_127 : decode cX11_bake 127 = .ok (.getfield 10, 3) := by decide +kernel
theorem dX11_bake_130 : decode cX11_bake 130 = .ok (.invokevirtual 90, 3) := by decide +kernel
theorem dX11_bake_133 : decode cX11_bake 133 = .ok (.aload 5, 2) := by decide +kernel
theorem dX11_bake_135 : decode cX11_bake 135 = .ok (.iload_n 2, 1) := by decide +kernel
theorem dX11_bake_136 : decode cX11_bake 136 = .ok (.iload_n 3, 1) := by decide +kernel
theorem dX11_bake_137 : decode cX11_bake 137 = .ok (.iload 4, 2) := by decide +kernel
theorem dX11_bake_139 : decode cX11_bake 139 = .ok (.aload_n 0, 1) := by decide +kernel
theorem dX11_bake_140 : decode cX11_bake 140 = .ok (.getfield 65, 3) := by decide +kernel
theorem dX11_bake_143 : decode cX11_bake 143 = .ok (.invokevirtual 199, 3) := by decide +kernel
theorem dX11_bake_146 : decode cX11_bake 146 = .ok (.aload 5, 2) := by decide +kernel
theorem dX11_bake_148 : decode cX11_bake 148 = .ok (.getfield 85, 3) := by decide +kernel
theorem dX11_bake_151 : decode cX11_bake 151 = .ok (.ireturn, 1) := by decide +kernel
theorem dX11_bakeFormula_0 : decode cX11_bakeFormula 0 = .ok (.aload_n 0, 1) := by decide +kernel
theorem dX11_bakeFormula_1 : decode cX11_bakeFormula 1 = .ok (.getfield 10, 3) := by decide +kernel
theorem dX11_bakeFormula_4 : decode cX11_bakeFormula 4 = .ok (.iload_n 1, 1) := by decide +kernel
theorem dX11_bakeFormula_5 : decode cX11_bakeFormula 5 = .ok (.invokevirtual 69, 3) := by decide +kernel
theorem dX11_bakeFormula_8 : decode cX11_bakeFormula 8 = .ok (.astore 5, 2) := by decide +kernel
theorem dX11_bakeFormula_10 : decode cX11_bakeFormula 10 = .ok (.aload 5, 2) := by decide +kernel
theorem dX11_bakeFormula_12 : decode cX11_bakeFormula 12 = .ok (.ifnonnull 6, 3) := by decide +kernel
theorem dX11_bakeFormula_15 : decode cX11_bakeFormula 15 = .ok (.ldc 73, 2) := by decide +kernel
theorem dX11_bakeFormula_17 : decode cX11_bakeFormula 17 = .ok (.ireturn, 1) := by decide +kernel
theorem dX11_bakeFormula_18 : decode cX11_bakeFormula 18 = .ok (.iload_n 2, 1) := by decide +kernel
theorem dX11_bakeFormula_19 : decode cX11_bakeFormula 19 = .ok (.iload_n 3, 1) := by decide +kernel
theorem dX11_bakeFormula_20 : decode cX11_bakeFormula 20 = .ok (.sipush 480, 3) := by decide +kernel
theorem dX11_bakeFormula_23 : decode cX11_bakeFormula 23 = .ok (.invokestatic 163, 3) := by decide +kernel
theorem dX11_bakeFormula_26 : decode cX11_bakeFormula 26 = .ok (.ifCond .eq 15, 3) := by decide +kernel
theorem dX11_bakeFormula_29 : decode cX11_bakeFormula 29 = .ok (.iload 4, 2) := by decide +kernel
theorem dX11_bakeFormula_31 : decode cX11_bakeFormula 31 = .ok (.iconst 1, 1) := by decide +kernel
theorem dX11_bakeFormula_32 : decode cX11_bakeFormula 32 = .ok (.sipush 480, 3) := by decide +kernel
theorem dX11_bakeFormula_35 : decode cX11_bakeFormula 35 = .ok (.invokestatic 74, 3) := by decide +kernel
theorem dX11_bakeFormula_38 : decode cX11_bakeFormula 38 = .ok (.ifCond .ne 6, 3) := by decide +kernel
theorem dX11_bakeFormula_41 : decode cX11_bakeFormula 41 = .ok (.ldc 78, 2) := by decide +kernel
theorem dX11_bakeFormula_43 : decode cX11_bakeFormula 43 = .ok (.ireturn, 1) := by decide +kernel
theorem dX11_bakeFormula_44 : decode cX11_bakeFormula 44 = .ok (.iload_n 2, 1) := by decide +kernel
theorem dX11_bakeFormula_45 : decode cX11_bakeFormula 45 = .ok (.iload_n 3, 1) := by decide +kernel
theorem dX11_bakeFormula_46 : decode cX11_bakeFormula 46 = .ok (.iload 4, 2) := by decide +kernel
theorem dX11_bakeFormula_48 : decode cX11_bakeFormula 48 = .ok (.invokestatic 189, 3) := by decide +kernel
theorem dX11_bakeFormula_51 : decode cX11_bakeFormula 51 = .ok (.istore 6, 2) := by decide +kernel
theorem dX11_bakeFormula_53 : decode cX11_bakeFormula 53 = .ok (.aload 5, 2) := by decide +kernel
theorem dX11_bakeFormula_55 : decode cX11_bakeFormula 55 = .ok (.iload_n 2, 1) := by decide +kernel
theorem dX11_bakeFormula_56 : decode cX11_bakeFormula 56 = .ok (.iload_n 3, 1) := by decide +kernel
theorem dX11_bakeFormula_57 : decode cX11_bakeFormula 57 = .ok (.invokevirtual 193, 3) := by decide +kernel
theorem dX11_bakeFormula_60 : decode cX11_bakeFormula 60 = .ok (.iload 6, 2) := by decide +kernel
theorem dX11_bakeFormula_62 : decode cX11_bakeFormula 62 = .ok (.iadd, 1) := by decide +kernel
theorem dX11_bakeFormula_63 : decode cX11_bakeFormula 63 = .ok (.bipush 24, 2) := by decide +kernel
theorem dX11_bakeFormula_65 : decode cX11_bakeFormula 65 = .ok (.if_icmp .le 6, 3) := by decide +kernel
theorem dX11_bakeFormula_68 : decode cX11_bakeFormula 68 = .ok (.ldc 89, 2) := by decide +kernel
theorem dX11_bakeFormula_70 : decode cX11_bakeFormula 70 = .ok (.ireturn, 1) := by decide +kernel
theorem dX11_bakeFormula_71 : decode cX11_bakeFormula 71 = .ok (.iconst 0, 1) := by decide +kernel
theorem dX11_bakeFormula_72 : decode cX11_bakeFormula 72 = .ok (.istore 7, 2) := by decide +kernel
theorem dX11_bakeFormula_74 : decode cX11_bakeFormula 74 = .ok (.iload 7, 2) := by decide +kernel
theorem dX11_bakeFormula_76 : decode cX11_bakeFormula 76 = .ok (.iload 6, 2) := by decide +kernel
theorem dX11_bakeFormula_78 : decode cX11_bakeFormula 78 = .ok (.if_icmp .ge 39, 3) := by decide +kernel
theorem dX11_bakeFormula_81 : decode cX11_bakeFormula 81 = .ok (.aload_n 0, 1) := by decide +kernel
theorem dX11_bakeFormula_82 : decode cX11_bakeFormula 82 = .ok (.getfield 65, 3) := by decide +kernel
theorem dX11_bakeFormula_85 : decode cX11_bakeFormula 85 = .ok (.iload 7, 2) := by decide +kernel
theorem dX11_bakeFormula_87 : decode cX11_bakeFormula 87 = .ok (.aload_n 0, 1) := by decide +kernel
theorem dX11_bakeFormula_88 : decode cX11_bakeFormula 88 = .ok (.getfield 47, 3) := by decide +kernel
theorem dX11_bakeFormula_91 : decode cX11_bakeFormula 91 = .ok (.aload_n 0, 1) := by decide +kernel
theorem dX11_bakeFormula_92 : decode cX11_bakeFormula 92 = .ok (.getfield 10, 3) := by decide +kernel
theorem dX11_bakeFormula_95 : decode cX11_bakeFormula 95 = .ok (.iload_n 2, 1) := by decide +kernel
theorem dX11_bakeFormula_96 : decode cX11_bakeFormula 96 = .ok (.iload 7, 2) := by decide +kernel
theorem dX11_bakeFormula_98 : decode cX11_bakeFormula 98 = .ok (.iload 4, 2) := by decide +kernel
theorem dX11_bakeFormula_100 : decode cX11_bakeFormula 100 = .ok (.imul, 1) := by decide +kernel
theorem dX11_bakeFormula_101 : decode cX11_bakeFormula 101 = .ok (.iadd, 1) := by decide +kernel
theorem dX11_bakeFormula_102 : decode cX11_bakeFormula 102 = .ok (.invokevirtual 203, 3) := by decide +kernel
theorem dX11_bakeFormula_105 : decode cX11_bakeFormula 105 = .ok (.invokestatic 196, 3) := by decide +kernel
theorem dX11_bakeFormula_108 : decode cX11_bakeFormula 108 = .ok (.invokestatic 101, 3) := by decide +kernel
theorem dX11_bakeFormula_111 : decode cX11_bakeFormula 111 = .ok (.iinc 7 1, 3) := by decide +kernel
theorem dX11_bakeFormula_114 : decode cX11_bakeFormula 114 = .ok (.goto (-40), 3) := by decide +kernel
theorem dX11_bakeFormula_117 : decode cX11_bakeFormula 117 = .ok (.aload_n 0, 1) := by decide +kernel
theorem dX11_bakeFormula_118 : decode cX11_bakeFormula 118 = .ok (.getfield 19, 3) := by decide +kernel
theorem dX11_bakeFormula_121 : decode cX11_bakeFormula 121 = .ok (.aload_n 0, 1) := by decide +kernel
theorem dX11_bakeFormula_122 : decode cX11_bakeFormula 122 = .ok (.getfield 10, 3) := by decide +kernel
theorem dX11_bakeFormula_125 : decode cX11_bakeFormula 125 = .ok (.invokevirtual 90, 3) := by decide +kernel
theorem dX11_bakeFormula_128 : decode cX11_bakeFormula 128 = .ok (.aload 5, 2) := by decide +kernel
theorem dX11_bakeFormula_130 : decode cX11_bakeFormula 130 = .ok (.iload_n 2, 1) := by decide +kernel
theorem dX11_bakeFormula_131 : decode cX11_bakeFormula 131 = .ok (.iload_n 3, 1) := by decide +kernel
theorem dX11_bakeFormula_132 : decode cX11_bakeFormula 132 = .ok (.iload 4, 2) := by decide +kernel
theorem dX11_bakeFormula_134 : decode cX11_bakeFormula 134 = .ok (.aload_n 0, 1) := by decide +kernel
theorem dX11_bakeFormula_135 : decode cX11_bakeFormula 135 = .ok (.getfield 65, 3) := by decide +kernel
theorem dX11_bakeFormula_138 : decode cX11_bakeFormula 138 = .ok (.invokevirtual 199, 3) := by decide +kernel
theorem dX11_bakeFormula_141 : decode cX11_bakeFormula 141 = .ok (.aload 5, 2) := by decide +kernel
theorem dX11_bakeFormula_143 : decode cX11_bakeFormula 143 = .ok (.getfield 85, 3) := by decide +kernel
theorem dX11_bakeFormula_146 : decode cX11_bakeFormula 146 = .ok (.ireturn, 1) := by decide +kernel
theorem dX11_polyline_0 : decode cX11_polyline 0 = .ok (.aload_n 0, 1) := by decide +kernel
theorem dX11_polyline_1 : decode cX11_polyline 1 = .ok (.getfield 10, 3) := by decide +kernel
theorem dX11_polyline_4 : decode cX11_polyline 4 = .ok (.iload_n 1, 1) := by decide +kernel
theorem dX11_polyline_5 : decode cX11_polyline 5 = .ok (.invokevirtual 69, 3) := by decide +kernel
theorem dX11_polyline_8 : decode cX11_polyline 8 = .ok (.astore 6, 2) := by decide +kernel
theorem dX11_polyline_10 : decode cX11_polyline 10 = .ok (.aload 6, 2) := by decide +kernel
theorem dX11_polyline_12 : decode cX11_polyline 12 = .ok (.ifnonnull 6, 3) := by decide +kernel
theorem dX11_polyline_15 : decode cX11_polyline 15 = .ok (.ldc 73, 2) := by decide +kernel
theorem dX11_polyline_17 : decode cX11_polyline 17 = .ok (.ireturn, 1) := by decide +kernel
theorem dX11_polyline_18 : decode cX11_polyline 18 = .ok (.iload_n 2, 1) := by decide +kernel
theorem dX11_polyline_19 : decode cX11_polyline 19 = .ok (.iconst 0, 1) := by decide +kernel
theorem dX11_polyline_20 : decode cX11_polyline 20 = .ok (.sipush 960, 3) := by decide +kernel
theorem dX11_polyline_23 : decode cX11_polyline 23 = .ok (.invokestatic 74, 3) := by decide +kernel
theorem dX11_polyline_26 : decode cX11_polyline 26 = .ok (.ifCond .eq 23, 3) := by decide +kernel
theorem dX11_polyline_29 : decode cX11_polyline 29 = .ok (.iload_n 3, 1) := by decide +kernel
theorem dX11_polyline_30 : decode cX11_polyline 30 = .ok (.iload_n 2, 1) := by decide +kernel
theorem dX11_polyline_31 : decode cX11_polyline 31 = .ok (.iconst 1, 1) := by decide +kernel
theorem dX11_polyline_32 : decode cX11_polyline 32 = .ok (.iadd, 1) := by decide +kernel
theorem dX11_polyline_33 : decode cX11_polyline 33 = .ok (.iload_n 2, 1) := by decide +kernel
theorem dX11_polyline_34 : decode cX11_polyline 34 = .ok (.bipush 40, 2) := by decide +kernel
theorem dX11_polyline_36 : decode cX11_polyline 36 = .ok (.iadd, 1) := by decide +kernel
theorem dX11_polyline_37 : decode cX11_polyline 37 = .ok (.sipush 960, 3) := by decide +kernel
theorem dX11_polyline_40 : decode cX11_polyline 40 = .ok (.invokestatic 207, 3) := by decide +kernel
theorem dX11_polyline_43 : decode cX11_polyline 43 = .ok (.invokestatic 74, 3) := by decide +kernel
theorem dX11_polyline_46 : decode cX11_polyline 46 = .ok (.ifCond .ne 6, 3) := by decide +kernel
theorem dX11_polyline_49 : decode cX11_polyline 49 = .ok (.ldc 78, 2) := by decide +kernel
theorem dX11_polyline_51 : decode cX11_polyline 51 = .ok (.ireturn, 1) := by decide +kernel
theorem dX11_polyline_52 : decode cX11_polyline 52 = .ok (.iload 4, 2) := by decide +kernel
theorem dX11_polyline_54 : decode cX11_polyline 54 = .ok (.iconst 0, 1) := by decide +kernel
theorem dX11_polyline_55 : decode cX11_polyline 55 = .ok (.sipush 9999, 3) := by decide +kernel
theorem dX11_polyline_58 : decode cX11_polyline 58 = .ok (.invokestatic 74, 3) := by decide +kernel
theorem dX11_polyline_61 : decode cX11_polyline 61 = .ok (.ifCond .eq 9, 3) := by decide +kernel
theorem dX11_polyline_64 : decode cX11_polyline 64 = .ok (.iload 5, 2) := by decide +kernel
theorem dX11_polyline_66 : decode cX11_polyline 66 = .ok (.iconst (-1), 1) := by decide +kernel
theorem dX11_polyline_67 : decode cX11_polyline 67 = .ok (.if_icmp .ge 6, 3) := by decide +kernel
theorem dX11_polyline_70 : decode cX11_polyline 70 = .ok (.ldc 78, 2) := by decide +kernel
theorem dX11_polyline_72 : decode cX11_polyline 72 = .ok (.ireturn, 1) := by decide +kernel
theorem dX11_polyline_73 : decode cX11_polyline 73 = .ok (.aload 6, 2) := by decide +kernel
theorem dX11_polyline_75 : decode cX11_polyline 75 = .ok (.getfield 85, 3) := by decide +kernel
theorem dX11_polyline_78 : decode cX11_polyline 78 = .ok (.ifCond .ne 6, 3) := by decide +kernel
theorem dX11_polyline_81 : decode cX11_polyline 81 = .ok (.ldc 109, 2) := by decide +kernel
theorem dX11_polyline_83 : decode cX11_polyline 83 = .ok (.ireturn, 1) := by decide +kernel
theorem dX11_polyline_84 : decode cX11_polyline 84 = .ok (.aload_n 0, 1) := by decide +kernel
theorem dX11_polyline_85 : decode cX11_polyline 85 = .ok (.getfield 54, 3) := by decide +kernel
theorem dX11_polyline_88 : decode cX11_polyline 88 = .ok (.aload 6, 2) := by decide +kernel
theorem dX11_polyline_90 : decode cX11_polyline 90 = .ok (.iload_n 2, 1) := by decide +kernel
theorem dX11_polyline_91 : decode cX11_polyline 91 = .ok (.iload_n 3, 1) := by decide +kernel
theorem dX11_polyline_92 : decode cX11_polyline 92 = .ok (.iload 4, 2) := by decide +kernel
theorem dX11_polyline_94 : decode cX11_polyline 94 = .ok (.invokevirtual 212, 3) := by decide +kernel
theorem dX11_polyline_97 : decode cX11_polyline 97 = .ok (.iload 5, 2) := by decide +kernel
theorem dX11_polyline_99 : decode cX11_polyline 99 = .ok (.iconst (-1), 1) := by decide +kernel
theorem dX11_polyline_100 : decode cX11_polyline 100 = .ok (.if_icmp .ne 13, 3) := by decide +kernel
theorem dX11_polyline_103 : decode cX11_polyline 103 = .ok (.aload_n 0, 1) := by decide +kernel
theorem dX11_polyline_104 : decode cX11_polyline 104 = .ok (.getfield 54, 3) := by decide +kernel
theorem dX11_polyline_107 : decode cX11_polyline 107 = .ok (.invokevirtual 216, 3) := by decide +kernel
theorem dX11_polyline_110 : decode cX11_polyline 110 = .ok (.goto 13, 3) := by decide +kernel
theorem dX11_polyline_113 : decode cX11_polyline 113 = .ok (.aload_n 0, 1) := by decide +kernel
theorem dX11_polyline_114 : decode cX11_polyline 114 = .ok (.getfield 54, 3) := by decide +kernel
theorem dX11_polyline_117 : decode cX11_polyline 117 = .ok (.iload_n 2, 1) := by decide +kernel
theorem dX11_polyline_118 : decode cX11_polyline 118 = .ok (.iload 5, 2) := by decide +kernel
theorem dX11_polyline_120 : decode cX11_polyline 120 = .ok (.invokevirtual 219, 3) := by decide +kernel
theorem dX11_polyline_123 : decode cX11_polyline 123 = .ok (.ireturn, 1) := by decide +kernel
theorem dX11_decimate_0 : decode cX11_decimate 0 = .ok (.aload_n 0, 1) := by decide +kernel
theorem dX11_decimate_1 : decode cX11_decimate 1 = .ok (.getfield 10, 3) := by decide +kernel
theorem dX11_decimate_4 : decode cX11_decimate 4 = .ok (.iload_n 1, 1) := by decide +kernel
theorem dX11_decimate_5 : decode cX11_decimate 5 = .ok (.invokevirtual 69, 3) := by decide +kernel
theorem dX11_decimate_8 : decode cX11_decimate 8 = .ok (.astore_n 3, 1) := by decide +kernel
theorem dX11_decimate_9 : decode cX11_decimate 9 = .ok (.aload_n 3, 1) := by decide +kernel
theorem dX11_decimate_10 : decode cX11_decimate 10 = .ok (.ifnonnull 6, 3) := by decide +kernel
theorem dX11_decimate_13 : decode cX11_decimate 13 = .ok (.ldc 73, 2) := by decide +kernel
theorem dX11_decimate_15 : decode cX11_decimate 15 = .ok (.ireturn, 1) := by decide +kernel
theorem dX11_decimate_16 : decode cX11_decimate 16 = .ok (.iload_n 2, 1) := by decide +kernel
theorem dX11_decimate_17 : decode cX11_decimate 17 = .ok (.iconst 0, 1) := by decide +kernel
theorem dX11_decimate_18 : decode cX11_decimate 18 = .ok (.sipush 9999, 3) := by decide +kernel
theorem dX11_decimate_21 : decode cX11_decimate 21 = .ok (.invokestatic 74, 3) := by decide +kernel
theorem dX11_decimate_24 : decode cX11_decimate 24 = .ok (.ifCond .ne 6, 3) := by decide +kernel
theorem dX11_decimate_27 : decode cX11_decimate 27 = .ok (.ldc 78, 2) := by decide +kernel
theorem dX11_decimate_29 : decode cX11_decimate 29 = .ok (.ireturn, 1) := by decide +kernel
theorem dX11_decimate_30 : decode cX11_decimate 30 = .ok (.aload_n 0, 1) := by decide +kernel
theorem dX11_decimate_31 : decode cX11_decimate 31 = .ok (.getfield 19, 3) := by decide +kernel
theorem dX11_decimate_34 : decode cX11_decimate 34 = .ok (.aload_n 0, 1) := by decide +kernel
theorem dX11_decimate_35 : decode cX11_decimate 35 = .ok (.getfield 10, 3) := by decide +kernel
theorem dX11_decimate_38 : decode cX11_decimate 38 = .ok (.invokevirtual 90, 3) := by decide +kernel
theorem dX11_decimate_41 : decode cX11_decimate 41 = .ok (.aload_n 0, 1) := by decide +kernel
theorem dX11_decimate_42 : decode cX11_decimate 42 = .ok (.getfield 61, 3) := by decide +kernel
theorem dX11_decimate_45 : decode cX11_decimate 45 = .ok (.aload_n 3, 1) := by decide +kernel
theorem dX11_decimate_46 : decode cX11_decimate 46 = .ok (.iload_n 2, 1) := by decide +kernel
theorem dX11_decimate_47 : decode cX11_decimate 47 = .ok (.invokevirtual 222, 3) := by decide +kernel
theorem dX11_decimate_50 : decode cX11_decimate 50 = .ok (.ireturn, 1) := by decide +kernel
theorem dX11_append_0 : decode cX11_append 0 = .ok (.iload_n 1, 1) := by decide +kernel
theorem dX11_append_1 : decode cX11_append 1 = .ok (.iconst 0, 1) := by decide +kernel
theorem dX11_append_2 : decode cX11_append 2 = .ok (.bipush 127, 2) := by decide +kernel
theorem dX11_append_4 : decode cX11_append 4 = .ok (.invokestatic 74, 3) := by decide +kernel
theorem dX11_append_7 : decode cX11_append 7 = .ok (.ifCond .ne 6, 3) := by decide +kernel
theorem dX11_append_10 : decode cX11_append 10 = .ok (.ldc 78, 2) := by decide +kernel
theorem dX11_append_12 : decode cX11_append 12 = .ok (.ireturn, 1) := by decide +kernel
theorem dX11_append_13 : decode cX11_append 13 = .ok (.aload_n 0, 1) := by decide +kernel
theorem dX11_append_14 : decode cX11_append 14 = .ok (.getfield 26, 3) := by decide +kernel
theorem dX11_append_17 : decode cX11_append 17 = .ok (.getfield 226, 3) := by decide +kernel
theorem dX11_append_20 : decode cX11_append 20 = .ok (.bipush 120, 2) := by decide +kernel
theorem dX11_append_22 : decode cX11_append 22 = .ok (.if_icmp .lt 8, 3) := by decide +kernel
theorem dX11_append_25 : decode cX11_append 25 = .ok (.ldc 89, 2) := by decide +kernel
theorem dX11_append_27 : decode cX11_append 27 = .ok (.goto 11, 3) := by decide +kernel
theorem dX11_append_30 : decode cX11_append 30 = .ok (.aload_n 0, 1) := by decide +kernel
theorem dX11_append_31 : decode cX11_append 31 = .ok (.getfield 26, 3) := by decide +kernel
theorem dX11_append_34 : decode cX11_append 34 = .ok (.iload_n 1, 1) := by decide +kernel
theorem dX11_append_35 : decode cX11_append 35 = .ok (.invokevirtual 229, 3) := by decide +kernel
theorem dX11_append_38 : decode cX11_append 38 = .ok (.ireturn, 1) := by decide +kernel
theorem dX11_clearText_0 : decode cX11_clearText 0 = .ok (.aload_n 0, 1) := by decide +kernel
theorem dX11_clearText_1 : decode cX11_clearText 1 = .ok (.getfield 26, 3) := by decide +kernel
theorem dX11_clearText_4 : decode cX11_clearText 4 = .ok (.getfield 226, 3) := by decide +kernel
theorem dX11_clearText_7 : decode cX11_clearText 7 = .ok (.istore_n 1, 1) := by decide +kernel
theorem dX11_clearText_8 : decode cX11_clearText 8 = .ok (.aload_n 0, 1) := by decide +kernel
theorem dX11_clearText_9 : decode cX11_clearText 9 = .ok (.getfield 26, 3) := by decide +kernel
theorem dX11_clearText_12 : decode cX11_clearText 12 = .ok (.iconst 0, 1) := by decide +kernel
theorem dX11_clearText_13 : decode cX11_clearText 13 = .ok (.putfield 226, 3) := by decide +kernel
theorem dX11_clearText_16 : decode cX11_clearText 16 = .ok (.iload_n 1, 1) := by decide +kernel
theorem dX11_clearText_17 : decode cX11_clearText 17 = .ok (.ireturn, 1) := by decide +kernel
theorem dX11_faultPosition_0 : decode cX11_faultPosition 0 = .ok (.iload_n 1, 1) := by decide +kernel
theorem dX11_faultPosition_1 : decode cX11_faultPosition 1 = .ok (.ifCond .eq 17, 3) := by decide +kernel
theorem dX11_faultPosition_4 : decode cX11_faultPosition 4 = .ok (.aload_n 0, 1) := by decide +kernel
theorem dX11_faultPosition_5 : decode cX11_faultPosition 5 = .ok (.getfield 33, 3) := by decide +kernel
theorem dX11_faultPosition_8 : decode cX11_faultPosition 8 = .ok (.aload_n 0, 1) := by decide +kernel
theorem dX11_faultPosition_9 : decode cX11_faultPosition 9 = .ok (.getfield 26, 3) := by decide +kernel
theorem dX11_faultPosition_12 : decode cX11_faultPosition 12 = .ok (.invokevirtual 231, 3) := by decide +kernel
theorem dX11_faultPosition_15 : decode cX11_faultPosition 15 = .ok (.goto 14, 3) := by decide +kernel
theorem dX11_faultPosition_18 : decode cX11_faultPosition 18 = .ok (.aload_n 0, 1) := by decide +kernel
theorem dX11_faultPosition_19 : decode cX11_faultPosition 19 = .ok (.getfield 40, 3) := by decide +kernel
theorem dX11_faultPosition_22 : decode cX11_faultPosition 22 = .ok (.aload_n 0, 1) := by decide +kernel
theorem dX11_faultPosition_23 : decode cX11_faultPosition 23 = .ok (.getfield 26, 3) := by decide +kernel
theorem dX11_faultPosition_26 : decode cX11_faultPosition 26 = .ok (.invokevirtual 235, 3) := by decide +kernel
theorem dX11_faultPosition_29 : decode cX11_faultPosition 29 = .ok (.ireturn, 1) := by decide +kernel
theorem dX11_readCurve_0 : decode cX11_readCurve 0 = .ok (.aload_n 0, 1) := by decide +kernel
theorem dX11_readCurve_1 : decode cX11_readCurve 1 = .ok (.getfield 10, 3) := by decide +kernel
theorem dX11_readCurve_4 : decode cX11_readCurve 4 = .ok (.iload_n 1, 1) := by decide +kernel
theorem dX11_readCurve_5 : decode cX11_readCurve 5 = .ok (.invokevirtual 69, 3) := by decide +kernel
theorem dX11_readCurve_8 : decode cX11_readCurve 8 = .ok (.astore_n 2, 1) := by decide +kernel
theorem dX11_readCurve_9 : decode cX11_readCurve 9 = .ok (.aload_n 2, 1) := by decide +kernel
theorem dX11_readCurve_10 : decode cX11_readCurve 10 = .ok (.ifnonnull 6, 3) := by decide +kernel
theorem dX11_readCurve_13 : decode cX11_readCurve 13 = .ok (.ldc 73, 2) := by decide +kernel
theorem dX11_readCurve_15 : decode cX11_readCurve 15 = .ok (.ireturn, 1) := by decide +kernel
theorem dX11_readCurve_16 : decode cX11_readCurve 16 = .ok (.aload_n 0, 1) := by decide +kernel
theorem dX11_readCurve_17 : decode cX11_readCurve 17 = .ok (.getfield 40, 3) := by decide +kernel
theorem dX11_readCurve_20 : decode cX11_readCurve 20 = .ok (.aload_n 0, 1) := by decide +kernel
theorem dX11_readCurve_21 : decode cX11_readCurve 21 = .ok (.getfield 26, 3) := by decide +kernel
theorem dX11_readCurve_24 : decode cX11_readCurve 24 = .ok (.invokevirtual 235, 3) := by decide +kernel
theorem dX11_readCurve_27 : decode cX11_readCurve 27 = .ok (.ldc 158, 2) := by decide +kernel
theorem dX11_readCurve_29 : decode cX11_readCurve 29 = .ok (.if_icmp .eq 6, 3) := by decide +kernel
theorem dX11_readCurve_32 : decode cX11_readCurve 32 = .ok (.ldc 78, 2) := by decide +kernel
theorem dX11_readCurve_34 : decode cX11_readCurve 34 = .ok (.ireturn, 1) := by decide +kernel
theorem dX11_readCurve_35 : decode cX11_readCurve 35 = .ok (.aload_n 0, 1) := by decide +kernel
theorem dX11_readCurve_36 : decode cX11_readCurve 36 = .ok (.getfield 19, 3) := by decide +kernel
theorem dX11_readCurve_39 : decode cX11_readCurve 39 = .ok (.aload_n 0, 1) := by decide +kernel
theorem dX11_readCurve_40 : decode cX11_readCurve 40 = .ok (.getfield 10, 3) := by decide +kernel
theorem dX11_readCurve_43 : decode cX11_readCurve 43 = .ok (.invokevirtual 90, 3) := by decide +kernel
theorem dX11_readCurve_46 : decode cX11_readCurve 46 = .ok (.aload_n 2, 1) := by decide +kernel
theorem dX11_readCurve_47 : decode cX11_readCurve 47 = .ok (.aload_n 0, 1) := by decide +kernel
theorem dX11_readCurve_48 : decode cX11_readCurve 48 = .ok (.getfield 40, 3) := by decide +kernel
theorem dX11_readCurve_51 : decode cX11_readCurve 51 = .ok (.getfield 236, 3) := by decide +kernel
theorem dX11_readCurve_54 : decode cX11_readCurve 54 = .ok (.invokevirtual 240, 3) := by decide +kernel
theorem dX11_readCurve_57 : decode cX11_readCurve 57 = .ok (.aload_n 2, 1) := by decide +kernel
theorem dX11_readCurve_58 : decode cX11_readCurve 58 = .ok (.getfield 85, 3) := by decide +kernel
theorem dX11_readCurve_61 : decode cX11_readCurve 61 = .ok (.ireturn, 1) := by decide +kernel
theorem dX11_readFormula_0 : decode cX11_readFormula 0 = .ok (.aload_n 0, 1) := by decide +kernel
theorem dX11_readFormula_1 : decode cX11_readFormula 1 = .ok (.getfield 33, 3) := by decide +kernel
theorem dX11_readFormula_4 : decode cX11_readFormula 4 = .ok (.aload_n 0, 1) := by decide +kernel
theorem dX11_readFormula_5 : decode cX11_readFormula 5 = .ok (.getfield 26, 3) := by decide +kernel
theorem dX11_readFormula_8 : decode cX11_readFormula 8 = .ok (.invokevirtual 231, 3) := by decide +kernel
theorem dX11_readFormula_11 : decode cX11_readFormula 11 = .ok (.ldc 158, 2) := by decide +kernel
theorem dX11_readFormula_13 : decode cX11_readFormula 13 = .ok (.if_icmp .eq 6, 3) := by decide +kernel
theorem dX11_readFormula_16 : decode cX11_readFormula 16 = .ok (.ldc 78, 2) := by decide +kernel
theorem dX11_readFormula_18 : decode cX11_readFormula 18 = .ok (.ireturn, 1) := by decide +kernel
theorem dX11_readFormula_19 : decode cX11_readFormula 19 = .ok (.aload_n 0, 1) := by decide +kernel
theorem dX11_readFormula_20 : decode cX11_readFormula 20 = .ok (.getfield 19, 3) := by decide +kernel
theorem dX11_readFormula_23 : decode cX11_readFormula 23 = .ok (.aload_n 0, 1) := by decide +kernel
theorem dX11_readFormula_24 : decode cX11_readFormula 24 = .ok (.getfield 10, 3) := by decide +kernel
theorem dX11_readFormula_27 : decode cX11_readFormula 27 = .ok (.invokevirtual 90, 3) := by decide +kernel
theorem dX11_readFormula_30 : decode cX11_readFormula 30 = .ok (.aload_n 0, 1) := by decide +kernel
theorem dX11_readFormula_31 : decode cX11_readFormula 31 = .ok (.getfield 10, 3) := by decide +kernel
theorem dX11_readFormula_34 : decode cX11_readFormula 34 = .ok (.getfield 244, 3) := by decide +kernel
theorem dX11_readFormula_37 : decode cX11_readFormula 37 = .ok (.aload_n 0, 1) := by decide +kernel
theorem dX11_readFormula_38 : decode cX11_readFormula 38 = .ok (.getfield 33, 3) := by decide +kernel
theorem dX11_readFormula_41 : decode cX11_readFormula 41 = .ok (.getfield 248, 3) := by decide +kernel
theorem dX11_readFormula_44 : decode cX11_readFormula 44 = .ok (.invokevirtual 250, 3) := by decide +kernel
theorem dX11_readFormula_47 : decode cX11_readFormula 47 = .ok (.aload_n 0, 1) := by decide +kernel
theorem dX11_readFormula_48 : decode cX11_readFormula 48 = .ok (.getfield 10, 3) := by decide +kernel
theorem dX11_readFormula_51 : decode cX11_readFormula 51 = .ok (.getfield 244, 3) := by decide +kernel
theorem dX11_readFormula_54 : decode cX11_readFormula 54 = .ok (.invokevirtual 256, 3) := by decide +kernel
theorem dX11_readFormula_57 : decode cX11_readFormula 57 = .ok (.ireturn, 1) := by decide +kernel
theorem dX11_mix_0 : decode cX11_mix 0 = .ok (.iload_n 1, 1) := by decide +kernel
theorem dX11_mix_1 : decode cX11_mix 1 = .ok (.iconst 0, 1) := by decide +kernel
theorem dX11_mix_2 : decode cX11_mix 2 = .ok (.sipush 960, 3) := by decide +kernel
theorem dX11_mix_5 : decode cX11_mix 5 = .ok (.invokestatic 74, 3) := by decide +kernel
theorem dX11_mix_8 : decode cX11_mix 8 = .ok (.ifCond .eq 18, 3) := by decide +kernel
theorem dX11_mix_11 : decode cX11_mix 11 = .ok (.aload_n 0, 1) := by decide +kernel
theorem dX11_mix_12 : decode cX11_mix 12 = .ok (.getfield 47, 3) := by decide +kernel
theorem dX11_mix_15 : decode cX11_mix 15 = .ok (.aload_n 0, 1) := by decide +kernel
theorem dX11_mix_16 : decode cX11_mix 16 = .ok (.getfield 10, 3) := by decide +kernel
theorem dX11_mix_19 : decode cX11_mix 19 = .ok (.iload_n 1, 1) := by decide +kernel
theorem dX11_mix_20 : decode cX11_mix 20 = .ok (.invokevirtual 203, 3) := by decide +kernel
theorem dX11_mix_23 : decode cX11_mix 23 = .ok (.goto 5, 3) := by decide +kernel
theorem dX11_mix_26 : decode cX11_mix 26 = .ok (.ldc 78, 2) := by decide +kernel
theorem dX11_mix_28 : decode cX11_mix 28 = .ok (.ireturn, 1) := by decide +kernel
theorem dX11_undo_0 : decode cX11_undo 0 = .ok (.aload_n 0, 1) := by decide +kernel
theorem dX11_undo_1 : decode cX11_undo 1 = .ok (.getfield 19, 3) := by decide +kernel
theorem dX11_undo_4 : decode cX11_undo 4 = .ok (.aload_n 0, 1) := by decide +kernel
theorem dX11_undo_5 : decode cX11_undo 5 = .ok (.getfield 10, 3) := by decide +kernel
theorem dX11_undo_8 : decode cX11_undo 8 = .ok (.invokevirtual 259, 3) := by decide +kernel
theorem dX11_undo_11 : decode cX11_undo 11 = .ok (.ireturn, 1) := by decide +kernel
theorem dX11_checksum_0 : decode cX11_checksum 0 = .ok (.ldc2_w 263, 3) := by decide +kernel
theorem dX11_checksum_3 : decode cX11_checksum 3 = .ok (.lstore_n 1, 1) := by decide +kernel
theorem dX11_checksum_4 : decode cX11_checksum 4 = .ok (.iconst 0, 1) := by decide +kernel
theorem dX11_checksum_5 : decode cX11_checksum 5 = .ok (.istore_n 3, 1) := by decide +kernel
theorem dX11_checksum_6 : decode cX11_checksum 6 = .ok (.iload_n 3, 1) := by decide +kernel
theorem dX11_checksum_7 : decode cX11_checksum 7 = .ok (.iconst 4, 1) := by decide +kernel
theorem dX11_checksum_8 : decode cX11_checksum 8 = .ok (.if_icmp .ge 31, 3) := by decide +kernel
theorem dX11_checksum_11 : decode cX11_checksum 11 = .ok (.aload_n 0, 1) := by decide +kernel
theorem dX11_checksum_12 : decode cX11_checksum 12 = .ok (.getfield 10, 3) := by decide +kernel
theorem dX11_checksum_15 : decode cX11_checksum 15 = .ok (.iload_n 3, 1) := by decide +kernel
theorem dX11_checksum_16 : decode cX11_checksum 16 = .ok (.invokevirtual 69, 3) := by decide +kernel
theorem dX11_checksum_19 : decode cX11_checksum 19 = .ok (.astore 4, 2) := by decide +kernel
theorem dX11_checksum_21 : decode cX11_checksum 21 = .ok (.aload 4, 2) := by decide +kernel
theorem dX11_checksum_23 : decode cX11_checksum 23 = .ok (.ifnull 10, 3) := by decide +kernel
theorem dX11_checksum_26 : decode cX11_checksum 26 = .ok (.aload 4, 2) := by decide +kernel
theorem dX11_checksum_28 : decode cX11_checksum 28 = .ok (.lload_n 1, 1) := by decide +kernel
theorem dX11_checksum_29 : decode cX11_checksum 29 = .ok (.invokevirtual 265, 3) := by decide +kernel
theorem dX11_checksum_32 : decode cX11_checksum 32 = .ok (.lstore_n 1, 1) := by decide +kernel
theorem dX11_checksum_33 : decode cX11_checksum 33 = .ok (.iinc 3 1, 3) := by decide +kernel
theorem dX11_checksum_36 : decode cX11_checksum 36 = .ok (.goto (-30), 3) := by decide +kernel
theorem dX11_checksum_39 : decode cX11_checksum 39 = .ok (.aload_n 0, 1) := by decide +kernel
theorem dX11_checksum_40 : decode cX11_checksum 40 = .ok (.getfield 10, 3) := by decide +kernel
theorem dX11_checksum_43 : decode cX11_checksum 43 = .ok (.getfield 168, 3) := by decide +kernel
theorem dX11_checksum_46 : decode cX11_checksum 46 = .ok (.lload_n 1, 1) := by decide +kernel
theorem dX11_checksum_47 : decode cX11_checksum 47 = .ok (.invokevirtual 269, 3) := by decide +kernel
theorem dX11_checksum_50 : decode cX11_checksum 50 = .ok (.lstore_n 1, 1) := by decide +kernel
theorem dX11_checksum_51 : decode cX11_checksum 51 = .ok (.iconst 0, 1) := by decide +kernel
theorem dX11_checksum_52 : decode cX11_checksum 52 = .ok (.istore_n 3, 1) := by decide +kernel
theorem dX11_checksum_53 : decode cX11_checksum 53 = .ok (.iload_n 3, 1) := by decide +kernel
theorem dX11_checksum_54 : decode cX11_checksum 54 = .ok (.sipush 960, 3) := by decide +kernel
theorem dX11_checksum_57 : decode cX11_checksum 57 = .ok (.if_icmp .gt 29, 3) := by decide +kernel
theorem dX11_checksum_60 : decode cX11_checksum 60 = .ok (.ldc2_w 270, 3) := by decide +kernel
theorem dX11_checksum_63 : decode cX11_checksum 63 = .ok (.lload_n 1, 1) := by decide +kernel
theorem dX11_checksum_64 : decode cX11_checksum 64 = .ok (.lmul, 1) := by decide +kernel
theorem dX11_checksum_65 : decode cX11_checksum 65 = .ok (.aload_n 0, 1) := by decide +kernel
theorem dX11_checksum_66 : decode cX11_checksum 66 = .ok (.getfield 47, 3) := by decide +kernel
theorem dX11_checksum_69 : decode cX11_checksum 69 = .ok (.aload_n 0, 1) := by decide +kernel
theorem dX11_checksum_70 : decode cX11_checksum 70 = .ok (.getfield 10, 3) := by decide +kernel
theorem dX11_checksum_73 : decode cX11_checksum 73 = .ok (.iload_n 3, 1) := by decide +kernel
theorem dX11_checksum_74 : decode cX11_checksum 74 = .ok (.invokevirtual 203, 3) := by decide +kernel
theorem dX11_checksum_77 : decode cX11_checksum 77 = .ok (.i2l, 1) := by decide +kernel
theorem dX11_checksum_78 : decode cX11_checksum 78 = .ok (.ladd, 1) := by decide +kernel
theorem dX11_checksum_79 : decode cX11_checksum 79 = .ok (.lstore_n 1, 1) := by decide +kernel
theorem dX11_checksum_80 : decode cX11_checksum 80 = .ok (.iinc 3 60, 3) := by decide +kernel
theorem dX11_checksum_83 : decode cX11_checksum 83 = .ok (.goto (-30), 3) := by decide +kernel
theorem dX11_checksum_86 : decode cX11_checksum 86 = .ok (.lload_n 1, 1) := by decide +kernel
theorem dX11_checksum_87 : decode cX11_checksum 87 = .ok (.lreturn, 1) := by decide +kernel
theorem dX11_within_0 : decode cX11_within 0 = .ok (.iload_n 0, 1) := by decide +kernel
theorem dX11_within_1 : decode cX11_within 1 = .ok (.iload_n 1, 1) := by decide +kernel
theorem dX11_within_2 : decode cX11_within 2 = .ok (.if_icmp .lt 12, 3) := by decide +kernel
theorem dX11_within_5 : decode cX11_within 5 = .ok (.iload_n 0, 1) := by decide +kernel
theorem dX11_within_6 : decode cX11_within 6 = .ok (.iload_n 2, 1) := by decide +kernel
theorem dX11_within_7 : decode cX11_within 7 = .ok (.if_icmp .gt 7, 3) := by decide +kernel
theorem dX11_within_10 : decode cX11_within 10 = .ok (.iconst 1, 1) := by decide +kernel
theorem dX11_within_11 : decode cX11_within 11 = .ok (.goto 4, 3) := by decide +kernel
theorem dX11_within_14 : decode cX11_within 14 = .ok (.iconst 0, 1) := by decide +kernel
theorem dX11_within_15 : decode cX11_within 15 = .ok (.ireturn, 1) := by decide +kernel
theorem dX11_isRange_0 : decode cX11_isRange 0 = .ok (.iload_n 0, 1) := by decide +kernel
theorem dX11_isRange_1 : decode cX11_isRange 1 = .ok (.ifCond .lt 17, 3) := by decide +kernel
theorem dX11_isRange_4 : decode cX11_isRange 4 = .ok (.iload_n 0, 1) := by decide +kernel
theorem dX11_isRange_5 : decode cX11_isRange 5 = .ok (.iload_n 1, 1) := by decide +kernel
theorem dX11_isRange_6 : decode cX11_isRange 6 = .ok (.if_icmp .gt 12, 3) := by decide +kernel
theorem dX11_isRange_9 : decode cX11_isRange 9 = .ok (.iload_n 1, 1) := by decide +kernel
theorem dX11_isRange_10 : decode cX11_isRange 10 = .ok (.iload_n 2, 1) := by decide +kernel
theorem dX11_isRange_11 : decode cX11_isRange 11 = .ok (.if_icmp .gt 7, 3) := by decide +kernel
theorem dX11_isRange_14 : decode cX11_isRange 14 = .ok (.iconst 1, 1) := by decide +kernel
theorem dX11_isRange_15 : decode cX11_isRange 15 = .ok (.goto 4, 3) := by decide +kernel
theorem dX11_isRange_18 : decode cX11_isRange 18 = .ok (.iconst 0, 1) := by decide +kernel
theorem dX11_isRange_19 : decode cX11_isRange 19 = .ok (.ireturn, 1) := by decide +kernel
theorem dX11_stepsIn_0 : decode cX11_stepsIn 0 = .ok (.iload_n 2, 1) := by decide +kernel
theorem dX11_stepsIn_1 : decode cX11_stepsIn 1 = .ok (.ifCond .le 13, 3) := by decide +kernel
theorem dX11_stepsIn_4 : decode cX11_stepsIn 4 = .ok (.iload_n 1, 1) := by decide +kernel
theorem dX11_stepsIn_5 : decode cX11_stepsIn 5 = .ok (.iload_n 0, 1) := by decide +kernel
theorem dX11_stepsIn_6 : decode cX11_stepsIn 6 = .ok (.isub, 1) := by decide +kernel
theorem dX11_stepsIn_7 : decode cX11_stepsIn 7 = .ok (.iload_n 2, 1) := by decide +kernel
theorem dX11_stepsIn_8 : decode cX11_stepsIn 8 = .ok (.idiv, 1) := by decide +kernel
theorem dX11_stepsIn_9 : decode cX11_stepsIn 9 = .ok (.iconst 1, 1) := by decide +kernel
theorem dX11_stepsIn_10 : decode cX11_stepsIn 10 = .ok (.iadd, 1) := by decide +kernel
theorem dX11_stepsIn_11 : decode cX11_stepsIn 11 = .ok (.goto 4, 3) := by decide +kernel
theorem dX11_stepsIn_14 : decode cX11_stepsIn 14 = .ok (.iconst 0, 1) := by decide +kernel
theorem dX11_stepsIn_15 : decode cX11_stepsIn 15 = .ok (.ireturn, 1) := by decide +kernel
theorem dX11_at_0 : decode cX11_at 0 = .ok (.iload_n 1, 1) := by decide +kernel
theorem dX11_at_1 : decode cX11_at 1 = .ok (.ifCond .lt 15, 3) := by decide +kernel
theorem dX11_at_4 : decode cX11_at 4 = .ok (.iload_n 1, 1) := by decide +kernel
theorem dX11_at_5 : decode cX11_at 5 = .ok (.aload_n 0, 1) := by decide +kernel
theorem dX11_at_6 : decode cX11_at 6 = .ok (.arraylength, 1) := by decide +kernel
theorem dX11_at_7 : decode cX11_at 7 = .ok (.if_icmp .ge 9, 3) := by decide +kernel
theorem dX11_at_10 : decode cX11_at 10 = .ok (.aload_n 0, 1) := by decide +kernel
theorem dX11_at_11 : decode cX11_at 11 = .ok (.iload_n 1, 1) := by decide +kernel
theorem dX11_at_12 : decode cX11_at 12 = .ok (.iaload, 1) := by decide +kernel
theorem dX11_at_13 : decode cX11_at 13 = .ok (.goto 4, 3) := by decide +kernel
theorem dX11_at_16 : decode cX11_at 16 = .ok (.iconst 0, 1) := by decide +kernel
theorem dX11_at_17 : decode cX11_at 17 = .ok (.ireturn, 1) := by decide +kernel
theorem dX11_put_0 : decode cX11_put 0 = .ok (.iload_n 1, 1) := by decide +kernel
theorem dX11_put_1 : decode cX11_put 1 = .ok (.ifCond .lt 13, 3) := by decide +kernel
theorem dX11_put_4 : decode cX11_put 4 = .ok (.iload_n 1, 1) := by decide +kernel
theorem dX11_put_5 : decode cX11_put 5 = .ok (.aload_n 0, 1) := by decide +kernel
theorem dX11_put_6 : decode cX11_put 6 = .ok (.arraylength, 1) := by decide +kernel
theorem dX11_put_7 : decode cX11_put 7 = .ok (.if_icmp .ge 7, 3) := by decide +kernel
theorem dX11_put_10 : decode cX11_put 10 = .ok (.aload_n 0, 1) := by decide +kernel
theorem dX11_put_11 : decode cX11_put 11 = .ok (.iload_n 1, 1) := by decide +kernel
theorem dX11_put_12 : decode cX11_put 12 = .ok (.iload_n 2, 1) := by decide +kernel
theorem dX11_put_13 : decode cX11_put 13 = .ok (.iastore, 1) := by decide +kernel
theorem dX11_put_14 : decode cX11_put 14 = .ok (.return_, 1) := by decide +kernel
theorem dX11_copyRow_0 : decode cX11_copyRow 0 = .ok (.aload_n 0, 1) := by decide +kernel
theorem dX11_copyRow_1 : decode cX11_copyRow 1 = .ok (.iconst 0, 1) := by decide +kernel
theorem dX11_copyRow_2 : decode cX11_copyRow 2 = .ok (.aload_n 1, 1) := by decide +kernel
theorem dX11_copyRow_3 : decode cX11_copyRow 3 = .ok (.iconst 0, 1) := by decide +kernel
theorem dX11_copyRow_4 : decode cX11_copyRow 4 = .ok (.aload_n 0, 1) := by decide +kernel
theorem dX11_copyRow_5 : decode cX11_copyRow 5 = .ok (.arraylength, 1) := by decide +kernel
theorem dX11_copyRow_6 : decode cX11_copyRow 6 = .ok (.aload_n 1, 1) := by decide +kernel
theorem dX11_copyRow_7 : decode cX11_copyRow 7 = .ok (.arraylength, 1) := by decide +kernel
theorem dX11_copyRow_8 : decode cX11_copyRow 8 = .ok (.invokestatic 207, 3) := by decide +kernel
theorem dX11_copyRow_11 : decode cX11_copyRow 11 = .ok (.invokestatic 272, 3) := by decide +kernel
theorem dX11_copyRow_14 : decode cX11_copyRow 14 = .ok (.return_, 1) := by decide +kernel
theorem dX11_round_0 : decode cX11_round 0 = .ok (.lload_n 2, 1) := by decide +kernel
theorem dX11_round_1 : decode cX11_round 1 = .ok (.lconst 0, 1) := by decide +kernel
theorem dX11_round_2 : decode cX11_round 2 = .ok (.lcmp, 1) := by decide +kernel
theorem dX11_round_3 : decode cX11_round 3 = .ok (.ifCond .le 21, 3) := by decide +kernel
theorem dX11_round_6 : decode cX11_round 6 = .ok (.ldc2_w 278, 3) := by decide +kernel
theorem dX11_round_9 : decode cX11_round 9 = .ok (.lload_n 0, 1) := by decide +kernel
theorem dX11_round_10 : decode cX11_round 10 = .ok (.lmul, 1) := by decide +kernel
theorem dX11_round_11 : decode cX11_round 11 = .ok (.lload_n 2, 1) := by decide +kernel
theorem dX11_round_12 : decode cX11_round 12 = .ok (.ladd, 1) := by decide +kernel
theorem dX11_round_13 : decode cX11_round 13 = .ok (.ldc2_w 278, 3) := by decide +kernel
theorem dX11_round_16 : decode cX11_round 16 = .ok (.lload_n 2, 1) := by decide +kernel
theorem dX11_round_17 : decode cX11_round 17 = .ok (.lmul, 1) := by decide +kernel
theorem dX11_round_18 : decode cX11_round 18 = .ok (.invokestatic 280, 3) := by decide +kernel
theorem dX11_round_21 : decode cX11_round 21 = .ok (.goto 4, 3) := by decide +kernel
theorem dX11_round_24 : decode cX11_round 24 = .ok (.lconst 0, 1) := by decide +kernel
theorem dX11_round_25 : decode cX11_round 25 = .ok (.lreturn, 1) := by decide +kernel
theorem dX11_limited_0 : decode cX11_limited 0 = .ok (.iload_n 2, 1) := by decide +kernel
theorem dX11_limited_1 : decode cX11_limited 1 = .ok (.ineg, 1) := by decide +kernel
theorem dX11_limited_2 : decode cX11_limited 2 = .ok (.i2l, 1) := by decide +kernel
theorem dX11_limited_3 : decode cX11_limited 3 = .ok (.iload_n 2, 1) := by decide +kernel
theorem dX11_limited_4 : decode cX11_limited 4 = .ok (.i2l, 1) := by decide +kernel
theorem dX11_limited_5 : decode cX11_limited 5 = .ok (.lload_n 0, 1) := by decide +kernel
theorem dX11_limited_6 : decode cX11_limited 6 = .ok (.invokestatic 284, 3) := by decide +kernel
theorem dX11_limited_9 : decode cX11_limited 9 = .ok (.invokestatic 286, 3) := by decide +kernel
theorem dX11_limited_12 : decode cX11_limited 12 = .ok (.l2i, 1) := by decide +kernel
theorem dX11_limited_13 : decode cX11_limited 13 = .ok (.ireturn, 1) := by decide +kernel
theorem dX11_nearestValue_0 : decode cX11_nearestValue 0 = .ok (.iload_n 0, 1) := by decide +kernel
theorem dX11_nearestValue_1 : decode cX11_nearestValue 1 = .ok (.i2l, 1) := by decide +kernel
theorem dX11_nearestValue_2 : decode cX11_nearestValue 2 = .ok (.ldc2_w 289, 3) := by decide +kernel
theorem dX11_nearestValue_5 : decode cX11_nearestValue 5 = .ok (.invokestatic 291, 3) := by decide +kernel
theorem dX11_nearestValue_8 : decode cX11_nearestValue 8 = .ok (.sipush 999, 3) := by decide +kernel
theorem dX11_nearestValue_11 : decode cX11_nearestValue 11 = .ok (.invokestatic 294, 3) := by decide +kernel
theorem dX11_nearestValue_14 : decode cX11_nearestValue 14 = .ok (.ireturn, 1) := by decide +kernel
theorem dX12_init_0 : decode cX12_init 0 = .ok (.aload_n 0, 1) := by decide +kernel
theorem dX12_init_1 : decode cX12_init 1 = .ok (.invokespecial 1, 3) := by decide +kernel
theorem dX12_init_4 : decode cX12_init 4 = .ok (.aload_n 0, 1) := by decide +kernel
theorem dX12_init_5 : decode cX12_init 5 = .ok (.sipush 660, 3) := by decide +kernel
theorem dX12_init_8 : decode cX12_init 8 = .ok (.newarray .int, 2) := by decide +kernel
theorem dX12_init_10 : decode cX12_init 10 = .ok (.putfield 7, 3) := by decide +kernel
theorem dX12_init_13 : decode cX12_init 13 = .ok (.aload_n 0, 1) := by decide +kernel
theorem dX12_init_14 : decode cX12_init 14 = .ok (.sipush 6600, 3) := by decide +kernel
theorem dX12_init_17 : decode cX12_init 17 = .ok (.newarray .int, 2) := by decide +kernel
theorem dX12_init_19 : decode cX12_init 19 = .ok (.putfield 13, 3) := by decide +kernel
theorem dX12_init_22 : decode cX12_init 22 = .ok (.aload_n 0, 1) := by decide +kernel
theorem dX12_init_23 : decode cX12_init 23 = .ok (.bipush 120, 2) := by decide +kernel
theorem dX12_init_25 : decode cX12_init 25 = .ok (.newarray .int, 2) := by decide +kernel
theorem dX12_init_27 : decode cX12_init 27 = .ok (.putfield 16, 3) := by decide +kernel
theorem dX12_init_30 : decode cX12_init 30 = .ok (.aload_n 0, 1) := by decide +kernel
theorem dX12_init_31 : decode cX12_init 31 = .ok (.sipush 481, 3) := by decide +kernel
theorem dX12_init_34 : decode cX12_init 34 = .ok (.newarray .int, 2) := by decide +kernel
theorem dX12_init_36 : decode cX12_init 36 = .ok (.putfield 19, 3) := by decide +kernel
theorem dX12_init_39 : decode cX12_init 39 = .ok (.aload_n 0, 1) := by decide +kernel
theorem dX12_init_40 : decode cX12_init 40 = .ok (.bipush 41, 2) := by decide +kernel
theorem dX12_init_42 : decode cX12_init 42 = .ok (.newarray .int, 2) := by decide +kernel
theorem dX12_init_44 : decode cX12_init 44 = .ok (.putfield 22, 3) := by decide +kernel
theorem dX12_init_47 : decode cX12_init 47 = .ok (.aload_n 0, 1) := by decide +kernel
theorem dX12_init_48 : decode cX12_init 48 = .ok (.bipush 41, 2) := by decide +kernel
theorem dX12_init_50 : decode cX12_init 50 = .ok (.newarray .int, 2) := by decide +kernel
theorem dX12_init_52 : decode cX12_init 52 = .ok (.putfield 25, 3) := by decide +kernel
theorem dX12_init_55 : decode cX12_init 55 = .ok (.aload_n 0, 1) := by decide +kernel
theorem dX12_init_56 : decode cX12_init 56 = .ok (.bipush 41, 2) := by decide +kernel
theorem dX12_init_58 : decode cX12_init 58 = .ok (.newarray .long, 2) := by decide +kernel
theorem dX12_init_60 : decode cX12_init 60 = .ok (.putfield 28, 3) := by decide +kernel
theorem dX12_init_63 : decode cX12_init 63 = .ok (.aload_n 0, 1) := by decide +kernel
theorem dX12_init_64 : decode cX12_init 64 = .ok (.bipush 41, 2) := by decide +kernel
theorem dX12_init_66 : decode cX12_init 66 = .ok (.newarray .int, 2) := by decide +kernel
theorem dX12_init_68 : decode cX12_init 68 = .ok (.putfield 32, 3) := by decide +kernel
theorem dX12_init_71 : decode cX12_init 71 = .ok (.aload_n 0, 1) := by decide +kernel
theorem dX12_init_72 : decode cX12_init 72 = .ok (.iconst 5, 1) := by decide +kernel
theorem dX12_init_73 : decode cX12_init 73 = .ok (.newarray .int, 2) := by decide +kernel
theorem dX12_init_75 : decode cX12_init 75 = .ok (.putfield 35, 3) := by decide +kernel
theorem dX12_init_78 : decode cX12_init 78 = .ok (.aload_n 0, 1) := by decide +kernel
theorem dX12_init_79 : decode cX12_init 79 = .ok (.bipush 10, 2) := by decide +kernel
theorem dX12_init_81 : decode cX12_init 81 = .ok (.newarray .int, 2) := by decide +kernel
theorem dX12_init_83 : decode cX12_init 83 = .ok (.putfield 38, 3) := by decide +kernel
theorem dX12_init_86 : decode cX12_init 86 = .ok (.aload_n 0, 1) := by decide +kernel
theorem dX12_init_87 : decode cX12_init 87 = .ok (.bipush 10, 2) := by decide +kernel
theorem dX12_init_89 : decode cX12_init 89 = .ok (.newarray .int, 2) := by decide +kernel
theorem dX12_init_91 : decode cX12_init 91 = .ok (.putfield 41, 3) := by decide +kernel
theorem dX12_init_94 : decode cX12_init 94 = .ok (.aload_n 0, 1) := by decide +kernel
theorem dX12_init_95 : decode cX12_init 95 = .ok (.bipush 10, 2) := by decide +kernel
theorem dX12_init_97 : decode cX12_init 97 = .ok (.newarray .int, 2) := by decide +kernel
theorem dX12_init_99 : decode cX12_init 99 = .ok (.putfield 44, 3) := by decide +kernel
theorem dX12_init_102 : decode cX12_init 102 = .ok (.aload_n 0, 1) := by decide +kernel
theorem dX12_init_103 : decode cX12_init 103 = .ok (.bipush 10, 2) := by decide +kernel
theorem dX12_init_105 : decode cX12_init 105 = .ok (.newarray .int, 2) := by decide +kernel
theorem dX12_init_107 : decode cX12_init 107 = .ok (.putfield 47, 3) := by decide +kernel
theorem dX12_init_110 : decode cX12_init 110 = .ok (.aload_n 0, 1) := by decide +kernel
theorem dX12_init_111 : decode cX12_init 111 = .ok (.bipush 10, 2) := by decide +kernel
theorem dX12_init_113 : decode cX12_init 113 = .ok (.newarray .boolean, 2) := by decide +kernel
theorem dX12_init_115 : decode cX12_init 115 = .ok (.putfield 50, 3) := by decide +kernel
theorem dX12_init_118 : decode cX12_init 118 = .ok (.aload_n 0, 1) := by decide +kernel
theorem dX12_init_119 : decode cX12_init 119 = .ok (.bipush 10, 2) := by decide +kernel
theorem dX12_init_121 : decode cX12_init 121 = .ok (.newarray .int, 2) := by decide +kernel
theorem dX12_init_123 : decode cX12_init 123 = .ok (.putfield 54, 3) := by decide +kernel
theorem dX12_init_126 : decode cX12_init 126 = .ok (.aload_n 0, 1) := by decide +kernel
theorem dX12_init_127 : decode cX12_init 127 = .ok (.bipush 75, 2) := by decide +kernel
theorem dX12_init_129 : decode cX12_init 129 = .ok (.newarray .int, 2) := by decide +kernel
theorem dX12_init_131 : decode cX12_init 131 = .ok (.putfield 57, 3) := by decide +kernel
theorem dX12_init_134 : decode cX12_init 134 = .ok (.aload_n 0, 1) := by decide +kernel
theorem dX12_init_135 : decode cX12_init 135 = .ok (.getfield 7, 3) := by decide +kernel
theorem dX12_init_138 : decode cX12_init 138 = .ok (.sipush 530, 3) := by decide +kernel
theorem dX12_init_141 : decode cX12_init 141 = .ok (.iconst 1, 1) := by decide +kernel
theorem dX12_init_142 : decode cX12_init 142 = .ok (.iastore, 1) := by decide +kernel
theorem dX12_init_143 : decode cX12_init 143 = .ok (.aload_n 0, 1) := by decide +kernel
theorem dX12_init_144 : decode cX12_init 144 = .ok (.getfield 7, 3) := by decide +kernel
theorem dX12_init_147 : decode cX12_init 147 = .ok (.sipush 531, 3) := by decide +kernel
theorem dX12_init_150 : decode cX12_init 150 = .ok (.bipush 48, 2) := by decide +kernel
theorem dX12_init_152 : decode cX12_init 152 = .ok (.iastore, 1) := by decide +kernel
theorem dX12_init_153 : decode cX12_init 153 = .ok (.return_, 1) := by decide +kernel
theorem dX12_in_0 : decode cX12_in 0 = .ok (.iload_n 0, 1) := by decide +kernel
theorem dX12_in_1 : decode cX12_in 1 = .ok (.iload_n 1, 1) := by decide +kernel
theorem dX12_in_2 : decode cX12_in 2 = .ok (.if_icmp .lt 12, 3) := by decide +kernel
theorem dX12_in_5 : decode cX12_in 5 = .ok (.iload_n 0, 1) := by decide +kernel
theorem dX12_in_6 : decode cX12_in 6 = .ok (.iload_n 2, 1) := by decide +kernel
theorem dX12_in_7 : decode cX12_in 7 = .ok (.if_icmp .gt 7, 3) := by decide +kernel
theorem dX12_in_10 : decode cX12_in 10 = .ok (.iconst 1, 1) := by decide +kernel
theorem dX12_in_11 : decode cX12_in 11 = .ok (.goto 4, 3) := by decide +kernel
theorem dX12_in_14 : decode cX12_in 14 = .ok (.iconst 0, 1) := by decide +kernel
theorem dX12_in_15 : decode cX12_in 15 = .ok (.ireturn, 1) := by decide +kernel
theorem dX12_most_0 : decode cX12_most 0 = .ok (.iload_n 0, 1) := by decide +kernel
theorem dX12_most_1 : decode cX12_most 1 = .ok (.iload_n 1, 1) := by decide +kernel
theorem dX12_most_2 : decode cX12_most 2 = .ok (.if_icmp .le 7, 3) := by decide +kernel
theorem dX12_most_5 : decode cX12_most 5 = .ok (.iload_n 0, 1) := by decide +kernel
theorem dX12_most_6 : decode cX12_most 6 = .ok (.goto 4, 3) := by decide +kernel
theorem dX12_most_9 : decode cX12_most 9 = .ok (.iload_n 1, 1) := by decide +kernel
theorem dX12_most_10 : decode cX12_most 10 = .ok (.ireturn, 1) := by decide +kernel
theorem dX12_least_0 : decode cX12_least 0 = .ok (.iload_n 0, 1) := by decide +kernel
theorem dX12_least_1 : decode cX12_least 1 = .ok (.iload_n 1, 1) := by decide +kernel
theorem dX12_least_2 : decode cX12_least 2 = .ok (.if_icmp .ge 7, 3) := by decide +kernel
theorem dX12_least_5 : decode cX12_least 5 = .ok (.iload_n 0, 1) := by decide +kernel
theorem dX12_least_6 : decode cX12_least 6 = .ok (.goto 4, 3) := by decide +kernel
theorem dX12_least_9 : decode cX12_least 9 = .ok (.iload_n 1, 1) := by decide +kernel
theorem dX12_least_10 : decode cX12_least 10 = .ok (.ireturn, 1) := by decide +kernel
theorem dX12_bound_0 : decode cX12_bound 0 = .ok (.lload_n 0, 1) := by decide +kernel
theorem dX12_bound_1 : decode cX12_bound 1 = .ok (.iload_n 2, 1) := by decide +kernel
theorem dX12_bound_2 : decode cX12_bound 2 = .ok (.i2l, 1) := by decide +kernel
theorem dX12_bound_3 : decode cX12_bound 3 = .ok (.lcmp, 1) := by decide +kernel
theorem dX12_bound_4 : decode cX12_bound 4 = .ok (.ifCond .le 7, 3) := by decide +kernel
theorem dX12_bound_7 : decode cX12_bound 7 = .ok (.iload_n 2, 1) := by decide +kernel
theorem dX12_bound_8 : decode cX12_bound 8 = .ok (.goto 18, 3) := by decide +kernel
theorem dX12_bound_11 : decode cX12_bound 11 = .ok (.lload_n 0, 1) := by decide +kernel
theorem dX12_bound_12 : decode cX12_bound 12 = .ok (.iload_n 2, 1) := by decide +kernel
theorem dX12_bound_13 : decode cX12_bound 13 = .ok (.ineg, 1) := by decide +kernel
theorem dX12_bound_14 : decode cX12_bound 14 = .ok (.i2l, 1) := by decide +kernel
theorem dX12_bound_15 : decode cX12_bound 15 = .ok (.lcmp, 1) := by decide +kernel
theorem dX12_bound_16 : decode cX12_bound 16 = .ok (.ifCond .ge 8, 3) := by decide +kernel
theorem dX12_bound_19 : decode cX12_bound 19 = .ok (.iload_n 2, 1) := by decide +kernel
theorem dX12_bound_20 : decode cX12_bound 20 = .ok (.ineg, 1) := by decide +kernel
theorem dX12_bound_21 : decode cX12_bound 21 = .ok (.goto 5, 3) := by decide +kernel
theorem dX12_bound_24 : decode cX12_bound 24 = .ok (.lload_n 0, 1) := by decide +kernel
theorem dX12_bound_25 : decode cX12_bound 25 = .ok (.l2i, 1) := by decide +kernel
theorem dX12_bound_26 : decode cX12_bound 26 = .ok (.ireturn, 1) := by decide +kernel
theorem dX12_size_0 : decode cX12_size 0 = .ok (.iload_n 0, 1) := by decide +kernel
theorem dX12_size_1 : decode cX12_size 1 = .ok (.ifCond .ge 8, 3) := by decide +kernel
theorem dX12_size_4 : decode cX12_size 4 = .ok (.iload_n 0, 1) := by decide +kernel
end
section
theorem dX12_size_5 : decode cX12_size 5 = .ok (.ineg, 1) := by decide +kernel
theorem dX12_size_6 : decode cX12_size 6 = .ok (.goto 4, 3) := by decide +kernel
theorem dX12_size_9 : decode cX12_size 9 = .ok (.iload_n 0, 1) := by decide +kernel
theorem dX12_size_10 : decode cX12_size 10 = .ok (.ireturn, 1) := by decide +kernel
theorem dX12_down_0 : decode cX12_down 0 = .ok (.lload_n 0, 1) := by decide +kernel
theorem dX12_down_1 : decode cX12_down 1 = .ok (.lload_n 2, 1) := by decide +kernel
theorem dX12_down_2 : decode cX12_down 2 = .ok (.ldiv, 1) := by decide +kernel
theorem dX12_down_3 : decode cX12_down 3 = .ok (.lstore 4, 2) := by decide +kernel
theorem dX12_down_5 : decode cX12_down 5 = .ok (.lload_n 0, 1) := by decide +kernel
theorem dX12_down_6 : decode cX12_down 6 = .ok (.lload_n 2, 1) := by decide +kernel
theorem dX12_down_7 : decode cX12_down 7 = .ok (.lrem, 1) := by decide +kernel
theorem dX12_down_8 : decode cX12_down 8 = .ok (.lconst 0, 1) := by decide +kernel
theorem dX12_down_9 : decode cX12_down 9 = .ok (.lcmp, 1) := by decide +kernel
theorem dX12_down_10 : decode cX12_down 10 = .ok (.ifCond .ge 10, 3) := by decide +kernel
theorem dX12_down_13 : decode cX12_down 13 = .ok (.lload 4, 2) := by decide +kernel
theorem dX12_down_15 : decode cX12_down 15 = .ok (.lconst 1, 1) := by decide +kernel
theorem dX12_down_16 : decode cX12_down 16 = .ok (.lsub, 1) := by decide +kernel
theorem dX12_down_17 : decode cX12_down 17 = .ok (.goto 5, 3) := by decide +kernel
theorem dX12_down_20 : decode cX12_down 20 = .ok (.lload 4, 2) := by decide +kernel
theorem dX12_down_22 : decode cX12_down 22 = .ok (.lreturn, 1) := by decide +kernel
theorem dX12_round_0 : decode cX12_round 0 = .ok (.ldc2_w 60, 3) := by decide +kernel
theorem dX12_round_3 : decode cX12_round 3 = .ok (.lload_n 0, 1) := by decide +kernel
theorem dX12_round_4 : decode cX12_round 4 = .ok (.lmul, 1) := by decide +kernel
theorem dX12_round_5 : decode cX12_round 5 = .ok (.lload_n 2, 1) := by decide +kernel
theorem dX12_round_6 : decode cX12_round 6 = .ok (.ladd, 1) := by decide +kernel
theorem dX12_round_7 : decode cX12_round 7 = .ok (.ldc2_w 60, 3) := by decide +kernel
theorem dX12_round_10 : decode cX12_round 10 = .ok (.lload_n 2, 1) := by decide +kernel
theorem dX12_round_11 : decode cX12_round 11 = .ok (.lmul, 1) := by decide +kernel
theorem dX12_round_12 : decode cX12_round 12 = .ok (.invokestatic 62, 3) := by decide +kernel
theorem dX12_round_15 : decode cX12_round 15 = .ok (.lreturn, 1) := by decide +kernel
theorem dX12_at_0 : decode cX12_at 0 = .ok (.sipush 128, 3) := by decide +kernel
theorem dX12_at_3 : decode cX12_at 3 = .ok (.iload_n 0, 1) := by decide +kernel
theorem dX12_at_4 : decode cX12_at 4 = .ok (.imul, 1) := by decide +kernel
theorem dX12_at_5 : decode cX12_at 5 = .ok (.iload_n 1, 1) := by decide +kernel
theorem dX12_at_6 : decode cX12_at 6 = .ok (.iadd, 1) := by decide +kernel
theorem dX12_at_7 : decode cX12_at 7 = .ok (.iload_n 2, 1) := by decide +kernel
theorem dX12_at_8 : decode cX12_at 8 = .ok (.iadd, 1) := by decide +kernel
theorem dX12_at_9 : decode cX12_at 9 = .ok (.ireturn, 1) := by decide +kernel
theorem dX12_isCurve_0 : decode cX12_isCurve 0 = .ok (.iload_n 0, 1) := by decide +kernel
theorem dX12_isCurve_1 : decode cX12_isCurve 1 = .ok (.iconst 0, 1) := by decide +kernel
theorem dX12_isCurve_2 : decode cX12_isCurve 2 = .ok (.iconst 3, 1) := by decide +kernel
theorem dX12_isCurve_3 : decode cX12_isCurve 3 = .ok (.invokestatic 66, 3) := by decide +kernel
theorem dX12_isCurve_6 : decode cX12_isCurve 6 = .ok (.ireturn, 1) := by decide +kernel
theorem dX12_many_0 : decode cX12_many 0 = .ok (.aload_n 0, 1) := by decide +kernel
theorem dX12_many_1 : decode cX12_many 1 = .ok (.getfield 7, 3) := by decide +kernel
theorem dX12_many_4 : decode cX12_many 4 = .ok (.iload_n 1, 1) := by decide +kernel
theorem dX12_many_5 : decode cX12_many 5 = .ok (.iconst 0, 1) := by decide +kernel
theorem dX12_many_6 : decode cX12_many 6 = .ok (.iconst 0, 1) := by decide +kernel
theorem dX12_many_7 : decode cX12_many 7 = .ok (.invokestatic 70, 3) := by decide +kernel
theorem dX12_many_10 : decode cX12_many 10 = .ok (.iaload, 1) := by decide +kernel
theorem dX12_many_11 : decode cX12_many 11 = .ok (.ireturn, 1) := by decide +kernel
theorem dX12_frame_0 : decode cX12_frame 0 = .ok (.aload_n 0, 1) := by decide +kernel
theorem dX12_frame_1 : decode cX12_frame 1 = .ok (.getfield 7, 3) := by decide +kernel
theorem dX12_frame_4 : decode cX12_frame 4 = .ok (.iload_n 1, 1) := by decide +kernel
theorem dX12_frame_5 : decode cX12_frame 5 = .ok (.iconst 4, 1) := by decide +kernel
theorem dX12_frame_6 : decode cX12_frame 6 = .ok (.iload_n 2, 1) := by decide +kernel
theorem dX12_frame_7 : decode cX12_frame 7 = .ok (.invokestatic 70, 3) := by decide +kernel
theorem dX12_frame_10 : decode cX12_frame 10 = .ok (.iaload, 1) := by decide +kernel
theorem dX12_frame_11 : decode cX12_frame 11 = .ok (.ireturn, 1) := by decide +kernel
theorem dX12_isKey_0 : decode cX12_isKey 0 = .ok (.iload_n 1, 1) := by decide +kernel
theorem dX12_isKey_1 : decode cX12_isKey 1 = .ok (.invokestatic 74, 3) := by decide +kernel
theorem dX12_isKey_4 : decode cX12_isKey 4 = .ok (.ifCond .eq 22, 3) := by decide +kernel
theorem dX12_isKey_7 : decode cX12_isKey 7 = .ok (.iload_n 2, 1) := by decide +kernel
theorem dX12_isKey_8 : decode cX12_isKey 8 = .ok (.iconst 0, 1) := by decide +kernel
theorem dX12_isKey_9 : decode cX12_isKey 9 = .ok (.aload_n 0, 1) := by decide +kernel
theorem dX12_isKey_10 : decode cX12_isKey 10 = .ok (.iload_n 1, 1) := by decide +kernel
theorem dX12_isKey_11 : decode cX12_isKey 11 = .ok (.invokevirtual 78, 3) := by decide +kernel
theorem dX12_isKey_14 : decode cX12_isKey 14 = .ok (.iconst 1, 1) := by decide +kernel
theorem dX12_isKey_15 : decode cX12_isKey 15 = .ok (.isub, 1) := by decide +kernel
theorem dX12_isKey_16 : decode cX12_isKey 16 = .ok (.invokestatic 66, 3) := by decide +kernel
theorem dX12_isKey_19 : decode cX12_isKey 19 = .ok (.ifCond .eq 7, 3) := by decide +kernel
theorem dX12_isKey_22 : decode cX12_isKey 22 = .ok (.iconst 1, 1) := by decide +kernel
theorem dX12_isKey_23 : decode cX12_isKey 23 = .ok (.goto 4, 3) := by decide +kernel
theorem dX12_isKey_26 : decode cX12_isKey 26 = .ok (.iconst 0, 1) := by decide +kernel
theorem dX12_isKey_27 : decode cX12_isKey 27 = .ok (.ireturn, 1) := by decide +kernel
theorem dX12_find_0 : decode cX12_find 0 = .ok (.iconst 0, 1) := by decide +kernel
theorem dX12_find_1 : decode cX12_find 1 = .ok (.istore_n 3, 1) := by decide +kernel
theorem dX12_find_2 : decode cX12_find 2 = .ok (.iload_n 3, 1) := by decide +kernel
theorem dX12_find_3 : decode cX12_find 3 = .ok (.aload_n 0, 1) := by decide +kernel
theorem dX12_find_4 : decode cX12_find 4 = .ok (.iload_n 1, 1) := by decide +kernel
theorem dX12_find_5 : decode cX12_find 5 = .ok (.invokevirtual 78, 3) := by decide +kernel
theorem dX12_find_8 : decode cX12_find 8 = .ok (.if_icmp .ge 21, 3) := by decide +kernel
theorem dX12_find_11 : decode cX12_find 11 = .ok (.aload_n 0, 1) := by decide +kernel
theorem dX12_find_12 : decode cX12_find 12 = .ok (.iload_n 1, 1) := by decide +kernel
theorem dX12_find_13 : decode cX12_find 13 = .ok (.iload_n 3, 1) := by decide +kernel
theorem dX12_find_14 : decode cX12_find 14 = .ok (.invokevirtual 82, 3) := by decide +kernel
theorem dX12_find_17 : decode cX12_find 17 = .ok (.iload_n 2, 1) := by decide +kernel
theorem dX12_find_18 : decode cX12_find 18 = .ok (.if_icmp .ne 5, 3) := by decide +kernel
theorem dX12_find_21 : decode cX12_find 21 = .ok (.iload_n 3, 1) := by decide +kernel
theorem dX12_find_22 : decode cX12_find 22 = .ok (.ireturn, 1) := by decide +kernel
theorem dX12_find_23 : decode cX12_find 23 = .ok (.iinc 3 1, 3) := by decide +kernel
theorem dX12_find_26 : decode cX12_find 26 = .ok (.goto (-24), 3) := by decide +kernel
theorem dX12_find_29 : decode cX12_find 29 = .ok (.iconst (-1), 1) := by decide +kernel
theorem dX12_find_30 : decode cX12_find 30 = .ok (.ireturn, 1) := by decide +kernel
theorem dX12_changes_0 : decode cX12_changes 0 = .ok (.aload_n 0, 1) := by decide +kernel
theorem dX12_changes_1 : decode cX12_changes 1 = .ok (.getfield 86, 3) := by decide +kernel
theorem dX12_changes_4 : decode cX12_changes 4 = .ok (.bipush 10, 2) := by decide +kernel
theorem dX12_changes_6 : decode cX12_changes 6 = .ok (.if_icmp .ne 40, 3) := by decide +kernel
theorem dX12_changes_9 : decode cX12_changes 9 = .ok (.iconst 0, 1) := by decide +kernel
theorem dX12_changes_10 : decode cX12_changes 10 = .ok (.istore_n 1, 1) := by decide +kernel
theorem dX12_changes_11 : decode cX12_changes 11 = .ok (.iload_n 1, 1) := by decide +kernel
theorem dX12_changes_12 : decode cX12_changes 12 = .ok (.sipush 5940, 3) := by decide +kernel
theorem dX12_changes_15 : decode cX12_changes 15 = .ok (.if_icmp .ge 25, 3) := by decide +kernel
theorem dX12_changes_18 : decode cX12_changes 18 = .ok (.aload_n 0, 1) := by decide +kernel
theorem dX12_changes_19 : decode cX12_changes 19 = .ok (.getfield 13, 3) := by decide +kernel
theorem dX12_changes_22 : decode cX12_changes 22 = .ok (.iload_n 1, 1) := by decide +kernel
theorem dX12_changes_23 : decode cX12_changes 23 = .ok (.aload_n 0, 1) := by decide +kernel
theorem dX12_changes_24 : decode cX12_changes 24 = .ok (.getfield 13, 3) := by decide +kernel
theorem dX12_changes_27 : decode cX12_changes 27 = .ok (.iload_n 1, 1) := by decide +kernel
theorem dX12_changes_28 : decode cX12_changes 28 = .ok (.sipush 660, 3) := by decide +kernel
theorem dX12_changes_31 : decode cX12_changes 31 = .ok (.iadd, 1) := by decide +kernel
theorem dX12_changes_32 : decode cX12_changes 32 = .ok (.iaload, 1) := by decide +kernel
theorem dX12_changes_33 : decode cX12_changes 33 = .ok (.iastore, 1) := by decide +kernel
theorem dX12_changes_34 : decode cX12_changes 34 = .ok (.iinc 1 1, 3) := by decide +kernel
theorem dX12_changes_37 : decode cX12_changes 37 = .ok (.goto (-26), 3) := by decide +kernel
theorem dX12_changes_40 : decode cX12_changes 40 = .ok (.aload_n 0, 1) := by decide +kernel
theorem dX12_changes_41 : decode cX12_changes 41 = .ok (.bipush 9, 2) := by decide +kernel
theorem dX12_changes_43 : decode cX12_changes 43 = .ok (.putfield 86, 3) := by decide +kernel
theorem dX12_changes_46 : decode cX12_changes 46 = .ok (.iconst 0, 1) := by decide +kernel
theorem dX12_changes_47 : decode cX12_changes 47 = .ok (.istore_n 1, 1) := by decide +kernel
theorem dX12_changes_48 : decode cX12_changes 48 = .ok (.iload_n 1, 1) := by decide +kernel
theorem dX12_changes_49 : decode cX12_changes 49 = .ok (.sipush 660, 3) := by decide +kernel
theorem dX12_changes_52 : decode cX12_changes 52 = .ok (.if_icmp .ge 30, 3) := by decide +kernel
theorem dX12_changes_55 : decode cX12_changes 55 = .ok (.aload_n 0, 1) := by decide +kernel
theorem dX12_changes_56 : decode cX12_changes 56 = .ok (.getfield 13, 3) := by decide +kernel
theorem dX12_changes_59 : decode cX12_changes 59 = .ok (.sipush 660, 3) := by decide +kernel
theorem dX12_changes_62 : decode cX12_changes 62 = .ok (.aload_n 0, 1) := by decide +kernel
theorem dX12_changes_63 : decode cX12_changes 63 = .ok (.getfield 86, 3) := by decide +kernel
theorem dX12_changes_66 : decode cX12_changes 66 = .ok (.imul, 1) := by decide +kernel
theorem dX12_changes_67 : decode cX12_changes 67 = .ok (.iload_n 1, 1) := by decide +kernel
theorem dX12_changes_68 : decode cX12_changes 68 = .ok (.iadd, 1) := by decide +kernel
theorem dX12_changes_69 : decode cX12_changes 69 = .ok (.aload_n 0, 1) := by decide +kernel
theorem dX12_changes_70 : decode cX12_changes 70 = .ok (.getfield 7, 3) := by decide +kernel
theorem dX12_changes_73 : decode cX12_changes 73 = .ok (.iload_n 1, 1) := by decide +kernel
theorem dX12_changes_74 : decode cX12_changes 74 = .ok (.iaload, 1) := by decide +kernel
theorem dX12_changes_75 : decode cX12_changes 75 = .ok (.iastore, 1) := by decide +kernel
theorem dX12_changes_76 : decode cX12_changes 76 = .ok (.iinc 1 1, 3) := by decide +kernel
theorem dX12_changes_79 : decode cX12_changes 79 = .ok (.goto (-31), 3) := by decide +kernel
theorem dX12_changes_82 : decode cX12_changes 82 = .ok (.aload_n 0, 1) := by decide +kernel
theorem dX12_changes_83 : decode cX12_changes 83 = .ok (.dup, 1) := by decide +kernel
theorem dX12_changes_84 : decode cX12_changes 84 = .ok (.getfield 86, 3) := by decide +kernel
theorem dX12_changes_87 : decode cX12_changes 87 = .ok (.iconst 1, 1) := by decide +kernel
theorem dX12_changes_88 : decode cX12_changes 88 = .ok (.iadd, 1) := by decide +kernel
theorem dX12_changes_89 : decode cX12_changes 89 = .ok (.putfield 86, 3) := by decide +kernel
theorem dX12_changes_92 : decode cX12_changes 92 = .ok (.return_, 1) := by decide +kernel
theorem dX12_undo_0 : decode cX12_undo 0 = .ok (.aload_n 0, 1) := by decide +kernel
theorem dX12_undo_1 : decode cX12_undo 1 = .ok (.getfield 86, 3) := by decide +kernel
theorem dX12_undo_4 : decode cX12_undo 4 = .ok (.ifCond .ne 6, 3) := by decide +kernel
theorem dX12_undo_7 : decode cX12_undo 7 = .ok (.ldc 90, 2) := by decide +kernel
theorem dX12_undo_9 : decode cX12_undo 9 = .ok (.ireturn, 1) := by decide +kernel
theorem dX12_undo_10 : decode cX12_undo 10 = .ok (.aload_n 0, 1) := by decide +kernel
theorem dX12_undo_11 : decode cX12_undo 11 = .ok (.dup, 1) := by decide +kernel
theorem dX12_undo_12 : decode cX12_undo 12 = .ok (.getfield 86, 3) := by decide +kernel
theorem dX12_undo_15 : decode cX12_undo 15 = .ok (.iconst 1, 1) := by decide +kernel
theorem dX12_undo_16 : decode cX12_undo 16 = .ok (.isub, 1) := by decide +kernel
theorem dX12_undo_17 : decode cX12_undo 17 = .ok (.putfield 86, 3) := by decide +kernel
theorem dX12_undo_20 : decode cX12_undo 20 = .ok (.iconst 0, 1) := by decide +kernel
theorem dX12_undo_21 : decode cX12_undo 21 = .ok (.istore_n 1, 1) := by decide +kernel
theorem dX12_undo_22 : decode cX12_undo 22 = .ok (.iload_n 1, 1) := by decide +kernel
theorem dX12_undo_23 : decode cX12_undo 23 = .ok (.sipush 660, 3) := by decide +kernel
theorem dX12_undo_26 : decode cX12_undo 26 = .ok (.if_icmp .ge 30, 3) := by decide +kernel
theorem dX12_undo_29 : decode cX12_undo 29 = .ok (.aload_n 0, 1) := by decide +kernel
theorem dX12_undo_30 : decode cX12_undo 30 = .ok (.getfield 7, 3) := by decide +kernel
theorem dX12_undo_33 : decode cX12_undo 33 = .ok (.iload_n 1, 1) := by decide +kernel
theorem dX12_undo_34 : decode cX12_undo 34 = .ok (.aload_n 0, 1) := by decide +kernel
theorem dX12_undo_35 : decode cX12_undo 35 = .ok (.getfield 13, 3) := by decide +kernel
theorem dX12_undo_38 : decode cX12_undo 38 = .ok (.sipush 660, 3) := by decide +kernel
theorem dX12_undo_41 : decode cX12_undo 41 = .ok (.aload_n 0, 1) := by decide +kernel
theorem dX12_undo_42 : decode cX12_undo 42 = .ok (.getfield 86, 3) := by decide +kernel
theorem dX12_undo_45 : decode cX12_undo 45 = .ok (.imul, 1) := by decide +kernel
theorem dX12_undo_46 : decode cX12_undo 46 = .ok (.iload_n 1, 1) := by decide +kernel
theorem dX12_undo_47 : decode cX12_undo 47 = .ok (.iadd, 1) := by decide +kernel
theorem dX12_undo_48 : decode cX12_undo 48 = .ok (.iaload, 1) := by decide +kernel
theorem dX12_undo_49 : decode cX12_undo 49 = .ok (.iastore, 1) := by decide +kernel
theorem dX12_undo_50 : decode cX12_undo 50 = .ok (.iinc 1 1, 3) := by decide +kernel
theorem dX12_undo_53 : decode cX12_undo 53 = .ok (.goto (-31), 3) := by decide +kernel
theorem dX12_undo_56 : decode cX12_undo 56 = .ok (.aload_n 0, 1) := by decide +kernel
theorem dX12_undo_57 : decode cX12_undo 57 = .ok (.getfield 86, 3) := by decide +kernel
theorem dX12_undo_60 : decode cX12_undo 60 = .ok (.ireturn, 1) := by decide +kernel
theorem dX12_secant_0 : decode cX12_secant 0 = .ok (.ldc2_w 91, 3) := by decide +kernel
theorem dX12_secant_3 : decode cX12_secant 3 = .ok (.aload_n 0, 1) := by decide +kernel
theorem dX12_secant_4 : decode cX12_secant 4 = .ok (.getfield 7, 3) := by decide +kernel
theorem dX12_secant_7 : decode cX12_secant 7 = .ok (.iload_n 1, 1) := by decide +kernel
theorem dX12_secant_8 : decode cX12_secant 8 = .ok (.bipush 28, 2) := by decide +kernel
theorem dX12_secant_10 : decode cX12_secant 10 = .ok (.iload_n 2, 1) := by decide +kernel
theorem dX12_secant_11 : decode cX12_secant 11 = .ok (.iconst 1, 1) := by decide +kernel
theorem dX12_secant_12 : decode cX12_secant 12 = .ok (.iadd, 1) := by decide +kernel
theorem dX12_secant_13 : decode cX12_secant 13 = .ok (.invokestatic 70, 3) := by decide +kernel
theorem dX12_secant_16 : decode cX12_secant 16 = .ok (.iaload, 1) := by decide +kernel
theorem dX12_secant_17 : decode cX12_secant 17 = .ok (.aload_n 0, 1) := by decide +kernel
theorem dX12_secant_18 : decode cX12_secant 18 = .ok (.getfield 7, 3) := by decide +kernel
theorem dX12_secant_21 : decode cX12_secant 21 = .ok (.iload_n 1, 1) := by decide +kernel
theorem dX12_secant_22 : decode cX12_secant 22 = .ok (.bipush 28, 2) := by decide +kernel
theorem dX12_secant_24 : decode cX12_secant 24 = .ok (.iload_n 2, 1) := by decide +kernel
theorem dX12_secant_25 : decode cX12_secant 25 = .ok (.invokestatic 70, 3) := by decide +kernel
theorem dX12_secant_28 : decode cX12_secant 28 = .ok (.iaload, 1) := by decide +kernel
theorem dX12_secant_29 : decode cX12_secant 29 = .ok (.isub, 1) := by decide +kernel
theorem dX12_secant_30 : decode cX12_secant 30 = .ok (.i2l, 1) := by decide +kernel
theorem dX12_secant_31 : decode cX12_secant 31 = .ok (.lmul, 1) := by decide +kernel
theorem dX12_secant_32 : decode cX12_secant 32 = .ok (.aload_n 0, 1) := by decide +kernel
theorem dX12_secant_33 : decode cX12_secant 33 = .ok (.iload_n 1, 1) := by decide +kernel
theorem dX12_secant_34 : decode cX12_secant 34 = .ok (.iload_n 2, 1) := by decide +kernel
theorem dX12_secant_35 : decode cX12_secant 35 = .ok (.iconst 1, 1) := by decide +kernel
theorem dX12_secant_36 : decode cX12_secant 36 = .ok (.iadd, 1) := by decide +kernel
theorem dX12_secant_37 : decode cX12_secant 37 = .ok (.invokevirtual 82, 3) := by decide +kernel
theorem dX12_secant_40 : decode cX12_secant 40 = .ok (.aload_n 0, 1) := by decide +kernel
theorem dX12_secant_41 : decode cX12_secant 41 = .ok (.iload_n 1, 1) := by decide +kernel
theorem dX12_secant_42 : decode cX12_secant 42 = .ok (.iload_n 2, 1) := by decide +kernel
theorem dX12_secant_43 : decode cX12_secant 43 = .ok (.invokevirtual 82, 3) := by decide +kernel
theorem dX12_secant_46 : decode cX12_secant 46 = .ok (.isub, 1) := by decide +kernel
theorem dX12_secant_47 : decode cX12_secant 47 = .ok (.i2l, 1) := by decide +kernel
theorem dX12_secant_48 : decode cX12_secant 48 = .ok (.invokestatic 93, 3) := by decide +kernel
theorem dX12_secant_51 : decode cX12_secant 51 = .ok (.l2i, 1) := by decide +kernel
theorem dX12_secant_52 : decode cX12_secant 52 = .ok (.ireturn, 1) := by decide +kernel
theorem dX12_auto_0 : decode cX12_auto 0 = .ok (.iload_n 2, 1) := by decide +kernel
theorem dX12_auto_1 : decode cX12_auto 1 = .ok (.ifCond .eq 14, 3) := by decide +kernel
theorem dX12_auto_4 : decode cX12_auto 4 = .ok (.iload_n 2, 1) := by decide +kernel
theorem dX12_auto_5 : decode cX12_auto 5 = .ok (.aload_n 0, 1) := by decide +kernel
theorem dX12_auto_6 : decode cX12_auto 6 = .ok (.iload_n 1, 1) := by decide +kernel
theorem dX12_auto_7 : decode cX12_auto 7 = .ok (.invokevirtual 78, 3) := by decide +kernel
theorem dX12_auto_10 : decode cX12_auto 10 = .ok (.iconst 1, 1) := by decide +kernel
theorem dX12_auto_11 : decode cX12_auto 11 = .ok (.isub, 1) := by decide +kernel
theorem dX12_auto_12 : decode cX12_auto 12 = .ok (.if_icmp .ne 20, 3) := by decide +kernel
theorem dX12_auto_15 : decode cX12_auto 15 = .ok (.aload_n 0, 1) := by decide +kernel
theorem dX12_auto_16 : decode cX12_auto 16 = .ok (.iload_n 1, 1) := by decide +kernel
theorem dX12_auto_17 : decode cX12_auto 17 = .ok (.iload_n 2, 1) := by decide +kernel
theorem dX12_auto_18 : decode cX12_auto 18 = .ok (.ifCond .ne 7, 3) := by decide +kernel
theorem dX12_auto_21 : decode cX12_auto 21 = .ok (.iconst 0, 1) := by decide +kernel
theorem dX12_auto_22 : decode cX12_auto 22 = .ok (.goto 6, 3) := by decide +kernel
theorem dX12_auto_25 : decode cX12_auto 25 = .ok (.iload_n 2, 1) := by decide +kernel
theorem dX12_auto_26 : decode cX12_auto 26 = .ok (.iconst 1, 1) := by decide +kernel
theorem dX12_auto_27 : decode cX12_auto 27 = .ok (.isub, 1) := by decide +kernel
theorem dX12_auto_28 : decode cX12_auto 28 = .ok (.invokevirtual 96, 3) := by decide +kernel
theorem dX12_auto_31 : decode cX12_auto 31 = .ok (.ireturn, 1) := by decide +kernel
theorem dX12_auto_32 : decode cX12_auto 32 = .ok (.ldc2_w 91, 3) := by decide +kernel
theorem dX12_auto_35 : decode cX12_auto 35 = .ok (.aload_n 0, 1) := by decide +kernel
theorem dX12_auto_36 : decode cX12_auto 36 = .ok (.getfield 7, 3) := by decide +kernel
theorem dX12_auto_39 : decode cX12_auto 39 = .ok (.iload_n 1, 1) := by decide +kernel
theorem dX12_auto_40 : decode cX12_auto 40 = .ok (.bipush 28, 2) := by decide +kernel
theorem dX12_auto_42 : decode cX12_auto 42 = .ok (.iload_n 2, 1) := by decide +kernel
theorem dX12_auto_43 : decode cX12_auto 43 = .ok (.iconst 1, 1) := by decide +kernel
theorem dX12_auto_44 : decode cX12_auto 44 = .ok (.iadd, 1) := by decide +kernel
theorem dX12_auto_45 : decode cX12_auto 45 = .ok (.invokestatic 70, 3) := by decide +kernel
theorem dX12_auto_48 : decode cX12_auto 48 = .ok (.iaload, 1) := by decide +kernel
theorem dX12_auto_49 : decode cX12_auto 49 = .ok (.aload_n 0, 1) := by decide +kernel
theorem dX12_auto_50 : decode cX12_auto 50 = .ok (.getfield 7, 3) := by decide +kernel
theorem dX12_auto_53 : decode cX12_auto 53 = .ok (.iload_n 1, 1) := by decide +kernel
theorem dX12_auto_54 : decode cX12_auto 54 = .ok (.bipush 28, 2) := by decide +kernel
theorem dX12_auto_56 : decode cX12_auto 56 = .ok (.iload_n 2, 1) := by decide +kernel
theorem dX12_auto_57 : decode cX12_auto 57 = .ok (.iconst 1, 1) := by decide +kernel
theorem dX12_auto_58 : decode cX12_auto 58 = .ok (.isub, 1) := by decide +kernel
theorem dX12_auto_59 : decode cX12_auto 59 = .ok (.invokestatic 70, 3) := by decide +kernel
theorem dX12_auto_62 : decode cX12_auto 62 = .ok (.iaload, 1) := by decide +kernel
theorem dX12_auto_63 : decode cX12_auto 63 = .ok (.isub, 1) := by decide +kernel
theorem dX12_auto_64 : decode cX12_auto 64 = .ok (.i2l, 1) := by decide +kernel
theorem dX12_auto_65 : decode cX12_auto 65 = .ok (.lmul, 1) := by decide +kernel
theorem dX12_auto_66 : decode cX12_auto 66 = .ok (.aload_n 0, 1) := by decide +kernel
theorem dX12_auto_67 : decode cX12_auto 67 = .ok (.iload_n 1, 1) := by decide +kernel
theorem dX12_auto_68 : decode cX12_auto 68 = .ok (.iload_n 2, 1) := by decide +kernel
theorem dX12_auto_69 : decode cX12_auto 69 = .ok (.iconst 1, 1) := by decide +kernel
theorem dX12_auto_70 : decode cX12_auto 70 = .ok (.iadd, 1) := by decide +kernel
theorem dX12_auto_71 : decode cX12_auto 71 = .ok (.invokevirtual 82, 3) := by decide +kernel
theorem dX12_auto_74 : decode cX12_auto 74 = .ok (.aload_n 0, 1) := by decide +kernel
theorem dX12_auto_75 : decode cX12_auto 75 = .ok (.iload_n 1, 1) := by decide +kernel
theorem dX12_auto_76 : decode cX12_auto 76 = .ok (.iload_n 2, 1) := by decide +kernel
theorem dX12_auto_77 : decode cX12_auto 77 = .ok (.iconst 1, 1) := by decide +kernel
theorem dX12_auto_78 : decode cX12_auto 78 = .ok (.isub, 1) := by decide +kernel
theorem dX12_auto_79 : decode cX12_auto 79 = .ok (.invokevirtual 82, 3) := by decide +kernel
theorem dX12_auto_82 : decode cX12_auto 82 = .ok (.isub, 1) := by decide +kernel
theorem dX12_auto_83 : decode cX12_auto 83 = .ok (.i2l, 1) := by decide +kernel
theorem dX12_auto_84 : decode cX12_auto 84 = .ok (.invokestatic 93, 3) := by decide +kernel
theorem dX12_auto_87 : decode cX12_auto 87 = .ok (.l2i, 1) := by decide +kernel
theorem dX12_auto_88 : decode cX12_auto 88 = .ok (.ireturn, 1) := by decide +kernel
theorem dX12_isBetween_0 : decode cX12_isBetween 0 = .ok (.aload_n 0, 1) := by decide +kernel
theorem dX12_isBetween_1 : decode cX12_isBetween 1 = .ok (.getfield 7, 3) := by decide +kernel
theorem dX12_isBetween_4 : decode cX12_isBetween 4 = .ok (.iload_n 1, 1) := by decide +kernel
theorem dX12_isBetween_5 : decode cX12_isBetween 5 = .ok (.bipush 28, 2) := by decide +kernel
theorem dX12_isBetween_7 : decode cX12_isBetween 7 = .ok (.iload_n 2, 1) := by decide +kernel
theorem dX12_isBetween_8 : decode cX12_isBetween 8 = .ok (.invokestatic 70, 3) := by decide +kernel
theorem dX12_isBetween_11 : decode cX12_isBetween 11 = .ok (.iaload, 1) := by decide +kernel
theorem dX12_isBetween_12 : decode cX12_isBetween 12 = .ok (.istore_n 3, 1) := by decide +kernel
theorem dX12_isBetween_13 : decode cX12_isBetween 13 = .ok (.aload_n 0, 1) := by decide +kernel
theorem dX12_isBetween_14 : decode cX12_isBetween 14 = .ok (.getfield 7, 3) := by decide +kernel
theorem dX12_isBetween_17 : decode cX12_isBetween 17 = .ok (.iload_n 1, 1) := by decide +kernel
theorem dX12_isBetween_18 : decode cX12_isBetween 18 = .ok (.bipush 28, 2) := by decide +kernel
theorem dX12_isBetween_20 : decode cX12_isBetween 20 = .ok (.iload_n 2, 1) := by decide +kernel
theorem dX12_isBetween_21 : decode cX12_isBetween 21 = .ok (.iconst 1, 1) := by decide +kernel
theorem dX12_isBetween_22 : decode cX12_isBetween 22 = .ok (.isub, 1) := by decide +kernel
theorem dX12_isBetween_23 : decode cX12_isBetween 23 = .ok (.invokestatic 70, 3) := by decide +kernel
theorem dX12_isBetween_26 : decode cX12_isBetween 26 = .ok (.iaload, 1) := by decide +kernel
theorem dX12_isBetween_27 : decode cX12_isBetween 27 = .ok (.istore 4, 2) := by decide +kernel
theorem dX12_isBetween_29 : decode cX12_isBetween 29 = .ok (.aload_n 0, 1) := by decide +kernel
theorem dX12_isBetween_30 : decode cX12_isBetween 30 = .ok (.getfield 7, 3) := by decide +kernel
theorem dX12_isBetween_33 : decode cX12_isBetween 33 = .ok (.iload_n 1, 1) := by decide +kernel
theorem dX12_isBetween_34 : decode cX12_isBetween 34 = .ok (.bipush 28, 2) := by decide +kernel
theorem dX12_isBetween_36 : decode cX12_isBetween 36 = .ok (.iload_n 2, 1) := by decide +kernel
theorem dX12_isBetween_37 : decode cX12_isBetween 37 = .ok (.iconst 1, 1) := by decide +kernel
theorem dX12_isBetween_38 : decode cX12_isBetween 38 = .ok (.iadd, 1) := by decide +kernel
theorem dX12_isBetween_39 : decode cX12_isBetween 39 = .ok (.invokestatic 70, 3) := by decide +kernel
theorem dX12_isBetween_42 : decode cX12_isBetween 42 = .ok (.iaload, 1) := by decide +kernel
theorem dX12_isBetween_43 : decode cX12_isBetween 43 = .ok (.istore 5, 2) := by decide +kernel
theorem dX12_isBetween_45 : decode cX12_isBetween 45 = .ok (.iload_n 3, 1) := by decide +kernel
theorem dX12_isBetween_46 : decode cX12_isBetween 46 = .ok (.iload 4, 2) := by decide +kernel
theorem dX12_isBetween_48 : decode cX12_isBetween 48 = .ok (.if_icmp .le 9, 3) := by decide +kernel
theorem dX12_isBetween_51 : decode cX12_isBetween 51 = .ok (.iload_n 3, 1) := by decide +kernel
theorem dX12_isBetween_52 : decode cX12_isBetween 52 = .ok (.iload 5, 2) := by decide +kernel
theorem dX12_isBetween_54 : decode cX12_isBetween 54 = .ok (.if_icmp .lt 15, 3) := by decide +kernel
theorem dX12_isBetween_57 : decode cX12_isBetween 57 = .ok (.iload_n 3, 1) := by decide +kernel
theorem dX12_isBetween_58 : decode cX12_isBetween 58 = .ok (.iload 4, 2) := by decide +kernel
theorem dX12_isBetween_60 : decode cX12_isBetween 60 = .ok (.if_icmp .ge 13, 3) := by decide +kernel
theorem dX12_isBetween_63 : decode cX12_isBetween 63 = .ok (.iload_n 3, 1) := by decide +kernel
theorem dX12_isBetween_64 : decode cX12_isBetween 64 = .ok (.iload 5, 2) := by decide +kernel
theorem dX12_isBetween_66 : decode cX12_isBetween 66 = .ok (.if_icmp .le 7, 3) := by decide +kernel
theorem dX12_isBetween_69 : decode cX12_isBetween 69 = .ok (.iconst 1, 1) := by decide +kernel
theorem dX12_isBetween_70 : decode cX12_isBetween 70 = .ok (.goto 4, 3) := by decide +kernel
theorem dX12_isBetween_73 : decode cX12_isBetween 73 = .ok (.iconst 0, 1) := by decide +kernel
theorem dX12_isBetween_74 : decode cX12_isBetween 74 = .ok (.ireturn, 1) := by decide +kernel
theorem dX12_monotone_0 : decode cX12_monotone 0 = .ok (.aload_n 0, 1) := by decide +kernel
theorem dX12_monotone_1 : decode cX12_monotone 1 = .ok (.iload_n 1, 1) := by decide +kernel
theorem dX12_monotone_2 : decode cX12_monotone 2 = .ok (.iload_n 2, 1) := by decide +kernel
theorem dX12_monotone_3 : decode cX12_monotone 3 = .ok (.iconst 1, 1) := by decide +kernel
theorem dX12_monotone_4 : decode cX12_monotone 4 = .ok (.isub, 1) := by decide +kernel
theorem dX12_monotone_5 : decode cX12_monotone 5 = .ok (.invokevirtual 96, 3) := by decide +kernel
theorem dX12_monotone_8 : decode cX12_monotone 8 = .ok (.istore_n 3, 1) := by decide +kernel
theorem dX12_monotone_9 : decode cX12_monotone 9 = .ok (.aload_n 0, 1) := by decide +kernel
theorem dX12_monotone_10 : decode cX12_monotone 10 = .ok (.iload_n 1, 1) := by decide +kernel
theorem dX12_monotone_11 : decode cX12_monotone 11 = .ok (.iload_n 2, 1) := by decide +kernel
theorem dX12_monotone_12 : decode cX12_monotone 12 = .ok (.invokevirtual 96, 3) := by decide +kernel
theorem dX12_monotone_15 : decode cX12_monotone 15 = .ok (.istore 4, 2) := by decide +kernel
theorem dX12_monotone_17 : decode cX12_monotone 17 = .ok (.iload_n 3, 1) := by decide +kernel
theorem dX12_monotone_18 : decode cX12_monotone 18 = .ok (.ifCond .eq 30, 3) := by decide +kernel
theorem dX12_monotone_21 : decode cX12_monotone 21 = .ok (.iload 4, 2) := by decide +kernel
theorem dX12_monotone_23 : decode cX12_monotone 23 = .ok (.ifCond .eq 25, 3) := by decide +kernel
theorem dX12_monotone_26 : decode cX12_monotone 26 = .ok (.iload_n 3, 1) := by decide +kernel
theorem dX12_monotone_27 : decode cX12_monotone 27 = .ok (.ifCond .le 7, 3) := by decide +kernel
theorem dX12_monotone_30 : decode cX12_monotone 30 = .ok (.iconst 1, 1) := by decide +kernel
theorem dX12_monotone_31 : decode cX12_monotone 31 = .ok (.goto 4, 3) := by decide +kernel
theorem dX12_monotone_34 : decode cX12_monotone 34 = .ok (.iconst 0, 1) := by decide +kernel
theorem dX12_monotone_35 : decode cX12_monotone 35 = .ok (.iload 4, 2) := by decide +kernel
theorem dX12_monotone_37 : decode cX12_monotone 37 = .ok (.ifCond .le 7, 3) := by decide +kernel
theorem dX12_monotone_40 : decode cX12_monotone 40 = .ok (.iconst 1, 1) := by decide +kernel
theorem dX12_monotone_41 : decode cX12_monotone 41 = .ok (.goto 4, 3) := by decide +kernel
theorem dX12_monotone_44 : decode cX12_monotone 44 = .ok (.iconst 0, 1) := by decide +kernel
theorem dX12_monotone_45 : decode cX12_monotone 45 = .ok (.if_icmp .eq 5, 3) := by decide +kernel
theorem dX12_monotone_48 : decode cX12_monotone 48 = .ok (.iconst 0, 1) := by decide +kernel
theorem dX12_monotone_49 : decode cX12_monotone 49 = .ok (.ireturn, 1) := by decide +kernel
theorem dX12_monotone_50 : decode cX12_monotone 50 = .ok (.aload_n 0, 1) := by decide +kernel
theorem dX12_monotone_51 : decode cX12_monotone 51 = .ok (.iload_n 1, 1) := by decide +kernel
theorem dX12_monotone_52 : decode cX12_monotone 52 = .ok (.iload_n 2, 1) := by decide +kernel
theorem dX12_monotone_53 : decode cX12_monotone 53 = .ok (.invokevirtual 99, 3) := by decide +kernel
theorem dX12_monotone_56 : decode cX12_monotone 56 = .ok (.istore 5, 2) := by decide +kernel
theorem dX12_monotone_58 : decode cX12_monotone 58 = .ok (.iconst 3, 1) := by decide +kernel
theorem dX12_monotone_59 : decode cX12_monotone 59 = .ok (.iload_n 3, 1) := by decide +kernel
theorem dX12_monotone_60 : decode cX12_monotone 60 = .ok (.invokestatic 102, 3) := by decide +kernel
theorem dX12_monotone_63 : decode cX12_monotone 63 = .ok (.iload 4, 2) := by decide +kernel
theorem dX12_monotone_65 : decode cX12_monotone 65 = .ok (.invokestatic 102, 3) := by decide +kernel
theorem dX12_monotone_68 : decode cX12_monotone 68 = .ok (.invokestatic 105, 3) := by decide +kernel
theorem dX12_monotone_71 : decode cX12_monotone 71 = .ok (.imul, 1) := by decide +kernel
theorem dX12_monotone_72 : decode cX12_monotone 72 = .ok (.istore 6, 2) := by decide +kernel
theorem dX12_monotone_74 : decode cX12_monotone 74 = .ok (.iload 5, 2) := by decide +kernel
theorem dX12_monotone_76 : decode cX12_monotone 76 = .ok (.i2l, 1) := by decide +kernel
theorem dX12_monotone_77 : decode cX12_monotone 77 = .ok (.iload 6, 2) := by decide +kernel
theorem dX12_monotone_79 : decode cX12_monotone 79 = .ok (.invokestatic 108, 3) := by decide +kernel
theorem dX12_monotone_82 : decode cX12_monotone 82 = .ok (.ireturn, 1) := by decide +kernel
theorem dX12_slopeOf_0 : decode cX12_slopeOf 0 = .ok (.aload_n 0, 1) := by decide +kernel
theorem dX12_slopeOf_1 : decode cX12_slopeOf 1 = .ok (.iload_n 1, 1) := by decide +kernel
theorem dX12_slopeOf_2 : decode cX12_slopeOf 2 = .ok (.invokevirtual 78, 3) := by decide +kernel
theorem dX12_slopeOf_5 : decode cX12_slopeOf 5 = .ok (.istore 4, 2) := by decide +kernel
theorem dX12_slopeOf_7 : decode cX12_slopeOf 7 = .ok (.aload_n 0, 1) := by decide +kernel
theorem dX12_slopeOf_8 : decode cX12_slopeOf 8 = .ok (.getfield 7, 3) := by decide +kernel
theorem dX12_slopeOf_11 : decode cX12_slopeOf 11 = .ok (.iload_n 1, 1) := by decide +kernel
theorem dX12_slopeOf_12 : decode cX12_slopeOf 12 = .ok (.bipush 52, 2) := by decide +kernel
theorem dX12_slopeOf_14 : decode cX12_slopeOf 14 = .ok (.iload_n 2, 1) := by decide +kernel
theorem dX12_slopeOf_15 : decode cX12_slopeOf 15 = .ok (.invokestatic 70, 3) := by decide +kernel
theorem dX12_slopeOf_18 : decode cX12_slopeOf 18 = .ok (.iaload, 1) := by decide +kernel
theorem dX12_slopeOf_19 : decode cX12_slopeOf 19 = .ok (.istore 5, 2) := by decide +kernel
theorem dX12_slopeOf_21 : decode cX12_slopeOf 21 = .ok (.iload 5, 2) := by decide +kernel
theorem dX12_slopeOf_23 : decode cX12_slopeOf 23 = .ok (.ifCond .ne 25, 3) := by decide +kernel
theorem dX12_slopeOf_26 : decode cX12_slopeOf 26 = .ok (.aload_n 0, 1) := by decide +kernel
theorem dX12_slopeOf_27 : decode cX12_slopeOf 27 = .ok (.getfield 7, 3) := by decide +kernel
theorem dX12_slopeOf_30 : decode cX12_slopeOf 30 = .ok (.iload_n 1, 1) := by decide +kernel
theorem dX12_slopeOf_31 : decode cX12_slopeOf 31 = .ok (.iload_n 3, 1) := by decide +kernel
theorem dX12_slopeOf_32 : decode cX12_slopeOf 32 = .ok (.ifCond .eq 8, 3) := by decide +kernel
theorem dX12_slopeOf_35 : decode cX12_slopeOf 35 = .ok (.bipush 100, 2) := by decide +kernel
theorem dX12_slopeOf_37 : decode cX12_slopeOf 37 = .ok (.goto 5, 3) := by decide +kernel
theorem dX12_slopeOf_40 : decode cX12_slopeOf 40 = .ok (.bipush 76, 2) := by decide +kernel
theorem dX12_slopeOf_42 : decode cX12_slopeOf 42 = .ok (.iload_n 2, 1) := by decide +kernel
theorem dX12_slopeOf_43 : decode cX12_slopeOf 43 = .ok (.invokestatic 70, 3) := by decide +kernel
theorem dX12_slopeOf_46 : decode cX12_slopeOf 46 = .ok (.iaload, 1) := by decide +kernel
theorem dX12_slopeOf_47 : decode cX12_slopeOf 47 = .ok (.ireturn, 1) := by decide +kernel
theorem dX12_slopeOf_48 : decode cX12_slopeOf 48 = .ok (.iload 4, 2) := by decide +kernel
theorem dX12_slopeOf_50 : decode cX12_slopeOf 50 = .ok (.iconst 1, 1) := by decide +kernel
theorem dX12_slopeOf_51 : decode cX12_slopeOf 51 = .ok (.if_icmp .eq 16, 3) := by decide +kernel
theorem dX12_slopeOf_54 : decode cX12_slopeOf 54 = .ok (.iload 5, 2) := by decide +kernel
theorem dX12_slopeOf_56 : decode cX12_slopeOf 56 = .ok (.iconst 1, 1) := by decide +kernel
theorem dX12_slopeOf_57 : decode cX12_slopeOf 57 = .ok (.if_icmp .eq 10, 3) := by decide +kernel
theorem dX12_slopeOf_60 : decode cX12_slopeOf 60 = .ok (.iload 5, 2) := by decide +kernel
theorem dX12_slopeOf_62 : decode cX12_slopeOf 62 = .ok (.bipush 6, 2) := by decide +kernel
theorem dX12_slopeOf_64 : decode cX12_slopeOf 64 = .ok (.if_icmp .ne 5, 3) := by decide +kernel
theorem dX12_slopeOf_67 : decode cX12_slopeOf 67 = .ok (.iconst 0, 1) := by decide +kernel
theorem dX12_slopeOf_68 : decode cX12_slopeOf 68 = .ok (.ireturn, 1) := by decide +kernel
theorem dX12_slopeOf_69 : decode cX12_slopeOf 69 = .ok (.iload_n 2, 1) := by decide +kernel
theorem dX12_slopeOf_70 : decode cX12_slopeOf 70 = .ok (.ifCond .eq 11, 3) := by decide +kernel
theorem dX12_slopeOf_73 : decode cX12_slopeOf 73 = .ok (.iload_n 2, 1) := by decide +kernel
theorem dX12_slopeOf_74 : decode cX12_slopeOf 74 = .ok (.iload 4, 2) := by decide +kernel
theorem dX12_slopeOf_76 : decode cX12_slopeOf 76 = .ok (.iconst 1, 1) := by decide +kernel
theorem dX12_slopeOf_77 : decode cX12_slopeOf 77 = .ok (.isub, 1) := by decide +kernel
theorem dX12_slopeOf_78 : decode cX12_slopeOf 78 = .ok (.if_icmp .ne 7, 3) := by decide +kernel
theorem dX12_slopeOf_81 : decode cX12_slopeOf 81 = .ok (.iconst 1, 1) := by decide +kernel
theorem dX12_slopeOf_82 : decode cX12_slopeOf 82 = .ok (.goto 4, 3) := by decide +kernel
theorem dX12_slopeOf_85 : decode cX12_slopeOf 85 = .ok (.iconst 0, 1) := by decide +kernel
theorem dX12_slopeOf_86 : decode cX12_slopeOf 86 = .ok (.istore 6, 2) := by decide +kernel
theorem dX12_slopeOf_88 : decode cX12_slopeOf 88 = .ok (.iload 5, 2) := by decide +kernel
theorem dX12_slopeOf_90 : decode cX12_slopeOf 90 = .ok (.tableswitch 86 2 4 #[26, 54, 61], 26) := by decide +kernel
theorem dX12_slopeOf_116 : decode cX12_slopeOf 116 = .ok (.aload_n 0, 1) := by decide +kernel
theorem dX12_slopeOf_117 : decode cX12_slopeOf 117 = .ok (.iload_n 1, 1) := by decide +kernel
theorem dX12_slopeOf_118 : decode cX12_slopeOf 118 = .ok (.iload_n 3, 1) := by decide +kernel
theorem dX12_slopeOf_119 : decode cX12_slopeOf 119 = .ok (.ifCond .eq 14, 3) := by decide +kernel
theorem dX12_slopeOf_122 : decode cX12_slopeOf 122 = .ok (.iload_n 2, 1) := by decide +kernel
theorem dX12_slopeOf_123 : decode cX12_slopeOf 123 = .ok (.iload 4, 2) := by decide +kernel
theorem dX12_slopeOf_125 : decode cX12_slopeOf 125 = .ok (.iconst 2, 1) := by decide +kernel
theorem dX12_slopeOf_126 : decode cX12_slopeOf 126 = .ok (.isub, 1) := by decide +kernel
theorem dX12_slopeOf_127 : decode cX12_slopeOf 127 = .ok (.invokestatic 105, 3) := by decide +kernel
theorem dX12_slopeOf_130 : decode cX12_slopeOf 130 = .ok (.goto 10, 3) := by decide +kernel
theorem dX12_slopeOf_133 : decode cX12_slopeOf 133 = .ok (.iload_n 2, 1) := by decide +kernel
theorem dX12_slopeOf_134 : decode cX12_slopeOf 134 = .ok (.iconst 1, 1) := by decide +kernel
theorem dX12_slopeOf_135 : decode cX12_slopeOf 135 = .ok (.isub, 1) := by decide +kernel
theorem dX12_slopeOf_136 : decode cX12_slopeOf 136 = .ok (.iconst 0, 1) := by decide +kernel
theorem dX12_slopeOf_137 : decode cX12_slopeOf 137 = .ok (.invokestatic 112, 3) := by decide +kernel
theorem dX12_slopeOf_140 : decode cX12_slopeOf 140 = .ok (.invokevirtual 96, 3) := by decide +kernel
theorem dX12_slopeOf_143 : decode cX12_slopeOf 143 = .ok (.ireturn, 1) := by decide +kernel
theorem dX12_slopeOf_144 : decode cX12_slopeOf 144 = .ok (.aload_n 0, 1) := by decide +kernel
theorem dX12_slopeOf_145 : decode cX12_slopeOf 145 = .ok (.iload_n 1, 1) := by decide +kernel
theorem dX12_slopeOf_146 : decode cX12_slopeOf 146 = .ok (.iload_n 2, 1) := by decide +kernel
theorem dX12_slopeOf_147 : decode cX12_slopeOf 147 = .ok (.invokevirtual 99, 3) := by decide +kernel
theorem dX12_slopeOf_150 : decode cX12_slopeOf 150 = .ok (.ireturn, 1) := by decide +kernel
theorem dX12_slopeOf_151 : decode cX12_slopeOf 151 = .ok (.iload 6, 2) := by decide +kernel
theorem dX12_slopeOf_153 : decode cX12_slopeOf 153 = .ok (.ifCond .ne 12, 3) := by decide +kernel
theorem dX12_slopeOf_156 : decode cX12_slopeOf 156 = .ok (.aload_n 0, 1) := by decide +kernel
theorem dX12_slopeOf_157 : decode cX12_slopeOf 157 = .ok (.iload_n 1, 1) := by decide +kernel
theorem dX12_slopeOf_158 : decode cX12_slopeOf 158 = .ok (.iload_n 2, 1) := by decide +kernel
theorem dX12_slopeOf_159 : decode cX12_slopeOf 159 = .ok (.invokevirtual 115, 3) := by decide +kernel
theorem dX12_slopeOf_162 : decode cX12_slopeOf 162 = .ok (.ifCond .ne 7, 3) := by decide +kernel
theorem dX12_slopeOf_165 : decode cX12_slopeOf 165 = .ok (.iconst 0, 1) := by decide +kernel
theorem dX12_slopeOf_166 : decode cX12_slopeOf 166 = .ok (.goto 9, 3) := by decide +kernel
theorem dX12_slopeOf_169 : decode cX12_slopeOf 169 = .ok (.aload_n 0, 1) := by decide +kernel
theorem dX12_slopeOf_170 : decode cX12_slopeOf 170 = .ok (.iload_n 1, 1) := by decide +kernel
theorem dX12_slopeOf_171 : decode cX12_slopeOf 171 = .ok (.iload_n 2, 1) := by decide +kernel
theorem dX12_slopeOf_172 : decode cX12_slopeOf 172 = .ok (.invokevirtual 99, 3) := by decide +kernel
theorem dX12_slopeOf_175 : decode cX12_slopeOf 175 = .ok (.ireturn, 1) := by decide +kernel
theorem dX12_slopeOf_176 : decode cX12_slopeOf 176 = .ok (.iload 6, 2) := by decide +kernel
theorem dX12_slopeOf_178 : decode cX12_slopeOf 178 = .ok (.ifCond .eq 7, 3) := by decide +kernel
theorem dX12_slopeOf_181 : decode cX12_slopeOf 181 = .ok (.iconst 0, 1) := by decide +kernel
theorem dX12_slopeOf_182 : decode cX12_slopeOf 182 = .ok (.goto 9, 3) := by decide +kernel
theorem dX12_slopeOf_185 : decode cX12_slopeOf 185 = .ok (.aload_n 0, 1) := by decide +kernel
theorem dX12_slopeOf_186 : decode cX12_slopeOf 186 = .ok (.iload_n 1, 1) := by decide +kernel
theorem dX12_slopeOf_187 : decode cX12_slopeOf 187 = .ok (.iload_n 2, 1) := by decide +kernel
theorem dX12_slopeOf_188 : decode cX12_slopeOf 188 = .ok (.invokevirtual 119, 3) := by decide +kernel
theorem dX12_slopeOf_191 : decode cX12_slopeOf 191 = .ok (.ireturn, 1) := by decide +kernel
theorem dX12_inside_0 : decode cX12_inside 0 = .ok (.iconst 0, 1) := by decide +kernel
theorem dX12_inside_1 : decode cX12_inside 1 = .ok (.istore_n 3, 1) := by decide +kernel
theorem dX12_inside_2 : decode cX12_inside 2 = .ok (.iload_n 3, 1) := by decide +kernel
theorem dX12_inside_3 : decode cX12_inside 3 = .ok (.aload_n 0, 1) := by decide +kernel
theorem dX12_inside_4 : decode cX12_inside 4 = .ok (.iload_n 1, 1) := by decide +kernel
theorem dX12_inside_5 : decode cX12_inside 5 = .ok (.invokevirtual 78, 3) := by decide +kernel
theorem dX12_inside_8 : decode cX12_inside 8 = .ok (.iconst 1, 1) := by decide +kernel
theorem dX12_inside_9 : decode cX12_inside 9 = .ok (.isub, 1) := by decide +kernel
theorem dX12_inside_10 : decode cX12_inside 10 = .ok (.if_icmp .ge 21, 3) := by decide +kernel
theorem dX12_inside_13 : decode cX12_inside 13 = .ok (.aload_n 0, 1) := by decide +kernel
theorem dX12_inside_14 : decode cX12_inside 14 = .ok (.iload_n 1, 1) := by decide +kernel
theorem dX12_inside_15 : decode cX12_inside 15 = .ok (.iload_n 3, 1) := by decide +kernel
theorem dX12_inside_16 : decode cX12_inside 16 = .ok (.iconst 1, 1) := by decide +kernel
theorem dX12_inside_17 : decode cX12_inside 17 = .ok (.iadd, 1) := by decide +kernel
theorem dX12_inside_18 : decode cX12_inside 18 = .ok (.invokevirtual 82, 3) := by decide +kernel
theorem dX12_inside_21 : decode cX12_inside 21 = .ok (.iload_n 2, 1) := by decide +kernel
theorem dX12_inside_22 : decode cX12_inside 22 = .ok (.if_icmp .gt 9, 3) := by decide +kernel
theorem dX12_inside_25 : decode cX12_inside 25 = .ok (.iinc 3 1, 3) := by decide +kernel
theorem dX12_inside_28 : decode cX12_inside 28 = .ok (.goto (-26), 3) := by decide +kernel
theorem dX12_inside_31 : decode cX12_inside 31 = .ok (.ldc2_w 91, 3) := by decide +kernel
theorem dX12_inside_34 : decode cX12_inside 34 = .ok (.aload_n 0, 1) := by decide +kernel
theorem dX12_inside_35 : decode cX12_inside 35 = .ok (.getfield 7, 3) := by decide +kernel
theorem dX12_inside_38 : decode cX12_inside 38 = .ok (.iload_n 1, 1) := by decide +kernel
theorem dX12_inside_39 : decode cX12_inside 39 = .ok (.bipush 28, 2) := by decide +kernel
theorem dX12_inside_41 : decode cX12_inside 41 = .ok (.iload_n 3, 1) := by decide +kernel
theorem dX12_inside_42 : decode cX12_inside 42 = .ok (.invokestatic 70, 3) := by decide +kernel
theorem dX12_inside_45 : decode cX12_inside 45 = .ok (.iaload, 1) := by decide +kernel
theorem dX12_inside_46 : decode cX12_inside 46 = .ok (.i2l, 1) := by decide +kernel
theorem dX12_inside_47 : decode cX12_inside 47 = .ok (.lmul, 1) := by decide +kernel
theorem dX12_inside_48 : decode cX12_inside 48 = .ok (.lstore 4, 2) := by decide +kernel
theorem dX12_inside_50 : decode cX12_inside 50 = .ok (.aload_n 0, 1) := by decide +kernel
theorem dX12_inside_51 : decode cX12_inside 51 = .ok (.iload_n 1, 1) := by decide +kernel
theorem dX12_inside_52 : decode cX12_inside 52 = .ok (.iload_n 3, 1) := by decide +kernel
theorem dX12_inside_53 : decode cX12_inside 53 = .ok (.invokevirtual 82, 3) := by decide +kernel
theorem dX12_inside_56 : decode cX12_inside 56 = .ok (.iload_n 2, 1) := by decide +kernel
theorem dX12_inside_57 : decode cX12_inside 57 = .ok (.if_icmp .eq 20, 3) := by decide +kernel
theorem dX12_inside_60 : decode cX12_inside 60 = .ok (.aload_n 0, 1) := by decide +kernel
theorem dX12_inside_61 : decode cX12_inside 61 = .ok (.getfield 7, 3) := by decide +kernel
theorem dX12_inside_64 : decode cX12_inside 64 = .ok (.iload_n 1, 1) := by decide +kernel
theorem dX12_inside_65 : decode cX12_inside 65 = .ok (.bipush 52, 2) := by decide +kernel
theorem dX12_inside_67 : decode cX12_inside 67 = .ok (.iload_n 3, 1) := by decide +kernel
theorem dX12_inside_68 : decode cX12_inside 68 = .ok (.invokestatic 70, 3) := by decide +kernel
theorem dX12_inside_71 : decode cX12_inside 71 = .ok (.iaload, 1) := by decide +kernel
theorem dX12_inside_72 : decode cX12_inside 72 = .ok (.bipush 6, 2) := by decide +kernel
theorem dX12_inside_74 : decode cX12_inside 74 = .ok (.if_icmp .ne 7, 3) := by decide +kernel
theorem dX12_inside_77 : decode cX12_inside 77 = .ok (.lload 4, 2) := by decide +kernel
theorem dX12_inside_79 : decode cX12_inside 79 = .ok (.l2i, 1) := by decide +kernel
theorem dX12_inside_80 : decode cX12_inside 80 = .ok (.ireturn, 1) := by decide +kernel
theorem dX12_inside_81 : decode cX12_inside 81 = .ok (.ldc2_w 91, 3) := by decide +kernel
theorem dX12_inside_84 : decode cX12_inside 84 = .ok (.aload_n 0, 1) := by decide +kernel
theorem dX12_inside_85 : decode cX12_inside 85 = .ok (.getfield 7, 3) := by decide +kernel
theorem dX12_inside_88 : decode cX12_inside 88 = .ok (.iload_n 1, 1) := by decide +kernel
theorem dX12_inside_89 : decode cX12_inside 89 = .ok (.bipush 28, 2) := by decide +kernel
theorem dX12_inside_91 : decode cX12_inside 91 = .ok (.iload_n 3, 1) := by decide +kernel
theorem dX12_inside_92 : decode cX12_inside 92 = .ok (.iconst 1, 1) := by decide +kernel
theorem dX12_inside_93 : decode cX12_inside 93 = .ok (.iadd, 1) := by decide +kernel
theorem dX12_inside_94 : decode cX12_inside 94 = .ok (.invokestatic 70, 3) := by decide +kernel
theorem dX12_inside_97 : decode cX12_inside 97 = .ok (.iaload, 1) := by decide +kernel
theorem dX12_inside_98 : decode cX12_inside 98 = .ok (.i2l, 1) := by decide +kernel
theorem dX12_inside_99 : decode cX12_inside 99 = .ok (.lmul, 1) := by decide +kernel
theorem dX12_inside_100 : decode cX12_inside 100 = .ok (.lstore 6, 2) := by decide +kernel
theorem dX12_inside_102 : decode cX12_inside 102 = .ok (.aload_n 0, 1) := by decide +kernel
theorem dX12_inside_103 : decode cX12_inside 103 = .ok (.iload_n 1, 1) := by decide +kernel
theorem dX12_inside_104 : decode cX12_inside 104 = .ok (.iload_n 3, 1) := by decide +kernel
theorem dX12_inside_105 : decode cX12_inside 105 = .ok (.iconst 1, 1) := by decide +kernel
theorem dX12_inside_106 : decode cX12_inside 106 = .ok (.invokevirtual 122, 3) := by decide +kernel
theorem dX12_inside_109 : decode cX12_inside 109 = .ok (.i2l, 1) := by decide +kernel
theorem dX12_inside_110 : decode cX12_inside 110 = .ok (.lstore 8, 2) := by decide +kernel
theorem dX12_inside_112 : decode cX12_inside 112 = .ok (.aload_n 0, 1) := by decide +kernel
theorem dX12_inside_113 : decode cX12_inside 113 = .ok (.iload_n 1, 1) := by decide +kernel
theorem dX12_inside_114 : decode cX12_inside 114 = .ok (.iload_n 3, 1) := by decide +kernel
theorem dX12_inside_115 : decode cX12_inside 115 = .ok (.iconst 1, 1) := by decide +kernel
theorem dX12_inside_116 : decode cX12_inside 116 = .ok (.iadd, 1) := by decide +kernel
theorem dX12_inside_117 : decode cX12_inside 117 = .ok (.iconst 0, 1) := by decide +kernel
theorem dX12_inside_118 : decode cX12_inside 118 = .ok (.invokevirtual 122, 3) := by decide +kernel
theorem dX12_inside_121 : decode cX12_inside 121 = .ok (.i2l, 1) := by decide +kernel
theorem dX12_inside_122 : decode cX12_inside 122 = .ok (.lstore 10, 2) := by decide +kernel
theorem dX12_inside_124 : decode cX12_inside 124 = .ok (.aload_n 0, 1) := by decide +kernel
theorem dX12_inside_125 : decode cX12_inside 125 = .ok (.iload_n 1, 1) := by decide +kernel
theorem dX12_inside_126 : decode cX12_inside 126 = .ok (.iload_n 3, 1) := by decide +kernel
theorem dX12_inside_127 : decode cX12_inside 127 = .ok (.iconst 1, 1) := by decide +kernel
theorem dX12_inside_128 : decode cX12_inside 128 = .ok (.iadd, 1) := by decide +kernel
theorem dX12_inside_129 : decode cX12_inside 129 = .ok (.invokevirtual 82, 3) := by decide +kernel
theorem dX12_inside_132 : decode cX12_inside 132 = .ok (.aload_n 0, 1) := by decide +kernel
theorem dX12_inside_133 : decode cX12_inside 133 = .ok (.iload_n 1, 1) := by decide +kernel
theorem dX12_inside_134 : decode cX12_inside 134 = .ok (.iload_n 3, 1) := by decide +kernel
theorem dX12_inside_135 : decode cX12_inside 135 = .ok (.invokevirtual 82, 3) := by decide +kernel
theorem dX12_inside_138 : decode cX12_inside 138 = .ok (.isub, 1) := by decide +kernel
theorem dX12_inside_139 : decode cX12_inside 139 = .ok (.i2l, 1) := by decide +kernel
theorem dX12_inside_140 : decode cX12_inside 140 = .ok (.lstore 12, 2) := by decide +kernel
theorem dX12_inside_142 : decode cX12_inside 142 = .ok (.iload_n 2, 1) := by decide +kernel
theorem dX12_inside_143 : decode cX12_inside 143 = .ok (.aload_n 0, 1) := by decide +kernel
theorem dX12_inside_144 : decode cX12_inside 144 = .ok (.iload_n 1, 1) := by decide +kernel
theorem dX12_inside_145 : decode cX12_inside 145 = .ok (.iload_n 3, 1) := by decide +kernel
theorem dX12_inside_146 : decode cX12_inside 146 = .ok (.invokevirtual 82, 3) := by decide +kernel
theorem dX12_inside_149 : decode cX12_inside 149 = .ok (.isub, 1) := by decide +kernel
theorem dX12_inside_150 : decode cX12_inside 150 = .ok (.i2l, 1) := by decide +kernel
theorem dX12_inside_151 : decode cX12_inside 151 = .ok (.lstore 14, 2) := by decide +kernel
theorem dX12_inside_153 : decode cX12_inside 153 = .ok (.lload 4, 2) := by decide +kernel
theorem dX12_inside_155 : decode cX12_inside 155 = .ok (.ldc2_w 60, 3) := by decide +kernel
theorem dX12_inside_158 : decode cX12_inside 158 = .ok (.lload 14, 2) := by decide +kernel
theorem dX12_inside_160 : decode cX12_inside 160 = .ok (.lmul, 1) := by decide +kernel
theorem dX12_inside_161 : decode cX12_inside 161 = .ok (.lload 14, 2) := by decide +kernel
theorem dX12_inside_163 : decode cX12_inside 163 = .ok (.lmul, 1) := by decide +kernel
theorem dX12_inside_164 : decode cX12_inside 164 = .ok (.lload 14, 2) := by decide +kernel
theorem dX12_inside_166 : decode cX12_inside 166 = .ok (.lmul, 1) := by decide +kernel
theorem dX12_inside_167 : decode cX12_inside 167 = .ok (.ldc2_w 126, 3) := by decide +kernel
theorem dX12_inside_170 : decode cX12_inside 170 = .ok (.lload 14, 2) := by decide +kernel
theorem dX12_inside_172 : decode cX12_inside 172 = .ok (.lmul, 1) := by decide +kernel
theorem dX12_inside_173 : decode cX12_inside 173 = .ok (.lload 14, 2) := by decide +kernel
theorem dX12_inside_175 : decode cX12_inside 175 = .ok (.lmul, 1) := by decide +kernel
theorem dX12_inside_176 : decode cX12_inside 176 = .ok (.lload 12, 2) := by decide +kernel
theorem dX12_inside_178 : decode cX12_inside 178 = .ok (.lmul, 1) := by decide +kernel
theorem dX12_inside_179 : decode cX12_inside 179 = .ok (.lsub, 1) := by decide +kernel
theorem dX12_inside_180 : decode cX12_inside 180 = .ok (.lload 12, 2) := by decide +kernel
theorem dX12_inside_182 : decode cX12_inside 182 = .ok (.lload 12, 2) := by decide +kernel
theorem dX12_inside_184 : decode cX12_inside 184 = .ok (.lmul, 1) := by decide +kernel
theorem dX12_inside_185 : decode cX12_inside 185 = .ok (.lload 12, 2) := by decide +kernel
theorem dX12_inside_187 : decode cX12_inside 187 = .ok (.lmul, 1) := by decide +kernel
theorem dX12_inside_188 : decode cX12_inside 188 = .ok (.ladd, 1) := by decide +kernel
theorem dX12_inside_189 : decode cX12_inside 189 = .ok (.lmul, 1) := by decide +kernel
theorem dX12_inside_190 : decode cX12_inside 190 = .ok (.lload 6, 2) := by decide +kernel
theorem dX12_inside_192 : decode cX12_inside 192 = .ok (.ldc2_w 126, 3) := by decide +kernel
theorem dX12_inside_195 : decode cX12_inside 195 = .ok (.lload 14, 2) := by decide +kernel
theorem dX12_inside_197 : decode cX12_inside 197 = .ok (.lmul, 1) := by decide +kernel
theorem dX12_inside_198 : decode cX12_inside 198 = .ok (.lload 14, 2) := by decide +kernel
theorem dX12_inside_200 : decode cX12_inside 200 = .ok (.lmul, 1) := by decide +kernel
theorem dX12_inside_201 : decode cX12_inside 201 = .ok (.lload 12, 2) := by decide +kernel
theorem dX12_inside_203 : decode cX12_inside 203 = .ok (.lmul, 1) := by decide +kernel
theorem dX12_inside_204 : decode cX12_inside 204 = .ok (.ldc2_w 60, 3) := by decide +kernel
theorem dX12_inside_207 : decode cX12_inside 207 = .ok (.lload 14, 2) := by decide +kernel
theorem dX12_inside_209 : decode cX12_inside 209 = .ok (.lmul, 1) := by decide +kernel
theorem dX12_inside_210 : decode cX12_inside 210 = .ok (.lload 14, 2) := by decide +kernel
theorem dX12_inside_212 : decode cX12_inside 212 = .ok (.lmul, 1) := by decide +kernel
theorem dX12_inside_213 : decode cX12_inside 213 = .ok (.lload 14, 2) := by decide +kernel
theorem dX12_inside_215 : decode cX12_inside 215 = .ok (.lmul, 1) := by decide +kernel
theorem dX12_inside_216 : decode cX12_inside 216 = .ok (.lsub, 1) := by decide +kernel
theorem dX12_inside_217 : decode cX12_inside 217 = .ok (.lmul, 1) := by decide +kernel
theorem dX12_inside_218 : decode cX12_inside 218 = .ok (.ladd, 1) := by decide +kernel
theorem dX12_inside_219 : decode cX12_inside 219 = .ok (.lstore 16, 2) := by decide +kernel
theorem dX12_inside_221 : decode cX12_inside 221 = .ok (.lload 16, 2) := by decide +kernel
theorem dX12_inside_223 : decode cX12_inside 223 = .ok (.lload 12, 2) := by decide +kernel
theorem dX12_inside_225 : decode cX12_inside 225 = .ok (.lload 8, 2) := by decide +kernel
theorem dX12_inside_227 : decode cX12_inside 227 = .ok (.lmul, 1) := by decide +kernel
theorem dX12_inside_228 : decode cX12_inside 228 = .ok (.lload 14, 2) := by decide +kernel
theorem dX12_inside_230 : decode cX12_inside 230 = .ok (.lload 14, 2) := by decide +kernel
theorem dX12_inside_232 : decode cX12_inside 232 = .ok (.lmul, 1) := by decide +kernel
theorem dX12_inside_233 : decode cX12_inside 233 = .ok (.lload 14, 2) := by decide +kernel
theorem dX12_inside_235 : decode cX12_inside 235 = .ok (.lmul, 1) := by decide +kernel
theorem dX12_inside_236 : decode cX12_inside 236 = .ok (.ldc2_w 60, 3) := by decide +kernel
theorem dX12_inside_239 : decode cX12_inside 239 = .ok (.lload 14, 2) := by decide +kernel
theorem dX12_inside_241 : decode cX12_inside 241 = .ok (.lmul, 1) := by decide +kernel
theorem dX12_inside_242 : decode cX12_inside 242 = .ok (.lload 14, 2) := by decide +kernel
theorem dX12_inside_244 : decode cX12_inside 244 = .ok (.lmul, 1) := by decide +kernel
theorem dX12_inside_245 : decode cX12_inside 245 = .ok (.lload 12, 2) := by decide +kernel
theorem dX12_inside_247 : decode cX12_inside 247 = .ok (.lmul, 1) := by decide +kernel
theorem dX12_inside_248 : decode cX12_inside 248 = .ok (.lsub, 1) := by decide +kernel
theorem dX12_inside_249 : decode cX12_inside 249 = .ok (.lload 14, 2) := by decide +kernel
theorem dX12_inside_251 : decode cX12_inside 251 = .ok (.lload 12, 2) := by decide +kernel
theorem dX12_inside_253 : decode cX12_inside 253 = .ok (.lmul, 1) := by decide +kernel
theorem dX12_inside_254 : decode cX12_inside 254 = .ok (.lload 12, 2) := by decide +kernel
theorem dX12_inside_256 : decode cX12_inside 256 = .ok (.lmul, 1) := by decide +kernel
theorem dX12_inside_257 : decode cX12_inside 257 = .ok (.ladd, 1) := by decide +kernel
theorem dX12_inside_258 : decode cX12_inside 258 = .ok (.lmul, 1) := by decide +kernel
theorem dX12_inside_259 : decode cX12_inside 259 = .ok (.lload 12, 2) := by decide +kernel
theorem dX12_inside_261 : decode cX12_inside 261 = .ok (.lload 10, 2) := by decide +kernel
theorem dX12_inside_263 : decode cX12_inside 263 = .ok (.lmul, 1) := by decide +kernel
theorem dX12_inside_264 : decode cX12_inside 264 = .ok (.lload 14, 2) := by decide +kernel
theorem dX12_inside_266 : decode cX12_inside 266 = .ok (.lload 14, 2) := by decide +kernel
theorem dX12_inside_268 : decode cX12_inside 268 = .ok (.lmul, 1) := by decide +kernel
theorem dX12_inside_269 : decode cX12_inside 269 = .ok (.lload 14, 2) := by decide +kernel
theorem dX12_inside_271 : decode cX12_inside 271 = .ok (.lmul, 1) := by decide +kernel
theorem dX12_inside_272 : decode cX12_inside 272 = .ok (.lload 14, 2) := by decide +kernel
theorem dX12_inside_274 : decode cX12_inside 274 = .ok (.lload 14, 2) := by decide +kernel
theorem dX12_inside_276 : decode cX12_inside 276 = .ok (.lmul, 1) := by decide +kernel
theorem dX12_inside_277 : decode cX12_inside 277 = .ok (.lload 12, 2) := by decide +kernel
theorem dX12_inside_279 : decode cX12_inside 279 = .ok (.lmul, 1) := by decide +kernel
theorem dX12_inside_280 : decode cX12_inside 280 = .ok (.lsub, 1) := by decide +kernel
theorem dX12_inside_281 : decode cX12_inside 281 = .ok (.lmul, 1) := by decide +kernel
theorem dX12_inside_282 : decode cX12_inside 282 = .ok (.ladd, 1) := by decide +kernel
theorem dX12_inside_283 : decode cX12_inside 283 = .ok (.ladd, 1) := by decide +kernel
theorem dX12_inside_284 : decode cX12_inside 284 = .ok (.lstore 16, 2) := by decide +kernel
theorem dX12_inside_286 : decode cX12_inside 286 = .ok (.lload 16, 2) := by decide +kernel
theorem dX12_inside_288 : decode cX12_inside 288 = .ok (.lload 12, 2) := by decide +kernel
theorem dX12_inside_290 : decode cX12_inside 290 = .ok (.lload 12, 2) := by decide +kernel
theorem dX12_inside_292 : decode cX12_inside 292 = .ok (.lmul, 1) := by decide +kernel
theorem dX12_inside_293 : decode cX12_inside 293 = .ok (.lload 12, 2) := by decide +kernel
theorem dX12_inside_295 : decode cX12_inside 295 = .ok (.lmul, 1) := by decide +kernel
theorem dX12_inside_296 : decode cX12_inside 296 = .ok (.invokestatic 93, 3) := by decide +kernel
theorem dX12_inside_299 : decode cX12_inside 299 = .ok (.l2i, 1) := by decide +kernel
theorem dX12_inside_300 : decode cX12_inside 300 = .ok (.ireturn, 1) := by decide +kernel
theorem dX12_valueAt_0 : decode cX12_valueAt 0 = .ok (.aload_n 0, 1) := by decide +kernel
theorem dX12_valueAt_1 : decode cX12_valueAt 1 = .ok (.iload_n 1, 1) := by decide +kernel
theorem dX12_valueAt_2 : decode cX12_valueAt 2 = .ok (.invokevirtual 78, 3) := by decide +kernel
theorem dX12_valueAt_5 : decode cX12_valueAt 5 = .ok (.istore_n 3, 1) := by decide +kernel
theorem dX12_valueAt_6 : decode cX12_valueAt 6 = .ok (.aload_n 0, 1) := by decide +kernel
theorem dX12_valueAt_7 : decode cX12_valueAt 7 = .ok (.iload_n 1, 1) := by decide +kernel
theorem dX12_valueAt_8 : decode cX12_valueAt 8 = .ok (.iconst 0, 1) := by decide +kernel
theorem dX12_valueAt_9 : decode cX12_valueAt 9 = .ok (.invokevirtual 82, 3) := by decide +kernel
theorem dX12_valueAt_12 : decode cX12_valueAt 12 = .ok (.istore 4, 2) := by decide +kernel
theorem dX12_valueAt_14 : decode cX12_valueAt 14 = .ok (.aload_n 0, 1) := by decide +kernel
theorem dX12_valueAt_15 : decode cX12_valueAt 15 = .ok (.iload_n 1, 1) := by decide +kernel
theorem dX12_valueAt_16 : decode cX12_valueAt 16 = .ok (.iload_n 3, 1) := by decide +kernel
theorem dX12_valueAt_17 : decode cX12_valueAt 17 = .ok (.iconst 1, 1) := by decide +kernel
theorem dX12_valueAt_18 : decode cX12_valueAt 18 = .ok (.isub, 1) := by decide +kernel
theorem dX12_valueAt_19 : decode cX12_valueAt 19 = .ok (.invokevirtual 82, 3) := by decide +kernel
theorem dX12_valueAt_22 : decode cX12_valueAt 22 = .ok (.istore 5, 2) := by decide +kernel
theorem dX12_valueAt_24 : decode cX12_valueAt 24 = .ok (.iload_n 2, 1) := by decide +kernel
theorem dX12_valueAt_25 : decode cX12_valueAt 25 = .ok (.iload 4, 2) := by decide +kernel
theorem dX12_valueAt_27 : decode cX12_valueAt 27 = .ok (.iload 5, 2) := by decide +kernel
theorem dX12_valueAt_29 : decode cX12_valueAt 29 = .ok (.invokestatic 66, 3) := by decide +kernel
theorem dX12_valueAt_32 : decode cX12_valueAt 32 = .ok (.ifCond .eq 10, 3) := by decide +kernel
theorem dX12_valueAt_35 : decode cX12_valueAt 35 = .ok (.aload_n 0, 1) := by decide +kernel
theorem dX12_valueAt_36 : decode cX12_valueAt 36 = .ok (.iload_n 1, 1) := by decide +kernel
theorem dX12_valueAt_37 : decode cX12_valueAt 37 = .ok (.iload_n 2, 1) := by decide +kernel
theorem dX12_valueAt_38 : decode cX12_valueAt 38 = .ok (.invokevirtual 128, 3) := by decide +kernel
theorem dX12_valueAt_41 : decode cX12_valueAt 41 = .ok (.ireturn, 1) := by decide +kernel
theorem dX12_valueAt_42 : decode cX12_valueAt 42 = .ok (.iload_n 2, 1) := by decide +kernel
theorem dX12_valueAt_43 : decode cX12_valueAt 43 = .ok (.iload 4, 2) := by decide +kernel
theorem dX12_valueAt_45 : decode cX12_valueAt 45 = .ok (.if_icmp .ge 7, 3) := by decide +kernel
theorem dX12_valueAt_48 : decode cX12_valueAt 48 = .ok (.iconst 0, 1) := by decide +kernel
theorem dX12_valueAt_49 : decode cX12_valueAt 49 = .ok (.goto 6, 3) := by decide +kernel
theorem dX12_valueAt_52 : decode cX12_valueAt 52 = .ok (.iload_n 3, 1) := by decide +kernel
theorem dX12_valueAt_53 : decode cX12_valueAt 53 = .ok (.iconst 1, 1) := by decide +kernel
theorem dX12_valueAt_54 : decode cX12_valueAt 54 = .ok (.isub, 1) := by decide +kernel
theorem dX12_valueAt_55 : decode cX12_valueAt 55 = .ok (.istore 6, 2) := by decide +kernel
theorem dX12_valueAt_57 : decode cX12_valueAt 57 = .ok (.iload_n 3, 1) := by decide +kernel
theorem dX12_valueAt_58 : decode cX12_valueAt 58 = .ok (.iconst 1, 1) := by decide +kernel
theorem dX12_valueAt_59 : decode cX12_valueAt 59 = .ok (.if_icmp .ne 7, 3) := by decide +kernel
theorem dX12_valueAt_62 : decode cX12_valueAt 62 = .ok (.iconst 0, 1) := by decide +kernel
theorem dX12_valueAt_63 : decode cX12_valueAt 63 = .ok (.goto 24, 3) := by decide +kernel
theorem dX12_valueAt_66 : decode cX12_valueAt 66 = .ok (.aload_n 0, 1) := by decide +kernel
theorem dX12_valueAt_67 : decode cX12_valueAt 67 = .ok (.getfield 7, 3) := by decide +kernel
theorem dX12_valueAt_70 : decode cX12_valueAt 70 = .ok (.iload_n 1, 1) := by decide +kernel
theorem dX12_valueAt_71 : decode cX12_valueAt 71 = .ok (.iload_n 2, 1) := by decide +kernel
theorem dX12_valueAt_72 : decode cX12_valueAt 72 = .ok (.iload 4, 2) := by decide +kernel
theorem dX12_valueAt_74 : decode cX12_valueAt 74 = .ok (.if_icmp .ge 7, 3) := by decide +kernel
theorem dX12_valueAt_77 : decode cX12_valueAt 77 = .ok (.iconst 1, 1) := by decide +kernel
theorem dX12_valueAt_78 : decode cX12_valueAt 78 = .ok (.goto 4, 3) := by decide +kernel
theorem dX12_valueAt_81 : decode cX12_valueAt 81 = .ok (.iconst 2, 1) := by decide +kernel
theorem dX12_valueAt_82 : decode cX12_valueAt 82 = .ok (.iconst 0, 1) := by decide +kernel
theorem dX12_valueAt_83 : decode cX12_valueAt 83 = .ok (.invokestatic 70, 3) := by decide +kernel
theorem dX12_valueAt_86 : decode cX12_valueAt 86 = .ok (.iaload, 1) := by decide +kernel
theorem dX12_valueAt_87 : decode cX12_valueAt 87 = .ok (.istore 7, 2) := by decide +kernel
theorem dX12_valueAt_89 : decode cX12_valueAt 89 = .ok (.iload 5, 2) := by decide +kernel
theorem dX12_valueAt_91 : decode cX12_valueAt 91 = .ok (.iload 4, 2) := by decide +kernel
theorem dX12_valueAt_93 : decode cX12_valueAt 93 = .ok (.isub, 1) := by decide +kernel
theorem dX12_valueAt_94 : decode cX12_valueAt 94 = .ok (.istore 8, 2) := by decide +kernel
theorem dX12_valueAt_96 : decode cX12_valueAt 96 = .ok (.iload 8, 2) := by decide +kernel
theorem dX12_valueAt_98 : decode cX12_valueAt 98 = .ok (.ifCond .ne 7, 3) := by decide +kernel
theorem dX12_valueAt_101 : decode cX12_valueAt 101 = .ok (.iconst 0, 1) := by decide +kernel
theorem dX12_valueAt_102 : decode cX12_valueAt 102 = .ok (.goto 15, 3) := by decide +kernel
theorem dX12_valueAt_105 : decode cX12_valueAt 105 = .ok (.iload_n 2, 1) := by decide +kernel
theorem dX12_valueAt_106 : decode cX12_valueAt 106 = .ok (.iload 4, 2) := by decide +kernel
theorem dX12_valueAt_108 : decode cX12_valueAt 108 = .ok (.isub, 1) := by decide +kernel
theorem dX12_valueAt_109 : decode cX12_valueAt 109 = .ok (.i2l, 1) := by decide +kernel
theorem dX12_valueAt_110 : decode cX12_valueAt 110 = .ok (.iload 8, 2) := by decide +kernel
theorem dX12_valueAt_112 : decode cX12_valueAt 112 = .ok (.i2l, 1) := by decide +kernel
theorem dX12_valueAt_113 : decode cX12_valueAt 113 = .ok (.invokestatic 62, 3) := by decide +kernel
theorem dX12_valueAt_116 : decode cX12_valueAt 116 = .ok (.l2i, 1) := by decide +kernel
theorem dX12_valueAt_117 : decode cX12_valueAt 117 = .ok (.istore 9, 2) := by decide +kernel
theorem dX12_valueAt_119 : decode cX12_valueAt 119 = .ok (.iload 7, 2) := by decide +kernel
theorem dX12_valueAt_121 : decode cX12_valueAt 121 = .ok (.tableswitch 166 0 3 #[31, 48, 94, 107], 31) := by decide +kernel
theorem dX12_valueAt_152 : decode cX12_valueAt 152 = .ok (.bipush 64, 2) := by decide +kernel
theorem dX12_valueAt_154 : decode cX12_valueAt 154 = .ok (.aload_n 0, 1) := by decide +kernel
theorem dX12_valueAt_155 : decode cX12_valueAt 155 = .ok (.getfield 7, 3) := by decide +kernel
theorem dX12_valueAt_158 : decode cX12_valueAt 158 = .ok (.iload_n 1, 1) := by decide +kernel
theorem dX12_valueAt_159 : decode cX12_valueAt 159 = .ok (.bipush 28, 2) := by decide +kernel
theorem dX12_valueAt_161 : decode cX12_valueAt 161 = .ok (.iload 6, 2) := by decide +kernel
theorem dX12_valueAt_163 : decode cX12_valueAt 163 = .ok (.invokestatic 70, 3) := by decide +kernel
theorem dX12_valueAt_166 : decode cX12_valueAt 166 = .ok (.iaload, 1) := by decide +kernel
theorem dX12_valueAt_167 : decode cX12_valueAt 167 = .ok (.imul, 1) := by decide +kernel
theorem dX12_valueAt_168 : decode cX12_valueAt 168 = .ok (.ireturn, 1) := by decide +kernel
theorem dX12_valueAt_169 : decode cX12_valueAt 169 = .ok (.bipush 64, 2) := by decide +kernel
theorem dX12_valueAt_171 : decode cX12_valueAt 171 = .ok (.aload_n 0, 1) := by decide +kernel
theorem dX12_valueAt_172 : decode cX12_valueAt 172 = .ok (.getfield 7, 3) := by decide +kernel
theorem dX12_valueAt_175 : decode cX12_valueAt 175 = .ok (.iload_n 1, 1) := by decide +kernel
theorem dX12_valueAt_176 : decode cX12_valueAt 176 = .ok (.bipush 28, 2) := by decide +kernel
theorem dX12_valueAt_178 : decode cX12_valueAt 178 = .ok (.iload 6, 2) := by decide +kernel
theorem dX12_valueAt_180 : decode cX12_valueAt 180 = .ok (.invokestatic 70, 3) := by decide +kernel
theorem dX12_valueAt_183 : decode cX12_valueAt 183 = .ok (.iaload, 1) := by decide +kernel
theorem dX12_valueAt_184 : decode cX12_valueAt 184 = .ok (.imul, 1) := by decide +kernel
theorem dX12_valueAt_185 : decode cX12_valueAt 185 = .ok (.aload_n 0, 1) := by decide +kernel
theorem dX12_valueAt_186 : decode cX12_valueAt 186 = .ok (.iload_n 1, 1) := by decide +kernel
theorem dX12_valueAt_187 : decode cX12_valueAt 187 = .ok (.iload 6, 2) := by decide +kernel
theorem dX12_valueAt_189 : decode cX12_valueAt 189 = .ok (.iload_n 2, 1) := by decide +kernel
theorem dX12_valueAt_190 : decode cX12_valueAt 190 = .ok (.iload 5, 2) := by decide +kernel
theorem dX12_valueAt_192 : decode cX12_valueAt 192 = .ok (.if_icmp .le 7, 3) := by decide +kernel
theorem dX12_valueAt_195 : decode cX12_valueAt 195 = .ok (.iconst 1, 1) := by decide +kernel
theorem dX12_valueAt_196 : decode cX12_valueAt 196 = .ok (.goto 4, 3) := by decide +kernel
theorem dX12_valueAt_199 : decode cX12_valueAt 199 = .ok (.iconst 0, 1) := by decide +kernel
theorem dX12_valueAt_200 : decode cX12_valueAt 200 = .ok (.invokevirtual 122, 3) := by decide +kernel
theorem dX12_valueAt_203 : decode cX12_valueAt 203 = .ok (.iload_n 2, 1) := by decide +kernel
theorem dX12_valueAt_204 : decode cX12_valueAt 204 = .ok (.aload_n 0, 1) := by decide +kernel
theorem dX12_valueAt_205 : decode cX12_valueAt 205 = .ok (.iload_n 1, 1) := by decide +kernel
theorem dX12_valueAt_206 : decode cX12_valueAt 206 = .ok (.iload 6, 2) := by decide +kernel
theorem dX12_valueAt_208 : decode cX12_valueAt 208 = .ok (.invokevirtual 82, 3) := by decide +kernel
theorem dX12_valueAt_211 : decode cX12_valueAt 211 = .ok (.isub, 1) := by decide +kernel
theorem dX12_valueAt_212 : decode cX12_valueAt 212 = .ok (.imul, 1) := by decide +kernel
theorem dX12_valueAt_213 : decode cX12_valueAt 213 = .ok (.iadd, 1) := by decide +kernel
theorem dX12_valueAt_214 : decode cX12_valueAt 214 = .ok (.ireturn, 1) := by decide +kernel
theorem dX12_valueAt_215 : decode cX12_valueAt 215 = .ok (.aload_n 0, 1) := by decide +kernel
theorem dX12_valueAt_216 : decode cX12_valueAt 216 = .ok (.iload_n 1, 1) := by decide +kernel
theorem dX12_valueAt_217 : decode cX12_valueAt 217 = .ok (.iload_n 2, 1) := by decide +kernel
theorem dX12_valueAt_218 : decode cX12_valueAt 218 = .ok (.iload 9, 2) := by decide +kernel
theorem dX12_valueAt_220 : decode cX12_valueAt 220 = .ok (.iload 8, 2) := by decide +kernel
theorem dX12_valueAt_222 : decode cX12_valueAt 222 = .ok (.imul, 1) := by decide +kernel
theorem dX12_valueAt_223 : decode cX12_valueAt 223 = .ok (.isub, 1) := by decide +kernel
theorem dX12_valueAt_224 : decode cX12_valueAt 224 = .ok (.invokevirtual 128, 3) := by decide +kernel
theorem dX12_valueAt_227 : decode cX12_valueAt 227 = .ok (.ireturn, 1) := by decide +kernel
theorem dX12_valueAt_228 : decode cX12_valueAt 228 = .ok (.iload_n 2, 1) := by decide +kernel
theorem dX12_valueAt_229 : decode cX12_valueAt 229 = .ok (.iload 4, 2) := by decide +kernel
theorem dX12_valueAt_231 : decode cX12_valueAt 231 = .ok (.isub, 1) := by decide +kernel
theorem dX12_valueAt_232 : decode cX12_valueAt 232 = .ok (.iconst 2, 1) := by decide +kernel
theorem dX12_valueAt_233 : decode cX12_valueAt 233 = .ok (.iload 8, 2) := by decide +kernel
theorem dX12_valueAt_235 : decode cX12_valueAt 235 = .ok (.imul, 1) := by decide +kernel
theorem dX12_valueAt_236 : decode cX12_valueAt 236 = .ok (.iload_n 2, 1) := by decide +kernel
theorem dX12_valueAt_237 : decode cX12_valueAt 237 = .ok (.iload 4, 2) := by decide +kernel
theorem dX12_valueAt_239 : decode cX12_valueAt 239 = .ok (.isub, 1) := by decide +kernel
theorem dX12_valueAt_240 : decode cX12_valueAt 240 = .ok (.i2l, 1) := by decide +kernel
theorem dX12_valueAt_241 : decode cX12_valueAt 241 = .ok (.ldc2_w 60, 3) := by decide +kernel
theorem dX12_valueAt_244 : decode cX12_valueAt 244 = .ok (.iload 8, 2) := by decide +kernel
theorem dX12_valueAt_246 : decode cX12_valueAt 246 = .ok (.i2l, 1) := by decide +kernel
theorem dX12_valueAt_247 : decode cX12_valueAt 247 = .ok (.lmul, 1) := by decide +kernel
theorem dX12_valueAt_248 : decode cX12_valueAt 248 = .ok (.invokestatic 62, 3) := by decide +kernel
theorem dX12_valueAt_251 : decode cX12_valueAt 251 = .ok (.l2i, 1) := by decide +kernel
theorem dX12_valueAt_252 : decode cX12_valueAt 252 = .ok (.imul, 1) := by decide +kernel
theorem dX12_valueAt_253 : decode cX12_valueAt 253 = .ok (.isub, 1) := by decide +kernel
theorem dX12_valueAt_254 : decode cX12_valueAt 254 = .ok (.istore 10, 2) := by decide +kernel
theorem dX12_valueAt_256 : decode cX12_valueAt 256 = .ok (.aload_n 0, 1) := by decide +kernel
theorem dX12_valueAt_257 : decode cX12_valueAt 257 = .ok (.iload_n 1, 1) := by decide +kernel
theorem dX12_valueAt_258 : decode cX12_valueAt 258 = .ok (.iload 10, 2) := by decide +kernel
theorem dX12_valueAt_260 : decode cX12_valueAt 260 = .ok (.iload 8, 2) := by decide +kernel
theorem dX12_valueAt_262 : decode cX12_valueAt 262 = .ok (.if_icmp .gt 11, 3) := by decide +kernel
theorem dX12_valueAt_265 : decode cX12_valueAt 265 = .ok (.iload 4, 2) := by decide +kernel
theorem dX12_valueAt_267 : decode cX12_valueAt 267 = .ok (.iload 10, 2) := by decide +kernel
theorem dX12_valueAt_269 : decode cX12_valueAt 269 = .ok (.iadd, 1) := by decide +kernel
theorem dX12_valueAt_270 : decode cX12_valueAt 270 = .ok (.goto 13, 3) := by decide +kernel
theorem dX12_valueAt_273 : decode cX12_valueAt 273 = .ok (.iload 4, 2) := by decide +kernel
theorem dX12_valueAt_275 : decode cX12_valueAt 275 = .ok (.iconst 2, 1) := by decide +kernel
theorem dX12_valueAt_276 : decode cX12_valueAt 276 = .ok (.iload 8, 2) := by decide +kernel
theorem dX12_valueAt_278 : decode cX12_valueAt 278 = .ok (.imul, 1) := by decide +kernel
theorem dX12_valueAt_279 : decode cX12_valueAt 279 = .ok (.iadd, 1) := by decide +kernel
theorem dX12_valueAt_280 : decode cX12_valueAt 280 = .ok (.iload 10, 2) := by decide +kernel
theorem dX12_valueAt_282 : decode cX12_valueAt 282 = .ok (.isub, 1) := by decide +kernel
theorem dX12_valueAt_283 : decode cX12_valueAt 283 = .ok (.invokevirtual 128, 3) := by decide +kernel
theorem dX12_valueAt_286 : decode cX12_valueAt 286 = .ok (.ireturn, 1) := by decide +kernel
theorem dX12_valueAt_287 : decode cX12_valueAt 287 = .ok (.aload_n 0, 1) := by decide +kernel
theorem dX12_valueAt_288 : decode cX12_valueAt 288 = .ok (.iload_n 1, 1) := by decide +kernel
theorem dX12_valueAt_289 : decode cX12_valueAt 289 = .ok (.iload_n 2, 1) := by decide +kernel
theorem dX12_valueAt_290 : decode cX12_valueAt 290 = .ok (.iload 9, 2) := by decide +kernel
theorem dX12_valueAt_292 : decode cX12_valueAt 292 = .ok (.iload 8, 2) := by decide +kernel
theorem dX12_valueAt_294 : decode cX12_valueAt 294 = .ok (.imul, 1) := by decide +kernel
theorem dX12_valueAt_295 : decode cX12_valueAt 295 = .ok (.isub, 1) := by decide +kernel
theorem dX12_valueAt_296 : decode cX12_valueAt 296 = .ok (.invokevirtual 128, 3) := by decide +kernel
theorem dX12_valueAt_299 : decode cX12_valueAt 299 = .ok (.iload 9, 2) := by decide +kernel
theorem dX12_valueAt_301 : decode cX12_valueAt 301 = .ok (.bipush 64, 2) := by decide +kernel
theorem dX12_valueAt_303 : decode cX12_valueAt 303 = .ok (.imul, 1) := by decide +kernel
theorem dX12_valueAt_304 : decode cX12_valueAt 304 = .ok (.aload_n 0, 1) := by decide +kernel
theorem dX12_valueAt_305 : decode cX12_valueAt 305 = .ok (.getfield 7, 3) := by decide +kernel
theorem dX12_valueAt_308 : decode cX12_valueAt 308 = .ok (.iload_n 1, 1) := by decide +kernel
theorem dX12_valueAt_309 : decode cX12_valueAt 309 = .ok (.bipush 28, 2) := by decide +kernel
theorem dX12_valueAt_311 : decode cX12_valueAt 311 = .ok (.iload_n 3, 1) := by decide +kernel
theorem dX12_valueAt_312 : decode cX12_valueAt 312 = .ok (.iconst 1, 1) := by decide +kernel
theorem dX12_valueAt_313 : decode cX12_valueAt 313 = .ok (.isub, 1) := by decide +kernel
theorem dX12_valueAt_314 : decode cX12_valueAt 314 = .ok (.invokestatic 70, 3) := by decide +kernel
theorem dX12_valueAt_317 : decode cX12_valueAt 317 = .ok (.iaload, 1) := by decide +kernel
theorem dX12_valueAt_318 : decode cX12_valueAt 318 = .ok (.aload_n 0, 1) := by decide +kernel
theorem dX12_valueAt_319 : decode cX12_valueAt 319 = .ok (.getfield 7, 3) := by decide +kernel
theorem dX12_valueAt_322 : decode cX12_valueAt 322 = .ok (.iload_n 1, 1) := by decide +kernel
theorem dX12_valueAt_323 : decode cX12_valueAt 323 = .ok (.bipush 28, 2) := by decide +kernel
theorem dX12_valueAt_325 : decode cX12_valueAt 325 = .ok (.iconst 0, 1) := by decide +kernel
theorem dX12_valueAt_326 : decode cX12_valueAt 326 = .ok (.invokestatic 70, 3) := by decide +kernel
theorem dX12_valueAt_329 : decode cX12_valueAt 329 = .ok (.iaload, 1) := by decide +kernel
theorem dX12_valueAt_330 : decode cX12_valueAt 330 = .ok (.isub, 1) := by decide +kernel
theorem dX12_valueAt_331 : decode cX12_valueAt 331 = .ok (.imul, 1) := by decide +kernel
theorem dX12_valueAt_332 : decode cX12_valueAt 332 = .ok (.iadd, 1) := by decide +kernel
theorem dX12_valueAt_333 : decode cX12_valueAt 333 = .ok (.ireturn, 1) := by decide +kernel
theorem dX12_value_0 : decode cX12_value 0 = .ok (.iload_n 1, 1) := by decide +kernel
theorem dX12_value_1 : decode cX12_value 1 = .ok (.invokestatic 74, 3) := by decide +kernel
theorem dX12_value_4 : decode cX12_value 4 = .ok (.ifCond .ne 6, 3) := by decide +kernel
theorem dX12_value_7 : decode cX12_value 7 = .ok (.ldc 131, 2) := by decide +kernel
theorem dX12_value_9 : decode cX12_value 9 = .ok (.ireturn, 1) := by decide +kernel
theorem dX12_value_10 : decode cX12_value 10 = .ok (.iload_n 2, 1) := by decide +kernel
theorem dX12_value_11 : decode cX12_value 11 = .ok (.iconst 0, 1) := by decide +kernel
theorem dX12_value_12 : decode cX12_value 12 = .ok (.sipush 960, 3) := by decide +kernel
theorem dX12_value_15 : decode cX12_value 15 = .ok (.invokestatic 66, 3) := by decide +kernel
theorem dX12_value_18 : decode cX12_value 18 = .ok (.ifCond .ne 6, 3) := by decide +kernel
theorem dX12_value_21 : decode cX12_value 21 = .ok (.ldc 132, 2) := by decide +kernel
theorem dX12_value_23 : decode cX12_value 23 = .ok (.ireturn, 1) := by decide +kernel
theorem dX12_value_24 : decode cX12_value 24 = .ok (.aload_n 0, 1) := by decide +kernel
theorem dX12_value_25 : decode cX12_value 25 = .ok (.iload_n 1, 1) := by decide +kernel
theorem dX12_value_26 : decode cX12_value 26 = .ok (.invokevirtual 78, 3) := by decide +kernel
theorem dX12_value_29 : decode cX12_value 29 = .ok (.ifCond .ne 8, 3) := by decide +kernel
theorem dX12_value_32 : decode cX12_value 32 = .ok (.ldc 90, 2) := by decide +kernel
theorem dX12_value_34 : decode cX12_value 34 = .ok (.goto 9, 3) := by decide +kernel
theorem dX12_value_37 : decode cX12_value 37 = .ok (.aload_n 0, 1) := by decide +kernel
theorem dX12_value_38 : decode cX12_value 38 = .ok (.iload_n 1, 1) := by decide +kernel
theorem dX12_value_39 : decode cX12_value 39 = .ok (.iload_n 2, 1) := by decide +kernel
theorem dX12_value_40 : decode cX12_value 40 = .ok (.invokevirtual 133, 3) := by decide +kernel
theorem dX12_value_43 : decode cX12_value 43 = .ok (.ireturn, 1) := by decide +kernel
theorem dX12_isRange_0 : decode cX12_isRange 0 = .ok (.iload_n 1, 1) := by decide +kernel
theorem dX12_isRange_1 : decode cX12_isRange 1 = .ok (.invokestatic 74, 3) := by decide +kernel
theorem dX12_isRange_4 : decode cX12_isRange 4 = .ok (.ifCond .eq 37, 3) := by decide +kernel
theorem dX12_isRange_7 : decode cX12_isRange 7 = .ok (.iload_n 2, 1) := by decide +kernel
theorem dX12_isRange_8 : decode cX12_isRange 8 = .ok (.iconst 0, 1) := by decide +kernel
theorem dX12_isRange_9 : decode cX12_isRange 9 = .ok (.sipush 960, 3) := by decide +kernel
theorem dX12_isRange_12 : decode cX12_isRange 12 = .ok (.invokestatic 66, 3) := by decide +kernel
theorem dX12_isRange_15 : decode cX12_isRange 15 = .ok (.ifCond .eq 26, 3) := by decide +kernel
theorem dX12_isRange_18 : decode cX12_isRange 18 = .ok (.iload_n 3, 1) := by decide +kernel
theorem dX12_isRange_19 : decode cX12_isRange 19 = .ok (.iload_n 2, 1) := by decide +kernel
theorem dX12_isRange_20 : decode cX12_isRange 20 = .ok (.sipush 960, 3) := by decide +kernel
theorem dX12_isRange_23 : decode cX12_isRange 23 = .ok (.invokestatic 66, 3) := by decide +kernel
theorem dX12_isRange_26 : decode cX12_isRange 26 = .ok (.ifCond .eq 15, 3) := by decide +kernel
theorem dX12_isRange_29 : decode cX12_isRange 29 = .ok (.aload_n 0, 1) := by decide +kernel
theorem dX12_isRange_30 : decode cX12_isRange 30 = .ok (.iload_n 1, 1) := by decide +kernel
theorem dX12_isRange_31 : decode cX12_isRange 31 = .ok (.invokevirtual 78, 3) := by decide +kernel
theorem dX12_isRange_34 : decode cX12_isRange 34 = .ok (.ifCond .le 7, 3) := by decide +kernel
theorem dX12_isRange_37 : decode cX12_isRange 37 = .ok (.iconst 1, 1) := by decide +kernel
theorem dX12_isRange_38 : decode cX12_isRange 38 = .ok (.goto 4, 3) := by decide +kernel
theorem dX12_isRange_41 : decode cX12_isRange 41 = .ok (.iconst 0, 1) := by decide +kernel
theorem dX12_isRange_42 : decode cX12_isRange 42 = .ok (.ireturn, 1) := by decide +kernel
theorem dX12_units_0 : decode cX12_units 0 = .ok (.aload_n 0, 1) := by decide +kernel
theorem dX12_units_1 : decode cX12_units 1 = .ok (.iload_n 1, 1) := by decide +kernel
theorem dX12_units_2 : decode cX12_units 2 = .ok (.iload_n 2, 1) := by decide +kernel
theorem dX12_units_3 : decode cX12_units 3 = .ok (.iload_n 2, 1) := by decide +kernel
theorem dX12_units_4 : decode cX12_units 4 = .ok (.invokevirtual 136, 3) := by decide +kernel
theorem dX12_units_7 : decode cX12_units 7 = .ok (.ifCond .eq 16, 3) := by decide +kernel
theorem dX12_units_10 : decode cX12_units 10 = .ok (.aload_n 0, 1) := by decide +kernel
theorem dX12_units_11 : decode cX12_units 11 = .ok (.iload_n 1, 1) := by decide +kernel
theorem dX12_units_12 : decode cX12_units 12 = .ok (.iload_n 2, 1) := by decide +kernel
theorem dX12_units_13 : decode cX12_units 13 = .ok (.invokevirtual 133, 3) := by decide +kernel
theorem dX12_units_16 : decode cX12_units 16 = .ok (.i2f, 1) := by decide +kernel
theorem dX12_units_17 : decode cX12_units 17 = .ok (.ldc 139, 2) := by decide +kernel
theorem dX12_units_19 : decode cX12_units 19 = .ok (.fdiv, 1) := by decide +kernel
theorem dX12_units_20 : decode cX12_units 20 = .ok (.goto 4, 3) := by decide +kernel
theorem dX12_units_23 : decode cX12_units 23 = .ok (.fconst 0, 1) := by decide +kernel
theorem dX12_units_24 : decode cX12_units 24 = .ok (.freturn, 1) := by decide +kernel
theorem dX12_mean_0 : decode cX12_mean 0 = .ok (.aload_n 0, 1) := by decide +kernel
theorem dX12_mean_1 : decode cX12_mean 1 = .ok (.iload_n 1, 1) := by decide +kernel
theorem dX12_mean_2 : decode cX12_mean 2 = .ok (.iload_n 2, 1) := by decide +kernel
theorem dX12_mean_3 : decode cX12_mean 3 = .ok (.iload_n 3, 1) := by decide +kernel
theorem dX12_mean_4 : decode cX12_mean 4 = .ok (.invokevirtual 136, 3) := by decide +kernel
theorem dX12_mean_7 : decode cX12_mean 7 = .ok (.ifCond .ne 5, 3) := by decide +kernel
theorem dX12_mean_10 : decode cX12_mean 10 = .ok (.dconst 0, 1) := by decide +kernel
theorem dX12_mean_11 : decode cX12_mean 11 = .ok (.dreturn, 1) := by decide +kernel
theorem dX12_mean_12 : decode cX12_mean 12 = .ok (.lconst 0, 1) := by decide +kernel
theorem dX12_mean_13 : decode cX12_mean 13 = .ok (.lstore 4, 2) := by decide +kernel
theorem dX12_mean_15 : decode cX12_mean 15 = .ok (.iload_n 2, 1) := by decide +kernel
theorem dX12_mean_16 : decode cX12_mean 16 = .ok (.istore 6, 2) := by decide +kernel
theorem dX12_mean_18 : decode cX12_mean 18 = .ok (.iload 6, 2) := by decide +kernel
theorem dX12_mean_20 : decode cX12_mean 20 = .ok (.iload_n 3, 1) := by decide +kernel
theorem dX12_mean_21 : decode cX12_mean 21 = .ok (.if_icmp .gt 22, 3) := by decide +kernel
theorem dX12_mean_24 : decode cX12_mean 24 = .ok (.lload 4, 2) := by decide +kernel
theorem dX12_mean_26 : decode cX12_mean 26 = .ok (.aload_n 0, 1) := by decide +kernel
theorem dX12_mean_27 : decode cX12_mean 27 = .ok (.iload_n 1, 1) := by decide +kernel
theorem dX12_mean_28 : decode cX12_mean 28 = .ok (.iload 6, 2) := by decide +kernel
theorem dX12_mean_30 : decode cX12_mean 30 = .ok (.invokevirtual 133, 3) := by decide +kernel
theorem dX12_mean_33 : decode cX12_mean 33 = .ok (.i2l, 1) := by decide +kernel
theorem dX12_mean_34 : decode cX12_mean 34 = .ok (.ladd, 1) := by decide +kernel
theorem dX12_mean_35 : decode cX12_mean 35 = .ok (.lstore 4, 2) := by decide +kernel
theorem dX12_mean_37 : decode cX12_mean 37 = .ok (.iinc 6 1, 3) := by decide +kernel
theorem dX12_mean_40 : decode cX12_mean 40 = .ok (.goto (-22), 3) := by decide +kernel
theorem dX12_mean_43 : decode cX12_mean 43 = .ok (.lload 4, 2) := by decide +kernel
theorem dX12_mean_45 : decode cX12_mean 45 = .ok (.l2d, 1) := by decide +kernel
theorem dX12_mean_46 : decode cX12_mean 46 = .ok (.ldc2_w 140, 3) := by decide +kernel
theorem dX12_mean_49 : decode cX12_mean 49 = .ok (.iload_n 3, 1) := by decide +kernel
theorem dX12_mean_50 : decode cX12_mean 50 = .ok (.iload_n 2, 1) := by decide +kernel
theorem dX12_mean_51 : decode cX12_mean 51 = .ok (.isub, 1) := by decide +kernel
theorem dX12_mean_52 : decode cX12_mean 52 = .ok (.iconst 1, 1) := by decide +kernel
theorem dX12_mean_53 : decode cX12_mean 53 = .ok (.iadd, 1) := by decide +kernel
theorem dX12_mean_54 : decode cX12_mean 54 = .ok (.i2d, 1) := by decide +kernel
theorem dX12_mean_55 : decode cX12_mean 55 = .ok (.dmul, 1) := by decide +kernel
theorem dX12_mean_56 : decode cX12_mean 56 = .ok (.ddiv, 1) := by decide +kernel
theorem dX12_mean_57 : decode cX12_mean 57 = .ok (.dreturn, 1) := by decide +kernel
theorem dX12_extreme_0 : decode cX12_extreme 0 = .ok (.iload_n 1, 1) := by decide +kernel
theorem dX12_extreme_1 : decode cX12_extreme 1 = .ok (.invokestatic 74, 3) := by decide +kernel
theorem dX12_extreme_4 : decode cX12_extreme 4 = .ok (.ifCond .ne 6, 3) := by decide +kernel
theorem dX12_extreme_7 : decode cX12_extreme 7 = .ok (.ldc 131, 2) := by decide +kernel
theorem dX12_extreme_9 : decode cX12_extreme 9 = .ok (.ireturn, 1) := by decide +kernel
theorem dX12_extreme_10 : decode cX12_extreme 10 = .ok (.iload_n 2, 1) := by decide +kernel
theorem dX12_extreme_11 : decode cX12_extreme 11 = .ok (.iconst 0, 1) := by decide +kernel
theorem dX12_extreme_12 : decode cX12_extreme 12 = .ok (.sipush 960, 3) := by decide +kernel
theorem dX12_extreme_15 : decode cX12_extreme 15 = .ok (.invokestatic 66, 3) := by decide +kernel
theorem dX12_extreme_18 : decode cX12_extreme 18 = .ok (.ifCond .eq 14, 3) := by decide +kernel
theorem dX12_extreme_21 : decode cX12_extreme 21 = .ok (.iload_n 3, 1) := by decide +kernel
theorem dX12_extreme_22 : decode cX12_extreme 22 = .ok (.iload_n 2, 1) := by decide +kernel
theorem dX12_extreme_23 : decode cX12_extreme 23 = .ok (.sipush 960, 3) := by decide +kernel
theorem dX12_extreme_26 : decode cX12_extreme 26 = .ok (.invokestatic 66, 3) := by decide +kernel
theorem dX12_extreme_29 : decode cX12_extreme 29 = .ok (.ifCond .ne 6, 3) := by decide +kernel
theorem dX12_extreme_32 : decode cX12_extreme 32 = .ok (.ldc 132, 2) := by decide +kernel
theorem dX12_extreme_34 : decode cX12_extreme 34 = .ok (.ireturn, 1) := by decide +kernel
theorem dX12_extreme_35 : decode cX12_extreme 35 = .ok (.aload_n 0, 1) := by decide +kernel
theorem dX12_extreme_36 : decode cX12_extreme 36 = .ok (.iload_n 1, 1) := by decide +kernel
theorem dX12_extreme_37 : decode cX12_extreme 37 = .ok (.invokevirtual 78, 3) := by decide +kernel
theorem dX12_extreme_40 : decode cX12_extreme 40 = .ok (.ifCond .ne 6, 3) := by decide +kernel
theorem dX12_extreme_43 : decode cX12_extreme 43 = .ok (.ldc 90, 2) := by decide +kernel
theorem dX12_extreme_45 : decode cX12_extreme 45 = .ok (.ireturn, 1) := by decide +kernel
theorem dX12_extreme_46 : decode cX12_extreme 46 = .ok (.iload_n 2, 1) := by decide +kernel
theorem dX12_extreme_47 : decode cX12_extreme 47 = .ok (.istore 5, 2) := by decide +kernel
theorem dX12_extreme_49 : decode cX12_extreme 49 = .ok (.aload_n 0, 1) := by decide +kernel
theorem dX12_extreme_50 : decode cX12_extreme 50 = .ok (.iload_n 1, 1) := by decide +kernel
theorem dX12_extreme_51 : decode cX12_extreme 51 = .ok (.iload_n 2, 1) := by decide +kernel
theorem dX12_extreme_52 : decode cX12_extreme 52 = .ok (.invokevirtual 133, 3) := by decide +kernel
theorem dX12_extreme_55 : decode cX12_extreme 55 = .ok (.istore 6, 2) := by decide +kernel
theorem dX12_extreme_57 : decode cX12_extreme 57 = .ok (.iload_n 2, 1) := by decide +kernel
theorem dX12_extreme_58 : decode cX12_extreme 58 = .ok (.iconst 1, 1) := by decide +kernel
theorem dX12_extreme_59 : decode cX12_extreme 59 = .ok (.iadd, 1) := by decide +kernel
theorem dX12_extreme_60 : decode cX12_extreme 60 = .ok (.istore 7, 2) := by decide +kernel
theorem dX12_extreme_62 : decode cX12_extreme 62 = .ok (.iload 7, 2) := by decide +kernel
theorem dX12_extreme_64 : decode cX12_extreme 64 = .ok (.iload_n 3, 1) := by decide +kernel
theorem dX12_extreme_65 : decode cX12_extreme 65 = .ok (.if_icmp .gt 48, 3) := by decide +kernel
theorem dX12_extreme_68 : decode cX12_extreme 68 = .ok (.aload_n 0, 1) := by decide +kernel
theorem dX12_extreme_69 : decode cX12_extreme 69 = .ok (.iload_n 1, 1) := by decide +kernel
theorem dX12_extreme_70 : decode cX12_extreme 70 = .ok (.iload 7, 2) := by decide +kernel
theorem dX12_extreme_72 : decode cX12_extreme 72 = .ok (.invokevirtual 133, 3) := by decide +kernel
theorem dX12_extreme_75 : decode cX12_extreme 75 = .ok (.istore 8, 2) := by decide +kernel
theorem dX12_extreme_77 : decode cX12_extreme 77 = .ok (.iload 4, 2) := by decide +kernel
theorem dX12_extreme_79 : decode cX12_extreme 79 = .ok (.ifCond .eq 13, 3) := by decide +kernel
theorem dX12_extreme_82 : decode cX12_extreme 82 = .ok (.iload 8, 2) := by decide +kernel
theorem dX12_extreme_84 : decode cX12_extreme 84 = .ok (.iload 6, 2) := by decide +kernel
theorem dX12_extreme_86 : decode cX12_extreme 86 = .ok (.if_icmp .le 21, 3) := by decide +kernel
theorem dX12_extreme_89 : decode cX12_extreme 89 = .ok (.goto 10, 3) := by decide +kernel
theorem dX12_extreme_92 : decode cX12_extreme 92 = .ok (.iload 8, 2) := by decide +kernel
theorem dX12_extreme_94 : decode cX12_extreme 94 = .ok (.iload 6, 2) := by decide +kernel
theorem dX12_extreme_96 : decode cX12_extreme 96 = .ok (.if_icmp .ge 11, 3) := by decide +kernel
theorem dX12_extreme_99 : decode cX12_extreme 99 = .ok (.iload 7, 2) := by decide +kernel
theorem dX12_extreme_101 : decode cX12_extreme 101 = .ok (.istore 5, 2) := by decide +kernel
theorem dX12_extreme_103 : decode cX12_extreme 103 = .ok (.iload 8, 2) := by decide +kernel
theorem dX12_extreme_105 : decode cX12_extreme 105 = .ok (.istore 6, 2) := by decide +kernel
theorem dX12_extreme_107 : decode cX12_extreme 107 = .ok (.iinc 7 1, 3) := by decide +kernel
theorem dX12_extreme_110 : decode cX12_extreme 110 = .ok (.goto (-48), 3) := by decide +kernel
theorem dX12_extreme_113 : decode cX12_extreme 113 = .ok (.iload 5, 2) := by decide +kernel
theorem dX12_extreme_115 : decode cX12_extreme 115 = .ok (.ireturn, 1) := by decide +kernel
theorem dX12_crossings_0 : decode cX12_crossings 0 = .ok (.iload_n 1, 1) := by decide +kernel
theorem dX12_crossings_1 : decode cX12_crossings 1 = .ok (.invokestatic 74, 3) := by decide +kernel
theorem dX12_crossings_4 : decode cX12_crossings 4 = .ok (.ifCond .ne 6, 3) := by decide +kernel
theorem dX12_crossings_7 : decode cX12_crossings 7 = .ok (.ldc 131, 2) := by decide +kernel
theorem dX12_crossings_9 : decode cX12_crossings 9 = .ok (.ireturn, 1) := by decide +kernel
theorem dX12_crossings_10 : decode cX12_crossings 10 = .ok (.iload_n 2, 1) := by decide +kernel
theorem dX12_crossings_11 : decode cX12_crossings 11 = .ok (.iconst 0, 1) := by decide +kernel
theorem dX12_crossings_12 : decode cX12_crossings 12 = .ok (.sipush 960, 3) := by decide +kernel
theorem dX12_crossings_15 : decode cX12_crossings 15 = .ok (.invokestatic 66, 3) := by decide +kernel
theorem dX12_crossings_18 : decode cX12_crossings 18 = .ok (.ifCond .eq 28, 3) := by decide +kernel
theorem dX12_crossings_21 : decode cX12_crossings 21 = .ok (.iload_n 3, 1) := by decide +kernel
theorem dX12_crossings_22 : decode cX12_crossings 22 = .ok (.iload_n 2, 1) := by decide +kernel
theorem dX12_crossings_23 : decode cX12_crossings 23 = .ok (.sipush 960, 3) := by decide +kernel
theorem dX12_crossings_26 : decode cX12_crossings 26 = .ok (.invokestatic 66, 3) := by decide +kernel
theorem dX12_crossings_29 : decode cX12_crossings 29 = .ok (.ifCond .eq 17, 3) := by decide +kernel
theorem dX12_crossings_32 : decode cX12_crossings 32 = .ok (.iload 4, 2) := by decide +kernel
theorem dX12_crossings_34 : decode cX12_crossings 34 = .ok (.sipush (-999), 3) := by decide +kernel
theorem dX12_crossings_37 : decode cX12_crossings 37 = .ok (.sipush 999, 3) := by decide +kernel
theorem dX12_crossings_40 : decode cX12_crossings 40 = .ok (.invokestatic 66, 3) := by decide +kernel
theorem dX12_crossings_43 : decode cX12_crossings 43 = .ok (.ifCond .ne 6, 3) := by decide +kernel
theorem dX12_crossings_46 : decode cX12_crossings 46 = .ok (.ldc 132, 2) := by decide +kernel
theorem dX12_crossings_48 : decode cX12_crossings 48 = .ok (.ireturn, 1) := by decide +kernel
theorem dX12_crossings_49 : decode cX12_crossings 49 = .ok (.aload_n 0, 1) := by decide +kernel
theorem dX12_crossings_50 : decode cX12_crossings 50 = .ok (.iload_n 1, 1) := by decide +kernel
theorem dX12_crossings_51 : decode cX12_crossings 51 = .ok (.invokevirtual 78, 3) := by decide +kernel
theorem dX12_crossings_54 : decode cX12_crossings 54 = .ok (.ifCond .ne 6, 3) := by decide +kernel
theorem dX12_crossings_57 : decode cX12_crossings 57 = .ok (.ldc 90, 2) := by decide +kernel
theorem dX12_crossings_59 : decode cX12_crossings 59 = .ok (.ireturn, 1) := by decide +kernel
theorem dX12_crossings_60 : decode cX12_crossings 60 = .ok (.iconst 0, 1) := by decide +kernel
theorem dX12_crossings_61 : decode cX12_crossings 61 = .ok (.istore 5, 2) := by decide +kernel
theorem dX12_crossings_63 : decode cX12_crossings 63 = .ok (.iload_n 2, 1) := by decide +kernel
theorem dX12_crossings_64 : decode cX12_crossings 64 = .ok (.istore 6, 2) := by decide +kernel
theorem dX12_crossings_66 : decode cX12_crossings 66 = .ok (.iload 6, 2) := by decide +kernel
theorem dX12_crossings_68 : decode cX12_crossings 68 = .ok (.iload_n 3, 1) := by decide +kernel
theorem dX12_crossings_69 : decode cX12_crossings 69 = .ok (.if_icmp .ge 64, 3) := by decide +kernel
theorem dX12_crossings_72 : decode cX12_crossings 72 = .ok (.iload 5, 2) := by decide +kernel
theorem dX12_crossings_74 : decode cX12_crossings 74 = .ok (.aload_n 0, 1) := by decide +kernel
theorem dX12_crossings_75 : decode cX12_crossings 75 = .ok (.iload_n 1, 1) := by decide +kernel
theorem dX12_crossings_76 : decode cX12_crossings 76 = .ok (.iload 6, 2) := by decide +kernel
theorem dX12_crossings_78 : decode cX12_crossings 78 = .ok (.invokevirtual 133, 3) := by decide +kernel
theorem dX12_crossings_81 : decode cX12_crossings 81 = .ok (.bipush 64, 2) := by decide +kernel
theorem dX12_crossings_83 : decode cX12_crossings 83 = .ok (.iload 4, 2) := by decide +kernel
theorem dX12_crossings_85 : decode cX12_crossings 85 = .ok (.imul, 1) := by decide +kernel
theorem dX12_crossings_86 : decode cX12_crossings 86 = .ok (.if_icmp .ge 7, 3) := by decide +kernel
theorem dX12_crossings_89 : decode cX12_crossings 89 = .ok (.iconst 1, 1) := by decide +kernel
theorem dX12_crossings_90 : decode cX12_crossings 90 = .ok (.goto 4, 3) := by decide +kernel
theorem dX12_crossings_93 : decode cX12_crossings 93 = .ok (.iconst 0, 1) := by decide +kernel
theorem dX12_crossings_94 : decode cX12_crossings 94 = .ok (.aload_n 0, 1) := by decide +kernel
theorem dX12_crossings_95 : decode cX12_crossings 95 = .ok (.iload_n 1, 1) := by decide +kernel
theorem dX12_crossings_96 : decode cX12_crossings 96 = .ok (.iload 6, 2) := by decide +kernel
theorem dX12_crossings_98 : decode cX12_crossings 98 = .ok (.iconst 1, 1) := by decide +kernel
theorem dX12_crossings_99 : decode cX12_crossings 99 = .ok (.iadd, 1) := by decide +kernel
theorem dX12_crossings_100 : decode cX12_crossings 100 = .ok (.invokevirtual 133, 3) := by decide +kernel
theorem dX12_crossings_103 : decode cX12_crossings 103 = .ok (.bipush 64, 2) := by decide +kernel
theorem dX12_crossings_105 : decode cX12_crossings 105 = .ok (.iload 4, 2) := by decide +kernel
theorem dX12_crossings_107 : decode cX12_crossings 107 = .ok (.imul, 1) := by decide +kernel
theorem dX12_crossings_108 : decode cX12_crossings 108 = .ok (.if_icmp .ge 7, 3) := by decide +kernel
theorem dX12_crossings_111 : decode cX12_crossings 111 = .ok (.iconst 1, 1) := by decide +kernel
theorem dX12_crossings_112 : decode cX12_crossings 112 = .ok (.goto 4, 3) := by decide +kernel
theorem dX12_crossings_115 : decode cX12_crossings 115 = .ok (.iconst 0, 1) := by decide +kernel
theorem dX12_crossings_116 : decode cX12_crossings 116 = .ok (.if_icmp .eq 7, 3) := by decide +kernel
theorem dX12_crossings_119 : decode cX12_crossings 119 = .ok (.iconst 1, 1) := by decide +kernel
theorem dX12_crossings_120 : decode cX12_crossings 120 = .ok (.goto 4, 3) := by decide +kernel
theorem dX12_crossings_123 : decode cX12_crossings 123 = .ok (.iconst 0, 1) := by decide +kernel
theorem dX12_crossings_124 : decode cX12_crossings 124 = .ok (.iadd, 1) := by decide +kernel
theorem dX12_crossings_125 : decode cX12_crossings 125 = .ok (.istore 5, 2) := by decide +kernel
theorem dX12_crossings_127 : decode cX12_crossings 127 = .ok (.iinc 6 1, 3) := by decide +kernel
theorem dX12_crossings_130 : decode cX12_crossings 130 = .ok (.goto (-64), 3) := by decide +kernel
theorem dX12_crossings_133 : decode cX12_crossings 133 = .ok (.iload 5, 2) := by decide +kernel
theorem dX12_crossings_135 : decode cX12_crossings 135 = .ok (.ireturn, 1) := by decide +kernel
theorem dX12_inserts_0 : decode cX12_inserts 0 = .ok (.aload_n 0, 1) := by decide +kernel
theorem dX12_inserts_1 : decode cX12_inserts 1 = .ok (.iload_n 1, 1) := by decide +kernel
theorem dX12_inserts_2 : decode cX12_inserts 2 = .ok (.invokevirtual 78, 3) := by decide +kernel
theorem dX12_inserts_5 : decode cX12_inserts 5 = .ok (.istore 7, 2) := by decide +kernel
theorem dX12_inserts_7 : decode cX12_inserts 7 = .ok (.iload 7, 2) := by decide +kernel
theorem dX12_inserts_9 : decode cX12_inserts 9 = .ok (.ifCond .le 66, 3) := by decide +kernel
theorem dX12_inserts_12 : decode cX12_inserts 12 = .ok (.aload_n 0, 1) := by decide +kernel
theorem dX12_inserts_13 : decode cX12_inserts 13 = .ok (.iload_n 1, 1) := by decide +kernel
theorem dX12_inserts_14 : decode cX12_inserts 14 = .ok (.iload 7, 2) := by decide +kernel
theorem dX12_inserts_16 : decode cX12_inserts 16 = .ok (.iconst 1, 1) := by decide +kernel
theorem dX12_inserts_17 : decode cX12_inserts 17 = .ok (.isub, 1) := by decide +kernel
theorem dX12_inserts_18 : decode cX12_inserts 18 = .ok (.invokevirtual 82, 3) := by decide +kernel
theorem dX12_inserts_21 : decode cX12_inserts 21 = .ok (.iload_n 2, 1) := by decide +kernel
theorem dX12_inserts_22 : decode cX12_inserts 22 = .ok (.if_icmp .le 53, 3) := by decide +kernel
theorem dX12_inserts_25 : decode cX12_inserts 25 = .ok (.iconst 4, 1) := by decide +kernel
theorem dX12_inserts_26 : decode cX12_inserts 26 = .ok (.istore 8, 2) := by decide +kernel
theorem dX12_inserts_28 : decode cX12_inserts 28 = .ok (.iload 8, 2) := by decide +kernel
theorem dX12_inserts_30 : decode cX12_inserts 30 = .ok (.bipush 100, 2) := by decide +kernel
theorem dX12_inserts_32 : decode cX12_inserts 32 = .ok (.if_icmp .gt 37, 3) := by decide +kernel
theorem dX12_inserts_35 : decode cX12_inserts 35 = .ok (.aload_n 0, 1) := by decide +kernel
theorem dX12_inserts_36 : decode cX12_inserts 36 = .ok (.getfield 7, 3) := by decide +kernel
theorem dX12_inserts_39 : decode cX12_inserts 39 = .ok (.iload_n 1, 1) := by decide +kernel
theorem dX12_inserts_40 : decode cX12_inserts 40 = .ok (.iload 8, 2) := by decide +kernel
theorem dX12_inserts_42 : decode cX12_inserts 42 = .ok (.iload 7, 2) := by decide +kernel
theorem dX12_inserts_44 : decode cX12_inserts 44 = .ok (.invokestatic 70, 3) := by decide +kernel
theorem dX12_inserts_47 : decode cX12_inserts 47 = .ok (.aload_n 0, 1) := by decide +kernel
theorem dX12_inserts_48 : decode cX12_inserts 48 = .ok (.getfield 7, 3) := by decide +kernel
theorem dX12_inserts_51 : decode cX12_inserts 51 = .ok (.iload_n 1, 1) := by decide +kernel
theorem dX12_inserts_52 : decode cX12_inserts 52 = .ok (.iload 8, 2) := by decide +kernel
theorem dX12_inserts_54 : decode cX12_inserts 54 = .ok (.iload 7, 2) := by decide +kernel
theorem dX12_inserts_56 : decode cX12_inserts 56 = .ok (.iconst 1, 1) := by decide +kernel
theorem dX12_inserts_57 : decode cX12_inserts 57 = .ok (.isub, 1) := by decide +kernel
theorem dX12_inserts_58 : decode cX12_inserts 58 = .ok (.invokestatic 70, 3) := by decide +kernel
theorem dX12_inserts_61 : decode cX12_inserts 61 = .ok (.iaload, 1) := by decide +kernel
theorem dX12_inserts_62 : decode cX12_inserts 62 = .ok (.iastore, 1) := by decide +kernel
theorem dX12_inserts_63 : decode cX12_inserts 63 = .ok (.iinc 8 24, 3) := by decide +kernel
theorem dX12_inserts_66 : decode cX12_inserts 66 = .ok (.goto (-38), 3) := by decide +kernel
theorem dX12_inserts_69 : decode cX12_inserts 69 = .ok (.iinc 7 (-1), 3) := by decide +kernel
theorem dX12_inserts_72 : decode cX12_inserts 72 = .ok (.goto (-65), 3) := by decide +kernel
theorem dX12_inserts_75 : decode cX12_inserts 75 = .ok (.aload_n 0, 1) := by decide +kernel
theorem dX12_inserts_76 : decode cX12_inserts 76 = .ok (.getfield 7, 3) := by decide +kernel
theorem dX12_inserts_79 : decode cX12_inserts 79 = .ok (.iload_n 1, 1) := by decide +kernel
theorem dX12_inserts_80 : decode cX12_inserts 80 = .ok (.iconst 4, 1) := by decide +kernel
theorem dX12_inserts_81 : decode cX12_inserts 81 = .ok (.iload 7, 2) := by decide +kernel
theorem dX12_inserts_83 : decode cX12_inserts 83 = .ok (.invokestatic 70, 3) := by decide +kernel
theorem dX12_inserts_86 : decode cX12_inserts 86 = .ok (.iload_n 2, 1) := by decide +kernel
theorem dX12_inserts_87 : decode cX12_inserts 87 = .ok (.iastore, 1) := by decide +kernel
theorem dX12_inserts_88 : decode cX12_inserts 88 = .ok (.aload_n 0, 1) := by decide +kernel
theorem dX12_inserts_89 : decode cX12_inserts 89 = .ok (.getfield 7, 3) := by decide +kernel
theorem dX12_inserts_92 : decode cX12_inserts 92 = .ok (.iload_n 1, 1) := by decide +kernel
theorem dX12_inserts_93 : decode cX12_inserts 93 = .ok (.bipush 28, 2) := by decide +kernel
theorem dX12_inserts_95 : decode cX12_inserts 95 = .ok (.iload 7, 2) := by decide +kernel
theorem dX12_inserts_97 : decode cX12_inserts 97 = .ok (.invokestatic 70, 3) := by decide +kernel
theorem dX12_inserts_100 : decode cX12_inserts 100 = .ok (.iload_n 3, 1) := by decide +kernel
theorem dX12_inserts_101 : decode cX12_inserts 101 = .ok (.iastore, 1) := by decide +kernel
theorem dX12_inserts_102 : decode cX12_inserts 102 = .ok (.aload_n 0, 1) := by decide +kernel
theorem dX12_inserts_103 : decode cX12_inserts 103 = .ok (.getfield 7, 3) := by decide +kernel
theorem dX12_inserts_106 : decode cX12_inserts 106 = .ok (.iload_n 1, 1) := by decide +kernel
theorem dX12_inserts_107 : decode cX12_inserts 107 = .ok (.bipush 52, 2) := by decide +kernel
theorem dX12_inserts_109 : decode cX12_inserts 109 = .ok (.iload 7, 2) := by decide +kernel
theorem dX12_inserts_111 : decode cX12_inserts 111 = .ok (.invokestatic 70, 3) := by decide +kernel
theorem dX12_inserts_114 : decode cX12_inserts 114 = .ok (.iload 4, 2) := by decide +kernel
theorem dX12_inserts_116 : decode cX12_inserts 116 = .ok (.iastore, 1) := by decide +kernel
theorem dX12_inserts_117 : decode cX12_inserts 117 = .ok (.aload_n 0, 1) := by decide +kernel
theorem dX12_inserts_118 : decode cX12_inserts 118 = .ok (.getfield 7, 3) := by decide +kernel
theorem dX12_inserts_121 : decode cX12_inserts 121 = .ok (.iload_n 1, 1) := by decide +kernel
theorem dX12_inserts_122 : decode cX12_inserts 122 = .ok (.bipush 76, 2) := by decide +kernel
theorem dX12_inserts_124 : decode cX12_inserts 124 = .ok (.iload 7, 2) := by decide +kernel
theorem dX12_inserts_126 : decode cX12_inserts 126 = .ok (.invokestatic 70, 3) := by decide +kernel
theorem dX12_inserts_129 : decode cX12_inserts 129 = .ok (.iload 5, 2) := by decide +kernel
theorem dX12_inserts_131 : decode cX12_inserts 131 = .ok (.iastore, 1) := by decide +kernel
theorem dX12_inserts_132 : decode cX12_inserts 132 = .ok (.aload_n 0, 1) := by decide +kernel
theorem dX12_inserts_133 : decode cX12_inserts 133 = .ok (.getfield 7, 3) := by decide +kernel
theorem dX12_inserts_136 : decode cX12_inserts 136 = .ok (.iload_n 1, 1) := by decide +kernel
theorem dX12_inserts_137 : decode cX12_inserts 137 = .ok (.bipush 100, 2) := by decide +kernel
theorem dX12_inserts_139 : decode cX12_inserts 139 = .ok (.iload 7, 2) := by decide +kernel
theorem dX12_inserts_141 : decode cX12_inserts 141 = .ok (.invokestatic 70, 3) := by decide +kernel
theorem dX12_inserts_144 : decode cX12_inserts 144 = .ok (.iload 6, 2) := by decide +kernel
theorem dX12_inserts_146 : decode cX12_inserts 146 = .ok (.iastore, 1) := by decide +kernel
theorem dX12_inserts_147 : decode cX12_inserts 147 = .ok (.aload_n 0, 1) := by decide +kernel
theorem dX12_inserts_148 : decode cX12_inserts 148 = .ok (.getfield 7, 3) := by decide +kernel
theorem dX12_inserts_151 : decode cX12_inserts 151 = .ok (.iload_n 1, 1) := by decide +kernel
theorem dX12_inserts_152 : decode cX12_inserts 152 = .ok (.iconst 0, 1) := by decide +kernel
theorem dX12_inserts_153 : decode cX12_inserts 153 = .ok (.iconst 0, 1) := by decide +kernel
theorem dX12_inserts_154 : decode cX12_inserts 154 = .ok (.invokestatic 70, 3) := by decide +kernel
theorem dX12_inserts_157 : decode cX12_inserts 157 = .ok (.dup2, 1) := by decide +kernel
theorem dX12_inserts_158 : decode cX12_inserts 158 = .ok (.iaload, 1) := by decide +kernel
theorem dX12_inserts_159 : decode cX12_inserts 159 = .ok (.iconst 1, 1) := by decide +kernel
theorem dX12_inserts_160 : decode cX12_inserts 160 = .ok (.iadd, 1) := by decide +kernel
theorem dX12_inserts_161 : decode cX12_inserts 161 = .ok (.iastore, 1) := by decide +kernel
theorem dX12_inserts_162 : decode cX12_inserts 162 = .ok (.iload 7, 2) := by decide +kernel
theorem dX12_inserts_164 : decode cX12_inserts 164 = .ok (.ireturn, 1) := by decide +kernel
theorem dX12_removes_0 : decode cX12_removes 0 = .ok (.aload_n 0, 1) := by decide +kernel
theorem dX12_removes_1 : decode cX12_removes 1 = .ok (.getfield 7, 3) := by decide +kernel
theorem dX12_removes_4 : decode cX12_removes 4 = .ok (.iload_n 1, 1) := by decide +kernel
theorem dX12_removes_5 : decode cX12_removes 5 = .ok (.iconst 0, 1) := by decide +kernel
theorem dX12_removes_6 : decode cX12_removes 6 = .ok (.iconst 0, 1) := by decide +kernel
theorem dX12_removes_7 : decode cX12_removes 7 = .ok (.invokestatic 70, 3) := by decide +kernel
theorem dX12_removes_10 : decode cX12_removes 10 = .ok (.dup2, 1) := by decide +kernel
theorem dX12_removes_11 : decode cX12_removes 11 = .ok (.iaload, 1) := by decide +kernel
theorem dX12_removes_12 : decode cX12_removes 12 = .ok (.iconst 1, 1) := by decide +kernel
theorem dX12_removes_13 : decode cX12_removes 13 = .ok (.isub, 1) := by decide +kernel
theorem dX12_removes_14 : decode cX12_removes 14 = .ok (.iastore, 1) := by decide +kernel
theorem dX12_removes_15 : decode cX12_removes 15 = .ok (.iload_n 2, 1) := by decide +kernel
theorem dX12_removes_16 : decode cX12_removes 16 = .ok (.istore_n 3, 1) := by decide +kernel
theorem dX12_removes_17 : decode cX12_removes 17 = .ok (.iload_n 3, 1) := by decide +kernel
theorem dX12_removes_18 : decode cX12_removes 18 = .ok (.aload_n 0, 1) := by decide +kernel
theorem dX12_removes_19 : decode cX12_removes 19 = .ok (.iload_n 1, 1) := by decide +kernel
theorem dX12_removes_20 : decode cX12_removes 20 = .ok (.invokevirtual 78, 3) := by decide +kernel
theorem dX12_removes_23 : decode cX12_removes 23 = .ok (.if_icmp .ge 51, 3) := by decide +kernel
theorem dX12_removes_26 : decode cX12_removes 26 = .ok (.iconst 4, 1) := by decide +kernel
theorem dX12_removes_27 : decode cX12_removes 27 = .ok (.istore 4, 2) := by decide +kernel
theorem dX12_removes_29 : decode cX12_removes 29 = .ok (.iload 4, 2) := by decide +kernel
theorem dX12_removes_31 : decode cX12_removes 31 = .ok (.bipush 100, 2) := by decide +kernel
theorem dX12_removes_33 : decode cX12_removes 33 = .ok (.if_icmp .gt 35, 3) := by decide +kernel
theorem dX12_removes_36 : decode cX12_removes 36 = .ok (.aload_n 0, 1) := by decide +kernel
theorem dX12_removes_37 : decode cX12_removes 37 = .ok (.getfield 7, 3) := by decide +kernel
theorem dX12_removes_40 : decode cX12_removes 40 = .ok (.iload_n 1, 1) := by decide +kernel
theorem dX12_removes_41 : decode cX12_removes 41 = .ok (.iload 4, 2) := by decide +kernel
theorem dX12_removes_43 : decode cX12_removes 43 = .ok (.iload_n 3, 1) := by decide +kernel
theorem dX12_removes_44 : decode cX12_removes 44 = .ok (.invokestatic 70, 3) := by decide +kernel
theorem dX12_removes_47 : decode cX12_removes 47 = .ok (.aload_n 0, 1) := by decide +kernel
theorem dX12_removes_48 : decode cX12_removes 48 = .ok (.getfield 7, 3) := by decide +kernel
theorem dX12_removes_51 : decode cX12_removes 51 = .ok (.iload_n 1, 1) := by decide +kernel
theorem dX12_removes_52 : decode cX12_removes 52 = .ok (.iload 4, 2) := by decide +kernel
theorem dX12_removes_54 : decode cX12_removes 54 = .ok (.iload_n 3, 1) := by decide +kernel
theorem dX12_removes_55 : decode cX12_removes 55 = .ok (.iconst 1, 1) := by decide +kernel
theorem dX12_removes_56 : decode cX12_removes 56 = .ok (.iadd, 1) := by decide +kernel
theorem dX12_removes_57 : decode cX12_removes 57 = .ok (.invokestatic 70, 3) := by decide +kernel
theorem dX12_removes_60 : decode cX12_removes 60 = .ok (.iaload, 1) := by decide +kernel
theorem dX12_removes_61 : decode cX12_removes 61 = .ok (.iastore, 1) := by decide +kernel
theorem dX12_removes_62 : decode cX12_removes 62 = .ok (.iinc 4 24, 3) := by decide +kernel
theorem dX12_removes_65 : decode cX12_removes 65 = .ok (.goto (-36), 3) := by decide +kernel
theorem dX12_removes_68 : decode cX12_removes 68 = .ok (.iinc 3 1, 3) := by decide +kernel
theorem dX12_removes_71 : decode cX12_removes 71 = .ok (.goto (-54), 3) := by decide +kernel
theorem dX12_removes_74 : decode cX12_removes 74 = .ok (.return_, 1) := by decide +kernel
theorem dX12_setKey_0 : decode cX12_setKey 0 = .ok (.iload_n 1, 1) := by decide +kernel
theorem dX12_setKey_1 : decode cX12_setKey 1 = .ok (.invokestatic 74, 3) := by decide +kernel
theorem dX12_setKey_4 : decode cX12_setKey 4 = .ok (.ifCond .ne 6, 3) := by decide +kernel
theorem dX12_setKey_7 : decode cX12_setKey 7 = .ok (.ldc 131, 2) := by decide +kernel
theorem dX12_setKey_9 : decode cX12_setKey 9 = .ok (.ireturn, 1) := by decide +kernel
theorem dX12_setKey_10 : decode cX12_setKey 10 = .ok (.iload_n 2, 1) := by decide +kernel
theorem dX12_setKey_11 : decode cX12_setKey 11 = .ok (.iconst 0, 1) := by decide +kernel
theorem dX12_setKey_12 : decode cX12_setKey 12 = .ok (.sipush 480, 3) := by decide +kernel
theorem dX12_setKey_15 : decode cX12_setKey 15 = .ok (.invokestatic 66, 3) := by decide +kernel
theorem dX12_setKey_18 : decode cX12_setKey 18 = .ok (.ifCond .eq 16, 3) := by decide +kernel
theorem dX12_setKey_21 : decode cX12_setKey 21 = .ok (.iload_n 3, 1) := by decide +kernel
theorem dX12_setKey_22 : decode cX12_setKey 22 = .ok (.sipush (-999), 3) := by decide +kernel
theorem dX12_setKey_25 : decode cX12_setKey 25 = .ok (.sipush 999, 3) := by decide +kernel
theorem dX12_setKey_28 : decode cX12_setKey 28 = .ok (.invokestatic 66, 3) := by decide +kernel
theorem dX12_setKey_31 : decode cX12_setKey 31 = .ok (.ifCond .ne 6, 3) := by decide +kernel
theorem dX12_setKey_34 : decode cX12_setKey 34 = .ok (.ldc 132, 2) := by decide +kernel
theorem dX12_setKey_36 : decode cX12_setKey 36 = .ok (.ireturn, 1) := by decide +kernel
theorem dX12_setKey_37 : decode cX12_setKey 37 = .ok (.aload_n 0, 1) := by decide +kernel
theorem dX12_setKey_38 : decode cX12_setKey 38 = .ok (.iload_n 1, 1) := by decide +kernel
theorem dX12_setKey_39 : decode cX12_setKey 39 = .ok (.iload_n 2, 1) := by decide +kernel
theorem dX12_setKey_40 : decode cX12_setKey 40 = .ok (.invokevirtual 142, 3) := by decide +kernel
theorem dX12_setKey_43 : decode cX12_setKey 43 = .ok (.istore 4, 2) := by decide +kernel
theorem dX12_setKey_45 : decode cX12_setKey 45 = .ok (.iload 4, 2) := by decide +kernel
theorem dX12_setKey_47 : decode cX12_setKey 47 = .ok (.ifCond .ge 16, 3) := by decide +kernel
theorem dX12_setKey_50 : decode cX12_setKey 50 = .ok (.aload_n 0, 1) := by decide +kernel
theorem dX12_setKey_51 : decode cX12_setKey 51 = .ok (.iload_n 1, 1) := by decide +kernel
theorem dX12_setKey_52 : decode cX12_setKey 52 = .ok (.invokevirtual 78, 3) := by decide +kernel
theorem dX12_setKey_55 : decode cX12_setKey 55 = .ok (.bipush 24, 2) := by decide +kernel
theorem dX12_setKey_57 : decode cX12_setKey 57 = .ok (.if_icmp .ne 6, 3) := by decide +kernel
theorem dX12_setKey_60 : decode cX12_setKey 60 = .ok (.ldc 145, 2) := by decide +kernel
theorem dX12_setKey_62 : decode cX12_setKey 62 = .ok (.ireturn, 1) := by decide +kernel
theorem dX12_setKey_63 : decode cX12_setKey 63 = .ok (.aload_n 0, 1) := by decide +kernel
theorem dX12_setKey_64 : decode cX12_setKey 64 = .ok (.invokevirtual 146, 3) := by decide +kernel
theorem dX12_setKey_67 : decode cX12_setKey 67 = .ok (.iload 4, 2) := by decide +kernel
theorem dX12_setKey_69 : decode cX12_setKey 69 = .ok (.ifCond .ge 15, 3) := by decide +kernel
theorem dX12_setKey_72 : decode cX12_setKey 72 = .ok (.aload_n 0, 1) := by decide +kernel
theorem dX12_setKey_73 : decode cX12_setKey 73 = .ok (.iload_n 1, 1) := by decide +kernel
theorem dX12_setKey_74 : decode cX12_setKey 74 = .ok (.iload_n 2, 1) := by decide +kernel
theorem dX12_setKey_75 : decode cX12_setKey 75 = .ok (.iload_n 3, 1) := by decide +kernel
theorem dX12_setKey_76 : decode cX12_setKey 76 = .ok (.iconst 3, 1) := by decide +kernel
theorem dX12_setKey_77 : decode cX12_setKey 77 = .ok (.iconst 0, 1) := by decide +kernel
theorem dX12_setKey_78 : decode cX12_setKey 78 = .ok (.iconst 0, 1) := by decide +kernel
theorem dX12_setKey_79 : decode cX12_setKey 79 = .ok (.invokevirtual 149, 3) := by decide +kernel
theorem dX12_setKey_82 : decode cX12_setKey 82 = .ok (.istore 4, 2) := by decide +kernel
theorem dX12_setKey_84 : decode cX12_setKey 84 = .ok (.aload_n 0, 1) := by decide +kernel
theorem dX12_setKey_85 : decode cX12_setKey 85 = .ok (.getfield 7, 3) := by decide +kernel
theorem dX12_setKey_88 : decode cX12_setKey 88 = .ok (.iload_n 1, 1) := by decide +kernel
theorem dX12_setKey_89 : decode cX12_setKey 89 = .ok (.bipush 28, 2) := by decide +kernel
theorem dX12_setKey_91 : decode cX12_setKey 91 = .ok (.iload 4, 2) := by decide +kernel
theorem dX12_setKey_93 : decode cX12_setKey 93 = .ok (.invokestatic 70, 3) := by decide +kernel
theorem dX12_setKey_96 : decode cX12_setKey 96 = .ok (.iload_n 3, 1) := by decide +kernel
theorem dX12_setKey_97 : decode cX12_setKey 97 = .ok (.iastore, 1) := by decide +kernel
theorem dX12_setKey_98 : decode cX12_setKey 98 = .ok (.aload_n 0, 1) := by decide +kernel
theorem dX12_setKey_99 : decode cX12_setKey 99 = .ok (.iload_n 1, 1) := by decide +kernel
theorem dX12_setKey_100 : decode cX12_setKey 100 = .ok (.invokevirtual 78, 3) := by decide +kernel
theorem dX12_setKey_103 : decode cX12_setKey 103 = .ok (.ireturn, 1) := by decide +kernel
theorem dX12_removeKey_0 : decode cX12_removeKey 0 = .ok (.iload_n 1, 1) := by decide +kernel
theorem dX12_removeKey_1 : decode cX12_removeKey 1 = .ok (.invokestatic 74, 3) := by decide +kernel
theorem dX12_removeKey_4 : decode cX12_removeKey 4 = .ok (.ifCond .eq 12, 3) := by decide +kernel
theorem dX12_removeKey_7 : decode cX12_removeKey 7 = .ok (.aload_n 0, 1) := by decide +kernel
theorem dX12_removeKey_8 : decode cX12_removeKey 8 = .ok (.iload_n 1, 1) := by decide +kernel
theorem dX12_removeKey_9 : decode cX12_removeKey 9 = .ok (.iload_n 2, 1) := by decide +kernel
theorem dX12_removeKey_10 : decode cX12_removeKey 10 = .ok (.invokevirtual 142, 3) := by decide +kernel
theorem dX12_removeKey_13 : decode cX12_removeKey 13 = .ok (.goto 4, 3) := by decide +kernel
theorem dX12_removeKey_16 : decode cX12_removeKey 16 = .ok (.iconst (-1), 1) := by decide +kernel
theorem dX12_removeKey_17 : decode cX12_removeKey 17 = .ok (.istore_n 3, 1) := by decide +kernel
theorem dX12_removeKey_18 : decode cX12_removeKey 18 = .ok (.iload_n 3, 1) := by decide +kernel
theorem dX12_removeKey_19 : decode cX12_removeKey 19 = .ok (.ifCond .ge 6, 3) := by decide +kernel
theorem dX12_removeKey_22 : decode cX12_removeKey 22 = .ok (.ldc 131, 2) := by decide +kernel
theorem dX12_removeKey_24 : decode cX12_removeKey 24 = .ok (.ireturn, 1) := by decide +kernel
theorem dX12_removeKey_25 : decode cX12_removeKey 25 = .ok (.aload_n 0, 1) := by decide +kernel
theorem dX12_removeKey_26 : decode cX12_removeKey 26 = .ok (.invokevirtual 146, 3) := by decide +kernel
theorem dX12_removeKey_29 : decode cX12_removeKey 29 = .ok (.aload_n 0, 1) := by decide +kernel
theorem dX12_removeKey_30 : decode cX12_removeKey 30 = .ok (.iload_n 1, 1) := by decide +kernel
theorem dX12_removeKey_31 : decode cX12_removeKey 31 = .ok (.iload_n 3, 1) := by decide +kernel
theorem dX12_removeKey_32 : decode cX12_removeKey 32 = .ok (.invokevirtual 153, 3) := by decide +kernel
theorem dX12_removeKey_35 : decode cX12_removeKey 35 = .ok (.aload_n 0, 1) := by decide +kernel
theorem dX12_removeKey_36 : decode cX12_removeKey 36 = .ok (.iload_n 1, 1) := by decide +kernel
theorem dX12_removeKey_37 : decode cX12_removeKey 37 = .ok (.invokevirtual 78, 3) := by decide +kernel
theorem dX12_removeKey_40 : decode cX12_removeKey 40 = .ok (.ireturn, 1) := by decide +kernel
theorem dX12_moveKey_0 : decode cX12_moveKey 0 = .ok (.iload_n 1, 1) := by decide +kernel
theorem dX12_moveKey_1 : decode cX12_moveKey 1 = .ok (.invokestatic 74, 3) := by decide +kernel
theorem dX12_moveKey_4 : decode cX12_moveKey 4 = .ok (.ifCond .eq 12, 3) := by decide +kernel
theorem dX12_moveKey_7 : decode cX12_moveKey 7 = .ok (.aload_n 0, 1) := by decide +kernel
theorem dX12_moveKey_8 : decode cX12_moveKey 8 = .ok (.iload_n 1, 1) := by decide +kernel
theorem dX12_moveKey_9 : decode cX12_moveKey 9 = .ok (.iload_n 2, 1) := by decide +kernel
theorem dX12_moveKey_10 : decode cX12_moveKey 10 = .ok (.invokevirtual 142, 3) := by decide +kernel
theorem dX12_moveKey_13 : decode cX12_moveKey 13 = .ok (.goto 4, 3) := by decide +kernel
theorem dX12_moveKey_16 : decode cX12_moveKey 16 = .ok (.iconst (-1), 1) := by decide +kernel
theorem dX12_moveKey_17 : decode cX12_moveKey 17 = .ok (.istore 4, 2) := by decide +kernel
theorem dX12_moveKey_19 : decode cX12_moveKey 19 = .ok (.iload 4, 2) := by decide +kernel
theorem dX12_moveKey_21 : decode cX12_moveKey 21 = .ok (.ifCond .ge 6, 3) := by decide +kernel
theorem dX12_moveKey_24 : decode cX12_moveKey 24 = .ok (.ldc 131, 2) := by decide +kernel
theorem dX12_moveKey_26 : decode cX12_moveKey 26 = .ok (.ireturn, 1) := by decide +kernel
theorem dX12_moveKey_27 : decode cX12_moveKey 27 = .ok (.iload_n 3, 1) := by decide +kernel
theorem dX12_moveKey_28 : decode cX12_moveKey 28 = .ok (.iconst 0, 1) := by decide +kernel
theorem dX12_moveKey_29 : decode cX12_moveKey 29 = .ok (.sipush 480, 3) := by decide +kernel
theorem dX12_moveKey_32 : decode cX12_moveKey 32 = .ok (.invokestatic 66, 3) := by decide +kernel
theorem dX12_moveKey_35 : decode cX12_moveKey 35 = .ok (.ifCond .ne 6, 3) := by decide +kernel
theorem dX12_moveKey_38 : decode cX12_moveKey 38 = .ok (.ldc 132, 2) := by decide +kernel
theorem dX12_moveKey_40 : decode cX12_moveKey 40 = .ok (.ireturn, 1) := by decide +kernel
theorem dX12_moveKey_41 : decode cX12_moveKey 41 = .ok (.iload_n 3, 1) := by decide +kernel
theorem dX12_moveKey_42 : decode cX12_moveKey 42 = .ok (.iload_n 2, 1) := by decide +kernel
theorem dX12_moveKey_43 : decode cX12_moveKey 43 = .ok (.if_icmp .eq 15, 3) := by decide +kernel
theorem dX12_moveKey_46 : decode cX12_moveKey 46 = .ok (.aload_n 0, 1) := by decide +kernel
theorem dX12_moveKey_47 : decode cX12_moveKey 47 = .ok (.iload_n 1, 1) := by decide +kernel
theorem dX12_moveKey_48 : decode cX12_moveKey 48 = .ok (.iload_n 3, 1) := by decide +kernel
theorem dX12_moveKey_49 : decode cX12_moveKey 49 = .ok (.invokevirtual 142, 3) := by decide +kernel
theorem dX12_moveKey_52 : decode cX12_moveKey 52 = .ok (.ifCond .lt 6, 3) := by decide +kernel
theorem dX12_moveKey_55 : decode cX12_moveKey 55 = .ok (.ldc 157, 2) := by decide +kernel
theorem dX12_moveKey_57 : decode cX12_moveKey 57 = .ok (.ireturn, 1) := by decide +kernel
theorem dX12_moveKey_58 : decode cX12_moveKey 58 = .ok (.aload_n 0, 1) := by decide +kernel
theorem dX12_moveKey_59 : decode cX12_moveKey 59 = .ok (.invokevirtual 146, 3) := by decide +kernel
theorem dX12_moveKey_62 : decode cX12_moveKey 62 = .ok (.aload_n 0, 1) := by decide +kernel
theorem dX12_moveKey_63 : decode cX12_moveKey 63 = .ok (.getfield 7, 3) := by decide +kernel
theorem dX12_moveKey_66 : decode cX12_moveKey 66 = .ok (.iload_n 1, 1) := by decide +kernel
theorem dX12_moveKey_67 : decode cX12_moveKey 67 = .ok (.bipush 28, 2) := by decide +kernel
theorem dX12_moveKey_69 : decode cX12_moveKey 69 = .ok (.iload 4, 2) := by decide +kernel
theorem dX12_moveKey_71 : decode cX12_moveKey 71 = .ok (.invokestatic 70, 3) := by decide +kernel
theorem dX12_moveKey_74 : decode cX12_moveKey 74 = .ok (.iaload, 1) := by decide +kernel
theorem dX12_moveKey_75 : decode cX12_moveKey 75 = .ok (.istore 5, 2) := by decide +kernel
theorem dX12_moveKey_77 : decode cX12_moveKey 77 = .ok (.aload_n 0, 1) := by decide +kernel
theorem dX12_moveKey_78 : decode cX12_moveKey 78 = .ok (.getfield 7, 3) := by decide +kernel
theorem dX12_moveKey_81 : decode cX12_moveKey 81 = .ok (.iload_n 1, 1) := by decide +kernel
theorem dX12_moveKey_82 : decode cX12_moveKey 82 = .ok (.bipush 52, 2) := by decide +kernel
theorem dX12_moveKey_84 : decode cX12_moveKey 84 = .ok (.iload 4, 2) := by decide +kernel
theorem dX12_moveKey_86 : decode cX12_moveKey 86 = .ok (.invokestatic 70, 3) := by decide +kernel
theorem dX12_moveKey_89 : decode cX12_moveKey 89 = .ok (.iaload, 1) := by decide +kernel
theorem dX12_moveKey_90 : decode cX12_moveKey 90 = .ok (.istore 6, 2) := by decide +kernel
theorem dX12_moveKey_92 : decode cX12_moveKey 92 = .ok (.aload_n 0, 1) := by decide +kernel
theorem dX12_moveKey_93 : decode cX12_moveKey 93 = .ok (.getfield 7, 3) := by decide +kernel
theorem dX12_moveKey_96 : decode cX12_moveKey 96 = .ok (.iload_n 1, 1) := by decide +kernel
theorem dX12_moveKey_97 : decode cX12_moveKey 97 = .ok (.bipush 76, 2) := by decide +kernel
theorem dX12_moveKey_99 : decode cX12_moveKey 99 = .ok (.iload 4, 2) := by decide +kernel
theorem dX12_moveKey_101 : decode cX12_moveKey 101 = .ok (.invokestatic 70, 3) := by decide +kernel
theorem dX12_moveKey_104 : decode cX12_moveKey 104 = .ok (.iaload, 1) := by decide +kernel
theorem dX12_moveKey_105 : decode cX12_moveKey 105 = .ok (.istore 7, 2) := by decide +kernel
theorem dX12_moveKey_107 : decode cX12_moveKey 107 = .ok (.aload_n 0, 1) := by decide +kernel
theorem dX12_moveKey_108 : decode cX12_moveKey 108 = .ok (.getfield 7, 3) := by decide +kernel
theorem dX12_moveKey_111 : decode cX12_moveKey 111 = .ok (.iload_n 1, 1) := by decide +kernel
theorem dX12_moveKey_112 : decode cX12_moveKey 112 = .ok (.bipush 100, 2) := by decide +kernel
theorem dX12_moveKey_114 : decode cX12_moveKey 114 = .ok (.iload 4, 2) := by decide +kernel
theorem dX12_moveKey_116 : decode cX12_moveKey 116 = .ok (.invokestatic 70, 3) := by decide +kernel
theorem dX12_moveKey_119 : decode cX12_moveKey 119 = .ok (.iaload, 1) := by decide +kernel
theorem dX12_moveKey_120 : decode cX12_moveKey 120 = .ok (.istore 8, 2) := by decide +kernel
theorem dX12_moveKey_122 : decode cX12_moveKey 122 = .ok (.aload_n 0, 1) := by decide +kernel
theorem dX12_moveKey_123 : decode cX12_moveKey 123 = .ok (.iload_n 1, 1) := by decide +kernel
theorem dX12_moveKey_124 : decode cX12_moveKey 124 = .ok (.iload 4, 2) := by decide +kernel
theorem dX12_moveKey_126 : decode cX12_moveKey 126 = .ok (.invokevirtual 153, 3) := by decide +kernel
theorem dX12_moveKey_129 : decode cX12_moveKey 129 = .ok (.aload_n 0, 1) := by decide +kernel
theorem dX12_moveKey_130 : decode cX12_moveKey 130 = .ok (.iload_n 1, 1) := by decide +kernel
theorem dX12_moveKey_131 : decode cX12_moveKey 131 = .ok (.iload_n 3, 1) := by decide +kernel
theorem dX12_moveKey_132 : decode cX12_moveKey 132 = .ok (.iload 5, 2) := by decide +kernel
theorem dX12_moveKey_134 : decode cX12_moveKey 134 = .ok (.iload 6, 2) := by decide +kernel
theorem dX12_moveKey_136 : decode cX12_moveKey 136 = .ok (.iload 7, 2) := by decide +kernel
theorem dX12_moveKey_138 : decode cX12_moveKey 138 = .ok (.iload 8, 2) := by decide +kernel
theorem dX12_moveKey_140 : decode cX12_moveKey 140 = .ok (.invokevirtual 149, 3) := by decide +kernel
theorem dX12_moveKey_143 : decode cX12_moveKey 143 = .ok (.ireturn, 1) := by decide +kernel
theorem dX12_frees_0 : decode cX12_frees 0 = .ok (.aload_n 0, 1) := by decide +kernel
theorem dX12_frees_1 : decode cX12_frees 1 = .ok (.iload_n 1, 1) := by decide +kernel
theorem dX12_frees_2 : decode cX12_frees 2 = .ok (.iload_n 2, 1) := by decide +kernel
theorem dX12_frees_3 : decode cX12_frees 3 = .ok (.iconst 0, 1) := by decide +kernel
theorem dX12_frees_4 : decode cX12_frees 4 = .ok (.invokevirtual 122, 3) := by decide +kernel
theorem dX12_frees_7 : decode cX12_frees 7 = .ok (.i2l, 1) := by decide +kernel
theorem dX12_frees_8 : decode cX12_frees 8 = .ok (.sipush 9999, 3) := by decide +kernel
theorem dX12_frees_11 : decode cX12_frees 11 = .ok (.invokestatic 108, 3) := by decide +kernel
theorem dX12_frees_14 : decode cX12_frees 14 = .ok (.istore_n 3, 1) := by decide +kernel
theorem dX12_frees_15 : decode cX12_frees 15 = .ok (.aload_n 0, 1) := by decide +kernel
theorem dX12_frees_16 : decode cX12_frees 16 = .ok (.iload_n 1, 1) := by decide +kernel
theorem dX12_frees_17 : decode cX12_frees 17 = .ok (.iload_n 2, 1) := by decide +kernel
theorem dX12_frees_18 : decode cX12_frees 18 = .ok (.iconst 1, 1) := by decide +kernel
theorem dX12_frees_19 : decode cX12_frees 19 = .ok (.invokevirtual 122, 3) := by decide +kernel
theorem dX12_frees_22 : decode cX12_frees 22 = .ok (.i2l, 1) := by decide +kernel
theorem dX12_frees_23 : decode cX12_frees 23 = .ok (.sipush 9999, 3) := by decide +kernel
theorem dX12_frees_26 : decode cX12_frees 26 = .ok (.invokestatic 108, 3) := by decide +kernel
theorem dX12_frees_29 : decode cX12_frees 29 = .ok (.istore 4, 2) := by decide +kernel
theorem dX12_frees_31 : decode cX12_frees 31 = .ok (.aload_n 0, 1) := by decide +kernel
theorem dX12_frees_32 : decode cX12_frees 32 = .ok (.getfield 7, 3) := by decide +kernel
theorem dX12_frees_35 : decode cX12_frees 35 = .ok (.iload_n 1, 1) := by decide +kernel
theorem dX12_frees_36 : decode cX12_frees 36 = .ok (.bipush 76, 2) := by decide +kernel
theorem dX12_frees_38 : decode cX12_frees 38 = .ok (.iload_n 2, 1) := by decide +kernel
theorem dX12_frees_39 : decode cX12_frees 39 = .ok (.invokestatic 70, 3) := by decide +kernel
theorem dX12_frees_42 : decode cX12_frees 42 = .ok (.iload_n 3, 1) := by decide +kernel
theorem dX12_frees_43 : decode cX12_frees 43 = .ok (.iastore, 1) := by decide +kernel
theorem dX12_frees_44 : decode cX12_frees 44 = .ok (.aload_n 0, 1) := by decide +kernel
theorem dX12_frees_45 : decode cX12_frees 45 = .ok (.getfield 7, 3) := by decide +kernel
theorem dX12_frees_48 : decode cX12_frees 48 = .ok (.iload_n 1, 1) := by decide +kernel
theorem dX12_frees_49 : decode cX12_frees 49 = .ok (.bipush 100, 2) := by decide +kernel
theorem dX12_frees_51 : decode cX12_frees 51 = .ok (.iload_n 2, 1) := by decide +kernel
theorem dX12_frees_52 : decode cX12_frees 52 = .ok (.invokestatic 70, 3) := by decide +kernel
theorem dX12_frees_55 : decode cX12_frees 55 = .ok (.iload 4, 2) := by decide +kernel
theorem dX12_frees_57 : decode cX12_frees 57 = .ok (.iastore, 1) := by decide +kernel
theorem dX12_frees_58 : decode cX12_frees 58 = .ok (.aload_n 0, 1) := by decide +kernel
theorem dX12_frees_59 : decode cX12_frees 59 = .ok (.getfield 7, 3) := by decide +kernel
theorem dX12_frees_62 : decode cX12_frees 62 = .ok (.iload_n 1, 1) := by decide +kernel
theorem dX12_frees_63 : decode cX12_frees 63 = .ok (.bipush 52, 2) := by decide +kernel
theorem dX12_frees_65 : decode cX12_frees 65 = .ok (.iload_n 2, 1) := by decide +kernel
theorem dX12_frees_66 : decode cX12_frees 66 = .ok (.invokestatic 70, 3) := by decide +kernel
theorem dX12_frees_69 : decode cX12_frees 69 = .ok (.iconst 0, 1) := by decide +kernel
theorem dX12_frees_70 : decode cX12_frees 70 = .ok (.iastore, 1) := by decide +kernel
theorem dX12_frees_71 : decode cX12_frees 71 = .ok (.return_, 1) := by decide +kernel
end
section
theorem dX12_setMode_0 : decode cX12_setMode 0 = .ok (.iload_n 1, 1) := by decide +kernel
theorem dX12_setMode_1 : decode cX12_setMode 1 = .ok (.invokestatic 74, 3) := by decide +kernel
theorem dX12_setMode_4 : decode cX12_setMode 4 = .ok (.ifCond .eq 12, 3) := by decide +kernel
theorem dX12_setMode_7 : decode cX12_setMode 7 = .ok (.aload_n 0, 1) := by decide +kernel
theorem dX12_setMode_8 : decode cX12_setMode 8 = .ok (.iload_n 1, 1) := by decide +kernel
theorem dX12_setMode_9 : decode cX12_setMode 9 = .ok (.iload_n 2, 1) := by decide +kernel
theorem dX12_setMode_10 : decode cX12_setMode 10 = .ok (.invokevirtual 142, 3) := by decide +kernel
theorem dX12_setMode_13 : decode cX12_setMode 13 = .ok (.goto 4, 3) := by decide +kernel
theorem dX12_setMode_16 : decode cX12_setMode 16 = .ok (.iconst (-1), 1) := by decide +kernel
theorem dX12_setMode_17 : decode cX12_setMode 17 = .ok (.istore 4, 2) := by decide +kernel
theorem dX12_setMode_19 : decode cX12_setMode 19 = .ok (.iload 4, 2) := by decide +kernel
theorem dX12_setMode_21 : decode cX12_setMode 21 = .ok (.ifCond .ge 6, 3) := by decide +kernel
theorem dX12_setMode_24 : decode cX12_setMode 24 = .ok (.ldc 131, 2) := by decide +kernel
theorem dX12_setMode_26 : decode cX12_setMode 26 = .ok (.ireturn, 1) := by decide +kernel
theorem dX12_setMode_27 : decode cX12_setMode 27 = .ok (.iload_n 3, 1) := by decide +kernel
theorem dX12_setMode_28 : decode cX12_setMode 28 = .ok (.iconst 0, 1) := by decide +kernel
theorem dX12_setMode_29 : decode cX12_setMode 29 = .ok (.bipush 6, 2) := by decide +kernel
theorem dX12_setMode_31 : decode cX12_setMode 31 = .ok (.invokestatic 66, 3) := by decide +kernel
theorem dX12_setMode_34 : decode cX12_setMode 34 = .ok (.ifCond .ne 6, 3) := by decide +kernel
theorem dX12_setMode_37 : decode cX12_setMode 37 = .ok (.ldc 132, 2) := by decide +kernel
theorem dX12_setMode_39 : decode cX12_setMode 39 = .ok (.ireturn, 1) := by decide +kernel
theorem dX12_setMode_40 : decode cX12_setMode 40 = .ok (.aload_n 0, 1) := by decide +kernel
theorem dX12_setMode_41 : decode cX12_setMode 41 = .ok (.invokevirtual 146, 3) := by decide +kernel
theorem dX12_setMode_44 : decode cX12_setMode 44 = .ok (.aload_n 0, 1) := by decide +kernel
theorem dX12_setMode_45 : decode cX12_setMode 45 = .ok (.getfield 7, 3) := by decide +kernel
theorem dX12_setMode_48 : decode cX12_setMode 48 = .ok (.iload_n 1, 1) := by decide +kernel
theorem dX12_setMode_49 : decode cX12_setMode 49 = .ok (.bipush 52, 2) := by decide +kernel
theorem dX12_setMode_51 : decode cX12_setMode 51 = .ok (.iload 4, 2) := by decide +kernel
theorem dX12_setMode_53 : decode cX12_setMode 53 = .ok (.invokestatic 70, 3) := by decide +kernel
theorem dX12_setMode_56 : decode cX12_setMode 56 = .ok (.iaload, 1) := by decide +kernel
theorem dX12_setMode_57 : decode cX12_setMode 57 = .ok (.istore 5, 2) := by decide +kernel
theorem dX12_setMode_59 : decode cX12_setMode 59 = .ok (.iload_n 3, 1) := by decide +kernel
theorem dX12_setMode_60 : decode cX12_setMode 60 = .ok (.ifCond .ne 10, 3) := by decide +kernel
theorem dX12_setMode_63 : decode cX12_setMode 63 = .ok (.aload_n 0, 1) := by decide +kernel
theorem dX12_setMode_64 : decode cX12_setMode 64 = .ok (.iload_n 1, 1) := by decide +kernel
theorem dX12_setMode_65 : decode cX12_setMode 65 = .ok (.iload 4, 2) := by decide +kernel
theorem dX12_setMode_67 : decode cX12_setMode 67 = .ok (.invokevirtual 158, 3) := by decide +kernel
theorem dX12_setMode_70 : decode cX12_setMode 70 = .ok (.aload_n 0, 1) := by decide +kernel
theorem dX12_setMode_71 : decode cX12_setMode 71 = .ok (.getfield 7, 3) := by decide +kernel
theorem dX12_setMode_74 : decode cX12_setMode 74 = .ok (.iload_n 1, 1) := by decide +kernel
theorem dX12_setMode_75 : decode cX12_setMode 75 = .ok (.bipush 52, 2) := by decide +kernel
theorem dX12_setMode_77 : decode cX12_setMode 77 = .ok (.iload 4, 2) := by decide +kernel
theorem dX12_setMode_79 : decode cX12_setMode 79 = .ok (.invokestatic 70, 3) := by decide +kernel
theorem dX12_setMode_82 : decode cX12_setMode 82 = .ok (.iload_n 3, 1) := by decide +kernel
theorem dX12_setMode_83 : decode cX12_setMode 83 = .ok (.iastore, 1) := by decide +kernel
theorem dX12_setMode_84 : decode cX12_setMode 84 = .ok (.iload 5, 2) := by decide +kernel
theorem dX12_setMode_86 : decode cX12_setMode 86 = .ok (.ireturn, 1) := by decide +kernel
theorem dX12_setSlopes_0 : decode cX12_setSlopes 0 = .ok (.iload_n 1, 1) := by decide +kernel
theorem dX12_setSlopes_1 : decode cX12_setSlopes 1 = .ok (.invokestatic 74, 3) := by decide +kernel
theorem dX12_setSlopes_4 : decode cX12_setSlopes 4 = .ok (.ifCond .eq 12, 3) := by decide +kernel
theorem dX12_setSlopes_7 : decode cX12_setSlopes 7 = .ok (.aload_n 0, 1) := by decide +kernel
theorem dX12_setSlopes_8 : decode cX12_setSlopes 8 = .ok (.iload_n 1, 1) := by decide +kernel
theorem dX12_setSlopes_9 : decode cX12_setSlopes 9 = .ok (.iload_n 2, 1) := by decide +kernel
theorem dX12_setSlopes_10 : decode cX12_setSlopes 10 = .ok (.invokevirtual 142, 3) := by decide +kernel
theorem dX12_setSlopes_13 : decode cX12_setSlopes 13 = .ok (.goto 4, 3) := by decide +kernel
theorem dX12_setSlopes_16 : decode cX12_setSlopes 16 = .ok (.iconst (-1), 1) := by decide +kernel
theorem dX12_setSlopes_17 : decode cX12_setSlopes 17 = .ok (.istore 5, 2) := by decide +kernel
theorem dX12_setSlopes_19 : decode cX12_setSlopes 19 = .ok (.iload 5, 2) := by decide +kernel
theorem dX12_setSlopes_21 : decode cX12_setSlopes 21 = .ok (.ifCond .ge 6, 3) := by decide +kernel
theorem dX12_setSlopes_24 : decode cX12_setSlopes 24 = .ok (.ldc 131, 2) := by decide +kernel
theorem dX12_setSlopes_26 : decode cX12_setSlopes 26 = .ok (.ireturn, 1) := by decide +kernel
theorem dX12_setSlopes_27 : decode cX12_setSlopes 27 = .ok (.iload_n 3, 1) := by decide +kernel
theorem dX12_setSlopes_28 : decode cX12_setSlopes 28 = .ok (.sipush (-9999), 3) := by decide +kernel
theorem dX12_setSlopes_31 : decode cX12_setSlopes 31 = .ok (.sipush 9999, 3) := by decide +kernel
theorem dX12_setSlopes_34 : decode cX12_setSlopes 34 = .ok (.invokestatic 66, 3) := by decide +kernel
theorem dX12_setSlopes_37 : decode cX12_setSlopes 37 = .ok (.ifCond .eq 17, 3) := by decide +kernel
theorem dX12_setSlopes_40 : decode cX12_setSlopes 40 = .ok (.iload 4, 2) := by decide +kernel
theorem dX12_setSlopes_42 : decode cX12_setSlopes 42 = .ok (.sipush (-9999), 3) := by decide +kernel
theorem dX12_setSlopes_45 : decode cX12_setSlopes 45 = .ok (.sipush 9999, 3) := by decide +kernel
theorem dX12_setSlopes_48 : decode cX12_setSlopes 48 = .ok (.invokestatic 66, 3) := by decide +kernel
theorem dX12_setSlopes_51 : decode cX12_setSlopes 51 = .ok (.ifCond .ne 6, 3) := by decide +kernel
theorem dX12_setSlopes_54 : decode cX12_setSlopes 54 = .ok (.ldc 132, 2) := by decide +kernel
theorem dX12_setSlopes_56 : decode cX12_setSlopes 56 = .ok (.ireturn, 1) := by decide +kernel
theorem dX12_setSlopes_57 : decode cX12_setSlopes 57 = .ok (.aload_n 0, 1) := by decide +kernel
theorem dX12_setSlopes_58 : decode cX12_setSlopes 58 = .ok (.invokevirtual 146, 3) := by decide +kernel
theorem dX12_setSlopes_61 : decode cX12_setSlopes 61 = .ok (.aload_n 0, 1) := by decide +kernel
theorem dX12_setSlopes_62 : decode cX12_setSlopes 62 = .ok (.getfield 7, 3) := by decide +kernel
theorem dX12_setSlopes_65 : decode cX12_setSlopes 65 = .ok (.iload_n 1, 1) := by decide +kernel
theorem dX12_setSlopes_66 : decode cX12_setSlopes 66 = .ok (.bipush 52, 2) := by decide +kernel
theorem dX12_setSlopes_68 : decode cX12_setSlopes 68 = .ok (.iload 5, 2) := by decide +kernel
theorem dX12_setSlopes_70 : decode cX12_setSlopes 70 = .ok (.invokestatic 70, 3) := by decide +kernel
theorem dX12_setSlopes_73 : decode cX12_setSlopes 73 = .ok (.iaload, 1) := by decide +kernel
theorem dX12_setSlopes_74 : decode cX12_setSlopes 74 = .ok (.istore 6, 2) := by decide +kernel
theorem dX12_setSlopes_76 : decode cX12_setSlopes 76 = .ok (.aload_n 0, 1) := by decide +kernel
theorem dX12_setSlopes_77 : decode cX12_setSlopes 77 = .ok (.getfield 7, 3) := by decide +kernel
theorem dX12_setSlopes_80 : decode cX12_setSlopes 80 = .ok (.iload_n 1, 1) := by decide +kernel
theorem dX12_setSlopes_81 : decode cX12_setSlopes 81 = .ok (.bipush 52, 2) := by decide +kernel
theorem dX12_setSlopes_83 : decode cX12_setSlopes 83 = .ok (.iload 5, 2) := by decide +kernel
theorem dX12_setSlopes_85 : decode cX12_setSlopes 85 = .ok (.invokestatic 70, 3) := by decide +kernel
theorem dX12_setSlopes_88 : decode cX12_setSlopes 88 = .ok (.iconst 0, 1) := by decide +kernel
theorem dX12_setSlopes_89 : decode cX12_setSlopes 89 = .ok (.iastore, 1) := by decide +kernel
theorem dX12_setSlopes_90 : decode cX12_setSlopes 90 = .ok (.aload_n 0, 1) := by decide +kernel
theorem dX12_setSlopes_91 : decode cX12_setSlopes 91 = .ok (.getfield 7, 3) := by decide +kernel
theorem dX12_setSlopes_94 : decode cX12_setSlopes 94 = .ok (.iload_n 1, 1) := by decide +kernel
theorem dX12_setSlopes_95 : decode cX12_setSlopes 95 = .ok (.bipush 76, 2) := by decide +kernel
theorem dX12_setSlopes_97 : decode cX12_setSlopes 97 = .ok (.iload 5, 2) := by decide +kernel
theorem dX12_setSlopes_99 : decode cX12_setSlopes 99 = .ok (.invokestatic 70, 3) := by decide +kernel
theorem dX12_setSlopes_102 : decode cX12_setSlopes 102 = .ok (.iload_n 3, 1) := by decide +kernel
theorem dX12_setSlopes_103 : decode cX12_setSlopes 103 = .ok (.iastore, 1) := by decide +kernel
theorem dX12_setSlopes_104 : decode cX12_setSlopes 104 = .ok (.aload_n 0, 1) := by decide +kernel
theorem dX12_setSlopes_105 : decode cX12_setSlopes 105 = .ok (.getfield 7, 3) := by decide +kernel
theorem dX12_setSlopes_108 : decode cX12_setSlopes 108 = .ok (.iload_n 1, 1) := by decide +kernel
theorem dX12_setSlopes_109 : decode cX12_setSlopes 109 = .ok (.bipush 100, 2) := by decide +kernel
theorem dX12_setSlopes_111 : decode cX12_setSlopes 111 = .ok (.iload 5, 2) := by decide +kernel
theorem dX12_setSlopes_113 : decode cX12_setSlopes 113 = .ok (.invokestatic 70, 3) := by decide +kernel
theorem dX12_setSlopes_116 : decode cX12_setSlopes 116 = .ok (.iload 4, 2) := by decide +kernel
theorem dX12_setSlopes_118 : decode cX12_setSlopes 118 = .ok (.iastore, 1) := by decide +kernel
theorem dX12_setSlopes_119 : decode cX12_setSlopes 119 = .ok (.iload 6, 2) := by decide +kernel
theorem dX12_setSlopes_121 : decode cX12_setSlopes 121 = .ok (.ireturn, 1) := by decide +kernel
theorem dX12_inUnits_0 : decode cX12_inUnits 0 = .ok (.lload_n 0, 1) := by decide +kernel
theorem dX12_inUnits_1 : decode cX12_inUnits 1 = .ok (.ldc2_w 91, 3) := by decide +kernel
theorem dX12_inUnits_4 : decode cX12_inUnits 4 = .ok (.invokestatic 93, 3) := by decide +kernel
theorem dX12_inUnits_7 : decode cX12_inUnits 7 = .ok (.sipush 999, 3) := by decide +kernel
theorem dX12_inUnits_10 : decode cX12_inUnits 10 = .ok (.invokestatic 108, 3) := by decide +kernel
theorem dX12_inUnits_13 : decode cX12_inUnits 13 = .ok (.ireturn, 1) := by decide +kernel
theorem dX12_split_0 : decode cX12_split 0 = .ok (.iload_n 1, 1) := by decide +kernel
theorem dX12_split_1 : decode cX12_split 1 = .ok (.invokestatic 74, 3) := by decide +kernel
theorem dX12_split_4 : decode cX12_split 4 = .ok (.ifCond .ne 6, 3) := by decide +kernel
theorem dX12_split_7 : decode cX12_split 7 = .ok (.ldc 131, 2) := by decide +kernel
theorem dX12_split_9 : decode cX12_split 9 = .ok (.ireturn, 1) := by decide +kernel
theorem dX12_split_10 : decode cX12_split 10 = .ok (.aload_n 0, 1) := by decide +kernel
theorem dX12_split_11 : decode cX12_split 11 = .ok (.iload_n 1, 1) := by decide +kernel
theorem dX12_split_12 : decode cX12_split 12 = .ok (.invokevirtual 78, 3) := by decide +kernel
theorem dX12_split_15 : decode cX12_split 15 = .ok (.istore_n 3, 1) := by decide +kernel
theorem dX12_split_16 : decode cX12_split 16 = .ok (.iload_n 3, 1) := by decide +kernel
theorem dX12_split_17 : decode cX12_split 17 = .ok (.iconst 2, 1) := by decide +kernel
theorem dX12_split_18 : decode cX12_split 18 = .ok (.if_icmp .lt 34, 3) := by decide +kernel
theorem dX12_split_21 : decode cX12_split 21 = .ok (.iload_n 2, 1) := by decide +kernel
theorem dX12_split_22 : decode cX12_split 22 = .ok (.aload_n 0, 1) := by decide +kernel
theorem dX12_split_23 : decode cX12_split 23 = .ok (.iload_n 1, 1) := by decide +kernel
theorem dX12_split_24 : decode cX12_split 24 = .ok (.iconst 0, 1) := by decide +kernel
theorem dX12_split_25 : decode cX12_split 25 = .ok (.invokevirtual 82, 3) := by decide +kernel
theorem dX12_split_28 : decode cX12_split 28 = .ok (.if_icmp .le 24, 3) := by decide +kernel
theorem dX12_split_31 : decode cX12_split 31 = .ok (.iload_n 2, 1) := by decide +kernel
theorem dX12_split_32 : decode cX12_split 32 = .ok (.aload_n 0, 1) := by decide +kernel
theorem dX12_split_33 : decode cX12_split 33 = .ok (.iload_n 1, 1) := by decide +kernel
theorem dX12_split_34 : decode cX12_split 34 = .ok (.iload_n 3, 1) := by decide +kernel
theorem dX12_split_35 : decode cX12_split 35 = .ok (.iconst 1, 1) := by decide +kernel
theorem dX12_split_36 : decode cX12_split 36 = .ok (.isub, 1) := by decide +kernel
theorem dX12_split_37 : decode cX12_split 37 = .ok (.invokevirtual 82, 3) := by decide +kernel
theorem dX12_split_40 : decode cX12_split 40 = .ok (.if_icmp .ge 12, 3) := by decide +kernel
theorem dX12_split_43 : decode cX12_split 43 = .ok (.aload_n 0, 1) := by decide +kernel
theorem dX12_split_44 : decode cX12_split 44 = .ok (.iload_n 1, 1) := by decide +kernel
theorem dX12_split_45 : decode cX12_split 45 = .ok (.iload_n 2, 1) := by decide +kernel
theorem dX12_split_46 : decode cX12_split 46 = .ok (.invokevirtual 142, 3) := by decide +kernel
theorem dX12_split_49 : decode cX12_split 49 = .ok (.ifCond .lt 6, 3) := by decide +kernel
theorem dX12_split_52 : decode cX12_split 52 = .ok (.ldc 132, 2) := by decide +kernel
theorem dX12_split_54 : decode cX12_split 54 = .ok (.ireturn, 1) := by decide +kernel
theorem dX12_split_55 : decode cX12_split 55 = .ok (.iload_n 3, 1) := by decide +kernel
theorem dX12_split_56 : decode cX12_split 56 = .ok (.bipush 24, 2) := by decide +kernel
theorem dX12_split_58 : decode cX12_split 58 = .ok (.if_icmp .ne 6, 3) := by decide +kernel
theorem dX12_split_61 : decode cX12_split 61 = .ok (.ldc 145, 2) := by decide +kernel
theorem dX12_split_63 : decode cX12_split 63 = .ok (.ireturn, 1) := by decide +kernel
theorem dX12_split_64 : decode cX12_split 64 = .ok (.aload_n 0, 1) := by decide +kernel
theorem dX12_split_65 : decode cX12_split 65 = .ok (.invokevirtual 146, 3) := by decide +kernel
theorem dX12_split_68 : decode cX12_split 68 = .ok (.aload_n 0, 1) := by decide +kernel
theorem dX12_split_69 : decode cX12_split 69 = .ok (.iload_n 1, 1) := by decide +kernel
theorem dX12_split_70 : decode cX12_split 70 = .ok (.iload_n 2, 1) := by decide +kernel
theorem dX12_split_71 : decode cX12_split 71 = .ok (.invokevirtual 133, 3) := by decide +kernel
theorem dX12_split_74 : decode cX12_split 74 = .ok (.istore 4, 2) := by decide +kernel
theorem dX12_split_76 : decode cX12_split 76 = .ok (.aload_n 0, 1) := by decide +kernel
theorem dX12_split_77 : decode cX12_split 77 = .ok (.iload_n 1, 1) := by decide +kernel
theorem dX12_split_78 : decode cX12_split 78 = .ok (.iload_n 2, 1) := by decide +kernel
theorem dX12_split_79 : decode cX12_split 79 = .ok (.iconst 1, 1) := by decide +kernel
theorem dX12_split_80 : decode cX12_split 80 = .ok (.iadd, 1) := by decide +kernel
theorem dX12_split_81 : decode cX12_split 81 = .ok (.invokevirtual 133, 3) := by decide +kernel
theorem dX12_split_84 : decode cX12_split 84 = .ok (.i2l, 1) := by decide +kernel
theorem dX12_split_85 : decode cX12_split 85 = .ok (.aload_n 0, 1) := by decide +kernel
theorem dX12_split_86 : decode cX12_split 86 = .ok (.iload_n 1, 1) := by decide +kernel
theorem dX12_split_87 : decode cX12_split 87 = .ok (.iload_n 2, 1) := by decide +kernel
theorem dX12_split_88 : decode cX12_split 88 = .ok (.iconst 1, 1) := by decide +kernel
theorem dX12_split_89 : decode cX12_split 89 = .ok (.isub, 1) := by decide +kernel
theorem dX12_split_90 : decode cX12_split 90 = .ok (.invokevirtual 133, 3) := by decide +kernel
theorem dX12_split_93 : decode cX12_split 93 = .ok (.i2l, 1) := by decide +kernel
theorem dX12_split_94 : decode cX12_split 94 = .ok (.lsub, 1) := by decide +kernel
theorem dX12_split_95 : decode cX12_split 95 = .ok (.ldc2_w 60, 3) := by decide +kernel
theorem dX12_split_98 : decode cX12_split 98 = .ok (.invokestatic 93, 3) := by decide +kernel
theorem dX12_split_101 : decode cX12_split 101 = .ok (.sipush 9999, 3) := by decide +kernel
theorem dX12_split_104 : decode cX12_split 104 = .ok (.invokestatic 108, 3) := by decide +kernel
theorem dX12_split_107 : decode cX12_split 107 = .ok (.istore 5, 2) := by decide +kernel
theorem dX12_split_109 : decode cX12_split 109 = .ok (.iconst 0, 1) := by decide +kernel
theorem dX12_split_110 : decode cX12_split 110 = .ok (.istore 6, 2) := by decide +kernel
theorem dX12_split_112 : decode cX12_split 112 = .ok (.aload_n 0, 1) := by decide +kernel
theorem dX12_split_113 : decode cX12_split 113 = .ok (.iload_n 1, 1) := by decide +kernel
theorem dX12_split_114 : decode cX12_split 114 = .ok (.iload 6, 2) := by decide +kernel
theorem dX12_split_116 : decode cX12_split 116 = .ok (.iconst 1, 1) := by decide +kernel
theorem dX12_split_117 : decode cX12_split 117 = .ok (.iadd, 1) := by decide +kernel
theorem dX12_split_118 : decode cX12_split 118 = .ok (.invokevirtual 82, 3) := by decide +kernel
theorem dX12_split_121 : decode cX12_split 121 = .ok (.iload_n 2, 1) := by decide +kernel
theorem dX12_split_122 : decode cX12_split 122 = .ok (.if_icmp .ge 9, 3) := by decide +kernel
theorem dX12_split_125 : decode cX12_split 125 = .ok (.iinc 6 1, 3) := by decide +kernel
theorem dX12_split_128 : decode cX12_split 128 = .ok (.goto (-16), 3) := by decide +kernel
theorem dX12_split_131 : decode cX12_split 131 = .ok (.aload_n 0, 1) := by decide +kernel
theorem dX12_split_132 : decode cX12_split 132 = .ok (.getfield 7, 3) := by decide +kernel
theorem dX12_split_135 : decode cX12_split 135 = .ok (.iload_n 1, 1) := by decide +kernel
theorem dX12_split_136 : decode cX12_split 136 = .ok (.bipush 52, 2) := by decide +kernel
theorem dX12_split_138 : decode cX12_split 138 = .ok (.iload 6, 2) := by decide +kernel
theorem dX12_split_140 : decode cX12_split 140 = .ok (.invokestatic 70, 3) := by decide +kernel
theorem dX12_split_143 : decode cX12_split 143 = .ok (.iaload, 1) := by decide +kernel
theorem dX12_split_144 : decode cX12_split 144 = .ok (.bipush 6, 2) := by decide +kernel
theorem dX12_split_146 : decode cX12_split 146 = .ok (.if_icmp .ne 7, 3) := by decide +kernel
theorem dX12_split_149 : decode cX12_split 149 = .ok (.iconst 1, 1) := by decide +kernel
theorem dX12_split_150 : decode cX12_split 150 = .ok (.goto 4, 3) := by decide +kernel
theorem dX12_split_153 : decode cX12_split 153 = .ok (.iconst 0, 1) := by decide +kernel
theorem dX12_split_154 : decode cX12_split 154 = .ok (.istore 7, 2) := by decide +kernel
theorem dX12_split_156 : decode cX12_split 156 = .ok (.iload 7, 2) := by decide +kernel
theorem dX12_split_158 : decode cX12_split 158 = .ok (.ifCond .ne 10, 3) := by decide +kernel
theorem dX12_split_161 : decode cX12_split 161 = .ok (.aload_n 0, 1) := by decide +kernel
theorem dX12_split_162 : decode cX12_split 162 = .ok (.iload_n 1, 1) := by decide +kernel
theorem dX12_split_163 : decode cX12_split 163 = .ok (.iload 6, 2) := by decide +kernel
theorem dX12_split_165 : decode cX12_split 165 = .ok (.invokevirtual 158, 3) := by decide +kernel
theorem dX12_split_168 : decode cX12_split 168 = .ok (.aload_n 0, 1) := by decide +kernel
theorem dX12_split_169 : decode cX12_split 169 = .ok (.getfield 7, 3) := by decide +kernel
theorem dX12_split_172 : decode cX12_split 172 = .ok (.iload_n 1, 1) := by decide +kernel
theorem dX12_split_173 : decode cX12_split 173 = .ok (.bipush 52, 2) := by decide +kernel
theorem dX12_split_175 : decode cX12_split 175 = .ok (.iload 6, 2) := by decide +kernel
theorem dX12_split_177 : decode cX12_split 177 = .ok (.iconst 1, 1) := by decide +kernel
theorem dX12_split_178 : decode cX12_split 178 = .ok (.iadd, 1) := by decide +kernel
theorem dX12_split_179 : decode cX12_split 179 = .ok (.invokestatic 70, 3) := by decide +kernel
theorem dX12_split_182 : decode cX12_split 182 = .ok (.iaload, 1) := by decide +kernel
theorem dX12_split_183 : decode cX12_split 183 = .ok (.bipush 6, 2) := by decide +kernel
theorem dX12_split_185 : decode cX12_split 185 = .ok (.if_icmp .eq 12, 3) := by decide +kernel
theorem dX12_split_188 : decode cX12_split 188 = .ok (.aload_n 0, 1) := by decide +kernel
theorem dX12_split_189 : decode cX12_split 189 = .ok (.iload_n 1, 1) := by decide +kernel
theorem dX12_split_190 : decode cX12_split 190 = .ok (.iload 6, 2) := by decide +kernel
theorem dX12_split_192 : decode cX12_split 192 = .ok (.iconst 1, 1) := by decide +kernel
theorem dX12_split_193 : decode cX12_split 193 = .ok (.iadd, 1) := by decide +kernel
theorem dX12_split_194 : decode cX12_split 194 = .ok (.invokevirtual 158, 3) := by decide +kernel
theorem dX12_split_197 : decode cX12_split 197 = .ok (.iload 7, 2) := by decide +kernel
theorem dX12_split_199 : decode cX12_split 199 = .ok (.ifCond .eq 29, 3) := by decide +kernel
theorem dX12_split_202 : decode cX12_split 202 = .ok (.aload_n 0, 1) := by decide +kernel
theorem dX12_split_203 : decode cX12_split 203 = .ok (.iload_n 1, 1) := by decide +kernel
theorem dX12_split_204 : decode cX12_split 204 = .ok (.iload_n 2, 1) := by decide +kernel
theorem dX12_split_205 : decode cX12_split 205 = .ok (.aload_n 0, 1) := by decide +kernel
theorem dX12_split_206 : decode cX12_split 206 = .ok (.getfield 7, 3) := by decide +kernel
theorem dX12_split_209 : decode cX12_split 209 = .ok (.iload_n 1, 1) := by decide +kernel
theorem dX12_split_210 : decode cX12_split 210 = .ok (.bipush 28, 2) := by decide +kernel
theorem dX12_split_212 : decode cX12_split 212 = .ok (.iload 6, 2) := by decide +kernel
theorem dX12_split_214 : decode cX12_split 214 = .ok (.invokestatic 70, 3) := by decide +kernel
theorem dX12_split_217 : decode cX12_split 217 = .ok (.iaload, 1) := by decide +kernel
theorem dX12_split_218 : decode cX12_split 218 = .ok (.bipush 6, 2) := by decide +kernel
theorem dX12_split_220 : decode cX12_split 220 = .ok (.iconst 0, 1) := by decide +kernel
theorem dX12_split_221 : decode cX12_split 221 = .ok (.iconst 0, 1) := by decide +kernel
theorem dX12_split_222 : decode cX12_split 222 = .ok (.invokevirtual 149, 3) := by decide +kernel
theorem dX12_split_225 : decode cX12_split 225 = .ok (.goto 20, 3) := by decide +kernel
theorem dX12_split_228 : decode cX12_split 228 = .ok (.aload_n 0, 1) := by decide +kernel
theorem dX12_split_229 : decode cX12_split 229 = .ok (.iload_n 1, 1) := by decide +kernel
theorem dX12_split_230 : decode cX12_split 230 = .ok (.iload_n 2, 1) := by decide +kernel
theorem dX12_split_231 : decode cX12_split 231 = .ok (.iload 4, 2) := by decide +kernel
theorem dX12_split_233 : decode cX12_split 233 = .ok (.i2l, 1) := by decide +kernel
theorem dX12_split_234 : decode cX12_split 234 = .ok (.invokestatic 161, 3) := by decide +kernel
theorem dX12_split_237 : decode cX12_split 237 = .ok (.iconst 0, 1) := by decide +kernel
theorem dX12_split_238 : decode cX12_split 238 = .ok (.iload 5, 2) := by decide +kernel
theorem dX12_split_240 : decode cX12_split 240 = .ok (.iload 5, 2) := by decide +kernel
theorem dX12_split_242 : decode cX12_split 242 = .ok (.invokevirtual 149, 3) := by decide +kernel
theorem dX12_split_245 : decode cX12_split 245 = .ok (.ireturn, 1) := by decide +kernel
theorem dX12_clear_0 : decode cX12_clear 0 = .ok (.iload_n 1, 1) := by decide +kernel
theorem dX12_clear_1 : decode cX12_clear 1 = .ok (.invokestatic 74, 3) := by decide +kernel
theorem dX12_clear_4 : decode cX12_clear 4 = .ok (.ifCond .ne 6, 3) := by decide +kernel
theorem dX12_clear_7 : decode cX12_clear 7 = .ok (.ldc 131, 2) := by decide +kernel
theorem dX12_clear_9 : decode cX12_clear 9 = .ok (.ireturn, 1) := by decide +kernel
theorem dX12_clear_10 : decode cX12_clear 10 = .ok (.aload_n 0, 1) := by decide +kernel
theorem dX12_clear_11 : decode cX12_clear 11 = .ok (.invokevirtual 146, 3) := by decide +kernel
theorem dX12_clear_14 : decode cX12_clear 14 = .ok (.aload_n 0, 1) := by decide +kernel
theorem dX12_clear_15 : decode cX12_clear 15 = .ok (.iload_n 1, 1) := by decide +kernel
theorem dX12_clear_16 : decode cX12_clear 16 = .ok (.invokevirtual 78, 3) := by decide +kernel
theorem dX12_clear_19 : decode cX12_clear 19 = .ok (.istore_n 2, 1) := by decide +kernel
theorem dX12_clear_20 : decode cX12_clear 20 = .ok (.aload_n 0, 1) := by decide +kernel
theorem dX12_clear_21 : decode cX12_clear 21 = .ok (.getfield 7, 3) := by decide +kernel
theorem dX12_clear_24 : decode cX12_clear 24 = .ok (.iload_n 1, 1) := by decide +kernel
theorem dX12_clear_25 : decode cX12_clear 25 = .ok (.iconst 0, 1) := by decide +kernel
theorem dX12_clear_26 : decode cX12_clear 26 = .ok (.iconst 0, 1) := by decide +kernel
theorem dX12_clear_27 : decode cX12_clear 27 = .ok (.invokestatic 70, 3) := by decide +kernel
theorem dX12_clear_30 : decode cX12_clear 30 = .ok (.iconst 0, 1) := by decide +kernel
theorem dX12_clear_31 : decode cX12_clear 31 = .ok (.iastore, 1) := by decide +kernel
theorem dX12_clear_32 : decode cX12_clear 32 = .ok (.aload_n 0, 1) := by decide +kernel
theorem dX12_clear_33 : decode cX12_clear 33 = .ok (.getfield 7, 3) := by decide +kernel
theorem dX12_clear_36 : decode cX12_clear 36 = .ok (.iload_n 1, 1) := by decide +kernel
theorem dX12_clear_37 : decode cX12_clear 37 = .ok (.iconst 1, 1) := by decide +kernel
theorem dX12_clear_38 : decode cX12_clear 38 = .ok (.iconst 0, 1) := by decide +kernel
theorem dX12_clear_39 : decode cX12_clear 39 = .ok (.invokestatic 70, 3) := by decide +kernel
theorem dX12_clear_42 : decode cX12_clear 42 = .ok (.iconst 0, 1) := by decide +kernel
theorem dX12_clear_43 : decode cX12_clear 43 = .ok (.iastore, 1) := by decide +kernel
theorem dX12_clear_44 : decode cX12_clear 44 = .ok (.aload_n 0, 1) := by decide +kernel
theorem dX12_clear_45 : decode cX12_clear 45 = .ok (.getfield 7, 3) := by decide +kernel
theorem dX12_clear_48 : decode cX12_clear 48 = .ok (.iload_n 1, 1) := by decide +kernel
theorem dX12_clear_49 : decode cX12_clear 49 = .ok (.iconst 2, 1) := by decide +kernel
theorem dX12_clear_50 : decode cX12_clear 50 = .ok (.iconst 0, 1) := by decide +kernel
theorem dX12_clear_51 : decode cX12_clear 51 = .ok (.invokestatic 70, 3) := by decide +kernel
theorem dX12_clear_54 : decode cX12_clear 54 = .ok (.iconst 0, 1) := by decide +kernel
theorem dX12_clear_55 : decode cX12_clear 55 = .ok (.iastore, 1) := by decide +kernel
theorem dX12_clear_56 : decode cX12_clear 56 = .ok (.iload_n 2, 1) := by decide +kernel
theorem dX12_clear_57 : decode cX12_clear 57 = .ok (.ireturn, 1) := by decide +kernel
theorem dX12_setExtrapolation_0 : decode cX12_setExtrapolation 0 = .ok (.iload_n 1, 1) := by decide +kernel
theorem dX12_setExtrapolation_1 : decode cX12_setExtrapolation 1 = .ok (.invokestatic 74, 3) := by decide +kernel
theorem dX12_setExtrapolation_4 : decode cX12_setExtrapolation 4 = .ok (.ifCond .ne 6, 3) := by decide +kernel
theorem dX12_setExtrapolation_7 : decode cX12_setExtrapolation 7 = .ok (.ldc 131, 2) := by decide +kernel
theorem dX12_setExtrapolation_9 : decode cX12_setExtrapolation 9 = .ok (.ireturn, 1) := by decide +kernel
theorem dX12_setExtrapolation_10 : decode cX12_setExtrapolation 10 = .ok (.iload_n 2, 1) := by decide +kernel
theorem dX12_setExtrapolation_11 : decode cX12_setExtrapolation 11 = .ok (.iconst 0, 1) := by decide +kernel
theorem dX12_setExtrapolation_12 : decode cX12_setExtrapolation 12 = .ok (.iconst 4, 1) := by decide +kernel
theorem dX12_setExtrapolation_13 : decode cX12_setExtrapolation 13 = .ok (.invokestatic 66, 3) := by decide +kernel
theorem dX12_setExtrapolation_16 : decode cX12_setExtrapolation 16 = .ok (.ifCond .eq 12, 3) := by decide +kernel
theorem dX12_setExtrapolation_19 : decode cX12_setExtrapolation 19 = .ok (.iload_n 3, 1) := by decide +kernel
theorem dX12_setExtrapolation_20 : decode cX12_setExtrapolation 20 = .ok (.iconst 0, 1) := by decide +kernel
theorem dX12_setExtrapolation_21 : decode cX12_setExtrapolation 21 = .ok (.iconst 4, 1) := by decide +kernel
theorem dX12_setExtrapolation_22 : decode cX12_setExtrapolation 22 = .ok (.invokestatic 66, 3) := by decide +kernel
theorem dX12_setExtrapolation_25 : decode cX12_setExtrapolation 25 = .ok (.ifCond .ne 6, 3) := by decide +kernel
theorem dX12_setExtrapolation_28 : decode cX12_setExtrapolation 28 = .ok (.ldc 132, 2) := by decide +kernel
theorem dX12_setExtrapolation_30 : decode cX12_setExtrapolation 30 = .ok (.ireturn, 1) := by decide +kernel
theorem dX12_setExtrapolation_31 : decode cX12_setExtrapolation 31 = .ok (.aload_n 0, 1) := by decide +kernel
theorem dX12_setExtrapolation_32 : decode cX12_setExtrapolation 32 = .ok (.invokevirtual 146, 3) := by decide +kernel
theorem dX12_setExtrapolation_35 : decode cX12_setExtrapolation 35 = .ok (.bipush 10, 2) := by decide +kernel
theorem dX12_setExtrapolation_37 : decode cX12_setExtrapolation 37 = .ok (.aload_n 0, 1) := by decide +kernel
theorem dX12_setExtrapolation_38 : decode cX12_setExtrapolation 38 = .ok (.getfield 7, 3) := by decide +kernel
theorem dX12_setExtrapolation_41 : decode cX12_setExtrapolation 41 = .ok (.iload_n 1, 1) := by decide +kernel
theorem dX12_setExtrapolation_42 : decode cX12_setExtrapolation 42 = .ok (.iconst 1, 1) := by decide +kernel
theorem dX12_setExtrapolation_43 : decode cX12_setExtrapolation 43 = .ok (.iconst 0, 1) := by decide +kernel
theorem dX12_setExtrapolation_44 : decode cX12_setExtrapolation 44 = .ok (.invokestatic 70, 3) := by decide +kernel
theorem dX12_setExtrapolation_47 : decode cX12_setExtrapolation 47 = .ok (.iaload, 1) := by decide +kernel
theorem dX12_setExtrapolation_48 : decode cX12_setExtrapolation 48 = .ok (.imul, 1) := by decide +kernel
theorem dX12_setExtrapolation_49 : decode cX12_setExtrapolation 49 = .ok (.aload_n 0, 1) := by decide +kernel
theorem dX12_setExtrapolation_50 : decode cX12_setExtrapolation 50 = .ok (.getfield 7, 3) := by decide +kernel
theorem dX12_setExtrapolation_53 : decode cX12_setExtrapolation 53 = .ok (.iload_n 1, 1) := by decide +kernel
theorem dX12_setExtrapolation_54 : decode cX12_setExtrapolation 54 = .ok (.iconst 2, 1) := by decide +kernel
theorem dX12_setExtrapolation_55 : decode cX12_setExtrapolation 55 = .ok (.iconst 0, 1) := by decide +kernel
theorem dX12_setExtrapolation_56 : decode cX12_setExtrapolation 56 = .ok (.invokestatic 70, 3) := by decide +kernel
theorem dX12_setExtrapolation_59 : decode cX12_setExtrapolation 59 = .ok (.iaload, 1) := by decide +kernel
theorem dX12_setExtrapolation_60 : decode cX12_setExtrapolation 60 = .ok (.iadd, 1) := by decide +kernel
theorem dX12_setExtrapolation_61 : decode cX12_setExtrapolation 61 = .ok (.istore 4, 2) := by decide +kernel
theorem dX12_setExtrapolation_63 : decode cX12_setExtrapolation 63 = .ok (.aload_n 0, 1) := by decide +kernel
theorem dX12_setExtrapolation_64 : decode cX12_setExtrapolation 64 = .ok (.getfield 7, 3) := by decide +kernel
theorem dX12_setExtrapolation_67 : decode cX12_setExtrapolation 67 = .ok (.iload_n 1, 1) := by decide +kernel
theorem dX12_setExtrapolation_68 : decode cX12_setExtrapolation 68 = .ok (.iconst 1, 1) := by decide +kernel
theorem dX12_setExtrapolation_69 : decode cX12_setExtrapolation 69 = .ok (.iconst 0, 1) := by decide +kernel
theorem dX12_setExtrapolation_70 : decode cX12_setExtrapolation 70 = .ok (.invokestatic 70, 3) := by decide +kernel
theorem dX12_setExtrapolation_73 : decode cX12_setExtrapolation 73 = .ok (.iload_n 2, 1) := by decide +kernel
theorem dX12_setExtrapolation_74 : decode cX12_setExtrapolation 74 = .ok (.iastore, 1) := by decide +kernel
theorem dX12_setExtrapolation_75 : decode cX12_setExtrapolation 75 = .ok (.aload_n 0, 1) := by decide +kernel
theorem dX12_setExtrapolation_76 : decode cX12_setExtrapolation 76 = .ok (.getfield 7, 3) := by decide +kernel
theorem dX12_setExtrapolation_79 : decode cX12_setExtrapolation 79 = .ok (.iload_n 1, 1) := by decide +kernel
theorem dX12_setExtrapolation_80 : decode cX12_setExtrapolation 80 = .ok (.iconst 2, 1) := by decide +kernel
theorem dX12_setExtrapolation_81 : decode cX12_setExtrapolation 81 = .ok (.iconst 0, 1) := by decide +kernel
theorem dX12_setExtrapolation_82 : decode cX12_setExtrapolation 82 = .ok (.invokestatic 70, 3) := by decide +kernel
theorem dX12_setExtrapolation_85 : decode cX12_setExtrapolation 85 = .ok (.iload_n 3, 1) := by decide +kernel
theorem dX12_setExtrapolation_86 : decode cX12_setExtrapolation 86 = .ok (.iastore, 1) := by decide +kernel
theorem dX12_setExtrapolation_87 : decode cX12_setExtrapolation 87 = .ok (.iload 4, 2) := by decide +kernel
theorem dX12_setExtrapolation_89 : decode cX12_setExtrapolation 89 = .ok (.ireturn, 1) := by decide +kernel
theorem dX12_keys_0 : decode cX12_keys 0 = .ok (.iload_n 1, 1) := by decide +kernel
theorem dX12_keys_1 : decode cX12_keys 1 = .ok (.invokestatic 74, 3) := by decide +kernel
theorem dX12_keys_4 : decode cX12_keys 4 = .ok (.ifCond .eq 11, 3) := by decide +kernel
theorem dX12_keys_7 : decode cX12_keys 7 = .ok (.aload_n 0, 1) := by decide +kernel
theorem dX12_keys_8 : decode cX12_keys 8 = .ok (.iload_n 1, 1) := by decide +kernel
theorem dX12_keys_9 : decode cX12_keys 9 = .ok (.invokevirtual 78, 3) := by decide +kernel
theorem dX12_keys_12 : decode cX12_keys 12 = .ok (.goto 5, 3) := by decide +kernel
theorem dX12_keys_15 : decode cX12_keys 15 = .ok (.ldc 131, 2) := by decide +kernel
theorem dX12_keys_17 : decode cX12_keys 17 = .ok (.ireturn, 1) := by decide +kernel
theorem dX12_frameOf_0 : decode cX12_frameOf 0 = .ok (.aload_n 0, 1) := by decide +kernel
theorem dX12_frameOf_1 : decode cX12_frameOf 1 = .ok (.iload_n 1, 1) := by decide +kernel
theorem dX12_frameOf_2 : decode cX12_frameOf 2 = .ok (.iload_n 2, 1) := by decide +kernel
theorem dX12_frameOf_3 : decode cX12_frameOf 3 = .ok (.invokevirtual 165, 3) := by decide +kernel
theorem dX12_frameOf_6 : decode cX12_frameOf 6 = .ok (.ifCond .eq 12, 3) := by decide +kernel
theorem dX12_frameOf_9 : decode cX12_frameOf 9 = .ok (.aload_n 0, 1) := by decide +kernel
theorem dX12_frameOf_10 : decode cX12_frameOf 10 = .ok (.iload_n 1, 1) := by decide +kernel
theorem dX12_frameOf_11 : decode cX12_frameOf 11 = .ok (.iload_n 2, 1) := by decide +kernel
theorem dX12_frameOf_12 : decode cX12_frameOf 12 = .ok (.invokevirtual 82, 3) := by decide +kernel
theorem dX12_frameOf_15 : decode cX12_frameOf 15 = .ok (.goto 5, 3) := by decide +kernel
theorem dX12_frameOf_18 : decode cX12_frameOf 18 = .ok (.ldc 131, 2) := by decide +kernel
theorem dX12_frameOf_20 : decode cX12_frameOf 20 = .ok (.ireturn, 1) := by decide +kernel
theorem dX12_valueOf_0 : decode cX12_valueOf 0 = .ok (.aload_n 0, 1) := by decide +kernel
theorem dX12_valueOf_1 : decode cX12_valueOf 1 = .ok (.iload_n 1, 1) := by decide +kernel
theorem dX12_valueOf_2 : decode cX12_valueOf 2 = .ok (.iload_n 2, 1) := by decide +kernel
theorem dX12_valueOf_3 : decode cX12_valueOf 3 = .ok (.invokevirtual 165, 3) := by decide +kernel
theorem dX12_valueOf_6 : decode cX12_valueOf 6 = .ok (.ifCond .eq 18, 3) := by decide +kernel
theorem dX12_valueOf_9 : decode cX12_valueOf 9 = .ok (.aload_n 0, 1) := by decide +kernel
theorem dX12_valueOf_10 : decode cX12_valueOf 10 = .ok (.getfield 7, 3) := by decide +kernel
theorem dX12_valueOf_13 : decode cX12_valueOf 13 = .ok (.iload_n 1, 1) := by decide +kernel
theorem dX12_valueOf_14 : decode cX12_valueOf 14 = .ok (.bipush 28, 2) := by decide +kernel
theorem dX12_valueOf_16 : decode cX12_valueOf 16 = .ok (.iload_n 2, 1) := by decide +kernel
theorem dX12_valueOf_17 : decode cX12_valueOf 17 = .ok (.invokestatic 70, 3) := by decide +kernel
theorem dX12_valueOf_20 : decode cX12_valueOf 20 = .ok (.iaload, 1) := by decide +kernel
theorem dX12_valueOf_21 : decode cX12_valueOf 21 = .ok (.goto 5, 3) := by decide +kernel
theorem dX12_valueOf_24 : decode cX12_valueOf 24 = .ok (.ldc 131, 2) := by decide +kernel
theorem dX12_valueOf_26 : decode cX12_valueOf 26 = .ok (.ireturn, 1) := by decide +kernel
theorem dX12_modeOf_0 : decode cX12_modeOf 0 = .ok (.aload_n 0, 1) := by decide +kernel
theorem dX12_modeOf_1 : decode cX12_modeOf 1 = .ok (.iload_n 1, 1) := by decide +kernel
theorem dX12_modeOf_2 : decode cX12_modeOf 2 = .ok (.iload_n 2, 1) := by decide +kernel
theorem dX12_modeOf_3 : decode cX12_modeOf 3 = .ok (.invokevirtual 165, 3) := by decide +kernel
theorem dX12_modeOf_6 : decode cX12_modeOf 6 = .ok (.ifCond .eq 18, 3) := by decide +kernel
theorem dX12_modeOf_9 : decode cX12_modeOf 9 = .ok (.aload_n 0, 1) := by decide +kernel
theorem dX12_modeOf_10 : decode cX12_modeOf 10 = .ok (.getfield 7, 3) := by decide +kernel
theorem dX12_modeOf_13 : decode cX12_modeOf 13 = .ok (.iload_n 1, 1) := by decide +kernel
theorem dX12_modeOf_14 : decode cX12_modeOf 14 = .ok (.bipush 52, 2) := by decide +kernel
theorem dX12_modeOf_16 : decode cX12_modeOf 16 = .ok (.iload_n 2, 1) := by decide +kernel
theorem dX12_modeOf_17 : decode cX12_modeOf 17 = .ok (.invokestatic 70, 3) := by decide +kernel
theorem dX12_modeOf_20 : decode cX12_modeOf 20 = .ok (.iaload, 1) := by decide +kernel
theorem dX12_modeOf_21 : decode cX12_modeOf 21 = .ok (.goto 5, 3) := by decide +kernel
theorem dX12_modeOf_24 : decode cX12_modeOf 24 = .ok (.ldc 131, 2) := by decide +kernel
theorem dX12_modeOf_26 : decode cX12_modeOf 26 = .ok (.ireturn, 1) := by decide +kernel
theorem dX12_slope_0 : decode cX12_slope 0 = .ok (.aload_n 0, 1) := by decide +kernel
theorem dX12_slope_1 : decode cX12_slope 1 = .ok (.iload_n 1, 1) := by decide +kernel
theorem dX12_slope_2 : decode cX12_slope 2 = .ok (.iload_n 2, 1) := by decide +kernel
theorem dX12_slope_3 : decode cX12_slope 3 = .ok (.invokevirtual 165, 3) := by decide +kernel
theorem dX12_slope_6 : decode cX12_slope 6 = .ok (.ifCond .eq 13, 3) := by decide +kernel
theorem dX12_slope_9 : decode cX12_slope 9 = .ok (.aload_n 0, 1) := by decide +kernel
theorem dX12_slope_10 : decode cX12_slope 10 = .ok (.iload_n 1, 1) := by decide +kernel
theorem dX12_slope_11 : decode cX12_slope 11 = .ok (.iload_n 2, 1) := by decide +kernel
theorem dX12_slope_12 : decode cX12_slope 12 = .ok (.iload_n 3, 1) := by decide +kernel
theorem dX12_slope_13 : decode cX12_slope 13 = .ok (.invokevirtual 122, 3) := by decide +kernel
theorem dX12_slope_16 : decode cX12_slope 16 = .ok (.goto 5, 3) := by decide +kernel
theorem dX12_slope_19 : decode cX12_slope 19 = .ok (.ldc 131, 2) := by decide +kernel
theorem dX12_slope_21 : decode cX12_slope 21 = .ok (.ireturn, 1) := by decide +kernel
theorem dX12_addPoint_0 : decode cX12_addPoint 0 = .ok (.aload_n 0, 1) := by decide +kernel
theorem dX12_addPoint_1 : decode cX12_addPoint 1 = .ok (.getfield 7, 3) := by decide +kernel
theorem dX12_addPoint_4 : decode cX12_addPoint 4 = .ok (.sipush 512, 3) := by decide +kernel
theorem dX12_addPoint_7 : decode cX12_addPoint 7 = .ok (.iaload, 1) := by decide +kernel
theorem dX12_addPoint_8 : decode cX12_addPoint 8 = .ok (.istore_n 3, 1) := by decide +kernel
theorem dX12_addPoint_9 : decode cX12_addPoint 9 = .ok (.iload_n 1, 1) := by decide +kernel
theorem dX12_addPoint_10 : decode cX12_addPoint 10 = .ok (.iconst 0, 1) := by decide +kernel
theorem dX12_addPoint_11 : decode cX12_addPoint 11 = .ok (.sipush 480, 3) := by decide +kernel
theorem dX12_addPoint_14 : decode cX12_addPoint 14 = .ok (.invokestatic 66, 3) := by decide +kernel
theorem dX12_addPoint_17 : decode cX12_addPoint 17 = .ok (.ifCond .eq 18, 3) := by decide +kernel
theorem dX12_addPoint_20 : decode cX12_addPoint 20 = .ok (.iload_n 2, 1) := by decide +kernel
theorem dX12_addPoint_21 : decode cX12_addPoint 21 = .ok (.iconst 0, 1) := by decide +kernel
theorem dX12_addPoint_22 : decode cX12_addPoint 22 = .ok (.sipush 480, 3) := by decide +kernel
theorem dX12_addPoint_25 : decode cX12_addPoint 25 = .ok (.invokestatic 66, 3) := by decide +kernel
theorem dX12_addPoint_28 : decode cX12_addPoint 28 = .ok (.ifCond .eq 7, 3) := by decide +kernel
theorem dX12_addPoint_31 : decode cX12_addPoint 31 = .ok (.iconst 1, 1) := by decide +kernel
theorem dX12_addPoint_32 : decode cX12_addPoint 32 = .ok (.goto 4, 3) := by decide +kernel
theorem dX12_addPoint_35 : decode cX12_addPoint 35 = .ok (.iconst 0, 1) := by decide +kernel
theorem dX12_addPoint_36 : decode cX12_addPoint 36 = .ok (.istore 4, 2) := by decide +kernel
theorem dX12_addPoint_38 : decode cX12_addPoint 38 = .ok (.iload 4, 2) := by decide +kernel
theorem dX12_addPoint_40 : decode cX12_addPoint 40 = .ok (.ifCond .eq 39, 3) := by decide +kernel
theorem dX12_addPoint_43 : decode cX12_addPoint 43 = .ok (.iload_n 3, 1) := by decide +kernel
theorem dX12_addPoint_44 : decode cX12_addPoint 44 = .ok (.ifCond .le 38, 3) := by decide +kernel
theorem dX12_addPoint_47 : decode cX12_addPoint 47 = .ok (.iload_n 1, 1) := by decide +kernel
theorem dX12_addPoint_48 : decode cX12_addPoint 48 = .ok (.aload_n 0, 1) := by decide +kernel
theorem dX12_addPoint_49 : decode cX12_addPoint 49 = .ok (.getfield 7, 3) := by decide +kernel
theorem dX12_addPoint_52 : decode cX12_addPoint 52 = .ok (.sipush 513, 3) := by decide +kernel
theorem dX12_addPoint_55 : decode cX12_addPoint 55 = .ok (.iload_n 3, 1) := by decide +kernel
theorem dX12_addPoint_56 : decode cX12_addPoint 56 = .ok (.iadd, 1) := by decide +kernel
theorem dX12_addPoint_57 : decode cX12_addPoint 57 = .ok (.iconst 1, 1) := by decide +kernel
theorem dX12_addPoint_58 : decode cX12_addPoint 58 = .ok (.isub, 1) := by decide +kernel
theorem dX12_addPoint_59 : decode cX12_addPoint 59 = .ok (.iaload, 1) := by decide +kernel
theorem dX12_addPoint_60 : decode cX12_addPoint 60 = .ok (.if_icmp .le 19, 3) := by decide +kernel
theorem dX12_addPoint_63 : decode cX12_addPoint 63 = .ok (.iload_n 2, 1) := by decide +kernel
theorem dX12_addPoint_64 : decode cX12_addPoint 64 = .ok (.aload_n 0, 1) := by decide +kernel
theorem dX12_addPoint_65 : decode cX12_addPoint 65 = .ok (.getfield 7, 3) := by decide +kernel
theorem dX12_addPoint_68 : decode cX12_addPoint 68 = .ok (.sipush 521, 3) := by decide +kernel
theorem dX12_addPoint_71 : decode cX12_addPoint 71 = .ok (.iload_n 3, 1) := by decide +kernel
theorem dX12_addPoint_72 : decode cX12_addPoint 72 = .ok (.iadd, 1) := by decide +kernel
theorem dX12_addPoint_73 : decode cX12_addPoint 73 = .ok (.iconst 1, 1) := by decide +kernel
theorem dX12_addPoint_74 : decode cX12_addPoint 74 = .ok (.isub, 1) := by decide +kernel
theorem dX12_addPoint_75 : decode cX12_addPoint 75 = .ok (.iaload, 1) := by decide +kernel
theorem dX12_addPoint_76 : decode cX12_addPoint 76 = .ok (.if_icmp .gt 6, 3) := by decide +kernel
theorem dX12_addPoint_79 : decode cX12_addPoint 79 = .ok (.ldc 132, 2) := by decide +kernel
theorem dX12_addPoint_81 : decode cX12_addPoint 81 = .ok (.ireturn, 1) := by decide +kernel
theorem dX12_addPoint_82 : decode cX12_addPoint 82 = .ok (.iload_n 3, 1) := by decide +kernel
theorem dX12_addPoint_83 : decode cX12_addPoint 83 = .ok (.bipush 8, 2) := by decide +kernel
theorem dX12_addPoint_85 : decode cX12_addPoint 85 = .ok (.if_icmp .ne 6, 3) := by decide +kernel
theorem dX12_addPoint_88 : decode cX12_addPoint 88 = .ok (.ldc 145, 2) := by decide +kernel
theorem dX12_addPoint_90 : decode cX12_addPoint 90 = .ok (.ireturn, 1) := by decide +kernel
theorem dX12_addPoint_91 : decode cX12_addPoint 91 = .ok (.aload_n 0, 1) := by decide +kernel
theorem dX12_addPoint_92 : decode cX12_addPoint 92 = .ok (.invokevirtual 146, 3) := by decide +kernel
theorem dX12_addPoint_95 : decode cX12_addPoint 95 = .ok (.aload_n 0, 1) := by decide +kernel
theorem dX12_addPoint_96 : decode cX12_addPoint 96 = .ok (.getfield 7, 3) := by decide +kernel
theorem dX12_addPoint_99 : decode cX12_addPoint 99 = .ok (.sipush 513, 3) := by decide +kernel
theorem dX12_addPoint_102 : decode cX12_addPoint 102 = .ok (.iload_n 3, 1) := by decide +kernel
theorem dX12_addPoint_103 : decode cX12_addPoint 103 = .ok (.iadd, 1) := by decide +kernel
theorem dX12_addPoint_104 : decode cX12_addPoint 104 = .ok (.iload_n 1, 1) := by decide +kernel
theorem dX12_addPoint_105 : decode cX12_addPoint 105 = .ok (.iastore, 1) := by decide +kernel
theorem dX12_addPoint_106 : decode cX12_addPoint 106 = .ok (.aload_n 0, 1) := by decide +kernel
theorem dX12_addPoint_107 : decode cX12_addPoint 107 = .ok (.getfield 7, 3) := by decide +kernel
theorem dX12_addPoint_110 : decode cX12_addPoint 110 = .ok (.sipush 521, 3) := by decide +kernel
theorem dX12_addPoint_113 : decode cX12_addPoint 113 = .ok (.iload_n 3, 1) := by decide +kernel
theorem dX12_addPoint_114 : decode cX12_addPoint 114 = .ok (.iadd, 1) := by decide +kernel
theorem dX12_addPoint_115 : decode cX12_addPoint 115 = .ok (.iload_n 2, 1) := by decide +kernel
theorem dX12_addPoint_116 : decode cX12_addPoint 116 = .ok (.iastore, 1) := by decide +kernel
theorem dX12_addPoint_117 : decode cX12_addPoint 117 = .ok (.aload_n 0, 1) := by decide +kernel
theorem dX12_addPoint_118 : decode cX12_addPoint 118 = .ok (.getfield 7, 3) := by decide +kernel
theorem dX12_addPoint_121 : decode cX12_addPoint 121 = .ok (.sipush 512, 3) := by decide +kernel
theorem dX12_addPoint_124 : decode cX12_addPoint 124 = .ok (.dup2, 1) := by decide +kernel
theorem dX12_addPoint_125 : decode cX12_addPoint 125 = .ok (.iaload, 1) := by decide +kernel
theorem dX12_addPoint_126 : decode cX12_addPoint 126 = .ok (.iconst 1, 1) := by decide +kernel
theorem dX12_addPoint_127 : decode cX12_addPoint 127 = .ok (.iadd, 1) := by decide +kernel
theorem dX12_addPoint_128 : decode cX12_addPoint 128 = .ok (.iastore, 1) := by decide +kernel
theorem dX12_addPoint_129 : decode cX12_addPoint 129 = .ok (.iload_n 3, 1) := by decide +kernel
theorem dX12_addPoint_130 : decode cX12_addPoint 130 = .ok (.iconst 1, 1) := by decide +kernel
theorem dX12_addPoint_131 : decode cX12_addPoint 131 = .ok (.iadd, 1) := by decide +kernel
theorem dX12_addPoint_132 : decode cX12_addPoint 132 = .ok (.ireturn, 1) := by decide +kernel
theorem dX12_clearMap_0 : decode cX12_clearMap 0 = .ok (.aload_n 0, 1) := by decide +kernel
theorem dX12_clearMap_1 : decode cX12_clearMap 1 = .ok (.invokevirtual 146, 3) := by decide +kernel
theorem dX12_clearMap_4 : decode cX12_clearMap 4 = .ok (.aload_n 0, 1) := by decide +kernel
theorem dX12_clearMap_5 : decode cX12_clearMap 5 = .ok (.getfield 7, 3) := by decide +kernel
theorem dX12_clearMap_8 : decode cX12_clearMap 8 = .ok (.sipush 512, 3) := by decide +kernel
theorem dX12_clearMap_11 : decode cX12_clearMap 11 = .ok (.iaload, 1) := by decide +kernel
theorem dX12_clearMap_12 : decode cX12_clearMap 12 = .ok (.istore_n 1, 1) := by decide +kernel
theorem dX12_clearMap_13 : decode cX12_clearMap 13 = .ok (.aload_n 0, 1) := by decide +kernel
theorem dX12_clearMap_14 : decode cX12_clearMap 14 = .ok (.getfield 7, 3) := by decide +kernel
theorem dX12_clearMap_17 : decode cX12_clearMap 17 = .ok (.sipush 512, 3) := by decide +kernel
theorem dX12_clearMap_20 : decode cX12_clearMap 20 = .ok (.iconst 0, 1) := by decide +kernel
theorem dX12_clearMap_21 : decode cX12_clearMap 21 = .ok (.iastore, 1) := by decide +kernel
theorem dX12_clearMap_22 : decode cX12_clearMap 22 = .ok (.iload_n 1, 1) := by decide +kernel
theorem dX12_clearMap_23 : decode cX12_clearMap 23 = .ok (.ireturn, 1) := by decide +kernel
theorem dX12_sent_0 : decode cX12_sent 0 = .ok (.aload_n 0, 1) := by decide +kernel
theorem dX12_sent_1 : decode cX12_sent 1 = .ok (.getfield 7, 3) := by decide +kernel
theorem dX12_sent_4 : decode cX12_sent 4 = .ok (.sipush 512, 3) := by decide +kernel
theorem dX12_sent_7 : decode cX12_sent 7 = .ok (.iaload, 1) := by decide +kernel
theorem dX12_sent_8 : decode cX12_sent 8 = .ok (.istore_n 2, 1) := by decide +kernel
theorem dX12_sent_9 : decode cX12_sent 9 = .ok (.iload_n 2, 1) := by decide +kernel
theorem dX12_sent_10 : decode cX12_sent 10 = .ok (.ifCond .ne 5, 3) := by decide +kernel
theorem dX12_sent_13 : decode cX12_sent 13 = .ok (.iload_n 1, 1) := by decide +kernel
theorem dX12_sent_14 : decode cX12_sent 14 = .ok (.ireturn, 1) := by decide +kernel
theorem dX12_sent_15 : decode cX12_sent 15 = .ok (.iload_n 1, 1) := by decide +kernel
theorem dX12_sent_16 : decode cX12_sent 16 = .ok (.aload_n 0, 1) := by decide +kernel
theorem dX12_sent_17 : decode cX12_sent 17 = .ok (.getfield 7, 3) := by decide +kernel
theorem dX12_sent_20 : decode cX12_sent 20 = .ok (.sipush 513, 3) := by decide +kernel
theorem dX12_sent_23 : decode cX12_sent 23 = .ok (.iaload, 1) := by decide +kernel
theorem dX12_sent_24 : decode cX12_sent 24 = .ok (.if_icmp .gt 23, 3) := by decide +kernel
theorem dX12_sent_27 : decode cX12_sent 27 = .ok (.iload_n 1, 1) := by decide +kernel
theorem dX12_sent_28 : decode cX12_sent 28 = .ok (.aload_n 0, 1) := by decide +kernel
theorem dX12_sent_29 : decode cX12_sent 29 = .ok (.getfield 7, 3) := by decide +kernel
theorem dX12_sent_32 : decode cX12_sent 32 = .ok (.sipush 521, 3) := by decide +kernel
theorem dX12_sent_35 : decode cX12_sent 35 = .ok (.iaload, 1) := by decide +kernel
theorem dX12_sent_36 : decode cX12_sent 36 = .ok (.iadd, 1) := by decide +kernel
theorem dX12_sent_37 : decode cX12_sent 37 = .ok (.aload_n 0, 1) := by decide +kernel
theorem dX12_sent_38 : decode cX12_sent 38 = .ok (.getfield 7, 3) := by decide +kernel
theorem dX12_sent_41 : decode cX12_sent 41 = .ok (.sipush 513, 3) := by decide +kernel
theorem dX12_sent_44 : decode cX12_sent 44 = .ok (.iaload, 1) := by decide +kernel
theorem dX12_sent_45 : decode cX12_sent 45 = .ok (.isub, 1) := by decide +kernel
theorem dX12_sent_46 : decode cX12_sent 46 = .ok (.ireturn, 1) := by decide +kernel
theorem dX12_sent_47 : decode cX12_sent 47 = .ok (.iload_n 1, 1) := by decide +kernel
theorem dX12_sent_48 : decode cX12_sent 48 = .ok (.aload_n 0, 1) := by decide +kernel
theorem dX12_sent_49 : decode cX12_sent 49 = .ok (.getfield 7, 3) := by decide +kernel
theorem dX12_sent_52 : decode cX12_sent 52 = .ok (.sipush 513, 3) := by decide +kernel
theorem dX12_sent_55 : decode cX12_sent 55 = .ok (.iload_n 2, 1) := by decide +kernel
theorem dX12_sent_56 : decode cX12_sent 56 = .ok (.iadd, 1) := by decide +kernel
theorem dX12_sent_57 : decode cX12_sent 57 = .ok (.iconst 1, 1) := by decide +kernel
theorem dX12_sent_58 : decode cX12_sent 58 = .ok (.isub, 1) := by decide +kernel
theorem dX12_sent_59 : decode cX12_sent 59 = .ok (.iaload, 1) := by decide +kernel
theorem dX12_sent_60 : decode cX12_sent 60 = .ok (.if_icmp .lt 31, 3) := by decide +kernel
theorem dX12_sent_63 : decode cX12_sent 63 = .ok (.iload_n 1, 1) := by decide +kernel
theorem dX12_sent_64 : decode cX12_sent 64 = .ok (.aload_n 0, 1) := by decide +kernel
theorem dX12_sent_65 : decode cX12_sent 65 = .ok (.getfield 7, 3) := by decide +kernel
theorem dX12_sent_68 : decode cX12_sent 68 = .ok (.sipush 521, 3) := by decide +kernel
theorem dX12_sent_71 : decode cX12_sent 71 = .ok (.iload_n 2, 1) := by decide +kernel
theorem dX12_sent_72 : decode cX12_sent 72 = .ok (.iadd, 1) := by decide +kernel
theorem dX12_sent_73 : decode cX12_sent 73 = .ok (.iconst 1, 1) := by decide +kernel
theorem dX12_sent_74 : decode cX12_sent 74 = .ok (.isub, 1) := by decide +kernel
theorem dX12_sent_75 : decode cX12_sent 75 = .ok (.iaload, 1) := by decide +kernel
theorem dX12_sent_76 : decode cX12_sent 76 = .ok (.iadd, 1) := by decide +kernel
theorem dX12_sent_77 : decode cX12_sent 77 = .ok (.aload_n 0, 1) := by decide +kernel
theorem dX12_sent_78 : decode cX12_sent 78 = .ok (.getfield 7, 3) := by decide +kernel
theorem dX12_sent_81 : decode cX12_sent 81 = .ok (.sipush 513, 3) := by decide +kernel
theorem dX12_sent_84 : decode cX12_sent 84 = .ok (.iload_n 2, 1) := by decide +kernel
theorem dX12_sent_85 : decode cX12_sent 85 = .ok (.iadd, 1) := by decide +kernel
theorem dX12_sent_86 : decode cX12_sent 86 = .ok (.iconst 1, 1) := by decide +kernel
theorem dX12_sent_87 : decode cX12_sent 87 = .ok (.isub, 1) := by decide +kernel
theorem dX12_sent_88 : decode cX12_sent 88 = .ok (.iaload, 1) := by decide +kernel
theorem dX12_sent_89 : decode cX12_sent 89 = .ok (.isub, 1) := by decide +kernel
theorem dX12_sent_90 : decode cX12_sent 90 = .ok (.ireturn, 1) := by decide +kernel
theorem dX12_sent_91 : decode cX12_sent 91 = .ok (.iconst 0, 1) := by decide +kernel
theorem dX12_sent_92 : decode cX12_sent 92 = .ok (.istore_n 3, 1) := by decide +kernel
theorem dX12_sent_93 : decode cX12_sent 93 = .ok (.aload_n 0, 1) := by decide +kernel
theorem dX12_sent_94 : decode cX12_sent 94 = .ok (.getfield 7, 3) := by decide +kernel
theorem dX12_sent_97 : decode cX12_sent 97 = .ok (.sipush 513, 3) := by decide +kernel
theorem dX12_sent_100 : decode cX12_sent 100 = .ok (.iload_n 3, 1) := by decide +kernel
theorem dX12_sent_101 : decode cX12_sent 101 = .ok (.iadd, 1) := by decide +kernel
theorem dX12_sent_102 : decode cX12_sent 102 = .ok (.iconst 1, 1) := by decide +kernel
theorem dX12_sent_103 : decode cX12_sent 103 = .ok (.iadd, 1) := by decide +kernel
theorem dX12_sent_104 : decode cX12_sent 104 = .ok (.iaload, 1) := by decide +kernel
theorem dX12_sent_105 : decode cX12_sent 105 = .ok (.iload_n 1, 1) := by decide +kernel
theorem dX12_sent_106 : decode cX12_sent 106 = .ok (.if_icmp .ge 9, 3) := by decide +kernel
theorem dX12_sent_109 : decode cX12_sent 109 = .ok (.iinc 3 1, 3) := by decide +kernel
theorem dX12_sent_112 : decode cX12_sent 112 = .ok (.goto (-19), 3) := by decide +kernel
theorem dX12_sent_115 : decode cX12_sent 115 = .ok (.iload_n 1, 1) := by decide +kernel
theorem dX12_sent_116 : decode cX12_sent 116 = .ok (.aload_n 0, 1) := by decide +kernel
theorem dX12_sent_117 : decode cX12_sent 117 = .ok (.getfield 7, 3) := by decide +kernel
theorem dX12_sent_120 : decode cX12_sent 120 = .ok (.sipush 513, 3) := by decide +kernel
theorem dX12_sent_123 : decode cX12_sent 123 = .ok (.iload_n 3, 1) := by decide +kernel
theorem dX12_sent_124 : decode cX12_sent 124 = .ok (.iadd, 1) := by decide +kernel
theorem dX12_sent_125 : decode cX12_sent 125 = .ok (.iaload, 1) := by decide +kernel
theorem dX12_sent_126 : decode cX12_sent 126 = .ok (.isub, 1) := by decide +kernel
theorem dX12_sent_127 : decode cX12_sent 127 = .ok (.i2l, 1) := by decide +kernel
theorem dX12_sent_128 : decode cX12_sent 128 = .ok (.aload_n 0, 1) := by decide +kernel
theorem dX12_sent_129 : decode cX12_sent 129 = .ok (.getfield 7, 3) := by decide +kernel
theorem dX12_sent_132 : decode cX12_sent 132 = .ok (.sipush 521, 3) := by decide +kernel
theorem dX12_sent_135 : decode cX12_sent 135 = .ok (.iload_n 3, 1) := by decide +kernel
theorem dX12_sent_136 : decode cX12_sent 136 = .ok (.iadd, 1) := by decide +kernel
theorem dX12_sent_137 : decode cX12_sent 137 = .ok (.iconst 1, 1) := by decide +kernel
theorem dX12_sent_138 : decode cX12_sent 138 = .ok (.iadd, 1) := by decide +kernel
theorem dX12_sent_139 : decode cX12_sent 139 = .ok (.iaload, 1) := by decide +kernel
theorem dX12_sent_140 : decode cX12_sent 140 = .ok (.aload_n 0, 1) := by decide +kernel
theorem dX12_sent_141 : decode cX12_sent 141 = .ok (.getfield 7, 3) := by decide +kernel
theorem dX12_sent_144 : decode cX12_sent 144 = .ok (.sipush 521, 3) := by decide +kernel
theorem dX12_sent_147 : decode cX12_sent 147 = .ok (.iload_n 3, 1) := by decide +kernel
theorem dX12_sent_148 : decode cX12_sent 148 = .ok (.iadd, 1) := by decide +kernel
theorem dX12_sent_149 : decode cX12_sent 149 = .ok (.iaload, 1) := by decide +kernel
theorem dX12_sent_150 : decode cX12_sent 150 = .ok (.isub, 1) := by decide +kernel
theorem dX12_sent_151 : decode cX12_sent 151 = .ok (.i2l, 1) := by decide +kernel
theorem dX12_sent_152 : decode cX12_sent 152 = .ok (.lmul, 1) := by decide +kernel
theorem dX12_sent_153 : decode cX12_sent 153 = .ok (.lstore 4, 2) := by decide +kernel
theorem dX12_sent_155 : decode cX12_sent 155 = .ok (.aload_n 0, 1) := by decide +kernel
theorem dX12_sent_156 : decode cX12_sent 156 = .ok (.getfield 7, 3) := by decide +kernel
theorem dX12_sent_159 : decode cX12_sent 159 = .ok (.sipush 521, 3) := by decide +kernel
theorem dX12_sent_162 : decode cX12_sent 162 = .ok (.iload_n 3, 1) := by decide +kernel
theorem dX12_sent_163 : decode cX12_sent 163 = .ok (.iadd, 1) := by decide +kernel
theorem dX12_sent_164 : decode cX12_sent 164 = .ok (.iaload, 1) := by decide +kernel
theorem dX12_sent_165 : decode cX12_sent 165 = .ok (.lload 4, 2) := by decide +kernel
theorem dX12_sent_167 : decode cX12_sent 167 = .ok (.aload_n 0, 1) := by decide +kernel
theorem dX12_sent_168 : decode cX12_sent 168 = .ok (.getfield 7, 3) := by decide +kernel
theorem dX12_sent_171 : decode cX12_sent 171 = .ok (.sipush 513, 3) := by decide +kernel
theorem dX12_sent_174 : decode cX12_sent 174 = .ok (.iload_n 3, 1) := by decide +kernel
theorem dX12_sent_175 : decode cX12_sent 175 = .ok (.iadd, 1) := by decide +kernel
theorem dX12_sent_176 : decode cX12_sent 176 = .ok (.iconst 1, 1) := by decide +kernel
theorem dX12_sent_177 : decode cX12_sent 177 = .ok (.iadd, 1) := by decide +kernel
theorem dX12_sent_178 : decode cX12_sent 178 = .ok (.iaload, 1) := by decide +kernel
theorem dX12_sent_179 : decode cX12_sent 179 = .ok (.aload_n 0, 1) := by decide +kernel
theorem dX12_sent_180 : decode cX12_sent 180 = .ok (.getfield 7, 3) := by decide +kernel
theorem dX12_sent_183 : decode cX12_sent 183 = .ok (.sipush 513, 3) := by decide +kernel
theorem dX12_sent_186 : decode cX12_sent 186 = .ok (.iload_n 3, 1) := by decide +kernel
theorem dX12_sent_187 : decode cX12_sent 187 = .ok (.iadd, 1) := by decide +kernel
theorem dX12_sent_188 : decode cX12_sent 188 = .ok (.iaload, 1) := by decide +kernel
theorem dX12_sent_189 : decode cX12_sent 189 = .ok (.isub, 1) := by decide +kernel
theorem dX12_sent_190 : decode cX12_sent 190 = .ok (.i2l, 1) := by decide +kernel
theorem dX12_sent_191 : decode cX12_sent 191 = .ok (.invokestatic 93, 3) := by decide +kernel
theorem dX12_sent_194 : decode cX12_sent 194 = .ok (.l2i, 1) := by decide +kernel
theorem dX12_sent_195 : decode cX12_sent 195 = .ok (.iadd, 1) := by decide +kernel
theorem dX12_sent_196 : decode cX12_sent 196 = .ok (.ireturn, 1) := by decide +kernel
theorem dX12_mapped_0 : decode cX12_mapped 0 = .ok (.iload_n 1, 1) := by decide +kernel
theorem dX12_mapped_1 : decode cX12_mapped 1 = .ok (.iconst 0, 1) := by decide +kernel
theorem dX12_mapped_2 : decode cX12_mapped 2 = .ok (.sipush 480, 3) := by decide +kernel
theorem dX12_mapped_5 : decode cX12_mapped 5 = .ok (.invokestatic 66, 3) := by decide +kernel
theorem dX12_mapped_8 : decode cX12_mapped 8 = .ok (.ifCond .eq 11, 3) := by decide +kernel
theorem dX12_mapped_11 : decode cX12_mapped 11 = .ok (.aload_n 0, 1) := by decide +kernel
theorem dX12_mapped_12 : decode cX12_mapped 12 = .ok (.iload_n 1, 1) := by decide +kernel
theorem dX12_mapped_13 : decode cX12_mapped 13 = .ok (.invokevirtual 168, 3) := by decide +kernel
theorem dX12_mapped_16 : decode cX12_mapped 16 = .ok (.goto 5, 3) := by decide +kernel
theorem dX12_mapped_19 : decode cX12_mapped 19 = .ok (.ldc 132, 2) := by decide +kernel
theorem dX12_mapped_21 : decode cX12_mapped 21 = .ok (.ireturn, 1) := by decide +kernel
theorem dX12_stretched_0 : decode cX12_stretched 0 = .ok (.iconst 0, 1) := by decide +kernel
theorem dX12_stretched_1 : decode cX12_stretched 1 = .ok (.istore 4, 2) := by decide +kernel
theorem dX12_stretched_3 : decode cX12_stretched 3 = .ok (.iload 4, 2) := by decide +kernel
theorem dX12_stretched_5 : decode cX12_stretched 5 = .ok (.iconst 1, 1) := by decide +kernel
theorem dX12_stretched_6 : decode cX12_stretched 6 = .ok (.iadd, 1) := by decide +kernel
theorem dX12_stretched_7 : decode cX12_stretched 7 = .ok (.aload_n 0, 1) := by decide +kernel
theorem dX12_stretched_8 : decode cX12_stretched 8 = .ok (.getfield 7, 3) := by decide +kernel
theorem dX12_stretched_11 : decode cX12_stretched 11 = .ok (.sipush 512, 3) := by decide +kernel
theorem dX12_stretched_14 : decode cX12_stretched 14 = .ok (.iaload, 1) := by decide +kernel
theorem dX12_stretched_15 : decode cX12_stretched 15 = .ok (.if_icmp .ge 113, 3) := by decide +kernel
theorem dX12_stretched_18 : decode cX12_stretched 18 = .ok (.aload_n 0, 1) := by decide +kernel
theorem dX12_stretched_19 : decode cX12_stretched 19 = .ok (.getfield 7, 3) := by decide +kernel
theorem dX12_stretched_22 : decode cX12_stretched 22 = .ok (.sipush 513, 3) := by decide +kernel
theorem dX12_stretched_25 : decode cX12_stretched 25 = .ok (.iload 4, 2) := by decide +kernel
theorem dX12_stretched_27 : decode cX12_stretched 27 = .ok (.iadd, 1) := by decide +kernel
theorem dX12_stretched_28 : decode cX12_stretched 28 = .ok (.iaload, 1) := by decide +kernel
theorem dX12_stretched_29 : decode cX12_stretched 29 = .ok (.istore 5, 2) := by decide +kernel
theorem dX12_stretched_31 : decode cX12_stretched 31 = .ok (.aload_n 0, 1) := by decide +kernel
theorem dX12_stretched_32 : decode cX12_stretched 32 = .ok (.getfield 7, 3) := by decide +kernel
theorem dX12_stretched_35 : decode cX12_stretched 35 = .ok (.sipush 513, 3) := by decide +kernel
theorem dX12_stretched_38 : decode cX12_stretched 38 = .ok (.iload 4, 2) := by decide +kernel
theorem dX12_stretched_40 : decode cX12_stretched 40 = .ok (.iadd, 1) := by decide +kernel
theorem dX12_stretched_41 : decode cX12_stretched 41 = .ok (.iconst 1, 1) := by decide +kernel
theorem dX12_stretched_42 : decode cX12_stretched 42 = .ok (.iadd, 1) := by decide +kernel
theorem dX12_stretched_43 : decode cX12_stretched 43 = .ok (.iaload, 1) := by decide +kernel
theorem dX12_stretched_44 : decode cX12_stretched 44 = .ok (.istore 6, 2) := by decide +kernel
theorem dX12_stretched_46 : decode cX12_stretched 46 = .ok (.iload_n 3, 1) := by decide +kernel
theorem dX12_stretched_47 : decode cX12_stretched 47 = .ok (.ifCond .eq 18, 3) := by decide +kernel
theorem dX12_stretched_50 : decode cX12_stretched 50 = .ok (.iload 5, 2) := by decide +kernel
theorem dX12_stretched_52 : decode cX12_stretched 52 = .ok (.iload_n 2, 1) := by decide +kernel
theorem dX12_stretched_53 : decode cX12_stretched 53 = .ok (.if_icmp .gt 69, 3) := by decide +kernel
theorem dX12_stretched_56 : decode cX12_stretched 56 = .ok (.iload_n 2, 1) := by decide +kernel
theorem dX12_stretched_57 : decode cX12_stretched 57 = .ok (.iload 6, 2) := by decide +kernel
theorem dX12_stretched_59 : decode cX12_stretched 59 = .ok (.if_icmp .ge 63, 3) := by decide +kernel
theorem dX12_stretched_62 : decode cX12_stretched 62 = .ok (.goto 15, 3) := by decide +kernel
theorem dX12_stretched_65 : decode cX12_stretched 65 = .ok (.iload 5, 2) := by decide +kernel
theorem dX12_stretched_67 : decode cX12_stretched 67 = .ok (.iload_n 2, 1) := by decide +kernel
theorem dX12_stretched_68 : decode cX12_stretched 68 = .ok (.if_icmp .ge 54, 3) := by decide +kernel
theorem dX12_stretched_71 : decode cX12_stretched 71 = .ok (.iload_n 2, 1) := by decide +kernel
theorem dX12_stretched_72 : decode cX12_stretched 72 = .ok (.iload 6, 2) := by decide +kernel
theorem dX12_stretched_74 : decode cX12_stretched 74 = .ok (.if_icmp .gt 48, 3) := by decide +kernel
theorem dX12_stretched_77 : decode cX12_stretched 77 = .ok (.iload_n 1, 1) := by decide +kernel
theorem dX12_stretched_78 : decode cX12_stretched 78 = .ok (.i2l, 1) := by decide +kernel
theorem dX12_stretched_79 : decode cX12_stretched 79 = .ok (.iload 6, 2) := by decide +kernel
theorem dX12_stretched_81 : decode cX12_stretched 81 = .ok (.iload 5, 2) := by decide +kernel
theorem dX12_stretched_83 : decode cX12_stretched 83 = .ok (.isub, 1) := by decide +kernel
theorem dX12_stretched_84 : decode cX12_stretched 84 = .ok (.i2l, 1) := by decide +kernel
theorem dX12_stretched_85 : decode cX12_stretched 85 = .ok (.lmul, 1) := by decide +kernel
theorem dX12_stretched_86 : decode cX12_stretched 86 = .ok (.aload_n 0, 1) := by decide +kernel
theorem dX12_stretched_87 : decode cX12_stretched 87 = .ok (.getfield 7, 3) := by decide +kernel
theorem dX12_stretched_90 : decode cX12_stretched 90 = .ok (.sipush 521, 3) := by decide +kernel
theorem dX12_stretched_93 : decode cX12_stretched 93 = .ok (.iload 4, 2) := by decide +kernel
theorem dX12_stretched_95 : decode cX12_stretched 95 = .ok (.iadd, 1) := by decide +kernel
theorem dX12_stretched_96 : decode cX12_stretched 96 = .ok (.iconst 1, 1) := by decide +kernel
theorem dX12_stretched_97 : decode cX12_stretched 97 = .ok (.iadd, 1) := by decide +kernel
theorem dX12_stretched_98 : decode cX12_stretched 98 = .ok (.iaload, 1) := by decide +kernel
theorem dX12_stretched_99 : decode cX12_stretched 99 = .ok (.aload_n 0, 1) := by decide +kernel
theorem dX12_stretched_100 : decode cX12_stretched 100 = .ok (.getfield 7, 3) := by decide +kernel
theorem dX12_stretched_103 : decode cX12_stretched 103 = .ok (.sipush 521, 3) := by decide +kernel
theorem dX12_stretched_106 : decode cX12_stretched 106 = .ok (.iload 4, 2) := by decide +kernel
theorem dX12_stretched_108 : decode cX12_stretched 108 = .ok (.iadd, 1) := by decide +kernel
theorem dX12_stretched_109 : decode cX12_stretched 109 = .ok (.iaload, 1) := by decide +kernel
theorem dX12_stretched_110 : decode cX12_stretched 110 = .ok (.isub, 1) := by decide +kernel
theorem dX12_stretched_111 : decode cX12_stretched 111 = .ok (.i2l, 1) := by decide +kernel
theorem dX12_stretched_112 : decode cX12_stretched 112 = .ok (.invokestatic 93, 3) := by decide +kernel
theorem dX12_stretched_115 : decode cX12_stretched 115 = .ok (.sipush 9999, 3) := by decide +kernel
theorem dX12_stretched_118 : decode cX12_stretched 118 = .ok (.invokestatic 108, 3) := by decide +kernel
theorem dX12_stretched_121 : decode cX12_stretched 121 = .ok (.ireturn, 1) := by decide +kernel
theorem dX12_stretched_122 : decode cX12_stretched 122 = .ok (.iinc 4 1, 3) := by decide +kernel
theorem dX12_stretched_125 : decode cX12_stretched 125 = .ok (.goto (-122), 3) := by decide +kernel
theorem dX12_stretched_128 : decode cX12_stretched 128 = .ok (.iload_n 1, 1) := by decide +kernel
theorem dX12_stretched_129 : decode cX12_stretched 129 = .ok (.ireturn, 1) := by decide +kernel
theorem dX12_retime_0 : decode cX12_retime 0 = .ok (.iload_n 1, 1) := by decide +kernel
theorem dX12_retime_1 : decode cX12_retime 1 = .ok (.invokestatic 74, 3) := by decide +kernel
theorem dX12_retime_4 : decode cX12_retime 4 = .ok (.ifCond .ne 6, 3) := by decide +kernel
theorem dX12_retime_7 : decode cX12_retime 7 = .ok (.ldc 131, 2) := by decide +kernel
theorem dX12_retime_9 : decode cX12_retime 9 = .ok (.ireturn, 1) := by decide +kernel
theorem dX12_retime_10 : decode cX12_retime 10 = .ok (.iconst 0, 1) := by decide +kernel
theorem dX12_retime_11 : decode cX12_retime 11 = .ok (.istore_n 2, 1) := by decide +kernel
theorem dX12_retime_12 : decode cX12_retime 12 = .ok (.iload_n 2, 1) := by decide +kernel
theorem dX12_retime_13 : decode cX12_retime 13 = .ok (.aload_n 0, 1) := by decide +kernel
theorem dX12_retime_14 : decode cX12_retime 14 = .ok (.iload_n 1, 1) := by decide +kernel
theorem dX12_retime_15 : decode cX12_retime 15 = .ok (.invokevirtual 78, 3) := by decide +kernel
theorem dX12_retime_18 : decode cX12_retime 18 = .ok (.if_icmp .ge 54, 3) := by decide +kernel
theorem dX12_retime_21 : decode cX12_retime 21 = .ok (.aload_n 0, 1) := by decide +kernel
theorem dX12_retime_22 : decode cX12_retime 22 = .ok (.aload_n 0, 1) := by decide +kernel
theorem dX12_retime_23 : decode cX12_retime 23 = .ok (.iload_n 1, 1) := by decide +kernel
theorem dX12_retime_24 : decode cX12_retime 24 = .ok (.iload_n 2, 1) := by decide +kernel
theorem dX12_retime_25 : decode cX12_retime 25 = .ok (.invokevirtual 82, 3) := by decide +kernel
theorem dX12_retime_28 : decode cX12_retime 28 = .ok (.invokevirtual 168, 3) := by decide +kernel
theorem dX12_retime_31 : decode cX12_retime 31 = .ok (.istore_n 3, 1) := by decide +kernel
theorem dX12_retime_32 : decode cX12_retime 32 = .ok (.iload_n 3, 1) := by decide +kernel
theorem dX12_retime_33 : decode cX12_retime 33 = .ok (.iconst 0, 1) := by decide +kernel
theorem dX12_retime_34 : decode cX12_retime 34 = .ok (.sipush 480, 3) := by decide +kernel
theorem dX12_retime_37 : decode cX12_retime 37 = .ok (.invokestatic 66, 3) := by decide +kernel
theorem dX12_retime_40 : decode cX12_retime 40 = .ok (.ifCond .eq 23, 3) := by decide +kernel
theorem dX12_retime_43 : decode cX12_retime 43 = .ok (.iload_n 2, 1) := by decide +kernel
theorem dX12_retime_44 : decode cX12_retime 44 = .ok (.ifCond .le 22, 3) := by decide +kernel
theorem dX12_retime_47 : decode cX12_retime 47 = .ok (.aload_n 0, 1) := by decide +kernel
theorem dX12_retime_48 : decode cX12_retime 48 = .ok (.aload_n 0, 1) := by decide +kernel
theorem dX12_retime_49 : decode cX12_retime 49 = .ok (.iload_n 1, 1) := by decide +kernel
theorem dX12_retime_50 : decode cX12_retime 50 = .ok (.iload_n 2, 1) := by decide +kernel
theorem dX12_retime_51 : decode cX12_retime 51 = .ok (.iconst 1, 1) := by decide +kernel
theorem dX12_retime_52 : decode cX12_retime 52 = .ok (.isub, 1) := by decide +kernel
theorem dX12_retime_53 : decode cX12_retime 53 = .ok (.invokevirtual 82, 3) := by decide +kernel
theorem dX12_retime_56 : decode cX12_retime 56 = .ok (.invokevirtual 168, 3) := by decide +kernel
theorem dX12_retime_59 : decode cX12_retime 59 = .ok (.iload_n 3, 1) := by decide +kernel
theorem dX12_retime_60 : decode cX12_retime 60 = .ok (.if_icmp .ne 6, 3) := by decide +kernel
theorem dX12_retime_63 : decode cX12_retime 63 = .ok (.ldc 157, 2) := by decide +kernel
theorem dX12_retime_65 : decode cX12_retime 65 = .ok (.ireturn, 1) := by decide +kernel
theorem dX12_retime_66 : decode cX12_retime 66 = .ok (.iinc 2 1, 3) := by decide +kernel
theorem dX12_retime_69 : decode cX12_retime 69 = .ok (.goto (-57), 3) := by decide +kernel
theorem dX12_retime_72 : decode cX12_retime 72 = .ok (.aload_n 0, 1) := by decide +kernel
theorem dX12_retime_73 : decode cX12_retime 73 = .ok (.invokevirtual 146, 3) := by decide +kernel
theorem dX12_retime_76 : decode cX12_retime 76 = .ok (.iconst 0, 1) := by decide +kernel
theorem dX12_retime_77 : decode cX12_retime 77 = .ok (.istore_n 2, 1) := by decide +kernel
theorem dX12_retime_78 : decode cX12_retime 78 = .ok (.iconst 0, 1) := by decide +kernel
theorem dX12_retime_79 : decode cX12_retime 79 = .ok (.istore_n 3, 1) := by decide +kernel
theorem dX12_retime_80 : decode cX12_retime 80 = .ok (.iload_n 3, 1) := by decide +kernel
theorem dX12_retime_81 : decode cX12_retime 81 = .ok (.aload_n 0, 1) := by decide +kernel
theorem dX12_retime_82 : decode cX12_retime 82 = .ok (.iload_n 1, 1) := by decide +kernel
theorem dX12_retime_83 : decode cX12_retime 83 = .ok (.invokevirtual 78, 3) := by decide +kernel
theorem dX12_retime_86 : decode cX12_retime 86 = .ok (.if_icmp .ge 130, 3) := by decide +kernel
theorem dX12_retime_89 : decode cX12_retime 89 = .ok (.aload_n 0, 1) := by decide +kernel
theorem dX12_retime_90 : decode cX12_retime 90 = .ok (.iload_n 1, 1) := by decide +kernel
theorem dX12_retime_91 : decode cX12_retime 91 = .ok (.iload_n 3, 1) := by decide +kernel
theorem dX12_retime_92 : decode cX12_retime 92 = .ok (.invokevirtual 82, 3) := by decide +kernel
theorem dX12_retime_95 : decode cX12_retime 95 = .ok (.istore 4, 2) := by decide +kernel
theorem dX12_retime_97 : decode cX12_retime 97 = .ok (.aload_n 0, 1) := by decide +kernel
theorem dX12_retime_98 : decode cX12_retime 98 = .ok (.iload 4, 2) := by decide +kernel
theorem dX12_retime_100 : decode cX12_retime 100 = .ok (.invokevirtual 168, 3) := by decide +kernel
theorem dX12_retime_103 : decode cX12_retime 103 = .ok (.istore 5, 2) := by decide +kernel
theorem dX12_retime_105 : decode cX12_retime 105 = .ok (.aload_n 0, 1) := by decide +kernel
theorem dX12_retime_106 : decode cX12_retime 106 = .ok (.getfield 7, 3) := by decide +kernel
theorem dX12_retime_109 : decode cX12_retime 109 = .ok (.iload_n 1, 1) := by decide +kernel
theorem dX12_retime_110 : decode cX12_retime 110 = .ok (.bipush 52, 2) := by decide +kernel
theorem dX12_retime_112 : decode cX12_retime 112 = .ok (.iload_n 3, 1) := by decide +kernel
theorem dX12_retime_113 : decode cX12_retime 113 = .ok (.invokestatic 70, 3) := by decide +kernel
theorem dX12_retime_116 : decode cX12_retime 116 = .ok (.iaload, 1) := by decide +kernel
theorem dX12_retime_117 : decode cX12_retime 117 = .ok (.ifCond .ne 65, 3) := by decide +kernel
theorem dX12_retime_120 : decode cX12_retime 120 = .ok (.aload_n 0, 1) := by decide +kernel
theorem dX12_retime_121 : decode cX12_retime 121 = .ok (.getfield 7, 3) := by decide +kernel
theorem dX12_retime_124 : decode cX12_retime 124 = .ok (.iload_n 1, 1) := by decide +kernel
theorem dX12_retime_125 : decode cX12_retime 125 = .ok (.bipush 76, 2) := by decide +kernel
theorem dX12_retime_127 : decode cX12_retime 127 = .ok (.iload_n 3, 1) := by decide +kernel
theorem dX12_retime_128 : decode cX12_retime 128 = .ok (.invokestatic 70, 3) := by decide +kernel
theorem dX12_retime_131 : decode cX12_retime 131 = .ok (.aload_n 0, 1) := by decide +kernel
theorem dX12_retime_132 : decode cX12_retime 132 = .ok (.aload_n 0, 1) := by decide +kernel
theorem dX12_retime_133 : decode cX12_retime 133 = .ok (.getfield 7, 3) := by decide +kernel
theorem dX12_retime_136 : decode cX12_retime 136 = .ok (.iload_n 1, 1) := by decide +kernel
theorem dX12_retime_137 : decode cX12_retime 137 = .ok (.bipush 76, 2) := by decide +kernel
theorem dX12_retime_139 : decode cX12_retime 139 = .ok (.iload_n 3, 1) := by decide +kernel
theorem dX12_retime_140 : decode cX12_retime 140 = .ok (.invokestatic 70, 3) := by decide +kernel
theorem dX12_retime_143 : decode cX12_retime 143 = .ok (.iaload, 1) := by decide +kernel
theorem dX12_retime_144 : decode cX12_retime 144 = .ok (.iload 4, 2) := by decide +kernel
theorem dX12_retime_146 : decode cX12_retime 146 = .ok (.iconst 0, 1) := by decide +kernel
theorem dX12_retime_147 : decode cX12_retime 147 = .ok (.invokevirtual 171, 3) := by decide +kernel
theorem dX12_retime_150 : decode cX12_retime 150 = .ok (.iastore, 1) := by decide +kernel
theorem dX12_retime_151 : decode cX12_retime 151 = .ok (.aload_n 0, 1) := by decide +kernel
theorem dX12_retime_152 : decode cX12_retime 152 = .ok (.getfield 7, 3) := by decide +kernel
theorem dX12_retime_155 : decode cX12_retime 155 = .ok (.iload_n 1, 1) := by decide +kernel
theorem dX12_retime_156 : decode cX12_retime 156 = .ok (.bipush 100, 2) := by decide +kernel
theorem dX12_retime_158 : decode cX12_retime 158 = .ok (.iload_n 3, 1) := by decide +kernel
theorem dX12_retime_159 : decode cX12_retime 159 = .ok (.invokestatic 70, 3) := by decide +kernel
theorem dX12_retime_162 : decode cX12_retime 162 = .ok (.aload_n 0, 1) := by decide +kernel
theorem dX12_retime_163 : decode cX12_retime 163 = .ok (.aload_n 0, 1) := by decide +kernel
theorem dX12_retime_164 : decode cX12_retime 164 = .ok (.getfield 7, 3) := by decide +kernel
theorem dX12_retime_167 : decode cX12_retime 167 = .ok (.iload_n 1, 1) := by decide +kernel
theorem dX12_retime_168 : decode cX12_retime 168 = .ok (.bipush 100, 2) := by decide +kernel
theorem dX12_retime_170 : decode cX12_retime 170 = .ok (.iload_n 3, 1) := by decide +kernel
theorem dX12_retime_171 : decode cX12_retime 171 = .ok (.invokestatic 70, 3) := by decide +kernel
theorem dX12_retime_174 : decode cX12_retime 174 = .ok (.iaload, 1) := by decide +kernel
theorem dX12_retime_175 : decode cX12_retime 175 = .ok (.iload 4, 2) := by decide +kernel
theorem dX12_retime_177 : decode cX12_retime 177 = .ok (.iconst 1, 1) := by decide +kernel
theorem dX12_retime_178 : decode cX12_retime 178 = .ok (.invokevirtual 171, 3) := by decide +kernel
theorem dX12_retime_181 : decode cX12_retime 181 = .ok (.iastore, 1) := by decide +kernel
theorem dX12_retime_182 : decode cX12_retime 182 = .ok (.aload_n 0, 1) := by decide +kernel
theorem dX12_retime_183 : decode cX12_retime 183 = .ok (.getfield 7, 3) := by decide +kernel
theorem dX12_retime_186 : decode cX12_retime 186 = .ok (.iload_n 1, 1) := by decide +kernel
theorem dX12_retime_187 : decode cX12_retime 187 = .ok (.iconst 4, 1) := by decide +kernel
theorem dX12_retime_188 : decode cX12_retime 188 = .ok (.iload_n 3, 1) := by decide +kernel
theorem dX12_retime_189 : decode cX12_retime 189 = .ok (.invokestatic 70, 3) := by decide +kernel
theorem dX12_retime_192 : decode cX12_retime 192 = .ok (.iload 5, 2) := by decide +kernel
theorem dX12_retime_194 : decode cX12_retime 194 = .ok (.iastore, 1) := by decide +kernel
theorem dX12_retime_195 : decode cX12_retime 195 = .ok (.iload_n 2, 1) := by decide +kernel
theorem dX12_retime_196 : decode cX12_retime 196 = .ok (.iload 5, 2) := by decide +kernel
theorem dX12_retime_198 : decode cX12_retime 198 = .ok (.iload 4, 2) := by decide +kernel
theorem dX12_retime_200 : decode cX12_retime 200 = .ok (.if_icmp .ne 7, 3) := by decide +kernel
theorem dX12_retime_203 : decode cX12_retime 203 = .ok (.iconst 0, 1) := by decide +kernel
theorem dX12_retime_204 : decode cX12_retime 204 = .ok (.goto 4, 3) := by decide +kernel
theorem dX12_retime_207 : decode cX12_retime 207 = .ok (.iconst 1, 1) := by decide +kernel
theorem dX12_retime_208 : decode cX12_retime 208 = .ok (.iadd, 1) := by decide +kernel
theorem dX12_retime_209 : decode cX12_retime 209 = .ok (.istore_n 2, 1) := by decide +kernel
theorem dX12_retime_210 : decode cX12_retime 210 = .ok (.iinc 3 1, 3) := by decide +kernel
theorem dX12_retime_213 : decode cX12_retime 213 = .ok (.goto (-133), 3) := by decide +kernel
theorem dX12_retime_216 : decode cX12_retime 216 = .ok (.iload_n 2, 1) := by decide +kernel
theorem dX12_retime_217 : decode cX12_retime 217 = .ok (.ireturn, 1) := by decide +kernel
theorem dX12_outside_0 : decode cX12_outside 0 = .ok (.iconst 0, 1) := by decide +kernel
theorem dX12_outside_1 : decode cX12_outside 1 = .ok (.istore 4, 2) := by decide +kernel
theorem dX12_outside_3 : decode cX12_outside 3 = .ok (.iconst 0, 1) := by decide +kernel
theorem dX12_outside_4 : decode cX12_outside 4 = .ok (.istore 5, 2) := by decide +kernel
theorem dX12_outside_6 : decode cX12_outside 6 = .ok (.iload 5, 2) := by decide +kernel
theorem dX12_outside_8 : decode cX12_outside 8 = .ok (.aload_n 0, 1) := by decide +kernel
theorem dX12_outside_9 : decode cX12_outside 9 = .ok (.iload_n 1, 1) := by decide +kernel
theorem dX12_outside_10 : decode cX12_outside 10 = .ok (.invokevirtual 78, 3) := by decide +kernel
theorem dX12_outside_13 : decode cX12_outside 13 = .ok (.if_icmp .ge 34, 3) := by decide +kernel
theorem dX12_outside_16 : decode cX12_outside 16 = .ok (.iload 4, 2) := by decide +kernel
theorem dX12_outside_18 : decode cX12_outside 18 = .ok (.aload_n 0, 1) := by decide +kernel
theorem dX12_outside_19 : decode cX12_outside 19 = .ok (.iload_n 1, 1) := by decide +kernel
theorem dX12_outside_20 : decode cX12_outside 20 = .ok (.iload 5, 2) := by decide +kernel
theorem dX12_outside_22 : decode cX12_outside 22 = .ok (.invokevirtual 82, 3) := by decide +kernel
theorem dX12_outside_25 : decode cX12_outside 25 = .ok (.iload_n 2, 1) := by decide +kernel
theorem dX12_outside_26 : decode cX12_outside 26 = .ok (.iload_n 3, 1) := by decide +kernel
theorem dX12_outside_27 : decode cX12_outside 27 = .ok (.invokestatic 66, 3) := by decide +kernel
theorem dX12_outside_30 : decode cX12_outside 30 = .ok (.ifCond .eq 7, 3) := by decide +kernel
theorem dX12_outside_33 : decode cX12_outside 33 = .ok (.iconst 0, 1) := by decide +kernel
theorem dX12_outside_34 : decode cX12_outside 34 = .ok (.goto 4, 3) := by decide +kernel
theorem dX12_outside_37 : decode cX12_outside 37 = .ok (.iconst 1, 1) := by decide +kernel
theorem dX12_outside_38 : decode cX12_outside 38 = .ok (.iadd, 1) := by decide +kernel
theorem dX12_outside_39 : decode cX12_outside 39 = .ok (.istore 4, 2) := by decide +kernel
theorem dX12_outside_41 : decode cX12_outside 41 = .ok (.iinc 5 1, 3) := by decide +kernel
theorem dX12_outside_44 : decode cX12_outside 44 = .ok (.goto (-38), 3) := by decide +kernel
theorem dX12_outside_47 : decode cX12_outside 47 = .ok (.iload 4, 2) := by decide +kernel
theorem dX12_outside_49 : decode cX12_outside 49 = .ok (.ireturn, 1) := by decide +kernel
theorem dX12_bakes_0 : decode cX12_bakes 0 = .ok (.aload_n 0, 1) := by decide +kernel
theorem dX12_bakes_1 : decode cX12_bakes 1 = .ok (.iload_n 1, 1) := by decide +kernel
theorem dX12_bakes_2 : decode cX12_bakes 2 = .ok (.invokevirtual 78, 3) := by decide +kernel
theorem dX12_bakes_5 : decode cX12_bakes 5 = .ok (.iconst 1, 1) := by decide +kernel
theorem dX12_bakes_6 : decode cX12_bakes 6 = .ok (.isub, 1) := by decide +kernel
theorem dX12_bakes_7 : decode cX12_bakes 7 = .ok (.istore 5, 2) := by decide +kernel
theorem dX12_bakes_9 : decode cX12_bakes 9 = .ok (.iload 5, 2) := by decide +kernel
theorem dX12_bakes_11 : decode cX12_bakes 11 = .ok (.ifCond .lt 31, 3) := by decide +kernel
theorem dX12_bakes_14 : decode cX12_bakes 14 = .ok (.aload_n 0, 1) := by decide +kernel
theorem dX12_bakes_15 : decode cX12_bakes 15 = .ok (.iload_n 1, 1) := by decide +kernel
theorem dX12_bakes_16 : decode cX12_bakes 16 = .ok (.iload 5, 2) := by decide +kernel
theorem dX12_bakes_18 : decode cX12_bakes 18 = .ok (.invokevirtual 82, 3) := by decide +kernel
theorem dX12_bakes_21 : decode cX12_bakes 21 = .ok (.iload_n 2, 1) := by decide +kernel
theorem dX12_bakes_22 : decode cX12_bakes 22 = .ok (.iload_n 3, 1) := by decide +kernel
theorem dX12_bakes_23 : decode cX12_bakes 23 = .ok (.invokestatic 66, 3) := by decide +kernel
theorem dX12_bakes_26 : decode cX12_bakes 26 = .ok (.ifCond .eq 10, 3) := by decide +kernel
theorem dX12_bakes_29 : decode cX12_bakes 29 = .ok (.aload_n 0, 1) := by decide +kernel
theorem dX12_bakes_30 : decode cX12_bakes 30 = .ok (.iload_n 1, 1) := by decide +kernel
theorem dX12_bakes_31 : decode cX12_bakes 31 = .ok (.iload 5, 2) := by decide +kernel
theorem dX12_bakes_33 : decode cX12_bakes 33 = .ok (.invokevirtual 153, 3) := by decide +kernel
theorem dX12_bakes_36 : decode cX12_bakes 36 = .ok (.iinc 5 (-1), 3) := by decide +kernel
theorem dX12_bakes_39 : decode cX12_bakes 39 = .ok (.goto (-30), 3) := by decide +kernel
theorem dX12_bakes_42 : decode cX12_bakes 42 = .ok (.iload_n 2, 1) := by decide +kernel
theorem dX12_bakes_43 : decode cX12_bakes 43 = .ok (.istore 5, 2) := by decide +kernel
theorem dX12_bakes_45 : decode cX12_bakes 45 = .ok (.iload 5, 2) := by decide +kernel
theorem dX12_bakes_47 : decode cX12_bakes 47 = .ok (.iload_n 3, 1) := by decide +kernel
theorem dX12_bakes_48 : decode cX12_bakes 48 = .ok (.if_icmp .gt 34, 3) := by decide +kernel
theorem dX12_bakes_51 : decode cX12_bakes 51 = .ok (.aload_n 0, 1) := by decide +kernel
theorem dX12_bakes_52 : decode cX12_bakes 52 = .ok (.iload_n 1, 1) := by decide +kernel
theorem dX12_bakes_53 : decode cX12_bakes 53 = .ok (.iload 5, 2) := by decide +kernel
theorem dX12_bakes_55 : decode cX12_bakes 55 = .ok (.aload_n 0, 1) := by decide +kernel
theorem dX12_bakes_56 : decode cX12_bakes 56 = .ok (.getfield 19, 3) := by decide +kernel
theorem dX12_bakes_59 : decode cX12_bakes 59 = .ok (.iload 5, 2) := by decide +kernel
theorem dX12_bakes_61 : decode cX12_bakes 61 = .ok (.iload_n 2, 1) := by decide +kernel
theorem dX12_bakes_62 : decode cX12_bakes 62 = .ok (.isub, 1) := by decide +kernel
theorem dX12_bakes_63 : decode cX12_bakes 63 = .ok (.iaload, 1) := by decide +kernel
theorem dX12_bakes_64 : decode cX12_bakes 64 = .ok (.iconst 2, 1) := by decide +kernel
theorem dX12_bakes_65 : decode cX12_bakes 65 = .ok (.iconst 0, 1) := by decide +kernel
theorem dX12_bakes_66 : decode cX12_bakes 66 = .ok (.iconst 0, 1) := by decide +kernel
theorem dX12_bakes_67 : decode cX12_bakes 67 = .ok (.invokevirtual 149, 3) := by decide +kernel
theorem dX12_bakes_70 : decode cX12_bakes 70 = .ok (.istore 6, 2) := by decide +kernel
theorem dX12_bakes_72 : decode cX12_bakes 72 = .ok (.iload 5, 2) := by decide +kernel
theorem dX12_bakes_74 : decode cX12_bakes 74 = .ok (.iload 4, 2) := by decide +kernel
theorem dX12_bakes_76 : decode cX12_bakes 76 = .ok (.iadd, 1) := by decide +kernel
theorem dX12_bakes_77 : decode cX12_bakes 77 = .ok (.istore 5, 2) := by decide +kernel
theorem dX12_bakes_79 : decode cX12_bakes 79 = .ok (.goto (-34), 3) := by decide +kernel
theorem dX12_bakes_82 : decode cX12_bakes 82 = .ok (.aload_n 0, 1) := by decide +kernel
theorem dX12_bakes_83 : decode cX12_bakes 83 = .ok (.iload_n 1, 1) := by decide +kernel
theorem dX12_bakes_84 : decode cX12_bakes 84 = .ok (.invokevirtual 78, 3) := by decide +kernel
theorem dX12_bakes_87 : decode cX12_bakes 87 = .ok (.ireturn, 1) := by decide +kernel
theorem dX12_isBaking_0 : decode cX12_isBaking 0 = .ok (.iload_n 0, 1) := by decide +kernel
theorem dX12_isBaking_1 : decode cX12_isBaking 1 = .ok (.iconst 0, 1) := by decide +kernel
theorem dX12_isBaking_2 : decode cX12_isBaking 2 = .ok (.sipush 480, 3) := by decide +kernel
theorem dX12_isBaking_5 : decode cX12_isBaking 5 = .ok (.invokestatic 66, 3) := by decide +kernel
theorem dX12_isBaking_8 : decode cX12_isBaking 8 = .ok (.ifCond .eq 29, 3) := by decide +kernel
theorem dX12_isBaking_11 : decode cX12_isBaking 11 = .ok (.iload_n 1, 1) := by decide +kernel
theorem dX12_isBaking_12 : decode cX12_isBaking 12 = .ok (.iload_n 0, 1) := by decide +kernel
theorem dX12_isBaking_13 : decode cX12_isBaking 13 = .ok (.sipush 480, 3) := by decide +kernel
theorem dX12_isBaking_16 : decode cX12_isBaking 16 = .ok (.invokestatic 66, 3) := by decide +kernel
theorem dX12_isBaking_19 : decode cX12_isBaking 19 = .ok (.ifCond .eq 18, 3) := by decide +kernel
theorem dX12_isBaking_22 : decode cX12_isBaking 22 = .ok (.iload_n 2, 1) := by decide +kernel
theorem dX12_isBaking_23 : decode cX12_isBaking 23 = .ok (.iconst 1, 1) := by decide +kernel
theorem dX12_isBaking_24 : decode cX12_isBaking 24 = .ok (.sipush 480, 3) := by decide +kernel
theorem dX12_isBaking_27 : decode cX12_isBaking 27 = .ok (.invokestatic 66, 3) := by decide +kernel
theorem dX12_isBaking_30 : decode cX12_isBaking 30 = .ok (.ifCond .eq 7, 3) := by decide +kernel
theorem dX12_isBaking_33 : decode cX12_isBaking 33 = .ok (.iconst 1, 1) := by decide +kernel
theorem dX12_isBaking_34 : decode cX12_isBaking 34 = .ok (.goto 4, 3) := by decide +kernel
theorem dX12_isBaking_37 : decode cX12_isBaking 37 = .ok (.iconst 0, 1) := by decide +kernel
theorem dX12_isBaking_38 : decode cX12_isBaking 38 = .ok (.ireturn, 1) := by decide +kernel
theorem dX12_bake_0 : decode cX12_bake 0 = .ok (.iload_n 1, 1) := by decide +kernel
theorem dX12_bake_1 : decode cX12_bake 1 = .ok (.invokestatic 74, 3) := by decide +kernel
theorem dX12_bake_4 : decode cX12_bake 4 = .ok (.ifCond .ne 6, 3) := by decide +kernel
theorem dX12_bake_7 : decode cX12_bake 7 = .ok (.ldc 131, 2) := by decide +kernel
theorem dX12_bake_9 : decode cX12_bake 9 = .ok (.ireturn, 1) := by decide +kernel
theorem dX12_bake_10 : decode cX12_bake 10 = .ok (.iload_n 2, 1) := by decide +kernel
theorem dX12_bake_11 : decode cX12_bake 11 = .ok (.iload_n 3, 1) := by decide +kernel
theorem dX12_bake_12 : decode cX12_bake 12 = .ok (.iload 4, 2) := by decide +kernel
theorem dX12_bake_14 : decode cX12_bake 14 = .ok (.invokestatic 174, 3) := by decide +kernel
theorem dX12_bake_17 : decode cX12_bake 17 = .ok (.ifCond .ne 6, 3) := by decide +kernel
theorem dX12_bake_20 : decode cX12_bake 20 = .ok (.ldc 132, 2) := by decide +kernel
theorem dX12_bake_22 : decode cX12_bake 22 = .ok (.ireturn, 1) := by decide +kernel
theorem dX12_bake_23 : decode cX12_bake 23 = .ok (.aload_n 0, 1) := by decide +kernel
theorem dX12_bake_24 : decode cX12_bake 24 = .ok (.iload_n 1, 1) := by decide +kernel
theorem dX12_bake_25 : decode cX12_bake 25 = .ok (.invokevirtual 78, 3) := by decide +kernel
theorem dX12_bake_28 : decode cX12_bake 28 = .ok (.ifCond .ne 6, 3) := by decide +kernel
theorem dX12_bake_31 : decode cX12_bake 31 = .ok (.ldc 157, 2) := by decide +kernel
theorem dX12_bake_33 : decode cX12_bake 33 = .ok (.ireturn, 1) := by decide +kernel
theorem dX12_bake_34 : decode cX12_bake 34 = .ok (.aload_n 0, 1) := by decide +kernel
theorem dX12_bake_35 : decode cX12_bake 35 = .ok (.iload_n 1, 1) := by decide +kernel
theorem dX12_bake_36 : decode cX12_bake 36 = .ok (.iload_n 2, 1) := by decide +kernel
theorem dX12_bake_37 : decode cX12_bake 37 = .ok (.iload_n 3, 1) := by decide +kernel
theorem dX12_bake_38 : decode cX12_bake 38 = .ok (.invokevirtual 177, 3) := by decide +kernel
theorem dX12_bake_41 : decode cX12_bake 41 = .ok (.iload_n 3, 1) := by decide +kernel
theorem dX12_bake_42 : decode cX12_bake 42 = .ok (.iload_n 2, 1) := by decide +kernel
theorem dX12_bake_43 : decode cX12_bake 43 = .ok (.isub, 1) := by decide +kernel
theorem dX12_bake_44 : decode cX12_bake 44 = .ok (.iload 4, 2) := by decide +kernel
theorem dX12_bake_46 : decode cX12_bake 46 = .ok (.idiv, 1) := by decide +kernel
theorem dX12_bake_47 : decode cX12_bake 47 = .ok (.iadd, 1) := by decide +kernel
theorem dX12_bake_48 : decode cX12_bake 48 = .ok (.iconst 1, 1) := by decide +kernel
theorem dX12_bake_49 : decode cX12_bake 49 = .ok (.iadd, 1) := by decide +kernel
theorem dX12_bake_50 : decode cX12_bake 50 = .ok (.bipush 24, 2) := by decide +kernel
theorem dX12_bake_52 : decode cX12_bake 52 = .ok (.if_icmp .le 6, 3) := by decide +kernel
theorem dX12_bake_55 : decode cX12_bake 55 = .ok (.ldc 145, 2) := by decide +kernel
theorem dX12_bake_57 : decode cX12_bake 57 = .ok (.ireturn, 1) := by decide +kernel
theorem dX12_bake_58 : decode cX12_bake 58 = .ok (.aload_n 0, 1) := by decide +kernel
theorem dX12_bake_59 : decode cX12_bake 59 = .ok (.invokevirtual 146, 3) := by decide +kernel
theorem dX12_bake_62 : decode cX12_bake 62 = .ok (.iload_n 2, 1) := by decide +kernel
theorem dX12_bake_63 : decode cX12_bake 63 = .ok (.istore 5, 2) := by decide +kernel
theorem dX12_bake_65 : decode cX12_bake 65 = .ok (.iload 5, 2) := by decide +kernel
theorem dX12_bake_67 : decode cX12_bake 67 = .ok (.iload_n 3, 1) := by decide +kernel
theorem dX12_bake_68 : decode cX12_bake 68 = .ok (.if_icmp .gt 33, 3) := by decide +kernel
theorem dX12_bake_71 : decode cX12_bake 71 = .ok (.aload_n 0, 1) := by decide +kernel
theorem dX12_bake_72 : decode cX12_bake 72 = .ok (.getfield 19, 3) := by decide +kernel
theorem dX12_bake_75 : decode cX12_bake 75 = .ok (.iload 5, 2) := by decide +kernel
theorem dX12_bake_77 : decode cX12_bake 77 = .ok (.iload_n 2, 1) := by decide +kernel
theorem dX12_bake_78 : decode cX12_bake 78 = .ok (.isub, 1) := by decide +kernel
theorem dX12_bake_79 : decode cX12_bake 79 = .ok (.aload_n 0, 1) := by decide +kernel
theorem dX12_bake_80 : decode cX12_bake 80 = .ok (.iload_n 1, 1) := by decide +kernel
theorem dX12_bake_81 : decode cX12_bake 81 = .ok (.iload 5, 2) := by decide +kernel
theorem dX12_bake_83 : decode cX12_bake 83 = .ok (.invokevirtual 133, 3) := by decide +kernel
theorem dX12_bake_86 : decode cX12_bake 86 = .ok (.i2l, 1) := by decide +kernel
theorem dX12_bake_87 : decode cX12_bake 87 = .ok (.invokestatic 161, 3) := by decide +kernel
theorem dX12_bake_90 : decode cX12_bake 90 = .ok (.iastore, 1) := by decide +kernel
theorem dX12_bake_91 : decode cX12_bake 91 = .ok (.iload 5, 2) := by decide +kernel
theorem dX12_bake_93 : decode cX12_bake 93 = .ok (.iload 4, 2) := by decide +kernel
theorem dX12_bake_95 : decode cX12_bake 95 = .ok (.iadd, 1) := by decide +kernel
theorem dX12_bake_96 : decode cX12_bake 96 = .ok (.istore 5, 2) := by decide +kernel
theorem dX12_bake_98 : decode cX12_bake 98 = .ok (.goto (-33), 3) := by decide +kernel
theorem dX12_bake_101 : decode cX12_bake 101 = .ok (.aload_n 0, 1) := by decide +kernel
theorem dX12_bake_102 : decode cX12_bake 102 = .ok (.iload_n 1, 1) := by decide +kernel
theorem dX12_bake_103 : decode cX12_bake 103 = .ok (.iload_n 2, 1) := by decide +kernel
theorem dX12_bake_104 : decode cX12_bake 104 = .ok (.iload_n 3, 1) := by decide +kernel
theorem dX12_bake_105 : decode cX12_bake 105 = .ok (.iload 4, 2) := by decide +kernel
theorem dX12_bake_107 : decode cX12_bake 107 = .ok (.invokevirtual 180, 3) := by decide +kernel
theorem dX12_bake_110 : decode cX12_bake 110 = .ok (.ireturn, 1) := by decide +kernel
theorem dX12_bakeFormula_0 : decode cX12_bakeFormula 0 = .ok (.iload_n 1, 1) := by decide +kernel
theorem dX12_bakeFormula_1 : decode cX12_bakeFormula 1 = .ok (.invokestatic 74, 3) := by decide +kernel
theorem dX12_bakeFormula_4 : decode cX12_bakeFormula 4 = .ok (.ifCond .ne 6, 3) := by decide +kernel
theorem dX12_bakeFormula_7 : decode cX12_bakeFormula 7 = .ok (.ldc 131, 2) := by decide +kernel
theorem dX12_bakeFormula_9 : decode cX12_bakeFormula 9 = .ok (.ireturn, 1) := by decide +kernel
theorem dX12_bakeFormula_10 : decode cX12_bakeFormula 10 = .ok (.iload_n 2, 1) := by decide +kernel
theorem dX12_bakeFormula_11 : decode cX12_bakeFormula 11 = .ok (.iload_n 3, 1) := by decide +kernel
theorem dX12_bakeFormula_12 : decode cX12_bakeFormula 12 = .ok (.iload 4, 2) := by decide +kernel
theorem dX12_bakeFormula_14 : decode cX12_bakeFormula 14 = .ok (.invokestatic 174, 3) := by decide +kernel
theorem dX12_bakeFormula_17 : decode cX12_bakeFormula 17 = .ok (.ifCond .ne 6, 3) := by decide +kernel
theorem dX12_bakeFormula_20 : decode cX12_bakeFormula 20 = .ok (.ldc 132, 2) := by decide +kernel
theorem dX12_bakeFormula_22 : decode cX12_bakeFormula 22 = .ok (.ireturn, 1) := by decide +kernel
theorem dX12_bakeFormula_23 : decode cX12_bakeFormula 23 = .ok (.aload_n 0, 1) := by decide +kernel
theorem dX12_bakeFormula_24 : decode cX12_bakeFormula 24 = .ok (.iload_n 1, 1) := by decide +kernel
theorem dX12_bakeFormula_25 : decode cX12_bakeFormula 25 = .ok (.iload_n 2, 1) := by decide +kernel
theorem dX12_bakeFormula_26 : decode cX12_bakeFormula 26 = .ok (.iload_n 3, 1) := by decide +kernel
theorem dX12_bakeFormula_27 : decode cX12_bakeFormula 27 = .ok (.invokevirtual 177, 3) := by decide +kernel
theorem dX12_bakeFormula_30 : decode cX12_bakeFormula 30 = .ok (.iload_n 3, 1) := by decide +kernel
theorem dX12_bakeFormula_31 : decode cX12_bakeFormula 31 = .ok (.iload_n 2, 1) := by decide +kernel
theorem dX12_bakeFormula_32 : decode cX12_bakeFormula 32 = .ok (.isub, 1) := by decide +kernel
theorem dX12_bakeFormula_33 : decode cX12_bakeFormula 33 = .ok (.iload 4, 2) := by decide +kernel
theorem dX12_bakeFormula_35 : decode cX12_bakeFormula 35 = .ok (.idiv, 1) := by decide +kernel
theorem dX12_bakeFormula_36 : decode cX12_bakeFormula 36 = .ok (.iadd, 1) := by decide +kernel
theorem dX12_bakeFormula_37 : decode cX12_bakeFormula 37 = .ok (.iconst 1, 1) := by decide +kernel
theorem dX12_bakeFormula_38 : decode cX12_bakeFormula 38 = .ok (.iadd, 1) := by decide +kernel
theorem dX12_bakeFormula_39 : decode cX12_bakeFormula 39 = .ok (.bipush 24, 2) := by decide +kernel
theorem dX12_bakeFormula_41 : decode cX12_bakeFormula 41 = .ok (.if_icmp .le 6, 3) := by decide +kernel
theorem dX12_bakeFormula_44 : decode cX12_bakeFormula 44 = .ok (.ldc 145, 2) := by decide +kernel
theorem dX12_bakeFormula_46 : decode cX12_bakeFormula 46 = .ok (.ireturn, 1) := by decide +kernel
theorem dX12_bakeFormula_47 : decode cX12_bakeFormula 47 = .ok (.aload_n 0, 1) := by decide +kernel
theorem dX12_bakeFormula_48 : decode cX12_bakeFormula 48 = .ok (.invokevirtual 146, 3) := by decide +kernel
theorem dX12_bakeFormula_51 : decode cX12_bakeFormula 51 = .ok (.iload_n 2, 1) := by decide +kernel
theorem dX12_bakeFormula_52 : decode cX12_bakeFormula 52 = .ok (.istore 5, 2) := by decide +kernel
theorem dX12_bakeFormula_54 : decode cX12_bakeFormula 54 = .ok (.iload 5, 2) := by decide +kernel
theorem dX12_bakeFormula_56 : decode cX12_bakeFormula 56 = .ok (.iload_n 3, 1) := by decide +kernel
theorem dX12_bakeFormula_57 : decode cX12_bakeFormula 57 = .ok (.if_icmp .gt 32, 3) := by decide +kernel
theorem dX12_bakeFormula_60 : decode cX12_bakeFormula 60 = .ok (.aload_n 0, 1) := by decide +kernel
theorem dX12_bakeFormula_61 : decode cX12_bakeFormula 61 = .ok (.getfield 19, 3) := by decide +kernel
theorem dX12_bakeFormula_64 : decode cX12_bakeFormula 64 = .ok (.iload 5, 2) := by decide +kernel
theorem dX12_bakeFormula_66 : decode cX12_bakeFormula 66 = .ok (.iload_n 2, 1) := by decide +kernel
theorem dX12_bakeFormula_67 : decode cX12_bakeFormula 67 = .ok (.isub, 1) := by decide +kernel
theorem dX12_bakeFormula_68 : decode cX12_bakeFormula 68 = .ok (.aload_n 0, 1) := by decide +kernel
theorem dX12_bakeFormula_69 : decode cX12_bakeFormula 69 = .ok (.iload 5, 2) := by decide +kernel
theorem dX12_bakeFormula_71 : decode cX12_bakeFormula 71 = .ok (.invokevirtual 184, 3) := by decide +kernel
theorem dX12_bakeFormula_74 : decode cX12_bakeFormula 74 = .ok (.i2l, 1) := by decide +kernel
theorem dX12_bakeFormula_75 : decode cX12_bakeFormula 75 = .ok (.invokestatic 161, 3) := by decide +kernel
theorem dX12_bakeFormula_78 : decode cX12_bakeFormula 78 = .ok (.iastore, 1) := by decide +kernel
theorem dX12_bakeFormula_79 : decode cX12_bakeFormula 79 = .ok (.iload 5, 2) := by decide +kernel
theorem dX12_bakeFormula_81 : decode cX12_bakeFormula 81 = .ok (.iload 4, 2) := by decide +kernel
theorem dX12_bakeFormula_83 : decode cX12_bakeFormula 83 = .ok (.iadd, 1) := by decide +kernel
theorem dX12_bakeFormula_84 : decode cX12_bakeFormula 84 = .ok (.istore 5, 2) := by decide +kernel
theorem dX12_bakeFormula_86 : decode cX12_bakeFormula 86 = .ok (.goto (-32), 3) := by decide +kernel
theorem dX12_bakeFormula_89 : decode cX12_bakeFormula 89 = .ok (.aload_n 0, 1) := by decide +kernel
theorem dX12_bakeFormula_90 : decode cX12_bakeFormula 90 = .ok (.iload_n 1, 1) := by decide +kernel
theorem dX12_bakeFormula_91 : decode cX12_bakeFormula 91 = .ok (.iload_n 2, 1) := by decide +kernel
theorem dX12_bakeFormula_92 : decode cX12_bakeFormula 92 = .ok (.iload_n 3, 1) := by decide +kernel
theorem dX12_bakeFormula_93 : decode cX12_bakeFormula 93 = .ok (.iload 4, 2) := by decide +kernel
theorem dX12_bakeFormula_95 : decode cX12_bakeFormula 95 = .ok (.invokevirtual 180, 3) := by decide +kernel
theorem dX12_bakeFormula_98 : decode cX12_bakeFormula 98 = .ok (.ireturn, 1) := by decide +kernel
theorem dX12_apart_0 : decode cX12_apart 0 = .ok (.lconst 0, 1) := by decide +kernel
theorem dX12_apart_1 : decode cX12_apart 1 = .ok (.lstore 4, 2) := by decide +kernel
theorem dX12_apart_3 : decode cX12_apart 3 = .ok (.iload_n 1, 1) := by decide +kernel
theorem dX12_apart_4 : decode cX12_apart 4 = .ok (.iconst 1, 1) := by decide +kernel
theorem dX12_apart_5 : decode cX12_apart 5 = .ok (.iadd, 1) := by decide +kernel
theorem dX12_apart_6 : decode cX12_apart 6 = .ok (.istore 6, 2) := by decide +kernel
theorem dX12_apart_8 : decode cX12_apart 8 = .ok (.iload 6, 2) := by decide +kernel
theorem dX12_apart_10 : decode cX12_apart 10 = .ok (.iload_n 2, 1) := by decide +kernel
theorem dX12_apart_11 : decode cX12_apart 11 = .ok (.if_icmp .ge 79, 3) := by decide +kernel
theorem dX12_apart_14 : decode cX12_apart 14 = .ok (.aload_n 0, 1) := by decide +kernel
theorem dX12_apart_15 : decode cX12_apart 15 = .ok (.getfield 22, 3) := by decide +kernel
theorem dX12_apart_18 : decode cX12_apart 18 = .ok (.iload_n 1, 1) := by decide +kernel
theorem dX12_apart_19 : decode cX12_apart 19 = .ok (.iaload, 1) := by decide +kernel
theorem dX12_apart_20 : decode cX12_apart 20 = .ok (.aload_n 0, 1) := by decide +kernel
theorem dX12_apart_21 : decode cX12_apart 21 = .ok (.getfield 22, 3) := by decide +kernel
theorem dX12_apart_24 : decode cX12_apart 24 = .ok (.iload_n 2, 1) := by decide +kernel
theorem dX12_apart_25 : decode cX12_apart 25 = .ok (.iaload, 1) := by decide +kernel
theorem dX12_apart_26 : decode cX12_apart 26 = .ok (.aload_n 0, 1) := by decide +kernel
theorem dX12_apart_27 : decode cX12_apart 27 = .ok (.getfield 22, 3) := by decide +kernel
theorem dX12_apart_30 : decode cX12_apart 30 = .ok (.iload_n 1, 1) := by decide +kernel
theorem dX12_apart_31 : decode cX12_apart 31 = .ok (.iaload, 1) := by decide +kernel
theorem dX12_apart_32 : decode cX12_apart 32 = .ok (.isub, 1) := by decide +kernel
theorem dX12_apart_33 : decode cX12_apart 33 = .ok (.i2l, 1) := by decide +kernel
theorem dX12_apart_34 : decode cX12_apart 34 = .ok (.iload 6, 2) := by decide +kernel
theorem dX12_apart_36 : decode cX12_apart 36 = .ok (.iload_n 1, 1) := by decide +kernel
theorem dX12_apart_37 : decode cX12_apart 37 = .ok (.isub, 1) := by decide +kernel
theorem dX12_apart_38 : decode cX12_apart 38 = .ok (.i2l, 1) := by decide +kernel
theorem dX12_apart_39 : decode cX12_apart 39 = .ok (.lmul, 1) := by decide +kernel
theorem dX12_apart_40 : decode cX12_apart 40 = .ok (.iload_n 2, 1) := by decide +kernel
theorem dX12_apart_41 : decode cX12_apart 41 = .ok (.iload_n 1, 1) := by decide +kernel
theorem dX12_apart_42 : decode cX12_apart 42 = .ok (.isub, 1) := by decide +kernel
theorem dX12_apart_43 : decode cX12_apart 43 = .ok (.i2l, 1) := by decide +kernel
theorem dX12_apart_44 : decode cX12_apart 44 = .ok (.invokestatic 93, 3) := by decide +kernel
theorem dX12_apart_47 : decode cX12_apart 47 = .ok (.l2i, 1) := by decide +kernel
theorem dX12_apart_48 : decode cX12_apart 48 = .ok (.iadd, 1) := by decide +kernel
theorem dX12_apart_49 : decode cX12_apart 49 = .ok (.istore 7, 2) := by decide +kernel
theorem dX12_apart_51 : decode cX12_apart 51 = .ok (.iload 7, 2) := by decide +kernel
theorem dX12_apart_53 : decode cX12_apart 53 = .ok (.aload_n 0, 1) := by decide +kernel
theorem dX12_apart_54 : decode cX12_apart 54 = .ok (.getfield 22, 3) := by decide +kernel
theorem dX12_apart_57 : decode cX12_apart 57 = .ok (.iload 6, 2) := by decide +kernel
theorem dX12_apart_59 : decode cX12_apart 59 = .ok (.iaload, 1) := by decide +kernel
theorem dX12_apart_60 : decode cX12_apart 60 = .ok (.isub, 1) := by decide +kernel
theorem dX12_apart_61 : decode cX12_apart 61 = .ok (.invokestatic 102, 3) := by decide +kernel
theorem dX12_apart_64 : decode cX12_apart 64 = .ok (.istore 8, 2) := by decide +kernel
theorem dX12_apart_66 : decode cX12_apart 66 = .ok (.iload 8, 2) := by decide +kernel
theorem dX12_apart_68 : decode cX12_apart 68 = .ok (.iload_n 3, 1) := by decide +kernel
theorem dX12_apart_69 : decode cX12_apart 69 = .ok (.if_icmp .le 7, 3) := by decide +kernel
theorem dX12_apart_72 : decode cX12_apart 72 = .ok (.ldc2_w 187, 3) := by decide +kernel
theorem dX12_apart_75 : decode cX12_apart 75 = .ok (.lreturn, 1) := by decide +kernel
theorem dX12_apart_76 : decode cX12_apart 76 = .ok (.lload 4, 2) := by decide +kernel
theorem dX12_apart_78 : decode cX12_apart 78 = .ok (.iload 8, 2) := by decide +kernel
theorem dX12_apart_80 : decode cX12_apart 80 = .ok (.i2l, 1) := by decide +kernel
theorem dX12_apart_81 : decode cX12_apart 81 = .ok (.ladd, 1) := by decide +kernel
theorem dX12_apart_82 : decode cX12_apart 82 = .ok (.lstore 4, 2) := by decide +kernel
theorem dX12_apart_84 : decode cX12_apart 84 = .ok (.iinc 6 1, 3) := by decide +kernel
theorem dX12_apart_87 : decode cX12_apart 87 = .ok (.goto (-79), 3) := by decide +kernel
theorem dX12_apart_90 : decode cX12_apart 90 = .ok (.lload 4, 2) := by decide +kernel
theorem dX12_apart_92 : decode cX12_apart 92 = .ok (.lreturn, 1) := by decide +kernel
theorem dX12_lines_0 : decode cX12_lines 0 = .ok (.aload_n 0, 1) := by decide +kernel
theorem dX12_lines_1 : decode cX12_lines 1 = .ok (.getfield 25, 3) := by decide +kernel
theorem dX12_lines_4 : decode cX12_lines 4 = .ok (.iload_n 1, 1) := by decide +kernel
theorem dX12_lines_5 : decode cX12_lines 5 = .ok (.iconst 1, 1) := by decide +kernel
theorem dX12_lines_6 : decode cX12_lines 6 = .ok (.iastore, 1) := by decide +kernel
theorem dX12_lines_7 : decode cX12_lines 7 = .ok (.aload_n 0, 1) := by decide +kernel
theorem dX12_lines_8 : decode cX12_lines 8 = .ok (.getfield 28, 3) := by decide +kernel
theorem dX12_lines_11 : decode cX12_lines 11 = .ok (.iload_n 1, 1) := by decide +kernel
theorem dX12_lines_12 : decode cX12_lines 12 = .ok (.lconst 0, 1) := by decide +kernel
theorem dX12_lines_13 : decode cX12_lines 13 = .ok (.lastore, 1) := by decide +kernel
theorem dX12_lines_14 : decode cX12_lines 14 = .ok (.iload_n 1, 1) := by decide +kernel
theorem dX12_lines_15 : decode cX12_lines 15 = .ok (.iconst 1, 1) := by decide +kernel
theorem dX12_lines_16 : decode cX12_lines 16 = .ok (.isub, 1) := by decide +kernel
theorem dX12_lines_17 : decode cX12_lines 17 = .ok (.istore_n 3, 1) := by decide +kernel
theorem dX12_lines_18 : decode cX12_lines 18 = .ok (.iload_n 3, 1) := by decide +kernel
theorem dX12_lines_19 : decode cX12_lines 19 = .ok (.ifCond .lt 136, 3) := by decide +kernel
theorem dX12_lines_22 : decode cX12_lines 22 = .ok (.aload_n 0, 1) := by decide +kernel
theorem dX12_lines_23 : decode cX12_lines 23 = .ok (.getfield 25, 3) := by decide +kernel
theorem dX12_lines_26 : decode cX12_lines 26 = .ok (.iload_n 3, 1) := by decide +kernel
theorem dX12_lines_27 : decode cX12_lines 27 = .ok (.bipush 100, 2) := by decide +kernel
theorem dX12_lines_29 : decode cX12_lines 29 = .ok (.iastore, 1) := by decide +kernel
theorem dX12_lines_30 : decode cX12_lines 30 = .ok (.iload_n 3, 1) := by decide +kernel
theorem dX12_lines_31 : decode cX12_lines 31 = .ok (.iconst 1, 1) := by decide +kernel
theorem dX12_lines_32 : decode cX12_lines 32 = .ok (.iadd, 1) := by decide +kernel
theorem dX12_lines_33 : decode cX12_lines 33 = .ok (.istore 4, 2) := by decide +kernel
theorem dX12_lines_35 : decode cX12_lines 35 = .ok (.iload 4, 2) := by decide +kernel
theorem dX12_lines_37 : decode cX12_lines 37 = .ok (.iload_n 1, 1) := by decide +kernel
theorem dX12_lines_38 : decode cX12_lines 38 = .ok (.if_icmp .gt 111, 3) := by decide +kernel
theorem dX12_lines_41 : decode cX12_lines 41 = .ok (.aload_n 0, 1) := by decide +kernel
theorem dX12_lines_42 : decode cX12_lines 42 = .ok (.iload_n 3, 1) := by decide +kernel
theorem dX12_lines_43 : decode cX12_lines 43 = .ok (.iload 4, 2) := by decide +kernel
theorem dX12_lines_45 : decode cX12_lines 45 = .ok (.iload_n 2, 1) := by decide +kernel
theorem dX12_lines_46 : decode cX12_lines 46 = .ok (.invokevirtual 189, 3) := by decide +kernel
theorem dX12_lines_49 : decode cX12_lines 49 = .ok (.lstore 5, 2) := by decide +kernel
theorem dX12_lines_51 : decode cX12_lines 51 = .ok (.aload_n 0, 1) := by decide +kernel
theorem dX12_lines_52 : decode cX12_lines 52 = .ok (.getfield 25, 3) := by decide +kernel
theorem dX12_lines_55 : decode cX12_lines 55 = .ok (.iload 4, 2) := by decide +kernel
theorem dX12_lines_57 : decode cX12_lines 57 = .ok (.iaload, 1) := by decide +kernel
theorem dX12_lines_58 : decode cX12_lines 58 = .ok (.iconst 1, 1) := by decide +kernel
theorem dX12_lines_59 : decode cX12_lines 59 = .ok (.iadd, 1) := by decide +kernel
theorem dX12_lines_60 : decode cX12_lines 60 = .ok (.istore 7, 2) := by decide +kernel
theorem dX12_lines_62 : decode cX12_lines 62 = .ok (.lload 5, 2) := by decide +kernel
theorem dX12_lines_64 : decode cX12_lines 64 = .ok (.lconst 0, 1) := by decide +kernel
theorem dX12_lines_65 : decode cX12_lines 65 = .ok (.lcmp, 1) := by decide +kernel
theorem dX12_lines_66 : decode cX12_lines 66 = .ok (.ifCond .lt 77, 3) := by decide +kernel
theorem dX12_lines_69 : decode cX12_lines 69 = .ok (.iload 7, 2) := by decide +kernel
theorem dX12_lines_71 : decode cX12_lines 71 = .ok (.aload_n 0, 1) := by decide +kernel
theorem dX12_lines_72 : decode cX12_lines 72 = .ok (.getfield 25, 3) := by decide +kernel
theorem dX12_lines_75 : decode cX12_lines 75 = .ok (.iload_n 3, 1) := by decide +kernel
theorem dX12_lines_76 : decode cX12_lines 76 = .ok (.iaload, 1) := by decide +kernel
theorem dX12_lines_77 : decode cX12_lines 77 = .ok (.if_icmp .lt 34, 3) := by decide +kernel
theorem dX12_lines_80 : decode cX12_lines 80 = .ok (.iload 7, 2) := by decide +kernel
theorem dX12_lines_82 : decode cX12_lines 82 = .ok (.aload_n 0, 1) := by decide +kernel
theorem dX12_lines_83 : decode cX12_lines 83 = .ok (.getfield 25, 3) := by decide +kernel
theorem dX12_lines_86 : decode cX12_lines 86 = .ok (.iload_n 3, 1) := by decide +kernel
theorem dX12_lines_87 : decode cX12_lines 87 = .ok (.iaload, 1) := by decide +kernel
theorem dX12_lines_88 : decode cX12_lines 88 = .ok (.if_icmp .ne 55, 3) := by decide +kernel
theorem dX12_lines_91 : decode cX12_lines 91 = .ok (.lload 5, 2) := by decide +kernel
theorem dX12_lines_93 : decode cX12_lines 93 = .ok (.aload_n 0, 1) := by decide +kernel
theorem dX12_lines_94 : decode cX12_lines 94 = .ok (.getfield 28, 3) := by decide +kernel
theorem dX12_lines_97 : decode cX12_lines 97 = .ok (.iload 4, 2) := by decide +kernel
theorem dX12_lines_99 : decode cX12_lines 99 = .ok (.laload, 1) := by decide +kernel
theorem dX12_lines_100 : decode cX12_lines 100 = .ok (.ladd, 1) := by decide +kernel
theorem dX12_lines_101 : decode cX12_lines 101 = .ok (.aload_n 0, 1) := by decide +kernel
theorem dX12_lines_102 : decode cX12_lines 102 = .ok (.getfield 28, 3) := by decide +kernel
theorem dX12_lines_105 : decode cX12_lines 105 = .ok (.iload_n 3, 1) := by decide +kernel
theorem dX12_lines_106 : decode cX12_lines 106 = .ok (.laload, 1) := by decide +kernel
theorem dX12_lines_107 : decode cX12_lines 107 = .ok (.lcmp, 1) := by decide +kernel
theorem dX12_lines_108 : decode cX12_lines 108 = .ok (.ifCond .ge 35, 3) := by decide +kernel
theorem dX12_lines_111 : decode cX12_lines 111 = .ok (.aload_n 0, 1) := by decide +kernel
theorem dX12_lines_112 : decode cX12_lines 112 = .ok (.getfield 25, 3) := by decide +kernel
theorem dX12_lines_115 : decode cX12_lines 115 = .ok (.iload_n 3, 1) := by decide +kernel
theorem dX12_lines_116 : decode cX12_lines 116 = .ok (.iload 7, 2) := by decide +kernel
theorem dX12_lines_118 : decode cX12_lines 118 = .ok (.iastore, 1) := by decide +kernel
theorem dX12_lines_119 : decode cX12_lines 119 = .ok (.aload_n 0, 1) := by decide +kernel
theorem dX12_lines_120 : decode cX12_lines 120 = .ok (.getfield 28, 3) := by decide +kernel
theorem dX12_lines_123 : decode cX12_lines 123 = .ok (.iload_n 3, 1) := by decide +kernel
theorem dX12_lines_124 : decode cX12_lines 124 = .ok (.lload 5, 2) := by decide +kernel
theorem dX12_lines_126 : decode cX12_lines 126 = .ok (.aload_n 0, 1) := by decide +kernel
theorem dX12_lines_127 : decode cX12_lines 127 = .ok (.getfield 28, 3) := by decide +kernel
theorem dX12_lines_130 : decode cX12_lines 130 = .ok (.iload 4, 2) := by decide +kernel
theorem dX12_lines_132 : decode cX12_lines 132 = .ok (.laload, 1) := by decide +kernel
theorem dX12_lines_133 : decode cX12_lines 133 = .ok (.ladd, 1) := by decide +kernel
theorem dX12_lines_134 : decode cX12_lines 134 = .ok (.lastore, 1) := by decide +kernel
theorem dX12_lines_135 : decode cX12_lines 135 = .ok (.aload_n 0, 1) := by decide +kernel
theorem dX12_lines_136 : decode cX12_lines 136 = .ok (.getfield 32, 3) := by decide +kernel
theorem dX12_lines_139 : decode cX12_lines 139 = .ok (.iload_n 3, 1) := by decide +kernel
theorem dX12_lines_140 : decode cX12_lines 140 = .ok (.iload 4, 2) := by decide +kernel
theorem dX12_lines_142 : decode cX12_lines 142 = .ok (.iastore, 1) := by decide +kernel
theorem dX12_lines_143 : decode cX12_lines 143 = .ok (.iinc 4 1, 3) := by decide +kernel
theorem dX12_lines_146 : decode cX12_lines 146 = .ok (.goto (-111), 3) := by decide +kernel
theorem dX12_lines_149 : decode cX12_lines 149 = .ok (.iinc 3 (-1), 3) := by decide +kernel
theorem dX12_lines_152 : decode cX12_lines 152 = .ok (.goto (-134), 3) := by decide +kernel
theorem dX12_lines_155 : decode cX12_lines 155 = .ok (.return_, 1) := by decide +kernel
theorem dX12_polyline_0 : decode cX12_polyline 0 = .ok (.iload_n 1, 1) := by decide +kernel
theorem dX12_polyline_1 : decode cX12_polyline 1 = .ok (.invokestatic 74, 3) := by decide +kernel
theorem dX12_polyline_4 : decode cX12_polyline 4 = .ok (.ifCond .ne 6, 3) := by decide +kernel
theorem dX12_polyline_7 : decode cX12_polyline 7 = .ok (.ldc 131, 2) := by decide +kernel
theorem dX12_polyline_9 : decode cX12_polyline 9 = .ok (.ireturn, 1) := by decide +kernel
theorem dX12_polyline_10 : decode cX12_polyline 10 = .ok (.iload_n 2, 1) := by decide +kernel
theorem dX12_polyline_11 : decode cX12_polyline 11 = .ok (.iconst 0, 1) := by decide +kernel
theorem dX12_polyline_12 : decode cX12_polyline 12 = .ok (.sipush 960, 3) := by decide +kernel
theorem dX12_polyline_15 : decode cX12_polyline 15 = .ok (.invokestatic 66, 3) := by decide +kernel
theorem dX12_polyline_18 : decode cX12_polyline 18 = .ok (.ifCond .eq 41, 3) := by decide +kernel
theorem dX12_polyline_21 : decode cX12_polyline 21 = .ok (.iload_n 3, 1) := by decide +kernel
theorem dX12_polyline_22 : decode cX12_polyline 22 = .ok (.iload_n 2, 1) := by decide +kernel
theorem dX12_polyline_23 : decode cX12_polyline 23 = .ok (.iconst 1, 1) := by decide +kernel
theorem dX12_polyline_24 : decode cX12_polyline 24 = .ok (.iadd, 1) := by decide +kernel
theorem dX12_polyline_25 : decode cX12_polyline 25 = .ok (.iload_n 2, 1) := by decide +kernel
theorem dX12_polyline_26 : decode cX12_polyline 26 = .ok (.bipush 40, 2) := by decide +kernel
theorem dX12_polyline_28 : decode cX12_polyline 28 = .ok (.iadd, 1) := by decide +kernel
theorem dX12_polyline_29 : decode cX12_polyline 29 = .ok (.sipush 960, 3) := by decide +kernel
theorem dX12_polyline_32 : decode cX12_polyline 32 = .ok (.invokestatic 105, 3) := by decide +kernel
theorem dX12_polyline_35 : decode cX12_polyline 35 = .ok (.invokestatic 66, 3) := by decide +kernel
theorem dX12_polyline_38 : decode cX12_polyline 38 = .ok (.ifCond .eq 21, 3) := by decide +kernel
theorem dX12_polyline_41 : decode cX12_polyline 41 = .ok (.iload 4, 2) := by decide +kernel
theorem dX12_polyline_43 : decode cX12_polyline 43 = .ok (.iconst 0, 1) := by decide +kernel
theorem dX12_polyline_44 : decode cX12_polyline 44 = .ok (.sipush 9999, 3) := by decide +kernel
theorem dX12_polyline_47 : decode cX12_polyline 47 = .ok (.invokestatic 66, 3) := by decide +kernel
theorem dX12_polyline_50 : decode cX12_polyline 50 = .ok (.ifCond .eq 9, 3) := by decide +kernel
theorem dX12_polyline_53 : decode cX12_polyline 53 = .ok (.iload 5, 2) := by decide +kernel
theorem dX12_polyline_55 : decode cX12_polyline 55 = .ok (.iconst (-1), 1) := by decide +kernel
theorem dX12_polyline_56 : decode cX12_polyline 56 = .ok (.if_icmp .ge 6, 3) := by decide +kernel
theorem dX12_polyline_59 : decode cX12_polyline 59 = .ok (.ldc 132, 2) := by decide +kernel
theorem dX12_polyline_61 : decode cX12_polyline 61 = .ok (.ireturn, 1) := by decide +kernel
theorem dX12_polyline_62 : decode cX12_polyline 62 = .ok (.aload_n 0, 1) := by decide +kernel
theorem dX12_polyline_63 : decode cX12_polyline 63 = .ok (.iload_n 1, 1) := by decide +kernel
theorem dX12_polyline_64 : decode cX12_polyline 64 = .ok (.invokevirtual 78, 3) := by decide +kernel
theorem dX12_polyline_67 : decode cX12_polyline 67 = .ok (.ifCond .ne 6, 3) := by decide +kernel
theorem dX12_polyline_70 : decode cX12_polyline 70 = .ok (.ldc 157, 2) := by decide +kernel
theorem dX12_polyline_72 : decode cX12_polyline 72 = .ok (.ireturn, 1) := by decide +kernel
theorem dX12_polyline_73 : decode cX12_polyline 73 = .ok (.iload_n 2, 1) := by decide +kernel
theorem dX12_polyline_74 : decode cX12_polyline 74 = .ok (.istore 6, 2) := by decide +kernel
theorem dX12_polyline_76 : decode cX12_polyline 76 = .ok (.iload 6, 2) := by decide +kernel
theorem dX12_polyline_78 : decode cX12_polyline 78 = .ok (.iload_n 3, 1) := by decide +kernel
theorem dX12_polyline_79 : decode cX12_polyline 79 = .ok (.if_icmp .gt 25, 3) := by decide +kernel
theorem dX12_polyline_82 : decode cX12_polyline 82 = .ok (.aload_n 0, 1) := by decide +kernel
theorem dX12_polyline_83 : decode cX12_polyline 83 = .ok (.getfield 22, 3) := by decide +kernel
theorem dX12_polyline_86 : decode cX12_polyline 86 = .ok (.iload 6, 2) := by decide +kernel
theorem dX12_polyline_88 : decode cX12_polyline 88 = .ok (.iload_n 2, 1) := by decide +kernel
theorem dX12_polyline_89 : decode cX12_polyline 89 = .ok (.isub, 1) := by decide +kernel
theorem dX12_polyline_90 : decode cX12_polyline 90 = .ok (.aload_n 0, 1) := by decide +kernel
theorem dX12_polyline_91 : decode cX12_polyline 91 = .ok (.iload_n 1, 1) := by decide +kernel
theorem dX12_polyline_92 : decode cX12_polyline 92 = .ok (.iload 6, 2) := by decide +kernel
theorem dX12_polyline_94 : decode cX12_polyline 94 = .ok (.invokevirtual 133, 3) := by decide +kernel
theorem dX12_polyline_97 : decode cX12_polyline 97 = .ok (.iastore, 1) := by decide +kernel
theorem dX12_polyline_98 : decode cX12_polyline 98 = .ok (.iinc 6 1, 3) := by decide +kernel
theorem dX12_polyline_101 : decode cX12_polyline 101 = .ok (.goto (-25), 3) := by decide +kernel
theorem dX12_polyline_104 : decode cX12_polyline 104 = .ok (.aload_n 0, 1) := by decide +kernel
theorem dX12_polyline_105 : decode cX12_polyline 105 = .ok (.iload_n 3, 1) := by decide +kernel
theorem dX12_polyline_106 : decode cX12_polyline 106 = .ok (.iload_n 2, 1) := by decide +kernel
theorem dX12_polyline_107 : decode cX12_polyline 107 = .ok (.isub, 1) := by decide +kernel
theorem dX12_polyline_108 : decode cX12_polyline 108 = .ok (.iload 4, 2) := by decide +kernel
theorem dX12_polyline_110 : decode cX12_polyline 110 = .ok (.invokevirtual 193, 3) := by decide +kernel
theorem dX12_polyline_113 : decode cX12_polyline 113 = .ok (.iload 5, 2) := by decide +kernel
theorem dX12_polyline_115 : decode cX12_polyline 115 = .ok (.ifCond .ge 10, 3) := by decide +kernel
theorem dX12_polyline_118 : decode cX12_polyline 118 = .ok (.aload_n 0, 1) := by decide +kernel
theorem dX12_polyline_119 : decode cX12_polyline 119 = .ok (.getfield 25, 3) := by decide +kernel
theorem dX12_polyline_122 : decode cX12_polyline 122 = .ok (.iconst 0, 1) := by decide +kernel
theorem dX12_polyline_123 : decode cX12_polyline 123 = .ok (.iaload, 1) := by decide +kernel
theorem dX12_polyline_124 : decode cX12_polyline 124 = .ok (.ireturn, 1) := by decide +kernel
theorem dX12_polyline_125 : decode cX12_polyline 125 = .ok (.iload 5, 2) := by decide +kernel
theorem dX12_polyline_127 : decode cX12_polyline 127 = .ok (.aload_n 0, 1) := by decide +kernel
theorem dX12_polyline_128 : decode cX12_polyline 128 = .ok (.getfield 25, 3) := by decide +kernel
theorem dX12_polyline_131 : decode cX12_polyline 131 = .ok (.iconst 0, 1) := by decide +kernel
theorem dX12_polyline_132 : decode cX12_polyline 132 = .ok (.iaload, 1) := by decide +kernel
theorem dX12_polyline_133 : decode cX12_polyline 133 = .ok (.if_icmp .lt 6, 3) := by decide +kernel
theorem dX12_polyline_136 : decode cX12_polyline 136 = .ok (.ldc 90, 2) := by decide +kernel
theorem dX12_polyline_138 : decode cX12_polyline 138 = .ok (.ireturn, 1) := by decide +kernel
theorem dX12_polyline_139 : decode cX12_polyline 139 = .ok (.iconst 0, 1) := by decide +kernel
theorem dX12_polyline_140 : decode cX12_polyline 140 = .ok (.istore 6, 2) := by decide +kernel
theorem dX12_polyline_142 : decode cX12_polyline 142 = .ok (.iconst 0, 1) := by decide +kernel
theorem dX12_polyline_143 : decode cX12_polyline 143 = .ok (.istore 7, 2) := by decide +kernel
theorem dX12_polyline_145 : decode cX12_polyline 145 = .ok (.iload 7, 2) := by decide +kernel
theorem dX12_polyline_147 : decode cX12_polyline 147 = .ok (.iload 5, 2) := by decide +kernel
theorem dX12_polyline_149 : decode cX12_polyline 149 = .ok (.if_icmp .ge 18, 3) := by decide +kernel
theorem dX12_polyline_152 : decode cX12_polyline 152 = .ok (.aload_n 0, 1) := by decide +kernel
theorem dX12_polyline_153 : decode cX12_polyline 153 = .ok (.getfield 32, 3) := by decide +kernel
theorem dX12_polyline_156 : decode cX12_polyline 156 = .ok (.iload 6, 2) := by decide +kernel
theorem dX12_polyline_158 : decode cX12_polyline 158 = .ok (.iaload, 1) := by decide +kernel
theorem dX12_polyline_159 : decode cX12_polyline 159 = .ok (.istore 6, 2) := by decide +kernel
theorem dX12_polyline_161 : decode cX12_polyline 161 = .ok (.iinc 7 1, 3) := by decide +kernel
theorem dX12_polyline_164 : decode cX12_polyline 164 = .ok (.goto (-19), 3) := by decide +kernel
theorem dX12_polyline_167 : decode cX12_polyline 167 = .ok (.iload_n 2, 1) := by decide +kernel
theorem dX12_polyline_168 : decode cX12_polyline 168 = .ok (.iload 6, 2) := by decide +kernel
theorem dX12_polyline_170 : decode cX12_polyline 170 = .ok (.iadd, 1) := by decide +kernel
theorem dX12_polyline_171 : decode cX12_polyline 171 = .ok (.ireturn, 1) := by decide +kernel
theorem dX12_error_0 : decode cX12_error 0 = .ok (.iconst 0, 1) := by decide +kernel
theorem dX12_error_1 : decode cX12_error 1 = .ok (.istore 4, 2) := by decide +kernel
theorem dX12_error_3 : decode cX12_error 3 = .ok (.iload_n 2, 1) := by decide +kernel
theorem dX12_error_4 : decode cX12_error 4 = .ok (.istore 5, 2) := by decide +kernel
theorem dX12_error_6 : decode cX12_error 6 = .ok (.iload 5, 2) := by decide +kernel
theorem dX12_error_8 : decode cX12_error 8 = .ok (.iload_n 3, 1) := by decide +kernel
theorem dX12_error_9 : decode cX12_error 9 = .ok (.if_icmp .gt 36, 3) := by decide +kernel
theorem dX12_error_12 : decode cX12_error 12 = .ok (.iload 4, 2) := by decide +kernel
theorem dX12_error_14 : decode cX12_error 14 = .ok (.aload_n 0, 1) := by decide +kernel
theorem dX12_error_15 : decode cX12_error 15 = .ok (.iload_n 1, 1) := by decide +kernel
theorem dX12_error_16 : decode cX12_error 16 = .ok (.iload 5, 2) := by decide +kernel
theorem dX12_error_18 : decode cX12_error 18 = .ok (.invokevirtual 133, 3) := by decide +kernel
theorem dX12_error_21 : decode cX12_error 21 = .ok (.aload_n 0, 1) := by decide +kernel
theorem dX12_error_22 : decode cX12_error 22 = .ok (.getfield 19, 3) := by decide +kernel
theorem dX12_error_25 : decode cX12_error 25 = .ok (.iload 5, 2) := by decide +kernel
theorem dX12_error_27 : decode cX12_error 27 = .ok (.iload_n 2, 1) := by decide +kernel
theorem dX12_error_28 : decode cX12_error 28 = .ok (.isub, 1) := by decide +kernel
theorem dX12_error_29 : decode cX12_error 29 = .ok (.iaload, 1) := by decide +kernel
theorem dX12_error_30 : decode cX12_error 30 = .ok (.isub, 1) := by decide +kernel
theorem dX12_error_31 : decode cX12_error 31 = .ok (.invokestatic 102, 3) := by decide +kernel
theorem dX12_error_34 : decode cX12_error 34 = .ok (.invokestatic 112, 3) := by decide +kernel
theorem dX12_error_37 : decode cX12_error 37 = .ok (.istore 4, 2) := by decide +kernel
theorem dX12_error_39 : decode cX12_error 39 = .ok (.iinc 5 1, 3) := by decide +kernel
theorem dX12_error_42 : decode cX12_error 42 = .ok (.goto (-36), 3) := by decide +kernel
theorem dX12_error_45 : decode cX12_error 45 = .ok (.iload 4, 2) := by decide +kernel
theorem dX12_error_47 : decode cX12_error 47 = .ok (.ireturn, 1) := by decide +kernel
theorem dX12_takes_0 : decode cX12_takes 0 = .ok (.iconst 0, 1) := by decide +kernel
theorem dX12_takes_1 : decode cX12_takes 1 = .ok (.istore_n 3, 1) := by decide +kernel
theorem dX12_takes_2 : decode cX12_takes 2 = .ok (.iload_n 3, 1) := by decide +kernel
theorem dX12_takes_3 : decode cX12_takes 3 = .ok (.iconst 5, 1) := by decide +kernel
theorem dX12_takes_4 : decode cX12_takes 4 = .ok (.if_icmp .ge 31, 3) := by decide +kernel
theorem dX12_takes_7 : decode cX12_takes 7 = .ok (.aload_n 0, 1) := by decide +kernel
theorem dX12_takes_8 : decode cX12_takes 8 = .ok (.getfield 35, 3) := by decide +kernel
theorem dX12_takes_11 : decode cX12_takes 11 = .ok (.iload_n 3, 1) := by decide +kernel
theorem dX12_takes_12 : decode cX12_takes 12 = .ok (.aload_n 0, 1) := by decide +kernel
theorem dX12_takes_13 : decode cX12_takes 13 = .ok (.getfield 7, 3) := by decide +kernel
theorem dX12_takes_16 : decode cX12_takes 16 = .ok (.iload_n 1, 1) := by decide +kernel
theorem dX12_takes_17 : decode cX12_takes 17 = .ok (.iconst 4, 1) := by decide +kernel
theorem dX12_takes_18 : decode cX12_takes 18 = .ok (.bipush 24, 2) := by decide +kernel
theorem dX12_takes_20 : decode cX12_takes 20 = .ok (.iload_n 3, 1) := by decide +kernel
theorem dX12_takes_21 : decode cX12_takes 21 = .ok (.imul, 1) := by decide +kernel
theorem dX12_takes_22 : decode cX12_takes 22 = .ok (.iadd, 1) := by decide +kernel
theorem dX12_takes_23 : decode cX12_takes 23 = .ok (.iload_n 2, 1) := by decide +kernel
theorem dX12_takes_24 : decode cX12_takes 24 = .ok (.invokestatic 70, 3) := by decide +kernel
theorem dX12_takes_27 : decode cX12_takes 27 = .ok (.iaload, 1) := by decide +kernel
theorem dX12_takes_28 : decode cX12_takes 28 = .ok (.iastore, 1) := by decide +kernel
theorem dX12_takes_29 : decode cX12_takes 29 = .ok (.iinc 3 1, 3) := by decide +kernel
theorem dX12_takes_32 : decode cX12_takes 32 = .ok (.goto (-30), 3) := by decide +kernel
theorem dX12_takes_35 : decode cX12_takes 35 = .ok (.aload_n 0, 1) := by decide +kernel
theorem dX12_takes_36 : decode cX12_takes 36 = .ok (.iload_n 1, 1) := by decide +kernel
theorem dX12_takes_37 : decode cX12_takes 37 = .ok (.iload_n 2, 1) := by decide +kernel
theorem dX12_takes_38 : decode cX12_takes 38 = .ok (.invokevirtual 153, 3) := by decide +kernel
theorem dX12_takes_41 : decode cX12_takes 41 = .ok (.return_, 1) := by decide +kernel
theorem dX12_gives_0 : decode cX12_gives 0 = .ok (.aload_n 0, 1) := by decide +kernel
theorem dX12_gives_1 : decode cX12_gives 1 = .ok (.iload_n 1, 1) := by decide +kernel
theorem dX12_gives_2 : decode cX12_gives 2 = .ok (.aload_n 0, 1) := by decide +kernel
theorem dX12_gives_3 : decode cX12_gives 3 = .ok (.getfield 35, 3) := by decide +kernel
theorem dX12_gives_6 : decode cX12_gives 6 = .ok (.iconst 0, 1) := by decide +kernel
theorem dX12_gives_7 : decode cX12_gives 7 = .ok (.iaload, 1) := by decide +kernel
theorem dX12_gives_8 : decode cX12_gives 8 = .ok (.aload_n 0, 1) := by decide +kernel
theorem dX12_gives_9 : decode cX12_gives 9 = .ok (.getfield 35, 3) := by decide +kernel
theorem dX12_gives_12 : decode cX12_gives 12 = .ok (.iconst 1, 1) := by decide +kernel
theorem dX12_gives_13 : decode cX12_gives 13 = .ok (.iaload, 1) := by decide +kernel
theorem dX12_gives_14 : decode cX12_gives 14 = .ok (.aload_n 0, 1) := by decide +kernel
theorem dX12_gives_15 : decode cX12_gives 15 = .ok (.getfield 35, 3) := by decide +kernel
theorem dX12_gives_18 : decode cX12_gives 18 = .ok (.iconst 2, 1) := by decide +kernel
theorem dX12_gives_19 : decode cX12_gives 19 = .ok (.iaload, 1) := by decide +kernel
theorem dX12_gives_20 : decode cX12_gives 20 = .ok (.aload_n 0, 1) := by decide +kernel
theorem dX12_gives_21 : decode cX12_gives 21 = .ok (.getfield 35, 3) := by decide +kernel
theorem dX12_gives_24 : decode cX12_gives 24 = .ok (.iconst 3, 1) := by decide +kernel
theorem dX12_gives_25 : decode cX12_gives 25 = .ok (.iaload, 1) := by decide +kernel
theorem dX12_gives_26 : decode cX12_gives 26 = .ok (.aload_n 0, 1) := by decide +kernel
theorem dX12_gives_27 : decode cX12_gives 27 = .ok (.getfield 35, 3) := by decide +kernel
theorem dX12_gives_30 : decode cX12_gives 30 = .ok (.iconst 4, 1) := by decide +kernel
theorem dX12_gives_31 : decode cX12_gives 31 = .ok (.iaload, 1) := by decide +kernel
theorem dX12_gives_32 : decode cX12_gives 32 = .ok (.invokevirtual 149, 3) := by decide +kernel
theorem dX12_gives_35 : decode cX12_gives 35 = .ok (.istore_n 2, 1) := by decide +kernel
theorem dX12_gives_36 : decode cX12_gives 36 = .ok (.return_, 1) := by decide +kernel
theorem dX12_decimate_0 : decode cX12_decimate 0 = .ok (.iload_n 1, 1) := by decide +kernel
theorem dX12_decimate_1 : decode cX12_decimate 1 = .ok (.invokestatic 74, 3) := by decide +kernel
theorem dX12_decimate_4 : decode cX12_decimate 4 = .ok (.ifCond .ne 6, 3) := by decide +kernel
theorem dX12_decimate_7 : decode cX12_decimate 7 = .ok (.ldc 131, 2) := by decide +kernel
theorem dX12_decimate_9 : decode cX12_decimate 9 = .ok (.ireturn, 1) := by decide +kernel
theorem dX12_decimate_10 : decode cX12_decimate 10 = .ok (.iload_n 2, 1) := by decide +kernel
theorem dX12_decimate_11 : decode cX12_decimate 11 = .ok (.iconst 0, 1) := by decide +kernel
theorem dX12_decimate_12 : decode cX12_decimate 12 = .ok (.sipush 9999, 3) := by decide +kernel
theorem dX12_decimate_15 : decode cX12_decimate 15 = .ok (.invokestatic 66, 3) := by decide +kernel
theorem dX12_decimate_18 : decode cX12_decimate 18 = .ok (.ifCond .ne 6, 3) := by decide +kernel
theorem dX12_decimate_21 : decode cX12_decimate 21 = .ok (.ldc 132, 2) := by decide +kernel
theorem dX12_decimate_23 : decode cX12_decimate 23 = .ok (.ireturn, 1) := by decide +kernel
theorem dX12_decimate_24 : decode cX12_decimate 24 = .ok (.aload_n 0, 1) := by decide +kernel
theorem dX12_decimate_25 : decode cX12_decimate 25 = .ok (.invokevirtual 146, 3) := by decide +kernel
theorem dX12_decimate_28 : decode cX12_decimate 28 = .ok (.aload_n 0, 1) := by decide +kernel
theorem dX12_decimate_29 : decode cX12_decimate 29 = .ok (.iload_n 1, 1) := by decide +kernel
theorem dX12_decimate_30 : decode cX12_decimate 30 = .ok (.invokevirtual 78, 3) := by decide +kernel
theorem dX12_decimate_33 : decode cX12_decimate 33 = .ok (.istore_n 3, 1) := by decide +kernel
theorem dX12_decimate_34 : decode cX12_decimate 34 = .ok (.iload_n 3, 1) := by decide +kernel
end
section
theorem dX12_decimate_35 : decode cX12_decimate 35 = .ok (.iconst 3, 1) := by decide +kernel
theorem dX12_decimate_36 : decode cX12_decimate 36 = .ok (.if_icmp .ge 5, 3) := by decide +kernel
theorem dX12_decimate_39 : decode cX12_decimate 39 = .ok (.iconst 0, 1) := by decide +kernel
theorem dX12_decimate_40 : decode cX12_decimate 40 = .ok (.ireturn, 1) := by decide +kernel
theorem dX12_decimate_41 : decode cX12_decimate 41 = .ok (.aload_n 0, 1) := by decide +kernel
theorem dX12_decimate_42 : decode cX12_decimate 42 = .ok (.iload_n 1, 1) := by decide +kernel
theorem dX12_decimate_43 : decode cX12_decimate 43 = .ok (.iconst 0, 1) := by decide +kernel
theorem dX12_decimate_44 : decode cX12_decimate 44 = .ok (.invokevirtual 82, 3) := by decide +kernel
theorem dX12_decimate_47 : decode cX12_decimate 47 = .ok (.istore 4, 2) := by decide +kernel
theorem dX12_decimate_49 : decode cX12_decimate 49 = .ok (.aload_n 0, 1) := by decide +kernel
theorem dX12_decimate_50 : decode cX12_decimate 50 = .ok (.iload_n 1, 1) := by decide +kernel
theorem dX12_decimate_51 : decode cX12_decimate 51 = .ok (.iload_n 3, 1) := by decide +kernel
theorem dX12_decimate_52 : decode cX12_decimate 52 = .ok (.iconst 1, 1) := by decide +kernel
theorem dX12_decimate_53 : decode cX12_decimate 53 = .ok (.isub, 1) := by decide +kernel
theorem dX12_decimate_54 : decode cX12_decimate 54 = .ok (.invokevirtual 82, 3) := by decide +kernel
theorem dX12_decimate_57 : decode cX12_decimate 57 = .ok (.istore 5, 2) := by decide +kernel
theorem dX12_decimate_59 : decode cX12_decimate 59 = .ok (.iload 4, 2) := by decide +kernel
theorem dX12_decimate_61 : decode cX12_decimate 61 = .ok (.istore 6, 2) := by decide +kernel
theorem dX12_decimate_63 : decode cX12_decimate 63 = .ok (.iload 6, 2) := by decide +kernel
theorem dX12_decimate_65 : decode cX12_decimate 65 = .ok (.iload 5, 2) := by decide +kernel
theorem dX12_decimate_67 : decode cX12_decimate 67 = .ok (.if_icmp .gt 26, 3) := by decide +kernel
theorem dX12_decimate_70 : decode cX12_decimate 70 = .ok (.aload_n 0, 1) := by decide +kernel
theorem dX12_decimate_71 : decode cX12_decimate 71 = .ok (.getfield 19, 3) := by decide +kernel
theorem dX12_decimate_74 : decode cX12_decimate 74 = .ok (.iload 6, 2) := by decide +kernel
theorem dX12_decimate_76 : decode cX12_decimate 76 = .ok (.iload 4, 2) := by decide +kernel
theorem dX12_decimate_78 : decode cX12_decimate 78 = .ok (.isub, 1) := by decide +kernel
theorem dX12_decimate_79 : decode cX12_decimate 79 = .ok (.aload_n 0, 1) := by decide +kernel
theorem dX12_decimate_80 : decode cX12_decimate 80 = .ok (.iload_n 1, 1) := by decide +kernel
theorem dX12_decimate_81 : decode cX12_decimate 81 = .ok (.iload 6, 2) := by decide +kernel
theorem dX12_decimate_83 : decode cX12_decimate 83 = .ok (.invokevirtual 133, 3) := by decide +kernel
theorem dX12_decimate_86 : decode cX12_decimate 86 = .ok (.iastore, 1) := by decide +kernel
theorem dX12_decimate_87 : decode cX12_decimate 87 = .ok (.iinc 6 1, 3) := by decide +kernel
theorem dX12_decimate_90 : decode cX12_decimate 90 = .ok (.goto (-27), 3) := by decide +kernel
theorem dX12_decimate_93 : decode cX12_decimate 93 = .ok (.iconst 1, 1) := by decide +kernel
theorem dX12_decimate_94 : decode cX12_decimate 94 = .ok (.istore 6, 2) := by decide +kernel
theorem dX12_decimate_96 : decode cX12_decimate 96 = .ok (.iload 6, 2) := by decide +kernel
theorem dX12_decimate_98 : decode cX12_decimate 98 = .ok (.ifCond .eq 106, 3) := by decide +kernel
theorem dX12_decimate_101 : decode cX12_decimate 101 = .ok (.iconst (-1), 1) := by decide +kernel
theorem dX12_decimate_102 : decode cX12_decimate 102 = .ok (.istore 7, 2) := by decide +kernel
theorem dX12_decimate_104 : decode cX12_decimate 104 = .ok (.iconst 0, 1) := by decide +kernel
theorem dX12_decimate_105 : decode cX12_decimate 105 = .ok (.istore 8, 2) := by decide +kernel
theorem dX12_decimate_107 : decode cX12_decimate 107 = .ok (.iconst 1, 1) := by decide +kernel
theorem dX12_decimate_108 : decode cX12_decimate 108 = .ok (.istore 9, 2) := by decide +kernel
theorem dX12_decimate_110 : decode cX12_decimate 110 = .ok (.iload 9, 2) := by decide +kernel
theorem dX12_decimate_112 : decode cX12_decimate 112 = .ok (.aload_n 0, 1) := by decide +kernel
theorem dX12_decimate_113 : decode cX12_decimate 113 = .ok (.iload_n 1, 1) := by decide +kernel
theorem dX12_decimate_114 : decode cX12_decimate 114 = .ok (.invokevirtual 78, 3) := by decide +kernel
theorem dX12_decimate_117 : decode cX12_decimate 117 = .ok (.iconst 1, 1) := by decide +kernel
theorem dX12_decimate_118 : decode cX12_decimate 118 = .ok (.isub, 1) := by decide +kernel
theorem dX12_decimate_119 : decode cX12_decimate 119 = .ok (.if_icmp .ge 52, 3) := by decide +kernel
theorem dX12_decimate_122 : decode cX12_decimate 122 = .ok (.aload_n 0, 1) := by decide +kernel
theorem dX12_decimate_123 : decode cX12_decimate 123 = .ok (.iload_n 1, 1) := by decide +kernel
theorem dX12_decimate_124 : decode cX12_decimate 124 = .ok (.iload 9, 2) := by decide +kernel
theorem dX12_decimate_126 : decode cX12_decimate 126 = .ok (.invokevirtual 196, 3) := by decide +kernel
theorem dX12_decimate_129 : decode cX12_decimate 129 = .ok (.aload_n 0, 1) := by decide +kernel
theorem dX12_decimate_130 : decode cX12_decimate 130 = .ok (.iload_n 1, 1) := by decide +kernel
theorem dX12_decimate_131 : decode cX12_decimate 131 = .ok (.iload 4, 2) := by decide +kernel
theorem dX12_decimate_133 : decode cX12_decimate 133 = .ok (.iload 5, 2) := by decide +kernel
theorem dX12_decimate_135 : decode cX12_decimate 135 = .ok (.invokevirtual 199, 3) := by decide +kernel
theorem dX12_decimate_138 : decode cX12_decimate 138 = .ok (.istore 10, 2) := by decide +kernel
theorem dX12_decimate_140 : decode cX12_decimate 140 = .ok (.aload_n 0, 1) := by decide +kernel
theorem dX12_decimate_141 : decode cX12_decimate 141 = .ok (.iload_n 1, 1) := by decide +kernel
theorem dX12_decimate_142 : decode cX12_decimate 142 = .ok (.invokevirtual 202, 3) := by decide +kernel
theorem dX12_decimate_145 : decode cX12_decimate 145 = .ok (.iload 7, 2) := by decide +kernel
theorem dX12_decimate_147 : decode cX12_decimate 147 = .ok (.ifCond .lt 10, 3) := by decide +kernel
theorem dX12_decimate_150 : decode cX12_decimate 150 = .ok (.iload 10, 2) := by decide +kernel
theorem dX12_decimate_152 : decode cX12_decimate 152 = .ok (.iload 8, 2) := by decide +kernel
theorem dX12_decimate_154 : decode cX12_decimate 154 = .ok (.if_icmp .ge 11, 3) := by decide +kernel
theorem dX12_decimate_157 : decode cX12_decimate 157 = .ok (.iload 9, 2) := by decide +kernel
theorem dX12_decimate_159 : decode cX12_decimate 159 = .ok (.istore 7, 2) := by decide +kernel
theorem dX12_decimate_161 : decode cX12_decimate 161 = .ok (.iload 10, 2) := by decide +kernel
theorem dX12_decimate_163 : decode cX12_decimate 163 = .ok (.istore 8, 2) := by decide +kernel
theorem dX12_decimate_165 : decode cX12_decimate 165 = .ok (.iinc 9 1, 3) := by decide +kernel
theorem dX12_decimate_168 : decode cX12_decimate 168 = .ok (.goto (-58), 3) := by decide +kernel
theorem dX12_decimate_171 : decode cX12_decimate 171 = .ok (.iload 7, 2) := by decide +kernel
theorem dX12_decimate_173 : decode cX12_decimate 173 = .ok (.ifCond .le 13, 3) := by decide +kernel
theorem dX12_decimate_176 : decode cX12_decimate 176 = .ok (.iload 8, 2) := by decide +kernel
theorem dX12_decimate_178 : decode cX12_decimate 178 = .ok (.iload_n 2, 1) := by decide +kernel
theorem dX12_decimate_179 : decode cX12_decimate 179 = .ok (.if_icmp .gt 7, 3) := by decide +kernel
theorem dX12_decimate_182 : decode cX12_decimate 182 = .ok (.iconst 1, 1) := by decide +kernel
theorem dX12_decimate_183 : decode cX12_decimate 183 = .ok (.goto 4, 3) := by decide +kernel
theorem dX12_decimate_186 : decode cX12_decimate 186 = .ok (.iconst 0, 1) := by decide +kernel
theorem dX12_decimate_187 : decode cX12_decimate 187 = .ok (.istore 6, 2) := by decide +kernel
theorem dX12_decimate_189 : decode cX12_decimate 189 = .ok (.iload 6, 2) := by decide +kernel
theorem dX12_decimate_191 : decode cX12_decimate 191 = .ok (.ifCond .eq 10, 3) := by decide +kernel
theorem dX12_decimate_194 : decode cX12_decimate 194 = .ok (.aload_n 0, 1) := by decide +kernel
theorem dX12_decimate_195 : decode cX12_decimate 195 = .ok (.iload_n 1, 1) := by decide +kernel
theorem dX12_decimate_196 : decode cX12_decimate 196 = .ok (.iload 7, 2) := by decide +kernel
theorem dX12_decimate_198 : decode cX12_decimate 198 = .ok (.invokevirtual 153, 3) := by decide +kernel
theorem dX12_decimate_201 : decode cX12_decimate 201 = .ok (.goto (-105), 3) := by decide +kernel
theorem dX12_decimate_204 : decode cX12_decimate 204 = .ok (.iload_n 3, 1) := by decide +kernel
theorem dX12_decimate_205 : decode cX12_decimate 205 = .ok (.aload_n 0, 1) := by decide +kernel
theorem dX12_decimate_206 : decode cX12_decimate 206 = .ok (.iload_n 1, 1) := by decide +kernel
theorem dX12_decimate_207 : decode cX12_decimate 207 = .ok (.invokevirtual 78, 3) := by decide +kernel
theorem dX12_decimate_210 : decode cX12_decimate 210 = .ok (.isub, 1) := by decide +kernel
theorem dX12_decimate_211 : decode cX12_decimate 211 = .ok (.ireturn, 1) := by decide +kernel
theorem dX12_append_0 : decode cX12_append 0 = .ok (.iload_n 1, 1) := by decide +kernel
theorem dX12_append_1 : decode cX12_append 1 = .ok (.iconst 0, 1) := by decide +kernel
theorem dX12_append_2 : decode cX12_append 2 = .ok (.bipush 127, 2) := by decide +kernel
theorem dX12_append_4 : decode cX12_append 4 = .ok (.invokestatic 66, 3) := by decide +kernel
theorem dX12_append_7 : decode cX12_append 7 = .ok (.ifCond .ne 6, 3) := by decide +kernel
theorem dX12_append_10 : decode cX12_append 10 = .ok (.ldc 132, 2) := by decide +kernel
theorem dX12_append_12 : decode cX12_append 12 = .ok (.ireturn, 1) := by decide +kernel
theorem dX12_append_13 : decode cX12_append 13 = .ok (.aload_n 0, 1) := by decide +kernel
theorem dX12_append_14 : decode cX12_append 14 = .ok (.getfield 206, 3) := by decide +kernel
theorem dX12_append_17 : decode cX12_append 17 = .ok (.bipush 120, 2) := by decide +kernel
theorem dX12_append_19 : decode cX12_append 19 = .ok (.if_icmp .ne 6, 3) := by decide +kernel
theorem dX12_append_22 : decode cX12_append 22 = .ok (.ldc 145, 2) := by decide +kernel
theorem dX12_append_24 : decode cX12_append 24 = .ok (.ireturn, 1) := by decide +kernel
theorem dX12_append_25 : decode cX12_append 25 = .ok (.aload_n 0, 1) := by decide +kernel
theorem dX12_append_26 : decode cX12_append 26 = .ok (.getfield 16, 3) := by decide +kernel
theorem dX12_append_29 : decode cX12_append 29 = .ok (.aload_n 0, 1) := by decide +kernel
theorem dX12_append_30 : decode cX12_append 30 = .ok (.getfield 206, 3) := by decide +kernel
theorem dX12_append_33 : decode cX12_append 33 = .ok (.iload_n 1, 1) := by decide +kernel
theorem dX12_append_34 : decode cX12_append 34 = .ok (.iastore, 1) := by decide +kernel
theorem dX12_append_35 : decode cX12_append 35 = .ok (.aload_n 0, 1) := by decide +kernel
theorem dX12_append_36 : decode cX12_append 36 = .ok (.dup, 1) := by decide +kernel
theorem dX12_append_37 : decode cX12_append 37 = .ok (.getfield 206, 3) := by decide +kernel
theorem dX12_append_40 : decode cX12_append 40 = .ok (.iconst 1, 1) := by decide +kernel
theorem dX12_append_41 : decode cX12_append 41 = .ok (.iadd, 1) := by decide +kernel
theorem dX12_append_42 : decode cX12_append 42 = .ok (.putfield 206, 3) := by decide +kernel
theorem dX12_append_45 : decode cX12_append 45 = .ok (.aload_n 0, 1) := by decide +kernel
theorem dX12_append_46 : decode cX12_append 46 = .ok (.getfield 206, 3) := by decide +kernel
theorem dX12_append_49 : decode cX12_append 49 = .ok (.ireturn, 1) := by decide +kernel
theorem dX12_clearText_0 : decode cX12_clearText 0 = .ok (.aload_n 0, 1) := by decide +kernel
theorem dX12_clearText_1 : decode cX12_clearText 1 = .ok (.getfield 206, 3) := by decide +kernel
theorem dX12_clearText_4 : decode cX12_clearText 4 = .ok (.istore_n 1, 1) := by decide +kernel
theorem dX12_clearText_5 : decode cX12_clearText 5 = .ok (.aload_n 0, 1) := by decide +kernel
theorem dX12_clearText_6 : decode cX12_clearText 6 = .ok (.iconst 0, 1) := by decide +kernel
theorem dX12_clearText_7 : decode cX12_clearText 7 = .ok (.putfield 206, 3) := by decide +kernel
theorem dX12_clearText_10 : decode cX12_clearText 10 = .ok (.iload_n 1, 1) := by decide +kernel
theorem dX12_clearText_11 : decode cX12_clearText 11 = .ok (.ireturn, 1) := by decide +kernel
theorem dX12_here_0 : decode cX12_here 0 = .ok (.aload_n 0, 1) := by decide +kernel
theorem dX12_here_1 : decode cX12_here 1 = .ok (.getfield 209, 3) := by decide +kernel
theorem dX12_here_4 : decode cX12_here 4 = .ok (.ifCond .eq 36, 3) := by decide +kernel
theorem dX12_here_7 : decode cX12_here 7 = .ok (.aload_n 0, 1) := by decide +kernel
theorem dX12_here_8 : decode cX12_here 8 = .ok (.getfield 213, 3) := by decide +kernel
theorem dX12_here_11 : decode cX12_here 11 = .ok (.aload_n 0, 1) := by decide +kernel
theorem dX12_here_12 : decode cX12_here 12 = .ok (.getfield 7, 3) := by decide +kernel
theorem dX12_here_15 : decode cX12_here 15 = .ok (.sipush 530, 3) := by decide +kernel
theorem dX12_here_18 : decode cX12_here 18 = .ok (.iaload, 1) := by decide +kernel
theorem dX12_here_19 : decode cX12_here 19 = .ok (.if_icmp .ge 19, 3) := by decide +kernel
theorem dX12_here_22 : decode cX12_here 22 = .ok (.aload_n 0, 1) := by decide +kernel
theorem dX12_here_23 : decode cX12_here 23 = .ok (.getfield 7, 3) := by decide +kernel
theorem dX12_here_26 : decode cX12_here 26 = .ok (.sipush 531, 3) := by decide +kernel
theorem dX12_here_29 : decode cX12_here 29 = .ok (.aload_n 0, 1) := by decide +kernel
theorem dX12_here_30 : decode cX12_here 30 = .ok (.getfield 213, 3) := by decide +kernel
theorem dX12_here_33 : decode cX12_here 33 = .ok (.iadd, 1) := by decide +kernel
theorem dX12_here_34 : decode cX12_here 34 = .ok (.iaload, 1) := by decide +kernel
theorem dX12_here_35 : decode cX12_here 35 = .ok (.goto 4, 3) := by decide +kernel
theorem dX12_here_38 : decode cX12_here 38 = .ok (.iconst (-1), 1) := by decide +kernel
theorem dX12_here_39 : decode cX12_here 39 = .ok (.ireturn, 1) := by decide +kernel
theorem dX12_here_40 : decode cX12_here 40 = .ok (.aload_n 0, 1) := by decide +kernel
theorem dX12_here_41 : decode cX12_here 41 = .ok (.getfield 213, 3) := by decide +kernel
theorem dX12_here_44 : decode cX12_here 44 = .ok (.aload_n 0, 1) := by decide +kernel
theorem dX12_here_45 : decode cX12_here 45 = .ok (.getfield 206, 3) := by decide +kernel
theorem dX12_here_48 : decode cX12_here 48 = .ok (.if_icmp .ge 15, 3) := by decide +kernel
theorem dX12_here_51 : decode cX12_here 51 = .ok (.aload_n 0, 1) := by decide +kernel
theorem dX12_here_52 : decode cX12_here 52 = .ok (.getfield 16, 3) := by decide +kernel
theorem dX12_here_55 : decode cX12_here 55 = .ok (.aload_n 0, 1) := by decide +kernel
theorem dX12_here_56 : decode cX12_here 56 = .ok (.getfield 213, 3) := by decide +kernel
theorem dX12_here_59 : decode cX12_here 59 = .ok (.iaload, 1) := by decide +kernel
theorem dX12_here_60 : decode cX12_here 60 = .ok (.goto 4, 3) := by decide +kernel
theorem dX12_here_63 : decode cX12_here 63 = .ok (.iconst (-1), 1) := by decide +kernel
theorem dX12_here_64 : decode cX12_here 64 = .ok (.ireturn, 1) := by decide +kernel
theorem dX12_faults_0 : decode cX12_faults 0 = .ok (.aload_n 0, 1) := by decide +kernel
theorem dX12_faults_1 : decode cX12_faults 1 = .ok (.aload_n 0, 1) := by decide +kernel
theorem dX12_faults_2 : decode cX12_faults 2 = .ok (.getfield 216, 3) := by decide +kernel
theorem dX12_faults_5 : decode cX12_faults 5 = .ok (.ifCond .ge 7, 3) := by decide +kernel
theorem dX12_faults_8 : decode cX12_faults 8 = .ok (.iload_n 1, 1) := by decide +kernel
theorem dX12_faults_9 : decode cX12_faults 9 = .ok (.goto 7, 3) := by decide +kernel
theorem dX12_faults_12 : decode cX12_faults 12 = .ok (.aload_n 0, 1) := by decide +kernel
theorem dX12_faults_13 : decode cX12_faults 13 = .ok (.getfield 216, 3) := by decide +kernel
theorem dX12_faults_16 : decode cX12_faults 16 = .ok (.putfield 216, 3) := by decide +kernel
theorem dX12_faults_19 : decode cX12_faults 19 = .ok (.return_, 1) := by decide +kernel
theorem dX12_is_0 : decode cX12_is 0 = .ok (.aload_n 0, 1) := by decide +kernel
theorem dX12_is_1 : decode cX12_is 1 = .ok (.getfield 216, 3) := by decide +kernel
theorem dX12_is_4 : decode cX12_is 4 = .ok (.ifCond .ge 15, 3) := by decide +kernel
theorem dX12_is_7 : decode cX12_is 7 = .ok (.aload_n 0, 1) := by decide +kernel
theorem dX12_is_8 : decode cX12_is 8 = .ok (.invokevirtual 219, 3) := by decide +kernel
theorem dX12_is_11 : decode cX12_is 11 = .ok (.iload_n 1, 1) := by decide +kernel
theorem dX12_is_12 : decode cX12_is 12 = .ok (.if_icmp .ne 7, 3) := by decide +kernel
theorem dX12_is_15 : decode cX12_is 15 = .ok (.iconst 1, 1) := by decide +kernel
theorem dX12_is_16 : decode cX12_is 16 = .ok (.goto 4, 3) := by decide +kernel
theorem dX12_is_19 : decode cX12_is 19 = .ok (.iconst 0, 1) := by decide +kernel
theorem dX12_is_20 : decode cX12_is 20 = .ok (.ireturn, 1) := by decide +kernel
theorem dX12_must_0 : decode cX12_must 0 = .ok (.aload_n 0, 1) := by decide +kernel
theorem dX12_must_1 : decode cX12_must 1 = .ok (.iload_n 1, 1) := by decide +kernel
theorem dX12_must_2 : decode cX12_must 2 = .ok (.invokevirtual 223, 3) := by decide +kernel
theorem dX12_must_5 : decode cX12_must 5 = .ok (.ifCond .eq 16, 3) := by decide +kernel
theorem dX12_must_8 : decode cX12_must 8 = .ok (.aload_n 0, 1) := by decide +kernel
theorem dX12_must_9 : decode cX12_must 9 = .ok (.dup, 1) := by decide +kernel
theorem dX12_must_10 : decode cX12_must 10 = .ok (.getfield 213, 3) := by decide +kernel
theorem dX12_must_13 : decode cX12_must 13 = .ok (.iconst 1, 1) := by decide +kernel
theorem dX12_must_14 : decode cX12_must 14 = .ok (.iadd, 1) := by decide +kernel
theorem dX12_must_15 : decode cX12_must 15 = .ok (.putfield 213, 3) := by decide +kernel
theorem dX12_must_18 : decode cX12_must 18 = .ok (.goto 11, 3) := by decide +kernel
theorem dX12_must_21 : decode cX12_must 21 = .ok (.aload_n 0, 1) := by decide +kernel
theorem dX12_must_22 : decode cX12_must 22 = .ok (.aload_n 0, 1) := by decide +kernel
theorem dX12_must_23 : decode cX12_must 23 = .ok (.getfield 213, 3) := by decide +kernel
theorem dX12_must_26 : decode cX12_must 26 = .ok (.invokevirtual 226, 3) := by decide +kernel
theorem dX12_must_29 : decode cX12_must 29 = .ok (.return_, 1) := by decide +kernel
theorem dX12_number_0 : decode cX12_number 0 = .ok (.aload_n 0, 1) := by decide +kernel
theorem dX12_number_1 : decode cX12_number 1 = .ok (.getfield 213, 3) := by decide +kernel
theorem dX12_number_4 : decode cX12_number 4 = .ok (.istore_n 1, 1) := by decide +kernel
theorem dX12_number_5 : decode cX12_number 5 = .ok (.iconst 0, 1) := by decide +kernel
theorem dX12_number_6 : decode cX12_number 6 = .ok (.istore_n 2, 1) := by decide +kernel
theorem dX12_number_7 : decode cX12_number 7 = .ok (.aload_n 0, 1) := by decide +kernel
theorem dX12_number_8 : decode cX12_number 8 = .ok (.getfield 216, 3) := by decide +kernel
theorem dX12_number_11 : decode cX12_number 11 = .ok (.ifCond .ge 57, 3) := by decide +kernel
theorem dX12_number_14 : decode cX12_number 14 = .ok (.aload_n 0, 1) := by decide +kernel
theorem dX12_number_15 : decode cX12_number 15 = .ok (.invokevirtual 219, 3) := by decide +kernel
theorem dX12_number_18 : decode cX12_number 18 = .ok (.bipush 48, 2) := by decide +kernel
theorem dX12_number_20 : decode cX12_number 20 = .ok (.bipush 57, 2) := by decide +kernel
theorem dX12_number_22 : decode cX12_number 22 = .ok (.invokestatic 66, 3) := by decide +kernel
theorem dX12_number_25 : decode cX12_number 25 = .ok (.ifCond .eq 43, 3) := by decide +kernel
theorem dX12_number_28 : decode cX12_number 28 = .ok (.aload_n 0, 1) := by decide +kernel
theorem dX12_number_29 : decode cX12_number 29 = .ok (.getfield 213, 3) := by decide +kernel
theorem dX12_number_32 : decode cX12_number 32 = .ok (.iload_n 1, 1) := by decide +kernel
theorem dX12_number_33 : decode cX12_number 33 = .ok (.isub, 1) := by decide +kernel
theorem dX12_number_34 : decode cX12_number 34 = .ok (.iconst 4, 1) := by decide +kernel
theorem dX12_number_35 : decode cX12_number 35 = .ok (.if_icmp .ge 18, 3) := by decide +kernel
theorem dX12_number_38 : decode cX12_number 38 = .ok (.bipush 10, 2) := by decide +kernel
theorem dX12_number_40 : decode cX12_number 40 = .ok (.iload_n 2, 1) := by decide +kernel
theorem dX12_number_41 : decode cX12_number 41 = .ok (.imul, 1) := by decide +kernel
theorem dX12_number_42 : decode cX12_number 42 = .ok (.aload_n 0, 1) := by decide +kernel
theorem dX12_number_43 : decode cX12_number 43 = .ok (.invokevirtual 219, 3) := by decide +kernel
theorem dX12_number_46 : decode cX12_number 46 = .ok (.iadd, 1) := by decide +kernel
theorem dX12_number_47 : decode cX12_number 47 = .ok (.bipush 48, 2) := by decide +kernel
theorem dX12_number_49 : decode cX12_number 49 = .ok (.isub, 1) := by decide +kernel
theorem dX12_number_50 : decode cX12_number 50 = .ok (.goto 4, 3) := by decide +kernel
theorem dX12_number_53 : decode cX12_number 53 = .ok (.iload_n 2, 1) := by decide +kernel
theorem dX12_number_54 : decode cX12_number 54 = .ok (.istore_n 2, 1) := by decide +kernel
theorem dX12_number_55 : decode cX12_number 55 = .ok (.aload_n 0, 1) := by decide +kernel
theorem dX12_number_56 : decode cX12_number 56 = .ok (.dup, 1) := by decide +kernel
theorem dX12_number_57 : decode cX12_number 57 = .ok (.getfield 213, 3) := by decide +kernel
theorem dX12_number_60 : decode cX12_number 60 = .ok (.iconst 1, 1) := by decide +kernel
theorem dX12_number_61 : decode cX12_number 61 = .ok (.iadd, 1) := by decide +kernel
theorem dX12_number_62 : decode cX12_number 62 = .ok (.putfield 213, 3) := by decide +kernel
theorem dX12_number_65 : decode cX12_number 65 = .ok (.goto (-58), 3) := by decide +kernel
theorem dX12_number_68 : decode cX12_number 68 = .ok (.aload_n 0, 1) := by decide +kernel
theorem dX12_number_69 : decode cX12_number 69 = .ok (.getfield 213, 3) := by decide +kernel
theorem dX12_number_72 : decode cX12_number 72 = .ok (.iload_n 1, 1) := by decide +kernel
theorem dX12_number_73 : decode cX12_number 73 = .ok (.if_icmp .eq 13, 3) := by decide +kernel
theorem dX12_number_76 : decode cX12_number 76 = .ok (.aload_n 0, 1) := by decide +kernel
theorem dX12_number_77 : decode cX12_number 77 = .ok (.getfield 213, 3) := by decide +kernel
theorem dX12_number_80 : decode cX12_number 80 = .ok (.iload_n 1, 1) := by decide +kernel
theorem dX12_number_81 : decode cX12_number 81 = .ok (.isub, 1) := by decide +kernel
theorem dX12_number_82 : decode cX12_number 82 = .ok (.iconst 3, 1) := by decide +kernel
theorem dX12_number_83 : decode cX12_number 83 = .ok (.if_icmp .le 8, 3) := by decide +kernel
theorem dX12_number_86 : decode cX12_number 86 = .ok (.aload_n 0, 1) := by decide +kernel
theorem dX12_number_87 : decode cX12_number 87 = .ok (.iload_n 1, 1) := by decide +kernel
theorem dX12_number_88 : decode cX12_number 88 = .ok (.invokevirtual 226, 3) := by decide +kernel
theorem dX12_number_91 : decode cX12_number 91 = .ok (.iload_n 2, 1) := by decide +kernel
theorem dX12_number_92 : decode cX12_number 92 = .ok (.ireturn, 1) := by decide +kernel
theorem dX12_begins_0 : decode cX12_begins 0 = .ok (.aload_n 0, 1) := by decide +kernel
theorem dX12_begins_1 : decode cX12_begins 1 = .ok (.iload_n 1, 1) := by decide +kernel
theorem dX12_begins_2 : decode cX12_begins 2 = .ok (.putfield 209, 3) := by decide +kernel
theorem dX12_begins_5 : decode cX12_begins 5 = .ok (.aload_n 0, 1) := by decide +kernel
theorem dX12_begins_6 : decode cX12_begins 6 = .ok (.iconst 0, 1) := by decide +kernel
theorem dX12_begins_7 : decode cX12_begins 7 = .ok (.putfield 213, 3) := by decide +kernel
theorem dX12_begins_10 : decode cX12_begins 10 = .ok (.aload_n 0, 1) := by decide +kernel
theorem dX12_begins_11 : decode cX12_begins 11 = .ok (.iconst (-1), 1) := by decide +kernel
theorem dX12_begins_12 : decode cX12_begins 12 = .ok (.putfield 216, 3) := by decide +kernel
theorem dX12_begins_15 : decode cX12_begins 15 = .ok (.aload_n 0, 1) := by decide +kernel
theorem dX12_begins_16 : decode cX12_begins 16 = .ok (.iconst 0, 1) := by decide +kernel
theorem dX12_begins_17 : decode cX12_begins 17 = .ok (.putfield 229, 3) := by decide +kernel
theorem dX12_begins_20 : decode cX12_begins 20 = .ok (.aload_n 0, 1) := by decide +kernel
theorem dX12_begins_21 : decode cX12_begins 21 = .ok (.iconst 0, 1) := by decide +kernel
theorem dX12_begins_22 : decode cX12_begins 22 = .ok (.putfield 232, 3) := by decide +kernel
theorem dX12_begins_25 : decode cX12_begins 25 = .ok (.aload_n 0, 1) := by decide +kernel
theorem dX12_begins_26 : decode cX12_begins 26 = .ok (.iload_n 2, 1) := by decide +kernel
theorem dX12_begins_27 : decode cX12_begins 27 = .ok (.putfield 235, 3) := by decide +kernel
theorem dX12_begins_30 : decode cX12_begins 30 = .ok (.return_, 1) := by decide +kernel
theorem dX12_opens_0 : decode cX12_opens 0 = .ok (.iload_n 1, 1) := by decide +kernel
theorem dX12_opens_1 : decode cX12_opens 1 = .ok (.ifCond .le 21, 3) := by decide +kernel
theorem dX12_opens_4 : decode cX12_opens 4 = .ok (.aload_n 0, 1) := by decide +kernel
theorem dX12_opens_5 : decode cX12_opens 5 = .ok (.getfield 229, 3) := by decide +kernel
theorem dX12_opens_8 : decode cX12_opens 8 = .ok (.bipush 8, 2) := by decide +kernel
theorem dX12_opens_10 : decode cX12_opens 10 = .ok (.if_icmp .ne 12, 3) := by decide +kernel
theorem dX12_opens_13 : decode cX12_opens 13 = .ok (.aload_n 0, 1) := by decide +kernel
theorem dX12_opens_14 : decode cX12_opens 14 = .ok (.aload_n 0, 1) := by decide +kernel
theorem dX12_opens_15 : decode cX12_opens 15 = .ok (.getfield 213, 3) := by decide +kernel
theorem dX12_opens_18 : decode cX12_opens 18 = .ok (.invokevirtual 226, 3) := by decide +kernel
theorem dX12_opens_21 : decode cX12_opens 21 = .ok (.return_, 1) := by decide +kernel
theorem dX12_opens_22 : decode cX12_opens 22 = .ok (.aload_n 0, 1) := by decide +kernel
theorem dX12_opens_23 : decode cX12_opens 23 = .ok (.dup, 1) := by decide +kernel
theorem dX12_opens_24 : decode cX12_opens 24 = .ok (.getfield 229, 3) := by decide +kernel
theorem dX12_opens_27 : decode cX12_opens 27 = .ok (.iload_n 1, 1) := by decide +kernel
theorem dX12_opens_28 : decode cX12_opens 28 = .ok (.ifCond .le 7, 3) := by decide +kernel
theorem dX12_opens_31 : decode cX12_opens 31 = .ok (.iconst 1, 1) := by decide +kernel
theorem dX12_opens_32 : decode cX12_opens 32 = .ok (.goto 4, 3) := by decide +kernel
theorem dX12_opens_35 : decode cX12_opens 35 = .ok (.iconst 0, 1) := by decide +kernel
theorem dX12_opens_36 : decode cX12_opens 36 = .ok (.iadd, 1) := by decide +kernel
theorem dX12_opens_37 : decode cX12_opens 37 = .ok (.putfield 229, 3) := by decide +kernel
theorem dX12_opens_40 : decode cX12_opens 40 = .ok (.aload_n 0, 1) := by decide +kernel
theorem dX12_opens_41 : decode cX12_opens 41 = .ok (.dup, 1) := by decide +kernel
theorem dX12_opens_42 : decode cX12_opens 42 = .ok (.getfield 238, 3) := by decide +kernel
theorem dX12_opens_45 : decode cX12_opens 45 = .ok (.iconst 1, 1) := by decide +kernel
theorem dX12_opens_46 : decode cX12_opens 46 = .ok (.iadd, 1) := by decide +kernel
theorem dX12_opens_47 : decode cX12_opens 47 = .ok (.putfield 238, 3) := by decide +kernel
theorem dX12_opens_50 : decode cX12_opens 50 = .ok (.aload_n 0, 1) := by decide +kernel
theorem dX12_opens_51 : decode cX12_opens 51 = .ok (.getfield 38, 3) := by decide +kernel
theorem dX12_opens_54 : decode cX12_opens 54 = .ok (.aload_n 0, 1) := by decide +kernel
theorem dX12_opens_55 : decode cX12_opens 55 = .ok (.getfield 238, 3) := by decide +kernel
theorem dX12_opens_58 : decode cX12_opens 58 = .ok (.iload_n 1, 1) := by decide +kernel
theorem dX12_opens_59 : decode cX12_opens 59 = .ok (.iastore, 1) := by decide +kernel
theorem dX12_opens_60 : decode cX12_opens 60 = .ok (.aload_n 0, 1) := by decide +kernel
theorem dX12_opens_61 : decode cX12_opens 61 = .ok (.getfield 41, 3) := by decide +kernel
theorem dX12_opens_64 : decode cX12_opens 64 = .ok (.aload_n 0, 1) := by decide +kernel
theorem dX12_opens_65 : decode cX12_opens 65 = .ok (.getfield 238, 3) := by decide +kernel
theorem dX12_opens_68 : decode cX12_opens 68 = .ok (.iconst 0, 1) := by decide +kernel
theorem dX12_opens_69 : decode cX12_opens 69 = .ok (.iastore, 1) := by decide +kernel
theorem dX12_opens_70 : decode cX12_opens 70 = .ok (.aload_n 0, 1) := by decide +kernel
theorem dX12_opens_71 : decode cX12_opens 71 = .ok (.getfield 50, 3) := by decide +kernel
theorem dX12_opens_74 : decode cX12_opens 74 = .ok (.aload_n 0, 1) := by decide +kernel
theorem dX12_opens_75 : decode cX12_opens 75 = .ok (.getfield 238, 3) := by decide +kernel
theorem dX12_opens_78 : decode cX12_opens 78 = .ok (.iconst 0, 1) := by decide +kernel
theorem dX12_opens_79 : decode cX12_opens 79 = .ok (.bastore, 1) := by decide +kernel
theorem dX12_opens_80 : decode cX12_opens 80 = .ok (.return_, 1) := by decide +kernel
theorem dX12_closes_0 : decode cX12_closes 0 = .ok (.aload_n 0, 1) := by decide +kernel
theorem dX12_closes_1 : decode cX12_closes 1 = .ok (.dup, 1) := by decide +kernel
theorem dX12_closes_2 : decode cX12_closes 2 = .ok (.getfield 238, 3) := by decide +kernel
theorem dX12_closes_5 : decode cX12_closes 5 = .ok (.iconst 1, 1) := by decide +kernel
theorem dX12_closes_6 : decode cX12_closes 6 = .ok (.isub, 1) := by decide +kernel
theorem dX12_closes_7 : decode cX12_closes 7 = .ok (.putfield 238, 3) := by decide +kernel
theorem dX12_closes_10 : decode cX12_closes 10 = .ok (.aload_n 0, 1) := by decide +kernel
theorem dX12_closes_11 : decode cX12_closes 11 = .ok (.dup, 1) := by decide +kernel
theorem dX12_closes_12 : decode cX12_closes 12 = .ok (.getfield 229, 3) := by decide +kernel
theorem dX12_closes_15 : decode cX12_closes 15 = .ok (.iconst 1, 1) := by decide +kernel
theorem dX12_closes_16 : decode cX12_closes 16 = .ok (.isub, 1) := by decide +kernel
theorem dX12_closes_17 : decode cX12_closes 17 = .ok (.putfield 229, 3) := by decide +kernel
theorem dX12_closes_20 : decode cX12_closes 20 = .ok (.return_, 1) := by decide +kernel
theorem dX12_isOver_0 : decode cX12_isOver 0 = .ok (.aload_n 0, 1) := by decide +kernel
theorem dX12_isOver_1 : decode cX12_isOver 1 = .ok (.getfield 38, 3) := by decide +kernel
theorem dX12_isOver_4 : decode cX12_isOver 4 = .ok (.aload_n 0, 1) := by decide +kernel
theorem dX12_isOver_5 : decode cX12_isOver 5 = .ok (.getfield 238, 3) := by decide +kernel
theorem dX12_isOver_8 : decode cX12_isOver 8 = .ok (.iaload, 1) := by decide +kernel
theorem dX12_isOver_9 : decode cX12_isOver 9 = .ok (.istore_n 1, 1) := by decide +kernel
theorem dX12_isOver_10 : decode cX12_isOver 10 = .ok (.aload_n 0, 1) := by decide +kernel
theorem dX12_isOver_11 : decode cX12_isOver 11 = .ok (.getfield 44, 3) := by decide +kernel
theorem dX12_isOver_14 : decode cX12_isOver 14 = .ok (.aload_n 0, 1) := by decide +kernel
theorem dX12_isOver_15 : decode cX12_isOver 15 = .ok (.getfield 238, 3) := by decide +kernel
theorem dX12_isOver_18 : decode cX12_isOver 18 = .ok (.iaload, 1) := by decide +kernel
theorem dX12_isOver_19 : decode cX12_isOver 19 = .ok (.istore_n 2, 1) := by decide +kernel
theorem dX12_isOver_20 : decode cX12_isOver 20 = .ok (.iload_n 1, 1) := by decide +kernel
theorem dX12_isOver_21 : decode cX12_isOver 21 = .ok (.iconst 3, 1) := by decide +kernel
theorem dX12_isOver_22 : decode cX12_isOver 22 = .ok (.if_icmp .eq 8, 3) := by decide +kernel
theorem dX12_isOver_25 : decode cX12_isOver 25 = .ok (.iload_n 1, 1) := by decide +kernel
theorem dX12_isOver_26 : decode cX12_isOver 26 = .ok (.iconst 5, 1) := by decide +kernel
theorem dX12_isOver_27 : decode cX12_isOver 27 = .ok (.if_icmp .ne 54, 3) := by decide +kernel
theorem dX12_isOver_30 : decode cX12_isOver 30 = .ok (.aload_n 0, 1) := by decide +kernel
theorem dX12_isOver_31 : decode cX12_isOver 31 = .ok (.bipush 44, 2) := by decide +kernel
theorem dX12_isOver_33 : decode cX12_isOver 33 = .ok (.invokevirtual 241, 3) := by decide +kernel
theorem dX12_isOver_36 : decode cX12_isOver 36 = .ok (.aload_n 0, 1) := by decide +kernel
theorem dX12_isOver_37 : decode cX12_isOver 37 = .ok (.getfield 54, 3) := by decide +kernel
theorem dX12_isOver_40 : decode cX12_isOver 40 = .ok (.aload_n 0, 1) := by decide +kernel
theorem dX12_isOver_41 : decode cX12_isOver 41 = .ok (.getfield 238, 3) := by decide +kernel
theorem dX12_isOver_44 : decode cX12_isOver 44 = .ok (.iload_n 2, 1) := by decide +kernel
theorem dX12_isOver_45 : decode cX12_isOver 45 = .ok (.iastore, 1) := by decide +kernel
theorem dX12_isOver_46 : decode cX12_isOver 46 = .ok (.aload_n 0, 1) := by decide +kernel
theorem dX12_isOver_47 : decode cX12_isOver 47 = .ok (.getfield 38, 3) := by decide +kernel
theorem dX12_isOver_50 : decode cX12_isOver 50 = .ok (.aload_n 0, 1) := by decide +kernel
theorem dX12_isOver_51 : decode cX12_isOver 51 = .ok (.getfield 238, 3) := by decide +kernel
theorem dX12_isOver_54 : decode cX12_isOver 54 = .ok (.dup2, 1) := by decide +kernel
theorem dX12_isOver_55 : decode cX12_isOver 55 = .ok (.iaload, 1) := by decide +kernel
theorem dX12_isOver_56 : decode cX12_isOver 56 = .ok (.iconst 1, 1) := by decide +kernel
theorem dX12_isOver_57 : decode cX12_isOver 57 = .ok (.iadd, 1) := by decide +kernel
theorem dX12_isOver_58 : decode cX12_isOver 58 = .ok (.iastore, 1) := by decide +kernel
theorem dX12_isOver_59 : decode cX12_isOver 59 = .ok (.aload_n 0, 1) := by decide +kernel
theorem dX12_isOver_60 : decode cX12_isOver 60 = .ok (.getfield 41, 3) := by decide +kernel
theorem dX12_isOver_63 : decode cX12_isOver 63 = .ok (.aload_n 0, 1) := by decide +kernel
theorem dX12_isOver_64 : decode cX12_isOver 64 = .ok (.getfield 238, 3) := by decide +kernel
theorem dX12_isOver_67 : decode cX12_isOver 67 = .ok (.iconst 0, 1) := by decide +kernel
theorem dX12_isOver_68 : decode cX12_isOver 68 = .ok (.iastore, 1) := by decide +kernel
theorem dX12_isOver_69 : decode cX12_isOver 69 = .ok (.aload_n 0, 1) := by decide +kernel
theorem dX12_isOver_70 : decode cX12_isOver 70 = .ok (.getfield 50, 3) := by decide +kernel
theorem dX12_isOver_73 : decode cX12_isOver 73 = .ok (.aload_n 0, 1) := by decide +kernel
theorem dX12_isOver_74 : decode cX12_isOver 74 = .ok (.getfield 238, 3) := by decide +kernel
theorem dX12_isOver_77 : decode cX12_isOver 77 = .ok (.iconst 0, 1) := by decide +kernel
theorem dX12_isOver_78 : decode cX12_isOver 78 = .ok (.bastore, 1) := by decide +kernel
theorem dX12_isOver_79 : decode cX12_isOver 79 = .ok (.iconst 0, 1) := by decide +kernel
theorem dX12_isOver_80 : decode cX12_isOver 80 = .ok (.ireturn, 1) := by decide +kernel
theorem dX12_isOver_81 : decode cX12_isOver 81 = .ok (.iload_n 1, 1) := by decide +kernel
theorem dX12_isOver_82 : decode cX12_isOver 82 = .ok (.iconst 4, 1) := by decide +kernel
theorem dX12_isOver_83 : decode cX12_isOver 83 = .ok (.if_icmp .ne 20, 3) := by decide +kernel
theorem dX12_isOver_86 : decode cX12_isOver 86 = .ok (.aload_n 0, 1) := by decide +kernel
theorem dX12_isOver_87 : decode cX12_isOver 87 = .ok (.getfield 54, 3) := by decide +kernel
theorem dX12_isOver_90 : decode cX12_isOver 90 = .ok (.aload_n 0, 1) := by decide +kernel
theorem dX12_isOver_91 : decode cX12_isOver 91 = .ok (.getfield 238, 3) := by decide +kernel
theorem dX12_isOver_94 : decode cX12_isOver 94 = .ok (.iaload, 1) := by decide +kernel
theorem dX12_isOver_95 : decode cX12_isOver 95 = .ok (.iload_n 2, 1) := by decide +kernel
theorem dX12_isOver_96 : decode cX12_isOver 96 = .ok (.invokestatic 105, 3) := by decide +kernel
theorem dX12_isOver_99 : decode cX12_isOver 99 = .ok (.istore_n 2, 1) := by decide +kernel
theorem dX12_isOver_100 : decode cX12_isOver 100 = .ok (.goto 23, 3) := by decide +kernel
theorem dX12_isOver_103 : decode cX12_isOver 103 = .ok (.iload_n 1, 1) := by decide +kernel
theorem dX12_isOver_104 : decode cX12_isOver 104 = .ok (.bipush 6, 2) := by decide +kernel
theorem dX12_isOver_106 : decode cX12_isOver 106 = .ok (.if_icmp .ne 17, 3) := by decide +kernel
theorem dX12_isOver_109 : decode cX12_isOver 109 = .ok (.aload_n 0, 1) := by decide +kernel
theorem dX12_isOver_110 : decode cX12_isOver 110 = .ok (.getfield 54, 3) := by decide +kernel
theorem dX12_isOver_113 : decode cX12_isOver 113 = .ok (.aload_n 0, 1) := by decide +kernel
theorem dX12_isOver_114 : decode cX12_isOver 114 = .ok (.getfield 238, 3) := by decide +kernel
theorem dX12_isOver_117 : decode cX12_isOver 117 = .ok (.iaload, 1) := by decide +kernel
theorem dX12_isOver_118 : decode cX12_isOver 118 = .ok (.iload_n 2, 1) := by decide +kernel
theorem dX12_isOver_119 : decode cX12_isOver 119 = .ok (.invokestatic 112, 3) := by decide +kernel
theorem dX12_isOver_122 : decode cX12_isOver 122 = .ok (.istore_n 2, 1) := by decide +kernel
theorem dX12_isOver_123 : decode cX12_isOver 123 = .ok (.iload_n 1, 1) := by decide +kernel
theorem dX12_isOver_124 : decode cX12_isOver 124 = .ok (.ifCond .le 13, 3) := by decide +kernel
theorem dX12_isOver_127 : decode cX12_isOver 127 = .ok (.aload_n 0, 1) := by decide +kernel
theorem dX12_isOver_128 : decode cX12_isOver 128 = .ok (.bipush 41, 2) := by decide +kernel
theorem dX12_isOver_130 : decode cX12_isOver 130 = .ok (.invokevirtual 241, 3) := by decide +kernel
theorem dX12_isOver_133 : decode cX12_isOver 133 = .ok (.aload_n 0, 1) := by decide +kernel
theorem dX12_isOver_134 : decode cX12_isOver 134 = .ok (.invokevirtual 244, 3) := by decide +kernel
theorem dX12_isOver_137 : decode cX12_isOver 137 = .ok (.aload_n 0, 1) := by decide +kernel
theorem dX12_isOver_138 : decode cX12_isOver 138 = .ok (.iload_n 2, 1) := by decide +kernel
theorem dX12_isOver_139 : decode cX12_isOver 139 = .ok (.putfield 247, 3) := by decide +kernel
theorem dX12_isOver_142 : decode cX12_isOver 142 = .ok (.iconst 1, 1) := by decide +kernel
theorem dX12_isOver_143 : decode cX12_isOver 143 = .ok (.ireturn, 1) := by decide +kernel
theorem dX12_goesOn_0 : decode cX12_goesOn 0 = .ok (.aload_n 0, 1) := by decide +kernel
theorem dX12_goesOn_1 : decode cX12_goesOn 1 = .ok (.getfield 38, 3) := by decide +kernel
theorem dX12_goesOn_4 : decode cX12_goesOn 4 = .ok (.aload_n 0, 1) := by decide +kernel
theorem dX12_goesOn_5 : decode cX12_goesOn 5 = .ok (.getfield 238, 3) := by decide +kernel
theorem dX12_goesOn_8 : decode cX12_goesOn 8 = .ok (.iaload, 1) := by decide +kernel
theorem dX12_goesOn_9 : decode cX12_goesOn 9 = .ok (.iconst 2, 1) := by decide +kernel
theorem dX12_goesOn_10 : decode cX12_goesOn 10 = .ok (.if_icmp .ne 25, 3) := by decide +kernel
theorem dX12_goesOn_13 : decode cX12_goesOn 13 = .ok (.aload_n 0, 1) := by decide +kernel
theorem dX12_goesOn_14 : decode cX12_goesOn 14 = .ok (.aload_n 0, 1) := by decide +kernel
theorem dX12_goesOn_15 : decode cX12_goesOn 15 = .ok (.getfield 247, 3) := by decide +kernel
theorem dX12_goesOn_18 : decode cX12_goesOn 18 = .ok (.i2l, 1) := by decide +kernel
theorem dX12_goesOn_19 : decode cX12_goesOn 19 = .ok (.lneg, 1) := by decide +kernel
theorem dX12_goesOn_20 : decode cX12_goesOn 20 = .ok (.ldc 250, 2) := by decide +kernel
theorem dX12_goesOn_22 : decode cX12_goesOn 22 = .ok (.invokestatic 108, 3) := by decide +kernel
theorem dX12_goesOn_25 : decode cX12_goesOn 25 = .ok (.putfield 247, 3) := by decide +kernel
theorem dX12_goesOn_28 : decode cX12_goesOn 28 = .ok (.aload_n 0, 1) := by decide +kernel
theorem dX12_goesOn_29 : decode cX12_goesOn 29 = .ok (.invokevirtual 244, 3) := by decide +kernel
theorem dX12_goesOn_32 : decode cX12_goesOn 32 = .ok (.goto (-32), 3) := by decide +kernel
theorem dX12_goesOn_35 : decode cX12_goesOn 35 = .ok (.aload_n 0, 1) := by decide +kernel
theorem dX12_goesOn_36 : decode cX12_goesOn 36 = .ok (.getfield 50, 3) := by decide +kernel
theorem dX12_goesOn_39 : decode cX12_goesOn 39 = .ok (.aload_n 0, 1) := by decide +kernel
theorem dX12_goesOn_40 : decode cX12_goesOn 40 = .ok (.getfield 238, 3) := by decide +kernel
theorem dX12_goesOn_43 : decode cX12_goesOn 43 = .ok (.baload, 1) := by decide +kernel
theorem dX12_goesOn_44 : decode cX12_goesOn 44 = .ok (.ifCond .eq 33, 3) := by decide +kernel
theorem dX12_goesOn_47 : decode cX12_goesOn 47 = .ok (.aload_n 0, 1) := by decide +kernel
theorem dX12_goesOn_48 : decode cX12_goesOn 48 = .ok (.getfield 47, 3) := by decide +kernel
theorem dX12_goesOn_51 : decode cX12_goesOn 51 = .ok (.aload_n 0, 1) := by decide +kernel
theorem dX12_goesOn_52 : decode cX12_goesOn 52 = .ok (.getfield 238, 3) := by decide +kernel
theorem dX12_goesOn_55 : decode cX12_goesOn 55 = .ok (.iaload, 1) := by decide +kernel
theorem dX12_goesOn_56 : decode cX12_goesOn 56 = .ok (.i2l, 1) := by decide +kernel
theorem dX12_goesOn_57 : decode cX12_goesOn 57 = .ok (.aload_n 0, 1) := by decide +kernel
theorem dX12_goesOn_58 : decode cX12_goesOn 58 = .ok (.getfield 247, 3) := by decide +kernel
theorem dX12_goesOn_61 : decode cX12_goesOn 61 = .ok (.i2l, 1) := by decide +kernel
theorem dX12_goesOn_62 : decode cX12_goesOn 62 = .ok (.lmul, 1) := by decide +kernel
theorem dX12_goesOn_63 : decode cX12_goesOn 63 = .ok (.ldc2_w 91, 3) := by decide +kernel
theorem dX12_goesOn_66 : decode cX12_goesOn 66 = .ok (.invokestatic 93, 3) := by decide +kernel
theorem dX12_goesOn_69 : decode cX12_goesOn 69 = .ok (.ldc 250, 2) := by decide +kernel
theorem dX12_goesOn_71 : decode cX12_goesOn 71 = .ok (.invokestatic 108, 3) := by decide +kernel
theorem dX12_goesOn_74 : decode cX12_goesOn 74 = .ok (.goto 7, 3) := by decide +kernel
theorem dX12_goesOn_77 : decode cX12_goesOn 77 = .ok (.aload_n 0, 1) := by decide +kernel
theorem dX12_goesOn_78 : decode cX12_goesOn 78 = .ok (.getfield 247, 3) := by decide +kernel
theorem dX12_goesOn_81 : decode cX12_goesOn 81 = .ok (.istore_n 1, 1) := by decide +kernel
theorem dX12_goesOn_82 : decode cX12_goesOn 82 = .ok (.aload_n 0, 1) := by decide +kernel
theorem dX12_goesOn_83 : decode cX12_goesOn 83 = .ok (.getfield 47, 3) := by decide +kernel
theorem dX12_goesOn_86 : decode cX12_goesOn 86 = .ok (.aload_n 0, 1) := by decide +kernel
theorem dX12_goesOn_87 : decode cX12_goesOn 87 = .ok (.getfield 238, 3) := by decide +kernel
theorem dX12_goesOn_90 : decode cX12_goesOn 90 = .ok (.iload_n 1, 1) := by decide +kernel
theorem dX12_goesOn_91 : decode cX12_goesOn 91 = .ok (.iastore, 1) := by decide +kernel
theorem dX12_goesOn_92 : decode cX12_goesOn 92 = .ok (.aload_n 0, 1) := by decide +kernel
theorem dX12_goesOn_93 : decode cX12_goesOn 93 = .ok (.getfield 50, 3) := by decide +kernel
theorem dX12_goesOn_96 : decode cX12_goesOn 96 = .ok (.aload_n 0, 1) := by decide +kernel
theorem dX12_goesOn_97 : decode cX12_goesOn 97 = .ok (.getfield 238, 3) := by decide +kernel
theorem dX12_goesOn_100 : decode cX12_goesOn 100 = .ok (.aload_n 0, 1) := by decide +kernel
theorem dX12_goesOn_101 : decode cX12_goesOn 101 = .ok (.bipush 42, 2) := by decide +kernel
theorem dX12_goesOn_103 : decode cX12_goesOn 103 = .ok (.invokevirtual 223, 3) := by decide +kernel
theorem dX12_goesOn_106 : decode cX12_goesOn 106 = .ok (.bastore, 1) := by decide +kernel
theorem dX12_goesOn_107 : decode cX12_goesOn 107 = .ok (.aload_n 0, 1) := by decide +kernel
theorem dX12_goesOn_108 : decode cX12_goesOn 108 = .ok (.getfield 50, 3) := by decide +kernel
theorem dX12_goesOn_111 : decode cX12_goesOn 111 = .ok (.aload_n 0, 1) := by decide +kernel
theorem dX12_goesOn_112 : decode cX12_goesOn 112 = .ok (.getfield 238, 3) := by decide +kernel
theorem dX12_goesOn_115 : decode cX12_goesOn 115 = .ok (.baload, 1) := by decide +kernel
theorem dX12_goesOn_116 : decode cX12_goesOn 116 = .ok (.ifCond .eq 15, 3) := by decide +kernel
theorem dX12_goesOn_119 : decode cX12_goesOn 119 = .ok (.aload_n 0, 1) := by decide +kernel
theorem dX12_goesOn_120 : decode cX12_goesOn 120 = .ok (.dup, 1) := by decide +kernel
theorem dX12_goesOn_121 : decode cX12_goesOn 121 = .ok (.getfield 213, 3) := by decide +kernel
theorem dX12_goesOn_124 : decode cX12_goesOn 124 = .ok (.iconst 1, 1) := by decide +kernel
theorem dX12_goesOn_125 : decode cX12_goesOn 125 = .ok (.iadd, 1) := by decide +kernel
theorem dX12_goesOn_126 : decode cX12_goesOn 126 = .ok (.putfield 213, 3) := by decide +kernel
theorem dX12_goesOn_129 : decode cX12_goesOn 129 = .ok (.iconst 1, 1) := by decide +kernel
theorem dX12_goesOn_130 : decode cX12_goesOn 130 = .ok (.ireturn, 1) := by decide +kernel
theorem dX12_goesOn_131 : decode cX12_goesOn 131 = .ok (.aload_n 0, 1) := by decide +kernel
theorem dX12_goesOn_132 : decode cX12_goesOn 132 = .ok (.getfield 41, 3) := by decide +kernel
theorem dX12_goesOn_135 : decode cX12_goesOn 135 = .ok (.aload_n 0, 1) := by decide +kernel
theorem dX12_goesOn_136 : decode cX12_goesOn 136 = .ok (.getfield 238, 3) := by decide +kernel
theorem dX12_goesOn_139 : decode cX12_goesOn 139 = .ok (.iaload, 1) := by decide +kernel
theorem dX12_goesOn_140 : decode cX12_goesOn 140 = .ok (.iconst 2, 1) := by decide +kernel
theorem dX12_goesOn_141 : decode cX12_goesOn 141 = .ok (.if_icmp .ne 9, 3) := by decide +kernel
theorem dX12_goesOn_144 : decode cX12_goesOn 144 = .ok (.iload_n 1, 1) := by decide +kernel
theorem dX12_goesOn_145 : decode cX12_goesOn 145 = .ok (.i2l, 1) := by decide +kernel
theorem dX12_goesOn_146 : decode cX12_goesOn 146 = .ok (.lneg, 1) := by decide +kernel
theorem dX12_goesOn_147 : decode cX12_goesOn 147 = .ok (.goto 5, 3) := by decide +kernel
theorem dX12_goesOn_150 : decode cX12_goesOn 150 = .ok (.iload_n 1, 1) := by decide +kernel
theorem dX12_goesOn_151 : decode cX12_goesOn 151 = .ok (.i2l, 1) := by decide +kernel
theorem dX12_goesOn_152 : decode cX12_goesOn 152 = .ok (.lstore_n 2, 1) := by decide +kernel
theorem dX12_goesOn_153 : decode cX12_goesOn 153 = .ok (.aload_n 0, 1) := by decide +kernel
theorem dX12_goesOn_154 : decode cX12_goesOn 154 = .ok (.getfield 44, 3) := by decide +kernel
theorem dX12_goesOn_157 : decode cX12_goesOn 157 = .ok (.aload_n 0, 1) := by decide +kernel
theorem dX12_goesOn_158 : decode cX12_goesOn 158 = .ok (.getfield 238, 3) := by decide +kernel
theorem dX12_goesOn_161 : decode cX12_goesOn 161 = .ok (.aload_n 0, 1) := by decide +kernel
theorem dX12_goesOn_162 : decode cX12_goesOn 162 = .ok (.getfield 41, 3) := by decide +kernel
theorem dX12_goesOn_165 : decode cX12_goesOn 165 = .ok (.aload_n 0, 1) := by decide +kernel
theorem dX12_goesOn_166 : decode cX12_goesOn 166 = .ok (.getfield 238, 3) := by decide +kernel
theorem dX12_goesOn_169 : decode cX12_goesOn 169 = .ok (.iaload, 1) := by decide +kernel
theorem dX12_goesOn_170 : decode cX12_goesOn 170 = .ok (.ifCond .ne 7, 3) := by decide +kernel
theorem dX12_goesOn_173 : decode cX12_goesOn 173 = .ok (.iload_n 1, 1) := by decide +kernel
theorem dX12_goesOn_174 : decode cX12_goesOn 174 = .ok (.goto 20, 3) := by decide +kernel
theorem dX12_goesOn_177 : decode cX12_goesOn 177 = .ok (.aload_n 0, 1) := by decide +kernel
theorem dX12_goesOn_178 : decode cX12_goesOn 178 = .ok (.getfield 44, 3) := by decide +kernel
theorem dX12_goesOn_181 : decode cX12_goesOn 181 = .ok (.aload_n 0, 1) := by decide +kernel
theorem dX12_goesOn_182 : decode cX12_goesOn 182 = .ok (.getfield 238, 3) := by decide +kernel
theorem dX12_goesOn_185 : decode cX12_goesOn 185 = .ok (.iaload, 1) := by decide +kernel
theorem dX12_goesOn_186 : decode cX12_goesOn 186 = .ok (.i2l, 1) := by decide +kernel
theorem dX12_goesOn_187 : decode cX12_goesOn 187 = .ok (.lload_n 2, 1) := by decide +kernel
theorem dX12_goesOn_188 : decode cX12_goesOn 188 = .ok (.ladd, 1) := by decide +kernel
theorem dX12_goesOn_189 : decode cX12_goesOn 189 = .ok (.ldc 250, 2) := by decide +kernel
theorem dX12_goesOn_191 : decode cX12_goesOn 191 = .ok (.invokestatic 108, 3) := by decide +kernel
theorem dX12_goesOn_194 : decode cX12_goesOn 194 = .ok (.iastore, 1) := by decide +kernel
theorem dX12_goesOn_195 : decode cX12_goesOn 195 = .ok (.aload_n 0, 1) := by decide +kernel
theorem dX12_goesOn_196 : decode cX12_goesOn 196 = .ok (.getfield 41, 3) := by decide +kernel
theorem dX12_goesOn_199 : decode cX12_goesOn 199 = .ok (.aload_n 0, 1) := by decide +kernel
theorem dX12_goesOn_200 : decode cX12_goesOn 200 = .ok (.getfield 238, 3) := by decide +kernel
theorem dX12_goesOn_203 : decode cX12_goesOn 203 = .ok (.aload_n 0, 1) := by decide +kernel
theorem dX12_goesOn_204 : decode cX12_goesOn 204 = .ok (.bipush 43, 2) := by decide +kernel
theorem dX12_goesOn_206 : decode cX12_goesOn 206 = .ok (.invokevirtual 223, 3) := by decide +kernel
theorem dX12_goesOn_209 : decode cX12_goesOn 209 = .ok (.ifCond .eq 7, 3) := by decide +kernel
theorem dX12_goesOn_212 : decode cX12_goesOn 212 = .ok (.iconst 1, 1) := by decide +kernel
theorem dX12_goesOn_213 : decode cX12_goesOn 213 = .ok (.goto 17, 3) := by decide +kernel
theorem dX12_goesOn_216 : decode cX12_goesOn 216 = .ok (.aload_n 0, 1) := by decide +kernel
theorem dX12_goesOn_217 : decode cX12_goesOn 217 = .ok (.bipush 45, 2) := by decide +kernel
theorem dX12_goesOn_219 : decode cX12_goesOn 219 = .ok (.invokevirtual 223, 3) := by decide +kernel
theorem dX12_goesOn_222 : decode cX12_goesOn 222 = .ok (.ifCond .eq 7, 3) := by decide +kernel
theorem dX12_goesOn_225 : decode cX12_goesOn 225 = .ok (.iconst 2, 1) := by decide +kernel
theorem dX12_goesOn_226 : decode cX12_goesOn 226 = .ok (.goto 4, 3) := by decide +kernel
theorem dX12_goesOn_229 : decode cX12_goesOn 229 = .ok (.iconst 0, 1) := by decide +kernel
theorem dX12_goesOn_230 : decode cX12_goesOn 230 = .ok (.iastore, 1) := by decide +kernel
theorem dX12_goesOn_231 : decode cX12_goesOn 231 = .ok (.aload_n 0, 1) := by decide +kernel
theorem dX12_goesOn_232 : decode cX12_goesOn 232 = .ok (.dup, 1) := by decide +kernel
theorem dX12_goesOn_233 : decode cX12_goesOn 233 = .ok (.getfield 213, 3) := by decide +kernel
theorem dX12_goesOn_236 : decode cX12_goesOn 236 = .ok (.aload_n 0, 1) := by decide +kernel
theorem dX12_goesOn_237 : decode cX12_goesOn 237 = .ok (.getfield 41, 3) := by decide +kernel
theorem dX12_goesOn_240 : decode cX12_goesOn 240 = .ok (.aload_n 0, 1) := by decide +kernel
theorem dX12_goesOn_241 : decode cX12_goesOn 241 = .ok (.getfield 238, 3) := by decide +kernel
theorem dX12_goesOn_244 : decode cX12_goesOn 244 = .ok (.iaload, 1) := by decide +kernel
theorem dX12_goesOn_245 : decode cX12_goesOn 245 = .ok (.ifCond .le 7, 3) := by decide +kernel
theorem dX12_goesOn_248 : decode cX12_goesOn 248 = .ok (.iconst 1, 1) := by decide +kernel
theorem dX12_goesOn_249 : decode cX12_goesOn 249 = .ok (.goto 4, 3) := by decide +kernel
theorem dX12_goesOn_252 : decode cX12_goesOn 252 = .ok (.iconst 0, 1) := by decide +kernel
theorem dX12_goesOn_253 : decode cX12_goesOn 253 = .ok (.iadd, 1) := by decide +kernel
theorem dX12_goesOn_254 : decode cX12_goesOn 254 = .ok (.putfield 213, 3) := by decide +kernel
theorem dX12_goesOn_257 : decode cX12_goesOn 257 = .ok (.aload_n 0, 1) := by decide +kernel
theorem dX12_goesOn_258 : decode cX12_goesOn 258 = .ok (.getfield 41, 3) := by decide +kernel
theorem dX12_goesOn_261 : decode cX12_goesOn 261 = .ok (.aload_n 0, 1) := by decide +kernel
theorem dX12_goesOn_262 : decode cX12_goesOn 262 = .ok (.getfield 238, 3) := by decide +kernel
theorem dX12_goesOn_265 : decode cX12_goesOn 265 = .ok (.iaload, 1) := by decide +kernel
theorem dX12_goesOn_266 : decode cX12_goesOn 266 = .ok (.ifCond .le 7, 3) := by decide +kernel
theorem dX12_goesOn_269 : decode cX12_goesOn 269 = .ok (.iconst 1, 1) := by decide +kernel
theorem dX12_goesOn_270 : decode cX12_goesOn 270 = .ok (.goto 4, 3) := by decide +kernel
theorem dX12_goesOn_273 : decode cX12_goesOn 273 = .ok (.iconst 0, 1) := by decide +kernel
theorem dX12_goesOn_274 : decode cX12_goesOn 274 = .ok (.ireturn, 1) := by decide +kernel
theorem dX12_isValue_0 : decode cX12_isValue 0 = .ok (.aload_n 0, 1) := by decide +kernel
theorem dX12_isValue_1 : decode cX12_isValue 1 = .ok (.invokevirtual 219, 3) := by decide +kernel
theorem dX12_isValue_4 : decode cX12_isValue 4 = .ok (.istore_n 1, 1) := by decide +kernel
theorem dX12_isValue_5 : decode cX12_isValue 5 = .ok (.iload_n 1, 1) := by decide +kernel
theorem dX12_isValue_6 : decode cX12_isValue 6 = .ok (.bipush 48, 2) := by decide +kernel
theorem dX12_isValue_8 : decode cX12_isValue 8 = .ok (.bipush 57, 2) := by decide +kernel
theorem dX12_isValue_10 : decode cX12_isValue 10 = .ok (.invokestatic 66, 3) := by decide +kernel
theorem dX12_isValue_13 : decode cX12_isValue 13 = .ok (.ifCond .eq 26, 3) := by decide +kernel
theorem dX12_isValue_16 : decode cX12_isValue 16 = .ok (.aload_n 0, 1) := by decide +kernel
theorem dX12_isValue_17 : decode cX12_isValue 17 = .ok (.dup, 1) := by decide +kernel
theorem dX12_isValue_18 : decode cX12_isValue 18 = .ok (.getfield 232, 3) := by decide +kernel
theorem dX12_isValue_21 : decode cX12_isValue 21 = .ok (.iconst 1, 1) := by decide +kernel
theorem dX12_isValue_22 : decode cX12_isValue 22 = .ok (.iadd, 1) := by decide +kernel
theorem dX12_isValue_23 : decode cX12_isValue 23 = .ok (.putfield 232, 3) := by decide +kernel
theorem dX12_isValue_26 : decode cX12_isValue 26 = .ok (.aload_n 0, 1) := by decide +kernel
theorem dX12_isValue_27 : decode cX12_isValue 27 = .ok (.bipush 64, 2) := by decide +kernel
theorem dX12_isValue_29 : decode cX12_isValue 29 = .ok (.aload_n 0, 1) := by decide +kernel
theorem dX12_isValue_30 : decode cX12_isValue 30 = .ok (.invokevirtual 251, 3) := by decide +kernel
theorem dX12_isValue_33 : decode cX12_isValue 33 = .ok (.imul, 1) := by decide +kernel
theorem dX12_isValue_34 : decode cX12_isValue 34 = .ok (.putfield 247, 3) := by decide +kernel
theorem dX12_isValue_37 : decode cX12_isValue 37 = .ok (.iconst 1, 1) := by decide +kernel
theorem dX12_isValue_38 : decode cX12_isValue 38 = .ok (.ireturn, 1) := by decide +kernel
theorem dX12_isValue_39 : decode cX12_isValue 39 = .ok (.iload_n 1, 1) := by decide +kernel
theorem dX12_isValue_40 : decode cX12_isValue 40 = .ok (.bipush 97, 2) := by decide +kernel
theorem dX12_isValue_42 : decode cX12_isValue 42 = .ok (.bipush 100, 2) := by decide +kernel
theorem dX12_isValue_44 : decode cX12_isValue 44 = .ok (.invokestatic 66, 3) := by decide +kernel
theorem dX12_isValue_47 : decode cX12_isValue 47 = .ok (.ifCond .eq 17, 3) := by decide +kernel
theorem dX12_isValue_50 : decode cX12_isValue 50 = .ok (.aload_n 0, 1) := by decide +kernel
theorem dX12_isValue_51 : decode cX12_isValue 51 = .ok (.aload_n 0, 1) := by decide +kernel
theorem dX12_isValue_52 : decode cX12_isValue 52 = .ok (.iload_n 1, 1) := by decide +kernel
theorem dX12_isValue_53 : decode cX12_isValue 53 = .ok (.bipush 97, 2) := by decide +kernel
theorem dX12_isValue_55 : decode cX12_isValue 55 = .ok (.isub, 1) := by decide +kernel
theorem dX12_isValue_56 : decode cX12_isValue 56 = .ok (.invokevirtual 254, 3) := by decide +kernel
theorem dX12_isValue_59 : decode cX12_isValue 59 = .ok (.putfield 247, 3) := by decide +kernel
theorem dX12_isValue_62 : decode cX12_isValue 62 = .ok (.iconst 1, 1) := by decide +kernel
theorem dX12_isValue_63 : decode cX12_isValue 63 = .ok (.ireturn, 1) := by decide +kernel
theorem dX12_isValue_64 : decode cX12_isValue 64 = .ok (.iload_n 1, 1) := by decide +kernel
theorem dX12_isValue_65 : decode cX12_isValue 65 = .ok (.bipush 109, 2) := by decide +kernel
theorem dX12_isValue_67 : decode cX12_isValue 67 = .ok (.if_icmp .ne 81, 3) := by decide +kernel
theorem dX12_isValue_70 : decode cX12_isValue 70 = .ok (.aload_n 0, 1) := by decide +kernel
theorem dX12_isValue_71 : decode cX12_isValue 71 = .ok (.dup, 1) := by decide +kernel
theorem dX12_isValue_72 : decode cX12_isValue 72 = .ok (.getfield 213, 3) := by decide +kernel
theorem dX12_isValue_75 : decode cX12_isValue 75 = .ok (.iconst 1, 1) := by decide +kernel
theorem dX12_isValue_76 : decode cX12_isValue 76 = .ok (.iadd, 1) := by decide +kernel
theorem dX12_isValue_77 : decode cX12_isValue 77 = .ok (.putfield 213, 3) := by decide +kernel
theorem dX12_isValue_80 : decode cX12_isValue 80 = .ok (.aload_n 0, 1) := by decide +kernel
theorem dX12_isValue_81 : decode cX12_isValue 81 = .ok (.bipush 105, 2) := by decide +kernel
theorem dX12_isValue_83 : decode cX12_isValue 83 = .ok (.invokevirtual 223, 3) := by decide +kernel
theorem dX12_isValue_86 : decode cX12_isValue 86 = .ok (.istore_n 2, 1) := by decide +kernel
theorem dX12_isValue_87 : decode cX12_isValue 87 = .ok (.aload_n 0, 1) := by decide +kernel
theorem dX12_isValue_88 : decode cX12_isValue 88 = .ok (.iload_n 2, 1) := by decide +kernel
theorem dX12_isValue_89 : decode cX12_isValue 89 = .ok (.ifCond .eq 8, 3) := by decide +kernel
theorem dX12_isValue_92 : decode cX12_isValue 92 = .ok (.bipush 105, 2) := by decide +kernel
theorem dX12_isValue_94 : decode cX12_isValue 94 = .ok (.goto 5, 3) := by decide +kernel
theorem dX12_isValue_97 : decode cX12_isValue 97 = .ok (.bipush 97, 2) := by decide +kernel
theorem dX12_isValue_99 : decode cX12_isValue 99 = .ok (.invokevirtual 241, 3) := by decide +kernel
theorem dX12_isValue_102 : decode cX12_isValue 102 = .ok (.aload_n 0, 1) := by decide +kernel
theorem dX12_isValue_103 : decode cX12_isValue 103 = .ok (.iload_n 2, 1) := by decide +kernel
theorem dX12_isValue_104 : decode cX12_isValue 104 = .ok (.ifCond .eq 8, 3) := by decide +kernel
theorem dX12_isValue_107 : decode cX12_isValue 107 = .ok (.bipush 110, 2) := by decide +kernel
theorem dX12_isValue_109 : decode cX12_isValue 109 = .ok (.goto 5, 3) := by decide +kernel
theorem dX12_isValue_112 : decode cX12_isValue 112 = .ok (.bipush 120, 2) := by decide +kernel
theorem dX12_isValue_114 : decode cX12_isValue 114 = .ok (.invokevirtual 241, 3) := by decide +kernel
theorem dX12_isValue_117 : decode cX12_isValue 117 = .ok (.aload_n 0, 1) := by decide +kernel
theorem dX12_isValue_118 : decode cX12_isValue 118 = .ok (.bipush 40, 2) := by decide +kernel
theorem dX12_isValue_120 : decode cX12_isValue 120 = .ok (.invokevirtual 223, 3) := by decide +kernel
theorem dX12_isValue_123 : decode cX12_isValue 123 = .ok (.ifCond .eq 16, 3) := by decide +kernel
theorem dX12_isValue_126 : decode cX12_isValue 126 = .ok (.aload_n 0, 1) := by decide +kernel
theorem dX12_isValue_127 : decode cX12_isValue 127 = .ok (.iload_n 2, 1) := by decide +kernel
theorem dX12_isValue_128 : decode cX12_isValue 128 = .ok (.ifCond .eq 7, 3) := by decide +kernel
theorem dX12_isValue_131 : decode cX12_isValue 131 = .ok (.iconst 3, 1) := by decide +kernel
theorem dX12_isValue_132 : decode cX12_isValue 132 = .ok (.goto 4, 3) := by decide +kernel
theorem dX12_isValue_135 : decode cX12_isValue 135 = .ok (.iconst 5, 1) := by decide +kernel
theorem dX12_isValue_136 : decode cX12_isValue 136 = .ok (.invokevirtual 257, 3) := by decide +kernel
theorem dX12_isValue_139 : decode cX12_isValue 139 = .ok (.aload_n 0, 1) := by decide +kernel
theorem dX12_isValue_140 : decode cX12_isValue 140 = .ok (.bipush 40, 2) := by decide +kernel
theorem dX12_isValue_142 : decode cX12_isValue 142 = .ok (.invokevirtual 241, 3) := by decide +kernel
theorem dX12_isValue_145 : decode cX12_isValue 145 = .ok (.goto 46, 3) := by decide +kernel
theorem dX12_isValue_148 : decode cX12_isValue 148 = .ok (.iload_n 1, 1) := by decide +kernel
theorem dX12_isValue_149 : decode cX12_isValue 149 = .ok (.bipush 40, 2) := by decide +kernel
theorem dX12_isValue_151 : decode cX12_isValue 151 = .ok (.if_icmp .eq 9, 3) := by decide +kernel
theorem dX12_isValue_154 : decode cX12_isValue 154 = .ok (.iload_n 1, 1) := by decide +kernel
theorem dX12_isValue_155 : decode cX12_isValue 155 = .ok (.bipush 45, 2) := by decide +kernel
theorem dX12_isValue_157 : decode cX12_isValue 157 = .ok (.if_icmp .ne 26, 3) := by decide +kernel
theorem dX12_isValue_160 : decode cX12_isValue 160 = .ok (.aload_n 0, 1) := by decide +kernel
theorem dX12_isValue_161 : decode cX12_isValue 161 = .ok (.iload_n 1, 1) := by decide +kernel
theorem dX12_isValue_162 : decode cX12_isValue 162 = .ok (.bipush 40, 2) := by decide +kernel
theorem dX12_isValue_164 : decode cX12_isValue 164 = .ok (.if_icmp .ne 7, 3) := by decide +kernel
theorem dX12_isValue_167 : decode cX12_isValue 167 = .ok (.iconst 1, 1) := by decide +kernel
theorem dX12_isValue_168 : decode cX12_isValue 168 = .ok (.goto 4, 3) := by decide +kernel
theorem dX12_isValue_171 : decode cX12_isValue 171 = .ok (.iconst 2, 1) := by decide +kernel
theorem dX12_isValue_172 : decode cX12_isValue 172 = .ok (.invokevirtual 257, 3) := by decide +kernel
theorem dX12_isValue_175 : decode cX12_isValue 175 = .ok (.aload_n 0, 1) := by decide +kernel
theorem dX12_isValue_176 : decode cX12_isValue 176 = .ok (.iload_n 1, 1) := by decide +kernel
theorem dX12_isValue_177 : decode cX12_isValue 177 = .ok (.invokevirtual 241, 3) := by decide +kernel
theorem dX12_isValue_180 : decode cX12_isValue 180 = .ok (.goto 11, 3) := by decide +kernel
theorem dX12_isValue_183 : decode cX12_isValue 183 = .ok (.aload_n 0, 1) := by decide +kernel
theorem dX12_isValue_184 : decode cX12_isValue 184 = .ok (.aload_n 0, 1) := by decide +kernel
theorem dX12_isValue_185 : decode cX12_isValue 185 = .ok (.getfield 213, 3) := by decide +kernel
theorem dX12_isValue_188 : decode cX12_isValue 188 = .ok (.invokevirtual 226, 3) := by decide +kernel
theorem dX12_isValue_191 : decode cX12_isValue 191 = .ok (.iconst 0, 1) := by decide +kernel
theorem dX12_isValue_192 : decode cX12_isValue 192 = .ok (.ireturn, 1) := by decide +kernel
theorem dX12_sum_0 : decode cX12_sum 0 = .ok (.aload_n 0, 1) := by decide +kernel
theorem dX12_sum_1 : decode cX12_sum 1 = .ok (.iconst (-1), 1) := by decide +kernel
theorem dX12_sum_2 : decode cX12_sum 2 = .ok (.putfield 238, 3) := by decide +kernel
theorem dX12_sum_5 : decode cX12_sum 5 = .ok (.aload_n 0, 1) := by decide +kernel
theorem dX12_sum_6 : decode cX12_sum 6 = .ok (.iconst 0, 1) := by decide +kernel
theorem dX12_sum_7 : decode cX12_sum 7 = .ok (.invokevirtual 257, 3) := by decide +kernel
theorem dX12_sum_10 : decode cX12_sum 10 = .ok (.iconst 1, 1) := by decide +kernel
theorem dX12_sum_11 : decode cX12_sum 11 = .ok (.istore_n 1, 1) := by decide +kernel
theorem dX12_sum_12 : decode cX12_sum 12 = .ok (.iload_n 1, 1) := by decide +kernel
theorem dX12_sum_13 : decode cX12_sum 13 = .ok (.ifCond .eq 85, 3) := by decide +kernel
theorem dX12_sum_16 : decode cX12_sum 16 = .ok (.aload_n 0, 1) := by decide +kernel
theorem dX12_sum_17 : decode cX12_sum 17 = .ok (.getfield 216, 3) := by decide +kernel
theorem dX12_sum_20 : decode cX12_sum 20 = .ok (.ifCond .ge 78, 3) := by decide +kernel
theorem dX12_sum_23 : decode cX12_sum 23 = .ok (.aload_n 0, 1) := by decide +kernel
theorem dX12_sum_24 : decode cX12_sum 24 = .ok (.invokevirtual 260, 3) := by decide +kernel
theorem dX12_sum_27 : decode cX12_sum 27 = .ok (.ifCond .eq (-15), 3) := by decide +kernel
theorem dX12_sum_30 : decode cX12_sum 30 = .ok (.aload_n 0, 1) := by decide +kernel
theorem dX12_sum_31 : decode cX12_sum 31 = .ok (.invokevirtual 264, 3) := by decide +kernel
theorem dX12_sum_34 : decode cX12_sum 34 = .ok (.istore_n 2, 1) := by decide +kernel
theorem dX12_sum_35 : decode cX12_sum 35 = .ok (.iload_n 1, 1) := by decide +kernel
theorem dX12_sum_36 : decode cX12_sum 36 = .ok (.ifCond .eq 59, 3) := by decide +kernel
theorem dX12_sum_39 : decode cX12_sum 39 = .ok (.iload_n 2, 1) := by decide +kernel
theorem dX12_sum_40 : decode cX12_sum 40 = .ok (.ifCond .ne 55, 3) := by decide +kernel
theorem dX12_sum_43 : decode cX12_sum 43 = .ok (.aload_n 0, 1) := by decide +kernel
theorem dX12_sum_44 : decode cX12_sum 44 = .ok (.getfield 216, 3) := by decide +kernel
theorem dX12_sum_47 : decode cX12_sum 47 = .ok (.ifCond .ge 48, 3) := by decide +kernel
theorem dX12_sum_50 : decode cX12_sum 50 = .ok (.aload_n 0, 1) := by decide +kernel
theorem dX12_sum_51 : decode cX12_sum 51 = .ok (.getfield 38, 3) := by decide +kernel
theorem dX12_sum_54 : decode cX12_sum 54 = .ok (.aload_n 0, 1) := by decide +kernel
theorem dX12_sum_55 : decode cX12_sum 55 = .ok (.getfield 238, 3) := by decide +kernel
theorem dX12_sum_58 : decode cX12_sum 58 = .ok (.iaload, 1) := by decide +kernel
theorem dX12_sum_59 : decode cX12_sum 59 = .ok (.ifCond .le 7, 3) := by decide +kernel
theorem dX12_sum_62 : decode cX12_sum 62 = .ok (.iconst 1, 1) := by decide +kernel
theorem dX12_sum_63 : decode cX12_sum 63 = .ok (.goto 4, 3) := by decide +kernel
theorem dX12_sum_66 : decode cX12_sum 66 = .ok (.iconst 0, 1) := by decide +kernel
theorem dX12_sum_67 : decode cX12_sum 67 = .ok (.istore_n 1, 1) := by decide +kernel
theorem dX12_sum_68 : decode cX12_sum 68 = .ok (.aload_n 0, 1) := by decide +kernel
theorem dX12_sum_69 : decode cX12_sum 69 = .ok (.invokevirtual 267, 3) := by decide +kernel
theorem dX12_sum_72 : decode cX12_sum 72 = .ok (.ifCond .eq 14, 3) := by decide +kernel
theorem dX12_sum_75 : decode cX12_sum 75 = .ok (.iload_n 1, 1) := by decide +kernel
theorem dX12_sum_76 : decode cX12_sum 76 = .ok (.ifCond .eq 14, 3) := by decide +kernel
theorem dX12_sum_79 : decode cX12_sum 79 = .ok (.aload_n 0, 1) := by decide +kernel
theorem dX12_sum_80 : decode cX12_sum 80 = .ok (.invokevirtual 264, 3) := by decide +kernel
theorem dX12_sum_83 : decode cX12_sum 83 = .ok (.ifCond .eq 7, 3) := by decide +kernel
theorem dX12_sum_86 : decode cX12_sum 86 = .ok (.iconst 1, 1) := by decide +kernel
theorem dX12_sum_87 : decode cX12_sum 87 = .ok (.goto 4, 3) := by decide +kernel
theorem dX12_sum_90 : decode cX12_sum 90 = .ok (.iconst 0, 1) := by decide +kernel
theorem dX12_sum_91 : decode cX12_sum 91 = .ok (.istore_n 2, 1) := by decide +kernel
theorem dX12_sum_92 : decode cX12_sum 92 = .ok (.goto (-57), 3) := by decide +kernel
theorem dX12_sum_95 : decode cX12_sum 95 = .ok (.goto (-83), 3) := by decide +kernel
theorem dX12_sum_98 : decode cX12_sum 98 = .ok (.aload_n 0, 1) := by decide +kernel
theorem dX12_sum_99 : decode cX12_sum 99 = .ok (.getfield 247, 3) := by decide +kernel
theorem dX12_sum_102 : decode cX12_sum 102 = .ok (.ireturn, 1) := by decide +kernel
theorem dX12_curveValue_0 : decode cX12_curveValue 0 = .ok (.aload_n 0, 1) := by decide +kernel
theorem dX12_curveValue_1 : decode cX12_curveValue 1 = .ok (.dup, 1) := by decide +kernel
theorem dX12_curveValue_2 : decode cX12_curveValue 2 = .ok (.getfield 213, 3) := by decide +kernel
theorem dX12_curveValue_5 : decode cX12_curveValue 5 = .ok (.iconst 1, 1) := by decide +kernel
theorem dX12_curveValue_6 : decode cX12_curveValue 6 = .ok (.iadd, 1) := by decide +kernel
theorem dX12_curveValue_7 : decode cX12_curveValue 7 = .ok (.putfield 213, 3) := by decide +kernel
theorem dX12_curveValue_10 : decode cX12_curveValue 10 = .ok (.iconst 0, 1) := by decide +kernel
theorem dX12_curveValue_11 : decode cX12_curveValue 11 = .ok (.istore_n 2, 1) := by decide +kernel
theorem dX12_curveValue_12 : decode cX12_curveValue 12 = .ok (.aload_n 0, 1) := by decide +kernel
theorem dX12_curveValue_13 : decode cX12_curveValue 13 = .ok (.bipush 64, 2) := by decide +kernel
theorem dX12_curveValue_15 : decode cX12_curveValue 15 = .ok (.invokevirtual 223, 3) := by decide +kernel
theorem dX12_curveValue_18 : decode cX12_curveValue 18 = .ok (.ifCond .eq 18, 3) := by decide +kernel
theorem dX12_curveValue_21 : decode cX12_curveValue 21 = .ok (.aload_n 0, 1) := by decide +kernel
theorem dX12_curveValue_22 : decode cX12_curveValue 22 = .ok (.dup, 1) := by decide +kernel
theorem dX12_curveValue_23 : decode cX12_curveValue 23 = .ok (.getfield 213, 3) := by decide +kernel
theorem dX12_curveValue_26 : decode cX12_curveValue 26 = .ok (.iconst 1, 1) := by decide +kernel
theorem dX12_curveValue_27 : decode cX12_curveValue 27 = .ok (.iadd, 1) := by decide +kernel
theorem dX12_curveValue_28 : decode cX12_curveValue 28 = .ok (.putfield 213, 3) := by decide +kernel
theorem dX12_curveValue_31 : decode cX12_curveValue 31 = .ok (.aload_n 0, 1) := by decide +kernel
theorem dX12_curveValue_32 : decode cX12_curveValue 32 = .ok (.invokevirtual 251, 3) := by decide +kernel
theorem dX12_curveValue_35 : decode cX12_curveValue 35 = .ok (.istore_n 2, 1) := by decide +kernel
theorem dX12_curveValue_36 : decode cX12_curveValue 36 = .ok (.aload_n 0, 1) := by decide +kernel
theorem dX12_curveValue_37 : decode cX12_curveValue 37 = .ok (.dup, 1) := by decide +kernel
theorem dX12_curveValue_38 : decode cX12_curveValue 38 = .ok (.getfield 232, 3) := by decide +kernel
theorem dX12_curveValue_41 : decode cX12_curveValue 41 = .ok (.iconst 1, 1) := by decide +kernel
theorem dX12_curveValue_42 : decode cX12_curveValue 42 = .ok (.iadd, 1) := by decide +kernel
theorem dX12_curveValue_43 : decode cX12_curveValue 43 = .ok (.putfield 232, 3) := by decide +kernel
theorem dX12_curveValue_46 : decode cX12_curveValue 46 = .ok (.aload_n 0, 1) := by decide +kernel
theorem dX12_curveValue_47 : decode cX12_curveValue 47 = .ok (.getfield 216, 3) := by decide +kernel
theorem dX12_curveValue_50 : decode cX12_curveValue 50 = .ok (.ifCond .ge 11, 3) := by decide +kernel
theorem dX12_curveValue_53 : decode cX12_curveValue 53 = .ok (.aload_n 0, 1) := by decide +kernel
theorem dX12_curveValue_54 : decode cX12_curveValue 54 = .ok (.iload_n 1, 1) := by decide +kernel
theorem dX12_curveValue_55 : decode cX12_curveValue 55 = .ok (.invokevirtual 78, 3) := by decide +kernel
theorem dX12_curveValue_58 : decode cX12_curveValue 58 = .ok (.ifCond .ne 7, 3) := by decide +kernel
theorem dX12_curveValue_61 : decode cX12_curveValue 61 = .ok (.iconst 0, 1) := by decide +kernel
theorem dX12_curveValue_62 : decode cX12_curveValue 62 = .ok (.goto 18, 3) := by decide +kernel
theorem dX12_curveValue_65 : decode cX12_curveValue 65 = .ok (.aload_n 0, 1) := by decide +kernel
theorem dX12_curveValue_66 : decode cX12_curveValue 66 = .ok (.iload_n 1, 1) := by decide +kernel
theorem dX12_curveValue_67 : decode cX12_curveValue 67 = .ok (.iconst 0, 1) := by decide +kernel
theorem dX12_curveValue_68 : decode cX12_curveValue 68 = .ok (.aload_n 0, 1) := by decide +kernel
theorem dX12_curveValue_69 : decode cX12_curveValue 69 = .ok (.getfield 235, 3) := by decide +kernel
theorem dX12_curveValue_72 : decode cX12_curveValue 72 = .ok (.iload_n 2, 1) := by decide +kernel
theorem dX12_curveValue_73 : decode cX12_curveValue 73 = .ok (.isub, 1) := by decide +kernel
theorem dX12_curveValue_74 : decode cX12_curveValue 74 = .ok (.invokestatic 112, 3) := by decide +kernel
theorem dX12_curveValue_77 : decode cX12_curveValue 77 = .ok (.invokevirtual 133, 3) := by decide +kernel
theorem dX12_curveValue_80 : decode cX12_curveValue 80 = .ok (.ireturn, 1) := by decide +kernel
theorem dX12_formulaFault_0 : decode cX12_formulaFault 0 = .ok (.aload_n 0, 1) := by decide +kernel
theorem dX12_formulaFault_1 : decode cX12_formulaFault 1 = .ok (.iconst 0, 1) := by decide +kernel
theorem dX12_formulaFault_2 : decode cX12_formulaFault 2 = .ok (.iconst 0, 1) := by decide +kernel
theorem dX12_formulaFault_3 : decode cX12_formulaFault 3 = .ok (.invokevirtual 270, 3) := by decide +kernel
theorem dX12_formulaFault_6 : decode cX12_formulaFault 6 = .ok (.aload_n 0, 1) := by decide +kernel
theorem dX12_formulaFault_7 : decode cX12_formulaFault 7 = .ok (.invokevirtual 274, 3) := by decide +kernel
theorem dX12_formulaFault_10 : decode cX12_formulaFault 10 = .ok (.istore_n 1, 1) := by decide +kernel
theorem dX12_formulaFault_11 : decode cX12_formulaFault 11 = .ok (.aload_n 0, 1) := by decide +kernel
theorem dX12_formulaFault_12 : decode cX12_formulaFault 12 = .ok (.getfield 216, 3) := by decide +kernel
theorem dX12_formulaFault_15 : decode cX12_formulaFault 15 = .ok (.ifCond .ge 22, 3) := by decide +kernel
theorem dX12_formulaFault_18 : decode cX12_formulaFault 18 = .ok (.aload_n 0, 1) := by decide +kernel
theorem dX12_formulaFault_19 : decode cX12_formulaFault 19 = .ok (.getfield 213, 3) := by decide +kernel
theorem dX12_formulaFault_22 : decode cX12_formulaFault 22 = .ok (.aload_n 0, 1) := by decide +kernel
theorem dX12_formulaFault_23 : decode cX12_formulaFault 23 = .ok (.getfield 206, 3) := by decide +kernel
theorem dX12_formulaFault_26 : decode cX12_formulaFault 26 = .ok (.if_icmp .ge 11, 3) := by decide +kernel
theorem dX12_formulaFault_29 : decode cX12_formulaFault 29 = .ok (.aload_n 0, 1) := by decide +kernel
theorem dX12_formulaFault_30 : decode cX12_formulaFault 30 = .ok (.aload_n 0, 1) := by decide +kernel
theorem dX12_formulaFault_31 : decode cX12_formulaFault 31 = .ok (.getfield 213, 3) := by decide +kernel
theorem dX12_formulaFault_34 : decode cX12_formulaFault 34 = .ok (.invokevirtual 226, 3) := by decide +kernel
theorem dX12_formulaFault_37 : decode cX12_formulaFault 37 = .ok (.aload_n 0, 1) := by decide +kernel
theorem dX12_formulaFault_38 : decode cX12_formulaFault 38 = .ok (.getfield 216, 3) := by decide +kernel
theorem dX12_formulaFault_41 : decode cX12_formulaFault 41 = .ok (.ireturn, 1) := by decide +kernel
theorem dX12_mixed_0 : decode cX12_mixed 0 = .ok (.aload_n 0, 1) := by decide +kernel
theorem dX12_mixed_1 : decode cX12_mixed 1 = .ok (.iconst 1, 1) := by decide +kernel
theorem dX12_mixed_2 : decode cX12_mixed 2 = .ok (.iload_n 1, 1) := by decide +kernel
theorem dX12_mixed_3 : decode cX12_mixed 3 = .ok (.invokevirtual 270, 3) := by decide +kernel
theorem dX12_mixed_6 : decode cX12_mixed 6 = .ok (.aload_n 0, 1) := by decide +kernel
theorem dX12_mixed_7 : decode cX12_mixed 7 = .ok (.invokevirtual 274, 3) := by decide +kernel
theorem dX12_mixed_10 : decode cX12_mixed 10 = .ok (.ireturn, 1) := by decide +kernel
theorem dX12_modeBy_0 : decode cX12_modeBy 0 = .ok (.iload_n 0, 1) := by decide +kernel
theorem dX12_modeBy_1 : decode cX12_modeBy 1 = .ok (.tableswitch 108 65 84 #[99, 108, 101, 108, 108, 108, 108, 105, 108, 108, 108, 97, 103, 108, 108, 108, 108, 108, 108, 95], 95) := by decide +kernel
theorem dX12_modeBy_96 : decode cX12_modeBy 96 = .ok (.iconst 1, 1) := by decide +kernel
theorem dX12_modeBy_97 : decode cX12_modeBy 97 = .ok (.ireturn, 1) := by decide +kernel
theorem dX12_modeBy_98 : decode cX12_modeBy 98 = .ok (.iconst 2, 1) := by decide +kernel
theorem dX12_modeBy_99 : decode cX12_modeBy 99 = .ok (.ireturn, 1) := by decide +kernel
theorem dX12_modeBy_100 : decode cX12_modeBy 100 = .ok (.iconst 3, 1) := by decide +kernel
theorem dX12_modeBy_101 : decode cX12_modeBy 101 = .ok (.ireturn, 1) := by decide +kernel
theorem dX12_modeBy_102 : decode cX12_modeBy 102 = .ok (.iconst 4, 1) := by decide +kernel
theorem dX12_modeBy_103 : decode cX12_modeBy 103 = .ok (.ireturn, 1) := by decide +kernel
theorem dX12_modeBy_104 : decode cX12_modeBy 104 = .ok (.iconst 5, 1) := by decide +kernel
theorem dX12_modeBy_105 : decode cX12_modeBy 105 = .ok (.ireturn, 1) := by decide +kernel
theorem dX12_modeBy_106 : decode cX12_modeBy 106 = .ok (.bipush 6, 2) := by decide +kernel
theorem dX12_modeBy_108 : decode cX12_modeBy 108 = .ok (.ireturn, 1) := by decide +kernel
theorem dX12_modeBy_109 : decode cX12_modeBy 109 = .ok (.iconst (-1), 1) := by decide +kernel
theorem dX12_modeBy_110 : decode cX12_modeBy 110 = .ok (.ireturn, 1) := by decide +kernel
theorem dX12_key_0 : decode cX12_key 0 = .ok (.aload_n 0, 1) := by decide +kernel
theorem dX12_key_1 : decode cX12_key 1 = .ok (.getfield 213, 3) := by decide +kernel
theorem dX12_key_4 : decode cX12_key 4 = .ok (.istore_n 1, 1) := by decide +kernel
theorem dX12_key_5 : decode cX12_key 5 = .ok (.aload_n 0, 1) := by decide +kernel
theorem dX12_key_6 : decode cX12_key 6 = .ok (.invokevirtual 251, 3) := by decide +kernel
theorem dX12_key_9 : decode cX12_key 9 = .ok (.istore_n 2, 1) := by decide +kernel
theorem dX12_key_10 : decode cX12_key 10 = .ok (.iload_n 2, 1) := by decide +kernel
theorem dX12_key_11 : decode cX12_key 11 = .ok (.sipush 480, 3) := by decide +kernel
theorem dX12_key_14 : decode cX12_key 14 = .ok (.if_icmp .gt 27, 3) := by decide +kernel
theorem dX12_key_17 : decode cX12_key 17 = .ok (.aload_n 0, 1) := by decide +kernel
theorem dX12_key_18 : decode cX12_key 18 = .ok (.getfield 277, 3) := by decide +kernel
theorem dX12_key_21 : decode cX12_key 21 = .ok (.ifCond .le 25, 3) := by decide +kernel
theorem dX12_key_24 : decode cX12_key 24 = .ok (.iload_n 2, 1) := by decide +kernel
theorem dX12_key_25 : decode cX12_key 25 = .ok (.aload_n 0, 1) := by decide +kernel
theorem dX12_key_26 : decode cX12_key 26 = .ok (.getfield 57, 3) := by decide +kernel
theorem dX12_key_29 : decode cX12_key 29 = .ok (.iconst 3, 1) := by decide +kernel
theorem dX12_key_30 : decode cX12_key 30 = .ok (.aload_n 0, 1) := by decide +kernel
theorem dX12_key_31 : decode cX12_key 31 = .ok (.getfield 277, 3) := by decide +kernel
theorem dX12_key_34 : decode cX12_key 34 = .ok (.imul, 1) := by decide +kernel
theorem dX12_key_35 : decode cX12_key 35 = .ok (.iconst 3, 1) := by decide +kernel
theorem dX12_key_36 : decode cX12_key 36 = .ok (.isub, 1) := by decide +kernel
theorem dX12_key_37 : decode cX12_key 37 = .ok (.iaload, 1) := by decide +kernel
theorem dX12_key_38 : decode cX12_key 38 = .ok (.if_icmp .gt 8, 3) := by decide +kernel
theorem dX12_key_41 : decode cX12_key 41 = .ok (.aload_n 0, 1) := by decide +kernel
theorem dX12_key_42 : decode cX12_key 42 = .ok (.iload_n 1, 1) := by decide +kernel
theorem dX12_key_43 : decode cX12_key 43 = .ok (.invokevirtual 226, 3) := by decide +kernel
theorem dX12_key_46 : decode cX12_key 46 = .ok (.aload_n 0, 1) := by decide +kernel
theorem dX12_key_47 : decode cX12_key 47 = .ok (.bipush 58, 2) := by decide +kernel
theorem dX12_key_49 : decode cX12_key 49 = .ok (.invokevirtual 241, 3) := by decide +kernel
theorem dX12_key_52 : decode cX12_key 52 = .ok (.aload_n 0, 1) := by decide +kernel
theorem dX12_key_53 : decode cX12_key 53 = .ok (.bipush 45, 2) := by decide +kernel
theorem dX12_key_55 : decode cX12_key 55 = .ok (.invokevirtual 223, 3) := by decide +kernel
theorem dX12_key_58 : decode cX12_key 58 = .ok (.istore_n 3, 1) := by decide +kernel
theorem dX12_key_59 : decode cX12_key 59 = .ok (.iload_n 3, 1) := by decide +kernel
theorem dX12_key_60 : decode cX12_key 60 = .ok (.ifCond .eq 13, 3) := by decide +kernel
theorem dX12_key_63 : decode cX12_key 63 = .ok (.aload_n 0, 1) := by decide +kernel
theorem dX12_key_64 : decode cX12_key 64 = .ok (.dup, 1) := by decide +kernel
theorem dX12_key_65 : decode cX12_key 65 = .ok (.getfield 213, 3) := by decide +kernel
theorem dX12_key_68 : decode cX12_key 68 = .ok (.iconst 1, 1) := by decide +kernel
theorem dX12_key_69 : decode cX12_key 69 = .ok (.iadd, 1) := by decide +kernel
theorem dX12_key_70 : decode cX12_key 70 = .ok (.putfield 213, 3) := by decide +kernel
theorem dX12_key_73 : decode cX12_key 73 = .ok (.aload_n 0, 1) := by decide +kernel
theorem dX12_key_74 : decode cX12_key 74 = .ok (.getfield 216, 3) := by decide +kernel
theorem dX12_key_77 : decode cX12_key 77 = .ok (.ifCond .ge 10, 3) := by decide +kernel
theorem dX12_key_80 : decode cX12_key 80 = .ok (.aload_n 0, 1) := by decide +kernel
theorem dX12_key_81 : decode cX12_key 81 = .ok (.invokevirtual 251, 3) := by decide +kernel
theorem dX12_key_84 : decode cX12_key 84 = .ok (.goto 4, 3) := by decide +kernel
theorem dX12_key_87 : decode cX12_key 87 = .ok (.iconst 0, 1) := by decide +kernel
theorem dX12_key_88 : decode cX12_key 88 = .ok (.istore 4, 2) := by decide +kernel
theorem dX12_key_90 : decode cX12_key 90 = .ok (.aload_n 0, 1) := by decide +kernel
theorem dX12_key_91 : decode cX12_key 91 = .ok (.getfield 216, 3) := by decide +kernel
theorem dX12_key_94 : decode cX12_key 94 = .ok (.ifCond .ge 13, 3) := by decide +kernel
theorem dX12_key_97 : decode cX12_key 97 = .ok (.aload_n 0, 1) := by decide +kernel
theorem dX12_key_98 : decode cX12_key 98 = .ok (.invokevirtual 219, 3) := by decide +kernel
theorem dX12_key_101 : decode cX12_key 101 = .ok (.invokestatic 280, 3) := by decide +kernel
theorem dX12_key_104 : decode cX12_key 104 = .ok (.goto 4, 3) := by decide +kernel
theorem dX12_key_107 : decode cX12_key 107 = .ok (.iconst (-1), 1) := by decide +kernel
theorem dX12_key_108 : decode cX12_key 108 = .ok (.istore 5, 2) := by decide +kernel
theorem dX12_key_110 : decode cX12_key 110 = .ok (.iload 5, 2) := by decide +kernel
theorem dX12_key_112 : decode cX12_key 112 = .ok (.ifCond .lt 13, 3) := by decide +kernel
theorem dX12_key_115 : decode cX12_key 115 = .ok (.aload_n 0, 1) := by decide +kernel
theorem dX12_key_116 : decode cX12_key 116 = .ok (.dup, 1) := by decide +kernel
theorem dX12_key_117 : decode cX12_key 117 = .ok (.getfield 213, 3) := by decide +kernel
theorem dX12_key_120 : decode cX12_key 120 = .ok (.iconst 1, 1) := by decide +kernel
theorem dX12_key_121 : decode cX12_key 121 = .ok (.iadd, 1) := by decide +kernel
theorem dX12_key_122 : decode cX12_key 122 = .ok (.putfield 213, 3) := by decide +kernel
theorem dX12_key_125 : decode cX12_key 125 = .ok (.aload_n 0, 1) := by decide +kernel
theorem dX12_key_126 : decode cX12_key 126 = .ok (.getfield 57, 3) := by decide +kernel
theorem dX12_key_129 : decode cX12_key 129 = .ok (.iconst 3, 1) := by decide +kernel
theorem dX12_key_130 : decode cX12_key 130 = .ok (.aload_n 0, 1) := by decide +kernel
theorem dX12_key_131 : decode cX12_key 131 = .ok (.getfield 277, 3) := by decide +kernel
theorem dX12_key_134 : decode cX12_key 134 = .ok (.imul, 1) := by decide +kernel
theorem dX12_key_135 : decode cX12_key 135 = .ok (.iload_n 2, 1) := by decide +kernel
theorem dX12_key_136 : decode cX12_key 136 = .ok (.iastore, 1) := by decide +kernel
theorem dX12_key_137 : decode cX12_key 137 = .ok (.aload_n 0, 1) := by decide +kernel
theorem dX12_key_138 : decode cX12_key 138 = .ok (.getfield 57, 3) := by decide +kernel
theorem dX12_key_141 : decode cX12_key 141 = .ok (.iconst 3, 1) := by decide +kernel
theorem dX12_key_142 : decode cX12_key 142 = .ok (.aload_n 0, 1) := by decide +kernel
theorem dX12_key_143 : decode cX12_key 143 = .ok (.getfield 277, 3) := by decide +kernel
theorem dX12_key_146 : decode cX12_key 146 = .ok (.imul, 1) := by decide +kernel
theorem dX12_key_147 : decode cX12_key 147 = .ok (.iconst 1, 1) := by decide +kernel
theorem dX12_key_148 : decode cX12_key 148 = .ok (.iadd, 1) := by decide +kernel
theorem dX12_key_149 : decode cX12_key 149 = .ok (.iload_n 3, 1) := by decide +kernel
theorem dX12_key_150 : decode cX12_key 150 = .ok (.ifCond .eq 9, 3) := by decide +kernel
theorem dX12_key_153 : decode cX12_key 153 = .ok (.iload 4, 2) := by decide +kernel
theorem dX12_key_155 : decode cX12_key 155 = .ok (.ineg, 1) := by decide +kernel
theorem dX12_key_156 : decode cX12_key 156 = .ok (.goto 5, 3) := by decide +kernel
theorem dX12_key_159 : decode cX12_key 159 = .ok (.iload 4, 2) := by decide +kernel
theorem dX12_key_161 : decode cX12_key 161 = .ok (.iastore, 1) := by decide +kernel
theorem dX12_key_162 : decode cX12_key 162 = .ok (.aload_n 0, 1) := by decide +kernel
theorem dX12_key_163 : decode cX12_key 163 = .ok (.getfield 57, 3) := by decide +kernel
theorem dX12_key_166 : decode cX12_key 166 = .ok (.iconst 3, 1) := by decide +kernel
theorem dX12_key_167 : decode cX12_key 167 = .ok (.aload_n 0, 1) := by decide +kernel
theorem dX12_key_168 : decode cX12_key 168 = .ok (.getfield 277, 3) := by decide +kernel
theorem dX12_key_171 : decode cX12_key 171 = .ok (.imul, 1) := by decide +kernel
theorem dX12_key_172 : decode cX12_key 172 = .ok (.iconst 2, 1) := by decide +kernel
theorem dX12_key_173 : decode cX12_key 173 = .ok (.iadd, 1) := by decide +kernel
theorem dX12_key_174 : decode cX12_key 174 = .ok (.iload 5, 2) := by decide +kernel
theorem dX12_key_176 : decode cX12_key 176 = .ok (.ifCond .ge 7, 3) := by decide +kernel
theorem dX12_key_179 : decode cX12_key 179 = .ok (.iconst 3, 1) := by decide +kernel
theorem dX12_key_180 : decode cX12_key 180 = .ok (.goto 5, 3) := by decide +kernel
theorem dX12_key_183 : decode cX12_key 183 = .ok (.iload 5, 2) := by decide +kernel
theorem dX12_key_185 : decode cX12_key 185 = .ok (.iastore, 1) := by decide +kernel
theorem dX12_key_186 : decode cX12_key 186 = .ok (.aload_n 0, 1) := by decide +kernel
theorem dX12_key_187 : decode cX12_key 187 = .ok (.dup, 1) := by decide +kernel
theorem dX12_key_188 : decode cX12_key 188 = .ok (.getfield 277, 3) := by decide +kernel
theorem dX12_key_191 : decode cX12_key 191 = .ok (.iconst 1, 1) := by decide +kernel
theorem dX12_key_192 : decode cX12_key 192 = .ok (.iadd, 1) := by decide +kernel
theorem dX12_key_193 : decode cX12_key 193 = .ok (.putfield 277, 3) := by decide +kernel
theorem dX12_key_196 : decode cX12_key 196 = .ok (.return_, 1) := by decide +kernel
theorem dX12_curveFault_0 : decode cX12_curveFault 0 = .ok (.aload_n 0, 1) := by decide +kernel
theorem dX12_curveFault_1 : decode cX12_curveFault 1 = .ok (.iconst 0, 1) := by decide +kernel
theorem dX12_curveFault_2 : decode cX12_curveFault 2 = .ok (.iconst 0, 1) := by decide +kernel
theorem dX12_curveFault_3 : decode cX12_curveFault 3 = .ok (.invokevirtual 270, 3) := by decide +kernel
theorem dX12_curveFault_6 : decode cX12_curveFault 6 = .ok (.aload_n 0, 1) := by decide +kernel
theorem dX12_curveFault_7 : decode cX12_curveFault 7 = .ok (.iconst 0, 1) := by decide +kernel
theorem dX12_curveFault_8 : decode cX12_curveFault 8 = .ok (.putfield 277, 3) := by decide +kernel
theorem dX12_curveFault_11 : decode cX12_curveFault 11 = .ok (.aload_n 0, 1) := by decide +kernel
theorem dX12_curveFault_12 : decode cX12_curveFault 12 = .ok (.invokevirtual 283, 3) := by decide +kernel
theorem dX12_curveFault_15 : decode cX12_curveFault 15 = .ok (.aload_n 0, 1) := by decide +kernel
theorem dX12_curveFault_16 : decode cX12_curveFault 16 = .ok (.bipush 44, 2) := by decide +kernel
theorem dX12_curveFault_18 : decode cX12_curveFault 18 = .ok (.invokevirtual 223, 3) := by decide +kernel
theorem dX12_curveFault_21 : decode cX12_curveFault 21 = .ok (.ifCond .eq 40, 3) := by decide +kernel
theorem dX12_curveFault_24 : decode cX12_curveFault 24 = .ok (.aload_n 0, 1) := by decide +kernel
theorem dX12_curveFault_25 : decode cX12_curveFault 25 = .ok (.getfield 277, 3) := by decide +kernel
theorem dX12_curveFault_28 : decode cX12_curveFault 28 = .ok (.bipush 24, 2) := by decide +kernel
theorem dX12_curveFault_30 : decode cX12_curveFault 30 = .ok (.if_icmp .ne 14, 3) := by decide +kernel
theorem dX12_curveFault_33 : decode cX12_curveFault 33 = .ok (.aload_n 0, 1) := by decide +kernel
theorem dX12_curveFault_34 : decode cX12_curveFault 34 = .ok (.aload_n 0, 1) := by decide +kernel
theorem dX12_curveFault_35 : decode cX12_curveFault 35 = .ok (.getfield 213, 3) := by decide +kernel
theorem dX12_curveFault_38 : decode cX12_curveFault 38 = .ok (.invokevirtual 226, 3) := by decide +kernel
theorem dX12_curveFault_41 : decode cX12_curveFault 41 = .ok (.goto (-26), 3) := by decide +kernel
theorem dX12_curveFault_44 : decode cX12_curveFault 44 = .ok (.aload_n 0, 1) := by decide +kernel
theorem dX12_curveFault_45 : decode cX12_curveFault 45 = .ok (.dup, 1) := by decide +kernel
theorem dX12_curveFault_46 : decode cX12_curveFault 46 = .ok (.getfield 213, 3) := by decide +kernel
theorem dX12_curveFault_49 : decode cX12_curveFault 49 = .ok (.iconst 1, 1) := by decide +kernel
theorem dX12_curveFault_50 : decode cX12_curveFault 50 = .ok (.iadd, 1) := by decide +kernel
theorem dX12_curveFault_51 : decode cX12_curveFault 51 = .ok (.putfield 213, 3) := by decide +kernel
theorem dX12_curveFault_54 : decode cX12_curveFault 54 = .ok (.aload_n 0, 1) := by decide +kernel
theorem dX12_curveFault_55 : decode cX12_curveFault 55 = .ok (.invokevirtual 283, 3) := by decide +kernel
theorem dX12_curveFault_58 : decode cX12_curveFault 58 = .ok (.goto (-43), 3) := by decide +kernel
theorem dX12_curveFault_61 : decode cX12_curveFault 61 = .ok (.aload_n 0, 1) := by decide +kernel
theorem dX12_curveFault_62 : decode cX12_curveFault 62 = .ok (.bipush 59, 2) := by decide +kernel
theorem dX12_curveFault_64 : decode cX12_curveFault 64 = .ok (.invokevirtual 241, 3) := by decide +kernel
theorem dX12_curveFault_67 : decode cX12_curveFault 67 = .ok (.aload_n 0, 1) := by decide +kernel
theorem dX12_curveFault_68 : decode cX12_curveFault 68 = .ok (.getfield 216, 3) := by decide +kernel
theorem dX12_curveFault_71 : decode cX12_curveFault 71 = .ok (.ifCond .ge 22, 3) := by decide +kernel
theorem dX12_curveFault_74 : decode cX12_curveFault 74 = .ok (.aload_n 0, 1) := by decide +kernel
theorem dX12_curveFault_75 : decode cX12_curveFault 75 = .ok (.getfield 213, 3) := by decide +kernel
theorem dX12_curveFault_78 : decode cX12_curveFault 78 = .ok (.aload_n 0, 1) := by decide +kernel
theorem dX12_curveFault_79 : decode cX12_curveFault 79 = .ok (.getfield 206, 3) := by decide +kernel
theorem dX12_curveFault_82 : decode cX12_curveFault 82 = .ok (.if_icmp .ge 11, 3) := by decide +kernel
theorem dX12_curveFault_85 : decode cX12_curveFault 85 = .ok (.aload_n 0, 1) := by decide +kernel
theorem dX12_curveFault_86 : decode cX12_curveFault 86 = .ok (.aload_n 0, 1) := by decide +kernel
theorem dX12_curveFault_87 : decode cX12_curveFault 87 = .ok (.getfield 213, 3) := by decide +kernel
theorem dX12_curveFault_90 : decode cX12_curveFault 90 = .ok (.invokevirtual 226, 3) := by decide +kernel
theorem dX12_curveFault_93 : decode cX12_curveFault 93 = .ok (.aload_n 0, 1) := by decide +kernel
theorem dX12_curveFault_94 : decode cX12_curveFault 94 = .ok (.getfield 216, 3) := by decide +kernel
theorem dX12_curveFault_97 : decode cX12_curveFault 97 = .ok (.ireturn, 1) := by decide +kernel
theorem dX12_faultPosition_0 : decode cX12_faultPosition 0 = .ok (.iload_n 1, 1) := by decide +kernel
theorem dX12_faultPosition_1 : decode cX12_faultPosition 1 = .ok (.ifCond .eq 10, 3) := by decide +kernel
theorem dX12_faultPosition_4 : decode cX12_faultPosition 4 = .ok (.aload_n 0, 1) := by decide +kernel
theorem dX12_faultPosition_5 : decode cX12_faultPosition 5 = .ok (.invokevirtual 286, 3) := by decide +kernel
theorem dX12_faultPosition_8 : decode cX12_faultPosition 8 = .ok (.goto 7, 3) := by decide +kernel
theorem dX12_faultPosition_11 : decode cX12_faultPosition 11 = .ok (.aload_n 0, 1) := by decide +kernel
theorem dX12_faultPosition_12 : decode cX12_faultPosition 12 = .ok (.invokevirtual 289, 3) := by decide +kernel
theorem dX12_faultPosition_15 : decode cX12_faultPosition 15 = .ok (.istore_n 2, 1) := by decide +kernel
theorem dX12_faultPosition_16 : decode cX12_faultPosition 16 = .ok (.iload_n 2, 1) := by decide +kernel
theorem dX12_faultPosition_17 : decode cX12_faultPosition 17 = .ok (.ifCond .ge 8, 3) := by decide +kernel
theorem dX12_faultPosition_20 : decode cX12_faultPosition 20 = .ok (.ldc 90, 2) := by decide +kernel
theorem dX12_faultPosition_22 : decode cX12_faultPosition 22 = .ok (.goto 4, 3) := by decide +kernel
theorem dX12_faultPosition_25 : decode cX12_faultPosition 25 = .ok (.iload_n 2, 1) := by decide +kernel
theorem dX12_faultPosition_26 : decode cX12_faultPosition 26 = .ok (.ireturn, 1) := by decide +kernel
theorem dX12_readCurve_0 : decode cX12_readCurve 0 = .ok (.iload_n 1, 1) := by decide +kernel
theorem dX12_readCurve_1 : decode cX12_readCurve 1 = .ok (.invokestatic 74, 3) := by decide +kernel
theorem dX12_readCurve_4 : decode cX12_readCurve 4 = .ok (.ifCond .ne 6, 3) := by decide +kernel
theorem dX12_readCurve_7 : decode cX12_readCurve 7 = .ok (.ldc 131, 2) := by decide +kernel
theorem dX12_readCurve_9 : decode cX12_readCurve 9 = .ok (.ireturn, 1) := by decide +kernel
theorem dX12_readCurve_10 : decode cX12_readCurve 10 = .ok (.aload_n 0, 1) := by decide +kernel
theorem dX12_readCurve_11 : decode cX12_readCurve 11 = .ok (.invokevirtual 289, 3) := by decide +kernel
theorem dX12_readCurve_14 : decode cX12_readCurve 14 = .ok (.ifCond .lt 6, 3) := by decide +kernel
theorem dX12_readCurve_17 : decode cX12_readCurve 17 = .ok (.ldc 132, 2) := by decide +kernel
theorem dX12_readCurve_19 : decode cX12_readCurve 19 = .ok (.ireturn, 1) := by decide +kernel
theorem dX12_readCurve_20 : decode cX12_readCurve 20 = .ok (.aload_n 0, 1) := by decide +kernel
theorem dX12_readCurve_21 : decode cX12_readCurve 21 = .ok (.invokevirtual 146, 3) := by decide +kernel
theorem dX12_readCurve_24 : decode cX12_readCurve 24 = .ok (.aload_n 0, 1) := by decide +kernel
theorem dX12_readCurve_25 : decode cX12_readCurve 25 = .ok (.getfield 7, 3) := by decide +kernel
theorem dX12_readCurve_28 : decode cX12_readCurve 28 = .ok (.iload_n 1, 1) := by decide +kernel
theorem dX12_readCurve_29 : decode cX12_readCurve 29 = .ok (.iconst 0, 1) := by decide +kernel
theorem dX12_readCurve_30 : decode cX12_readCurve 30 = .ok (.iconst 0, 1) := by decide +kernel
theorem dX12_readCurve_31 : decode cX12_readCurve 31 = .ok (.invokestatic 70, 3) := by decide +kernel
theorem dX12_readCurve_34 : decode cX12_readCurve 34 = .ok (.iconst 0, 1) := by decide +kernel
theorem dX12_readCurve_35 : decode cX12_readCurve 35 = .ok (.iastore, 1) := by decide +kernel
theorem dX12_readCurve_36 : decode cX12_readCurve 36 = .ok (.iconst 0, 1) := by decide +kernel
theorem dX12_readCurve_37 : decode cX12_readCurve 37 = .ok (.istore_n 2, 1) := by decide +kernel
theorem dX12_readCurve_38 : decode cX12_readCurve 38 = .ok (.iload_n 2, 1) := by decide +kernel
theorem dX12_readCurve_39 : decode cX12_readCurve 39 = .ok (.aload_n 0, 1) := by decide +kernel
theorem dX12_readCurve_40 : decode cX12_readCurve 40 = .ok (.getfield 277, 3) := by decide +kernel
theorem dX12_readCurve_43 : decode cX12_readCurve 43 = .ok (.if_icmp .ge 45, 3) := by decide +kernel
theorem dX12_readCurve_46 : decode cX12_readCurve 46 = .ok (.aload_n 0, 1) := by decide +kernel
theorem dX12_readCurve_47 : decode cX12_readCurve 47 = .ok (.iload_n 1, 1) := by decide +kernel
theorem dX12_readCurve_48 : decode cX12_readCurve 48 = .ok (.aload_n 0, 1) := by decide +kernel
theorem dX12_readCurve_49 : decode cX12_readCurve 49 = .ok (.getfield 57, 3) := by decide +kernel
theorem dX12_readCurve_52 : decode cX12_readCurve 52 = .ok (.iconst 3, 1) := by decide +kernel
theorem dX12_readCurve_53 : decode cX12_readCurve 53 = .ok (.iload_n 2, 1) := by decide +kernel
theorem dX12_readCurve_54 : decode cX12_readCurve 54 = .ok (.imul, 1) := by decide +kernel
theorem dX12_readCurve_55 : decode cX12_readCurve 55 = .ok (.iaload, 1) := by decide +kernel
theorem dX12_readCurve_56 : decode cX12_readCurve 56 = .ok (.aload_n 0, 1) := by decide +kernel
theorem dX12_readCurve_57 : decode cX12_readCurve 57 = .ok (.getfield 57, 3) := by decide +kernel
theorem dX12_readCurve_60 : decode cX12_readCurve 60 = .ok (.iconst 3, 1) := by decide +kernel
theorem dX12_readCurve_61 : decode cX12_readCurve 61 = .ok (.iload_n 2, 1) := by decide +kernel
theorem dX12_readCurve_62 : decode cX12_readCurve 62 = .ok (.imul, 1) := by decide +kernel
theorem dX12_readCurve_63 : decode cX12_readCurve 63 = .ok (.iconst 1, 1) := by decide +kernel
theorem dX12_readCurve_64 : decode cX12_readCurve 64 = .ok (.iadd, 1) := by decide +kernel
theorem dX12_readCurve_65 : decode cX12_readCurve 65 = .ok (.iaload, 1) := by decide +kernel
theorem dX12_readCurve_66 : decode cX12_readCurve 66 = .ok (.aload_n 0, 1) := by decide +kernel
theorem dX12_readCurve_67 : decode cX12_readCurve 67 = .ok (.getfield 57, 3) := by decide +kernel
theorem dX12_readCurve_70 : decode cX12_readCurve 70 = .ok (.iconst 3, 1) := by decide +kernel
theorem dX12_readCurve_71 : decode cX12_readCurve 71 = .ok (.iload_n 2, 1) := by decide +kernel
theorem dX12_readCurve_72 : decode cX12_readCurve 72 = .ok (.imul, 1) := by decide +kernel
theorem dX12_readCurve_73 : decode cX12_readCurve 73 = .ok (.iconst 2, 1) := by decide +kernel
theorem dX12_readCurve_74 : decode cX12_readCurve 74 = .ok (.iadd, 1) := by decide +kernel
theorem dX12_readCurve_75 : decode cX12_readCurve 75 = .ok (.iaload, 1) := by decide +kernel
theorem dX12_readCurve_76 : decode cX12_readCurve 76 = .ok (.iconst 0, 1) := by decide +kernel
theorem dX12_readCurve_77 : decode cX12_readCurve 77 = .ok (.iconst 0, 1) := by decide +kernel
theorem dX12_readCurve_78 : decode cX12_readCurve 78 = .ok (.invokevirtual 149, 3) := by decide +kernel
theorem dX12_readCurve_81 : decode cX12_readCurve 81 = .ok (.istore_n 3, 1) := by decide +kernel
theorem dX12_readCurve_82 : decode cX12_readCurve 82 = .ok (.iinc 2 1, 3) := by decide +kernel
theorem dX12_readCurve_85 : decode cX12_readCurve 85 = .ok (.goto (-47), 3) := by decide +kernel
theorem dX12_readCurve_88 : decode cX12_readCurve 88 = .ok (.aload_n 0, 1) := by decide +kernel
theorem dX12_readCurve_89 : decode cX12_readCurve 89 = .ok (.getfield 277, 3) := by decide +kernel
theorem dX12_readCurve_92 : decode cX12_readCurve 92 = .ok (.ireturn, 1) := by decide +kernel
theorem dX12_readFormula_0 : decode cX12_readFormula 0 = .ok (.aload_n 0, 1) := by decide +kernel
theorem dX12_readFormula_1 : decode cX12_readFormula 1 = .ok (.invokevirtual 286, 3) := by decide +kernel
theorem dX12_readFormula_4 : decode cX12_readFormula 4 = .ok (.ifCond .lt 6, 3) := by decide +kernel
theorem dX12_readFormula_7 : decode cX12_readFormula 7 = .ok (.ldc 132, 2) := by decide +kernel
theorem dX12_readFormula_9 : decode cX12_readFormula 9 = .ok (.ireturn, 1) := by decide +kernel
theorem dX12_readFormula_10 : decode cX12_readFormula 10 = .ok (.aload_n 0, 1) := by decide +kernel
theorem dX12_readFormula_11 : decode cX12_readFormula 11 = .ok (.getfield 232, 3) := by decide +kernel
theorem dX12_readFormula_14 : decode cX12_readFormula 14 = .ok (.istore_n 1, 1) := by decide +kernel
theorem dX12_readFormula_15 : decode cX12_readFormula 15 = .ok (.aload_n 0, 1) := by decide +kernel
theorem dX12_readFormula_16 : decode cX12_readFormula 16 = .ok (.invokevirtual 146, 3) := by decide +kernel
theorem dX12_readFormula_19 : decode cX12_readFormula 19 = .ok (.aload_n 0, 1) := by decide +kernel
theorem dX12_readFormula_20 : decode cX12_readFormula 20 = .ok (.getfield 7, 3) := by decide +kernel
theorem dX12_readFormula_23 : decode cX12_readFormula 23 = .ok (.sipush 530, 3) := by decide +kernel
theorem dX12_readFormula_26 : decode cX12_readFormula 26 = .ok (.aload_n 0, 1) := by decide +kernel
theorem dX12_readFormula_27 : decode cX12_readFormula 27 = .ok (.getfield 206, 3) := by decide +kernel
theorem dX12_readFormula_30 : decode cX12_readFormula 30 = .ok (.iastore, 1) := by decide +kernel
theorem dX12_readFormula_31 : decode cX12_readFormula 31 = .ok (.iconst 0, 1) := by decide +kernel
theorem dX12_readFormula_32 : decode cX12_readFormula 32 = .ok (.istore_n 2, 1) := by decide +kernel
theorem dX12_readFormula_33 : decode cX12_readFormula 33 = .ok (.iload_n 2, 1) := by decide +kernel
theorem dX12_readFormula_34 : decode cX12_readFormula 34 = .ok (.aload_n 0, 1) := by decide +kernel
theorem dX12_readFormula_35 : decode cX12_readFormula 35 = .ok (.getfield 206, 3) := by decide +kernel
theorem dX12_readFormula_38 : decode cX12_readFormula 38 = .ok (.if_icmp .ge 25, 3) := by decide +kernel
theorem dX12_readFormula_41 : decode cX12_readFormula 41 = .ok (.aload_n 0, 1) := by decide +kernel
theorem dX12_readFormula_42 : decode cX12_readFormula 42 = .ok (.getfield 7, 3) := by decide +kernel
theorem dX12_readFormula_45 : decode cX12_readFormula 45 = .ok (.sipush 531, 3) := by decide +kernel
theorem dX12_readFormula_48 : decode cX12_readFormula 48 = .ok (.iload_n 2, 1) := by decide +kernel
theorem dX12_readFormula_49 : decode cX12_readFormula 49 = .ok (.iadd, 1) := by decide +kernel
theorem dX12_readFormula_50 : decode cX12_readFormula 50 = .ok (.aload_n 0, 1) := by decide +kernel
theorem dX12_readFormula_51 : decode cX12_readFormula 51 = .ok (.getfield 16, 3) := by decide +kernel
theorem dX12_readFormula_54 : decode cX12_readFormula 54 = .ok (.iload_n 2, 1) := by decide +kernel
theorem dX12_readFormula_55 : decode cX12_readFormula 55 = .ok (.iaload, 1) := by decide +kernel
theorem dX12_readFormula_56 : decode cX12_readFormula 56 = .ok (.iastore, 1) := by decide +kernel
theorem dX12_readFormula_57 : decode cX12_readFormula 57 = .ok (.iinc 2 1, 3) := by decide +kernel
theorem dX12_readFormula_60 : decode cX12_readFormula 60 = .ok (.goto (-27), 3) := by decide +kernel
theorem dX12_readFormula_63 : decode cX12_readFormula 63 = .ok (.iload_n 1, 1) := by decide +kernel
theorem dX12_readFormula_64 : decode cX12_readFormula 64 = .ok (.ireturn, 1) := by decide +kernel
theorem dX12_mix_0 : decode cX12_mix 0 = .ok (.iload_n 1, 1) := by decide +kernel
theorem dX12_mix_1 : decode cX12_mix 1 = .ok (.iconst 0, 1) := by decide +kernel
theorem dX12_mix_2 : decode cX12_mix 2 = .ok (.sipush 960, 3) := by decide +kernel
theorem dX12_mix_5 : decode cX12_mix 5 = .ok (.invokestatic 66, 3) := by decide +kernel
theorem dX12_mix_8 : decode cX12_mix 8 = .ok (.ifCond .eq 11, 3) := by decide +kernel
theorem dX12_mix_11 : decode cX12_mix 11 = .ok (.aload_n 0, 1) := by decide +kernel
theorem dX12_mix_12 : decode cX12_mix 12 = .ok (.iload_n 1, 1) := by decide +kernel
theorem dX12_mix_13 : decode cX12_mix 13 = .ok (.invokevirtual 184, 3) := by decide +kernel
theorem dX12_mix_16 : decode cX12_mix 16 = .ok (.goto 5, 3) := by decide +kernel
theorem dX12_mix_19 : decode cX12_mix 19 = .ok (.ldc 132, 2) := by decide +kernel
theorem dX12_mix_21 : decode cX12_mix 21 = .ok (.ireturn, 1) := by decide +kernel
theorem dX12_more_0 : decode cX12_more 0 = .ok (.ldc2_w 292, 3) := by decide +kernel
theorem dX12_more_3 : decode cX12_more 3 = .ok (.lload_n 0, 1) := by decide +kernel
theorem dX12_more_4 : decode cX12_more 4 = .ok (.lmul, 1) := by decide +kernel
theorem dX12_more_5 : decode cX12_more 5 = .ok (.iload_n 2, 1) := by decide +kernel
theorem dX12_more_6 : decode cX12_more 6 = .ok (.i2l, 1) := by decide +kernel
theorem dX12_more_7 : decode cX12_more 7 = .ok (.ladd, 1) := by decide +kernel
theorem dX12_more_8 : decode cX12_more 8 = .ok (.lreturn, 1) := by decide +kernel
theorem dX12_moreOf_0 : decode cX12_moreOf 0 = .ok (.lload_n 1, 1) := by decide +kernel
theorem dX12_moreOf_1 : decode cX12_moreOf 1 = .ok (.aload_n 0, 1) := by decide +kernel
theorem dX12_moreOf_2 : decode cX12_moreOf 2 = .ok (.iload_n 3, 1) := by decide +kernel
theorem dX12_moreOf_3 : decode cX12_moreOf 3 = .ok (.invokevirtual 78, 3) := by decide +kernel
theorem dX12_moreOf_6 : decode cX12_moreOf 6 = .ok (.invokestatic 294, 3) := by decide +kernel
theorem dX12_moreOf_9 : decode cX12_moreOf 9 = .ok (.lstore 4, 2) := by decide +kernel
theorem dX12_moreOf_11 : decode cX12_moreOf 11 = .ok (.iconst 0, 1) := by decide +kernel
theorem dX12_moreOf_12 : decode cX12_moreOf 12 = .ok (.istore 6, 2) := by decide +kernel
theorem dX12_moreOf_14 : decode cX12_moreOf 14 = .ok (.iload 6, 2) := by decide +kernel
theorem dX12_moreOf_16 : decode cX12_moreOf 16 = .ok (.aload_n 0, 1) := by decide +kernel
theorem dX12_moreOf_17 : decode cX12_moreOf 17 = .ok (.iload_n 3, 1) := by decide +kernel
theorem dX12_moreOf_18 : decode cX12_moreOf 18 = .ok (.invokevirtual 78, 3) := by decide +kernel
theorem dX12_moreOf_21 : decode cX12_moreOf 21 = .ok (.if_icmp .ge 81, 3) := by decide +kernel
theorem dX12_moreOf_24 : decode cX12_moreOf 24 = .ok (.lload 4, 2) := by decide +kernel
theorem dX12_moreOf_26 : decode cX12_moreOf 26 = .ok (.aload_n 0, 1) := by decide +kernel
theorem dX12_moreOf_27 : decode cX12_moreOf 27 = .ok (.iload_n 3, 1) := by decide +kernel
theorem dX12_moreOf_28 : decode cX12_moreOf 28 = .ok (.iload 6, 2) := by decide +kernel
theorem dX12_moreOf_30 : decode cX12_moreOf 30 = .ok (.invokevirtual 82, 3) := by decide +kernel
theorem dX12_moreOf_33 : decode cX12_moreOf 33 = .ok (.invokestatic 294, 3) := by decide +kernel
theorem dX12_moreOf_36 : decode cX12_moreOf 36 = .ok (.aload_n 0, 1) := by decide +kernel
theorem dX12_moreOf_37 : decode cX12_moreOf 37 = .ok (.getfield 7, 3) := by decide +kernel
theorem dX12_moreOf_40 : decode cX12_moreOf 40 = .ok (.iload_n 3, 1) := by decide +kernel
theorem dX12_moreOf_41 : decode cX12_moreOf 41 = .ok (.bipush 28, 2) := by decide +kernel
theorem dX12_moreOf_43 : decode cX12_moreOf 43 = .ok (.iload 6, 2) := by decide +kernel
theorem dX12_moreOf_45 : decode cX12_moreOf 45 = .ok (.invokestatic 70, 3) := by decide +kernel
theorem dX12_moreOf_48 : decode cX12_moreOf 48 = .ok (.iaload, 1) := by decide +kernel
theorem dX12_moreOf_49 : decode cX12_moreOf 49 = .ok (.invokestatic 294, 3) := by decide +kernel
theorem dX12_moreOf_52 : decode cX12_moreOf 52 = .ok (.aload_n 0, 1) := by decide +kernel
theorem dX12_moreOf_53 : decode cX12_moreOf 53 = .ok (.getfield 7, 3) := by decide +kernel
theorem dX12_moreOf_56 : decode cX12_moreOf 56 = .ok (.iload_n 3, 1) := by decide +kernel
theorem dX12_moreOf_57 : decode cX12_moreOf 57 = .ok (.bipush 52, 2) := by decide +kernel
theorem dX12_moreOf_59 : decode cX12_moreOf 59 = .ok (.iload 6, 2) := by decide +kernel
theorem dX12_moreOf_61 : decode cX12_moreOf 61 = .ok (.invokestatic 70, 3) := by decide +kernel
theorem dX12_moreOf_64 : decode cX12_moreOf 64 = .ok (.iaload, 1) := by decide +kernel
theorem dX12_moreOf_65 : decode cX12_moreOf 65 = .ok (.invokestatic 294, 3) := by decide +kernel
theorem dX12_moreOf_68 : decode cX12_moreOf 68 = .ok (.lstore 4, 2) := by decide +kernel
theorem dX12_moreOf_70 : decode cX12_moreOf 70 = .ok (.lload 4, 2) := by decide +kernel
theorem dX12_moreOf_72 : decode cX12_moreOf 72 = .ok (.aload_n 0, 1) := by decide +kernel
theorem dX12_moreOf_73 : decode cX12_moreOf 73 = .ok (.iload_n 3, 1) := by decide +kernel
theorem dX12_moreOf_74 : decode cX12_moreOf 74 = .ok (.iload 6, 2) := by decide +kernel
theorem dX12_moreOf_76 : decode cX12_moreOf 76 = .ok (.iconst 0, 1) := by decide +kernel
theorem dX12_moreOf_77 : decode cX12_moreOf 77 = .ok (.invokevirtual 122, 3) := by decide +kernel
theorem dX12_moreOf_80 : decode cX12_moreOf 80 = .ok (.invokestatic 294, 3) := by decide +kernel
theorem dX12_moreOf_83 : decode cX12_moreOf 83 = .ok (.aload_n 0, 1) := by decide +kernel
theorem dX12_moreOf_84 : decode cX12_moreOf 84 = .ok (.iload_n 3, 1) := by decide +kernel
theorem dX12_moreOf_85 : decode cX12_moreOf 85 = .ok (.iload 6, 2) := by decide +kernel
theorem dX12_moreOf_87 : decode cX12_moreOf 87 = .ok (.iconst 1, 1) := by decide +kernel
theorem dX12_moreOf_88 : decode cX12_moreOf 88 = .ok (.invokevirtual 122, 3) := by decide +kernel
theorem dX12_moreOf_91 : decode cX12_moreOf 91 = .ok (.invokestatic 294, 3) := by decide +kernel
theorem dX12_moreOf_94 : decode cX12_moreOf 94 = .ok (.lstore 4, 2) := by decide +kernel
theorem dX12_moreOf_96 : decode cX12_moreOf 96 = .ok (.iinc 6 1, 3) := by decide +kernel
theorem dX12_moreOf_99 : decode cX12_moreOf 99 = .ok (.goto (-85), 3) := by decide +kernel
theorem dX12_moreOf_102 : decode cX12_moreOf 102 = .ok (.lload 4, 2) := by decide +kernel
theorem dX12_moreOf_104 : decode cX12_moreOf 104 = .ok (.bipush 10, 2) := by decide +kernel
theorem dX12_moreOf_106 : decode cX12_moreOf 106 = .ok (.aload_n 0, 1) := by decide +kernel
theorem dX12_moreOf_107 : decode cX12_moreOf 107 = .ok (.getfield 7, 3) := by decide +kernel
theorem dX12_moreOf_110 : decode cX12_moreOf 110 = .ok (.iload_n 3, 1) := by decide +kernel
theorem dX12_moreOf_111 : decode cX12_moreOf 111 = .ok (.iconst 1, 1) := by decide +kernel
theorem dX12_moreOf_112 : decode cX12_moreOf 112 = .ok (.iconst 0, 1) := by decide +kernel
theorem dX12_moreOf_113 : decode cX12_moreOf 113 = .ok (.invokestatic 70, 3) := by decide +kernel
theorem dX12_moreOf_116 : decode cX12_moreOf 116 = .ok (.iaload, 1) := by decide +kernel
theorem dX12_moreOf_117 : decode cX12_moreOf 117 = .ok (.imul, 1) := by decide +kernel
theorem dX12_moreOf_118 : decode cX12_moreOf 118 = .ok (.aload_n 0, 1) := by decide +kernel
theorem dX12_moreOf_119 : decode cX12_moreOf 119 = .ok (.getfield 7, 3) := by decide +kernel
theorem dX12_moreOf_122 : decode cX12_moreOf 122 = .ok (.iload_n 3, 1) := by decide +kernel
theorem dX12_moreOf_123 : decode cX12_moreOf 123 = .ok (.iconst 2, 1) := by decide +kernel
theorem dX12_moreOf_124 : decode cX12_moreOf 124 = .ok (.iconst 0, 1) := by decide +kernel
theorem dX12_moreOf_125 : decode cX12_moreOf 125 = .ok (.invokestatic 70, 3) := by decide +kernel
theorem dX12_moreOf_128 : decode cX12_moreOf 128 = .ok (.iaload, 1) := by decide +kernel
theorem dX12_moreOf_129 : decode cX12_moreOf 129 = .ok (.iadd, 1) := by decide +kernel
theorem dX12_moreOf_130 : decode cX12_moreOf 130 = .ok (.invokestatic 294, 3) := by decide +kernel
theorem dX12_moreOf_133 : decode cX12_moreOf 133 = .ok (.lstore 4, 2) := by decide +kernel
theorem dX12_moreOf_135 : decode cX12_moreOf 135 = .ok (.iconst 0, 1) := by decide +kernel
theorem dX12_moreOf_136 : decode cX12_moreOf 136 = .ok (.istore 6, 2) := by decide +kernel
theorem dX12_moreOf_138 : decode cX12_moreOf 138 = .ok (.iload 6, 2) := by decide +kernel
theorem dX12_moreOf_140 : decode cX12_moreOf 140 = .ok (.sipush 960, 3) := by decide +kernel
theorem dX12_moreOf_143 : decode cX12_moreOf 143 = .ok (.if_icmp .gt 31, 3) := by decide +kernel
theorem dX12_moreOf_146 : decode cX12_moreOf 146 = .ok (.aload_n 0, 1) := by decide +kernel
theorem dX12_moreOf_147 : decode cX12_moreOf 147 = .ok (.iload_n 3, 1) := by decide +kernel
theorem dX12_moreOf_148 : decode cX12_moreOf 148 = .ok (.invokevirtual 78, 3) := by decide +kernel
theorem dX12_moreOf_151 : decode cX12_moreOf 151 = .ok (.ifCond .le 23, 3) := by decide +kernel
theorem dX12_moreOf_154 : decode cX12_moreOf 154 = .ok (.lload 4, 2) := by decide +kernel
theorem dX12_moreOf_156 : decode cX12_moreOf 156 = .ok (.aload_n 0, 1) := by decide +kernel
theorem dX12_moreOf_157 : decode cX12_moreOf 157 = .ok (.iload_n 3, 1) := by decide +kernel
theorem dX12_moreOf_158 : decode cX12_moreOf 158 = .ok (.iload 6, 2) := by decide +kernel
theorem dX12_moreOf_160 : decode cX12_moreOf 160 = .ok (.invokevirtual 133, 3) := by decide +kernel
theorem dX12_moreOf_163 : decode cX12_moreOf 163 = .ok (.invokestatic 294, 3) := by decide +kernel
theorem dX12_moreOf_166 : decode cX12_moreOf 166 = .ok (.lstore 4, 2) := by decide +kernel
theorem dX12_moreOf_168 : decode cX12_moreOf 168 = .ok (.iinc 6 60, 3) := by decide +kernel
theorem dX12_moreOf_171 : decode cX12_moreOf 171 = .ok (.goto (-33), 3) := by decide +kernel
theorem dX12_moreOf_174 : decode cX12_moreOf 174 = .ok (.lload 4, 2) := by decide +kernel
theorem dX12_moreOf_176 : decode cX12_moreOf 176 = .ok (.lreturn, 1) := by decide +kernel
theorem dX12_checksum_0 : decode cX12_checksum 0 = .ok (.ldc2_w 298, 3) := by decide +kernel
theorem dX12_checksum_3 : decode cX12_checksum 3 = .ok (.lstore_n 1, 1) := by decide +kernel
theorem dX12_checksum_4 : decode cX12_checksum 4 = .ok (.iconst 0, 1) := by decide +kernel
theorem dX12_checksum_5 : decode cX12_checksum 5 = .ok (.istore_n 3, 1) := by decide +kernel
theorem dX12_checksum_6 : decode cX12_checksum 6 = .ok (.iload_n 3, 1) := by decide +kernel
theorem dX12_checksum_7 : decode cX12_checksum 7 = .ok (.iconst 4, 1) := by decide +kernel
theorem dX12_checksum_8 : decode cX12_checksum 8 = .ok (.if_icmp .ge 16, 3) := by decide +kernel
theorem dX12_checksum_11 : decode cX12_checksum 11 = .ok (.aload_n 0, 1) := by decide +kernel
theorem dX12_checksum_12 : decode cX12_checksum 12 = .ok (.lload_n 1, 1) := by decide +kernel
theorem dX12_checksum_13 : decode cX12_checksum 13 = .ok (.iload_n 3, 1) := by decide +kernel
theorem dX12_checksum_14 : decode cX12_checksum 14 = .ok (.invokevirtual 300, 3) := by decide +kernel
theorem dX12_checksum_17 : decode cX12_checksum 17 = .ok (.lstore_n 1, 1) := by decide +kernel
theorem dX12_checksum_18 : decode cX12_checksum 18 = .ok (.iinc 3 1, 3) := by decide +kernel
theorem dX12_checksum_21 : decode cX12_checksum 21 = .ok (.goto (-15), 3) := by decide +kernel
theorem dX12_checksum_24 : decode cX12_checksum 24 = .ok (.lload_n 1, 1) := by decide +kernel
theorem dX12_checksum_25 : decode cX12_checksum 25 = .ok (.aload_n 0, 1) := by decide +kernel
theorem dX12_checksum_26 : decode cX12_checksum 26 = .ok (.getfield 7, 3) := by decide +kernel
theorem dX12_checksum_29 : decode cX12_checksum 29 = .ok (.sipush 512, 3) := by decide +kernel
theorem dX12_checksum_32 : decode cX12_checksum 32 = .ok (.iaload, 1) := by decide +kernel
theorem dX12_checksum_33 : decode cX12_checksum 33 = .ok (.invokestatic 294, 3) := by decide +kernel
theorem dX12_checksum_36 : decode cX12_checksum 36 = .ok (.lstore_n 1, 1) := by decide +kernel
theorem dX12_checksum_37 : decode cX12_checksum 37 = .ok (.iconst 0, 1) := by decide +kernel
theorem dX12_checksum_38 : decode cX12_checksum 38 = .ok (.istore_n 3, 1) := by decide +kernel
theorem dX12_checksum_39 : decode cX12_checksum 39 = .ok (.iload_n 3, 1) := by decide +kernel
theorem dX12_checksum_40 : decode cX12_checksum 40 = .ok (.aload_n 0, 1) := by decide +kernel
theorem dX12_checksum_41 : decode cX12_checksum 41 = .ok (.getfield 7, 3) := by decide +kernel
theorem dX12_checksum_44 : decode cX12_checksum 44 = .ok (.sipush 512, 3) := by decide +kernel
theorem dX12_checksum_47 : decode cX12_checksum 47 = .ok (.iaload, 1) := by decide +kernel
theorem dX12_checksum_48 : decode cX12_checksum 48 = .ok (.if_icmp .ge 37, 3) := by decide +kernel
theorem dX12_checksum_51 : decode cX12_checksum 51 = .ok (.lload_n 1, 1) := by decide +kernel
theorem dX12_checksum_52 : decode cX12_checksum 52 = .ok (.aload_n 0, 1) := by decide +kernel
theorem dX12_checksum_53 : decode cX12_checksum 53 = .ok (.getfield 7, 3) := by decide +kernel
theorem dX12_checksum_56 : decode cX12_checksum 56 = .ok (.sipush 513, 3) := by decide +kernel
theorem dX12_checksum_59 : decode cX12_checksum 59 = .ok (.iload_n 3, 1) := by decide +kernel
theorem dX12_checksum_60 : decode cX12_checksum 60 = .ok (.iadd, 1) := by decide +kernel
theorem dX12_checksum_61 : decode cX12_checksum 61 = .ok (.iaload, 1) := by decide +kernel
theorem dX12_checksum_62 : decode cX12_checksum 62 = .ok (.invokestatic 294, 3) := by decide +kernel
theorem dX12_checksum_65 : decode cX12_checksum 65 = .ok (.aload_n 0, 1) := by decide +kernel
theorem dX12_checksum_66 : decode cX12_checksum 66 = .ok (.getfield 7, 3) := by decide +kernel
theorem dX12_checksum_69 : decode cX12_checksum 69 = .ok (.sipush 521, 3) := by decide +kernel
theorem dX12_checksum_72 : decode cX12_checksum 72 = .ok (.iload_n 3, 1) := by decide +kernel
theorem dX12_checksum_73 : decode cX12_checksum 73 = .ok (.iadd, 1) := by decide +kernel
theorem dX12_checksum_74 : decode cX12_checksum 74 = .ok (.iaload, 1) := by decide +kernel
theorem dX12_checksum_75 : decode cX12_checksum 75 = .ok (.invokestatic 294, 3) := by decide +kernel
theorem dX12_checksum_78 : decode cX12_checksum 78 = .ok (.lstore_n 1, 1) := by decide +kernel
theorem dX12_checksum_79 : decode cX12_checksum 79 = .ok (.iinc 3 1, 3) := by decide +kernel
theorem dX12_checksum_82 : decode cX12_checksum 82 = .ok (.goto (-43), 3) := by decide +kernel
theorem dX12_checksum_85 : decode cX12_checksum 85 = .ok (.iconst 0, 1) := by decide +kernel
theorem dX12_checksum_86 : decode cX12_checksum 86 = .ok (.istore_n 3, 1) := by decide +kernel
theorem dX12_checksum_87 : decode cX12_checksum 87 = .ok (.iload_n 3, 1) := by decide +kernel
theorem dX12_checksum_88 : decode cX12_checksum 88 = .ok (.sipush 960, 3) := by decide +kernel
theorem dX12_checksum_91 : decode cX12_checksum 91 = .ok (.if_icmp .gt 19, 3) := by decide +kernel
theorem dX12_checksum_94 : decode cX12_checksum 94 = .ok (.lload_n 1, 1) := by decide +kernel
theorem dX12_checksum_95 : decode cX12_checksum 95 = .ok (.aload_n 0, 1) := by decide +kernel
theorem dX12_checksum_96 : decode cX12_checksum 96 = .ok (.iload_n 3, 1) := by decide +kernel
theorem dX12_checksum_97 : decode cX12_checksum 97 = .ok (.invokevirtual 184, 3) := by decide +kernel
theorem dX12_checksum_100 : decode cX12_checksum 100 = .ok (.invokestatic 294, 3) := by decide +kernel
theorem dX12_checksum_103 : decode cX12_checksum 103 = .ok (.lstore_n 1, 1) := by decide +kernel
theorem dX12_checksum_104 : decode cX12_checksum 104 = .ok (.iinc 3 60, 3) := by decide +kernel
theorem dX12_checksum_107 : decode cX12_checksum 107 = .ok (.goto (-20), 3) := by decide +kernel
theorem dX12_checksum_110 : decode cX12_checksum 110 = .ok (.lload_n 1, 1) := by decide +kernel
theorem dX12_checksum_111 : decode cX12_checksum 111 = .ok (.lreturn, 1) := by decide +kernel
theorem dJ9_floorDiv_7cf53_0 : decode cJ9_floorDiv_7cf53 0 = .ok (.iload_n 0, 1) := by decide +kernel
theorem dJ9_floorDiv_7cf53_1 : decode cJ9_floorDiv_7cf53 1 = .ok (.iload_n 1, 1) := by decide +kernel
theorem dJ9_floorDiv_7cf53_2 : decode cJ9_floorDiv_7cf53 2 = .ok (.idiv, 1) := by decide +kernel
theorem dJ9_floorDiv_7cf53_3 : decode cJ9_floorDiv_7cf53 3 = .ok (.istore_n 2, 1) := by decide +kernel
theorem dJ9_floorDiv_7cf53_4 : decode cJ9_floorDiv_7cf53 4 = .ok (.iload_n 0, 1) := by decide +kernel
theorem dJ9_floorDiv_7cf53_5 : decode cJ9_floorDiv_7cf53 5 = .ok (.iload_n 1, 1) := by decide +kernel
theorem dJ9_floorDiv_7cf53_6 : decode cJ9_floorDiv_7cf53 6 = .ok (.ixor, 1) := by decide +kernel
theorem dJ9_floorDiv_7cf53_7 : decode cJ9_floorDiv_7cf53 7 = .ok (.ifCond .ge 14, 3) := by decide +kernel
theorem dJ9_floorDiv_7cf53_10 : decode cJ9_floorDiv_7cf53 10 = .ok (.iload_n 2, 1) := by decide +kernel
theorem dJ9_floorDiv_7cf53_11 : decode cJ9_floorDiv_7cf53 11 = .ok (.iload_n 1, 1) := by decide +kernel
theorem dJ9_floorDiv_7cf53_12 : decode cJ9_floorDiv_7cf53 12 = .ok (.imul, 1) := by decide +kernel
theorem dJ9_floorDiv_7cf53_13 : decode cJ9_floorDiv_7cf53 13 = .ok (.iload_n 0, 1) := by decide +kernel
theorem dJ9_floorDiv_7cf53_14 : decode cJ9_floorDiv_7cf53 14 = .ok (.if_icmp .eq 7, 3) := by decide +kernel
theorem dJ9_floorDiv_7cf53_17 : decode cJ9_floorDiv_7cf53 17 = .ok (.iload_n 2, 1) := by decide +kernel
theorem dJ9_floorDiv_7cf53_18 : decode cJ9_floorDiv_7cf53 18 = .ok (.iconst 1, 1) := by decide +kernel
theorem dJ9_floorDiv_7cf53_19 : decode cJ9_floorDiv_7cf53 19 = .ok (.isub, 1) := by decide +kernel
theorem dJ9_floorDiv_7cf53_20 : decode cJ9_floorDiv_7cf53 20 = .ok (.ireturn, 1) := by decide +kernel
theorem dJ9_floorDiv_7cf53_21 : decode cJ9_floorDiv_7cf53 21 = .ok (.iload_n 2, 1) := by decide +kernel
theorem dJ9_floorDiv_7cf53_22 : decode cJ9_floorDiv_7cf53 22 = .ok (.ireturn, 1) := by decide +kernel
theorem dJ9_floorDiv_f86c9_0 : decode cJ9_floorDiv_f86c9 0 = .ok (.lload_n 0, 1) := by decide +kernel
theorem dJ9_floorDiv_f86c9_1 : decode cJ9_floorDiv_f86c9 1 = .ok (.lload_n 2, 1) := by decide +kernel
theorem dJ9_floorDiv_f86c9_2 : decode cJ9_floorDiv_f86c9 2 = .ok (.ldiv, 1) := by decide +kernel
theorem dJ9_floorDiv_f86c9_3 : decode cJ9_floorDiv_f86c9 3 = .ok (.lstore 4, 2) := by decide +kernel
theorem dJ9_floorDiv_f86c9_5 : decode cJ9_floorDiv_f86c9 5 = .ok (.lload_n 0, 1) := by decide +kernel
theorem dJ9_floorDiv_f86c9_6 : decode cJ9_floorDiv_f86c9 6 = .ok (.lload_n 2, 1) := by decide +kernel
theorem dJ9_floorDiv_f86c9_7 : decode cJ9_floorDiv_f86c9 7 = .ok (.lxor, 1) := by decide +kernel
theorem dJ9_floorDiv_f86c9_8 : decode cJ9_floorDiv_f86c9 8 = .ok (.lconst 0, 1) := by decide +kernel
theorem dJ9_floorDiv_f86c9_9 : decode cJ9_floorDiv_f86c9 9 = .ok (.lcmp, 1) := by decide +kernel
theorem dJ9_floorDiv_f86c9_10 : decode cJ9_floorDiv_f86c9 10 = .ok (.ifCond .ge 17, 3) := by decide +kernel
theorem dJ9_floorDiv_f86c9_13 : decode cJ9_floorDiv_f86c9 13 = .ok (.lload 4, 2) := by decide +kernel
theorem dJ9_floorDiv_f86c9_15 : decode cJ9_floorDiv_f86c9 15 = .ok (.lload_n 2, 1) := by decide +kernel
theorem dJ9_floorDiv_f86c9_16 : decode cJ9_floorDiv_f86c9 16 = .ok (.lmul, 1) := by decide +kernel
theorem dJ9_floorDiv_f86c9_17 : decode cJ9_floorDiv_f86c9 17 = .ok (.lload_n 0, 1) := by decide +kernel
theorem dJ9_floorDiv_f86c9_18 : decode cJ9_floorDiv_f86c9 18 = .ok (.lcmp, 1) := by decide +kernel
theorem dJ9_floorDiv_f86c9_19 : decode cJ9_floorDiv_f86c9 19 = .ok (.ifCond .eq 8, 3) := by decide +kernel
theorem dJ9_floorDiv_f86c9_22 : decode cJ9_floorDiv_f86c9 22 = .ok (.lload 4, 2) := by decide +kernel
theorem dJ9_floorDiv_f86c9_24 : decode cJ9_floorDiv_f86c9 24 = .ok (.lconst 1, 1) := by decide +kernel
theorem dJ9_floorDiv_f86c9_25 : decode cJ9_floorDiv_f86c9 25 = .ok (.lsub, 1) := by decide +kernel
theorem dJ9_floorDiv_f86c9_26 : decode cJ9_floorDiv_f86c9 26 = .ok (.lreturn, 1) := by decide +kernel
theorem dJ9_floorDiv_f86c9_27 : decode cJ9_floorDiv_f86c9 27 = .ok (.lload 4, 2) := by decide +kernel
theorem dJ9_floorDiv_f86c9_29 : decode cJ9_floorDiv_f86c9 29 = .ok (.lreturn, 1) := by decide +kernel
theorem dJ9_floorMod_7cf53_0 : decode cJ9_floorMod_7cf53 0 = .ok (.iload_n 0, 1) := by decide +kernel
theorem dJ9_floorMod_7cf53_1 : decode cJ9_floorMod_7cf53 1 = .ok (.iload_n 1, 1) := by decide +kernel
theorem dJ9_floorMod_7cf53_2 : decode cJ9_floorMod_7cf53 2 = .ok (.irem, 1) := by decide +kernel
theorem dJ9_floorMod_7cf53_3 : decode cJ9_floorMod_7cf53 3 = .ok (.istore_n 2, 1) := by decide +kernel
theorem dJ9_floorMod_7cf53_4 : decode cJ9_floorMod_7cf53 4 = .ok (.iload_n 0, 1) := by decide +kernel
theorem dJ9_floorMod_7cf53_5 : decode cJ9_floorMod_7cf53 5 = .ok (.iload_n 1, 1) := by decide +kernel
theorem dJ9_floorMod_7cf53_6 : decode cJ9_floorMod_7cf53 6 = .ok (.ixor, 1) := by decide +kernel
theorem dJ9_floorMod_7cf53_7 : decode cJ9_floorMod_7cf53 7 = .ok (.ifCond .ge 11, 3) := by decide +kernel
theorem dJ9_floorMod_7cf53_10 : decode cJ9_floorMod_7cf53 10 = .ok (.iload_n 2, 1) := by decide +kernel
theorem dJ9_floorMod_7cf53_11 : decode cJ9_floorMod_7cf53 11 = .ok (.ifCond .eq 7, 3) := by decide +kernel
theorem dJ9_floorMod_7cf53_14 : decode cJ9_floorMod_7cf53 14 = .ok (.iload_n 2, 1) := by decide +kernel
theorem dJ9_floorMod_7cf53_15 : decode cJ9_floorMod_7cf53 15 = .ok (.iload_n 1, 1) := by decide +kernel
theorem dJ9_floorMod_7cf53_16 : decode cJ9_floorMod_7cf53 16 = .ok (.iadd, 1) := by decide +kernel
theorem dJ9_floorMod_7cf53_17 : decode cJ9_floorMod_7cf53 17 = .ok (.ireturn, 1) := by decide +kernel
theorem dJ9_floorMod_7cf53_18 : decode cJ9_floorMod_7cf53 18 = .ok (.iload_n 2, 1) := by decide +kernel
theorem dJ9_floorMod_7cf53_19 : decode cJ9_floorMod_7cf53 19 = .ok (.ireturn, 1) := by decide +kernel
theorem dJ9_abs_0f7a4_0 : decode cJ9_abs_0f7a4 0 = .ok (.iload_n 0, 1) := by decide +kernel
theorem dJ9_abs_0f7a4_1 : decode cJ9_abs_0f7a4 1 = .ok (.ifCond .ge 8, 3) := by decide +kernel
theorem dJ9_abs_0f7a4_4 : decode cJ9_abs_0f7a4 4 = .ok (.iload_n 0, 1) := by decide +kernel
theorem dJ9_abs_0f7a4_5 : decode cJ9_abs_0f7a4 5 = .ok (.ineg, 1) := by decide +kernel
theorem dJ9_abs_0f7a4_6 : decode cJ9_abs_0f7a4 6 = .ok (.goto 4, 3) := by decide +kernel
theorem dJ9_abs_0f7a4_9 : decode cJ9_abs_0f7a4 9 = .ok (.iload_n 0, 1) := by decide +kernel
theorem dJ9_abs_0f7a4_10 : decode cJ9_abs_0f7a4 10 = .ok (.ireturn, 1) := by decide +kernel
theorem dJ9_abs_067f4_0 : decode cJ9_abs_067f4 0 = .ok (.lload_n 0, 1) := by decide +kernel
theorem dJ9_abs_067f4_1 : decode cJ9_abs_067f4 1 = .ok (.lconst 0, 1) := by decide +kernel
theorem dJ9_abs_067f4_2 : decode cJ9_abs_067f4 2 = .ok (.lcmp, 1) := by decide +kernel
theorem dJ9_abs_067f4_3 : decode cJ9_abs_067f4 3 = .ok (.ifCond .ge 8, 3) := by decide +kernel
theorem dJ9_abs_067f4_6 : decode cJ9_abs_067f4 6 = .ok (.lload_n 0, 1) := by decide +kernel
theorem dJ9_abs_067f4_7 : decode cJ9_abs_067f4 7 = .ok (.lneg, 1) := by decide +kernel
theorem dJ9_abs_067f4_8 : decode cJ9_abs_067f4 8 = .ok (.goto 4, 3) := by decide +kernel
theorem dJ9_abs_067f4_11 : decode cJ9_abs_067f4 11 = .ok (.lload_n 0, 1) := by decide +kernel
theorem dJ9_abs_067f4_12 : decode cJ9_abs_067f4 12 = .ok (.lreturn, 1) := by decide +kernel
theorem dJ9_max_7cf53_0 : decode cJ9_max_7cf53 0 = .ok (.iload_n 0, 1) := by decide +kernel
theorem dJ9_max_7cf53_1 : decode cJ9_max_7cf53 1 = .ok (.iload_n 1, 1) := by decide +kernel
theorem dJ9_max_7cf53_2 : decode cJ9_max_7cf53 2 = .ok (.if_icmp .lt 7, 3) := by decide +kernel
theorem dJ9_max_7cf53_5 : decode cJ9_max_7cf53 5 = .ok (.iload_n 0, 1) := by decide +kernel
theorem dJ9_max_7cf53_6 : decode cJ9_max_7cf53 6 = .ok (.goto 4, 3) := by decide +kernel
theorem dJ9_max_7cf53_9 : decode cJ9_max_7cf53 9 = .ok (.iload_n 1, 1) := by decide +kernel
theorem dJ9_max_7cf53_10 : decode cJ9_max_7cf53 10 = .ok (.ireturn, 1) := by decide +kernel
theorem dJ9_max_f86c9_0 : decode cJ9_max_f86c9 0 = .ok (.lload_n 0, 1) := by decide +kernel
theorem dJ9_max_f86c9_1 : decode cJ9_max_f86c9 1 = .ok (.lload_n 2, 1) := by decide +kernel
theorem dJ9_max_f86c9_2 : decode cJ9_max_f86c9 2 = .ok (.lcmp, 1) := by decide +kernel
theorem dJ9_max_f86c9_3 : decode cJ9_max_f86c9 3 = .ok (.ifCond .lt 7, 3) := by decide +kernel
theorem dJ9_max_f86c9_6 : decode cJ9_max_f86c9 6 = .ok (.lload_n 0, 1) := by decide +kernel
theorem dJ9_max_f86c9_7 : decode cJ9_max_f86c9 7 = .ok (.goto 4, 3) := by decide +kernel
theorem dJ9_max_f86c9_10 : decode cJ9_max_f86c9 10 = .ok (.lload_n 2, 1) := by decide +kernel
theorem dJ9_max_f86c9_11 : decode cJ9_max_f86c9 11 = .ok (.lreturn, 1) := by decide +kernel
theorem dJ9_min_7cf53_0 : decode cJ9_min_7cf53 0 = .ok (.iload_n 0, 1) := by decide +kernel
theorem dJ9_min_7cf53_1 : decode cJ9_min_7cf53 1 = .ok (.iload_n 1, 1) := by decide +kernel
theorem dJ9_min_7cf53_2 : decode cJ9_min_7cf53 2 = .ok (.if_icmp .gt 7, 3) := by decide +kernel
theorem dJ9_min_7cf53_5 : decode cJ9_min_7cf53 5 = .ok (.iload_n 0, 1) := by decide +kernel
theorem dJ9_min_7cf53_6 : decode cJ9_min_7cf53 6 = .ok (.goto 4, 3) := by decide +kernel
theorem dJ9_min_7cf53_9 : decode cJ9_min_7cf53 9 = .ok (.iload_n 1, 1) := by decide +kernel
theorem dJ9_min_7cf53_10 : decode cJ9_min_7cf53 10 = .ok (.ireturn, 1) := by decide +kernel
theorem dJ9_min_f86c9_0 : decode cJ9_min_f86c9 0 = .ok (.lload_n 0, 1) := by decide +kernel
theorem dJ9_min_f86c9_1 : decode cJ9_min_f86c9 1 = .ok (.lload_n 2, 1) := by decide +kernel
theorem dJ9_min_f86c9_2 : decode cJ9_min_f86c9 2 = .ok (.lcmp, 1) := by decide +kernel
theorem dJ9_min_f86c9_3 : decode cJ9_min_f86c9 3 = .ok (.ifCond .gt 7, 3) := by decide +kernel
theorem dJ9_min_f86c9_6 : decode cJ9_min_f86c9 6 = .ok (.lload_n 0, 1) := by decide +kernel
theorem dJ9_min_f86c9_7 : decode cJ9_min_f86c9 7 = .ok (.goto 4, 3) := by decide +kernel
theorem dJ9_min_f86c9_10 : decode cJ9_min_f86c9 10 = .ok (.lload_n 2, 1) := by decide +kernel
theorem dJ9_min_f86c9_11 : decode cJ9_min_f86c9 11 = .ok (.lreturn, 1) := by decide +kernel
theorem dL_law_0 : decode cL_law 0 = .ok (.new 7, 3) := by decide +kernel
theorem dL_law_3 : decode cL_law 3 = .ok (.dup, 1) := by decide +kernel
theorem dL_law_4 : decode cL_law 4 = .ok (.invokespecial 9, 3) := by decide +kernel
theorem dL_law_7 : decode cL_law 7 = .ok (.astore_n 1, 1) := by decide +kernel
theorem dL_law_8 : decode cL_law 8 = .ok (.new 10, 3) := by decide +kernel
theorem dL_law_11 : decode cL_law 11 = .ok (.dup, 1) := by decide +kernel
theorem dL_law_12 : decode cL_law 12 = .ok (.invokespecial 12, 3) := by decide +kernel
theorem dL_law_15 : decode cL_law 15 = .ok (.astore_n 2, 1) := by decide +kernel
theorem dL_law_16 : decode cL_law 16 = .ok (.iconst 0, 1) := by decide +kernel
theorem dL_law_17 : decode cL_law 17 = .ok (.istore_n 3, 1) := by decide +kernel
theorem dL_law_18 : decode cL_law 18 = .ok (.iload_n 3, 1) := by decide +kernel
theorem dL_law_19 : decode cL_law 19 = .ok (.aload_n 0, 1) := by decide +kernel
theorem dL_law_20 : decode cL_law 20 = .ok (.arraylength, 1) := by decide +kernel
theorem dL_law_21 : decode cL_law 21 = .ok (.bipush 6, 2) := by decide +kernel
theorem dL_law_23 : decode cL_law 23 = .ok (.isub, 1) := by decide +kernel
theorem dL_law_24 : decode cL_law 24 = .ok (.if_icmp .gt 1405, 3) := by decide +kernel
theorem dL_law_27 : decode cL_law 27 = .ok (.aload_n 0, 1) := by decide +kernel
theorem dL_law_28 : decode cL_law 28 = .ok (.iload_n 3, 1) := by decide +kernel
theorem dL_law_29 : decode cL_law 29 = .ok (.iaload, 1) := by decide +kernel
theorem dL_law_30 : decode cL_law 30 = .ok (.bipush 63, 2) := by decide +kernel
theorem dL_law_32 : decode cL_law 32 = .ok (.iand, 1) := by decide +kernel
theorem dL_law_33 : decode cL_law 33 = .ok (.tableswitch 1390 0 33 #[151, 194, 227, 270, 313, 366, 399, 422, 465, 488, 521, 554, 587, 646, 679, 742, 813, 882, 935, 968, 981, 1004, 1027, 1080, 1133, 1196, 1229, 1252, 1265, 1304, 1327, 1340, 1363, 1376], 151) := by decide +kernel
theorem dL_law_184 : decode cL_law 184 = .ok (.aload_n 1, 1) := by decide +kernel
theorem dL_law_185 : decode cL_law 185 = .ok (.aload_n 0, 1) := by decide +kernel
theorem dL_law_186 : decode cL_law 186 = .ok (.iload_n 3, 1) := by decide +kernel
theorem dL_law_187 : decode cL_law 187 = .ok (.iconst 1, 1) := by decide +kernel
theorem dL_law_188 : decode cL_law 188 = .ok (.iadd, 1) := by decide +kernel
theorem dL_law_189 : decode cL_law 189 = .ok (.iaload, 1) := by decide +kernel
theorem dL_law_190 : decode cL_law 190 = .ok (.aload_n 0, 1) := by decide +kernel
theorem dL_law_191 : decode cL_law 191 = .ok (.iload_n 3, 1) := by decide +kernel
theorem dL_law_192 : decode cL_law 192 = .ok (.iconst 2, 1) := by decide +kernel
theorem dL_law_193 : decode cL_law 193 = .ok (.iadd, 1) := by decide +kernel
theorem dL_law_194 : decode cL_law 194 = .ok (.iaload, 1) := by decide +kernel
theorem dL_law_195 : decode cL_law 195 = .ok (.aload_n 0, 1) := by decide +kernel
theorem dL_law_196 : decode cL_law 196 = .ok (.iload_n 3, 1) := by decide +kernel
theorem dL_law_197 : decode cL_law 197 = .ok (.iconst 3, 1) := by decide +kernel
theorem dL_law_198 : decode cL_law 198 = .ok (.iadd, 1) := by decide +kernel
theorem dL_law_199 : decode cL_law 199 = .ok (.iaload, 1) := by decide +kernel
theorem dL_law_200 : decode cL_law 200 = .ok (.invokevirtual 13, 3) := by decide +kernel
theorem dL_law_203 : decode cL_law 203 = .ok (.aload_n 2, 1) := by decide +kernel
theorem dL_law_204 : decode cL_law 204 = .ok (.aload_n 0, 1) := by decide +kernel
theorem dL_law_205 : decode cL_law 205 = .ok (.iload_n 3, 1) := by decide +kernel
theorem dL_law_206 : decode cL_law 206 = .ok (.iconst 1, 1) := by decide +kernel
theorem dL_law_207 : decode cL_law 207 = .ok (.iadd, 1) := by decide +kernel
end
section
theorem dL_law_208 : decode cL_law 208 = .ok (.iaload, 1) := by decide +kernel
theorem dL_law_209 : decode cL_law 209 = .ok (.aload_n 0, 1) := by decide +kernel
theorem dL_law_210 : decode cL_law 210 = .ok (.iload_n 3, 1) := by decide +kernel
theorem dL_law_211 : decode cL_law 211 = .ok (.iconst 2, 1) := by decide +kernel
theorem dL_law_212 : decode cL_law 212 = .ok (.iadd, 1) := by decide +kernel
theorem dL_law_213 : decode cL_law 213 = .ok (.iaload, 1) := by decide +kernel
theorem dL_law_214 : decode cL_law 214 = .ok (.aload_n 0, 1) := by decide +kernel
theorem dL_law_215 : decode cL_law 215 = .ok (.iload_n 3, 1) := by decide +kernel
theorem dL_law_216 : decode cL_law 216 = .ok (.iconst 3, 1) := by decide +kernel
theorem dL_law_217 : decode cL_law 217 = .ok (.iadd, 1) := by decide +kernel
theorem dL_law_218 : decode cL_law 218 = .ok (.iaload, 1) := by decide +kernel
theorem dL_law_219 : decode cL_law 219 = .ok (.invokevirtual 17, 3) := by decide +kernel
theorem dL_law_222 : decode cL_law 222 = .ok (.if_icmp .eq 1201, 3) := by decide +kernel
theorem dL_law_225 : decode cL_law 225 = .ok (.iconst 0, 1) := by decide +kernel
theorem dL_law_226 : decode cL_law 226 = .ok (.ireturn, 1) := by decide +kernel
theorem dL_law_227 : decode cL_law 227 = .ok (.aload_n 1, 1) := by decide +kernel
theorem dL_law_228 : decode cL_law 228 = .ok (.aload_n 0, 1) := by decide +kernel
theorem dL_law_229 : decode cL_law 229 = .ok (.iload_n 3, 1) := by decide +kernel
theorem dL_law_230 : decode cL_law 230 = .ok (.iconst 1, 1) := by decide +kernel
theorem dL_law_231 : decode cL_law 231 = .ok (.iadd, 1) := by decide +kernel
theorem dL_law_232 : decode cL_law 232 = .ok (.iaload, 1) := by decide +kernel
theorem dL_law_233 : decode cL_law 233 = .ok (.aload_n 0, 1) := by decide +kernel
theorem dL_law_234 : decode cL_law 234 = .ok (.iload_n 3, 1) := by decide +kernel
theorem dL_law_235 : decode cL_law 235 = .ok (.iconst 2, 1) := by decide +kernel
theorem dL_law_236 : decode cL_law 236 = .ok (.iadd, 1) := by decide +kernel
theorem dL_law_237 : decode cL_law 237 = .ok (.iaload, 1) := by decide +kernel
theorem dL_law_238 : decode cL_law 238 = .ok (.invokevirtual 18, 3) := by decide +kernel
theorem dL_law_241 : decode cL_law 241 = .ok (.aload_n 2, 1) := by decide +kernel
theorem dL_law_242 : decode cL_law 242 = .ok (.aload_n 0, 1) := by decide +kernel
theorem dL_law_243 : decode cL_law 243 = .ok (.iload_n 3, 1) := by decide +kernel
theorem dL_law_244 : decode cL_law 244 = .ok (.iconst 1, 1) := by decide +kernel
theorem dL_law_245 : decode cL_law 245 = .ok (.iadd, 1) := by decide +kernel
theorem dL_law_246 : decode cL_law 246 = .ok (.iaload, 1) := by decide +kernel
theorem dL_law_247 : decode cL_law 247 = .ok (.aload_n 0, 1) := by decide +kernel
theorem dL_law_248 : decode cL_law 248 = .ok (.iload_n 3, 1) := by decide +kernel
theorem dL_law_249 : decode cL_law 249 = .ok (.iconst 2, 1) := by decide +kernel
theorem dL_law_250 : decode cL_law 250 = .ok (.iadd, 1) := by decide +kernel
theorem dL_law_251 : decode cL_law 251 = .ok (.iaload, 1) := by decide +kernel
theorem dL_law_252 : decode cL_law 252 = .ok (.invokevirtual 22, 3) := by decide +kernel
theorem dL_law_255 : decode cL_law 255 = .ok (.if_icmp .eq 1168, 3) := by decide +kernel
theorem dL_law_258 : decode cL_law 258 = .ok (.iconst 0, 1) := by decide +kernel
theorem dL_law_259 : decode cL_law 259 = .ok (.ireturn, 1) := by decide +kernel
theorem dL_law_260 : decode cL_law 260 = .ok (.aload_n 1, 1) := by decide +kernel
theorem dL_law_261 : decode cL_law 261 = .ok (.aload_n 0, 1) := by decide +kernel
theorem dL_law_262 : decode cL_law 262 = .ok (.iload_n 3, 1) := by decide +kernel
theorem dL_law_263 : decode cL_law 263 = .ok (.iconst 1, 1) := by decide +kernel
theorem dL_law_264 : decode cL_law 264 = .ok (.iadd, 1) := by decide +kernel
theorem dL_law_265 : decode cL_law 265 = .ok (.iaload, 1) := by decide +kernel
theorem dL_law_266 : decode cL_law 266 = .ok (.aload_n 0, 1) := by decide +kernel
theorem dL_law_267 : decode cL_law 267 = .ok (.iload_n 3, 1) := by decide +kernel
theorem dL_law_268 : decode cL_law 268 = .ok (.iconst 2, 1) := by decide +kernel
theorem dL_law_269 : decode cL_law 269 = .ok (.iadd, 1) := by decide +kernel
theorem dL_law_270 : decode cL_law 270 = .ok (.iaload, 1) := by decide +kernel
theorem dL_law_271 : decode cL_law 271 = .ok (.aload_n 0, 1) := by decide +kernel
theorem dL_law_272 : decode cL_law 272 = .ok (.iload_n 3, 1) := by decide +kernel
theorem dL_law_273 : decode cL_law 273 = .ok (.iconst 3, 1) := by decide +kernel
theorem dL_law_274 : decode cL_law 274 = .ok (.iadd, 1) := by decide +kernel
theorem dL_law_275 : decode cL_law 275 = .ok (.iaload, 1) := by decide +kernel
theorem dL_law_276 : decode cL_law 276 = .ok (.invokevirtual 23, 3) := by decide +kernel
theorem dL_law_279 : decode cL_law 279 = .ok (.aload_n 2, 1) := by decide +kernel
theorem dL_law_280 : decode cL_law 280 = .ok (.aload_n 0, 1) := by decide +kernel
theorem dL_law_281 : decode cL_law 281 = .ok (.iload_n 3, 1) := by decide +kernel
theorem dL_law_282 : decode cL_law 282 = .ok (.iconst 1, 1) := by decide +kernel
theorem dL_law_283 : decode cL_law 283 = .ok (.iadd, 1) := by decide +kernel
theorem dL_law_284 : decode cL_law 284 = .ok (.iaload, 1) := by decide +kernel
theorem dL_law_285 : decode cL_law 285 = .ok (.aload_n 0, 1) := by decide +kernel
theorem dL_law_286 : decode cL_law 286 = .ok (.iload_n 3, 1) := by decide +kernel
theorem dL_law_287 : decode cL_law 287 = .ok (.iconst 2, 1) := by decide +kernel
theorem dL_law_288 : decode cL_law 288 = .ok (.iadd, 1) := by decide +kernel
theorem dL_law_289 : decode cL_law 289 = .ok (.iaload, 1) := by decide +kernel
theorem dL_law_290 : decode cL_law 290 = .ok (.aload_n 0, 1) := by decide +kernel
theorem dL_law_291 : decode cL_law 291 = .ok (.iload_n 3, 1) := by decide +kernel
theorem dL_law_292 : decode cL_law 292 = .ok (.iconst 3, 1) := by decide +kernel
theorem dL_law_293 : decode cL_law 293 = .ok (.iadd, 1) := by decide +kernel
theorem dL_law_294 : decode cL_law 294 = .ok (.iaload, 1) := by decide +kernel
theorem dL_law_295 : decode cL_law 295 = .ok (.invokevirtual 26, 3) := by decide +kernel
theorem dL_law_298 : decode cL_law 298 = .ok (.if_icmp .eq 1125, 3) := by decide +kernel
theorem dL_law_301 : decode cL_law 301 = .ok (.iconst 0, 1) := by decide +kernel
theorem dL_law_302 : decode cL_law 302 = .ok (.ireturn, 1) := by decide +kernel
theorem dL_law_303 : decode cL_law 303 = .ok (.aload_n 1, 1) := by decide +kernel
theorem dL_law_304 : decode cL_law 304 = .ok (.aload_n 0, 1) := by decide +kernel
theorem dL_law_305 : decode cL_law 305 = .ok (.iload_n 3, 1) := by decide +kernel
theorem dL_law_306 : decode cL_law 306 = .ok (.iconst 1, 1) := by decide +kernel
theorem dL_law_307 : decode cL_law 307 = .ok (.iadd, 1) := by decide +kernel
theorem dL_law_308 : decode cL_law 308 = .ok (.iaload, 1) := by decide +kernel
theorem dL_law_309 : decode cL_law 309 = .ok (.aload_n 0, 1) := by decide +kernel
theorem dL_law_310 : decode cL_law 310 = .ok (.iload_n 3, 1) := by decide +kernel
theorem dL_law_311 : decode cL_law 311 = .ok (.iconst 2, 1) := by decide +kernel
theorem dL_law_312 : decode cL_law 312 = .ok (.iadd, 1) := by decide +kernel
theorem dL_law_313 : decode cL_law 313 = .ok (.iaload, 1) := by decide +kernel
theorem dL_law_314 : decode cL_law 314 = .ok (.aload_n 0, 1) := by decide +kernel
theorem dL_law_315 : decode cL_law 315 = .ok (.iload_n 3, 1) := by decide +kernel
theorem dL_law_316 : decode cL_law 316 = .ok (.iconst 3, 1) := by decide +kernel
theorem dL_law_317 : decode cL_law 317 = .ok (.iadd, 1) := by decide +kernel
theorem dL_law_318 : decode cL_law 318 = .ok (.iaload, 1) := by decide +kernel
theorem dL_law_319 : decode cL_law 319 = .ok (.invokevirtual 27, 3) := by decide +kernel
theorem dL_law_322 : decode cL_law 322 = .ok (.aload_n 2, 1) := by decide +kernel
theorem dL_law_323 : decode cL_law 323 = .ok (.aload_n 0, 1) := by decide +kernel
theorem dL_law_324 : decode cL_law 324 = .ok (.iload_n 3, 1) := by decide +kernel
theorem dL_law_325 : decode cL_law 325 = .ok (.iconst 1, 1) := by decide +kernel
theorem dL_law_326 : decode cL_law 326 = .ok (.iadd, 1) := by decide +kernel
theorem dL_law_327 : decode cL_law 327 = .ok (.iaload, 1) := by decide +kernel
theorem dL_law_328 : decode cL_law 328 = .ok (.aload_n 0, 1) := by decide +kernel
theorem dL_law_329 : decode cL_law 329 = .ok (.iload_n 3, 1) := by decide +kernel
theorem dL_law_330 : decode cL_law 330 = .ok (.iconst 2, 1) := by decide +kernel
theorem dL_law_331 : decode cL_law 331 = .ok (.iadd, 1) := by decide +kernel
theorem dL_law_332 : decode cL_law 332 = .ok (.iaload, 1) := by decide +kernel
theorem dL_law_333 : decode cL_law 333 = .ok (.aload_n 0, 1) := by decide +kernel
theorem dL_law_334 : decode cL_law 334 = .ok (.iload_n 3, 1) := by decide +kernel
theorem dL_law_335 : decode cL_law 335 = .ok (.iconst 3, 1) := by decide +kernel
theorem dL_law_336 : decode cL_law 336 = .ok (.iadd, 1) := by decide +kernel
theorem dL_law_337 : decode cL_law 337 = .ok (.iaload, 1) := by decide +kernel
theorem dL_law_338 : decode cL_law 338 = .ok (.invokevirtual 30, 3) := by decide +kernel
theorem dL_law_341 : decode cL_law 341 = .ok (.if_icmp .eq 1082, 3) := by decide +kernel
theorem dL_law_344 : decode cL_law 344 = .ok (.iconst 0, 1) := by decide +kernel
theorem dL_law_345 : decode cL_law 345 = .ok (.ireturn, 1) := by decide +kernel
theorem dL_law_346 : decode cL_law 346 = .ok (.aload_n 1, 1) := by decide +kernel
theorem dL_law_347 : decode cL_law 347 = .ok (.aload_n 0, 1) := by decide +kernel
theorem dL_law_348 : decode cL_law 348 = .ok (.iload_n 3, 1) := by decide +kernel
theorem dL_law_349 : decode cL_law 349 = .ok (.iconst 1, 1) := by decide +kernel
theorem dL_law_350 : decode cL_law 350 = .ok (.iadd, 1) := by decide +kernel
theorem dL_law_351 : decode cL_law 351 = .ok (.iaload, 1) := by decide +kernel
theorem dL_law_352 : decode cL_law 352 = .ok (.aload_n 0, 1) := by decide +kernel
theorem dL_law_353 : decode cL_law 353 = .ok (.iload_n 3, 1) := by decide +kernel
theorem dL_law_354 : decode cL_law 354 = .ok (.iconst 2, 1) := by decide +kernel
theorem dL_law_355 : decode cL_law 355 = .ok (.iadd, 1) := by decide +kernel
theorem dL_law_356 : decode cL_law 356 = .ok (.iaload, 1) := by decide +kernel
theorem dL_law_357 : decode cL_law 357 = .ok (.aload_n 0, 1) := by decide +kernel
theorem dL_law_358 : decode cL_law 358 = .ok (.iload_n 3, 1) := by decide +kernel
theorem dL_law_359 : decode cL_law 359 = .ok (.iconst 3, 1) := by decide +kernel
theorem dL_law_360 : decode cL_law 360 = .ok (.iadd, 1) := by decide +kernel
theorem dL_law_361 : decode cL_law 361 = .ok (.iaload, 1) := by decide +kernel
theorem dL_law_362 : decode cL_law 362 = .ok (.aload_n 0, 1) := by decide +kernel
theorem dL_law_363 : decode cL_law 363 = .ok (.iload_n 3, 1) := by decide +kernel
theorem dL_law_364 : decode cL_law 364 = .ok (.iconst 4, 1) := by decide +kernel
theorem dL_law_365 : decode cL_law 365 = .ok (.iadd, 1) := by decide +kernel
theorem dL_law_366 : decode cL_law 366 = .ok (.iaload, 1) := by decide +kernel
theorem dL_law_367 : decode cL_law 367 = .ok (.invokevirtual 31, 3) := by decide +kernel
theorem dL_law_370 : decode cL_law 370 = .ok (.aload_n 2, 1) := by decide +kernel
theorem dL_law_371 : decode cL_law 371 = .ok (.aload_n 0, 1) := by decide +kernel
theorem dL_law_372 : decode cL_law 372 = .ok (.iload_n 3, 1) := by decide +kernel
theorem dL_law_373 : decode cL_law 373 = .ok (.iconst 1, 1) := by decide +kernel
theorem dL_law_374 : decode cL_law 374 = .ok (.iadd, 1) := by decide +kernel
theorem dL_law_375 : decode cL_law 375 = .ok (.iaload, 1) := by decide +kernel
theorem dL_law_376 : decode cL_law 376 = .ok (.aload_n 0, 1) := by decide +kernel
theorem dL_law_377 : decode cL_law 377 = .ok (.iload_n 3, 1) := by decide +kernel
theorem dL_law_378 : decode cL_law 378 = .ok (.iconst 2, 1) := by decide +kernel
theorem dL_law_379 : decode cL_law 379 = .ok (.iadd, 1) := by decide +kernel
theorem dL_law_380 : decode cL_law 380 = .ok (.iaload, 1) := by decide +kernel
theorem dL_law_381 : decode cL_law 381 = .ok (.aload_n 0, 1) := by decide +kernel
theorem dL_law_382 : decode cL_law 382 = .ok (.iload_n 3, 1) := by decide +kernel
theorem dL_law_383 : decode cL_law 383 = .ok (.iconst 3, 1) := by decide +kernel
theorem dL_law_384 : decode cL_law 384 = .ok (.iadd, 1) := by decide +kernel
theorem dL_law_385 : decode cL_law 385 = .ok (.iaload, 1) := by decide +kernel
theorem dL_law_386 : decode cL_law 386 = .ok (.aload_n 0, 1) := by decide +kernel
theorem dL_law_387 : decode cL_law 387 = .ok (.iload_n 3, 1) := by decide +kernel
theorem dL_law_388 : decode cL_law 388 = .ok (.iconst 4, 1) := by decide +kernel
theorem dL_law_389 : decode cL_law 389 = .ok (.iadd, 1) := by decide +kernel
theorem dL_law_390 : decode cL_law 390 = .ok (.iaload, 1) := by decide +kernel
theorem dL_law_391 : decode cL_law 391 = .ok (.invokevirtual 35, 3) := by decide +kernel
theorem dL_law_394 : decode cL_law 394 = .ok (.if_icmp .eq 1029, 3) := by decide +kernel
theorem dL_law_397 : decode cL_law 397 = .ok (.iconst 0, 1) := by decide +kernel
theorem dL_law_398 : decode cL_law 398 = .ok (.ireturn, 1) := by decide +kernel
theorem dL_law_399 : decode cL_law 399 = .ok (.aload_n 1, 1) := by decide +kernel
theorem dL_law_400 : decode cL_law 400 = .ok (.aload_n 0, 1) := by decide +kernel
theorem dL_law_401 : decode cL_law 401 = .ok (.iload_n 3, 1) := by decide +kernel
theorem dL_law_402 : decode cL_law 402 = .ok (.iconst 1, 1) := by decide +kernel
theorem dL_law_403 : decode cL_law 403 = .ok (.iadd, 1) := by decide +kernel
theorem dL_law_404 : decode cL_law 404 = .ok (.iaload, 1) := by decide +kernel
theorem dL_law_405 : decode cL_law 405 = .ok (.aload_n 0, 1) := by decide +kernel
theorem dL_law_406 : decode cL_law 406 = .ok (.iload_n 3, 1) := by decide +kernel
theorem dL_law_407 : decode cL_law 407 = .ok (.iconst 2, 1) := by decide +kernel
theorem dL_law_408 : decode cL_law 408 = .ok (.iadd, 1) := by decide +kernel
theorem dL_law_409 : decode cL_law 409 = .ok (.iaload, 1) := by decide +kernel
theorem dL_law_410 : decode cL_law 410 = .ok (.invokevirtual 36, 3) := by decide +kernel
theorem dL_law_413 : decode cL_law 413 = .ok (.aload_n 2, 1) := by decide +kernel
theorem dL_law_414 : decode cL_law 414 = .ok (.aload_n 0, 1) := by decide +kernel
theorem dL_law_415 : decode cL_law 415 = .ok (.iload_n 3, 1) := by decide +kernel
theorem dL_law_416 : decode cL_law 416 = .ok (.iconst 1, 1) := by decide +kernel
theorem dL_law_417 : decode cL_law 417 = .ok (.iadd, 1) := by decide +kernel
theorem dL_law_418 : decode cL_law 418 = .ok (.iaload, 1) := by decide +kernel
theorem dL_law_419 : decode cL_law 419 = .ok (.aload_n 0, 1) := by decide +kernel
theorem dL_law_420 : decode cL_law 420 = .ok (.iload_n 3, 1) := by decide +kernel
theorem dL_law_421 : decode cL_law 421 = .ok (.iconst 2, 1) := by decide +kernel
theorem dL_law_422 : decode cL_law 422 = .ok (.iadd, 1) := by decide +kernel
theorem dL_law_423 : decode cL_law 423 = .ok (.iaload, 1) := by decide +kernel
theorem dL_law_424 : decode cL_law 424 = .ok (.invokevirtual 39, 3) := by decide +kernel
theorem dL_law_427 : decode cL_law 427 = .ok (.if_icmp .eq 996, 3) := by decide +kernel
theorem dL_law_430 : decode cL_law 430 = .ok (.iconst 0, 1) := by decide +kernel
theorem dL_law_431 : decode cL_law 431 = .ok (.ireturn, 1) := by decide +kernel
theorem dL_law_432 : decode cL_law 432 = .ok (.aload_n 1, 1) := by decide +kernel
theorem dL_law_433 : decode cL_law 433 = .ok (.aload_n 0, 1) := by decide +kernel
theorem dL_law_434 : decode cL_law 434 = .ok (.iload_n 3, 1) := by decide +kernel
theorem dL_law_435 : decode cL_law 435 = .ok (.iconst 1, 1) := by decide +kernel
theorem dL_law_436 : decode cL_law 436 = .ok (.iadd, 1) := by decide +kernel
theorem dL_law_437 : decode cL_law 437 = .ok (.iaload, 1) := by decide +kernel
theorem dL_law_438 : decode cL_law 438 = .ok (.invokevirtual 40, 3) := by decide +kernel
theorem dL_law_441 : decode cL_law 441 = .ok (.aload_n 2, 1) := by decide +kernel
theorem dL_law_442 : decode cL_law 442 = .ok (.aload_n 0, 1) := by decide +kernel
theorem dL_law_443 : decode cL_law 443 = .ok (.iload_n 3, 1) := by decide +kernel
theorem dL_law_444 : decode cL_law 444 = .ok (.iconst 1, 1) := by decide +kernel
theorem dL_law_445 : decode cL_law 445 = .ok (.iadd, 1) := by decide +kernel
theorem dL_law_446 : decode cL_law 446 = .ok (.iaload, 1) := by decide +kernel
theorem dL_law_447 : decode cL_law 447 = .ok (.invokevirtual 44, 3) := by decide +kernel
theorem dL_law_450 : decode cL_law 450 = .ok (.if_icmp .eq 973, 3) := by decide +kernel
theorem dL_law_453 : decode cL_law 453 = .ok (.iconst 0, 1) := by decide +kernel
theorem dL_law_454 : decode cL_law 454 = .ok (.ireturn, 1) := by decide +kernel
theorem dL_law_455 : decode cL_law 455 = .ok (.aload_n 1, 1) := by decide +kernel
theorem dL_law_456 : decode cL_law 456 = .ok (.aload_n 0, 1) := by decide +kernel
theorem dL_law_457 : decode cL_law 457 = .ok (.iload_n 3, 1) := by decide +kernel
theorem dL_law_458 : decode cL_law 458 = .ok (.iconst 1, 1) := by decide +kernel
theorem dL_law_459 : decode cL_law 459 = .ok (.iadd, 1) := by decide +kernel
theorem dL_law_460 : decode cL_law 460 = .ok (.iaload, 1) := by decide +kernel
theorem dL_law_461 : decode cL_law 461 = .ok (.aload_n 0, 1) := by decide +kernel
theorem dL_law_462 : decode cL_law 462 = .ok (.iload_n 3, 1) := by decide +kernel
theorem dL_law_463 : decode cL_law 463 = .ok (.iconst 2, 1) := by decide +kernel
theorem dL_law_464 : decode cL_law 464 = .ok (.iadd, 1) := by decide +kernel
theorem dL_law_465 : decode cL_law 465 = .ok (.iaload, 1) := by decide +kernel
theorem dL_law_466 : decode cL_law 466 = .ok (.aload_n 0, 1) := by decide +kernel
theorem dL_law_467 : decode cL_law 467 = .ok (.iload_n 3, 1) := by decide +kernel
theorem dL_law_468 : decode cL_law 468 = .ok (.iconst 3, 1) := by decide +kernel
theorem dL_law_469 : decode cL_law 469 = .ok (.iadd, 1) := by decide +kernel
theorem dL_law_470 : decode cL_law 470 = .ok (.iaload, 1) := by decide +kernel
theorem dL_law_471 : decode cL_law 471 = .ok (.invokevirtual 45, 3) := by decide +kernel
theorem dL_law_474 : decode cL_law 474 = .ok (.aload_n 2, 1) := by decide +kernel
theorem dL_law_475 : decode cL_law 475 = .ok (.aload_n 0, 1) := by decide +kernel
theorem dL_law_476 : decode cL_law 476 = .ok (.iload_n 3, 1) := by decide +kernel
theorem dL_law_477 : decode cL_law 477 = .ok (.iconst 1, 1) := by decide +kernel
theorem dL_law_478 : decode cL_law 478 = .ok (.iadd, 1) := by decide +kernel
theorem dL_law_479 : decode cL_law 479 = .ok (.iaload, 1) := by decide +kernel
theorem dL_law_480 : decode cL_law 480 = .ok (.aload_n 0, 1) := by decide +kernel
theorem dL_law_481 : decode cL_law 481 = .ok (.iload_n 3, 1) := by decide +kernel
theorem dL_law_482 : decode cL_law 482 = .ok (.iconst 2, 1) := by decide +kernel
theorem dL_law_483 : decode cL_law 483 = .ok (.iadd, 1) := by decide +kernel
theorem dL_law_484 : decode cL_law 484 = .ok (.iaload, 1) := by decide +kernel
theorem dL_law_485 : decode cL_law 485 = .ok (.aload_n 0, 1) := by decide +kernel
theorem dL_law_486 : decode cL_law 486 = .ok (.iload_n 3, 1) := by decide +kernel
theorem dL_law_487 : decode cL_law 487 = .ok (.iconst 3, 1) := by decide +kernel
theorem dL_law_488 : decode cL_law 488 = .ok (.iadd, 1) := by decide +kernel
theorem dL_law_489 : decode cL_law 489 = .ok (.iaload, 1) := by decide +kernel
theorem dL_law_490 : decode cL_law 490 = .ok (.invokevirtual 48, 3) := by decide +kernel
theorem dL_law_493 : decode cL_law 493 = .ok (.if_icmp .eq 930, 3) := by decide +kernel
theorem dL_law_496 : decode cL_law 496 = .ok (.iconst 0, 1) := by decide +kernel
theorem dL_law_497 : decode cL_law 497 = .ok (.ireturn, 1) := by decide +kernel
theorem dL_law_498 : decode cL_law 498 = .ok (.aload_n 1, 1) := by decide +kernel
theorem dL_law_499 : decode cL_law 499 = .ok (.aload_n 0, 1) := by decide +kernel
theorem dL_law_500 : decode cL_law 500 = .ok (.iload_n 3, 1) := by decide +kernel
theorem dL_law_501 : decode cL_law 501 = .ok (.iconst 1, 1) := by decide +kernel
theorem dL_law_502 : decode cL_law 502 = .ok (.iadd, 1) := by decide +kernel
theorem dL_law_503 : decode cL_law 503 = .ok (.iaload, 1) := by decide +kernel
theorem dL_law_504 : decode cL_law 504 = .ok (.invokevirtual 49, 3) := by decide +kernel
theorem dL_law_507 : decode cL_law 507 = .ok (.aload_n 2, 1) := by decide +kernel
theorem dL_law_508 : decode cL_law 508 = .ok (.aload_n 0, 1) := by decide +kernel
theorem dL_law_509 : decode cL_law 509 = .ok (.iload_n 3, 1) := by decide +kernel
theorem dL_law_510 : decode cL_law 510 = .ok (.iconst 1, 1) := by decide +kernel
theorem dL_law_511 : decode cL_law 511 = .ok (.iadd, 1) := by decide +kernel
theorem dL_law_512 : decode cL_law 512 = .ok (.iaload, 1) := by decide +kernel
theorem dL_law_513 : decode cL_law 513 = .ok (.invokevirtual 52, 3) := by decide +kernel
theorem dL_law_516 : decode cL_law 516 = .ok (.if_icmp .eq 907, 3) := by decide +kernel
theorem dL_law_519 : decode cL_law 519 = .ok (.iconst 0, 1) := by decide +kernel
theorem dL_law_520 : decode cL_law 520 = .ok (.ireturn, 1) := by decide +kernel
theorem dL_law_521 : decode cL_law 521 = .ok (.aload_n 1, 1) := by decide +kernel
theorem dL_law_522 : decode cL_law 522 = .ok (.aload_n 0, 1) := by decide +kernel
theorem dL_law_523 : decode cL_law 523 = .ok (.iload_n 3, 1) := by decide +kernel
theorem dL_law_524 : decode cL_law 524 = .ok (.iconst 1, 1) := by decide +kernel
theorem dL_law_525 : decode cL_law 525 = .ok (.iadd, 1) := by decide +kernel
theorem dL_law_526 : decode cL_law 526 = .ok (.iaload, 1) := by decide +kernel
theorem dL_law_527 : decode cL_law 527 = .ok (.aload_n 0, 1) := by decide +kernel
theorem dL_law_528 : decode cL_law 528 = .ok (.iload_n 3, 1) := by decide +kernel
theorem dL_law_529 : decode cL_law 529 = .ok (.iconst 2, 1) := by decide +kernel
theorem dL_law_530 : decode cL_law 530 = .ok (.iadd, 1) := by decide +kernel
theorem dL_law_531 : decode cL_law 531 = .ok (.iaload, 1) := by decide +kernel
theorem dL_law_532 : decode cL_law 532 = .ok (.invokevirtual 53, 3) := by decide +kernel
theorem dL_law_535 : decode cL_law 535 = .ok (.aload_n 2, 1) := by decide +kernel
theorem dL_law_536 : decode cL_law 536 = .ok (.aload_n 0, 1) := by decide +kernel
theorem dL_law_537 : decode cL_law 537 = .ok (.iload_n 3, 1) := by decide +kernel
theorem dL_law_538 : decode cL_law 538 = .ok (.iconst 1, 1) := by decide +kernel
theorem dL_law_539 : decode cL_law 539 = .ok (.iadd, 1) := by decide +kernel
theorem dL_law_540 : decode cL_law 540 = .ok (.iaload, 1) := by decide +kernel
theorem dL_law_541 : decode cL_law 541 = .ok (.aload_n 0, 1) := by decide +kernel
theorem dL_law_542 : decode cL_law 542 = .ok (.iload_n 3, 1) := by decide +kernel
theorem dL_law_543 : decode cL_law 543 = .ok (.iconst 2, 1) := by decide +kernel
theorem dL_law_544 : decode cL_law 544 = .ok (.iadd, 1) := by decide +kernel
theorem dL_law_545 : decode cL_law 545 = .ok (.iaload, 1) := by decide +kernel
theorem dL_law_546 : decode cL_law 546 = .ok (.invokevirtual 56, 3) := by decide +kernel
theorem dL_law_549 : decode cL_law 549 = .ok (.if_icmp .eq 874, 3) := by decide +kernel
theorem dL_law_552 : decode cL_law 552 = .ok (.iconst 0, 1) := by decide +kernel
theorem dL_law_553 : decode cL_law 553 = .ok (.ireturn, 1) := by decide +kernel
theorem dL_law_554 : decode cL_law 554 = .ok (.aload_n 1, 1) := by decide +kernel
theorem dL_law_555 : decode cL_law 555 = .ok (.aload_n 0, 1) := by decide +kernel
theorem dL_law_556 : decode cL_law 556 = .ok (.iload_n 3, 1) := by decide +kernel
theorem dL_law_557 : decode cL_law 557 = .ok (.iconst 1, 1) := by decide +kernel
theorem dL_law_558 : decode cL_law 558 = .ok (.iadd, 1) := by decide +kernel
theorem dL_law_559 : decode cL_law 559 = .ok (.iaload, 1) := by decide +kernel
theorem dL_law_560 : decode cL_law 560 = .ok (.aload_n 0, 1) := by decide +kernel
theorem dL_law_561 : decode cL_law 561 = .ok (.iload_n 3, 1) := by decide +kernel
theorem dL_law_562 : decode cL_law 562 = .ok (.iconst 2, 1) := by decide +kernel
theorem dL_law_563 : decode cL_law 563 = .ok (.iadd, 1) := by decide +kernel
theorem dL_law_564 : decode cL_law 564 = .ok (.iaload, 1) := by decide +kernel
theorem dL_law_565 : decode cL_law 565 = .ok (.invokevirtual 57, 3) := by decide +kernel
theorem dL_law_568 : decode cL_law 568 = .ok (.aload_n 2, 1) := by decide +kernel
theorem dL_law_569 : decode cL_law 569 = .ok (.aload_n 0, 1) := by decide +kernel
theorem dL_law_570 : decode cL_law 570 = .ok (.iload_n 3, 1) := by decide +kernel
theorem dL_law_571 : decode cL_law 571 = .ok (.iconst 1, 1) := by decide +kernel
theorem dL_law_572 : decode cL_law 572 = .ok (.iadd, 1) := by decide +kernel
theorem dL_law_573 : decode cL_law 573 = .ok (.iaload, 1) := by decide +kernel
theorem dL_law_574 : decode cL_law 574 = .ok (.aload_n 0, 1) := by decide +kernel
theorem dL_law_575 : decode cL_law 575 = .ok (.iload_n 3, 1) := by decide +kernel
theorem dL_law_576 : decode cL_law 576 = .ok (.iconst 2, 1) := by decide +kernel
theorem dL_law_577 : decode cL_law 577 = .ok (.iadd, 1) := by decide +kernel
theorem dL_law_578 : decode cL_law 578 = .ok (.iaload, 1) := by decide +kernel
theorem dL_law_579 : decode cL_law 579 = .ok (.invokevirtual 60, 3) := by decide +kernel
theorem dL_law_582 : decode cL_law 582 = .ok (.if_icmp .eq 841, 3) := by decide +kernel
theorem dL_law_585 : decode cL_law 585 = .ok (.iconst 0, 1) := by decide +kernel
theorem dL_law_586 : decode cL_law 586 = .ok (.ireturn, 1) := by decide +kernel
theorem dL_law_587 : decode cL_law 587 = .ok (.aload_n 1, 1) := by decide +kernel
theorem dL_law_588 : decode cL_law 588 = .ok (.aload_n 0, 1) := by decide +kernel
theorem dL_law_589 : decode cL_law 589 = .ok (.iload_n 3, 1) := by decide +kernel
theorem dL_law_590 : decode cL_law 590 = .ok (.iconst 1, 1) := by decide +kernel
theorem dL_law_591 : decode cL_law 591 = .ok (.iadd, 1) := by decide +kernel
theorem dL_law_592 : decode cL_law 592 = .ok (.iaload, 1) := by decide +kernel
theorem dL_law_593 : decode cL_law 593 = .ok (.aload_n 0, 1) := by decide +kernel
theorem dL_law_594 : decode cL_law 594 = .ok (.iload_n 3, 1) := by decide +kernel
theorem dL_law_595 : decode cL_law 595 = .ok (.iconst 2, 1) := by decide +kernel
theorem dL_law_596 : decode cL_law 596 = .ok (.iadd, 1) := by decide +kernel
theorem dL_law_597 : decode cL_law 597 = .ok (.iaload, 1) := by decide +kernel
theorem dL_law_598 : decode cL_law 598 = .ok (.invokevirtual 61, 3) := by decide +kernel
theorem dL_law_601 : decode cL_law 601 = .ok (.aload_n 2, 1) := by decide +kernel
theorem dL_law_602 : decode cL_law 602 = .ok (.aload_n 0, 1) := by decide +kernel
theorem dL_law_603 : decode cL_law 603 = .ok (.iload_n 3, 1) := by decide +kernel
theorem dL_law_604 : decode cL_law 604 = .ok (.iconst 1, 1) := by decide +kernel
theorem dL_law_605 : decode cL_law 605 = .ok (.iadd, 1) := by decide +kernel
theorem dL_law_606 : decode cL_law 606 = .ok (.iaload, 1) := by decide +kernel
theorem dL_law_607 : decode cL_law 607 = .ok (.aload_n 0, 1) := by decide +kernel
theorem dL_law_608 : decode cL_law 608 = .ok (.iload_n 3, 1) := by decide +kernel
theorem dL_law_609 : decode cL_law 609 = .ok (.iconst 2, 1) := by decide +kernel
theorem dL_law_610 : decode cL_law 610 = .ok (.iadd, 1) := by decide +kernel
theorem dL_law_611 : decode cL_law 611 = .ok (.iaload, 1) := by decide +kernel
theorem dL_law_612 : decode cL_law 612 = .ok (.invokevirtual 64, 3) := by decide +kernel
theorem dL_law_615 : decode cL_law 615 = .ok (.if_icmp .eq 808, 3) := by decide +kernel
theorem dL_law_618 : decode cL_law 618 = .ok (.iconst 0, 1) := by decide +kernel
theorem dL_law_619 : decode cL_law 619 = .ok (.ireturn, 1) := by decide +kernel
theorem dL_law_620 : decode cL_law 620 = .ok (.aload_n 1, 1) := by decide +kernel
theorem dL_law_621 : decode cL_law 621 = .ok (.aload_n 0, 1) := by decide +kernel
theorem dL_law_622 : decode cL_law 622 = .ok (.iload_n 3, 1) := by decide +kernel
theorem dL_law_623 : decode cL_law 623 = .ok (.iconst 1, 1) := by decide +kernel
theorem dL_law_624 : decode cL_law 624 = .ok (.iadd, 1) := by decide +kernel
theorem dL_law_625 : decode cL_law 625 = .ok (.iaload, 1) := by decide +kernel
theorem dL_law_626 : decode cL_law 626 = .ok (.aload_n 0, 1) := by decide +kernel
theorem dL_law_627 : decode cL_law 627 = .ok (.iload_n 3, 1) := by decide +kernel
theorem dL_law_628 : decode cL_law 628 = .ok (.iconst 2, 1) := by decide +kernel
theorem dL_law_629 : decode cL_law 629 = .ok (.iadd, 1) := by decide +kernel
theorem dL_law_630 : decode cL_law 630 = .ok (.iaload, 1) := by decide +kernel
theorem dL_law_631 : decode cL_law 631 = .ok (.aload_n 0, 1) := by decide +kernel
theorem dL_law_632 : decode cL_law 632 = .ok (.iload_n 3, 1) := by decide +kernel
theorem dL_law_633 : decode cL_law 633 = .ok (.iconst 3, 1) := by decide +kernel
theorem dL_law_634 : decode cL_law 634 = .ok (.iadd, 1) := by decide +kernel
theorem dL_law_635 : decode cL_law 635 = .ok (.iaload, 1) := by decide +kernel
theorem dL_law_636 : decode cL_law 636 = .ok (.ifCond .eq 7, 3) := by decide +kernel
theorem dL_law_639 : decode cL_law 639 = .ok (.iconst 1, 1) := by decide +kernel
theorem dL_law_640 : decode cL_law 640 = .ok (.goto 4, 3) := by decide +kernel
theorem dL_law_643 : decode cL_law 643 = .ok (.iconst 0, 1) := by decide +kernel
theorem dL_law_644 : decode cL_law 644 = .ok (.invokevirtual 65, 3) := by decide +kernel
theorem dL_law_647 : decode cL_law 647 = .ok (.aload_n 2, 1) := by decide +kernel
theorem dL_law_648 : decode cL_law 648 = .ok (.aload_n 0, 1) := by decide +kernel
theorem dL_law_649 : decode cL_law 649 = .ok (.iload_n 3, 1) := by decide +kernel
theorem dL_law_650 : decode cL_law 650 = .ok (.iconst 1, 1) := by decide +kernel
theorem dL_law_651 : decode cL_law 651 = .ok (.iadd, 1) := by decide +kernel
theorem dL_law_652 : decode cL_law 652 = .ok (.iaload, 1) := by decide +kernel
theorem dL_law_653 : decode cL_law 653 = .ok (.aload_n 0, 1) := by decide +kernel
theorem dL_law_654 : decode cL_law 654 = .ok (.iload_n 3, 1) := by decide +kernel
theorem dL_law_655 : decode cL_law 655 = .ok (.iconst 2, 1) := by decide +kernel
theorem dL_law_656 : decode cL_law 656 = .ok (.iadd, 1) := by decide +kernel
theorem dL_law_657 : decode cL_law 657 = .ok (.iaload, 1) := by decide +kernel
theorem dL_law_658 : decode cL_law 658 = .ok (.aload_n 0, 1) := by decide +kernel
theorem dL_law_659 : decode cL_law 659 = .ok (.iload_n 3, 1) := by decide +kernel
theorem dL_law_660 : decode cL_law 660 = .ok (.iconst 3, 1) := by decide +kernel
theorem dL_law_661 : decode cL_law 661 = .ok (.iadd, 1) := by decide +kernel
theorem dL_law_662 : decode cL_law 662 = .ok (.iaload, 1) := by decide +kernel
theorem dL_law_663 : decode cL_law 663 = .ok (.ifCond .eq 7, 3) := by decide +kernel
theorem dL_law_666 : decode cL_law 666 = .ok (.iconst 1, 1) := by decide +kernel
theorem dL_law_667 : decode cL_law 667 = .ok (.goto 4, 3) := by decide +kernel
theorem dL_law_670 : decode cL_law 670 = .ok (.iconst 0, 1) := by decide +kernel
theorem dL_law_671 : decode cL_law 671 = .ok (.invokevirtual 69, 3) := by decide +kernel
theorem dL_law_674 : decode cL_law 674 = .ok (.if_icmp .eq 749, 3) := by decide +kernel
theorem dL_law_677 : decode cL_law 677 = .ok (.iconst 0, 1) := by decide +kernel
theorem dL_law_678 : decode cL_law 678 = .ok (.ireturn, 1) := by decide +kernel
theorem dL_law_679 : decode cL_law 679 = .ok (.aload_n 1, 1) := by decide +kernel
theorem dL_law_680 : decode cL_law 680 = .ok (.aload_n 0, 1) := by decide +kernel
theorem dL_law_681 : decode cL_law 681 = .ok (.iload_n 3, 1) := by decide +kernel
theorem dL_law_682 : decode cL_law 682 = .ok (.iconst 1, 1) := by decide +kernel
theorem dL_law_683 : decode cL_law 683 = .ok (.iadd, 1) := by decide +kernel
theorem dL_law_684 : decode cL_law 684 = .ok (.iaload, 1) := by decide +kernel
theorem dL_law_685 : decode cL_law 685 = .ok (.aload_n 0, 1) := by decide +kernel
theorem dL_law_686 : decode cL_law 686 = .ok (.iload_n 3, 1) := by decide +kernel
theorem dL_law_687 : decode cL_law 687 = .ok (.iconst 2, 1) := by decide +kernel
theorem dL_law_688 : decode cL_law 688 = .ok (.iadd, 1) := by decide +kernel
theorem dL_law_689 : decode cL_law 689 = .ok (.iaload, 1) := by decide +kernel
theorem dL_law_690 : decode cL_law 690 = .ok (.invokevirtual 70, 3) := by decide +kernel
theorem dL_law_693 : decode cL_law 693 = .ok (.aload_n 2, 1) := by decide +kernel
theorem dL_law_694 : decode cL_law 694 = .ok (.aload_n 0, 1) := by decide +kernel
theorem dL_law_695 : decode cL_law 695 = .ok (.iload_n 3, 1) := by decide +kernel
theorem dL_law_696 : decode cL_law 696 = .ok (.iconst 1, 1) := by decide +kernel
theorem dL_law_697 : decode cL_law 697 = .ok (.iadd, 1) := by decide +kernel
theorem dL_law_698 : decode cL_law 698 = .ok (.iaload, 1) := by decide +kernel
theorem dL_law_699 : decode cL_law 699 = .ok (.aload_n 0, 1) := by decide +kernel
theorem dL_law_700 : decode cL_law 700 = .ok (.iload_n 3, 1) := by decide +kernel
theorem dL_law_701 : decode cL_law 701 = .ok (.iconst 2, 1) := by decide +kernel
theorem dL_law_702 : decode cL_law 702 = .ok (.iadd, 1) := by decide +kernel
theorem dL_law_703 : decode cL_law 703 = .ok (.iaload, 1) := by decide +kernel
theorem dL_law_704 : decode cL_law 704 = .ok (.invokevirtual 73, 3) := by decide +kernel
theorem dL_law_707 : decode cL_law 707 = .ok (.if_icmp .eq 716, 3) := by decide +kernel
theorem dL_law_710 : decode cL_law 710 = .ok (.iconst 0, 1) := by decide +kernel
theorem dL_law_711 : decode cL_law 711 = .ok (.ireturn, 1) := by decide +kernel
theorem dL_law_712 : decode cL_law 712 = .ok (.aload_n 1, 1) := by decide +kernel
theorem dL_law_713 : decode cL_law 713 = .ok (.aload_n 0, 1) := by decide +kernel
theorem dL_law_714 : decode cL_law 714 = .ok (.iload_n 3, 1) := by decide +kernel
theorem dL_law_715 : decode cL_law 715 = .ok (.iconst 1, 1) := by decide +kernel
theorem dL_law_716 : decode cL_law 716 = .ok (.iadd, 1) := by decide +kernel
theorem dL_law_717 : decode cL_law 717 = .ok (.iaload, 1) := by decide +kernel
theorem dL_law_718 : decode cL_law 718 = .ok (.aload_n 0, 1) := by decide +kernel
theorem dL_law_719 : decode cL_law 719 = .ok (.iload_n 3, 1) := by decide +kernel
theorem dL_law_720 : decode cL_law 720 = .ok (.iconst 2, 1) := by decide +kernel
theorem dL_law_721 : decode cL_law 721 = .ok (.iadd, 1) := by decide +kernel
theorem dL_law_722 : decode cL_law 722 = .ok (.iaload, 1) := by decide +kernel
theorem dL_law_723 : decode cL_law 723 = .ok (.invokevirtual 74, 3) := by decide +kernel
theorem dL_law_726 : decode cL_law 726 = .ok (.f2d, 1) := by decide +kernel
theorem dL_law_727 : decode cL_law 727 = .ok (.dstore 4, 2) := by decide +kernel
theorem dL_law_729 : decode cL_law 729 = .ok (.aload_n 2, 1) := by decide +kernel
theorem dL_law_730 : decode cL_law 730 = .ok (.aload_n 0, 1) := by decide +kernel
theorem dL_law_731 : decode cL_law 731 = .ok (.iload_n 3, 1) := by decide +kernel
theorem dL_law_732 : decode cL_law 732 = .ok (.iconst 1, 1) := by decide +kernel
theorem dL_law_733 : decode cL_law 733 = .ok (.iadd, 1) := by decide +kernel
theorem dL_law_734 : decode cL_law 734 = .ok (.iaload, 1) := by decide +kernel
theorem dL_law_735 : decode cL_law 735 = .ok (.aload_n 0, 1) := by decide +kernel
theorem dL_law_736 : decode cL_law 736 = .ok (.iload_n 3, 1) := by decide +kernel
theorem dL_law_737 : decode cL_law 737 = .ok (.iconst 2, 1) := by decide +kernel
theorem dL_law_738 : decode cL_law 738 = .ok (.iadd, 1) := by decide +kernel
theorem dL_law_739 : decode cL_law 739 = .ok (.iaload, 1) := by decide +kernel
theorem dL_law_740 : decode cL_law 740 = .ok (.invokevirtual 78, 3) := by decide +kernel
theorem dL_law_743 : decode cL_law 743 = .ok (.f2d, 1) := by decide +kernel
theorem dL_law_744 : decode cL_law 744 = .ok (.dstore 6, 2) := by decide +kernel
theorem dL_law_746 : decode cL_law 746 = .ok (.dload 4, 2) := by decide +kernel
theorem dL_law_748 : decode cL_law 748 = .ok (.dload 6, 2) := by decide +kernel
theorem dL_law_750 : decode cL_law 750 = .ok (.dcmp .l, 1) := by decide +kernel
theorem dL_law_751 : decode cL_law 751 = .ok (.ifCond .eq 21, 3) := by decide +kernel
theorem dL_law_754 : decode cL_law 754 = .ok (.dload 4, 2) := by decide +kernel
theorem dL_law_756 : decode cL_law 756 = .ok (.dload 4, 2) := by decide +kernel
theorem dL_law_758 : decode cL_law 758 = .ok (.dcmp .l, 1) := by decide +kernel
theorem dL_law_759 : decode cL_law 759 = .ok (.ifCond .eq 11, 3) := by decide +kernel
theorem dL_law_762 : decode cL_law 762 = .ok (.dload 6, 2) := by decide +kernel
theorem dL_law_764 : decode cL_law 764 = .ok (.dload 6, 2) := by decide +kernel
theorem dL_law_766 : decode cL_law 766 = .ok (.dcmp .l, 1) := by decide +kernel
theorem dL_law_767 : decode cL_law 767 = .ok (.ifCond .ne 5, 3) := by decide +kernel
theorem dL_law_770 : decode cL_law 770 = .ok (.iconst 0, 1) := by decide +kernel
theorem dL_law_771 : decode cL_law 771 = .ok (.ireturn, 1) := by decide +kernel
theorem dL_law_772 : decode cL_law 772 = .ok (.goto 651, 3) := by decide +kernel
theorem dL_law_775 : decode cL_law 775 = .ok (.aload_n 1, 1) := by decide +kernel
theorem dL_law_776 : decode cL_law 776 = .ok (.aload_n 0, 1) := by decide +kernel
theorem dL_law_777 : decode cL_law 777 = .ok (.iload_n 3, 1) := by decide +kernel
theorem dL_law_778 : decode cL_law 778 = .ok (.iconst 1, 1) := by decide +kernel
theorem dL_law_779 : decode cL_law 779 = .ok (.iadd, 1) := by decide +kernel
theorem dL_law_780 : decode cL_law 780 = .ok (.iaload, 1) := by decide +kernel
theorem dL_law_781 : decode cL_law 781 = .ok (.aload_n 0, 1) := by decide +kernel
theorem dL_law_782 : decode cL_law 782 = .ok (.iload_n 3, 1) := by decide +kernel
theorem dL_law_783 : decode cL_law 783 = .ok (.iconst 2, 1) := by decide +kernel
theorem dL_law_784 : decode cL_law 784 = .ok (.iadd, 1) := by decide +kernel
theorem dL_law_785 : decode cL_law 785 = .ok (.iaload, 1) := by decide +kernel
theorem dL_law_786 : decode cL_law 786 = .ok (.aload_n 0, 1) := by decide +kernel
theorem dL_law_787 : decode cL_law 787 = .ok (.iload_n 3, 1) := by decide +kernel
theorem dL_law_788 : decode cL_law 788 = .ok (.iconst 3, 1) := by decide +kernel
theorem dL_law_789 : decode cL_law 789 = .ok (.iadd, 1) := by decide +kernel
theorem dL_law_790 : decode cL_law 790 = .ok (.iaload, 1) := by decide +kernel
theorem dL_law_791 : decode cL_law 791 = .ok (.invokevirtual 79, 3) := by decide +kernel
theorem dL_law_794 : decode cL_law 794 = .ok (.dstore 4, 2) := by decide +kernel
theorem dL_law_796 : decode cL_law 796 = .ok (.aload_n 2, 1) := by decide +kernel
theorem dL_law_797 : decode cL_law 797 = .ok (.aload_n 0, 1) := by decide +kernel
theorem dL_law_798 : decode cL_law 798 = .ok (.iload_n 3, 1) := by decide +kernel
theorem dL_law_799 : decode cL_law 799 = .ok (.iconst 1, 1) := by decide +kernel
theorem dL_law_800 : decode cL_law 800 = .ok (.iadd, 1) := by decide +kernel
theorem dL_law_801 : decode cL_law 801 = .ok (.iaload, 1) := by decide +kernel
theorem dL_law_802 : decode cL_law 802 = .ok (.aload_n 0, 1) := by decide +kernel
theorem dL_law_803 : decode cL_law 803 = .ok (.iload_n 3, 1) := by decide +kernel
theorem dL_law_804 : decode cL_law 804 = .ok (.iconst 2, 1) := by decide +kernel
theorem dL_law_805 : decode cL_law 805 = .ok (.iadd, 1) := by decide +kernel
theorem dL_law_806 : decode cL_law 806 = .ok (.iaload, 1) := by decide +kernel
theorem dL_law_807 : decode cL_law 807 = .ok (.aload_n 0, 1) := by decide +kernel
theorem dL_law_808 : decode cL_law 808 = .ok (.iload_n 3, 1) := by decide +kernel
theorem dL_law_809 : decode cL_law 809 = .ok (.iconst 3, 1) := by decide +kernel
theorem dL_law_810 : decode cL_law 810 = .ok (.iadd, 1) := by decide +kernel
theorem dL_law_811 : decode cL_law 811 = .ok (.iaload, 1) := by decide +kernel
theorem dL_law_812 : decode cL_law 812 = .ok (.invokevirtual 83, 3) := by decide +kernel
theorem dL_law_815 : decode cL_law 815 = .ok (.dstore 6, 2) := by decide +kernel
theorem dL_law_817 : decode cL_law 817 = .ok (.dload 4, 2) := by decide +kernel
theorem dL_law_819 : decode cL_law 819 = .ok (.dload 6, 2) := by decide +kernel
theorem dL_law_821 : decode cL_law 821 = .ok (.dcmp .l, 1) := by decide +kernel
theorem dL_law_822 : decode cL_law 822 = .ok (.ifCond .eq 21, 3) := by decide +kernel
theorem dL_law_825 : decode cL_law 825 = .ok (.dload 4, 2) := by decide +kernel
theorem dL_law_827 : decode cL_law 827 = .ok (.dload 4, 2) := by decide +kernel
theorem dL_law_829 : decode cL_law 829 = .ok (.dcmp .l, 1) := by decide +kernel
theorem dL_law_830 : decode cL_law 830 = .ok (.ifCond .eq 11, 3) := by decide +kernel
theorem dL_law_833 : decode cL_law 833 = .ok (.dload 6, 2) := by decide +kernel
theorem dL_law_835 : decode cL_law 835 = .ok (.dload 6, 2) := by decide +kernel
theorem dL_law_837 : decode cL_law 837 = .ok (.dcmp .l, 1) := by decide +kernel
theorem dL_law_838 : decode cL_law 838 = .ok (.ifCond .ne 5, 3) := by decide +kernel
theorem dL_law_841 : decode cL_law 841 = .ok (.iconst 0, 1) := by decide +kernel
theorem dL_law_842 : decode cL_law 842 = .ok (.ireturn, 1) := by decide +kernel
theorem dL_law_843 : decode cL_law 843 = .ok (.goto 580, 3) := by decide +kernel
theorem dL_law_846 : decode cL_law 846 = .ok (.aload_n 1, 1) := by decide +kernel
theorem dL_law_847 : decode cL_law 847 = .ok (.aload_n 0, 1) := by decide +kernel
theorem dL_law_848 : decode cL_law 848 = .ok (.iload_n 3, 1) := by decide +kernel
theorem dL_law_849 : decode cL_law 849 = .ok (.iconst 1, 1) := by decide +kernel
theorem dL_law_850 : decode cL_law 850 = .ok (.iadd, 1) := by decide +kernel
theorem dL_law_851 : decode cL_law 851 = .ok (.iaload, 1) := by decide +kernel
theorem dL_law_852 : decode cL_law 852 = .ok (.aload_n 0, 1) := by decide +kernel
theorem dL_law_853 : decode cL_law 853 = .ok (.iload_n 3, 1) := by decide +kernel
theorem dL_law_854 : decode cL_law 854 = .ok (.iconst 2, 1) := by decide +kernel
theorem dL_law_855 : decode cL_law 855 = .ok (.iadd, 1) := by decide +kernel
theorem dL_law_856 : decode cL_law 856 = .ok (.iaload, 1) := by decide +kernel
theorem dL_law_857 : decode cL_law 857 = .ok (.aload_n 0, 1) := by decide +kernel
theorem dL_law_858 : decode cL_law 858 = .ok (.iload_n 3, 1) := by decide +kernel
theorem dL_law_859 : decode cL_law 859 = .ok (.iconst 3, 1) := by decide +kernel
theorem dL_law_860 : decode cL_law 860 = .ok (.iadd, 1) := by decide +kernel
theorem dL_law_861 : decode cL_law 861 = .ok (.iaload, 1) := by decide +kernel
theorem dL_law_862 : decode cL_law 862 = .ok (.aload_n 0, 1) := by decide +kernel
theorem dL_law_863 : decode cL_law 863 = .ok (.iload_n 3, 1) := by decide +kernel
theorem dL_law_864 : decode cL_law 864 = .ok (.iconst 4, 1) := by decide +kernel
theorem dL_law_865 : decode cL_law 865 = .ok (.iadd, 1) := by decide +kernel
theorem dL_law_866 : decode cL_law 866 = .ok (.iaload, 1) := by decide +kernel
theorem dL_law_867 : decode cL_law 867 = .ok (.ifCond .eq 7, 3) := by decide +kernel
theorem dL_law_870 : decode cL_law 870 = .ok (.iconst 1, 1) := by decide +kernel
theorem dL_law_871 : decode cL_law 871 = .ok (.goto 4, 3) := by decide +kernel
theorem dL_law_874 : decode cL_law 874 = .ok (.iconst 0, 1) := by decide +kernel
theorem dL_law_875 : decode cL_law 875 = .ok (.invokevirtual 84, 3) := by decide +kernel
theorem dL_law_878 : decode cL_law 878 = .ok (.aload_n 2, 1) := by decide +kernel
theorem dL_law_879 : decode cL_law 879 = .ok (.aload_n 0, 1) := by decide +kernel
theorem dL_law_880 : decode cL_law 880 = .ok (.iload_n 3, 1) := by decide +kernel
theorem dL_law_881 : decode cL_law 881 = .ok (.iconst 1, 1) := by decide +kernel
theorem dL_law_882 : decode cL_law 882 = .ok (.iadd, 1) := by decide +kernel
theorem dL_law_883 : decode cL_law 883 = .ok (.iaload, 1) := by decide +kernel
theorem dL_law_884 : decode cL_law 884 = .ok (.aload_n 0, 1) := by decide +kernel
theorem dL_law_885 : decode cL_law 885 = .ok (.iload_n 3, 1) := by decide +kernel
theorem dL_law_886 : decode cL_law 886 = .ok (.iconst 2, 1) := by decide +kernel
theorem dL_law_887 : decode cL_law 887 = .ok (.iadd, 1) := by decide +kernel
theorem dL_law_888 : decode cL_law 888 = .ok (.iaload, 1) := by decide +kernel
theorem dL_law_889 : decode cL_law 889 = .ok (.aload_n 0, 1) := by decide +kernel
theorem dL_law_890 : decode cL_law 890 = .ok (.iload_n 3, 1) := by decide +kernel
theorem dL_law_891 : decode cL_law 891 = .ok (.iconst 3, 1) := by decide +kernel
theorem dL_law_892 : decode cL_law 892 = .ok (.iadd, 1) := by decide +kernel
theorem dL_law_893 : decode cL_law 893 = .ok (.iaload, 1) := by decide +kernel
theorem dL_law_894 : decode cL_law 894 = .ok (.aload_n 0, 1) := by decide +kernel
theorem dL_law_895 : decode cL_law 895 = .ok (.iload_n 3, 1) := by decide +kernel
theorem dL_law_896 : decode cL_law 896 = .ok (.iconst 4, 1) := by decide +kernel
theorem dL_law_897 : decode cL_law 897 = .ok (.iadd, 1) := by decide +kernel
theorem dL_law_898 : decode cL_law 898 = .ok (.iaload, 1) := by decide +kernel
theorem dL_law_899 : decode cL_law 899 = .ok (.ifCond .eq 7, 3) := by decide +kernel
theorem dL_law_902 : decode cL_law 902 = .ok (.iconst 1, 1) := by decide +kernel
theorem dL_law_903 : decode cL_law 903 = .ok (.goto 4, 3) := by decide +kernel
theorem dL_law_906 : decode cL_law 906 = .ok (.iconst 0, 1) := by decide +kernel
theorem dL_law_907 : decode cL_law 907 = .ok (.invokevirtual 88, 3) := by decide +kernel
theorem dL_law_910 : decode cL_law 910 = .ok (.if_icmp .eq 513, 3) := by decide +kernel
theorem dL_law_913 : decode cL_law 913 = .ok (.iconst 0, 1) := by decide +kernel
theorem dL_law_914 : decode cL_law 914 = .ok (.ireturn, 1) := by decide +kernel
theorem dL_law_915 : decode cL_law 915 = .ok (.aload_n 1, 1) := by decide +kernel
theorem dL_law_916 : decode cL_law 916 = .ok (.aload_n 0, 1) := by decide +kernel
theorem dL_law_917 : decode cL_law 917 = .ok (.iload_n 3, 1) := by decide +kernel
theorem dL_law_918 : decode cL_law 918 = .ok (.iconst 1, 1) := by decide +kernel
theorem dL_law_919 : decode cL_law 919 = .ok (.iadd, 1) := by decide +kernel
theorem dL_law_920 : decode cL_law 920 = .ok (.iaload, 1) := by decide +kernel
theorem dL_law_921 : decode cL_law 921 = .ok (.aload_n 0, 1) := by decide +kernel
theorem dL_law_922 : decode cL_law 922 = .ok (.iload_n 3, 1) := by decide +kernel
theorem dL_law_923 : decode cL_law 923 = .ok (.iconst 2, 1) := by decide +kernel
theorem dL_law_924 : decode cL_law 924 = .ok (.iadd, 1) := by decide +kernel
theorem dL_law_925 : decode cL_law 925 = .ok (.iaload, 1) := by decide +kernel
theorem dL_law_926 : decode cL_law 926 = .ok (.aload_n 0, 1) := by decide +kernel
theorem dL_law_927 : decode cL_law 927 = .ok (.iload_n 3, 1) := by decide +kernel
theorem dL_law_928 : decode cL_law 928 = .ok (.iconst 3, 1) := by decide +kernel
theorem dL_law_929 : decode cL_law 929 = .ok (.iadd, 1) := by decide +kernel
theorem dL_law_930 : decode cL_law 930 = .ok (.iaload, 1) := by decide +kernel
theorem dL_law_931 : decode cL_law 931 = .ok (.aload_n 0, 1) := by decide +kernel
theorem dL_law_932 : decode cL_law 932 = .ok (.iload_n 3, 1) := by decide +kernel
theorem dL_law_933 : decode cL_law 933 = .ok (.iconst 4, 1) := by decide +kernel
theorem dL_law_934 : decode cL_law 934 = .ok (.iadd, 1) := by decide +kernel
theorem dL_law_935 : decode cL_law 935 = .ok (.iaload, 1) := by decide +kernel
theorem dL_law_936 : decode cL_law 936 = .ok (.invokevirtual 89, 3) := by decide +kernel
theorem dL_law_939 : decode cL_law 939 = .ok (.aload_n 2, 1) := by decide +kernel
theorem dL_law_940 : decode cL_law 940 = .ok (.aload_n 0, 1) := by decide +kernel
theorem dL_law_941 : decode cL_law 941 = .ok (.iload_n 3, 1) := by decide +kernel
theorem dL_law_942 : decode cL_law 942 = .ok (.iconst 1, 1) := by decide +kernel
theorem dL_law_943 : decode cL_law 943 = .ok (.iadd, 1) := by decide +kernel
theorem dL_law_944 : decode cL_law 944 = .ok (.iaload, 1) := by decide +kernel
theorem dL_law_945 : decode cL_law 945 = .ok (.aload_n 0, 1) := by decide +kernel
theorem dL_law_946 : decode cL_law 946 = .ok (.iload_n 3, 1) := by decide +kernel
theorem dL_law_947 : decode cL_law 947 = .ok (.iconst 2, 1) := by decide +kernel
theorem dL_law_948 : decode cL_law 948 = .ok (.iadd, 1) := by decide +kernel
theorem dL_law_949 : decode cL_law 949 = .ok (.iaload, 1) := by decide +kernel
theorem dL_law_950 : decode cL_law 950 = .ok (.aload_n 0, 1) := by decide +kernel
theorem dL_law_951 : decode cL_law 951 = .ok (.iload_n 3, 1) := by decide +kernel
theorem dL_law_952 : decode cL_law 952 = .ok (.iconst 3, 1) := by decide +kernel
theorem dL_law_953 : decode cL_law 953 = .ok (.iadd, 1) := by decide +kernel
theorem dL_law_954 : decode cL_law 954 = .ok (.iaload, 1) := by decide +kernel
theorem dL_law_955 : decode cL_law 955 = .ok (.aload_n 0, 1) := by decide +kernel
theorem dL_law_956 : decode cL_law 956 = .ok (.iload_n 3, 1) := by decide +kernel
theorem dL_law_957 : decode cL_law 957 = .ok (.iconst 4, 1) := by decide +kernel
theorem dL_law_958 : decode cL_law 958 = .ok (.iadd, 1) := by decide +kernel
theorem dL_law_959 : decode cL_law 959 = .ok (.iaload, 1) := by decide +kernel
theorem dL_law_960 : decode cL_law 960 = .ok (.invokevirtual 92, 3) := by decide +kernel
theorem dL_law_963 : decode cL_law 963 = .ok (.if_icmp .eq 460, 3) := by decide +kernel
theorem dL_law_966 : decode cL_law 966 = .ok (.iconst 0, 1) := by decide +kernel
theorem dL_law_967 : decode cL_law 967 = .ok (.ireturn, 1) := by decide +kernel
theorem dL_law_968 : decode cL_law 968 = .ok (.aload_n 1, 1) := by decide +kernel
theorem dL_law_969 : decode cL_law 969 = .ok (.aload_n 0, 1) := by decide +kernel
theorem dL_law_970 : decode cL_law 970 = .ok (.iload_n 3, 1) := by decide +kernel
theorem dL_law_971 : decode cL_law 971 = .ok (.iconst 1, 1) := by decide +kernel
theorem dL_law_972 : decode cL_law 972 = .ok (.iadd, 1) := by decide +kernel
theorem dL_law_973 : decode cL_law 973 = .ok (.iaload, 1) := by decide +kernel
theorem dL_law_974 : decode cL_law 974 = .ok (.aload_n 0, 1) := by decide +kernel
theorem dL_law_975 : decode cL_law 975 = .ok (.iload_n 3, 1) := by decide +kernel
theorem dL_law_976 : decode cL_law 976 = .ok (.iconst 2, 1) := by decide +kernel
theorem dL_law_977 : decode cL_law 977 = .ok (.iadd, 1) := by decide +kernel
theorem dL_law_978 : decode cL_law 978 = .ok (.iaload, 1) := by decide +kernel
theorem dL_law_979 : decode cL_law 979 = .ok (.invokevirtual 93, 3) := by decide +kernel
theorem dL_law_982 : decode cL_law 982 = .ok (.aload_n 2, 1) := by decide +kernel
theorem dL_law_983 : decode cL_law 983 = .ok (.aload_n 0, 1) := by decide +kernel
theorem dL_law_984 : decode cL_law 984 = .ok (.iload_n 3, 1) := by decide +kernel
theorem dL_law_985 : decode cL_law 985 = .ok (.iconst 1, 1) := by decide +kernel
theorem dL_law_986 : decode cL_law 986 = .ok (.iadd, 1) := by decide +kernel
theorem dL_law_987 : decode cL_law 987 = .ok (.iaload, 1) := by decide +kernel
theorem dL_law_988 : decode cL_law 988 = .ok (.aload_n 0, 1) := by decide +kernel
theorem dL_law_989 : decode cL_law 989 = .ok (.iload_n 3, 1) := by decide +kernel
theorem dL_law_990 : decode cL_law 990 = .ok (.iconst 2, 1) := by decide +kernel
theorem dL_law_991 : decode cL_law 991 = .ok (.iadd, 1) := by decide +kernel
theorem dL_law_992 : decode cL_law 992 = .ok (.iaload, 1) := by decide +kernel
theorem dL_law_993 : decode cL_law 993 = .ok (.invokevirtual 96, 3) := by decide +kernel
theorem dL_law_996 : decode cL_law 996 = .ok (.if_icmp .eq 427, 3) := by decide +kernel
theorem dL_law_999 : decode cL_law 999 = .ok (.iconst 0, 1) := by decide +kernel
theorem dL_law_1000 : decode cL_law 1000 = .ok (.ireturn, 1) := by decide +kernel
theorem dL_law_1001 : decode cL_law 1001 = .ok (.aload_n 1, 1) := by decide +kernel
theorem dL_law_1002 : decode cL_law 1002 = .ok (.invokevirtual 97, 3) := by decide +kernel
theorem dL_law_1005 : decode cL_law 1005 = .ok (.aload_n 2, 1) := by decide +kernel
theorem dL_law_1006 : decode cL_law 1006 = .ok (.invokevirtual 101, 3) := by decide +kernel
theorem dL_law_1009 : decode cL_law 1009 = .ok (.if_icmp .eq 414, 3) := by decide +kernel
theorem dL_law_1012 : decode cL_law 1012 = .ok (.iconst 0, 1) := by decide +kernel
theorem dL_law_1013 : decode cL_law 1013 = .ok (.ireturn, 1) := by decide +kernel
theorem dL_law_1014 : decode cL_law 1014 = .ok (.aload_n 1, 1) := by decide +kernel
theorem dL_law_1015 : decode cL_law 1015 = .ok (.aload_n 0, 1) := by decide +kernel
theorem dL_law_1016 : decode cL_law 1016 = .ok (.iload_n 3, 1) := by decide +kernel
theorem dL_law_1017 : decode cL_law 1017 = .ok (.iconst 1, 1) := by decide +kernel
theorem dL_law_1018 : decode cL_law 1018 = .ok (.iadd, 1) := by decide +kernel
theorem dL_law_1019 : decode cL_law 1019 = .ok (.iaload, 1) := by decide +kernel
theorem dL_law_1020 : decode cL_law 1020 = .ok (.invokevirtual 102, 3) := by decide +kernel
theorem dL_law_1023 : decode cL_law 1023 = .ok (.aload_n 2, 1) := by decide +kernel
theorem dL_law_1024 : decode cL_law 1024 = .ok (.aload_n 0, 1) := by decide +kernel
theorem dL_law_1025 : decode cL_law 1025 = .ok (.iload_n 3, 1) := by decide +kernel
theorem dL_law_1026 : decode cL_law 1026 = .ok (.iconst 1, 1) := by decide +kernel
theorem dL_law_1027 : decode cL_law 1027 = .ok (.iadd, 1) := by decide +kernel
theorem dL_law_1028 : decode cL_law 1028 = .ok (.iaload, 1) := by decide +kernel
theorem dL_law_1029 : decode cL_law 1029 = .ok (.invokevirtual 105, 3) := by decide +kernel
theorem dL_law_1032 : decode cL_law 1032 = .ok (.if_icmp .eq 391, 3) := by decide +kernel
theorem dL_law_1035 : decode cL_law 1035 = .ok (.iconst 0, 1) := by decide +kernel
theorem dL_law_1036 : decode cL_law 1036 = .ok (.ireturn, 1) := by decide +kernel
theorem dL_law_1037 : decode cL_law 1037 = .ok (.aload_n 1, 1) := by decide +kernel
theorem dL_law_1038 : decode cL_law 1038 = .ok (.aload_n 0, 1) := by decide +kernel
theorem dL_law_1039 : decode cL_law 1039 = .ok (.iload_n 3, 1) := by decide +kernel
theorem dL_law_1040 : decode cL_law 1040 = .ok (.iconst 1, 1) := by decide +kernel
theorem dL_law_1041 : decode cL_law 1041 = .ok (.iadd, 1) := by decide +kernel
theorem dL_law_1042 : decode cL_law 1042 = .ok (.iaload, 1) := by decide +kernel
theorem dL_law_1043 : decode cL_law 1043 = .ok (.invokevirtual 106, 3) := by decide +kernel
theorem dL_law_1046 : decode cL_law 1046 = .ok (.aload_n 2, 1) := by decide +kernel
theorem dL_law_1047 : decode cL_law 1047 = .ok (.aload_n 0, 1) := by decide +kernel
theorem dL_law_1048 : decode cL_law 1048 = .ok (.iload_n 3, 1) := by decide +kernel
theorem dL_law_1049 : decode cL_law 1049 = .ok (.iconst 1, 1) := by decide +kernel
theorem dL_law_1050 : decode cL_law 1050 = .ok (.iadd, 1) := by decide +kernel
theorem dL_law_1051 : decode cL_law 1051 = .ok (.iaload, 1) := by decide +kernel
theorem dL_law_1052 : decode cL_law 1052 = .ok (.invokevirtual 109, 3) := by decide +kernel
theorem dL_law_1055 : decode cL_law 1055 = .ok (.if_icmp .eq 368, 3) := by decide +kernel
theorem dL_law_1058 : decode cL_law 1058 = .ok (.iconst 0, 1) := by decide +kernel
theorem dL_law_1059 : decode cL_law 1059 = .ok (.ireturn, 1) := by decide +kernel
theorem dL_law_1060 : decode cL_law 1060 = .ok (.aload_n 1, 1) := by decide +kernel
theorem dL_law_1061 : decode cL_law 1061 = .ok (.aload_n 0, 1) := by decide +kernel
theorem dL_law_1062 : decode cL_law 1062 = .ok (.iload_n 3, 1) := by decide +kernel
theorem dL_law_1063 : decode cL_law 1063 = .ok (.iconst 1, 1) := by decide +kernel
theorem dL_law_1064 : decode cL_law 1064 = .ok (.iadd, 1) := by decide +kernel
theorem dL_law_1065 : decode cL_law 1065 = .ok (.iaload, 1) := by decide +kernel
theorem dL_law_1066 : decode cL_law 1066 = .ok (.aload_n 0, 1) := by decide +kernel
theorem dL_law_1067 : decode cL_law 1067 = .ok (.iload_n 3, 1) := by decide +kernel
theorem dL_law_1068 : decode cL_law 1068 = .ok (.iconst 2, 1) := by decide +kernel
theorem dL_law_1069 : decode cL_law 1069 = .ok (.iadd, 1) := by decide +kernel
theorem dL_law_1070 : decode cL_law 1070 = .ok (.iaload, 1) := by decide +kernel
theorem dL_law_1071 : decode cL_law 1071 = .ok (.aload_n 0, 1) := by decide +kernel
theorem dL_law_1072 : decode cL_law 1072 = .ok (.iload_n 3, 1) := by decide +kernel
theorem dL_law_1073 : decode cL_law 1073 = .ok (.iconst 3, 1) := by decide +kernel
theorem dL_law_1074 : decode cL_law 1074 = .ok (.iadd, 1) := by decide +kernel
theorem dL_law_1075 : decode cL_law 1075 = .ok (.iaload, 1) := by decide +kernel
theorem dL_law_1076 : decode cL_law 1076 = .ok (.aload_n 0, 1) := by decide +kernel
theorem dL_law_1077 : decode cL_law 1077 = .ok (.iload_n 3, 1) := by decide +kernel
theorem dL_law_1078 : decode cL_law 1078 = .ok (.iconst 4, 1) := by decide +kernel
theorem dL_law_1079 : decode cL_law 1079 = .ok (.iadd, 1) := by decide +kernel
theorem dL_law_1080 : decode cL_law 1080 = .ok (.iaload, 1) := by decide +kernel
theorem dL_law_1081 : decode cL_law 1081 = .ok (.invokevirtual 110, 3) := by decide +kernel
theorem dL_law_1084 : decode cL_law 1084 = .ok (.aload_n 2, 1) := by decide +kernel
theorem dL_law_1085 : decode cL_law 1085 = .ok (.aload_n 0, 1) := by decide +kernel
theorem dL_law_1086 : decode cL_law 1086 = .ok (.iload_n 3, 1) := by decide +kernel
theorem dL_law_1087 : decode cL_law 1087 = .ok (.iconst 1, 1) := by decide +kernel
theorem dL_law_1088 : decode cL_law 1088 = .ok (.iadd, 1) := by decide +kernel
theorem dL_law_1089 : decode cL_law 1089 = .ok (.iaload, 1) := by decide +kernel
theorem dL_law_1090 : decode cL_law 1090 = .ok (.aload_n 0, 1) := by decide +kernel
theorem dL_law_1091 : decode cL_law 1091 = .ok (.iload_n 3, 1) := by decide +kernel
theorem dL_law_1092 : decode cL_law 1092 = .ok (.iconst 2, 1) := by decide +kernel
theorem dL_law_1093 : decode cL_law 1093 = .ok (.iadd, 1) := by decide +kernel
theorem dL_law_1094 : decode cL_law 1094 = .ok (.iaload, 1) := by decide +kernel
theorem dL_law_1095 : decode cL_law 1095 = .ok (.aload_n 0, 1) := by decide +kernel
theorem dL_law_1096 : decode cL_law 1096 = .ok (.iload_n 3, 1) := by decide +kernel
theorem dL_law_1097 : decode cL_law 1097 = .ok (.iconst 3, 1) := by decide +kernel
theorem dL_law_1098 : decode cL_law 1098 = .ok (.iadd, 1) := by decide +kernel
theorem dL_law_1099 : decode cL_law 1099 = .ok (.iaload, 1) := by decide +kernel
theorem dL_law_1100 : decode cL_law 1100 = .ok (.aload_n 0, 1) := by decide +kernel
theorem dL_law_1101 : decode cL_law 1101 = .ok (.iload_n 3, 1) := by decide +kernel
theorem dL_law_1102 : decode cL_law 1102 = .ok (.iconst 4, 1) := by decide +kernel
theorem dL_law_1103 : decode cL_law 1103 = .ok (.iadd, 1) := by decide +kernel
theorem dL_law_1104 : decode cL_law 1104 = .ok (.iaload, 1) := by decide +kernel
theorem dL_law_1105 : decode cL_law 1105 = .ok (.invokevirtual 113, 3) := by decide +kernel
theorem dL_law_1108 : decode cL_law 1108 = .ok (.if_icmp .eq 315, 3) := by decide +kernel
theorem dL_law_1111 : decode cL_law 1111 = .ok (.iconst 0, 1) := by decide +kernel
theorem dL_law_1112 : decode cL_law 1112 = .ok (.ireturn, 1) := by decide +kernel
theorem dL_law_1113 : decode cL_law 1113 = .ok (.aload_n 1, 1) := by decide +kernel
theorem dL_law_1114 : decode cL_law 1114 = .ok (.aload_n 0, 1) := by decide +kernel
theorem dL_law_1115 : decode cL_law 1115 = .ok (.iload_n 3, 1) := by decide +kernel
theorem dL_law_1116 : decode cL_law 1116 = .ok (.iconst 1, 1) := by decide +kernel
theorem dL_law_1117 : decode cL_law 1117 = .ok (.iadd, 1) := by decide +kernel
theorem dL_law_1118 : decode cL_law 1118 = .ok (.iaload, 1) := by decide +kernel
theorem dL_law_1119 : decode cL_law 1119 = .ok (.aload_n 0, 1) := by decide +kernel
theorem dL_law_1120 : decode cL_law 1120 = .ok (.iload_n 3, 1) := by decide +kernel
theorem dL_law_1121 : decode cL_law 1121 = .ok (.iconst 2, 1) := by decide +kernel
theorem dL_law_1122 : decode cL_law 1122 = .ok (.iadd, 1) := by decide +kernel
theorem dL_law_1123 : decode cL_law 1123 = .ok (.iaload, 1) := by decide +kernel
theorem dL_law_1124 : decode cL_law 1124 = .ok (.aload_n 0, 1) := by decide +kernel
theorem dL_law_1125 : decode cL_law 1125 = .ok (.iload_n 3, 1) := by decide +kernel
theorem dL_law_1126 : decode cL_law 1126 = .ok (.iconst 3, 1) := by decide +kernel
theorem dL_law_1127 : decode cL_law 1127 = .ok (.iadd, 1) := by decide +kernel
theorem dL_law_1128 : decode cL_law 1128 = .ok (.iaload, 1) := by decide +kernel
theorem dL_law_1129 : decode cL_law 1129 = .ok (.aload_n 0, 1) := by decide +kernel
theorem dL_law_1130 : decode cL_law 1130 = .ok (.iload_n 3, 1) := by decide +kernel
theorem dL_law_1131 : decode cL_law 1131 = .ok (.iconst 4, 1) := by decide +kernel
theorem dL_law_1132 : decode cL_law 1132 = .ok (.iadd, 1) := by decide +kernel
theorem dL_law_1133 : decode cL_law 1133 = .ok (.iaload, 1) := by decide +kernel
theorem dL_law_1134 : decode cL_law 1134 = .ok (.invokevirtual 114, 3) := by decide +kernel
theorem dL_law_1137 : decode cL_law 1137 = .ok (.aload_n 2, 1) := by decide +kernel
theorem dL_law_1138 : decode cL_law 1138 = .ok (.aload_n 0, 1) := by decide +kernel
theorem dL_law_1139 : decode cL_law 1139 = .ok (.iload_n 3, 1) := by decide +kernel
theorem dL_law_1140 : decode cL_law 1140 = .ok (.iconst 1, 1) := by decide +kernel
theorem dL_law_1141 : decode cL_law 1141 = .ok (.iadd, 1) := by decide +kernel
theorem dL_law_1142 : decode cL_law 1142 = .ok (.iaload, 1) := by decide +kernel
theorem dL_law_1143 : decode cL_law 1143 = .ok (.aload_n 0, 1) := by decide +kernel
theorem dL_law_1144 : decode cL_law 1144 = .ok (.iload_n 3, 1) := by decide +kernel
theorem dL_law_1145 : decode cL_law 1145 = .ok (.iconst 2, 1) := by decide +kernel
theorem dL_law_1146 : decode cL_law 1146 = .ok (.iadd, 1) := by decide +kernel
theorem dL_law_1147 : decode cL_law 1147 = .ok (.iaload, 1) := by decide +kernel
theorem dL_law_1148 : decode cL_law 1148 = .ok (.aload_n 0, 1) := by decide +kernel
theorem dL_law_1149 : decode cL_law 1149 = .ok (.iload_n 3, 1) := by decide +kernel
theorem dL_law_1150 : decode cL_law 1150 = .ok (.iconst 3, 1) := by decide +kernel
theorem dL_law_1151 : decode cL_law 1151 = .ok (.iadd, 1) := by decide +kernel
theorem dL_law_1152 : decode cL_law 1152 = .ok (.iaload, 1) := by decide +kernel
theorem dL_law_1153 : decode cL_law 1153 = .ok (.aload_n 0, 1) := by decide +kernel
theorem dL_law_1154 : decode cL_law 1154 = .ok (.iload_n 3, 1) := by decide +kernel
theorem dL_law_1155 : decode cL_law 1155 = .ok (.iconst 4, 1) := by decide +kernel
theorem dL_law_1156 : decode cL_law 1156 = .ok (.iadd, 1) := by decide +kernel
theorem dL_law_1157 : decode cL_law 1157 = .ok (.iaload, 1) := by decide +kernel
theorem dL_law_1158 : decode cL_law 1158 = .ok (.invokevirtual 117, 3) := by decide +kernel
theorem dL_law_1161 : decode cL_law 1161 = .ok (.if_icmp .eq 262, 3) := by decide +kernel
theorem dL_law_1164 : decode cL_law 1164 = .ok (.iconst 0, 1) := by decide +kernel
theorem dL_law_1165 : decode cL_law 1165 = .ok (.ireturn, 1) := by decide +kernel
theorem dL_law_1166 : decode cL_law 1166 = .ok (.aload_n 1, 1) := by decide +kernel
theorem dL_law_1167 : decode cL_law 1167 = .ok (.aload_n 0, 1) := by decide +kernel
theorem dL_law_1168 : decode cL_law 1168 = .ok (.iload_n 3, 1) := by decide +kernel
theorem dL_law_1169 : decode cL_law 1169 = .ok (.iconst 1, 1) := by decide +kernel
theorem dL_law_1170 : decode cL_law 1170 = .ok (.iadd, 1) := by decide +kernel
theorem dL_law_1171 : decode cL_law 1171 = .ok (.iaload, 1) := by decide +kernel
theorem dL_law_1172 : decode cL_law 1172 = .ok (.aload_n 0, 1) := by decide +kernel
theorem dL_law_1173 : decode cL_law 1173 = .ok (.iload_n 3, 1) := by decide +kernel
theorem dL_law_1174 : decode cL_law 1174 = .ok (.iconst 2, 1) := by decide +kernel
theorem dL_law_1175 : decode cL_law 1175 = .ok (.iadd, 1) := by decide +kernel
theorem dL_law_1176 : decode cL_law 1176 = .ok (.iaload, 1) := by decide +kernel
theorem dL_law_1177 : decode cL_law 1177 = .ok (.aload_n 0, 1) := by decide +kernel
theorem dL_law_1178 : decode cL_law 1178 = .ok (.iload_n 3, 1) := by decide +kernel
theorem dL_law_1179 : decode cL_law 1179 = .ok (.iconst 3, 1) := by decide +kernel
theorem dL_law_1180 : decode cL_law 1180 = .ok (.iadd, 1) := by decide +kernel
theorem dL_law_1181 : decode cL_law 1181 = .ok (.iaload, 1) := by decide +kernel
theorem dL_law_1182 : decode cL_law 1182 = .ok (.aload_n 0, 1) := by decide +kernel
theorem dL_law_1183 : decode cL_law 1183 = .ok (.iload_n 3, 1) := by decide +kernel
theorem dL_law_1184 : decode cL_law 1184 = .ok (.iconst 4, 1) := by decide +kernel
theorem dL_law_1185 : decode cL_law 1185 = .ok (.iadd, 1) := by decide +kernel
theorem dL_law_1186 : decode cL_law 1186 = .ok (.iaload, 1) := by decide +kernel
theorem dL_law_1187 : decode cL_law 1187 = .ok (.aload_n 0, 1) := by decide +kernel
theorem dL_law_1188 : decode cL_law 1188 = .ok (.iload_n 3, 1) := by decide +kernel
theorem dL_law_1189 : decode cL_law 1189 = .ok (.iconst 5, 1) := by decide +kernel
theorem dL_law_1190 : decode cL_law 1190 = .ok (.iadd, 1) := by decide +kernel
theorem dL_law_1191 : decode cL_law 1191 = .ok (.iaload, 1) := by decide +kernel
theorem dL_law_1192 : decode cL_law 1192 = .ok (.invokevirtual 118, 3) := by decide +kernel
theorem dL_law_1195 : decode cL_law 1195 = .ok (.aload_n 2, 1) := by decide +kernel
theorem dL_law_1196 : decode cL_law 1196 = .ok (.aload_n 0, 1) := by decide +kernel
theorem dL_law_1197 : decode cL_law 1197 = .ok (.iload_n 3, 1) := by decide +kernel
theorem dL_law_1198 : decode cL_law 1198 = .ok (.iconst 1, 1) := by decide +kernel
theorem dL_law_1199 : decode cL_law 1199 = .ok (.iadd, 1) := by decide +kernel
theorem dL_law_1200 : decode cL_law 1200 = .ok (.iaload, 1) := by decide +kernel
theorem dL_law_1201 : decode cL_law 1201 = .ok (.aload_n 0, 1) := by decide +kernel
theorem dL_law_1202 : decode cL_law 1202 = .ok (.iload_n 3, 1) := by decide +kernel
theorem dL_law_1203 : decode cL_law 1203 = .ok (.iconst 2, 1) := by decide +kernel
theorem dL_law_1204 : decode cL_law 1204 = .ok (.iadd, 1) := by decide +kernel
theorem dL_law_1205 : decode cL_law 1205 = .ok (.iaload, 1) := by decide +kernel
theorem dL_law_1206 : decode cL_law 1206 = .ok (.aload_n 0, 1) := by decide +kernel
theorem dL_law_1207 : decode cL_law 1207 = .ok (.iload_n 3, 1) := by decide +kernel
theorem dL_law_1208 : decode cL_law 1208 = .ok (.iconst 3, 1) := by decide +kernel
theorem dL_law_1209 : decode cL_law 1209 = .ok (.iadd, 1) := by decide +kernel
theorem dL_law_1210 : decode cL_law 1210 = .ok (.iaload, 1) := by decide +kernel
theorem dL_law_1211 : decode cL_law 1211 = .ok (.aload_n 0, 1) := by decide +kernel
theorem dL_law_1212 : decode cL_law 1212 = .ok (.iload_n 3, 1) := by decide +kernel
theorem dL_law_1213 : decode cL_law 1213 = .ok (.iconst 4, 1) := by decide +kernel
theorem dL_law_1214 : decode cL_law 1214 = .ok (.iadd, 1) := by decide +kernel
theorem dL_law_1215 : decode cL_law 1215 = .ok (.iaload, 1) := by decide +kernel
theorem dL_law_1216 : decode cL_law 1216 = .ok (.aload_n 0, 1) := by decide +kernel
theorem dL_law_1217 : decode cL_law 1217 = .ok (.iload_n 3, 1) := by decide +kernel
theorem dL_law_1218 : decode cL_law 1218 = .ok (.iconst 5, 1) := by decide +kernel
theorem dL_law_1219 : decode cL_law 1219 = .ok (.iadd, 1) := by decide +kernel
theorem dL_law_1220 : decode cL_law 1220 = .ok (.iaload, 1) := by decide +kernel
theorem dL_law_1221 : decode cL_law 1221 = .ok (.invokevirtual 122, 3) := by decide +kernel
theorem dL_law_1224 : decode cL_law 1224 = .ok (.if_icmp .eq 199, 3) := by decide +kernel
theorem dL_law_1227 : decode cL_law 1227 = .ok (.iconst 0, 1) := by decide +kernel
theorem dL_law_1228 : decode cL_law 1228 = .ok (.ireturn, 1) := by decide +kernel
theorem dL_law_1229 : decode cL_law 1229 = .ok (.aload_n 1, 1) := by decide +kernel
theorem dL_law_1230 : decode cL_law 1230 = .ok (.aload_n 0, 1) := by decide +kernel
theorem dL_law_1231 : decode cL_law 1231 = .ok (.iload_n 3, 1) := by decide +kernel
theorem dL_law_1232 : decode cL_law 1232 = .ok (.iconst 1, 1) := by decide +kernel
theorem dL_law_1233 : decode cL_law 1233 = .ok (.iadd, 1) := by decide +kernel
theorem dL_law_1234 : decode cL_law 1234 = .ok (.iaload, 1) := by decide +kernel
theorem dL_law_1235 : decode cL_law 1235 = .ok (.aload_n 0, 1) := by decide +kernel
theorem dL_law_1236 : decode cL_law 1236 = .ok (.iload_n 3, 1) := by decide +kernel
theorem dL_law_1237 : decode cL_law 1237 = .ok (.iconst 2, 1) := by decide +kernel
theorem dL_law_1238 : decode cL_law 1238 = .ok (.iadd, 1) := by decide +kernel
theorem dL_law_1239 : decode cL_law 1239 = .ok (.iaload, 1) := by decide +kernel
theorem dL_law_1240 : decode cL_law 1240 = .ok (.invokevirtual 123, 3) := by decide +kernel
theorem dL_law_1243 : decode cL_law 1243 = .ok (.aload_n 2, 1) := by decide +kernel
theorem dL_law_1244 : decode cL_law 1244 = .ok (.aload_n 0, 1) := by decide +kernel
theorem dL_law_1245 : decode cL_law 1245 = .ok (.iload_n 3, 1) := by decide +kernel
theorem dL_law_1246 : decode cL_law 1246 = .ok (.iconst 1, 1) := by decide +kernel
theorem dL_law_1247 : decode cL_law 1247 = .ok (.iadd, 1) := by decide +kernel
theorem dL_law_1248 : decode cL_law 1248 = .ok (.iaload, 1) := by decide +kernel
theorem dL_law_1249 : decode cL_law 1249 = .ok (.aload_n 0, 1) := by decide +kernel
theorem dL_law_1250 : decode cL_law 1250 = .ok (.iload_n 3, 1) := by decide +kernel
theorem dL_law_1251 : decode cL_law 1251 = .ok (.iconst 2, 1) := by decide +kernel
theorem dL_law_1252 : decode cL_law 1252 = .ok (.iadd, 1) := by decide +kernel
theorem dL_law_1253 : decode cL_law 1253 = .ok (.iaload, 1) := by decide +kernel
theorem dL_law_1254 : decode cL_law 1254 = .ok (.invokevirtual 126, 3) := by decide +kernel
theorem dL_law_1257 : decode cL_law 1257 = .ok (.if_icmp .eq 166, 3) := by decide +kernel
theorem dL_law_1260 : decode cL_law 1260 = .ok (.iconst 0, 1) := by decide +kernel
theorem dL_law_1261 : decode cL_law 1261 = .ok (.ireturn, 1) := by decide +kernel
theorem dL_law_1262 : decode cL_law 1262 = .ok (.aload_n 1, 1) := by decide +kernel
theorem dL_law_1263 : decode cL_law 1263 = .ok (.aload_n 0, 1) := by decide +kernel
theorem dL_law_1264 : decode cL_law 1264 = .ok (.iload_n 3, 1) := by decide +kernel
theorem dL_law_1265 : decode cL_law 1265 = .ok (.iconst 1, 1) := by decide +kernel
theorem dL_law_1266 : decode cL_law 1266 = .ok (.iadd, 1) := by decide +kernel
theorem dL_law_1267 : decode cL_law 1267 = .ok (.iaload, 1) := by decide +kernel
theorem dL_law_1268 : decode cL_law 1268 = .ok (.invokevirtual 127, 3) := by decide +kernel
theorem dL_law_1271 : decode cL_law 1271 = .ok (.aload_n 2, 1) := by decide +kernel
theorem dL_law_1272 : decode cL_law 1272 = .ok (.aload_n 0, 1) := by decide +kernel
theorem dL_law_1273 : decode cL_law 1273 = .ok (.iload_n 3, 1) := by decide +kernel
theorem dL_law_1274 : decode cL_law 1274 = .ok (.iconst 1, 1) := by decide +kernel
theorem dL_law_1275 : decode cL_law 1275 = .ok (.iadd, 1) := by decide +kernel
theorem dL_law_1276 : decode cL_law 1276 = .ok (.iaload, 1) := by decide +kernel
theorem dL_law_1277 : decode cL_law 1277 = .ok (.invokevirtual 130, 3) := by decide +kernel
theorem dL_law_1280 : decode cL_law 1280 = .ok (.if_icmp .eq 143, 3) := by decide +kernel
theorem dL_law_1283 : decode cL_law 1283 = .ok (.iconst 0, 1) := by decide +kernel
theorem dL_law_1284 : decode cL_law 1284 = .ok (.ireturn, 1) := by decide +kernel
theorem dL_law_1285 : decode cL_law 1285 = .ok (.aload_n 1, 1) := by decide +kernel
theorem dL_law_1286 : decode cL_law 1286 = .ok (.invokevirtual 131, 3) := by decide +kernel
theorem dL_law_1289 : decode cL_law 1289 = .ok (.aload_n 2, 1) := by decide +kernel
theorem dL_law_1290 : decode cL_law 1290 = .ok (.invokevirtual 134, 3) := by decide +kernel
theorem dL_law_1293 : decode cL_law 1293 = .ok (.if_icmp .eq 130, 3) := by decide +kernel
theorem dL_law_1296 : decode cL_law 1296 = .ok (.iconst 0, 1) := by decide +kernel
theorem dL_law_1297 : decode cL_law 1297 = .ok (.ireturn, 1) := by decide +kernel
theorem dL_law_1298 : decode cL_law 1298 = .ok (.aload_n 1, 1) := by decide +kernel
theorem dL_law_1299 : decode cL_law 1299 = .ok (.aload_n 0, 1) := by decide +kernel
theorem dL_law_1300 : decode cL_law 1300 = .ok (.iload_n 3, 1) := by decide +kernel
theorem dL_law_1301 : decode cL_law 1301 = .ok (.iconst 1, 1) := by decide +kernel
theorem dL_law_1302 : decode cL_law 1302 = .ok (.iadd, 1) := by decide +kernel
theorem dL_law_1303 : decode cL_law 1303 = .ok (.iaload, 1) := by decide +kernel
theorem dL_law_1304 : decode cL_law 1304 = .ok (.ifCond .eq 7, 3) := by decide +kernel
theorem dL_law_1307 : decode cL_law 1307 = .ok (.iconst 1, 1) := by decide +kernel
theorem dL_law_1308 : decode cL_law 1308 = .ok (.goto 4, 3) := by decide +kernel
theorem dL_law_1311 : decode cL_law 1311 = .ok (.iconst 0, 1) := by decide +kernel
theorem dL_law_1312 : decode cL_law 1312 = .ok (.invokevirtual 135, 3) := by decide +kernel
theorem dL_law_1315 : decode cL_law 1315 = .ok (.aload_n 2, 1) := by decide +kernel
theorem dL_law_1316 : decode cL_law 1316 = .ok (.aload_n 0, 1) := by decide +kernel
theorem dL_law_1317 : decode cL_law 1317 = .ok (.iload_n 3, 1) := by decide +kernel
theorem dL_law_1318 : decode cL_law 1318 = .ok (.iconst 1, 1) := by decide +kernel
theorem dL_law_1319 : decode cL_law 1319 = .ok (.iadd, 1) := by decide +kernel
theorem dL_law_1320 : decode cL_law 1320 = .ok (.iaload, 1) := by decide +kernel
theorem dL_law_1321 : decode cL_law 1321 = .ok (.ifCond .eq 7, 3) := by decide +kernel
theorem dL_law_1324 : decode cL_law 1324 = .ok (.iconst 1, 1) := by decide +kernel
theorem dL_law_1325 : decode cL_law 1325 = .ok (.goto 4, 3) := by decide +kernel
theorem dL_law_1328 : decode cL_law 1328 = .ok (.iconst 0, 1) := by decide +kernel
theorem dL_law_1329 : decode cL_law 1329 = .ok (.invokevirtual 139, 3) := by decide +kernel
theorem dL_law_1332 : decode cL_law 1332 = .ok (.if_icmp .eq 91, 3) := by decide +kernel
theorem dL_law_1335 : decode cL_law 1335 = .ok (.iconst 0, 1) := by decide +kernel
theorem dL_law_1336 : decode cL_law 1336 = .ok (.ireturn, 1) := by decide +kernel
theorem dL_law_1337 : decode cL_law 1337 = .ok (.aload_n 1, 1) := by decide +kernel
theorem dL_law_1338 : decode cL_law 1338 = .ok (.aload_n 0, 1) := by decide +kernel
theorem dL_law_1339 : decode cL_law 1339 = .ok (.iload_n 3, 1) := by decide +kernel
theorem dL_law_1340 : decode cL_law 1340 = .ok (.iconst 1, 1) := by decide +kernel
theorem dL_law_1341 : decode cL_law 1341 = .ok (.iadd, 1) := by decide +kernel
theorem dL_law_1342 : decode cL_law 1342 = .ok (.iaload, 1) := by decide +kernel
theorem dL_law_1343 : decode cL_law 1343 = .ok (.invokevirtual 140, 3) := by decide +kernel
theorem dL_law_1346 : decode cL_law 1346 = .ok (.aload_n 2, 1) := by decide +kernel
theorem dL_law_1347 : decode cL_law 1347 = .ok (.aload_n 0, 1) := by decide +kernel
theorem dL_law_1348 : decode cL_law 1348 = .ok (.iload_n 3, 1) := by decide +kernel
theorem dL_law_1349 : decode cL_law 1349 = .ok (.iconst 1, 1) := by decide +kernel
theorem dL_law_1350 : decode cL_law 1350 = .ok (.iadd, 1) := by decide +kernel
theorem dL_law_1351 : decode cL_law 1351 = .ok (.iaload, 1) := by decide +kernel
theorem dL_law_1352 : decode cL_law 1352 = .ok (.invokevirtual 143, 3) := by decide +kernel
theorem dL_law_1355 : decode cL_law 1355 = .ok (.if_icmp .eq 68, 3) := by decide +kernel
theorem dL_law_1358 : decode cL_law 1358 = .ok (.iconst 0, 1) := by decide +kernel
theorem dL_law_1359 : decode cL_law 1359 = .ok (.ireturn, 1) := by decide +kernel
theorem dL_law_1360 : decode cL_law 1360 = .ok (.aload_n 1, 1) := by decide +kernel
theorem dL_law_1361 : decode cL_law 1361 = .ok (.invokevirtual 144, 3) := by decide +kernel
theorem dL_law_1364 : decode cL_law 1364 = .ok (.aload_n 2, 1) := by decide +kernel
theorem dL_law_1365 : decode cL_law 1365 = .ok (.invokevirtual 147, 3) := by decide +kernel
theorem dL_law_1368 : decode cL_law 1368 = .ok (.if_icmp .eq 55, 3) := by decide +kernel
theorem dL_law_1371 : decode cL_law 1371 = .ok (.iconst 0, 1) := by decide +kernel
theorem dL_law_1372 : decode cL_law 1372 = .ok (.ireturn, 1) := by decide +kernel
theorem dL_law_1373 : decode cL_law 1373 = .ok (.aload_n 1, 1) := by decide +kernel
theorem dL_law_1374 : decode cL_law 1374 = .ok (.aload_n 0, 1) := by decide +kernel
theorem dL_law_1375 : decode cL_law 1375 = .ok (.iload_n 3, 1) := by decide +kernel
theorem dL_law_1376 : decode cL_law 1376 = .ok (.iconst 1, 1) := by decide +kernel
theorem dL_law_1377 : decode cL_law 1377 = .ok (.iadd, 1) := by decide +kernel
theorem dL_law_1378 : decode cL_law 1378 = .ok (.iaload, 1) := by decide +kernel
theorem dL_law_1379 : decode cL_law 1379 = .ok (.invokevirtual 148, 3) := by decide +kernel
theorem dL_law_1382 : decode cL_law 1382 = .ok (.aload_n 2, 1) := by decide +kernel
theorem dL_law_1383 : decode cL_law 1383 = .ok (.aload_n 0, 1) := by decide +kernel
theorem dL_law_1384 : decode cL_law 1384 = .ok (.iload_n 3, 1) := by decide +kernel
theorem dL_law_1385 : decode cL_law 1385 = .ok (.iconst 1, 1) := by decide +kernel
theorem dL_law_1386 : decode cL_law 1386 = .ok (.iadd, 1) := by decide +kernel
theorem dL_law_1387 : decode cL_law 1387 = .ok (.iaload, 1) := by decide +kernel
theorem dL_law_1388 : decode cL_law 1388 = .ok (.invokevirtual 151, 3) := by decide +kernel
theorem dL_law_1391 : decode cL_law 1391 = .ok (.if_icmp .eq 32, 3) := by decide +kernel
theorem dL_law_1394 : decode cL_law 1394 = .ok (.iconst 0, 1) := by decide +kernel
theorem dL_law_1395 : decode cL_law 1395 = .ok (.ireturn, 1) := by decide +kernel
theorem dL_law_1396 : decode cL_law 1396 = .ok (.aload_n 1, 1) := by decide +kernel
theorem dL_law_1397 : decode cL_law 1397 = .ok (.invokevirtual 152, 3) := by decide +kernel
theorem dL_law_1400 : decode cL_law 1400 = .ok (.aload_n 2, 1) := by decide +kernel
theorem dL_law_1401 : decode cL_law 1401 = .ok (.invokevirtual 155, 3) := by decide +kernel
theorem dL_law_1404 : decode cL_law 1404 = .ok (.if_icmp .eq 19, 3) := by decide +kernel
theorem dL_law_1407 : decode cL_law 1407 = .ok (.iconst 0, 1) := by decide +kernel
theorem dL_law_1408 : decode cL_law 1408 = .ok (.ireturn, 1) := by decide +kernel
theorem dL_law_1409 : decode cL_law 1409 = .ok (.aload_n 1, 1) := by decide +kernel
theorem dL_law_1410 : decode cL_law 1410 = .ok (.invokevirtual 156, 3) := by decide +kernel
theorem dL_law_1413 : decode cL_law 1413 = .ok (.aload_n 2, 1) := by decide +kernel
theorem dL_law_1414 : decode cL_law 1414 = .ok (.invokevirtual 160, 3) := by decide +kernel
theorem dL_law_1417 : decode cL_law 1417 = .ok (.lcmp, 1) := by decide +kernel
theorem dL_law_1418 : decode cL_law 1418 = .ok (.ifCond .eq 5, 3) := by decide +kernel
theorem dL_law_1421 : decode cL_law 1421 = .ok (.iconst 0, 1) := by decide +kernel
theorem dL_law_1422 : decode cL_law 1422 = .ok (.ireturn, 1) := by decide +kernel
theorem dL_law_1423 : decode cL_law 1423 = .ok (.iinc 3 6, 3) := by decide +kernel
theorem dL_law_1426 : decode cL_law 1426 = .ok (.goto (-1408), 3) := by decide +kernel
theorem dL_law_1429 : decode cL_law 1429 = .ok (.iconst 1, 1) := by decide +kernel
theorem dL_law_1430 : decode cL_law 1430 = .ok (.ireturn, 1) := by decide +kernel
end
section
/-! THE CALCULUS: a frame of any method over a world of numbered objects; the judgement V (from here on the method goes on to its end with Q), the contract M; one row an instruction over V. -/
def nN : List (String × Nat × MethodName × String) := [("KeyframeCurves$State", 11, ⟨"KeyframeCurves$TimeMap", "<init>", "()V"⟩, "KeyframeCurves"), ("KeyframeCurves$State", 20, ⟨"KeyframeCurves$Formula", "<init>", "()V"⟩, "KeyframeCurves"), ("KeyframeCurves$State", 31, ⟨"KeyframeCurves$Curve", "<init>", "()V"⟩, "KeyframeCurves"), ("KeyframeCurves", 25, ⟨"KeyframeCurves$Text", "<init>", "()V"⟩, "KeyframeCurves"), ("KeyframeCurves", 32, ⟨"KeyframeCurves$FormulaReader", "<init>", "()V"⟩, "KeyframeCurves"), ("KeyframeCurves$FormulaReader", 11, ⟨"KeyframeCurves$Formula", "<init>", "()V"⟩, "KeyframeCurves"), ("KeyframeCurves", 39, ⟨"KeyframeCurves$CurveReader", "<init>", "()V"⟩, "KeyframeCurves"), ("KeyframeCurves$CurveReader", 11, ⟨"KeyframeCurves$Curve", "<init>", "()V"⟩, "KeyframeCurves"), ("KeyframeCurves", 46, ⟨"KeyframeCurves$Mixer", "<init>", "()V"⟩, "KeyframeCurves"), ("KeyframeCurves", 53, ⟨"KeyframeCurves$Polyline", "<init>", "()V"⟩, "KeyframeCurves"), ("KeyframeCurves", 60, ⟨"KeyframeCurves$Decimator", "<init>", "()V"⟩, "KeyframeCurves"), ("KeyframeCurves$Decimator", 17, ⟨"KeyframeCurves$Curve", "<init>", "()V"⟩, "KeyframeCurves"), ("KeyframeCurves$Curve", 53, ⟨"KeyframeCurves", "at", "([II)I"⟩, "KeyframeCurves"), ("KeyframeCurves$TimeMap", 22, ⟨"KeyframeCurves", "copyRow", "([I[I)V"⟩, "KeyframeCurves"), ("KeyframeCurves$Formula", 22, ⟨"KeyframeCurves", "copyRow", "([I[I)V"⟩, "KeyframeCurves"), ("KeyframeCurves$Curve", 41, ⟨"KeyframeCurves", "copyRow", "([I[I)V"⟩, "KeyframeCurves"), ("KeyframeCurves$Curve", 61, ⟨"KeyframeCurves", "put", "([III)V"⟩, "KeyframeCurves"), ("KeyframeCurves$Curve", 93, ⟨"KeyframeCurves", "round", "(JJ)J"⟩, "KeyframeCurves"), ("KeyframeCurves$Curve", 81, ⟨"KeyframeCurves", "limited", "(JI)I"⟩, "KeyframeCurves"), ("KeyframeCurves$Curve", 88, ⟨"KeyframeCurves", "nearestValue", "(I)I"⟩, "KeyframeCurves"), ("KeyframeCurves$TimeMap", 26, ⟨"KeyframeCurves", "at", "([II)I"⟩, "KeyframeCurves"), ("KeyframeCurves$TimeMap", 30, ⟨"KeyframeCurves", "put", "([III)V"⟩, "KeyframeCurves"), ("KeyframeCurves$TimeMap", 44, ⟨"KeyframeCurves", "round", "(JJ)J"⟩, "KeyframeCurves"), ("KeyframeCurves$TimeMap", 48, ⟨"KeyframeCurves", "limited", "(JI)I"⟩, "KeyframeCurves"), ("KeyframeCurves$Curve", 69, ⟨"KeyframeCurves", "stepsIn", "(III)I"⟩, "KeyframeCurves"), ("KeyframeCurves$Mixer", 30, ⟨"KeyframeCurves", "at", "([II)I"⟩, "KeyframeCurves"), ("KeyframeCurves$Mixer", 37, ⟨"KeyframeCurves", "put", "([III)V"⟩, "KeyframeCurves"), ("KeyframeCurves$Mixer", 58, ⟨"KeyframeCurves", "limited", "(JI)I"⟩, "KeyframeCurves"), ("KeyframeCurves$Mixer", 68, ⟨"KeyframeCurves", "round", "(JJ)J"⟩, "KeyframeCurves"), ("KeyframeCurves$Polyline", 34, ⟨"KeyframeCurves", "put", "([III)V"⟩, "KeyframeCurves"), ("KeyframeCurves$Polyline", 45, ⟨"KeyframeCurves", "at", "([II)I"⟩, "KeyframeCurves"), ("KeyframeCurves$Polyline", 53, ⟨"KeyframeCurves", "round", "(JJ)J"⟩, "KeyframeCurves"), ("KeyframeCurves$Decimator", 29, ⟨"KeyframeCurves", "at", "([II)I"⟩, "KeyframeCurves"), ("KeyframeCurves$Decimator", 37, ⟨"KeyframeCurves", "put", "([III)V"⟩, "KeyframeCurves"), ("KeyframeCurves$Text", 22, ⟨"KeyframeCurves", "put", "([III)V"⟩, "KeyframeCurves"), ("KeyframeCurves$Text", 29, ⟨"KeyframeCurves", "at", "([II)I"⟩, "KeyframeCurves"), ("KeyframeCurves$Formula", 26, ⟨"KeyframeCurves", "put", "([III)V"⟩, "KeyframeCurves"), ("KeyframeCurves$CurveReader", 53, ⟨"KeyframeCurves", "at", "([II)I"⟩, "KeyframeCurves"), ("KeyframeCurves$Formula", 30, ⟨"KeyframeCurves", "at", "([II)I"⟩, "KeyframeCurves")]
abbrev AV : Type := Int ⊕ (Int ⊕ (Option Nat ⊕ (UInt32 ⊕ UInt64)))
abbrev vI (x : Int) : AV := .inl x
abbrev vL (x : Int) : AV := .inr (.inl x)
abbrev vR (r : Option Nat) : AV := .inr (.inr (.inl r))
abbrev vF (x : UInt32) : AV := .inr (.inr (.inr (.inl x)))
abbrev vD (x : UInt64) : AV := .inr (.inr (.inr (.inr x)))
abbrev R32 (x : Int) : Prop := -2147483648 ≤ x ∧ x < 2147483648
abbrev R64 (x : Int) : Prop := -9223372036854775808 ≤ x ∧ x < 9223372036854775808
abbrev AD : Type := Nat × Nat
def ada (a : AD) (i : Nat) : Nat := if i = 0 then a.1 else a.2 + i
def dn (a : AD) : AV → Value
  | .inl x => .int (Int32.ofInt x)
  | .inr (.inl x) => .long (Int64.ofInt x)
  | .inr (.inr (.inl r)) => va_rf (r.map (ada a))
  | .inr (.inr (.inr (.inl x))) => .float x
  | .inr (.inr (.inr (.inr x))) => .double x
def ct : AV → Nat
  | .inl _ => 1
  | .inr (.inl _) => 2
  | .inr (.inr (.inl _)) => 1
  | .inr (.inr (.inr (.inl _))) => 1
  | .inr (.inr (.inr (.inr _))) => 2
theorem dn_cat (a : AD) (v : AV) : (dn a v).category = ct v := by
  rcases v with x | x | r | x | x
  · rfl
  · rfl
  · cases r <;> rfl
  · rfl
  · rfl
abbrev Ob : Type := (Nat × List AV) ⊕ (Nat × Nat × ((Nat → Int) ⊕ (Nat → Option Nat)))
abbrev GW : Type := Nat × (Nat → Ob)
abbrev GG : Type := va_G × (Nat → ClassId)
abbrev MT : Type := MethodName × ByteArray × Nat × Option FieldType
def dO (g : GG) (a : AD) : Ob → va_E
  | .inl (ci, fs) => .inr (ci, fs.map (dn a))
  | .inr (1, n, .inl f) => .inl (g.2 1, n, .inr (.inl fun k => Int64.ofInt (f k)))
  | .inr (t, n, .inl f) => .inl (g.2 t, n, .inl fun k => Int32.ofInt (f k))
  | .inr (t, n, .inr f) => .inl (g.2 t, n, .inr (.inr (.inr (.inr fun k => (f k).map (ada a)))))
def wl (g : GG) (a : AD) (u : GW) : va_W := (List.range u.1).map fun i => (a.2 + (i + 1), dO g a (u.2 (i + 1)))
def uset (f : Nat → Ob) (j : Nat) (o : Ob) : Nat → Ob := fun k => if k = j then o else f k
theorem wl_get {g : GG} {a : AD} {u : GW} {i : Nat} (h1 : 1 ≤ i) (h2 : i ≤ u.1) : (wl g a u)[i - 1]? = some (a.2 + i, dO g a (u.2 i)) := by
  have h : i - 1 < u.1 := by omega
  simp [wl, h, Nat.sub_add_cancel h1]
theorem wl_inv {g : GG} {a : AD} {u : GW} {i : Nat} {q : Nat × va_E} (h : (wl g a u)[i]? = some q) : i < u.1 ∧ q = (a.2 + (i + 1), dO g a (u.2 (i + 1))) := by
  have hl : i < (wl g a u).length := (List.getElem?_eq_some_iff.mp h).1
  have hl2 : i < u.1 := by simpa [wl] using hl
  have h2 := wl_get (g := g) (a := a) (u := u) (i := i + 1) (by omega) (by omega)
  rw [Nat.add_sub_cancel, h] at h2
  exact ⟨hl2, Option.some.inj h2⟩
theorem wl_D (g : GG) (a : AD) (u : GW) : va_D (fun q => a.2 < q) (wl g a u) := by
  refine ⟨fun i j p q hi hj h => ?_, fun k q hk => ?_⟩
  · have h1 := (wl_inv hi).2
    have h2 := (wl_inv hj).2
    subst h1; subst h2
    dsimp only at h
    omega
  · have h1 := (wl_inv hk).2
    subst h1
    show a.2 < a.2 + (k + 1)
    omega
theorem wl_len (g : GG) (a : AD) (u : GW) : (wl g a u).length = u.1 := by simp [wl]
theorem wl_set {g : GG} {a : AD} {u : GW} {i : Nat} (o : Ob) (h1 : 1 ≤ i) (h2 : i ≤ u.1) : (wl g a u).set (i - 1) (a.2 + i, dO g a o) = wl g a (u.1, uset u.2 i o) := by
  apply List.ext_getElem?
  intro k
  by_cases hk : k < u.1
  · have e2 := wl_get (g := g) (a := a) (u := (u.1, uset u.2 i o)) (i := k + 1) (by omega) hk
    have e1 := wl_get (g := g) (a := a) (u := u) (i := k + 1) (by omega) (by omega)
    rw [Nat.add_sub_cancel] at e1 e2
    rw [e2]
    by_cases he : k + 1 = i
    · have : k = i - 1 := by omega
      subst this
      rw [List.getElem?_set_self (by rw [wl_len]; omega)]
      simp [uset, he]
    · rw [List.getElem?_set_ne (by omega), e1]
      simp [uset, he]
  · rw [List.getElem?_eq_none (by simp [wl]; omega), List.getElem?_eq_none (by simp [wl]; omega)]
theorem wl_push (g : GG) (a : AD) (u : GW) (o : Ob) : wl g a u ++ [(a.2 + (u.1 + 1), dO g a o)] = wl g a (u.1 + 1, uset u.2 (u.1 + 1) o) := by
  apply List.ext_getElem?
  intro k
  by_cases hk : k < u.1
  · have e2 := wl_get (g := g) (a := a) (u := (u.1 + 1, uset u.2 (u.1 + 1) o)) (i := k + 1) (by omega) (by show k + 1 ≤ u.1 + 1; omega)
    have e1 := wl_get (g := g) (a := a) (u := u) (i := k + 1) (by omega) (by omega)
    rw [Nat.add_sub_cancel] at e1 e2
    rw [e2, List.getElem?_append_left (by rw [wl_len]; exact hk), e1]
    have : ¬ k = u.1 := by omega
    simp [uset, this]
  · by_cases he : k = u.1
    · subst he
      have e2 := wl_get (g := g) (a := a) (u := (u.1 + 1, uset u.2 (u.1 + 1) o)) (i := u.1 + 1) (by omega) (Nat.le_refl _)
      rw [Nat.add_sub_cancel] at e2
      rw [e2, List.getElem?_append_right (by rw [wl_len]; omega), wl_len, Nat.sub_self]
      simp [uset]
    · rw [List.getElem?_eq_none (by simp [wl]; omega), List.getElem?_eq_none (by simp [wl]; omega)]
/-- the words of the tables that every contract asks, and the nest mates' links -/
def gW : List Cond := lw_tbl.filter goodWord
theorem gw_t {w : Cond} (i : Nat) (h : tables_1[i]? = some w) (hg : goodWord w = true) : w ∈ gW := List.mem_filter.mpr ⟨List.mem_append_right _ (List.mem_of_getElem? h), hg⟩
theorem gw_s {w : Cond} (i : Nat) (h : (k2_sels lw_privs)[i]? = some w) (hg : goodWord w = true) : w ∈ gW := List.mem_filter.mpr ⟨List.mem_append_left _ (List.mem_of_getElem? h), hg⟩
theorem gw_l {ws : List Cond} (ps : List Nat) (h : ws = ps.filterMap (fun i => tables_1[i]?)) (hg : ws.all goodWord = true) : ∀ w ∈ ws, w ∈ gW := by
  intro w hw
  have h1 := List.all_eq_true.mp hg w hw
  rw [h] at hw
  obtain ⟨i, -, hi⟩ := List.mem_filterMap.mp hw
  exact gw_t i hi h1
theorem gW_good : ∀ w ∈ gW, (w.onTables && w.keeps) = true ∨ ∃ ty, w = .arrayClass ty := fun w h => good_of_word (List.mem_filter.mp h).2
abbrev NL : Type := String × Nat × MethodName × String
abbrev nlw (q : NL) : Cond := .methodLinkNest q.1 q.2.1 q.2.2.1 q.2.2.2
abbrev RCrv : String := "KeyframeCurves$Curve"
abbrev RSta : String := "KeyframeCurves$State"
def tysOf (g : GG) : List (ClassId × FieldType) := [(g.2 0, .int), (g.2 1, .long), (g.2 2, .boolean), (g.2 3, .object RCrv), (g.2 4, .object RSta)]
def KX (g : GG) (U : State) : Prop := va_K g.1 vwCl (tysOf g) U ∧ (∀ q ∈ nN, va_Nw (nlw q) U) ∧ va_AO RCrv U ∧ va_AO RSta U
theorem KX.warm {g : GG} {s U : State} (hW : s.WarmedH U.vm) (h : KX g s) : KX g U :=
  ⟨va_K.moved hW.alike h.1, fun q hq => va_Nw.warmM hW (h.2.1 q hq), va_AO.moved hW.alike h.2.2.1, va_AO.moved hW.alike h.2.2.2⟩
theorem KX.same {g : GG} {s U : State} (hv : s.vm = U.vm) (h : KX g s) : KX g U :=
  ⟨va_K.moved (by rw [hv]; exact Vm.Alike.refl _) h.1, fun q hq => va_Nw.same rfl hv (h.2.1 q hq), va_AO.moved (by rw [hv]; exact Vm.Alike.refl _) h.2.2.1, va_AO.moved (by rw [hv]; exact Vm.Alike.refl _) h.2.2.2⟩
def HR (g : GG) (a : AD) (U : State) (u : GW) (H : Heap) : Prop := H.size = a.2 + 1 + u.1 ∧ va_P g.1 vwCl (wl g a u) H ∧ ∃ (n : Nat) (f : Nat → Int), u.2 0 = .inr (0, n, .inl f) ∧ va_X a.1 n (fun k => Int32.ofInt (f k)) U H ∧ a.1 ≤ a.2
theorem HR.vm {g : GG} {a : AD} {s U : State} {u : GW} {H : Heap} (hv : s.vm.Alike U.vm) (h : HR g a s u H) : HR g a U u H := by
  obtain ⟨h1, h2, n, f, h3, h4, h5⟩ := h
  exact ⟨h1, h2, n, f, h3, h4.moved hv, h5⟩
def HX (g : GG) (a : AD) (s : State) (H : Heap) (locs : List Loc) (u : GW) : Prop := va_S (fun q => a.2 < q) s.heap H locs ∧ HR g a s u H
/-- the locals -/
def lm (a : AD) (ls : Array Slot) (nL : Nat) (L : List (Option AV)) : Prop := L.length = nL ∧ ls.size = nL ∧ lv_wf ls ∧ ∀ (i : Nat) (v : AV), L[i]? = some (some v) → ls[i]? = some (.val (dn a v))
def asc (a : AD) : Nat → List (Option AV) → List (Nat × Value)
  | _, [] => []
  | i, none :: r => asc a (i + 1) r
  | i, some v :: r => (i, dn a v) :: asc a (i + 1) r
theorem asc_mem {a : AD} : ∀ {L : List (Option AV)} {i : Nat} {q : Nat × Value}, q ∈ asc a i L → ∃ (j : Nat) (v : AV), q = (i + j, dn a v) ∧ L[j]? = some (some v)
  | [], i, q, h => by simp [asc] at h
  | none :: r, i, q, h => by
    obtain ⟨j, v, h1, h2⟩ := asc_mem (L := r) (i := i + 1) h
    exact ⟨j + 1, v, by rw [h1]; simp; omega, by simpa using h2⟩
  | some w :: r, i, q, h => by
    rcases List.mem_cons.mp h with h | h
    · exact ⟨0, w, h, rfl⟩
    · obtain ⟨j, v, h1, h2⟩ := asc_mem (L := r) (i := i + 1) h
      exact ⟨j + 1, v, by rw [h1]; simp; omega, by simpa using h2⟩
theorem asc_in {a : AD} : ∀ {L : List (Option AV)} {i j : Nat} {v : AV}, L[j]? = some (some v) → (i + j, dn a v) ∈ asc a i L
  | [], i, j, v, h => by simp at h
  | none :: r, i, 0, v, h => by simp at h
  | none :: r, i, j + 1, v, h => by
    have := asc_in (a := a) (L := r) (i := i + 1) (j := j) (v := v) (by simpa using h)
    rw [show i + (j + 1) = i + 1 + j by omega]; exact this
  | some w :: r, i, 0, v, h => by
    have e : w = v := by simpa using h
    subst e
    exact List.mem_cons_self
  | some w :: r, i, j + 1, v, h => by
    have := asc_in (a := a) (L := r) (i := i + 1) (j := j) (v := v) (by simpa using h)
    rw [show i + (j + 1) = i + 1 + j by omega]; exact List.mem_cons_of_mem _ this
theorem lm.has {a : AD} {ls : Array Slot} {nL : Nat} {L : List (Option AV)} (h : lm a ls nL L) : lv_has ls nL (asc a 0 L) := by
  refine ⟨h.2.1, h.2.2.1, fun q hq => ?_⟩
  obtain ⟨j, v, rfl, h2⟩ := asc_mem hq
  have := h.2.2.2 j v h2
  simpa using this
/-- what a store keeps: a long below the place is gone -/
def pok (L : List (Option AV)) (i : Nat) : Prop := ∀ (j : Nat) (v : AV), j + 1 = i → L[j]? = some (some v) → ct v = 1
theorem lm.st1 {a : AD} {ls' : Array Slot} {nL i : Nat} {L : List (Option AV)} {v : AV} (hL : L.length = nL) (hp : pok L i) (hi : i < nL)
    (h : lv_has ls' nL ((i, dn a v) :: (asc a 0 L).filter (fun q => !(q.1 == i) && !(q.1 + 1 == i && q.2.category == 2)))) : lm a ls' nL (L.set i (some v)) := by
  refine ⟨by simpa using hL, h.1, h.2.1, fun j w hj => ?_⟩
  by_cases he : j = i
  · subst he
    rw [List.getElem?_set_self (by omega)] at hj
    have e : v = w := by simpa using hj
    subst e
    exact h.2.2 (j, dn a v) List.mem_cons_self
  · rw [List.getElem?_set_ne (Ne.symm he)] at hj
    refine h.2.2 (j, dn a w) (List.mem_cons_of_mem _ (List.mem_filter.mpr ⟨by simpa using asc_in (a := a) (i := 0) hj, ?_⟩))
    have e1 : (j == i) = false := by simpa using he
    by_cases h1 : j + 1 = i
    · have e2 := hp j w h1 hj
      simp [e1, dn_cat, e2]
    · have e3 : (j + 1 == i) = false := by simpa using h1
      simp [e1, e3]
theorem lm.st2 {a : AD} {ls' : Array Slot} {nL i : Nat} {L : List (Option AV)} {v : AV} (hL : L.length = nL) (hp : pok L i) (hi : i + 1 < nL)
    (h : lv_has ls' nL ((i, dn a v) :: (asc a 0 L).filter (fun q => !(q.1 == i) && (!(q.1 == i + 1) && !(q.1 + 1 == i && q.2.category == 2))))) : lm a ls' nL ((L.set i (some v)).set (i + 1) none) := by
  refine ⟨by simpa using hL, h.1, h.2.1, fun j w hj => ?_⟩
  by_cases h0 : j = i + 1
  · subst h0
    rw [List.getElem?_set_self (by simp; omega)] at hj
    simp at hj
  rw [List.getElem?_set_ne (Ne.symm h0)] at hj
  by_cases he : j = i
  · subst he
    rw [List.getElem?_set_self (by omega)] at hj
    have e : v = w := by simpa using hj
    subst e
    exact h.2.2 (j, dn a v) List.mem_cons_self
  · rw [List.getElem?_set_ne (Ne.symm he)] at hj
    refine h.2.2 (j, dn a w) (List.mem_cons_of_mem _ (List.mem_filter.mpr ⟨by simpa using asc_in (a := a) (i := 0) hj, ?_⟩))
    have e1 : (j == i) = false := by simpa using he
    have e0 : (j == i + 1) = false := by simpa using h0
    by_cases h1 : j + 1 = i
    · have e2 := hp j w h1 hj
      simp [e1, e0, dn_cat, e2]
    · have e3 : (j + 1 == i) = false := by simpa using h1
      simp [e1, e0, e3]
/-- a method's end: the instruction that hands r back -/
def RA (k : MT) (pc : Nat) (r : Option AV) : Prop := match r with
  | none => decode k.2.1 pc = .ok (.return_, 1) ∧ k.2.2.2 = none
  | some (.inl x) => decode k.2.1 pc = .ok (.ireturn, 1) ∧ ∃ ty, k.2.2.2 = some ty ∧ narrow ty (.int (Int32.ofInt x)) = .int (Int32.ofInt x)
  | some (.inr (.inl _)) => decode k.2.1 pc = .ok (.lreturn, 1) ∧ k.2.2.2 = some .long
  | some (.inr (.inr (.inl _))) => decode k.2.1 pc = .ok (.areturn, 1) ∧ ∃ n, k.2.2.2 = some (.object n)
  | some (.inr (.inr (.inr (.inl _)))) => decode k.2.1 pc = .ok (.freturn, 1) ∧ k.2.2.2 = some .float
  | some (.inr (.inr (.inr (.inr _)))) => decode k.2.1 pc = .ok (.dreturn, 1) ∧ k.2.2.2 = some .double
def CX (g : GG) (a : AD) (k : MT) (R : Room) (p : Program) (l : Launch) (e : Env) (s : State) (m : MethodId) (args : Array Value) (below : List Frame) (meth : Method) (c : Code) (Z : State → Prop) (Q : Option AV → GW → Prop) : Prop :=
  p.tables.exec = Jvm.exec ∧ c.code = k.2.1 ∧ c.maxLocals = k.2.2.1 ∧ s.vm.findClass k.1.cls = some m.cls ∧ (∀ w ∈ gW, w.before args s = true) ∧ KX g s ∧ (k.1.name = "<init>" → meth.name = "<init>") ∧ a.2 + 1 ≤ s.heap.size ∧
  ∀ (pc : Nat) (r : Option AV) (u : GW) (H : Heap) (locs : List Loc) (ls : Array Slot) (d0 : Drawn) (cu su : Nat), cu ≤ R.cells → su ≤ R.slots → RA k pc r → Q r u → s.drawn.sameBut d0 lw_cs → HX g a s H locs u →
    W p l e R (s.setDrawn d0) m args below meth c H locs cu su Z (F0 m pc ls (r.toList.map (dn a)))
/-- from here on the method goes to its end with Q -/
def V (k : MT) (R : Room) (cu su : Nat) (pc : Nat) (L : List (Option AV)) (st : List AV) (u : GW) (Q : Option AV → GW → Prop) : Prop :=
  ∀ (g : GG) (a : AD) (p : Program) (l : Launch) (e : Env) (s : State) (m : MethodId) (args : Array Value) (below : List Frame) (meth : Method) (c : Code) (Z : State → Prop), CX g a k R p l e s m args below meth c Z Q →
  ∀ (H : Heap) (locs : List Loc) (ls : Array Slot) (d0 : Drawn), s.drawn.sameBut d0 lw_cs → lm a ls k.2.2.1 L → HX g a s H locs u →
    W p l e R (s.setDrawn d0) m args below meth c H locs cu su Z (F0 m pc ls (st.map (dn a)))
def wsM (k : MT) : List Cond := .code k.1 k.2.1 k.2.2.1 k.2.2.2 :: gW
def PM (g : GG) (a : AD) (u : GW) : State → Prop := fun U => HR g a U u U.heap ∧ KX g U
def QM (g : GG) (a : AD) (Q : Option AV → GW → Prop) : Array Value → State → Outcome → State → Prop := fun _ st oc t =>
  (∃ (r : Option AV) (u : GW), oc = .returned (r.map (dn a)) ∧ Q r u ∧ HR g a st u t.heap) ∧ va_F (fun q => a.2 < q) st t
/-- the contract -/
def M (k : MT) (R : Room) (av : List AV) (u : GW) (Q : Option AV → GW → Prop) : Prop :=
  ∀ (l : Launch) (g : GG) (a : AD), MetD lw_cs l k.1 (wsM k) R (va_Pc (av.map (dn a)) (PM g a u)) (QM g a Q) R.cells R.slots (fun q => a.2 < q)
/-- the locals at the entry -/
def lent : List AV → List (Option AV)
  | [] => []
  | v :: r => if ct v = 2 then some v :: none :: lent r else some v :: lent r
theorem lent_args {a : AD} : ∀ (vs : List AV) (b i : Nat) (v : AV), (lent vs)[i]? = some (some v) → (b + i, dn a v) ∈ lv_args b (vs.map (dn a))
  | [], b, i, v, h => by simp [lent] at h
  | w :: r, b, i, v, h => by
    simp only [List.map_cons, lv_args, dn_cat]
    by_cases hc : ct w = 2
    · simp only [lent, hc, if_true] at h ⊢
      match i, h with
      | 0, h =>
        have e : w = v := by simpa using h
        subst e
        exact List.mem_cons_self
      | 1, h => simp at h
      | i + 2, h =>
        have := lent_args (a := a) r (b + 2) i v (by simpa using h)
        rw [show b + (i + 2) = b + 2 + i by omega]
        exact List.mem_cons_of_mem _ this
    · simp only [lent, hc, if_false] at h ⊢
      match i, h with
      | 0, h =>
        have e : w = v := by simpa using h
        subst e
        exact List.mem_cons_self
      | i + 1, h =>
        have := lent_args (a := a) r (b + 1) i v (by simpa using h)
        rw [show b + (i + 1) = b + 1 + i by omega]
        exact List.mem_cons_of_mem _ this
theorem lent_len {a : AD} : ∀ (vs : List AV), (lg_sl (vs.map (dn a))).length = (lent vs).length
  | [] => rfl
  | w :: r => by
    have ih := lent_len (a := a) r
    simp only [lg_sl, List.map_cons, List.flatMap_cons, dn_cat] at ih ⊢
    by_cases hc : ct w = 2
    · simp [lent, hc, ih]
    · simp [lent, hc, ih]
theorem lm.enter {a : AD} (vs : List AV) (n : Nat) (h : (lent vs).length ≤ n) : lm a ((lg_sl (vs.map (dn a)) ++ List.replicate (n - (lg_sl (vs.map (dn a))).length) Slot.unset).toArray) n (lent vs ++ List.replicate (n - (lent vs).length) none) := by
  have h1 := lv_entry (vs.map (dn a)) (n := n) (by rw [lent_len]; exact h)
  refine ⟨by simp; omega, h1.1, h1.2.1, fun i v hi => ?_⟩
  have h2 : (lent vs)[i]? = some (some v) := by
    by_cases hl : i < (lent vs).length
    · rwa [List.getElem?_append_left hl] at hi
    · rw [List.getElem?_append_right (by omega)] at hi
      rw [List.getElem?_replicate] at hi
      split at hi <;> simp at hi
  have h3 := lent_args (a := a) vs 0 i v h2
  rw [Nat.zero_add] at h3
  exact h1.2.2 _ h3
/-- the entry: from the walk to the contract -/
theorem M_of_V {k : MT} {R : Room} {av : List AV} {u : GW} {Q : Option AV → GW → Prop} (hpn : plainName k.1.cls = true) (hn : (lent av).length ≤ k.2.2.1)
    (h : V k R 0 0 0 (lent av ++ List.replicate (k.2.2.1 - (lent av).length) none) [] u Q) : M k R av u Q := by
  intro l g a
  refine MetD.ofW (cc := k.2.1) (maxL := k.2.2.1) (ret := k.2.2.2) hpn rfl ?_
  intro p e s m args below meth c s₁ B hml hv hd0
  obtain ⟨rfl, hHR, hKX⟩ := hv
  have hts := atoms_spec (ws := wsM k) B.pre
  have hnm : k.1.name = "<init>" → meth.name = "<init>" := fun h1 => (name_of_methodNamed B.named B.method).1.trans h1
  have hr := B.returns
  have hlocks := B.notSynchronized
  rw [lg_entry_eq]
  refine h g a p l e s m _ below meth c _ ⟨B.exec, B.bytes, hml, findClass_of_methodNamed B.named, fun w hw => hts w (List.mem_cons_of_mem _ hw), hKX, hnm, by rw [hHR.1]; omega, ?_⟩ s.heap [] _ s.drawn hd0 (lm.enter av _ hn) ⟨va_S.rf, hHR⟩
  intro pc r u1 H locs ls d0 cu su hcu hsu hRA hQ hd hH
  refine W.widen hcu hsu (W.endD hd ?_)
  have hq : ∀ t : State, t.heap = H → (s.setDrawn d0).WarmedH t.vm → QM g a Q (av.map (dn a)).toArray (s.setDrawn d0) (.returned (r.map (dn a))) t := by
    intro t ht hW
    exact ⟨⟨r, u1, rfl, hQ, by rw [ht]; exact hH.2.vm (Vm.Alike.refl _)⟩, hH.1.F (s := s) ht⟩
  rcases r with _ | x | x | r | x | x
  · exact W.vret B.exec B.bytes (by rw [hr]; exact hRA.2) hq hH.1.2.2 hRA.1 hlocks
  · obtain ⟨h1, ty, h2, h3⟩ := hRA
    exact W.zret B.exec B.bytes (by rw [hr]; exact h2) h3 hq hH.1.2.2 h1 hlocks
  · exact W.lret B.exec B.bytes (by rw [hr]; exact hRA.2) hq hH.1.2.2 hRA.1 hlocks
  · obtain ⟨h1, n, h2⟩ := hRA
    exact W.aret B.exec B.bytes (by rw [hr]; exact h2) (Or.inl ⟨n, rfl⟩) (by cases r <;> simp [dn, va_rf]) hq hH.1.2.2 h1 hlocks
  · exact W.fret B.exec B.bytes (by rw [hr]; exact hRA.2) hq hH.1.2.2 hRA.1 hlocks
  · exact W.dret B.exec B.bytes (by rw [hr]; exact hRA.2) hq hH.1.2.2 hRA.1 hlocks
end
