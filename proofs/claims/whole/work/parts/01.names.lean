-- ===== PART A: goes FIRST, ahead of the names: the tables' words, and 'selects' of the private methods out of them =====
/-- a private method of a class that the tables say can be made, by its rows of tables_1 -/
def lw_okq (q : MethodName × Nat) : Prop := (q.1.cls ≠ "java/lang/invoke/MethodHandle" ∧ q.1.cls ≠ "java/lang/invoke/VarHandle") ∧ Cond.instantiable q.1.cls q.2 ∈ tables_1 ∧ Cond.privateMethod q.1 ∈ tables_1 ∧ Cond.instanceMethod q.1 ∈ tables_1
theorem lw_p0 : lw_okq (⟨"KeyframeCurves$History", "stateAt", "(I)LKeyframeCurves$State;"⟩, 3) := ⟨⟨by decide +kernel, by decide +kernel⟩, List.mem_of_getElem? (i := 126) (by decide +kernel), List.mem_of_getElem? (i := 301) (by decide +kernel), List.mem_of_getElem? (i := 302) (by decide +kernel)⟩
theorem lw_p1 : lw_okq (⟨"KeyframeCurves$Curve", "shift", "(II)V"⟩, 8) := ⟨⟨by decide +kernel, by decide +kernel⟩, List.mem_of_getElem? (i := 70) (by decide +kernel), List.mem_of_getElem? (i := 341) (by decide +kernel), List.mem_of_getElem? (i := 342) (by decide +kernel)⟩
theorem lw_p2 : lw_okq (⟨"KeyframeCurves$Curve", "secant", "(II)I"⟩, 8) := ⟨⟨by decide +kernel, by decide +kernel⟩, List.mem_of_getElem? (i := 70) (by decide +kernel), List.mem_of_getElem? (i := 381) (by decide +kernel), List.mem_of_getElem? (i := 382) (by decide +kernel)⟩
theorem lw_p3 : lw_okq (⟨"KeyframeCurves$Curve", "isBetweenNeighbors", "(I)Z"⟩, 8) := ⟨⟨by decide +kernel, by decide +kernel⟩, List.mem_of_getElem? (i := 70) (by decide +kernel), List.mem_of_getElem? (i := 393) (by decide +kernel), List.mem_of_getElem? (i := 394) (by decide +kernel)⟩
theorem lw_p4 : lw_okq (⟨"KeyframeCurves$Curve", "extrapolation", "(III)I"⟩, 8) := ⟨⟨by decide +kernel, by decide +kernel⟩, List.mem_of_getElem? (i := 70) (by decide +kernel), List.mem_of_getElem? (i := 433) (by decide +kernel), List.mem_of_getElem? (i := 434) (by decide +kernel)⟩
theorem lw_p5 : lw_okq (⟨"KeyframeCurves$Curve", "between", "(II)I"⟩, 8) := ⟨⟨by decide +kernel, by decide +kernel⟩, List.mem_of_getElem? (i := 70) (by decide +kernel), List.mem_of_getElem? (i := 443) (by decide +kernel), List.mem_of_getElem? (i := 444) (by decide +kernel)⟩
theorem lw_p6 : lw_okq (⟨"KeyframeCurves$Curve", "freeUnlessHold", "(I)V"⟩, 8) := ⟨⟨by decide +kernel, by decide +kernel⟩, List.mem_of_getElem? (i := 70) (by decide +kernel), List.mem_of_getElem? (i := 461) (by decide +kernel), List.mem_of_getElem? (i := 462) (by decide +kernel)⟩
theorem lw_p7 : lw_okq (⟨"KeyframeCurves$TimeMap", "pointsBefore", "(I)I"⟩, 3) := ⟨⟨by decide +kernel, by decide +kernel⟩, List.mem_of_getElem? (i := 31) (by decide +kernel), List.mem_of_getElem? (i := 553) (by decide +kernel), List.mem_of_getElem? (i := 554) (by decide +kernel)⟩
theorem lw_p8 : lw_okq (⟨"KeyframeCurves$TimeMap", "targetLength", "(I)I"⟩, 3) := ⟨⟨by decide +kernel, by decide +kernel⟩, List.mem_of_getElem? (i := 31) (by decide +kernel), List.mem_of_getElem? (i := 557) (by decide +kernel), List.mem_of_getElem? (i := 558) (by decide +kernel)⟩
theorem lw_p9 : lw_okq (⟨"KeyframeCurves$TimeMap", "sourceLength", "(I)I"⟩, 3) := ⟨⟨by decide +kernel, by decide +kernel⟩, List.mem_of_getElem? (i := 31) (by decide +kernel), List.mem_of_getElem? (i := 561) (by decide +kernel), List.mem_of_getElem? (i := 562) (by decide +kernel)⟩
theorem lw_p10 : lw_okq (⟨"KeyframeCurves$Polyline", "chooseNext", "(II)V"⟩, 5) := ⟨⟨by decide +kernel, by decide +kernel⟩, List.mem_of_getElem? (i := 203) (by decide +kernel), List.mem_of_getElem? (i := 627) (by decide +kernel), List.mem_of_getElem? (i := 628) (by decide +kernel)⟩
theorem lw_p11 : lw_okq (⟨"KeyframeCurves$Polyline", "misfit", "(III)I"⟩, 5) := ⟨⟨by decide +kernel, by decide +kernel⟩, List.mem_of_getElem? (i := 203) (by decide +kernel), List.mem_of_getElem? (i := 633) (by decide +kernel), List.mem_of_getElem? (i := 634) (by decide +kernel)⟩
theorem lw_p12 : lw_okq (⟨"KeyframeCurves$Decimator", "cheapest", "(LKeyframeCurves$Curve;I)I"⟩, 2) := ⟨⟨by decide +kernel, by decide +kernel⟩, List.mem_of_getElem? (i := 225) (by decide +kernel), List.mem_of_getElem? (i := 662) (by decide +kernel), List.mem_of_getElem? (i := 663) (by decide +kernel)⟩
theorem lw_p13 : lw_okq (⟨"KeyframeCurves$FormulaReader", "sum", "(LKeyframeCurves$Text;I)V"⟩, 1) := ⟨⟨by decide +kernel, by decide +kernel⟩, List.mem_of_getElem? (i := 167) (by decide +kernel), List.mem_of_getElem? (i := 697) (by decide +kernel), List.mem_of_getElem? (i := 698) (by decide +kernel)⟩
theorem lw_p14 : lw_okq (⟨"KeyframeCurves$FormulaReader", "product", "(LKeyframeCurves$Text;I)V"⟩, 1) := ⟨⟨by decide +kernel, by decide +kernel⟩, List.mem_of_getElem? (i := 167) (by decide +kernel), List.mem_of_getElem? (i := 701) (by decide +kernel), List.mem_of_getElem? (i := 702) (by decide +kernel)⟩
theorem lw_p15 : lw_okq (⟨"KeyframeCurves$FormulaReader", "factor", "(LKeyframeCurves$Text;I)V"⟩, 1) := ⟨⟨by decide +kernel, by decide +kernel⟩, List.mem_of_getElem? (i := 167) (by decide +kernel), List.mem_of_getElem? (i := 705) (by decide +kernel), List.mem_of_getElem? (i := 706) (by decide +kernel)⟩
def lw_privs_1 : List (MethodName × Nat) := [(⟨"KeyframeCurves$History", "stateAt", "(I)LKeyframeCurves$State;"⟩, 3), (⟨"KeyframeCurves$Curve", "shift", "(II)V"⟩, 8), (⟨"KeyframeCurves$Curve", "secant", "(II)I"⟩, 8), (⟨"KeyframeCurves$Curve", "isBetweenNeighbors", "(I)Z"⟩, 8), (⟨"KeyframeCurves$Curve", "extrapolation", "(III)I"⟩, 8), (⟨"KeyframeCurves$Curve", "between", "(II)I"⟩, 8), (⟨"KeyframeCurves$Curve", "freeUnlessHold", "(I)V"⟩, 8), (⟨"KeyframeCurves$TimeMap", "pointsBefore", "(I)I"⟩, 3), (⟨"KeyframeCurves$TimeMap", "targetLength", "(I)I"⟩, 3), (⟨"KeyframeCurves$TimeMap", "sourceLength", "(I)I"⟩, 3), (⟨"KeyframeCurves$Polyline", "chooseNext", "(II)V"⟩, 5), (⟨"KeyframeCurves$Polyline", "misfit", "(III)I"⟩, 5), (⟨"KeyframeCurves$Decimator", "cheapest", "(LKeyframeCurves$Curve;I)I"⟩, 2), (⟨"KeyframeCurves$FormulaReader", "sum", "(LKeyframeCurves$Text;I)V"⟩, 1), (⟨"KeyframeCurves$FormulaReader", "product", "(LKeyframeCurves$Text;I)V"⟩, 1), (⟨"KeyframeCurves$FormulaReader", "factor", "(LKeyframeCurves$Text;I)V"⟩, 1)]
theorem lw_r1 : ∀ q ∈ lw_privs_1, lw_okq q := List.forall_mem_cons.mpr ⟨lw_p0, List.forall_mem_cons.mpr ⟨lw_p1, List.forall_mem_cons.mpr ⟨lw_p2, List.forall_mem_cons.mpr ⟨lw_p3, List.forall_mem_cons.mpr ⟨lw_p4, List.forall_mem_cons.mpr ⟨lw_p5, List.forall_mem_cons.mpr ⟨lw_p6, List.forall_mem_cons.mpr ⟨lw_p7, List.forall_mem_cons.mpr ⟨lw_p8, List.forall_mem_cons.mpr ⟨lw_p9, List.forall_mem_cons.mpr ⟨lw_p10, List.forall_mem_cons.mpr ⟨lw_p11, List.forall_mem_cons.mpr ⟨lw_p12, List.forall_mem_cons.mpr ⟨lw_p13, List.forall_mem_cons.mpr ⟨lw_p14, List.forall_mem_cons.mpr ⟨lw_p15, fun _ h => absurd h List.not_mem_nil⟩⟩⟩⟩⟩⟩⟩⟩⟩⟩⟩⟩⟩⟩⟩⟩
theorem lw_p16 : lw_okq (⟨"KeyframeCurves$FormulaReader", "curve", "(LKeyframeCurves$Text;I)V"⟩, 1) := ⟨⟨by decide +kernel, by decide +kernel⟩, List.mem_of_getElem? (i := 167) (by decide +kernel), List.mem_of_getElem? (i := 714) (by decide +kernel), List.mem_of_getElem? (i := 715) (by decide +kernel)⟩
theorem lw_p17 : lw_okq (⟨"KeyframeCurves$FormulaReader", "choice", "(LKeyframeCurves$Text;I)V"⟩, 1) := ⟨⟨by decide +kernel, by decide +kernel⟩, List.mem_of_getElem? (i := 167) (by decide +kernel), List.mem_of_getElem? (i := 741) (by decide +kernel), List.mem_of_getElem? (i := 742) (by decide +kernel)⟩
theorem lw_p18 : lw_okq (⟨"KeyframeCurves$CurveReader", "key", "(LKeyframeCurves$Text;)V"⟩, 1) := ⟨⟨by decide +kernel, by decide +kernel⟩, List.mem_of_getElem? (i := 180) (by decide +kernel), List.mem_of_getElem? (i := 759) (by decide +kernel), List.mem_of_getElem? (i := 760) (by decide +kernel)⟩
theorem lw_p19 : lw_okq (⟨"KeyframeCurvesModel", "many", "(I)I"⟩, 27) := ⟨⟨by decide +kernel, by decide +kernel⟩, List.mem_of_getElem? (i := 818) (by decide +kernel), List.mem_of_getElem? (i := 925) (by decide +kernel), List.mem_of_getElem? (i := 926) (by decide +kernel)⟩
theorem lw_p20 : lw_okq (⟨"KeyframeCurvesModel", "valueAt", "(II)I"⟩, 27) := ⟨⟨by decide +kernel, by decide +kernel⟩, List.mem_of_getElem? (i := 818) (by decide +kernel), List.mem_of_getElem? (i := 932) (by decide +kernel), List.mem_of_getElem? (i := 933) (by decide +kernel)⟩
theorem lw_p21 : lw_okq (⟨"KeyframeCurvesModel", "frame", "(II)I"⟩, 27) := ⟨⟨by decide +kernel, by decide +kernel⟩, List.mem_of_getElem? (i := 818) (by decide +kernel), List.mem_of_getElem? (i := 936) (by decide +kernel), List.mem_of_getElem? (i := 937) (by decide +kernel)⟩
theorem lw_p22 : lw_okq (⟨"KeyframeCurvesModel", "inside", "(II)I"⟩, 27) := ⟨⟨by decide +kernel, by decide +kernel⟩, List.mem_of_getElem? (i := 818) (by decide +kernel), List.mem_of_getElem? (i := 940) (by decide +kernel), List.mem_of_getElem? (i := 941) (by decide +kernel)⟩
theorem lw_p23 : lw_okq (⟨"KeyframeCurvesModel", "slopeOf", "(IIZ)I"⟩, 27) := ⟨⟨by decide +kernel, by decide +kernel⟩, List.mem_of_getElem? (i := 818) (by decide +kernel), List.mem_of_getElem? (i := 945) (by decide +kernel), List.mem_of_getElem? (i := 946) (by decide +kernel)⟩
theorem lw_p24 : lw_okq (⟨"KeyframeCurvesModel", "secant", "(II)I"⟩, 27) := ⟨⟨by decide +kernel, by decide +kernel⟩, List.mem_of_getElem? (i := 818) (by decide +kernel), List.mem_of_getElem? (i := 955) (by decide +kernel), List.mem_of_getElem? (i := 956) (by decide +kernel)⟩
theorem lw_p25 : lw_okq (⟨"KeyframeCurvesModel", "auto", "(II)I"⟩, 27) := ⟨⟨by decide +kernel, by decide +kernel⟩, List.mem_of_getElem? (i := 818) (by decide +kernel), List.mem_of_getElem? (i := 966) (by decide +kernel), List.mem_of_getElem? (i := 967) (by decide +kernel)⟩
theorem lw_p26 : lw_okq (⟨"KeyframeCurvesModel", "isBetween", "(II)Z"⟩, 27) := ⟨⟨by decide +kernel, by decide +kernel⟩, List.mem_of_getElem? (i := 818) (by decide +kernel), List.mem_of_getElem? (i := 970) (by decide +kernel), List.mem_of_getElem? (i := 971) (by decide +kernel)⟩
theorem lw_p27 : lw_okq (⟨"KeyframeCurvesModel", "monotone", "(II)I"⟩, 27) := ⟨⟨by decide +kernel, by decide +kernel⟩, List.mem_of_getElem? (i := 818) (by decide +kernel), List.mem_of_getElem? (i := 974) (by decide +kernel), List.mem_of_getElem? (i := 975) (by decide +kernel)⟩
theorem lw_p28 : lw_okq (⟨"KeyframeCurvesModel", "isRange", "(III)Z"⟩, 27) := ⟨⟨by decide +kernel, by decide +kernel⟩, List.mem_of_getElem? (i := 818) (by decide +kernel), List.mem_of_getElem? (i := 989) (by decide +kernel), List.mem_of_getElem? (i := 990) (by decide +kernel)⟩
theorem lw_p29 : lw_okq (⟨"KeyframeCurvesModel", "find", "(II)I"⟩, 27) := ⟨⟨by decide +kernel, by decide +kernel⟩, List.mem_of_getElem? (i := 818) (by decide +kernel), List.mem_of_getElem? (i := 1011) (by decide +kernel), List.mem_of_getElem? (i := 1012) (by decide +kernel)⟩
theorem lw_p30 : lw_okq (⟨"KeyframeCurvesModel", "changes", "()V"⟩, 27) := ⟨⟨by decide +kernel, by decide +kernel⟩, List.mem_of_getElem? (i := 818) (by decide +kernel), List.mem_of_getElem? (i := 1016) (by decide +kernel), List.mem_of_getElem? (i := 1017) (by decide +kernel)⟩
theorem lw_p31 : lw_okq (⟨"KeyframeCurvesModel", "inserts", "(IIIIII)I"⟩, 27) := ⟨⟨by decide +kernel, by decide +kernel⟩, List.mem_of_getElem? (i := 818) (by decide +kernel), List.mem_of_getElem? (i := 1020) (by decide +kernel), List.mem_of_getElem? (i := 1021) (by decide +kernel)⟩
def lw_privs_2 : List (MethodName × Nat) := [(⟨"KeyframeCurves$FormulaReader", "curve", "(LKeyframeCurves$Text;I)V"⟩, 1), (⟨"KeyframeCurves$FormulaReader", "choice", "(LKeyframeCurves$Text;I)V"⟩, 1), (⟨"KeyframeCurves$CurveReader", "key", "(LKeyframeCurves$Text;)V"⟩, 1), (⟨"KeyframeCurvesModel", "many", "(I)I"⟩, 27), (⟨"KeyframeCurvesModel", "valueAt", "(II)I"⟩, 27), (⟨"KeyframeCurvesModel", "frame", "(II)I"⟩, 27), (⟨"KeyframeCurvesModel", "inside", "(II)I"⟩, 27), (⟨"KeyframeCurvesModel", "slopeOf", "(IIZ)I"⟩, 27), (⟨"KeyframeCurvesModel", "secant", "(II)I"⟩, 27), (⟨"KeyframeCurvesModel", "auto", "(II)I"⟩, 27), (⟨"KeyframeCurvesModel", "isBetween", "(II)Z"⟩, 27), (⟨"KeyframeCurvesModel", "monotone", "(II)I"⟩, 27), (⟨"KeyframeCurvesModel", "isRange", "(III)Z"⟩, 27), (⟨"KeyframeCurvesModel", "find", "(II)I"⟩, 27), (⟨"KeyframeCurvesModel", "changes", "()V"⟩, 27), (⟨"KeyframeCurvesModel", "inserts", "(IIIIII)I"⟩, 27)]
theorem lw_r2 : ∀ q ∈ lw_privs_2, lw_okq q := List.forall_mem_cons.mpr ⟨lw_p16, List.forall_mem_cons.mpr ⟨lw_p17, List.forall_mem_cons.mpr ⟨lw_p18, List.forall_mem_cons.mpr ⟨lw_p19, List.forall_mem_cons.mpr ⟨lw_p20, List.forall_mem_cons.mpr ⟨lw_p21, List.forall_mem_cons.mpr ⟨lw_p22, List.forall_mem_cons.mpr ⟨lw_p23, List.forall_mem_cons.mpr ⟨lw_p24, List.forall_mem_cons.mpr ⟨lw_p25, List.forall_mem_cons.mpr ⟨lw_p26, List.forall_mem_cons.mpr ⟨lw_p27, List.forall_mem_cons.mpr ⟨lw_p28, List.forall_mem_cons.mpr ⟨lw_p29, List.forall_mem_cons.mpr ⟨lw_p30, List.forall_mem_cons.mpr ⟨lw_p31, fun _ h => absurd h List.not_mem_nil⟩⟩⟩⟩⟩⟩⟩⟩⟩⟩⟩⟩⟩⟩⟩⟩
theorem lw_p32 : lw_okq (⟨"KeyframeCurvesModel", "removes", "(II)V"⟩, 27) := ⟨⟨by decide +kernel, by decide +kernel⟩, List.mem_of_getElem? (i := 818) (by decide +kernel), List.mem_of_getElem? (i := 1028) (by decide +kernel), List.mem_of_getElem? (i := 1029) (by decide +kernel)⟩
theorem lw_p33 : lw_okq (⟨"KeyframeCurvesModel", "frees", "(II)V"⟩, 27) := ⟨⟨by decide +kernel, by decide +kernel⟩, List.mem_of_getElem? (i := 818) (by decide +kernel), List.mem_of_getElem? (i := 1041) (by decide +kernel), List.mem_of_getElem? (i := 1042) (by decide +kernel)⟩
theorem lw_p34 : lw_okq (⟨"KeyframeCurvesModel", "isKey", "(II)Z"⟩, 27) := ⟨⟨by decide +kernel, by decide +kernel⟩, List.mem_of_getElem? (i := 818) (by decide +kernel), List.mem_of_getElem? (i := 1072) (by decide +kernel), List.mem_of_getElem? (i := 1073) (by decide +kernel)⟩
theorem lw_p35 : lw_okq (⟨"KeyframeCurvesModel", "sent", "(I)I"⟩, 27) := ⟨⟨by decide +kernel, by decide +kernel⟩, List.mem_of_getElem? (i := 818) (by decide +kernel), List.mem_of_getElem? (i := 1100) (by decide +kernel), List.mem_of_getElem? (i := 1101) (by decide +kernel)⟩
theorem lw_p36 : lw_okq (⟨"KeyframeCurvesModel", "stretched", "(IIZ)I"⟩, 27) := ⟨⟨by decide +kernel, by decide +kernel⟩, List.mem_of_getElem? (i := 818) (by decide +kernel), List.mem_of_getElem? (i := 1108) (by decide +kernel), List.mem_of_getElem? (i := 1109) (by decide +kernel)⟩
theorem lw_p37 : lw_okq (⟨"KeyframeCurvesModel", "outside", "(III)I"⟩, 27) := ⟨⟨by decide +kernel, by decide +kernel⟩, List.mem_of_getElem? (i := 818) (by decide +kernel), List.mem_of_getElem? (i := 1119) (by decide +kernel), List.mem_of_getElem? (i := 1120) (by decide +kernel)⟩
theorem lw_p38 : lw_okq (⟨"KeyframeCurvesModel", "bakes", "(IIII)I"⟩, 27) := ⟨⟨by decide +kernel, by decide +kernel⟩, List.mem_of_getElem? (i := 818) (by decide +kernel), List.mem_of_getElem? (i := 1123) (by decide +kernel), List.mem_of_getElem? (i := 1124) (by decide +kernel)⟩
theorem lw_p39 : lw_okq (⟨"KeyframeCurvesModel", "mixed", "(I)I"⟩, 27) := ⟨⟨by decide +kernel, by decide +kernel⟩, List.mem_of_getElem? (i := 818) (by decide +kernel), List.mem_of_getElem? (i := 1131) (by decide +kernel), List.mem_of_getElem? (i := 1132) (by decide +kernel)⟩
theorem lw_p40 : lw_okq (⟨"KeyframeCurvesModel", "begins", "(ZI)V"⟩, 27) := ⟨⟨by decide +kernel, by decide +kernel⟩, List.mem_of_getElem? (i := 818) (by decide +kernel), List.mem_of_getElem? (i := 1135) (by decide +kernel), List.mem_of_getElem? (i := 1136) (by decide +kernel)⟩
theorem lw_p41 : lw_okq (⟨"KeyframeCurvesModel", "sum", "()I"⟩, 27) := ⟨⟨by decide +kernel, by decide +kernel⟩, List.mem_of_getElem? (i := 818) (by decide +kernel), List.mem_of_getElem? (i := 1139) (by decide +kernel), List.mem_of_getElem? (i := 1140) (by decide +kernel)⟩
theorem lw_p42 : lw_okq (⟨"KeyframeCurvesModel", "opens", "(I)V"⟩, 27) := ⟨⟨by decide +kernel, by decide +kernel⟩, List.mem_of_getElem? (i := 818) (by decide +kernel), List.mem_of_getElem? (i := 1143) (by decide +kernel), List.mem_of_getElem? (i := 1144) (by decide +kernel)⟩
theorem lw_p43 : lw_okq (⟨"KeyframeCurvesModel", "faults", "(I)V"⟩, 27) := ⟨⟨by decide +kernel, by decide +kernel⟩, List.mem_of_getElem? (i := 818) (by decide +kernel), List.mem_of_getElem? (i := 1147) (by decide +kernel), List.mem_of_getElem? (i := 1148) (by decide +kernel)⟩
theorem lw_p44 : lw_okq (⟨"KeyframeCurvesModel", "isValue", "()Z"⟩, 27) := ⟨⟨by decide +kernel, by decide +kernel⟩, List.mem_of_getElem? (i := 818) (by decide +kernel), List.mem_of_getElem? (i := 1151) (by decide +kernel), List.mem_of_getElem? (i := 1152) (by decide +kernel)⟩
theorem lw_p45 : lw_okq (⟨"KeyframeCurvesModel", "here", "()I"⟩, 27) := ⟨⟨by decide +kernel, by decide +kernel⟩, List.mem_of_getElem? (i := 818) (by decide +kernel), List.mem_of_getElem? (i := 1155) (by decide +kernel), List.mem_of_getElem? (i := 1156) (by decide +kernel)⟩
theorem lw_p46 : lw_okq (⟨"KeyframeCurvesModel", "number", "()I"⟩, 27) := ⟨⟨by decide +kernel, by decide +kernel⟩, List.mem_of_getElem? (i := 818) (by decide +kernel), List.mem_of_getElem? (i := 1159) (by decide +kernel), List.mem_of_getElem? (i := 1160) (by decide +kernel)⟩
theorem lw_p47 : lw_okq (⟨"KeyframeCurvesModel", "curveValue", "(I)I"⟩, 27) := ⟨⟨by decide +kernel, by decide +kernel⟩, List.mem_of_getElem? (i := 818) (by decide +kernel), List.mem_of_getElem? (i := 1163) (by decide +kernel), List.mem_of_getElem? (i := 1164) (by decide +kernel)⟩
def lw_privs_3 : List (MethodName × Nat) := [(⟨"KeyframeCurvesModel", "removes", "(II)V"⟩, 27), (⟨"KeyframeCurvesModel", "frees", "(II)V"⟩, 27), (⟨"KeyframeCurvesModel", "isKey", "(II)Z"⟩, 27), (⟨"KeyframeCurvesModel", "sent", "(I)I"⟩, 27), (⟨"KeyframeCurvesModel", "stretched", "(IIZ)I"⟩, 27), (⟨"KeyframeCurvesModel", "outside", "(III)I"⟩, 27), (⟨"KeyframeCurvesModel", "bakes", "(IIII)I"⟩, 27), (⟨"KeyframeCurvesModel", "mixed", "(I)I"⟩, 27), (⟨"KeyframeCurvesModel", "begins", "(ZI)V"⟩, 27), (⟨"KeyframeCurvesModel", "sum", "()I"⟩, 27), (⟨"KeyframeCurvesModel", "opens", "(I)V"⟩, 27), (⟨"KeyframeCurvesModel", "faults", "(I)V"⟩, 27), (⟨"KeyframeCurvesModel", "isValue", "()Z"⟩, 27), (⟨"KeyframeCurvesModel", "here", "()I"⟩, 27), (⟨"KeyframeCurvesModel", "number", "()I"⟩, 27), (⟨"KeyframeCurvesModel", "curveValue", "(I)I"⟩, 27)]
theorem lw_r3 : ∀ q ∈ lw_privs_3, lw_okq q := List.forall_mem_cons.mpr ⟨lw_p32, List.forall_mem_cons.mpr ⟨lw_p33, List.forall_mem_cons.mpr ⟨lw_p34, List.forall_mem_cons.mpr ⟨lw_p35, List.forall_mem_cons.mpr ⟨lw_p36, List.forall_mem_cons.mpr ⟨lw_p37, List.forall_mem_cons.mpr ⟨lw_p38, List.forall_mem_cons.mpr ⟨lw_p39, List.forall_mem_cons.mpr ⟨lw_p40, List.forall_mem_cons.mpr ⟨lw_p41, List.forall_mem_cons.mpr ⟨lw_p42, List.forall_mem_cons.mpr ⟨lw_p43, List.forall_mem_cons.mpr ⟨lw_p44, List.forall_mem_cons.mpr ⟨lw_p45, List.forall_mem_cons.mpr ⟨lw_p46, List.forall_mem_cons.mpr ⟨lw_p47, fun _ h => absurd h List.not_mem_nil⟩⟩⟩⟩⟩⟩⟩⟩⟩⟩⟩⟩⟩⟩⟩⟩
theorem lw_p48 : lw_okq (⟨"KeyframeCurvesModel", "is", "(I)Z"⟩, 27) := ⟨⟨by decide +kernel, by decide +kernel⟩, List.mem_of_getElem? (i := 818) (by decide +kernel), List.mem_of_getElem? (i := 1167) (by decide +kernel), List.mem_of_getElem? (i := 1168) (by decide +kernel)⟩
theorem lw_p49 : lw_okq (⟨"KeyframeCurvesModel", "must", "(I)V"⟩, 27) := ⟨⟨by decide +kernel, by decide +kernel⟩, List.mem_of_getElem? (i := 818) (by decide +kernel), List.mem_of_getElem? (i := 1171) (by decide +kernel), List.mem_of_getElem? (i := 1172) (by decide +kernel)⟩
theorem lw_p50 : lw_okq (⟨"KeyframeCurvesModel", "goesOn", "()Z"⟩, 27) := ⟨⟨by decide +kernel, by decide +kernel⟩, List.mem_of_getElem? (i := 818) (by decide +kernel), List.mem_of_getElem? (i := 1175) (by decide +kernel), List.mem_of_getElem? (i := 1176) (by decide +kernel)⟩
theorem lw_p51 : lw_okq (⟨"KeyframeCurvesModel", "closes", "()V"⟩, 27) := ⟨⟨by decide +kernel, by decide +kernel⟩, List.mem_of_getElem? (i := 818) (by decide +kernel), List.mem_of_getElem? (i := 1180) (by decide +kernel), List.mem_of_getElem? (i := 1181) (by decide +kernel)⟩
theorem lw_p52 : lw_okq (⟨"KeyframeCurvesModel", "isOver", "()Z"⟩, 27) := ⟨⟨by decide +kernel, by decide +kernel⟩, List.mem_of_getElem? (i := 818) (by decide +kernel), List.mem_of_getElem? (i := 1184) (by decide +kernel), List.mem_of_getElem? (i := 1185) (by decide +kernel)⟩
theorem lw_p53 : lw_okq (⟨"KeyframeCurvesModel", "lines", "(II)V"⟩, 27) := ⟨⟨by decide +kernel, by decide +kernel⟩, List.mem_of_getElem? (i := 818) (by decide +kernel), List.mem_of_getElem? (i := 1192) (by decide +kernel), List.mem_of_getElem? (i := 1193) (by decide +kernel)⟩
theorem lw_p54 : lw_okq (⟨"KeyframeCurvesModel", "apart", "(III)J"⟩, 27) := ⟨⟨by decide +kernel, by decide +kernel⟩, List.mem_of_getElem? (i := 818) (by decide +kernel), List.mem_of_getElem? (i := 1196) (by decide +kernel), List.mem_of_getElem? (i := 1197) (by decide +kernel)⟩
theorem lw_p55 : lw_okq (⟨"KeyframeCurvesModel", "takes", "(II)V"⟩, 27) := ⟨⟨by decide +kernel, by decide +kernel⟩, List.mem_of_getElem? (i := 818) (by decide +kernel), List.mem_of_getElem? (i := 1205) (by decide +kernel), List.mem_of_getElem? (i := 1206) (by decide +kernel)⟩
theorem lw_p56 : lw_okq (⟨"KeyframeCurvesModel", "error", "(III)I"⟩, 27) := ⟨⟨by decide +kernel, by decide +kernel⟩, List.mem_of_getElem? (i := 818) (by decide +kernel), List.mem_of_getElem? (i := 1209) (by decide +kernel), List.mem_of_getElem? (i := 1210) (by decide +kernel)⟩
theorem lw_p57 : lw_okq (⟨"KeyframeCurvesModel", "gives", "(I)V"⟩, 27) := ⟨⟨by decide +kernel, by decide +kernel⟩, List.mem_of_getElem? (i := 818) (by decide +kernel), List.mem_of_getElem? (i := 1213) (by decide +kernel), List.mem_of_getElem? (i := 1214) (by decide +kernel)⟩
theorem lw_p58 : lw_okq (⟨"KeyframeCurvesModel", "formulaFault", "()I"⟩, 27) := ⟨⟨by decide +kernel, by decide +kernel⟩, List.mem_of_getElem? (i := 818) (by decide +kernel), List.mem_of_getElem? (i := 1229) (by decide +kernel), List.mem_of_getElem? (i := 1230) (by decide +kernel)⟩
theorem lw_p59 : lw_okq (⟨"KeyframeCurvesModel", "curveFault", "()I"⟩, 27) := ⟨⟨by decide +kernel, by decide +kernel⟩, List.mem_of_getElem? (i := 818) (by decide +kernel), List.mem_of_getElem? (i := 1233) (by decide +kernel), List.mem_of_getElem? (i := 1234) (by decide +kernel)⟩
theorem lw_p60 : lw_okq (⟨"KeyframeCurvesModel", "key", "()V"⟩, 27) := ⟨⟨by decide +kernel, by decide +kernel⟩, List.mem_of_getElem? (i := 818) (by decide +kernel), List.mem_of_getElem? (i := 1237) (by decide +kernel), List.mem_of_getElem? (i := 1238) (by decide +kernel)⟩
theorem lw_p61 : lw_okq (⟨"KeyframeCurvesModel", "moreOf", "(JI)J"⟩, 27) := ⟨⟨by decide +kernel, by decide +kernel⟩, List.mem_of_getElem? (i := 818) (by decide +kernel), List.mem_of_getElem? (i := 1261) (by decide +kernel), List.mem_of_getElem? (i := 1262) (by decide +kernel)⟩
def lw_privs_4 : List (MethodName × Nat) := [(⟨"KeyframeCurvesModel", "is", "(I)Z"⟩, 27), (⟨"KeyframeCurvesModel", "must", "(I)V"⟩, 27), (⟨"KeyframeCurvesModel", "goesOn", "()Z"⟩, 27), (⟨"KeyframeCurvesModel", "closes", "()V"⟩, 27), (⟨"KeyframeCurvesModel", "isOver", "()Z"⟩, 27), (⟨"KeyframeCurvesModel", "lines", "(II)V"⟩, 27), (⟨"KeyframeCurvesModel", "apart", "(III)J"⟩, 27), (⟨"KeyframeCurvesModel", "takes", "(II)V"⟩, 27), (⟨"KeyframeCurvesModel", "error", "(III)I"⟩, 27), (⟨"KeyframeCurvesModel", "gives", "(I)V"⟩, 27), (⟨"KeyframeCurvesModel", "formulaFault", "()I"⟩, 27), (⟨"KeyframeCurvesModel", "curveFault", "()I"⟩, 27), (⟨"KeyframeCurvesModel", "key", "()V"⟩, 27), (⟨"KeyframeCurvesModel", "moreOf", "(JI)J"⟩, 27)]
theorem lw_r4 : ∀ q ∈ lw_privs_4, lw_okq q := List.forall_mem_cons.mpr ⟨lw_p48, List.forall_mem_cons.mpr ⟨lw_p49, List.forall_mem_cons.mpr ⟨lw_p50, List.forall_mem_cons.mpr ⟨lw_p51, List.forall_mem_cons.mpr ⟨lw_p52, List.forall_mem_cons.mpr ⟨lw_p53, List.forall_mem_cons.mpr ⟨lw_p54, List.forall_mem_cons.mpr ⟨lw_p55, List.forall_mem_cons.mpr ⟨lw_p56, List.forall_mem_cons.mpr ⟨lw_p57, List.forall_mem_cons.mpr ⟨lw_p58, List.forall_mem_cons.mpr ⟨lw_p59, List.forall_mem_cons.mpr ⟨lw_p60, List.forall_mem_cons.mpr ⟨lw_p61, fun _ h => absurd h List.not_mem_nil⟩⟩⟩⟩⟩⟩⟩⟩⟩⟩⟩⟩⟩⟩
def lw_privs : List (MethodName × Nat) := lw_privs_1 ++ (lw_privs_2 ++ (lw_privs_3 ++ (lw_privs_4)))
def lw_tbl : List Cond := k2_sels lw_privs ++ tables_1
theorem lw_privs_ok : ∀ q ∈ lw_privs, lw_okq q := by
  show ∀ q ∈ lw_privs_1 ++ (lw_privs_2 ++ (lw_privs_3 ++ (lw_privs_4))), lw_okq q
  exact List.forall_mem_append.mpr ⟨lw_r1, List.forall_mem_append.mpr ⟨lw_r2, List.forall_mem_append.mpr ⟨lw_r3, lw_r4⟩⟩⟩
/-- the streams that the claim lets the run draw from -/
abbrev lw_cs : List Choice := [Jvm.Choice.named "NaN.bits"]
theorem lw_bits : nanBits ∈ lw_cs := by first | decide | exact List.mem_cons_self | simp [lw_cs, nanBits]
def RX0 : String := "KeyframeCurves$Curve"
def TX0 : u_T := fun k => match k with
  | 0 => ("KeyframeCurves$Curve", "count", "I", false)
  | 1 => ("KeyframeCurves$Curve", "before", "I", false)
  | 2 => ("KeyframeCurves$Curve", "after", "I", false)
  | 3 => ("KeyframeCurves$Curve", "frames", "[I", true)
  | 4 => ("KeyframeCurves$Curve", "heights", "[I", true)
  | 5 => ("KeyframeCurves$Curve", "modes", "[I", true)
  | 6 => ("KeyframeCurves$Curve", "ins", "[I", true)
  | _ => ("KeyframeCurves$Curve", "outs", "[I", true)
def tyX0 : Nat → FieldType := fun k => match k with
  | 0 => .int
  | 1 => .int
  | 2 => .int
  | 3 => .array .int
  | 4 => .array .int
  | 5 => .array .int
  | 6 => .array .int
  | _ => .array .int
abbrev wsX00 : List Cond := u_ws RX0 TX0 8
theorem nmX0 : ∀ a, a < 8 → ∀ b, b < 8 → a ≠ b → (TX0 a).2.1 ≠ (TX0 b).2.1 := by decide +kernel
theorem tyX0_ok : ∀ k, k < 8 → parseFieldDescriptor (TX0 k).2.2.1 = some (tyX0 k) := by decide +kernel
abbrev cX0_init : ByteArray := prog_2_method_1_code
def yX0_init : MethodName := ⟨RX0, "<init>", "()V"⟩
abbrev cX0_copy : ByteArray := prog_2_method_2_code
def yX0_copy : MethodName := ⟨RX0, "copy", "(LKeyframeCurves$Curve;)V"⟩
abbrev cX0_copyKeys : ByteArray := prog_2_method_3_code
def yX0_copyKeys : MethodName := ⟨RX0, "copyKeys", "(LKeyframeCurves$Curve;)V"⟩
abbrev cX0_has : ByteArray := prog_2_method_4_code
def yX0_has : MethodName := ⟨RX0, "has", "(I)Z"⟩
abbrev cX0_find : ByteArray := prog_2_method_5_code
def yX0_find : MethodName := ⟨RX0, "find", "(I)I"⟩
abbrev cX0_keysBefore : ByteArray := prog_2_method_6_code
def yX0_keysBefore : MethodName := ⟨RX0, "keysBefore", "(I)I"⟩
abbrev cX0_bothExtrapolations : ByteArray := prog_2_method_7_code
def yX0_bothExtrapolations : MethodName := ⟨RX0, "bothExtrapolations", "()I"⟩
abbrev cX0_insert : ByteArray := prog_2_method_8_code
def yX0_insert : MethodName := ⟨RX0, "insert", "(IIIII)I"⟩
abbrev cX0_drop : ByteArray := prog_2_method_9_code
def yX0_drop : MethodName := ⟨RX0, "drop", "(I)V"⟩
abbrev cX0_shift : ByteArray := prog_2_method_10_code
def yX0_shift : MethodName := ⟨RX0, "shift", "(II)V"⟩
abbrev cX0_keysOutside : ByteArray := prog_2_method_11_code
def yX0_keysOutside : MethodName := ⟨RX0, "keysOutside", "(II)I"⟩
abbrev cX0_replaceRange : ByteArray := prog_2_method_12_code
def yX0_replaceRange : MethodName := ⟨RX0, "replaceRange", "(III[I)V"⟩
abbrev cX0_move : ByteArray := prog_2_method_13_code
def yX0_move : MethodName := ⟨RX0, "move", "(II)I"⟩
abbrev cX0_changeMode : ByteArray := prog_2_method_14_code
def yX0_changeMode : MethodName := ⟨RX0, "changeMode", "(II)V"⟩
abbrev cX0_divide : ByteArray := prog_2_method_15_code
def yX0_divide : MethodName := ⟨RX0, "divide", "(II)I"⟩
abbrev cX0_freeUnlessHold : ByteArray := prog_2_method_16_code
def yX0_freeUnlessHold : MethodName := ⟨RX0, "freeUnlessHold", "(I)V"⟩
abbrev cX0_retimeKeys : ByteArray := prog_2_method_17_code
def yX0_retimeKeys : MethodName := ⟨RX0, "retimeKeys", "(LKeyframeCurves$TimeMap;[I)V"⟩
abbrev cX0_tangent : ByteArray := prog_2_method_18_code
def yX0_tangent : MethodName := ⟨RX0, "tangent", "(IZ)I"⟩
abbrev cX0_secant : ByteArray := prog_2_method_19_code
def yX0_secant : MethodName := ⟨RX0, "secant", "(II)I"⟩
abbrev cX0_isBetweenNeighbors : ByteArray := prog_2_method_20_code
def yX0_isBetweenNeighbors : MethodName := ⟨RX0, "isBetweenNeighbors", "(I)Z"⟩
abbrev cX0_monotone : ByteArray := prog_2_method_21_code
def yX0_monotone : MethodName := ⟨RX0, "monotone", "(III)I"⟩
abbrev cX0_partsAt : ByteArray := prog_2_method_22_code
def yX0_partsAt : MethodName := ⟨RX0, "partsAt", "(I)I"⟩
abbrev cX0_extrapolation : ByteArray := prog_2_method_23_code
def yX0_extrapolation : MethodName := ⟨RX0, "extrapolation", "(III)I"⟩
abbrev cX0_folded : ByteArray := prog_2_method_24_code
def yX0_folded : MethodName := ⟨RX0, "folded", "(IIII)I"⟩
abbrev cX0_between : ByteArray := prog_2_method_25_code
def yX0_between : MethodName := ⟨RX0, "between", "(II)I"⟩
abbrev cX0_hermite : ByteArray := prog_2_method_26_code
def yX0_hermite : MethodName := ⟨RX0, "hermite", "(JJJJJJ)I"⟩
abbrev cX0_distance : ByteArray := prog_2_method_27_code
def yX0_distance : MethodName := ⟨RX0, "distance", "([II)I"⟩
abbrev cX0_addTo : ByteArray := prog_2_method_28_code
def yX0_addTo : MethodName := ⟨RX0, "addTo", "(J)J"⟩
def RX1 : String := "KeyframeCurves$CurveReader"
def TX1 : u_T := fun k => match k with
  | _ => ("KeyframeCurves$CurveReader", "result", "LKeyframeCurves$Curve;", true)
def tyX1 : Nat → FieldType := fun k => match k with
  | _ => .object "KeyframeCurves$Curve"
abbrev wsX10 : List Cond := u_ws RX1 TX1 1
theorem nmX1 : ∀ a, a < 1 → ∀ b, b < 1 → a ≠ b → (TX1 a).2.1 ≠ (TX1 b).2.1 := by decide +kernel
theorem tyX1_ok : ∀ k, k < 1 → parseFieldDescriptor (TX1 k).2.2.1 = some (tyX1 k) := by decide +kernel
abbrev cX1_init : ByteArray := prog_3_method_1_code
def yX1_init : MethodName := ⟨RX1, "<init>", "()V"⟩
abbrev cX1_read : ByteArray := prog_3_method_2_code
def yX1_read : MethodName := ⟨RX1, "read", "(LKeyframeCurves$Text;)I"⟩
abbrev cX1_key : ByteArray := prog_3_method_3_code
def yX1_key : MethodName := ⟨RX1, "key", "(LKeyframeCurves$Text;)V"⟩
abbrev cX1_mode : ByteArray := prog_3_method_4_code
def yX1_mode : MethodName := ⟨RX1, "mode", "(LKeyframeCurves$Text;)I"⟩
def RX2 : String := "KeyframeCurves$Decimator"
def TX2 : u_T := fun k => match k with
  | 0 => ("KeyframeCurves$Decimator", "samples", "[I", true)
  | _ => ("KeyframeCurves$Decimator", "trial", "LKeyframeCurves$Curve;", true)
def tyX2 : Nat → FieldType := fun k => match k with
  | 0 => .array .int
  | _ => .object "KeyframeCurves$Curve"
abbrev wsX20 : List Cond := u_ws RX2 TX2 2
theorem nmX2 : ∀ a, a < 2 → ∀ b, b < 2 → a ≠ b → (TX2 a).2.1 ≠ (TX2 b).2.1 := by decide +kernel
theorem tyX2_ok : ∀ k, k < 2 → parseFieldDescriptor (TX2 k).2.2.1 = some (tyX2 k) := by decide +kernel
abbrev cX2_init : ByteArray := prog_4_method_1_code
def yX2_init : MethodName := ⟨RX2, "<init>", "()V"⟩
abbrev cX2_reduce : ByteArray := prog_4_method_2_code
def yX2_reduce : MethodName := ⟨RX2, "reduce", "(LKeyframeCurves$Curve;I)I"⟩
abbrev cX2_cheapest : ByteArray := prog_4_method_3_code
def yX2_cheapest : MethodName := ⟨RX2, "cheapest", "(LKeyframeCurves$Curve;I)I"⟩
def RX3 : String := "KeyframeCurves$Formula"
def TX3 : u_T := fun k => match k with
  | 0 => ("KeyframeCurves$Formula", "count", "I", false)
  | 1 => ("KeyframeCurves$Formula", "kinds", "[I", true)
  | _ => ("KeyframeCurves$Formula", "details", "[I", true)
def tyX3 : Nat → FieldType := fun k => match k with
  | 0 => .int
  | 1 => .array .int
  | _ => .array .int
abbrev wsX30 : List Cond := u_ws RX3 TX3 3
theorem nmX3 : ∀ a, a < 3 → ∀ b, b < 3 → a ≠ b → (TX3 a).2.1 ≠ (TX3 b).2.1 := by decide +kernel
theorem tyX3_ok : ∀ k, k < 3 → parseFieldDescriptor (TX3 k).2.2.1 = some (tyX3 k) := by decide +kernel
abbrev cX3_init : ByteArray := prog_5_method_1_code
def yX3_init : MethodName := ⟨RX3, "<init>", "()V"⟩
abbrev cX3_copy : ByteArray := prog_5_method_2_code
def yX3_copy : MethodName := ⟨RX3, "copy", "(LKeyframeCurves$Formula;)V"⟩
abbrev cX3_add : ByteArray := prog_5_method_3_code
def yX3_add : MethodName := ⟨RX3, "add", "(II)V"⟩
abbrev cX3_operands : ByteArray := prog_5_method_4_code
def yX3_operands : MethodName := ⟨RX3, "operands", "()I"⟩
def RX4 : String := "KeyframeCurves$FormulaReader"
def TX4 : u_T := fun k => match k with
  | _ => ("KeyframeCurves$FormulaReader", "result", "LKeyframeCurves$Formula;", true)
def tyX4 : Nat → FieldType := fun k => match k with
  | _ => .object "KeyframeCurves$Formula"
abbrev wsX40 : List Cond := u_ws RX4 TX4 1
theorem nmX4 : ∀ a, a < 1 → ∀ b, b < 1 → a ≠ b → (TX4 a).2.1 ≠ (TX4 b).2.1 := by decide +kernel
theorem tyX4_ok : ∀ k, k < 1 → parseFieldDescriptor (TX4 k).2.2.1 = some (tyX4 k) := by decide +kernel
abbrev cX4_init : ByteArray := prog_6_method_1_code
def yX4_init : MethodName := ⟨RX4, "<init>", "()V"⟩
abbrev cX4_read : ByteArray := prog_6_method_2_code
def yX4_read : MethodName := ⟨RX4, "read", "(LKeyframeCurves$Text;)I"⟩
abbrev cX4_sum : ByteArray := prog_6_method_3_code
def yX4_sum : MethodName := ⟨RX4, "sum", "(LKeyframeCurves$Text;I)V"⟩
abbrev cX4_product : ByteArray := prog_6_method_4_code
def yX4_product : MethodName := ⟨RX4, "product", "(LKeyframeCurves$Text;I)V"⟩
abbrev cX4_factor : ByteArray := prog_6_method_5_code
def yX4_factor : MethodName := ⟨RX4, "factor", "(LKeyframeCurves$Text;I)V"⟩
abbrev cX4_curve : ByteArray := prog_6_method_6_code
def yX4_curve : MethodName := ⟨RX4, "curve", "(LKeyframeCurves$Text;I)V"⟩
abbrev cX4_choice : ByteArray := prog_6_method_7_code
def yX4_choice : MethodName := ⟨RX4, "choice", "(LKeyframeCurves$Text;I)V"⟩
abbrev cX4_opens : ByteArray := prog_6_method_8_code
def yX4_opens : MethodName := ⟨RX4, "opens", "(LKeyframeCurves$Text;II)Z"⟩
def RX5 : String := "KeyframeCurves$History"
def TX5 : u_T := fun k => match k with
  | 0 => ("KeyframeCurves$History", "oldest", "I", false)
  | 1 => ("KeyframeCurves$History", "count", "I", false)
  | _ => ("KeyframeCurves$History", "states", "[LKeyframeCurves$State;", true)
def tyX5 : Nat → FieldType := fun k => match k with
  | 0 => .int
  | 1 => .int
  | _ => .array (.object "KeyframeCurves$State")
abbrev wsX50 : List Cond := u_ws RX5 TX5 3
theorem nmX5 : ∀ a, a < 3 → ∀ b, b < 3 → a ≠ b → (TX5 a).2.1 ≠ (TX5 b).2.1 := by decide +kernel
theorem tyX5_ok : ∀ k, k < 3 → parseFieldDescriptor (TX5 k).2.2.1 = some (tyX5 k) := by decide +kernel
abbrev cX5_init : ByteArray := prog_7_method_1_code
def yX5_init : MethodName := ⟨RX5, "<init>", "()V"⟩
abbrev cX5_record : ByteArray := prog_7_method_2_code
def yX5_record : MethodName := ⟨RX5, "record", "(LKeyframeCurves$State;)V"⟩
abbrev cX5_restore : ByteArray := prog_7_method_3_code
def yX5_restore : MethodName := ⟨RX5, "restore", "(LKeyframeCurves$State;)I"⟩
abbrev cX5_stateAt : ByteArray := prog_7_method_4_code
def yX5_stateAt : MethodName := ⟨RX5, "stateAt", "(I)LKeyframeCurves$State;"⟩
def RX6 : String := "KeyframeCurves$Mixer"
def TX6 : u_T := fun k => match k with
  | _ => ("KeyframeCurves$Mixer", "stack", "[I", true)
def tyX6 : Nat → FieldType := fun k => match k with
  | _ => .array .int
abbrev wsX60 : List Cond := u_ws RX6 TX6 1
theorem nmX6 : ∀ a, a < 1 → ∀ b, b < 1 → a ≠ b → (TX6 a).2.1 ≠ (TX6 b).2.1 := by decide +kernel
theorem tyX6_ok : ∀ k, k < 1 → parseFieldDescriptor (TX6 k).2.2.1 = some (tyX6 k) := by decide +kernel
abbrev cX6_init : ByteArray := prog_8_method_1_code
def yX6_init : MethodName := ⟨RX6, "<init>", "()V"⟩
abbrev cX6_run : ByteArray := prog_8_method_2_code
def yX6_run : MethodName := ⟨RX6, "run", "(LKeyframeCurves$State;I)I"⟩
abbrev cX6_combined : ByteArray := prog_8_method_3_code
def yX6_combined : MethodName := ⟨RX6, "combined", "(III)I"⟩
def RX7 : String := "KeyframeCurves$Polyline"
def TX7 : u_T := fun k => match k with
  | 0 => ("KeyframeCurves$Polyline", "last", "I", false)
  | 1 => ("KeyframeCurves$Polyline", "samples", "[I", true)
  | 2 => ("KeyframeCurves$Polyline", "sizes", "[I", true)
  | 3 => ("KeyframeCurves$Polyline", "sums", "[I", true)
  | _ => ("KeyframeCurves$Polyline", "nexts", "[I", true)
def tyX7 : Nat → FieldType := fun k => match k with
  | 0 => .int
  | 1 => .array .int
  | 2 => .array .int
  | 3 => .array .int
  | _ => .array .int
abbrev wsX70 : List Cond := u_ws RX7 TX7 5
theorem nmX7 : ∀ a, a < 5 → ∀ b, b < 5 → a ≠ b → (TX7 a).2.1 ≠ (TX7 b).2.1 := by decide +kernel
theorem tyX7_ok : ∀ k, k < 5 → parseFieldDescriptor (TX7 k).2.2.1 = some (tyX7 k) := by decide +kernel
abbrev cX7_init : ByteArray := prog_9_method_1_code
def yX7_init : MethodName := ⟨RX7, "<init>", "()V"⟩
abbrev cX7_solve : ByteArray := prog_9_method_2_code
def yX7_solve : MethodName := ⟨RX7, "solve", "(LKeyframeCurves$Curve;III)V"⟩
abbrev cX7_chooseNext : ByteArray := prog_9_method_3_code
def yX7_chooseNext : MethodName := ⟨RX7, "chooseNext", "(II)V"⟩
abbrev cX7_misfit : ByteArray := prog_9_method_4_code
def yX7_misfit : MethodName := ⟨RX7, "misfit", "(III)I"⟩
abbrev cX7_size : ByteArray := prog_9_method_5_code
def yX7_size : MethodName := ⟨RX7, "size", "()I"⟩
abbrev cX7_frameAt : ByteArray := prog_9_method_6_code
def yX7_frameAt : MethodName := ⟨RX7, "frameAt", "(II)I"⟩
def RX8 : String := "KeyframeCurves$State"
def TX8 : u_T := fun k => match k with
  | 0 => ("KeyframeCurves$State", "map", "LKeyframeCurves$TimeMap;", true)
  | 1 => ("KeyframeCurves$State", "formula", "LKeyframeCurves$Formula;", true)
  | _ => ("KeyframeCurves$State", "curves", "[LKeyframeCurves$Curve;", true)
def tyX8 : Nat → FieldType := fun k => match k with
  | 0 => .object "KeyframeCurves$TimeMap"
  | 1 => .object "KeyframeCurves$Formula"
  | _ => .array (.object "KeyframeCurves$Curve")
abbrev wsX80 : List Cond := u_ws RX8 TX8 3
theorem nmX8 : ∀ a, a < 3 → ∀ b, b < 3 → a ≠ b → (TX8 a).2.1 ≠ (TX8 b).2.1 := by decide +kernel
theorem tyX8_ok : ∀ k, k < 3 → parseFieldDescriptor (TX8 k).2.2.1 = some (tyX8 k) := by decide +kernel
abbrev cX8_init : ByteArray := prog_10_method_1_code
def yX8_init : MethodName := ⟨RX8, "<init>", "()V"⟩
abbrev cX8_curveAt : ByteArray := prog_10_method_2_code
def yX8_curveAt : MethodName := ⟨RX8, "curveAt", "(I)LKeyframeCurves$Curve;"⟩
abbrev cX8_copyAll : ByteArray := prog_10_method_3_code
def yX8_copyAll : MethodName := ⟨RX8, "copyAll", "(LKeyframeCurves$State;)V"⟩
def RX9 : String := "KeyframeCurves$Text"
def TX9 : u_T := fun k => match k with
  | 0 => ("KeyframeCurves$Text", "length", "I", false)
  | 1 => ("KeyframeCurves$Text", "position", "I", false)
  | 2 => ("KeyframeCurves$Text", "fault", "I", false)
  | _ => ("KeyframeCurves$Text", "letters", "[I", true)
def tyX9 : Nat → FieldType := fun k => match k with
  | 0 => .int
  | 1 => .int
  | 2 => .int
  | _ => .array .int
abbrev wsX90 : List Cond := u_ws RX9 TX9 4
theorem nmX9 : ∀ a, a < 4 → ∀ b, b < 4 → a ≠ b → (TX9 a).2.1 ≠ (TX9 b).2.1 := by decide +kernel
theorem tyX9_ok : ∀ k, k < 4 → parseFieldDescriptor (TX9 k).2.2.1 = some (tyX9 k) := by decide +kernel
abbrev cX9_init : ByteArray := prog_11_method_1_code
def yX9_init : MethodName := ⟨RX9, "<init>", "()V"⟩
abbrev cX9_add : ByteArray := prog_11_method_2_code
def yX9_add : MethodName := ⟨RX9, "add", "(I)I"⟩
abbrev cX9_rewind : ByteArray := prog_11_method_3_code
def yX9_rewind : MethodName := ⟨RX9, "rewind", "()V"⟩
abbrev cX9_peek : ByteArray := prog_11_method_4_code
def yX9_peek : MethodName := ⟨RX9, "peek", "()I"⟩
abbrev cX9_accept : ByteArray := prog_11_method_5_code
def yX9_accept : MethodName := ⟨RX9, "accept", "(I)Z"⟩
abbrev cX9_expect : ByteArray := prog_11_method_6_code
def yX9_expect : MethodName := ⟨RX9, "expect", "(I)V"⟩
abbrev cX9_fail : ByteArray := prog_11_method_7_code
def yX9_fail : MethodName := ⟨RX9, "fail", "(I)V"⟩
abbrev cX9_number : ByteArray := prog_11_method_8_code
def yX9_number : MethodName := ⟨RX9, "number", "()I"⟩
abbrev cX9_verdict : ByteArray := prog_11_method_9_code
def yX9_verdict : MethodName := ⟨RX9, "verdict", "()I"⟩
def RX10 : String := "KeyframeCurves$TimeMap"
def TX10 : u_T := fun k => match k with
  | 0 => ("KeyframeCurves$TimeMap", "count", "I", false)
  | 1 => ("KeyframeCurves$TimeMap", "sources", "[I", true)
  | _ => ("KeyframeCurves$TimeMap", "targets", "[I", true)
def tyX10 : Nat → FieldType := fun k => match k with
  | 0 => .int
  | 1 => .array .int
  | _ => .array .int
abbrev wsX100 : List Cond := u_ws RX10 TX10 3
theorem nmX10 : ∀ a, a < 3 → ∀ b, b < 3 → a ≠ b → (TX10 a).2.1 ≠ (TX10 b).2.1 := by decide +kernel
theorem tyX10_ok : ∀ k, k < 3 → parseFieldDescriptor (TX10 k).2.2.1 = some (tyX10 k) := by decide +kernel
abbrev cX10_init : ByteArray := prog_12_method_1_code
def yX10_init : MethodName := ⟨RX10, "<init>", "()V"⟩
abbrev cX10_copy : ByteArray := prog_12_method_2_code
def yX10_copy : MethodName := ⟨RX10, "copy", "(LKeyframeCurves$TimeMap;)V"⟩
abbrev cX10_canFollow : ByteArray := prog_12_method_3_code
def yX10_canFollow : MethodName := ⟨RX10, "canFollow", "(II)Z"⟩
abbrev cX10_add : ByteArray := prog_12_method_4_code
def yX10_add : MethodName := ⟨RX10, "add", "(II)V"⟩
abbrev cX10_send : ByteArray := prog_12_method_5_code
def yX10_send : MethodName := ⟨RX10, "send", "(I)I"⟩
abbrev cX10_stretched : ByteArray := prog_12_method_6_code
def yX10_stretched : MethodName := ⟨RX10, "stretched", "(IIZ)I"⟩
abbrev cX10_pointsBefore : ByteArray := prog_12_method_7_code
def yX10_pointsBefore : MethodName := ⟨RX10, "pointsBefore", "(I)I"⟩
abbrev cX10_sourceLength : ByteArray := prog_12_method_8_code
def yX10_sourceLength : MethodName := ⟨RX10, "sourceLength", "(I)I"⟩
abbrev cX10_targetLength : ByteArray := prog_12_method_9_code
def yX10_targetLength : MethodName := ⟨RX10, "targetLength", "(I)I"⟩
abbrev cX10_addTo : ByteArray := prog_12_method_10_code
def yX10_addTo : MethodName := ⟨RX10, "addTo", "(J)J"⟩
def RX11 : String := "KeyframeCurves"
def TX11 : u_T := fun k => match k with
  | 0 => ("KeyframeCurves", "now", "LKeyframeCurves$State;", true)
  | 1 => ("KeyframeCurves", "history", "LKeyframeCurves$History;", true)
  | 2 => ("KeyframeCurves", "text", "LKeyframeCurves$Text;", true)
  | 3 => ("KeyframeCurves", "formulaReader", "LKeyframeCurves$FormulaReader;", true)
  | 4 => ("KeyframeCurves", "curveReader", "LKeyframeCurves$CurveReader;", true)
  | 5 => ("KeyframeCurves", "mixer", "LKeyframeCurves$Mixer;", true)
  | 6 => ("KeyframeCurves", "shortest", "LKeyframeCurves$Polyline;", true)
  | 7 => ("KeyframeCurves", "decimator", "LKeyframeCurves$Decimator;", true)
  | _ => ("KeyframeCurves", "planned", "[I", true)
def tyX11 : Nat → FieldType := fun k => match k with
  | 0 => .object "KeyframeCurves$State"
  | 1 => .object "KeyframeCurves$History"
  | 2 => .object "KeyframeCurves$Text"
  | 3 => .object "KeyframeCurves$FormulaReader"
  | 4 => .object "KeyframeCurves$CurveReader"
  | 5 => .object "KeyframeCurves$Mixer"
  | 6 => .object "KeyframeCurves$Polyline"
  | 7 => .object "KeyframeCurves$Decimator"
  | _ => .array .int
abbrev wsX110 : List Cond := u_ws RX11 TX11 9
theorem nmX11 : ∀ a, a < 9 → ∀ b, b < 9 → a ≠ b → (TX11 a).2.1 ≠ (TX11 b).2.1 := by decide +kernel
theorem tyX11_ok : ∀ k, k < 9 → parseFieldDescriptor (TX11 k).2.2.1 = some (tyX11 k) := by decide +kernel
abbrev cX11_init : ByteArray := prog_1_method_1_code
def yX11_init : MethodName := ⟨RX11, "<init>", "()V"⟩
abbrev cX11_setKey : ByteArray := prog_1_method_2_code
def yX11_setKey : MethodName := ⟨RX11, "setKey", "(III)I"⟩
abbrev cX11_removeKey : ByteArray := prog_1_method_3_code
def yX11_removeKey : MethodName := ⟨RX11, "removeKey", "(II)I"⟩
abbrev cX11_moveKey : ByteArray := prog_1_method_4_code
def yX11_moveKey : MethodName := ⟨RX11, "moveKey", "(III)I"⟩
abbrev cX11_setMode : ByteArray := prog_1_method_5_code
def yX11_setMode : MethodName := ⟨RX11, "setMode", "(III)I"⟩
abbrev cX11_setSlopes : ByteArray := prog_1_method_6_code
def yX11_setSlopes : MethodName := ⟨RX11, "setSlopes", "(IIII)I"⟩
abbrev cX11_split : ByteArray := prog_1_method_7_code
def yX11_split : MethodName := ⟨RX11, "split", "(II)I"⟩
abbrev cX11_clear : ByteArray := prog_1_method_8_code
def yX11_clear : MethodName := ⟨RX11, "clear", "(I)I"⟩
abbrev cX11_setExtrapolation : ByteArray := prog_1_method_9_code
def yX11_setExtrapolation : MethodName := ⟨RX11, "setExtrapolation", "(III)I"⟩
abbrev cX11_keys : ByteArray := prog_1_method_10_code
def yX11_keys : MethodName := ⟨RX11, "keys", "(I)I"⟩
abbrev cX11_frameOf : ByteArray := prog_1_method_11_code
def yX11_frameOf : MethodName := ⟨RX11, "frameOf", "(II)I"⟩
abbrev cX11_valueOf : ByteArray := prog_1_method_12_code
def yX11_valueOf : MethodName := ⟨RX11, "valueOf", "(II)I"⟩
abbrev cX11_modeOf : ByteArray := prog_1_method_13_code
def yX11_modeOf : MethodName := ⟨RX11, "modeOf", "(II)I"⟩
abbrev cX11_slope : ByteArray := prog_1_method_14_code
def yX11_slope : MethodName := ⟨RX11, "slope", "(IIZ)I"⟩
abbrev cX11_value : ByteArray := prog_1_method_15_code
def yX11_value : MethodName := ⟨RX11, "value", "(II)I"⟩
abbrev cX11_units : ByteArray := prog_1_method_16_code
def yX11_units : MethodName := ⟨RX11, "units", "(II)F"⟩
abbrev cX11_mean : ByteArray := prog_1_method_17_code
def yX11_mean : MethodName := ⟨RX11, "mean", "(III)D"⟩
abbrev cX11_extreme : ByteArray := prog_1_method_18_code
def yX11_extreme : MethodName := ⟨RX11, "extreme", "(IIIZ)I"⟩
abbrev cX11_crossings : ByteArray := prog_1_method_19_code
def yX11_crossings : MethodName := ⟨RX11, "crossings", "(IIII)I"⟩
abbrev cX11_addPoint : ByteArray := prog_1_method_20_code
def yX11_addPoint : MethodName := ⟨RX11, "addPoint", "(II)I"⟩
abbrev cX11_clearMap : ByteArray := prog_1_method_21_code
def yX11_clearMap : MethodName := ⟨RX11, "clearMap", "()I"⟩
abbrev cX11_mapped : ByteArray := prog_1_method_22_code
def yX11_mapped : MethodName := ⟨RX11, "mapped", "(I)I"⟩
abbrev cX11_retime : ByteArray := prog_1_method_23_code
def yX11_retime : MethodName := ⟨RX11, "retime", "(I)I"⟩
abbrev cX11_bake : ByteArray := prog_1_method_24_code
def yX11_bake : MethodName := ⟨RX11, "bake", "(IIII)I"⟩
abbrev cX11_bakeFormula : ByteArray := prog_1_method_25_code
def yX11_bakeFormula : MethodName := ⟨RX11, "bakeFormula", "(IIII)I"⟩
abbrev cX11_polyline : ByteArray := prog_1_method_26_code
def yX11_polyline : MethodName := ⟨RX11, "polyline", "(IIIII)I"⟩
abbrev cX11_decimate : ByteArray := prog_1_method_27_code
def yX11_decimate : MethodName := ⟨RX11, "decimate", "(II)I"⟩
abbrev cX11_append : ByteArray := prog_1_method_28_code
def yX11_append : MethodName := ⟨RX11, "append", "(I)I"⟩
abbrev cX11_clearText : ByteArray := prog_1_method_29_code
def yX11_clearText : MethodName := ⟨RX11, "clearText", "()I"⟩
abbrev cX11_faultPosition : ByteArray := prog_1_method_30_code
def yX11_faultPosition : MethodName := ⟨RX11, "faultPosition", "(Z)I"⟩
abbrev cX11_readCurve : ByteArray := prog_1_method_31_code
def yX11_readCurve : MethodName := ⟨RX11, "readCurve", "(I)I"⟩
abbrev cX11_readFormula : ByteArray := prog_1_method_32_code
def yX11_readFormula : MethodName := ⟨RX11, "readFormula", "()I"⟩
abbrev cX11_mix : ByteArray := prog_1_method_33_code
def yX11_mix : MethodName := ⟨RX11, "mix", "(I)I"⟩
abbrev cX11_undo : ByteArray := prog_1_method_34_code
def yX11_undo : MethodName := ⟨RX11, "undo", "()I"⟩
abbrev cX11_checksum : ByteArray := prog_1_method_35_code
def yX11_checksum : MethodName := ⟨RX11, "checksum", "()J"⟩
abbrev cX11_within : ByteArray := prog_1_method_36_code
def yX11_within : MethodName := ⟨RX11, "within", "(III)Z"⟩
abbrev cX11_isRange : ByteArray := prog_1_method_37_code
def yX11_isRange : MethodName := ⟨RX11, "isRange", "(III)Z"⟩
abbrev cX11_stepsIn : ByteArray := prog_1_method_38_code
def yX11_stepsIn : MethodName := ⟨RX11, "stepsIn", "(III)I"⟩
abbrev cX11_at : ByteArray := prog_1_method_39_code
def yX11_at : MethodName := ⟨RX11, "at", "([II)I"⟩
abbrev cX11_put : ByteArray := prog_1_method_40_code
def yX11_put : MethodName := ⟨RX11, "put", "([III)V"⟩
abbrev cX11_copyRow : ByteArray := prog_1_method_41_code
def yX11_copyRow : MethodName := ⟨RX11, "copyRow", "([I[I)V"⟩
abbrev cX11_round : ByteArray := prog_1_method_42_code
def yX11_round : MethodName := ⟨RX11, "round", "(JJ)J"⟩
abbrev cX11_limited : ByteArray := prog_1_method_43_code
def yX11_limited : MethodName := ⟨RX11, "limited", "(JI)I"⟩
abbrev cX11_nearestValue : ByteArray := prog_1_method_44_code
def yX11_nearestValue : MethodName := ⟨RX11, "nearestValue", "(I)I"⟩
def RX12 : String := "KeyframeCurvesModel"
def TX12 : u_T := fun k => match k with
  | 0 => ("KeyframeCurvesModel", "v", "[I", true)
  | 1 => ("KeyframeCurvesModel", "past", "[I", true)
  | 2 => ("KeyframeCurvesModel", "pasts", "I", false)
  | 3 => ("KeyframeCurvesModel", "text", "[I", true)
  | 4 => ("KeyframeCurvesModel", "length", "I", false)
  | 5 => ("KeyframeCurvesModel", "held", "[I", true)
  | 6 => ("KeyframeCurvesModel", "sample", "[I", true)
  | 7 => ("KeyframeCurvesModel", "fewest", "[I", true)
  | 8 => ("KeyframeCurvesModel", "sums", "[J", true)
  | 9 => ("KeyframeCurvesModel", "next", "[I", true)
  | 10 => ("KeyframeCurvesModel", "aside", "[I", true)
  | 11 => ("KeyframeCurvesModel", "isOwn", "Z", false)
  | 12 => ("KeyframeCurvesModel", "place", "I", false)
  | 13 => ("KeyframeCurvesModel", "fault", "I", false)
  | 14 => ("KeyframeCurvesModel", "deep", "I", false)
  | 15 => ("KeyframeCurvesModel", "factors", "I", false)
  | 16 => ("KeyframeCurvesModel", "now", "I", false)
  | 17 => ("KeyframeCurvesModel", "kinds", "[I", true)
  | 18 => ("KeyframeCurvesModel", "signs", "[I", true)
  | 19 => ("KeyframeCurvesModel", "totals", "[I", true)
  | 20 => ("KeyframeCurvesModel", "products", "[I", true)
  | 21 => ("KeyframeCurvesModel", "isMultiplied", "[Z", true)
  | 22 => ("KeyframeCurvesModel", "firsts", "[I", true)
  | 23 => ("KeyframeCurvesModel", "open", "I", false)
  | 24 => ("KeyframeCurvesModel", "got", "I", false)
  | 25 => ("KeyframeCurvesModel", "told", "[I", true)
  | _ => ("KeyframeCurvesModel", "tellings", "I", false)
def tyX12 : Nat → FieldType := fun k => match k with
  | 0 => .array .int
  | 1 => .array .int
  | 2 => .int
  | 3 => .array .int
  | 4 => .int
  | 5 => .array .int
  | 6 => .array .int
  | 7 => .array .int
  | 8 => .array .long
  | 9 => .array .int
  | 10 => .array .int
  | 11 => .boolean
  | 12 => .int
  | 13 => .int
  | 14 => .int
  | 15 => .int
  | 16 => .int
  | 17 => .array .int
  | 18 => .array .int
  | 19 => .array .int
  | 20 => .array .int
  | 21 => .array .boolean
  | 22 => .array .int
  | 23 => .int
  | 24 => .int
  | 25 => .array .int
  | _ => .int
abbrev wsX120 : List Cond := u_ws RX12 TX12 27
theorem nmX12 : ∀ a, a < 27 → ∀ b, b < 27 → a ≠ b → (TX12 a).2.1 ≠ (TX12 b).2.1 := by decide +kernel
theorem tyX12_ok : ∀ k, k < 27 → parseFieldDescriptor (TX12 k).2.2.1 = some (tyX12 k) := by decide +kernel
abbrev cX12_init : ByteArray := prog_14_method_1_code
def yX12_init : MethodName := ⟨RX12, "<init>", "()V"⟩
abbrev cX12_in : ByteArray := prog_14_method_3_code
def yX12_in : MethodName := ⟨RX12, "in", "(III)Z"⟩
abbrev cX12_most : ByteArray := prog_14_method_4_code
def yX12_most : MethodName := ⟨RX12, "most", "(II)I"⟩
abbrev cX12_least : ByteArray := prog_14_method_5_code
def yX12_least : MethodName := ⟨RX12, "least", "(II)I"⟩
abbrev cX12_bound : ByteArray := prog_14_method_6_code
def yX12_bound : MethodName := ⟨RX12, "bound", "(JI)I"⟩
abbrev cX12_size : ByteArray := prog_14_method_7_code
def yX12_size : MethodName := ⟨RX12, "size", "(I)I"⟩
abbrev cX12_down : ByteArray := prog_14_method_8_code
def yX12_down : MethodName := ⟨RX12, "down", "(JJ)J"⟩
abbrev cX12_round : ByteArray := prog_14_method_9_code
def yX12_round : MethodName := ⟨RX12, "round", "(JJ)J"⟩
abbrev cX12_at : ByteArray := prog_14_method_10_code
def yX12_at : MethodName := ⟨RX12, "at", "(III)I"⟩
abbrev cX12_isCurve : ByteArray := prog_14_method_11_code
def yX12_isCurve : MethodName := ⟨RX12, "isCurve", "(I)Z"⟩
abbrev cX12_many : ByteArray := prog_14_method_12_code
def yX12_many : MethodName := ⟨RX12, "many", "(I)I"⟩
abbrev cX12_frame : ByteArray := prog_14_method_13_code
def yX12_frame : MethodName := ⟨RX12, "frame", "(II)I"⟩
abbrev cX12_isKey : ByteArray := prog_14_method_14_code
def yX12_isKey : MethodName := ⟨RX12, "isKey", "(II)Z"⟩
abbrev cX12_find : ByteArray := prog_14_method_15_code
def yX12_find : MethodName := ⟨RX12, "find", "(II)I"⟩
abbrev cX12_changes : ByteArray := prog_14_method_16_code
def yX12_changes : MethodName := ⟨RX12, "changes", "()V"⟩
abbrev cX12_undo : ByteArray := prog_14_method_17_code
def yX12_undo : MethodName := ⟨RX12, "undo", "()I"⟩
abbrev cX12_secant : ByteArray := prog_14_method_18_code
def yX12_secant : MethodName := ⟨RX12, "secant", "(II)I"⟩
abbrev cX12_auto : ByteArray := prog_14_method_19_code
def yX12_auto : MethodName := ⟨RX12, "auto", "(II)I"⟩
abbrev cX12_isBetween : ByteArray := prog_14_method_20_code
def yX12_isBetween : MethodName := ⟨RX12, "isBetween", "(II)Z"⟩
abbrev cX12_monotone : ByteArray := prog_14_method_21_code
def yX12_monotone : MethodName := ⟨RX12, "monotone", "(II)I"⟩
abbrev cX12_slopeOf : ByteArray := prog_14_method_22_code
def yX12_slopeOf : MethodName := ⟨RX12, "slopeOf", "(IIZ)I"⟩
abbrev cX12_inside : ByteArray := prog_14_method_23_code
def yX12_inside : MethodName := ⟨RX12, "inside", "(II)I"⟩
abbrev cX12_valueAt : ByteArray := prog_14_method_24_code
def yX12_valueAt : MethodName := ⟨RX12, "valueAt", "(II)I"⟩
abbrev cX12_value : ByteArray := prog_14_method_25_code
def yX12_value : MethodName := ⟨RX12, "value", "(II)I"⟩
abbrev cX12_isRange : ByteArray := prog_14_method_26_code
def yX12_isRange : MethodName := ⟨RX12, "isRange", "(III)Z"⟩
abbrev cX12_units : ByteArray := prog_14_method_27_code
def yX12_units : MethodName := ⟨RX12, "units", "(II)F"⟩
abbrev cX12_mean : ByteArray := prog_14_method_28_code
def yX12_mean : MethodName := ⟨RX12, "mean", "(III)D"⟩
abbrev cX12_extreme : ByteArray := prog_14_method_29_code
def yX12_extreme : MethodName := ⟨RX12, "extreme", "(IIIZ)I"⟩
abbrev cX12_crossings : ByteArray := prog_14_method_30_code
def yX12_crossings : MethodName := ⟨RX12, "crossings", "(IIII)I"⟩
abbrev cX12_inserts : ByteArray := prog_14_method_31_code
def yX12_inserts : MethodName := ⟨RX12, "inserts", "(IIIIII)I"⟩
abbrev cX12_removes : ByteArray := prog_14_method_32_code
def yX12_removes : MethodName := ⟨RX12, "removes", "(II)V"⟩
abbrev cX12_setKey : ByteArray := prog_14_method_33_code
def yX12_setKey : MethodName := ⟨RX12, "setKey", "(III)I"⟩
abbrev cX12_removeKey : ByteArray := prog_14_method_34_code
def yX12_removeKey : MethodName := ⟨RX12, "removeKey", "(II)I"⟩
abbrev cX12_moveKey : ByteArray := prog_14_method_35_code
def yX12_moveKey : MethodName := ⟨RX12, "moveKey", "(III)I"⟩
abbrev cX12_frees : ByteArray := prog_14_method_36_code
def yX12_frees : MethodName := ⟨RX12, "frees", "(II)V"⟩
abbrev cX12_setMode : ByteArray := prog_14_method_37_code
def yX12_setMode : MethodName := ⟨RX12, "setMode", "(III)I"⟩
abbrev cX12_setSlopes : ByteArray := prog_14_method_38_code
def yX12_setSlopes : MethodName := ⟨RX12, "setSlopes", "(IIII)I"⟩
abbrev cX12_inUnits : ByteArray := prog_14_method_39_code
def yX12_inUnits : MethodName := ⟨RX12, "inUnits", "(J)I"⟩
abbrev cX12_split : ByteArray := prog_14_method_40_code
def yX12_split : MethodName := ⟨RX12, "split", "(II)I"⟩
abbrev cX12_clear : ByteArray := prog_14_method_41_code
def yX12_clear : MethodName := ⟨RX12, "clear", "(I)I"⟩
abbrev cX12_setExtrapolation : ByteArray := prog_14_method_42_code
def yX12_setExtrapolation : MethodName := ⟨RX12, "setExtrapolation", "(III)I"⟩
abbrev cX12_keys : ByteArray := prog_14_method_43_code
def yX12_keys : MethodName := ⟨RX12, "keys", "(I)I"⟩
abbrev cX12_frameOf : ByteArray := prog_14_method_44_code
def yX12_frameOf : MethodName := ⟨RX12, "frameOf", "(II)I"⟩
abbrev cX12_valueOf : ByteArray := prog_14_method_45_code
def yX12_valueOf : MethodName := ⟨RX12, "valueOf", "(II)I"⟩
abbrev cX12_modeOf : ByteArray := prog_14_method_46_code
def yX12_modeOf : MethodName := ⟨RX12, "modeOf", "(II)I"⟩
abbrev cX12_slope : ByteArray := prog_14_method_47_code
def yX12_slope : MethodName := ⟨RX12, "slope", "(IIZ)I"⟩
abbrev cX12_addPoint : ByteArray := prog_14_method_48_code
def yX12_addPoint : MethodName := ⟨RX12, "addPoint", "(II)I"⟩
abbrev cX12_clearMap : ByteArray := prog_14_method_49_code
def yX12_clearMap : MethodName := ⟨RX12, "clearMap", "()I"⟩
abbrev cX12_sent : ByteArray := prog_14_method_50_code
def yX12_sent : MethodName := ⟨RX12, "sent", "(I)I"⟩
abbrev cX12_mapped : ByteArray := prog_14_method_51_code
def yX12_mapped : MethodName := ⟨RX12, "mapped", "(I)I"⟩
abbrev cX12_stretched : ByteArray := prog_14_method_52_code
def yX12_stretched : MethodName := ⟨RX12, "stretched", "(IIZ)I"⟩
abbrev cX12_retime : ByteArray := prog_14_method_53_code
def yX12_retime : MethodName := ⟨RX12, "retime", "(I)I"⟩
abbrev cX12_outside : ByteArray := prog_14_method_54_code
def yX12_outside : MethodName := ⟨RX12, "outside", "(III)I"⟩
abbrev cX12_bakes : ByteArray := prog_14_method_55_code
def yX12_bakes : MethodName := ⟨RX12, "bakes", "(IIII)I"⟩
abbrev cX12_isBaking : ByteArray := prog_14_method_56_code
def yX12_isBaking : MethodName := ⟨RX12, "isBaking", "(III)Z"⟩
abbrev cX12_bake : ByteArray := prog_14_method_57_code
def yX12_bake : MethodName := ⟨RX12, "bake", "(IIII)I"⟩
abbrev cX12_bakeFormula : ByteArray := prog_14_method_58_code
def yX12_bakeFormula : MethodName := ⟨RX12, "bakeFormula", "(IIII)I"⟩
abbrev cX12_apart : ByteArray := prog_14_method_59_code
def yX12_apart : MethodName := ⟨RX12, "apart", "(III)J"⟩
abbrev cX12_lines : ByteArray := prog_14_method_60_code
def yX12_lines : MethodName := ⟨RX12, "lines", "(II)V"⟩
abbrev cX12_polyline : ByteArray := prog_14_method_61_code
def yX12_polyline : MethodName := ⟨RX12, "polyline", "(IIIII)I"⟩
abbrev cX12_error : ByteArray := prog_14_method_62_code
def yX12_error : MethodName := ⟨RX12, "error", "(III)I"⟩
abbrev cX12_takes : ByteArray := prog_14_method_63_code
def yX12_takes : MethodName := ⟨RX12, "takes", "(II)V"⟩
abbrev cX12_gives : ByteArray := prog_14_method_64_code
def yX12_gives : MethodName := ⟨RX12, "gives", "(I)V"⟩
abbrev cX12_decimate : ByteArray := prog_14_method_65_code
def yX12_decimate : MethodName := ⟨RX12, "decimate", "(II)I"⟩
abbrev cX12_append : ByteArray := prog_14_method_66_code
def yX12_append : MethodName := ⟨RX12, "append", "(I)I"⟩
abbrev cX12_clearText : ByteArray := prog_14_method_67_code
def yX12_clearText : MethodName := ⟨RX12, "clearText", "()I"⟩
abbrev cX12_here : ByteArray := prog_14_method_68_code
def yX12_here : MethodName := ⟨RX12, "here", "()I"⟩
abbrev cX12_faults : ByteArray := prog_14_method_69_code
def yX12_faults : MethodName := ⟨RX12, "faults", "(I)V"⟩
abbrev cX12_is : ByteArray := prog_14_method_70_code
def yX12_is : MethodName := ⟨RX12, "is", "(I)Z"⟩
abbrev cX12_must : ByteArray := prog_14_method_71_code
def yX12_must : MethodName := ⟨RX12, "must", "(I)V"⟩
abbrev cX12_number : ByteArray := prog_14_method_72_code
def yX12_number : MethodName := ⟨RX12, "number", "()I"⟩
abbrev cX12_begins : ByteArray := prog_14_method_73_code
def yX12_begins : MethodName := ⟨RX12, "begins", "(ZI)V"⟩
abbrev cX12_opens : ByteArray := prog_14_method_74_code
def yX12_opens : MethodName := ⟨RX12, "opens", "(I)V"⟩
abbrev cX12_closes : ByteArray := prog_14_method_75_code
def yX12_closes : MethodName := ⟨RX12, "closes", "()V"⟩
abbrev cX12_isOver : ByteArray := prog_14_method_76_code
def yX12_isOver : MethodName := ⟨RX12, "isOver", "()Z"⟩
abbrev cX12_goesOn : ByteArray := prog_14_method_77_code
def yX12_goesOn : MethodName := ⟨RX12, "goesOn", "()Z"⟩
abbrev cX12_isValue : ByteArray := prog_14_method_78_code
def yX12_isValue : MethodName := ⟨RX12, "isValue", "()Z"⟩
abbrev cX12_sum : ByteArray := prog_14_method_79_code
def yX12_sum : MethodName := ⟨RX12, "sum", "()I"⟩
abbrev cX12_curveValue : ByteArray := prog_14_method_80_code
def yX12_curveValue : MethodName := ⟨RX12, "curveValue", "(I)I"⟩
abbrev cX12_formulaFault : ByteArray := prog_14_method_81_code
def yX12_formulaFault : MethodName := ⟨RX12, "formulaFault", "()I"⟩
abbrev cX12_mixed : ByteArray := prog_14_method_82_code
def yX12_mixed : MethodName := ⟨RX12, "mixed", "(I)I"⟩
abbrev cX12_modeBy : ByteArray := prog_14_method_83_code
def yX12_modeBy : MethodName := ⟨RX12, "modeBy", "(I)I"⟩
abbrev cX12_key : ByteArray := prog_14_method_84_code
def yX12_key : MethodName := ⟨RX12, "key", "()V"⟩
abbrev cX12_curveFault : ByteArray := prog_14_method_85_code
def yX12_curveFault : MethodName := ⟨RX12, "curveFault", "()I"⟩
abbrev cX12_faultPosition : ByteArray := prog_14_method_86_code
def yX12_faultPosition : MethodName := ⟨RX12, "faultPosition", "(Z)I"⟩
abbrev cX12_readCurve : ByteArray := prog_14_method_87_code
def yX12_readCurve : MethodName := ⟨RX12, "readCurve", "(I)I"⟩
abbrev cX12_readFormula : ByteArray := prog_14_method_88_code
def yX12_readFormula : MethodName := ⟨RX12, "readFormula", "()I"⟩
abbrev cX12_mix : ByteArray := prog_14_method_89_code
def yX12_mix : MethodName := ⟨RX12, "mix", "(I)I"⟩
abbrev cX12_more : ByteArray := prog_14_method_90_code
def yX12_more : MethodName := ⟨RX12, "more", "(JI)J"⟩
abbrev cX12_moreOf : ByteArray := prog_14_method_91_code
def yX12_moreOf : MethodName := ⟨RX12, "moreOf", "(JI)J"⟩
abbrev cX12_checksum : ByteArray := prog_14_method_92_code
def yX12_checksum : MethodName := ⟨RX12, "checksum", "()J"⟩
def RJ9 : String := "java/lang/Math"
def TJ9 : u_T := fun k => match k with
  | _ => ("", "", "", false)
def tyJ9 : Nat → FieldType := fun k => match k with
  | _ => .int
abbrev wsJ90 : List Cond := u_ws RJ9 TJ9 0
theorem nmJ9 : ∀ a, a < 0 → ∀ b, b < 0 → a ≠ b → (TJ9 a).2.1 ≠ (TJ9 b).2.1 := by decide +kernel
theorem tyJ9_ok : ∀ k, k < 0 → parseFieldDescriptor (TJ9 k).2.2.1 = some (tyJ9 k) := by decide +kernel
abbrev cJ9_floorDiv_7cf53 : ByteArray := prog_15_method_47_code
def yJ9_floorDiv_7cf53 : MethodName := ⟨RJ9, "floorDiv", "(II)I"⟩
abbrev cJ9_floorDiv_f86c9 : ByteArray := prog_15_method_49_code
def yJ9_floorDiv_f86c9 : MethodName := ⟨RJ9, "floorDiv", "(JJ)J"⟩
abbrev cJ9_floorMod_7cf53 : ByteArray := prog_15_method_50_code
def yJ9_floorMod_7cf53 : MethodName := ⟨RJ9, "floorMod", "(II)I"⟩
abbrev cJ9_abs_0f7a4 : ByteArray := prog_15_method_59_code
def yJ9_abs_0f7a4 : MethodName := ⟨RJ9, "abs", "(I)I"⟩
abbrev cJ9_abs_067f4 : ByteArray := prog_15_method_61_code
def yJ9_abs_067f4 : MethodName := ⟨RJ9, "abs", "(J)J"⟩
abbrev cJ9_max_7cf53 : ByteArray := prog_15_method_65_code
def yJ9_max_7cf53 : MethodName := ⟨RJ9, "max", "(II)I"⟩
abbrev cJ9_max_f86c9 : ByteArray := prog_15_method_66_code
def yJ9_max_f86c9 : MethodName := ⟨RJ9, "max", "(JJ)J"⟩
abbrev cJ9_min_7cf53 : ByteArray := prog_15_method_69_code
def yJ9_min_7cf53 : MethodName := ⟨RJ9, "min", "(II)I"⟩
abbrev cJ9_min_f86c9 : ByteArray := prog_15_method_70_code
def yJ9_min_f86c9 : MethodName := ⟨RJ9, "min", "(JJ)J"⟩
def RJ10 : String := "java/lang/System"
def TJ10 : u_T := fun k => match k with
  | _ => ("", "", "", false)
def tyJ10 : Nat → FieldType := fun k => match k with
  | _ => .int
abbrev wsJ100 : List Cond := u_ws RJ10 TJ10 0
theorem nmJ10 : ∀ a, a < 0 → ∀ b, b < 0 → a ≠ b → (TJ10 a).2.1 ≠ (TJ10 b).2.1 := by decide +kernel
theorem tyJ10_ok : ∀ k, k < 0 → parseFieldDescriptor (TJ10 k).2.2.1 = some (tyJ10 k) := by decide +kernel
def RL : String := "KeyframeCurvesLaw"
abbrev cL_law : ByteArray := code
def yL_law : MethodName := ⟨RL, "law", "([I)Z"⟩
abbrev vwCl : List vw_C := [(RX0, TX0, 8), (RX1, TX1, 1), (RX2, TX2, 2), (RX3, TX3, 3), (RX4, TX4, 1), (RX5, TX5, 3), (RX6, TX6, 1), (RX7, TX7, 5), (RX8, TX8, 3), (RX9, TX9, 4), (RX10, TX10, 3), (RX11, TX11, 9), (RX12, TX12, 27)]
