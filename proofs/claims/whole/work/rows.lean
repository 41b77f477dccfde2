section
-- ===== PART A: goes FIRST, ahead of the names: the tables' words, and 'selects' of the private methods out of them =====
/-- a private method of a class that the tables say can be made, by its rows of tables_1 -/
def lw_okq (q : MethodName × Nat) : Prop := (q.1.cls ≠ "java/lang/invoke/MethodHandle" ∧ q.1.cls ≠ "java/lang/invoke/VarHandle") ∧ Cond.instantiable q.1.cls q.2 ∈ tables_1 ∧ Cond.privateMethod q.1 ∈ tables_1 ∧ Cond.instanceMethod q.1 ∈ tables_1
theorem lw_p0 : lw_okq (⟨"PlanCertificates$Model", "fillVariable", "(LPlanCertificates$Tape;I)V"⟩, 14) := ⟨⟨by decide +kernel, by decide +kernel⟩, List.mem_of_getElem? (i := 208) (by decide +kernel), List.mem_of_getElem? (i := 326) (by decide +kernel), List.mem_of_getElem? (i := 327) (by decide +kernel)⟩
theorem lw_p1 : lw_okq (⟨"PlanCertificates$Model", "fillTable", "(LPlanCertificates$Tape;I)V"⟩, 14) := ⟨⟨by decide +kernel, by decide +kernel⟩, List.mem_of_getElem? (i := 208) (by decide +kernel), List.mem_of_getElem? (i := 332) (by decide +kernel), List.mem_of_getElem? (i := 333) (by decide +kernel)⟩
theorem lw_p2 : lw_okq (⟨"PlanCertificates", "tellPlan", "()I"⟩, 6) := ⟨⟨by decide +kernel, by decide +kernel⟩, List.mem_of_getElem? (i := 19) (by decide +kernel), List.mem_of_getElem? (i := 369) (by decide +kernel), List.mem_of_getElem? (i := 370) (by decide +kernel)⟩
theorem lw_p3 : lw_okq (⟨"PlanCertificates$Model", "hasPair", "(III)Z"⟩, 14) := ⟨⟨by decide +kernel, by decide +kernel⟩, List.mem_of_getElem? (i := 208) (by decide +kernel), List.mem_of_getElem? (i := 410) (by decide +kernel), List.mem_of_getElem? (i := 411) (by decide +kernel)⟩
theorem lw_p4 : lw_okq (⟨"PlanCertificates$Certificate", "setNumber", "(II)V"⟩, 10) := ⟨⟨by decide +kernel, by decide +kernel⟩, List.mem_of_getElem? (i := 68) (by decide +kernel), List.mem_of_getElem? (i := 436) (by decide +kernel), List.mem_of_getElem? (i := 437) (by decide +kernel)⟩
theorem lw_p5 : lw_okq (⟨"PlanCertificates$Certificate", "judge", "(ILPlanCertificates$Model;LPlanCertificates$Plans;)I"⟩, 10) := ⟨⟨by decide +kernel, by decide +kernel⟩, List.mem_of_getElem? (i := 68) (by decide +kernel), List.mem_of_getElem? (i := 443) (by decide +kernel), List.mem_of_getElem? (i := 444) (by decide +kernel)⟩
theorem lw_p6 : lw_okq (⟨"PlanCertificates$Draft", "wholeLength", "()I"⟩, 2) := ⟨⟨by decide +kernel, by decide +kernel⟩, List.mem_of_getElem? (i := 156) (by decide +kernel), List.mem_of_getElem? (i := 499) (by decide +kernel), List.mem_of_getElem? (i := 500) (by decide +kernel)⟩
theorem lw_p7 : lw_okq (⟨"PlanCertificates$Draft", "fillSum", "(LPlanCertificates$Row;LPlanCertificates$Rows;)I"⟩, 2) := ⟨⟨by decide +kernel, by decide +kernel⟩, List.mem_of_getElem? (i := 156) (by decide +kernel), List.mem_of_getElem? (i := 544) (by decide +kernel), List.mem_of_getElem? (i := 545) (by decide +kernel)⟩
theorem lw_p8 : lw_okq (⟨"PlanCertificates$Draft", "fillBranch", "(LPlanCertificates$Row;)I"⟩, 2) := ⟨⟨by decide +kernel, by decide +kernel⟩, List.mem_of_getElem? (i := 156) (by decide +kernel), List.mem_of_getElem? (i := 580) (by decide +kernel), List.mem_of_getElem? (i := 581) (by decide +kernel)⟩
theorem lw_p9 : lw_okq (⟨"PlanCertificates$Draft", "fillJoined", "(LPlanCertificates$Row;LPlanCertificates$Rows;)I"⟩, 2) := ⟨⟨by decide +kernel, by decide +kernel⟩, List.mem_of_getElem? (i := 156) (by decide +kernel), List.mem_of_getElem? (i := 584) (by decide +kernel), List.mem_of_getElem? (i := 585) (by decide +kernel)⟩
theorem lw_p10 : lw_okq (⟨"PlanCertificates$Draft", "fillBetter", "(LPlanCertificates$Row;LPlanCertificates$Model;LPlanCertificates$Plans;)I"⟩, 2) := ⟨⟨by decide +kernel, by decide +kernel⟩, List.mem_of_getElem? (i := 156) (by decide +kernel), List.mem_of_getElem? (i := 604) (by decide +kernel), List.mem_of_getElem? (i := 605) (by decide +kernel)⟩
theorem lw_p11 : lw_okq (⟨"java/lang/Throwable", "fillInStackTrace", "(I)Ljava/lang/Throwable;"⟩, 6) := ⟨⟨by decide +kernel, by decide +kernel⟩, List.mem_of_getElem? (i := 697) (by decide +kernel), List.mem_of_getElem? (i := 695) (by decide +kernel), List.mem_of_getElem? (i := 696) (by decide +kernel)⟩
theorem lw_p12 : lw_okq (⟨"PlanCertificates", "demandRow", "(I)V"⟩, 6) := ⟨⟨by decide +kernel, by decide +kernel⟩, List.mem_of_getElem? (i := 19) (by decide +kernel), List.mem_of_getElem? (i := 735) (by decide +kernel), List.mem_of_getElem? (i := 736) (by decide +kernel)⟩
theorem lw_p13 : lw_okq (⟨"PlanCertificates$Certificate", "markSources", "(LPlanCertificates$Row;)V"⟩, 10) := ⟨⟨by decide +kernel, by decide +kernel⟩, List.mem_of_getElem? (i := 68) (by decide +kernel), List.mem_of_getElem? (i := 754) (by decide +kernel), List.mem_of_getElem? (i := 755) (by decide +kernel)⟩
theorem lw_p14 : lw_okq (⟨"PlanCertificates$Row", "timesLessCosts", "([I)J"⟩, 11) := ⟨⟨by decide +kernel, by decide +kernel⟩, List.mem_of_getElem? (i := 81) (by decide +kernel), List.mem_of_getElem? (i := 836) (by decide +kernel), List.mem_of_getElem? (i := 837) (by decide +kernel)⟩
theorem lw_p15 : lw_okq (⟨"PlanCertificates$Certificate", "moveNumbers", "(LPlanCertificates$Row;I)I"⟩, 10) := ⟨⟨by decide +kernel, by decide +kernel⟩, List.mem_of_getElem? (i := 68) (by decide +kernel), List.mem_of_getElem? (i := 858) (by decide +kernel), List.mem_of_getElem? (i := 859) (by decide +kernel)⟩
def lw_privs_1 : List (MethodName × Nat) := [(⟨"PlanCertificates$Model", "fillVariable", "(LPlanCertificates$Tape;I)V"⟩, 14), (⟨"PlanCertificates$Model", "fillTable", "(LPlanCertificates$Tape;I)V"⟩, 14), (⟨"PlanCertificates", "tellPlan", "()I"⟩, 6), (⟨"PlanCertificates$Model", "hasPair", "(III)Z"⟩, 14), (⟨"PlanCertificates$Certificate", "setNumber", "(II)V"⟩, 10), (⟨"PlanCertificates$Certificate", "judge", "(ILPlanCertificates$Model;LPlanCertificates$Plans;)I"⟩, 10), (⟨"PlanCertificates$Draft", "wholeLength", "()I"⟩, 2), (⟨"PlanCertificates$Draft", "fillSum", "(LPlanCertificates$Row;LPlanCertificates$Rows;)I"⟩, 2), (⟨"PlanCertificates$Draft", "fillBranch", "(LPlanCertificates$Row;)I"⟩, 2), (⟨"PlanCertificates$Draft", "fillJoined", "(LPlanCertificates$Row;LPlanCertificates$Rows;)I"⟩, 2), (⟨"PlanCertificates$Draft", "fillBetter", "(LPlanCertificates$Row;LPlanCertificates$Model;LPlanCertificates$Plans;)I"⟩, 2), (⟨"java/lang/Throwable", "fillInStackTrace", "(I)Ljava/lang/Throwable;"⟩, 6), (⟨"PlanCertificates", "demandRow", "(I)V"⟩, 6), (⟨"PlanCertificates$Certificate", "markSources", "(LPlanCertificates$Row;)V"⟩, 10), (⟨"PlanCertificates$Row", "timesLessCosts", "([I)J"⟩, 11), (⟨"PlanCertificates$Certificate", "moveNumbers", "(LPlanCertificates$Row;I)I"⟩, 10)]
theorem lw_r1 : ∀ q ∈ lw_privs_1, lw_okq q := List.forall_mem_cons.mpr ⟨lw_p0, List.forall_mem_cons.mpr ⟨lw_p1, List.forall_mem_cons.mpr ⟨lw_p2, List.forall_mem_cons.mpr ⟨lw_p3, List.forall_mem_cons.mpr ⟨lw_p4, List.forall_mem_cons.mpr ⟨lw_p5, List.forall_mem_cons.mpr ⟨lw_p6, List.forall_mem_cons.mpr ⟨lw_p7, List.forall_mem_cons.mpr ⟨lw_p8, List.forall_mem_cons.mpr ⟨lw_p9, List.forall_mem_cons.mpr ⟨lw_p10, List.forall_mem_cons.mpr ⟨lw_p11, List.forall_mem_cons.mpr ⟨lw_p12, List.forall_mem_cons.mpr ⟨lw_p13, List.forall_mem_cons.mpr ⟨lw_p14, List.forall_mem_cons.mpr ⟨lw_p15, fun _ h => absurd h List.not_mem_nil⟩⟩⟩⟩⟩⟩⟩⟩⟩⟩⟩⟩⟩⟩⟩⟩
theorem lw_p16 : lw_okq (⟨"PlanCertificatesModel", "go", "()V"⟩, 40) := ⟨⟨by decide +kernel, by decide +kernel⟩, List.mem_of_getElem? (i := 871) (by decide +kernel), List.mem_of_getElem? (i := 1018) (by decide +kernel), List.mem_of_getElem? (i := 1019) (by decide +kernel)⟩
theorem lw_p17 : lw_okq (⟨"PlanCertificatesModel", "next", "(II)I"⟩, 40) := ⟨⟨by decide +kernel, by decide +kernel⟩, List.mem_of_getElem? (i := 871) (by decide +kernel), List.mem_of_getElem? (i := 1022) (by decide +kernel), List.mem_of_getElem? (i := 1023) (by decide +kernel)⟩
theorem lw_p18 : lw_okq (⟨"PlanCertificatesModel", "forget", "()V"⟩, 40) := ⟨⟨by decide +kernel, by decide +kernel⟩, List.mem_of_getElem? (i := 871) (by decide +kernel), List.mem_of_getElem? (i := 1028) (by decide +kernel), List.mem_of_getElem? (i := 1029) (by decide +kernel)⟩
theorem lw_p19 : lw_okq (⟨"PlanCertificatesModel", "broken", "(I)I"⟩, 40) := ⟨⟨by decide +kernel, by decide +kernel⟩, List.mem_of_getElem? (i := 871) (by decide +kernel), List.mem_of_getElem? (i := 1042) (by decide +kernel), List.mem_of_getElem? (i := 1043) (by decide +kernel)⟩
theorem lw_p20 : lw_okq (⟨"PlanCertificatesModel", "refuses", "(Z)Z"⟩, 40) := ⟨⟨by decide +kernel, by decide +kernel⟩, List.mem_of_getElem? (i := 871) (by decide +kernel), List.mem_of_getElem? (i := 1050) (by decide +kernel), List.mem_of_getElem? (i := 1051) (by decide +kernel)⟩
theorem lw_p21 : lw_okq (⟨"PlanCertificatesModel", "costOf", "(I)J"⟩, 40) := ⟨⟨by decide +kernel, by decide +kernel⟩, List.mem_of_getElem? (i := 871) (by decide +kernel), List.mem_of_getElem? (i := 1054) (by decide +kernel), List.mem_of_getElem? (i := 1055) (by decide +kernel)⟩
theorem lw_p22 : lw_okq (⟨"PlanCertificatesModel", "take", "(I)V"⟩, 40) := ⟨⟨by decide +kernel, by decide +kernel⟩, List.mem_of_getElem? (i := 871) (by decide +kernel), List.mem_of_getElem? (i := 1070) (by decide +kernel), List.mem_of_getElem? (i := 1071) (by decide +kernel)⟩
theorem lw_p23 : lw_okq (⟨"PlanCertificatesModel", "fails", "(III)V"⟩, 40) := ⟨⟨by decide +kernel, by decide +kernel⟩, List.mem_of_getElem? (i := 871) (by decide +kernel), List.mem_of_getElem? (i := 1074) (by decide +kernel), List.mem_of_getElem? (i := 1075) (by decide +kernel)⟩
theorem lw_p24 : lw_okq (⟨"PlanCertificatesModel", "judged", "()I"⟩, 40) := ⟨⟨by decide +kernel, by decide +kernel⟩, List.mem_of_getElem? (i := 871) (by decide +kernel), List.mem_of_getElem? (i := 1078) (by decide +kernel), List.mem_of_getElem? (i := 1079) (by decide +kernel)⟩
theorem lw_p25 : lw_okq (⟨"PlanCertificatesModel", "of", "(I)I"⟩, 40) := ⟨⟨by decide +kernel, by decide +kernel⟩, List.mem_of_getElem? (i := 871) (by decide +kernel), List.mem_of_getElem? (i := 1082) (by decide +kernel), List.mem_of_getElem? (i := 1083) (by decide +kernel)⟩
theorem lw_p26 : lw_okq (⟨"PlanCertificatesModel", "variable", "(I)I"⟩, 40) := ⟨⟨by decide +kernel, by decide +kernel⟩, List.mem_of_getElem? (i := 871) (by decide +kernel), List.mem_of_getElem? (i := 1089) (by decide +kernel), List.mem_of_getElem? (i := 1090) (by decide +kernel)⟩
theorem lw_p27 : lw_okq (⟨"PlanCertificatesModel", "row", "(I)I"⟩, 40) := ⟨⟨by decide +kernel, by decide +kernel⟩, List.mem_of_getElem? (i := 871) (by decide +kernel), List.mem_of_getElem? (i := 1093) (by decide +kernel), List.mem_of_getElem? (i := 1094) (by decide +kernel)⟩
theorem lw_p28 : lw_okq (⟨"PlanCertificatesModel", "isWhole", "()Z"⟩, 40) := ⟨⟨by decide +kernel, by decide +kernel⟩, List.mem_of_getElem? (i := 871) (by decide +kernel), List.mem_of_getElem? (i := 1097) (by decide +kernel), List.mem_of_getElem? (i := 1098) (by decide +kernel)⟩
theorem lw_p29 : lw_okq (⟨"PlanCertificatesModel", "length", "(I)I"⟩, 40) := ⟨⟨by decide +kernel, by decide +kernel⟩, List.mem_of_getElem? (i := 871) (by decide +kernel), List.mem_of_getElem? (i := 1101) (by decide +kernel), List.mem_of_getElem? (i := 1102) (by decide +kernel)⟩
theorem lw_p30 : lw_okq (⟨"PlanCertificatesModel", "works", "()I"⟩, 40) := ⟨⟨by decide +kernel, by decide +kernel⟩, List.mem_of_getElem? (i := 871) (by decide +kernel), List.mem_of_getElem? (i := 1105) (by decide +kernel), List.mem_of_getElem? (i := 1106) (by decide +kernel)⟩
theorem lw_p31 : lw_okq (⟨"PlanCertificatesModel", "says", "(IIJ)V"⟩, 40) := ⟨⟨by decide +kernel, by decide +kernel⟩, List.mem_of_getElem? (i := 871) (by decide +kernel), List.mem_of_getElem? (i := 1109) (by decide +kernel), List.mem_of_getElem? (i := 1110) (by decide +kernel)⟩
def lw_privs_2 : List (MethodName × Nat) := [(⟨"PlanCertificatesModel", "go", "()V"⟩, 40), (⟨"PlanCertificatesModel", "next", "(II)I"⟩, 40), (⟨"PlanCertificatesModel", "forget", "()V"⟩, 40), (⟨"PlanCertificatesModel", "broken", "(I)I"⟩, 40), (⟨"PlanCertificatesModel", "refuses", "(Z)Z"⟩, 40), (⟨"PlanCertificatesModel", "costOf", "(I)J"⟩, 40), (⟨"PlanCertificatesModel", "take", "(I)V"⟩, 40), (⟨"PlanCertificatesModel", "fails", "(III)V"⟩, 40), (⟨"PlanCertificatesModel", "judged", "()I"⟩, 40), (⟨"PlanCertificatesModel", "of", "(I)I"⟩, 40), (⟨"PlanCertificatesModel", "variable", "(I)I"⟩, 40), (⟨"PlanCertificatesModel", "row", "(I)I"⟩, 40), (⟨"PlanCertificatesModel", "isWhole", "()Z"⟩, 40), (⟨"PlanCertificatesModel", "length", "(I)I"⟩, 40), (⟨"PlanCertificatesModel", "works", "()I"⟩, 40), (⟨"PlanCertificatesModel", "says", "(IIJ)V"⟩, 40)]
theorem lw_r2 : ∀ q ∈ lw_privs_2, lw_okq q := List.forall_mem_cons.mpr ⟨lw_p16, List.forall_mem_cons.mpr ⟨lw_p17, List.forall_mem_cons.mpr ⟨lw_p18, List.forall_mem_cons.mpr ⟨lw_p19, List.forall_mem_cons.mpr ⟨lw_p20, List.forall_mem_cons.mpr ⟨lw_p21, List.forall_mem_cons.mpr ⟨lw_p22, List.forall_mem_cons.mpr ⟨lw_p23, List.forall_mem_cons.mpr ⟨lw_p24, List.forall_mem_cons.mpr ⟨lw_p25, List.forall_mem_cons.mpr ⟨lw_p26, List.forall_mem_cons.mpr ⟨lw_p27, List.forall_mem_cons.mpr ⟨lw_p28, List.forall_mem_cons.mpr ⟨lw_p29, List.forall_mem_cons.mpr ⟨lw_p30, List.forall_mem_cons.mpr ⟨lw_p31, fun _ h => absurd h List.not_mem_nil⟩⟩⟩⟩⟩⟩⟩⟩⟩⟩⟩⟩⟩⟩⟩⟩
theorem lw_p32 : lw_okq (⟨"PlanCertificatesModel", "table", "(I)V"⟩, 40) := ⟨⟨by decide +kernel, by decide +kernel⟩, List.mem_of_getElem? (i := 871) (by decide +kernel), List.mem_of_getElem? (i := 1114) (by decide +kernel), List.mem_of_getElem? (i := 1115) (by decide +kernel)⟩
theorem lw_p33 : lw_okq (⟨"PlanCertificatesModel", "assumes", "(III)V"⟩, 40) := ⟨⟨by decide +kernel, by decide +kernel⟩, List.mem_of_getElem? (i := 871) (by decide +kernel), List.mem_of_getElem? (i := 1118) (by decide +kernel), List.mem_of_getElem? (i := 1119) (by decide +kernel)⟩
theorem lw_p34 : lw_okq (⟨"PlanCertificatesModel", "divides", "(I)I"⟩, 40) := ⟨⟨by decide +kernel, by decide +kernel⟩, List.mem_of_getElem? (i := 871) (by decide +kernel), List.mem_of_getElem? (i := 1122) (by decide +kernel), List.mem_of_getElem? (i := 1123) (by decide +kernel)⟩
theorem lw_p35 : lw_okq (⟨"PlanCertificatesModel", "joins", "(I)I"⟩, 40) := ⟨⟨by decide +kernel, by decide +kernel⟩, List.mem_of_getElem? (i := 871) (by decide +kernel), List.mem_of_getElem? (i := 1129) (by decide +kernel), List.mem_of_getElem? (i := 1130) (by decide +kernel)⟩
theorem lw_p36 : lw_okq (⟨"PlanCertificatesModel", "kind", "(I)I"⟩, 40) := ⟨⟨by decide +kernel, by decide +kernel⟩, List.mem_of_getElem? (i := 871) (by decide +kernel), List.mem_of_getElem? (i := 1133) (by decide +kernel), List.mem_of_getElem? (i := 1134) (by decide +kernel)⟩
theorem lw_p37 : lw_okq (⟨"PlanCertificatesModel", "isImpossible", "(I)Z"⟩, 40) := ⟨⟨by decide +kernel, by decide +kernel⟩, List.mem_of_getElem? (i := 871) (by decide +kernel), List.mem_of_getElem? (i := 1137) (by decide +kernel), List.mem_of_getElem? (i := 1138) (by decide +kernel)⟩
theorem lw_p38 : lw_okq (⟨"PlanCertificatesModel", "pushes", "(I)I"⟩, 40) := ⟨⟨by decide +kernel, by decide +kernel⟩, List.mem_of_getElem? (i := 871) (by decide +kernel), List.mem_of_getElem? (i := 1141) (by decide +kernel), List.mem_of_getElem? (i := 1142) (by decide +kernel)⟩
theorem lw_p39 : lw_okq (⟨"PlanCertificatesModel", "isGreat", "(I)Z"⟩, 40) := ⟨⟨by decide +kernel, by decide +kernel⟩, List.mem_of_getElem? (i := 871) (by decide +kernel), List.mem_of_getElem? (i := 1145) (by decide +kernel), List.mem_of_getElem? (i := 1146) (by decide +kernel)⟩
theorem lw_p40 : lw_okq (⟨"PlanCertificatesModel", "assumptions", "(I)I"⟩, 40) := ⟨⟨by decide +kernel, by decide +kernel⟩, List.mem_of_getElem? (i := 871) (by decide +kernel), List.mem_of_getElem? (i := 1159) (by decide +kernel), List.mem_of_getElem? (i := 1160) (by decide +kernel)⟩
theorem lw_p41 : lw_okq (⟨"PlanCertificatesModel", "need", "(I)I"⟩, 40) := ⟨⟨by decide +kernel, by decide +kernel⟩, List.mem_of_getElem? (i := 871) (by decide +kernel), List.mem_of_getElem? (i := 1163) (by decide +kernel), List.mem_of_getElem? (i := 1164) (by decide +kernel)⟩
theorem lw_p42 : lw_okq (⟨"PlanCertificatesModel", "sum", "(II)J"⟩, 40) := ⟨⟨by decide +kernel, by decide +kernel⟩, List.mem_of_getElem? (i := 871) (by decide +kernel), List.mem_of_getElem? (i := 1175) (by decide +kernel), List.mem_of_getElem? (i := 1176) (by decide +kernel)⟩
theorem lw_p43 : lw_okq (⟨"PlanCertificatesModel", "proof", "(Z)I"⟩, 40) := ⟨⟨by decide +kernel, by decide +kernel⟩, List.mem_of_getElem? (i := 871) (by decide +kernel), List.mem_of_getElem? (i := 1183) (by decide +kernel), List.mem_of_getElem? (i := 1184) (by decide +kernel)⟩
theorem lw_p44 : lw_okq (⟨"PlanCertificatesModel", "times", "(I)J"⟩, 40) := ⟨⟨by decide +kernel, by decide +kernel⟩, List.mem_of_getElem? (i := 871) (by decide +kernel), List.mem_of_getElem? (i := 1195) (by decide +kernel), List.mem_of_getElem? (i := 1196) (by decide +kernel)⟩
def lw_privs_3 : List (MethodName × Nat) := [(⟨"PlanCertificatesModel", "table", "(I)V"⟩, 40), (⟨"PlanCertificatesModel", "assumes", "(III)V"⟩, 40), (⟨"PlanCertificatesModel", "divides", "(I)I"⟩, 40), (⟨"PlanCertificatesModel", "joins", "(I)I"⟩, 40), (⟨"PlanCertificatesModel", "kind", "(I)I"⟩, 40), (⟨"PlanCertificatesModel", "isImpossible", "(I)Z"⟩, 40), (⟨"PlanCertificatesModel", "pushes", "(I)I"⟩, 40), (⟨"PlanCertificatesModel", "isGreat", "(I)Z"⟩, 40), (⟨"PlanCertificatesModel", "assumptions", "(I)I"⟩, 40), (⟨"PlanCertificatesModel", "need", "(I)I"⟩, 40), (⟨"PlanCertificatesModel", "sum", "(II)J"⟩, 40), (⟨"PlanCertificatesModel", "proof", "(Z)I"⟩, 40), (⟨"PlanCertificatesModel", "times", "(I)J"⟩, 40)]
theorem lw_r3 : ∀ q ∈ lw_privs_3, lw_okq q := List.forall_mem_cons.mpr ⟨lw_p32, List.forall_mem_cons.mpr ⟨lw_p33, List.forall_mem_cons.mpr ⟨lw_p34, List.forall_mem_cons.mpr ⟨lw_p35, List.forall_mem_cons.mpr ⟨lw_p36, List.forall_mem_cons.mpr ⟨lw_p37, List.forall_mem_cons.mpr ⟨lw_p38, List.forall_mem_cons.mpr ⟨lw_p39, List.forall_mem_cons.mpr ⟨lw_p40, List.forall_mem_cons.mpr ⟨lw_p41, List.forall_mem_cons.mpr ⟨lw_p42, List.forall_mem_cons.mpr ⟨lw_p43, List.forall_mem_cons.mpr ⟨lw_p44, fun _ h => absurd h List.not_mem_nil⟩⟩⟩⟩⟩⟩⟩⟩⟩⟩⟩⟩⟩
def lw_privs : List (MethodName × Nat) := lw_privs_1 ++ (lw_privs_2 ++ (lw_privs_3))
def lw_tbl : List Cond := k2_sels lw_privs ++ tables_1
theorem lw_privs_ok : ∀ q ∈ lw_privs, lw_okq q := by
  show ∀ q ∈ lw_privs_1 ++ (lw_privs_2 ++ (lw_privs_3)), lw_okq q
  exact List.forall_mem_append.mpr ⟨lw_r1, List.forall_mem_append.mpr ⟨lw_r2, lw_r3⟩⟩
end
section
/-! ===== BEGIN words of one list among another's, by their places ===== -/
theorem goodIn_r {big : List Cond} (ws : List Cond) (ps : List Nat) (hp : ws = ps.filterMap (fun i => big[i]?)) (h : ws.all goodWord = true) : GoodIn big ws := by
  intro w hw
  have h1 := List.all_eq_true.mp h w hw
  rw [hp] at hw
  obtain ⟨i, -, hi⟩ := List.mem_filterMap.mp hw
  have hm : w ∈ big := by first | exact List.mem_of_getElem? hi | exact List.getElem?_mem hi
  exact ⟨hm, good_of_word h1⟩
theorem goodIn_app {big a b : List Cond} (ha : GoodIn big a) (hb : GoodIn big b) : GoodIn big (a ++ b) := fun w h => (List.mem_append.mp h).elim (ha w) (hb w)
theorem goodIn_ca {big a b : List Cond} {c : Cond} (ha : GoodIn big (c :: a)) (hb : GoodIn big b) : GoodIn big (c :: (a ++ b)) := fun w h => (List.mem_cons.mp h).elim (fun e => ha w (List.mem_cons.mpr (Or.inl e))) (fun h => (List.mem_append.mp h).elim (fun h => ha w (List.mem_cons.mpr (Or.inr h))) (hb w))
theorem goodIn_sub {big ws : List Cond} (hm : ∀ w ∈ ws, w ∈ big) (h : ws.all goodWord = true) : GoodIn big ws := fun w hw => ⟨hm w hw, good_of_word (List.all_eq_true.mp h w hw)⟩
/-! ===== END ===== -/


/-! ===== BEGIN exceptions that leave a method, and their catching by the caller (launches without stack traces) ===== -/
section VXA
/-! The laws vx_back, vx_callV, vx_callS, vx_callSW, vx_throw0, vx_throwS follow proofs of the library, with one case more: JvmDerived/Free/Laws.lean (Back.of_free), Shelf42/LK1.lean (callV, callS), Shelf/KitTraced.lean (throwNew0V, throwNewS). -/
/-- where a method has thrown q: the class by its name, the cell, what was written, the world -/
def vx_T (XC : String → State → State → Prop) (st : State) (q : Addr) (t : State) (mc ms : Nat) (free : Addr → Prop) : Prop :=
  ∃ (E : String) (ce : Cell) (L : List Loc), XC E st t ∧ t.heap[q]? = some ce ∧ ce.vm = .none ∧ st.vm.findClass E = some ce.cls ∧ st.WarmedH t.vm ∧ st.sameButNew ({ t with vm := st.vm } : State) L mc ms ∧ ∀ z ∈ L, free z.base
def vx_Q (Qc : Array Value → State → Outcome → State → Prop) (XC : String → State → State → Prop) (mc ms : Nat) (free : Addr → Prop) : Array Value → State → Outcome → State → Prop := fun a st o t =>
  (Qc a st o t ∧ ∃ L, FrameEnd st o t L mc ms ∧ ∀ q ∈ L, free q.base) ∨ ∃ q, o = .threw q ∧ vx_T XC st q t mc ms free
/-- a callee that returns or throws -/
def vx_Met (l : Launch) (y : MethodName) (ws : List Cond) (rm : Room) (Pc : Array Value → State → Prop) (Qc : Array Value → State → Outcome → State → Prop) (XC : String → State → State → Prop) (mc ms : Nat) (free : Addr → Prop) : Prop :=
  MetFree l y (headSpec ws rm) Pc (fun _ _ _ _ _ => True) (vx_Q Qc XC mc ms free)
def vx_Post (XC : String → State → State → Prop) (mc ms : Nat) (free : Addr → Prop) : Pt → Array Value → Addr → Pt → Prop := fun A a q B =>
  ∃ (g : JFrame) (mk : MethodId) (t : State) (L : List Loc) (E : String) (ce : Cell), B.U.heap = t.heap ∧ B.U.vm = t.vm ∧ XC E (A.U.calling g mk a) t ∧ t.heap[q]? = some ce ∧ ce.vm = .none ∧ A.U.vm.findClass E = some ce.cls ∧ B.locs = A.locs ++ L ∧ (∀ z ∈ L, free z.base) ∧ B.cells = A.cells + mc ∧ B.slots = A.slots + ms
def vx_Back (l : Launch) (R : Room) (p : Program) (e : Env) (below : List Frame) (s : State) (sargs : Array Value) (y : MethodName) (len W9 : Nat)
    (Pre : Pt → Array Value → Prop) (Post : Pt → Array Value → Option Value → Pt → Prop) (PostX : Pt → Array Value → Addr → Pt → Prop) : Prop :=
  ∀ (m : MethodId) (meth : Method) (c : Code) (A : Pt) (g : JFrame) (ig : Instr) (mk : MethodId) (a : Array Value),
    Stand p l e R s m sargs below meth c A.U A.locs A.cells A.slots → g.method = m → g.locals.size = c.maxLocals → decode c.code g.pc = .ok (ig, len) →
    2 * g.monitorRoom + (g.stack.map fun v => v.category).sum ≤ W9 → A.U.methodNamed? y = some mk → Pre A a →
    (∃ (v : Option Value) (B : Pt), Stand p l e R s m sargs below meth c B.U B.locs B.cells B.slots ∧ Post A a v B ∧
      Steps p.tables e below (doInvoke e (A.U.setTop g) [] mk a).1 (B.U.setTop { g with pc := g.pc + len, stack := v.toList ++ g.stack })) ∨
    (∃ (q : Addr) (B : Pt), Stand p l e R s m sargs below meth c B.U B.locs B.cells B.slots ∧ PostX A a q B ∧
      Steps p.tables e below (doInvoke e (A.U.setTop g) [] mk a).1 ((B.U.setTop g).pushFrame (.throwing q)))
section Payer
variable {l : Launch} {R : Room} {p : Program} {e : Env} {below : List Frame} {s : State} {sargs : Array Value} {y : MethodName} {len W9 : Nat}
theorem vx_back {ws : List Cond} {rm : Room} {Pc : Array Value → State → Prop} {Qc : Array Value → State → Outcome → State → Prop} {XC : String → State → State → Prop} {mc ms : Nat} {free : Addr → Prop} {bytes : ByteArray} {maxL : Nat} {ret : Option FieldType}
    (hM : vx_Met l y ws rm Pc Qc XC mc ms free) (hblind : FrameBlind Pc) (hrc : rm.cells = mc) (hrs : rm.slots = ms)
    (hframes : rm.frames + 1 ≤ R.frames) (hlocals : W9 + (maxL + 11) + rm.locals ≤ R.locals)
    (hws : ∀ w ∈ ws, ∀ a' U, s.WarmedH U.vm → w.before a' U = true) (hcode : Cond.code y bytes maxL ret ∈ ws) (hinit : ∀ a' U, s.WarmedH U.vm → (Cond.initialized y.cls).before a' U = true) :
    vx_Back l R p e below s sargs y len W9 (PreOf R mc ms Pc) (PostOf Qc mc ms free) (vx_Post XC mc ms free) := by
  intro m meth c A g ig mk a X hg hsize hdg hW hn hp
  have h1 : (headSpec ws rm).pre.before a A.U = true := atoms_intro fun w hw => hws w hw _ _ X.warmed
  have h2 : (Cond.code y bytes maxL ret).before a A.U = true := hws _ hcode _ _ X.warmed
  have h3 : (Cond.initialized y.cls).before a A.U = true := hinit _ _ X.warmed
  have h4 : A.cells + (headSpec ws rm).room.cells ≤ R.cells := by rw [show (headSpec ws rm).room.cells = mc from hrc]; exact hp.1
  have h5 : A.slots + (headSpec ws rm).room.slots ≤ R.slots := by rw [show (headSpec ws rm).room.slots = ms from hrs]; exact hp.2.1
  have hPc : Pc a (A.U.calling g mk a) := hblind _ _ _ _ hp.2.2
  obtain ⟨U, Ls, c0, s0⟩ := A
  dsimp only [Pt.U, Pt.locs, Pt.cells, Pt.slots] at h1 h2 h3 h4 h5 X hn hPc ⊢
  obtain ⟨methY, cY, hmY, hcY, -, hlY, -, -, -, -⟩ := Cond.code_spec hn h2
  obtain ⟨kY, hkY, -⟩ := className_of_methodNamed hn
  have hinitY : kY.init = .initialized := Cond.initialized_spec (findClass_of_methodNamed hn) hkY h3
  have h : At U g.method c below := by rw [hg]; exact X.here
  have hlocals9 : W9 + (maxL + 11) + (headSpec ws rm).room.locals ≤ R.locals := hlocals
  have happ : (headSpec ws rm).appliesLoose y e.platform (U.calling g mk a) = true :=
    Spec.appliesLoose_calling (g := g) h hdg hn hkY hinitY
      (X.room_calling (g := g) (R' := (headSpec ws rm).room) hsize hmY hcY hframes (by rw [hlY]; omega) h4 h5) h1
  obtain ⟨mid, hmid⟩ := h.above
  have hfr : (U.setTop g).frames = (.java g :: mid) ++ below := by rw [State.frames_setTop' g h.top, hmid]; rfl
  obtain ⟨o, s₂, hsteps, -, hend, hq⟩ := Steps.callFree hM p X.admits X.cas X.clock (acts := []) hfr happ hPc trivial
  have hq' : vx_Q Qc XC mc ms free a (U.calling g mk a) o s₂ := hq
  rw [State.frames_setTop' g h.top] at hend
  obtain ⟨g₀, hg0⟩ := Option.isSome_iff_exists.mp h.top
  obtain ⟨r, hr⟩ := State.topJava?_eq_some.mp hg0
  have hr' : (({ U with heap := s₂.heap, slotsUsed := s₂.slotsUsed } : State).setVm s₂.vm).frames = .java g₀ :: r := hr
  rcases hq' with ⟨hqc, L, hfe, hL⟩ | ⟨q, rfl, E, ce, L, hx, hce, hcv, hcl, hW₂, hsm, hL⟩
  · obtain ⟨⟨v, rfl⟩, hW₂, e2, q2, q3, q4, q5, q6⟩ := id hfe
    have e3 : s₂ = ({ (U.calling g mk a).setFrames s₂.frames with heap := s₂.heap, slotsUsed := s₂.slotsUsed } : State).setVm s₂.vm := by
      have : s₂ = ({ s₂ with vm := (U.calling g mk a).vm } : State).setVm s₂.vm := rfl
      rw [e2] at this
      exact this
    obtain ⟨c₂, i₂, len₂, hc₂, hd₂, hf₂⟩ := hend
    have hW' : U.WarmedH s₂.vm := hW₂
    have hcc : c₂ = c := by
      have h1 : s₂.code? g.method = U.code? g.method := by
        rw [State.code?_eq, State.code?_eq, hW'.alike.method?]
      exact Option.some.inj (hc₂.symm.trans (h1.trans h.code))
    subst hcc
    have hlen : len₂ = len := by rw [hdg] at hd₂; cases hd₂; rfl
    subst hlen
    have hs₂ : s₂ = (({ U with heap := s₂.heap, slotsUsed := s₂.slotsUsed } : State).setVm s₂.vm).setTop { g with pc := g.pc + len₂, stack := v.toList ++ g.stack } := by
      refine e3.trans ?_
      rw [hf₂, State.calling_eq h.top, State.setFrames_setFrames, State.setTop_of_frames _ hr', hr]
      rfl
    have hsame : U.sameButNew ({ U with heap := s₂.heap, slotsUsed := s₂.slotsUsed } : State) L mc ms := by
      refine ⟨?_, q2, q3, q4, q5, q6⟩
      obtain ⟨t, ht, -⟩ := State.frames_cons hr
      show ({ U with heap := s₂.heap, slotsUsed := s₂.slotsUsed } : State) = { U.setFrames U.frames with heap := s₂.heap, slotsUsed := s₂.slotsUsed }
      rw [State.setFrames_self ht]
    subst hg
    refine Or.inl ⟨v, ⟨(({ U with heap := s₂.heap, slotsUsed := s₂.slotsUsed } : State).setVm s₂.vm), Ls ++ L, c0 + mc, s0 + ms⟩,
      ⟨X.admits, X.cas, X.clock, X.frames, X.room, X.hears, X.method, X.code, (X.here.setHeapUsed s₂.heap s₂.slotsUsed).setVm hW'.alike, X.tail, State.WarmedH.trans X.warmed hW', X.limits, X.bytes, X.same.trans (hsame.setVm s.vm)⟩,
      ⟨g, mk, s₂, L, rfl, rfl, hqc, rfl, hL, rfl, rfl⟩, ?_⟩
    show Steps p.tables e below _ ((({ U with heap := s₂.heap, slotsUsed := s₂.slotsUsed } : State).setVm s₂.vm).setTop { g with pc := g.pc + len₂, stack := v.toList ++ g.stack })
    rw [← hs₂]
    exact hsteps
  · obtain ⟨e2, q2, q3, q4, q5, q6⟩ := id hsm
    have e3 : s₂ = ({ (U.calling g mk a).setFrames s₂.frames with heap := s₂.heap, slotsUsed := s₂.slotsUsed } : State).setVm s₂.vm := by
      have : s₂ = ({ s₂ with vm := (U.calling g mk a).vm } : State).setVm s₂.vm := rfl
      rw [e2] at this
      exact this
    have hf₂ : s₂.frames = .throwing q :: .java g :: U.frames.tail := hend
    have hW' : U.WarmedH s₂.vm := hW₂
    have hs₂ : s₂ = ((({ U with heap := s₂.heap, slotsUsed := s₂.slotsUsed } : State).setVm s₂.vm).setTop g).pushFrame (.throwing q) := by
      refine e3.trans ?_
      rw [hf₂, State.calling_eq h.top, State.setFrames_setFrames, State.pushFrame, State.frames_setTop _ hr', State.setTop_of_frames _ hr', State.setFrames_setFrames, hr]
      rfl
    have hsame : U.sameButNew ({ U with heap := s₂.heap, slotsUsed := s₂.slotsUsed } : State) L mc ms := by
      refine ⟨?_, q2, q3, q4, q5, q6⟩
      obtain ⟨t, ht, -⟩ := State.frames_cons hr
      show ({ U with heap := s₂.heap, slotsUsed := s₂.slotsUsed } : State) = { U.setFrames U.frames with heap := s₂.heap, slotsUsed := s₂.slotsUsed }
      rw [State.setFrames_self ht]
    subst hg
    refine Or.inr ⟨q, ⟨(({ U with heap := s₂.heap, slotsUsed := s₂.slotsUsed } : State).setVm s₂.vm), Ls ++ L, c0 + mc, s0 + ms⟩,
      ⟨X.admits, X.cas, X.clock, X.frames, X.room, X.hears, X.method, X.code, (X.here.setHeapUsed s₂.heap s₂.slotsUsed).setVm hW'.alike, X.tail, State.WarmedH.trans X.warmed hW', X.limits, X.bytes, X.same.trans (hsame.setVm s.vm)⟩,
      ⟨g, mk, s₂, L, E, ce, rfl, rfl, hx, hce, hcv, hcl, rfl, hL, rfl, rfl⟩, ?_⟩
    show Steps p.tables e below _ (((({ U with heap := s₂.heap, slotsUsed := s₂.slotsUsed } : State).setVm s₂.vm).setTop g).pushFrame (.throwing q))
    rw [← hs₂]
    exact hsteps
end Payer
section Calls
variable {p : Program} {l : Launch} {e : Env} {R : Room} {s : State} {m : MethodId} {args : Array Value} {below : List Frame} {meth : Method} {c : Code} {T : State} {locs : List Loc} {cells slots : Nat}
theorem vx_callV (X : Stand p l e R s m args below meth c T locs cells slots) (hexec : p.tables.exec = Jvm.exec) {own C : String} {index : Nat} {y : MethodName} {bytes : ByteArray} {maxL : Nat} {ret : Option FieldType}
    (hown : s.vm.findClass own = some m.cls) (hlink : (Cond.methodLink own index y).before args s = true) (hinst : (Cond.instanceMethod y).before args s = true) (hsel : (Cond.selects C y y).before args s = true)
    (hcode : (Cond.code y bytes maxL ret).before args s = true) (hy : y.cls ≠ "java/lang/invoke/MethodHandle" ∧ y.cls ≠ "java/lang/invoke/VarHandle")
    {W9 : Nat} {Pre : Pt → Array Value → Prop} {Post : Pt → Array Value → Option Value → Pt → Prop} {PostX : Pt → Array Value → Addr → Pt → Prop} (hK : vx_Back l R p e below s args y 3 W9 Pre Post PostX)
    {b : Addr} {cellB : Cell} (hcell : T.heap[b]? = some cellB) (hobj : cellB.vm.isStatics = false) (hcls : s.vm.findClass C = some cellB.cls)
    {g : JFrame} (hg : g.method = m) (hsize : g.locals.size = c.maxLocals) {argsL rest : List Value} (hlen : ∀ sig, parseMethodDescriptor y.desc = some sig → argsL.length = sig.parameters.length)
    (hstack : g.stack = argsL.reverse ++ .ref b :: rest) (hW : 2 * g.monitorRoom + (rest.map fun v => v.category).sum ≤ W9) (hdg : decode c.code g.pc = .ok (.invokevirtual index, 3))
    (hpre : ∀ vm₁, s.WarmedH vm₁ → Pre ⟨T.setVm vm₁, locs, cells, slots⟩ (Value.ref b :: argsL).toArray) :
    (∃ (v : Option Value) (vm₁ : Vm) (B : Pt), s.WarmedH vm₁ ∧ Stand p l e R s m args below meth c B.U B.locs B.cells B.slots ∧ Post ⟨T.setVm vm₁, locs, cells, slots⟩ (Value.ref b :: argsL).toArray v B ∧
      ∀ target, Steps p.tables e below (B.U.setTop { g with pc := g.pc + 3, stack := v.toList ++ rest }) target → Steps p.tables e below (T.setTop g) target) ∨
    (∃ (q : Addr) (vm₁ : Vm) (B : Pt), s.WarmedH vm₁ ∧ Stand p l e R s m args below meth c B.U B.locs B.cells B.slots ∧ PostX ⟨T.setVm vm₁, locs, cells, slots⟩ (Value.ref b :: argsL).toArray q B ∧
      Steps p.tables e below (T.setTop g) ((B.U.setTop { g with stack := rest }).pushFrame (.throwing q))) := by
  obtain ⟨mk, methM, hnamed, hmethM, hstM, habM⟩ := Cond.instanceMethod_spec hinst
  obtain ⟨methM', cM, hmethM', -, -, -, -, -, -, hsigM⟩ := Cond.code_spec hnamed hcode
  cases hmethM.symm.trans hmethM'
  obtain ⟨c2, r2, m2, q1, q2, q3, q4, kP, hkP, hkPi⟩ := Cond.selects_spec hsel
  cases hcls.symm.trans q1
  cases (State.methodFound?_of_named hnamed hy).symm.trans q2
  cases hnamed.symm.trans q3
  have hselP : selectMethod e.platform s.vm cellB.cls mk = .method mk := by rw [Launch.admits_selectMethod X.admits]; exact q4
  obtain ⟨vm₁, X₁, hstep₁⟩ := X.invokevirtual hexec hown hlink hnamed hmethM hstM hkP hkPi hy (a := b) (cell := cellB) hcell
    (fun z h => by rw [h] at hobj; cases hobj) hselP hmethM habM hkP hkPi (g := g) hg (argsL := argsL) (rest := rest) (hlen _ hsigM) hstack hdg
  rcases hK m meth c ⟨T.setVm vm₁, locs, cells, slots⟩ { g with stack := rest } (.invokevirtual index) mk (Value.ref b :: argsL).toArray X₁ hg hsize hdg hW (X₁.named hnamed) (hpre vm₁ X₁.warmed) with ⟨v, B, X', hpost, hsteps⟩ | ⟨q, B, X', hpost, hsteps⟩
  · exact Or.inl ⟨v, vm₁, B, X₁.warmed, X', hpost, fun target h => hstep₁ _ fun acts => by rw [doInvoke_state]; exact hsteps.trans h⟩
  · exact Or.inr ⟨q, vm₁, B, X₁.warmed, X', hpost, hstep₁ _ fun acts => by rw [doInvoke_state]; exact hsteps⟩
theorem vx_callS (X : Stand p l e R s m args below meth c T locs cells slots) (hexec : p.tables.exec = Jvm.exec) {own : String} {index : Nat} {y : MethodName} {bytes : ByteArray} {maxL : Nat} {ret : Option FieldType}
    (hown : s.vm.findClass own = some m.cls) (hlink : (Cond.methodLink own index y).before args s = true) (hstat : (Cond.static y).before args s = true) (hinit : (Cond.initialized y.cls).before args s = true)
    (hcode : (Cond.code y bytes maxL ret).before args s = true) (hy : y.cls ≠ "java/lang/invoke/MethodHandle" ∧ y.cls ≠ "java/lang/invoke/VarHandle")
    {W9 : Nat} {Pre : Pt → Array Value → Prop} {Post : Pt → Array Value → Option Value → Pt → Prop} {PostX : Pt → Array Value → Addr → Pt → Prop} (hK : vx_Back l R p e below s args y 3 W9 Pre Post PostX)
    {g : JFrame} (hg : g.method = m) (hsize : g.locals.size = c.maxLocals) {argsL rest : List Value} (hlen : ∀ sig, parseMethodDescriptor y.desc = some sig → argsL.length = sig.parameters.length)
    (hstack : g.stack = argsL.reverse ++ rest) (hW : 2 * g.monitorRoom + (rest.map fun v => v.category).sum ≤ W9) (hdg : decode c.code g.pc = .ok (.invokestatic index, 3))
    (hpre : ∀ vm₁, s.WarmedH vm₁ → Pre ⟨T.setVm vm₁, locs, cells, slots⟩ argsL.toArray) :
    (∃ (v : Option Value) (vm₁ : Vm) (B : Pt), s.WarmedH vm₁ ∧ Stand p l e R s m args below meth c B.U B.locs B.cells B.slots ∧ Post ⟨T.setVm vm₁, locs, cells, slots⟩ argsL.toArray v B ∧
      ∀ target, Steps p.tables e below (B.U.setTop { g with pc := g.pc + 3, stack := v.toList ++ rest }) target → Steps p.tables e below (T.setTop g) target) ∨
    (∃ (q : Addr) (vm₁ : Vm) (B : Pt), s.WarmedH vm₁ ∧ Stand p l e R s m args below meth c B.U B.locs B.cells B.slots ∧ PostX ⟨T.setVm vm₁, locs, cells, slots⟩ argsL.toArray q B ∧
      Steps p.tables e below (T.setTop g) ((B.U.setTop { g with stack := rest }).pushFrame (.throwing q))) := by
  obtain ⟨mk, hnamed⟩ := Cond.code_named hcode
  obtain ⟨methM, cM, hmethM, -, -, -, -, -, -, hsigM⟩ := Cond.code_spec hnamed hcode
  have hstatic : methM.isStatic = true := Cond.static_spec hnamed hmethM hstat
  obtain ⟨kP, hkP, -⟩ := className_of_methodNamed hnamed
  have hinitP : kP.init = .initialized := Cond.initialized_spec (findClass_of_methodNamed hnamed) hkP hinit
  obtain ⟨vm₁, X₁, hstep₁⟩ := X.invokestatic hexec hown hlink hnamed hmethM hstatic hkP hinitP hy (g := g) hg (argsL := argsL) (rest := rest) (hlen _ hsigM) hstack hdg
  rcases hK m meth c ⟨T.setVm vm₁, locs, cells, slots⟩ { g with stack := rest } (.invokestatic index) mk argsL.toArray X₁ hg hsize hdg hW (X₁.named hnamed) (hpre vm₁ X₁.warmed) with ⟨v, B, X', hpost, hsteps⟩ | ⟨q, B, X', hpost, hsteps⟩
  · exact Or.inl ⟨v, vm₁, B, X₁.warmed, X', hpost, fun target h => hstep₁ _ fun acts => by rw [doInvoke_state]; exact hsteps.trans h⟩
  · exact Or.inr ⟨q, vm₁, B, X₁.warmed, X', hpost, hstep₁ _ fun acts => by rw [doInvoke_state]; exact hsteps⟩
end Calls
theorem vx_cls {s : State} {T : State} {vm₁ : Vm} {E : String} {k : ClassId} (hW : s.WarmedH vm₁) (h : (T.setVm vm₁).vm.findClass E = some k) : s.vm.findClass E = some k := by
  have h1 : vm₁.findClass E = some k := h
  rw [hW.alike.findClass] at h1
  exact h1
/-- the method's frame g, with q thrown over it -/
def vx_W (p : Program) (l : Launch) (e : Env) (R : Room) (s : State) (m : MethodId) (args : Array Value) (below : List Frame) (meth : Method) (c : Code) (H : Heap) (locs : List Loc) (cells slots : Nat) (Q : State → Prop) (g : JFrame) (q : Addr) : Prop :=
  ∀ T : State, T.heap = H → Stand p l e R s m args below meth c T locs cells slots → ∃ t, Steps p.tables e below ((T.setTop g).pushFrame (.throwing q)) t ∧ Q t
def vx_Run (p : Program) (l : Launch) (e : Env) (R : Room) (s : State) (m : MethodId) (args : Array Value) (below : List Frame) (meth : Method) (c : Code) (H : Heap) (locs : List Loc) (cells slots mc ms : Nat) (g : JFrame) (rest : List Value) (Qa : State → Outcome → State → Prop) (XC : String → State → State → Prop) (free : Addr → Prop) : Prop :=
  ∀ T : State, T.heap = H → Stand p l e R s m args below meth c T locs cells slots →
    (∃ (v : Option Value) (st₀ t T' : State) (L : List Loc), st₀.heap = H ∧ Stand p l e R s m args below meth c T' (locs ++ L) (cells + mc) (slots + ms) ∧ (∀ q ∈ L, free q.base) ∧ T'.heap = t.heap ∧ T'.vm = t.vm ∧ Qa st₀ (.returned v) t ∧
      Goes p e below T g T' { g with pc := g.pc + 3, stack := v.toList ++ rest }) ∨
    (∃ (q : Addr) (st₀ t T' : State) (L : List Loc) (E : String) (ce : Cell), st₀.heap = H ∧ Stand p l e R s m args below meth c T' (locs ++ L) (cells + mc) (slots + ms) ∧ (∀ z ∈ L, free z.base) ∧ T'.heap = t.heap ∧ T'.vm = t.vm ∧ XC E st₀ t ∧ t.heap[q]? = some ce ∧ ce.vm = .none ∧ s.vm.findClass E = some ce.cls ∧
      Steps p.tables e below (T.setTop g) ((T'.setTop { g with stack := rest }).pushFrame (.throwing q)))
def vx_X {S : Type} (px : S → Prop) (B : String → S → State → Prop) (A : Nat → Prop) : String → State → State → Prop := fun E st t => ∃ u : S, px u ∧ B E u t ∧ va_F A st t
section Runs
variable {p : Program} {l : Launch} {e : Env} {R : Room} {s : State} {m : MethodId} {args : Array Value} {below : List Frame} {meth : Method} {c : Code} {H : Heap} {locs : List Loc} {cells slots : Nat}
variable {y : MethodName} {bytes cc : ByteArray} {maxL nL mc ms n index : Nat} {ret : Option FieldType} {ws : List Cond} {rm : Room} {Pc : Array Value → State → Prop} {Qc : Array Value → State → Outcome → State → Prop} {XC : String → State → State → Prop} {free : Addr → Prop} {Ts : List Cond} {own C : String} {b : Addr} {As rest : List Value} {g : JFrame}
theorem vx_callBack (cb : CallB R s args own index y bytes maxL ret ws rm mc ms n) (hM : vx_Met l y ws rm Pc Qc XC mc ms free) (hbl : FrameBlind Pc) : vx_Back l R p e below s args y 3 8 (PreOf R mc ms Pc) (PostOf Qc mc ms free) (vx_Post XC mc ms free) := by
  obtain ⟨hrc, hrs, hfr, hlo, hws, hcw, -, hini, -⟩ := cb
  exact vx_back (bytes := bytes) (maxL := maxL) (ret := ret) hM hbl hrc hrs hfr hlo hws hcw (fun a' U hW => word_at hW (Or.inl (by first | rfl | simp [Cond.onTables, Cond.keeps, Cond.steady])) hini)
theorem vx_runV (S : CallFix p m c cc nL s args Ts own) (hM : vx_Met l y ws rm Pc Qc XC mc ms free) (cw : CallW R s args own C index y bytes maxL ret ws rm mc ms n) (hp : PreV s H C b Pc As)
    (hg : g.method = m) (hn : As.length = n) (hsize : g.locals.size = nL) (hstack : g.stack = As.reverse ++ .ref b :: rest) (hW : 2 * g.monitorRoom + (rest.map fun v => v.category).sum ≤ 8) (hdg : decode cc g.pc = .ok (.invokevirtual index, 3)) (hf : cells + mc ≤ R.cells ∧ slots + ms ≤ R.slots) :
    vx_Run p l e R s m args below meth c H locs cells slots mc ms g rest (Qc (Value.ref b :: As).toArray) XC free := by
  have hK : vx_Back l R p e below s args y 3 8 (PreOf R mc ms Pc) (PostOf Qc mc ms free) (vx_Post XC mc ms free) := vx_callBack cw.1 hM hp.1
  obtain ⟨⟨-, -, -, -, -, -, hcode, -, hy, hlen, hl⟩, hin, hse⟩ := cw
  obtain ⟨hx, hb, hml, ho, -⟩ := S
  obtain ⟨-, ⟨cellB, hcB, hoB, hclB⟩, hPc⟩ := hp
  intro T hT X
  rcases vx_callV X hx (C := C) (bytes := bytes) (maxL := maxL) (ret := ret) ho hl hin hse hcode hy hK (by rw [hT]; exact hcB) hoB hclB hg (hsize.trans hml.symm) (argsL := As) (rest := rest) (fun sig h => hn.trans (hlen sig h)) hstack hW (by rw [hb]; exact hdg)
    (fun vm₁ hW₁ => ⟨hf.1, hf.2, hPc (T.setVm vm₁) hT hW₁⟩) with ⟨v, vm₁, ⟨U', l2, c2, s2⟩, hW₁, X', ⟨g', mk, t, L, e1, e2, hq, h1, hL, h2, h3⟩, st⟩ | ⟨q, vm₁, ⟨U', l2, c2, s2⟩, hW₁, X', ⟨g', mk, t, L, E, ce, e1, e2, hq, hce, hcv, hcl, h1, hL, h2, h3⟩, st⟩
  · dsimp only [Pt.U, Pt.locs, Pt.cells, Pt.slots] at X' e1 e2 h1 h2 h3 st
    subst h1; subst h2; subst h3
    exact Or.inl ⟨v, (T.setVm vm₁).calling g' mk (Value.ref b :: As).toArray, t, U', L, hT, X', hL, e1, e2, hq, st⟩
  · dsimp only [Pt.U, Pt.locs, Pt.cells, Pt.slots] at X' e1 e2 h1 h2 h3 st hcl
    subst h1; subst h2; subst h3
    exact Or.inr ⟨q, (T.setVm vm₁).calling g' mk (Value.ref b :: As).toArray, t, U', L, E, ce, hT, X', hL, e1, e2, hq, hce, hcv, vx_cls hW₁ hcl, st⟩
theorem vx_runS (S : CallFix p m c cc nL s args Ts own) (hM : vx_Met l y ws rm Pc Qc XC mc ms free) (cw : CallB R s args own index y bytes maxL ret ws rm mc ms n ∧ (Cond.static y).before args s = true) (hp : PreS s H Pc As)
    (hg : g.method = m) (hn : As.length = n) (hsize : g.locals.size = nL) (hstack : g.stack = As.reverse ++ rest) (hW : 2 * g.monitorRoom + (rest.map fun v => v.category).sum ≤ 8) (hdg : decode cc g.pc = .ok (.invokestatic index, 3)) (hf : cells + mc ≤ R.cells ∧ slots + ms ≤ R.slots) :
    vx_Run p l e R s m args below meth c H locs cells slots mc ms g rest (Qc As.toArray) XC free := by
  have hK : vx_Back l R p e below s args y 3 8 (PreOf R mc ms Pc) (PostOf Qc mc ms free) (vx_Post XC mc ms free) := vx_callBack cw.1 hM hp.1
  obtain ⟨⟨-, -, -, -, -, -, hcode, hini, hy, hlen, hl⟩, hstt⟩ := cw
  obtain ⟨hx, hb, hml, ho, -⟩ := S
  intro T hT X
  rcases vx_callS X hx (bytes := bytes) (maxL := maxL) (ret := ret) ho hl hstt hini hcode hy hK hg (hsize.trans hml.symm) (argsL := As) (rest := rest) (fun sig h => hn.trans (hlen sig h)) hstack hW (by rw [hb]; exact hdg)
    (fun vm₁ hW₁ => ⟨hf.1, hf.2, hp.2 (T.setVm vm₁) hT hW₁⟩) with ⟨v, vm₁, ⟨U', l2, c2, s2⟩, hW₁, X', ⟨g', mk, t, L, e1, e2, hq, h1, hL, h2, h3⟩, st⟩ | ⟨q, vm₁, ⟨U', l2, c2, s2⟩, hW₁, X', ⟨g', mk, t, L, E, ce, e1, e2, hq, hce, hcv, hcl, h1, hL, h2, h3⟩, st⟩
  · dsimp only [Pt.U, Pt.locs, Pt.cells, Pt.slots] at X' e1 e2 h1 h2 h3 st
    subst h1; subst h2; subst h3
    exact Or.inl ⟨v, (T.setVm vm₁).calling g' mk As.toArray, t, U', L, hT, X', hL, e1, e2, hq, st⟩
  · dsimp only [Pt.U, Pt.locs, Pt.cells, Pt.slots] at X' e1 e2 h1 h2 h3 st hcl
    subst h1; subst h2; subst h3
    exact Or.inr ⟨q, (T.setVm vm₁).calling g' mk As.toArray, t, U', L, E, ce, hT, X', hL, e1, e2, hq, hce, hcv, vx_cls hW₁ hcl, st⟩
end Runs
section Rows
variable {p : Program} {l : Launch} {e : Env} {R : Room} {s : State} {m : MethodId} {args : Array Value} {below : List Frame} {meth : Method} {c : Code} {H : Heap} {locs : List Loc} {cells slots : Nat} {Q : State → Prop}
variable {mc ms : Nat} {free : Addr → Prop} {A0 A1 : Nat → Prop} {H0 : Heap} {a : Array Value} {pc : Nat} {ls : Array Slot} {st0 rest : List Value}
theorem vx_keep {st₀ t T' : State} {L : List Loc} (h0 : st₀.heap = H) (e1 : T'.heap = t.heap) (hS : va_S A0 H0 H locs) (hA : ∀ q, q < H.size → A1 q → A0 q) (hf : ∀ q, free q → A0 q) (hL : ∀ q ∈ L, free q.base) (hF : va_F A1 st₀ t) :
    H.size ≤ T'.heap.size ∧ (∀ q : Nat, q < H.size → ¬ A1 q → T'.heap[q]? = H[q]?) ∧ va_S A0 H0 T'.heap (locs ++ L) := by
  obtain ⟨hz, hk⟩ := hF
  rw [h0] at hz hk
  exact ⟨by rw [e1]; exact hz, fun q h1 h2 => by rw [e1]; exact hk q h1 h2,
    ⟨Nat.le_trans hS.1 (by rw [e1]; exact hz), fun q h1 h2 => by rw [e1, hk q (Nat.lt_of_lt_of_le h1 hS.1) (fun z => h2 (hA q (Nat.lt_of_lt_of_le h1 hS.1) z))]; exact hS.2.1 q h1 h2, fun q hq => by
      rcases List.mem_append.mp hq with h | h
      · exact hS.2.2 q h
      · exact hf _ (hL q h)⟩⟩
theorem vx_calli {S SX : Type} {post : Int32 → S → Prop} {px : SX → Prop} {B : S → State → Prop} {BX : String → SX → State → Prop} {AX : Nat → Prop} (hr : vx_Run p l e R s m args below meth c H locs cells slots mc ms (F0 m pc ls st0) rest (va_Qi post B A1 a) (vx_X px BX AX) free) (hS : va_S A0 H0 H locs) (hA : ∀ q, q < H.size → A1 q → A0 q) (hf : ∀ q, free q → A0 q) (hAX : ∀ q, q < H.size → AX q → A0 q)
    (kx : ∀ (E : String) (ce : Cell) (q9 : Addr) (u : SX) (t : State) (H1 : Heap) (locs1 : List Loc), t.heap = H1 → s.vm.Alike t.vm → px u → BX E u t → H.size ≤ H1.size → (∀ q : Nat, q < H.size → ¬ AX q → H1[q]? = H[q]?) → va_S A0 H0 H1 locs1 → H1[q9]? = some ce → ce.vm = .none → s.vm.findClass E = some ce.cls → vx_W p l e R s m args below meth c H1 locs1 (cells + mc) (slots + ms) Q (F0 m pc ls rest) q9)
    (kk : ∀ (r : Int32) (u : S) (t : State) (H1 : Heap) (locs1 : List Loc), t.heap = H1 → s.vm.Alike t.vm → post r u → B u t → H.size ≤ H1.size → (∀ q : Nat, q < H.size → ¬ A1 q → H1[q]? = H[q]?) → va_S A0 H0 H1 locs1 → W p l e R s m args below meth c H1 locs1 (cells + mc) (slots + ms) Q (F0 m (pc + 3) ls (.int r :: rest))) : W p l e R s m args below meth c H locs cells slots Q (F0 m pc ls st0) := by
  intro T hT X
  rcases hr T hT X with ⟨v, st₀, t, T', L, h0, X', hL, e1, e2, ⟨⟨r, u, hv, hp, hb⟩, hF⟩, st⟩ | ⟨q, st₀, t, T', L, E, ce, h0, X', hL, e1, e2, ⟨u, hp, hb, hF⟩, hce, hcv, hcl, st⟩
  · cases hv
    obtain ⟨k1, k2, k3⟩ := vx_keep h0 e1 hS hA hf hL hF
    obtain ⟨t2, a1, b1⟩ := kk r u t T'.heap (locs ++ L) e1.symm (by rw [← e2]; exact X'.warmed.alike) hp hb k1 k2 k3 T' rfl X'
    exact ⟨t2, st t2 a1, b1⟩
  · obtain ⟨k1, k2, k3⟩ := vx_keep h0 e1 hS hAX hf hL hF
    obtain ⟨t2, a1, b1⟩ := kx E ce q u t T'.heap (locs ++ L) e1.symm (by rw [← e2]; exact X'.warmed.alike) hp hb k1 k2 k3 (by rw [e1]; exact hce) hcv hcl T' rfl X'
    exact ⟨t2, st.trans a1, b1⟩
theorem vx_calll {S SX : Type} {post : Int64 → S → Prop} {px : SX → Prop} {B : S → State → Prop} {BX : String → SX → State → Prop} {AX : Nat → Prop} (hr : vx_Run p l e R s m args below meth c H locs cells slots mc ms (F0 m pc ls st0) rest (va_Ql post B A1 a) (vx_X px BX AX) free) (hS : va_S A0 H0 H locs) (hA : ∀ q, q < H.size → A1 q → A0 q) (hf : ∀ q, free q → A0 q) (hAX : ∀ q, q < H.size → AX q → A0 q)
    (kx : ∀ (E : String) (ce : Cell) (q9 : Addr) (u : SX) (t : State) (H1 : Heap) (locs1 : List Loc), t.heap = H1 → s.vm.Alike t.vm → px u → BX E u t → H.size ≤ H1.size → (∀ q : Nat, q < H.size → ¬ AX q → H1[q]? = H[q]?) → va_S A0 H0 H1 locs1 → H1[q9]? = some ce → ce.vm = .none → s.vm.findClass E = some ce.cls → vx_W p l e R s m args below meth c H1 locs1 (cells + mc) (slots + ms) Q (F0 m pc ls rest) q9)
    (kk : ∀ (r : Int64) (u : S) (t : State) (H1 : Heap) (locs1 : List Loc), t.heap = H1 → s.vm.Alike t.vm → post r u → B u t → H.size ≤ H1.size → (∀ q : Nat, q < H.size → ¬ A1 q → H1[q]? = H[q]?) → va_S A0 H0 H1 locs1 → W p l e R s m args below meth c H1 locs1 (cells + mc) (slots + ms) Q (F0 m (pc + 3) ls (.long r :: rest))) : W p l e R s m args below meth c H locs cells slots Q (F0 m pc ls st0) := by
  intro T hT X
  rcases hr T hT X with ⟨v, st₀, t, T', L, h0, X', hL, e1, e2, ⟨⟨r, u, hv, hp, hb⟩, hF⟩, st⟩ | ⟨q, st₀, t, T', L, E, ce, h0, X', hL, e1, e2, ⟨u, hp, hb, hF⟩, hce, hcv, hcl, st⟩
  · cases hv
    obtain ⟨k1, k2, k3⟩ := vx_keep h0 e1 hS hA hf hL hF
    obtain ⟨t2, a1, b1⟩ := kk r u t T'.heap (locs ++ L) e1.symm (by rw [← e2]; exact X'.warmed.alike) hp hb k1 k2 k3 T' rfl X'
    exact ⟨t2, st t2 a1, b1⟩
  · obtain ⟨k1, k2, k3⟩ := vx_keep h0 e1 hS hAX hf hL hF
    obtain ⟨t2, a1, b1⟩ := kx E ce q u t T'.heap (locs ++ L) e1.symm (by rw [← e2]; exact X'.warmed.alike) hp hb k1 k2 k3 (by rw [e1]; exact hce) hcv hcl T' rfl X'
    exact ⟨t2, st.trans a1, b1⟩
theorem vx_callf {S SX : Type} {post : UInt32 → S → Prop} {px : SX → Prop} {B : S → State → Prop} {BX : String → SX → State → Prop} {AX : Nat → Prop} (hr : vx_Run p l e R s m args below meth c H locs cells slots mc ms (F0 m pc ls st0) rest (va_Qf post B A1 a) (vx_X px BX AX) free) (hS : va_S A0 H0 H locs) (hA : ∀ q, q < H.size → A1 q → A0 q) (hf : ∀ q, free q → A0 q) (hAX : ∀ q, q < H.size → AX q → A0 q)
    (kx : ∀ (E : String) (ce : Cell) (q9 : Addr) (u : SX) (t : State) (H1 : Heap) (locs1 : List Loc), t.heap = H1 → s.vm.Alike t.vm → px u → BX E u t → H.size ≤ H1.size → (∀ q : Nat, q < H.size → ¬ AX q → H1[q]? = H[q]?) → va_S A0 H0 H1 locs1 → H1[q9]? = some ce → ce.vm = .none → s.vm.findClass E = some ce.cls → vx_W p l e R s m args below meth c H1 locs1 (cells + mc) (slots + ms) Q (F0 m pc ls rest) q9)
    (kk : ∀ (r : UInt32) (u : S) (t : State) (H1 : Heap) (locs1 : List Loc), t.heap = H1 → s.vm.Alike t.vm → post r u → B u t → H.size ≤ H1.size → (∀ q : Nat, q < H.size → ¬ A1 q → H1[q]? = H[q]?) → va_S A0 H0 H1 locs1 → W p l e R s m args below meth c H1 locs1 (cells + mc) (slots + ms) Q (F0 m (pc + 3) ls (.float r :: rest))) : W p l e R s m args below meth c H locs cells slots Q (F0 m pc ls st0) := by
  intro T hT X
  rcases hr T hT X with ⟨v, st₀, t, T', L, h0, X', hL, e1, e2, ⟨⟨r, u, hv, hp, hb⟩, hF⟩, st⟩ | ⟨q, st₀, t, T', L, E, ce, h0, X', hL, e1, e2, ⟨u, hp, hb, hF⟩, hce, hcv, hcl, st⟩
  · cases hv
    obtain ⟨k1, k2, k3⟩ := vx_keep h0 e1 hS hA hf hL hF
    obtain ⟨t2, a1, b1⟩ := kk r u t T'.heap (locs ++ L) e1.symm (by rw [← e2]; exact X'.warmed.alike) hp hb k1 k2 k3 T' rfl X'
    exact ⟨t2, st t2 a1, b1⟩
  · obtain ⟨k1, k2, k3⟩ := vx_keep h0 e1 hS hAX hf hL hF
    obtain ⟨t2, a1, b1⟩ := kx E ce q u t T'.heap (locs ++ L) e1.symm (by rw [← e2]; exact X'.warmed.alike) hp hb k1 k2 k3 (by rw [e1]; exact hce) hcv hcl T' rfl X'
    exact ⟨t2, st.trans a1, b1⟩
theorem vx_calld {S SX : Type} {post : UInt64 → S → Prop} {px : SX → Prop} {B : S → State → Prop} {BX : String → SX → State → Prop} {AX : Nat → Prop} (hr : vx_Run p l e R s m args below meth c H locs cells slots mc ms (F0 m pc ls st0) rest (va_Qd post B A1 a) (vx_X px BX AX) free) (hS : va_S A0 H0 H locs) (hA : ∀ q, q < H.size → A1 q → A0 q) (hf : ∀ q, free q → A0 q) (hAX : ∀ q, q < H.size → AX q → A0 q)
    (kx : ∀ (E : String) (ce : Cell) (q9 : Addr) (u : SX) (t : State) (H1 : Heap) (locs1 : List Loc), t.heap = H1 → s.vm.Alike t.vm → px u → BX E u t → H.size ≤ H1.size → (∀ q : Nat, q < H.size → ¬ AX q → H1[q]? = H[q]?) → va_S A0 H0 H1 locs1 → H1[q9]? = some ce → ce.vm = .none → s.vm.findClass E = some ce.cls → vx_W p l e R s m args below meth c H1 locs1 (cells + mc) (slots + ms) Q (F0 m pc ls rest) q9)
    (kk : ∀ (r : UInt64) (u : S) (t : State) (H1 : Heap) (locs1 : List Loc), t.heap = H1 → s.vm.Alike t.vm → post r u → B u t → H.size ≤ H1.size → (∀ q : Nat, q < H.size → ¬ A1 q → H1[q]? = H[q]?) → va_S A0 H0 H1 locs1 → W p l e R s m args below meth c H1 locs1 (cells + mc) (slots + ms) Q (F0 m (pc + 3) ls (.double r :: rest))) : W p l e R s m args below meth c H locs cells slots Q (F0 m pc ls st0) := by
  intro T hT X
  rcases hr T hT X with ⟨v, st₀, t, T', L, h0, X', hL, e1, e2, ⟨⟨r, u, hv, hp, hb⟩, hF⟩, st⟩ | ⟨q, st₀, t, T', L, E, ce, h0, X', hL, e1, e2, ⟨u, hp, hb, hF⟩, hce, hcv, hcl, st⟩
  · cases hv
    obtain ⟨k1, k2, k3⟩ := vx_keep h0 e1 hS hA hf hL hF
    obtain ⟨t2, a1, b1⟩ := kk r u t T'.heap (locs ++ L) e1.symm (by rw [← e2]; exact X'.warmed.alike) hp hb k1 k2 k3 T' rfl X'
    exact ⟨t2, st t2 a1, b1⟩
  · obtain ⟨k1, k2, k3⟩ := vx_keep h0 e1 hS hAX hf hL hF
    obtain ⟨t2, a1, b1⟩ := kx E ce q u t T'.heap (locs ++ L) e1.symm (by rw [← e2]; exact X'.warmed.alike) hp hb k1 k2 k3 (by rw [e1]; exact hce) hcv hcl T' rfl X'
    exact ⟨t2, st.trans a1, b1⟩
theorem vx_callv {S SX : Type} {post : S → Prop} {px : SX → Prop} {B : S → State → Prop} {BX : String → SX → State → Prop} {AX : Nat → Prop} (hr : vx_Run p l e R s m args below meth c H locs cells slots mc ms (F0 m pc ls st0) rest (va_Qv post B A1 a) (vx_X px BX AX) free) (hS : va_S A0 H0 H locs) (hA : ∀ q, q < H.size → A1 q → A0 q) (hf : ∀ q, free q → A0 q) (hAX : ∀ q, q < H.size → AX q → A0 q)
    (kx : ∀ (E : String) (ce : Cell) (q9 : Addr) (u : SX) (t : State) (H1 : Heap) (locs1 : List Loc), t.heap = H1 → s.vm.Alike t.vm → px u → BX E u t → H.size ≤ H1.size → (∀ q : Nat, q < H.size → ¬ AX q → H1[q]? = H[q]?) → va_S A0 H0 H1 locs1 → H1[q9]? = some ce → ce.vm = .none → s.vm.findClass E = some ce.cls → vx_W p l e R s m args below meth c H1 locs1 (cells + mc) (slots + ms) Q (F0 m pc ls rest) q9)
    (kk : ∀ (u : S) (t : State) (H1 : Heap) (locs1 : List Loc), t.heap = H1 → s.vm.Alike t.vm → post u → B u t → H.size ≤ H1.size → (∀ q : Nat, q < H.size → ¬ A1 q → H1[q]? = H[q]?) → va_S A0 H0 H1 locs1 → W p l e R s m args below meth c H1 locs1 (cells + mc) (slots + ms) Q (F0 m (pc + 3) ls (rest))) : W p l e R s m args below meth c H locs cells slots Q (F0 m pc ls st0) := by
  intro T hT X
  rcases hr T hT X with ⟨v, st₀, t, T', L, h0, X', hL, e1, e2, ⟨⟨u, hv, hp, hb⟩, hF⟩, st⟩ | ⟨q, st₀, t, T', L, E, ce, h0, X', hL, e1, e2, ⟨u, hp, hb, hF⟩, hce, hcv, hcl, st⟩
  · cases hv
    obtain ⟨k1, k2, k3⟩ := vx_keep h0 e1 hS hA hf hL hF
    obtain ⟨t2, a1, b1⟩ := kk u t T'.heap (locs ++ L) e1.symm (by rw [← e2]; exact X'.warmed.alike) hp hb k1 k2 k3 T' rfl X'
    exact ⟨t2, st t2 a1, b1⟩
  · obtain ⟨k1, k2, k3⟩ := vx_keep h0 e1 hS hAX hf hL hF
    obtain ⟨t2, a1, b1⟩ := kx E ce q u t T'.heap (locs ++ L) e1.symm (by rw [← e2]; exact X'.warmed.alike) hp hb k1 k2 k3 (by rw [e1]; exact hce) hcv hcl T' rfl X'
    exact ⟨t2, st.trans a1, b1⟩
end Rows
section Ends
variable {p : Program} {l : Launch} {e : Env} {R : Room} {s : State} {m : MethodId} {args : Array Value} {below : List Frame} {meth : Method} {c : Code} {H : Heap} {locs : List Loc} {cells slots : Nat} {Q : State → Prop}
variable {mc ms : Nat} {free : Addr → Prop} {A0 A1 : Nat → Prop} {H0 : Heap} {a : Array Value} {ls : Array Slot} {st0 rest : List Value}
variable {Qc : Array Value → State → Outcome → State → Prop} {XC : String → State → State → Prop}
/-- what a body that may throw owes at its end -/
def vx_MQ (below : List Frame) (Qc : Array Value → State → Outcome → State → Prop) (XC : String → State → State → Prop) (a : Array Value) (s : State) (mc ms : Nat) (free : Addr → Prop) : State → Prop := fun t =>
  ∃ o, t.status = .running ∧ Ended t below o ∧ vx_Q Qc XC mc ms free a s o t
theorem vx_ret {g : JFrame} {mc ms : Nat} (k : W p l e R s m args below meth c H locs cells slots (MQ below Qc args s mc ms free) g) : W p l e R s m args below meth c H locs cells slots (vx_MQ below Qc XC args s mc ms free) g := by
  intro T hT X
  obtain ⟨t, a1, o, b1, b2, b3, b4⟩ := k T hT X
  exact ⟨t, a1, o, b1, b2, Or.inl ⟨b3, b4⟩⟩
/-- not caught here: it goes on to the caller -/
theorem vx_widen {g : JFrame} {q : Addr} {k n : Nat} (h1 : cells ≤ k) (h2 : slots ≤ n) (kk : vx_W p l e R s m args below meth c H locs k n Q g q) : vx_W p l e R s m args below meth c H locs cells slots Q g q := fun T hT X => kk T hT (stand_widen X h1 h2)
theorem vx_out {pc : Nat} {E : String} {ce : Cell} {q : Addr} {mc ms : Nat} (hout : ∀ x ∈ c.exceptionTable.toList, covers x pc = false) (hlocks : meth.locks = false) (hcell : H[q]? = some ce) (hv : ce.vm = .none) (hcl : s.vm.findClass E = some ce.cls)
    (hx : ∀ t : State, t.heap = H → s.vm.Alike t.vm → XC E s t) (hf : ∀ z ∈ locs, free z.base) (hc : cells ≤ mc) (hs : slots ≤ ms) :
    vx_W p l e R s m args below meth c H locs cells slots (vx_MQ below Qc XC args s mc ms free) (F0 m pc ls rest) q := by
  intro T hT X
  obtain ⟨st1, hrun, hend, hW, hsm⟩ := X.leaveThrown q (g := F0 m pc ls rest) rfl rfl rfl hout hlocks
  have hcell9 : (T.setFrames (.throwing q :: below)).heap[q]? = some ce := by
    show T.heap[q]? = some ce
    rw [hT]; exact hcell
  exact ⟨_, st1, .threw q, hrun, hend, Or.inr ⟨q, rfl, E, ce, locs, hx _ hT hW.alike, hcell9, hv, hcl, hW, hsm.mono hc hs, hf⟩⟩
theorem vx_frame {U : State} {k n : Nat} (h : s.sameButNew ({ U with vm := s.vm } : State) locs k n) : s.heap.size ≤ U.heap.size ∧ ∀ q : Nat, q < s.heap.size → (∀ z ∈ locs, z.base ≠ q) → U.heap[q]? = s.heap[q]? := by
  obtain ⟨-, h2, -, -, -, h6⟩ := h
  refine ⟨h2, fun q hq hz => ?_⟩
  obtain ⟨c9, e1, e2, e3, e4⟩ := h6 q _ (Array.getElem?_eq_getElem hq)
  have hs : c9.slots = (s.heap[q]).slots := Array.ext_getElem? fun i => e4 i fun hm => hz _ hm rfl
  have h9 : c9 = s.heap[q] := by
    rw [hs] at e2
    exact e2
  have e5 : U.heap[q]? = some c9 := e1
  rw [e5, h9, Array.getElem?_eq_getElem hq]
/-- the words of a throw but the four that speak of the heap -/
def vx_no (w : Cond) : Bool := decide (w ≠ .isRef (.static Bundle.tN "UNASSIGNED_STACK" Bundle.steD)) && decide (w ≠ .isRef (.static Bundle.tN "SUPPRESSED_SENTINEL" Bundle.listD)) && decide (w ≠ .laysStatic Bundle.tN "UNASSIGNED_STACK" Bundle.steD) && decide (w ≠ .laysStatic Bundle.tN "SUPPRESSED_SENTINEL" Bundle.listD)
def vx_at0 (own : String) (ic : Nat) (X : String) (names : List String) : List Cond := (Bundle.ownAtoms0 own ic X names).filter vx_no
def vx_atS (own : String) (ic : Nat) (X : String) (names : List String) : List Cond := (Bundle.ownAtoms own ic X names).filter vx_no
/-- a word that the tables alone decide, or a good one -/
def vx_ot (w : Cond) : Bool := w.onTables || goodWord w
theorem vx_ot_at {args a' : Array Value} {s U : State} {w : Cond} (hW : s.WarmedH U.vm) (hvm : s.vm = U.vm) (hg : vx_ot w = true) (h : w.before args s = true) : w.before a' U = true := by
  simp only [vx_ot, Bool.or_eq_true] at hg
  rcases hg with hg | hg
  · exact va_tabs hg hvm h
  · exact word_at hW (good_of_word hg) h
/-- a list's words: the good ones out of the method's own list, the others by premises of their own -/
theorem vx_hat {args : Array Value} {s : State} {L B : List Cond} (h1 : ∀ w ∈ L.filter goodWord, w.before args s = true) (h2 : ∀ w ∈ L.filter (fun w => !goodWord w), w ∈ B) (h3 : ∀ w ∈ B, w.before args s = true) : ∀ w ∈ L, w.before args s = true := by
  intro w hw
  by_cases g : goodWord w = true
  · exact h1 w (List.mem_filter.mpr ⟨hw, g⟩)
  · refine h3 w (h2 w (List.mem_filter.mpr ⟨hw, ?_⟩))
    show (!goodWord w) = true
    cases hgw : goodWord w
    · rfl
    · exact absurd hgw g
theorem vx_c {args : Array Value} {s : State} {w : Cond} {B : List Cond} (h : w.before args s = true) (t : ∀ w ∈ B, w.before args s = true) : ∀ w' ∈ w :: B, w'.before args s = true := fun w' h' => (List.mem_cons.mp h').elim (fun e => by rw [e]; exact h) (t w')
theorem vx_n {args : Array Value} {s : State} : ∀ w ∈ ([] : List Cond), w.before args s = true := fun _ h => nomatch h
theorem vx_own {args : Array Value} {s : State} {L : List Cond} (h1 : ∀ w ∈ L.filter vx_no, w.before args s = true)
    (hU : (Cond.isRef (.static Bundle.tN "UNASSIGNED_STACK" Bundle.steD)).before args s = true) (hN : (Cond.isRef (.static Bundle.tN "SUPPRESSED_SENTINEL" Bundle.listD)).before args s = true)
    (lU : (Cond.laysStatic Bundle.tN "UNASSIGNED_STACK" Bundle.steD).before args s = true) (lN : (Cond.laysStatic Bundle.tN "SUPPRESSED_SENTINEL" Bundle.listD).before args s = true) : ∀ w ∈ L, w.before args s = true := by
  intro w hw
  by_cases e1 : w = .isRef (.static Bundle.tN "UNASSIGNED_STACK" Bundle.steD)
  · rw [e1]; exact hU
  · by_cases e2 : w = .isRef (.static Bundle.tN "SUPPRESSED_SENTINEL" Bundle.listD)
    · rw [e2]; exact hN
    · by_cases e3 : w = .laysStatic Bundle.tN "UNASSIGNED_STACK" Bundle.steD
      · rw [e3]; exact lU
      · by_cases e4 : w = .laysStatic Bundle.tN "SUPPRESSED_SENTINEL" Bundle.listD
        · rw [e4]; exact lN
        · exact h1 w (List.mem_filter.mpr ⟨hw, by unfold vx_no; rw [decide_eq_true e1, decide_eq_true e2, decide_eq_true e3, decide_eq_true e4]; rfl⟩)
/-- where a static field lies, its class's statics cell in H -/
def vx_L (C n d : String) (A : Nat → Prop) (U : State) (H : Heap) : Prop := ∃ (c : ClassId) (k : Class) (i : Nat) (f : Field) (a : Nat) (cell : Cell), U.vm.findClass C = some c ∧ U.fieldFound? C n d = some (c, k, i, f) ∧ f.isStatic = true ∧ k.statics = some a ∧ H[a]? = some cell ∧ cell.vm.isStatics = true ∧ cell.cls = c ∧ f.slot < cell.slots.size ∧ k.staticTypes[f.slot]? = some f.type ∧ ¬ A a
theorem vx_L.moved {C n d : String} {A : Nat → Prop} {u U : State} {H : Heap} (hvm : u.vm.Alike U.vm) (h : vx_L C n d A u H) : vx_L C n d A U H := by
  obtain ⟨c, k, i, f, a, cell, h1, h2, h3, h4, h5, h6, h7, h8, h9, h10⟩ := h
  obtain ⟨k', hi', he⟩ := State.fieldFound?_setVm hvm h2
  exact ⟨c, k', i, f, a, cell, by rw [hvm.findClass]; exact h1, hi', h3, by rw [he]; exact h4, h5, h6, h7, h8, by rw [he]; exact h9, h10⟩
theorem vx_L.kept {C n d : String} {A : Nat → Prop} {U : State} {H H1 : Heap} (h : vx_L C n d A U H) (hq : ∀ a : Nat, a < H.size → ¬ A a → H1[a]? = H[a]?) : vx_L C n d A U H1 := by
  obtain ⟨c, k, i, f, a, cell, h1, h2, h3, h4, h5, h6, h7, h8, h9, h10⟩ := h
  exact ⟨c, k, i, f, a, cell, h1, h2, h3, h4, by rw [hq a (Array.getElem?_eq_some_iff.mp h5).1 h10]; exact h5, h6, h7, h8, h9, h10⟩
theorem vx_L.narrow {C n d : String} {A B : Nat → Prop} {U : State} {H : Heap} (h : vx_L C n d A U H) (hAB : ∀ q, B q → A q) : vx_L C n d B U H := by
  obtain ⟨c, k, i, f, a, cell, h1, h2, h3, h4, h5, h6, h7, h8, h9, h10⟩ := h
  exact ⟨c, k, i, f, a, cell, h1, h2, h3, h4, h5, h6, h7, h8, h9, fun z => h10 (hAB _ z)⟩
theorem vx_L.word {C n d : String} {A : Nat → Prop} {s : State} {args : Array Value} (h : vx_L C n d A s s.heap) : (Cond.laysStatic C n d).before args s = true := by
  obtain ⟨c, k, i, f, a, cell, h1, h2, h3, h4, h5, h6, h7, h8, h9, -⟩ := h
  show (Cond.laysStatic C n d).holds args s none s [] = true
  exact Cond.laysStatic_of h1 h2 h3 h4 h5 h6 h7 h8 h9
/-- .. and what it holds: null or some reference -/
def vx_Zq (C n d : String) (A : Nat → Prop) (U : State) (H : Heap) : Prop := va_Zq C n d A U H ∧ vx_L C n d A U H
theorem vx_Zq.moved {C n d : String} {A : Nat → Prop} {u U : State} {H : Heap} (hvm : u.vm.Alike U.vm) (h : vx_Zq C n d A u H) : vx_Zq C n d A U H := ⟨va_Zq.moved hvm h.1, vx_L.moved hvm h.2⟩
theorem vx_Zq.kept {C n d : String} {A : Nat → Prop} {U : State} {H H1 : Heap} (h : vx_Zq C n d A U H) (hq : ∀ a : Nat, a < H.size → ¬ A a → H1[a]? = H[a]?) : vx_Zq C n d A U H1 := ⟨va_Zq.kept h.1 hq, vx_L.kept h.2 hq⟩
theorem vx_Zq.narrow {C n d : String} {A B : Nat → Prop} {U : State} {H : Heap} (h : vx_Zq C n d A U H) (hAB : ∀ q, B q → A q) : vx_Zq C n d B U H := ⟨va_Zq.narrow h.1 hAB, vx_L.narrow h.2 hAB⟩
theorem vx_Zqof {args : Array Value} {s : State} {C n d : String} {A : Nat → Prop} (hl : (Cond.laysStatic C n d).before args s = true) (hini : (Cond.initialized C).before args s = true) (h : (Cond.isRef (.static C n d)).before args s = true) (hA : ∀ a : Nat, a < s.heap.size → ¬ A a) : vx_Zq C n d A s s.heap := by
  refine ⟨va_Zqof hl hini h hA, ?_⟩
  obtain ⟨c, k, i, f, a, cell, h1, h2, h3, h4, h5, h6, h7, h8, h9⟩ := Cond.laysStatic_spec hl
  exact ⟨c, k, i, f, a, cell, h1, h2, h3, h4, h5, h6, h7, h8, h9, hA a (Array.getElem?_eq_some_iff.mp h5).1⟩
theorem vx_isRef {C n d : String} {v : Value} {A : Nat → Prop} {s : State} {args : Array Value} (h : va_Z C n d v A s s.heap) (hv : v.isRef = true) : (Cond.isRef (.static C n d)).before args s = true := by
  obtain ⟨cf, kf, fi, f, a, cell, h1, h2, h3, h4, h5, h6, h7, -⟩ := h
  have he : (Term.static C n d).eval args s none [] s = some v := by
    simp [Term.eval, State.fieldNamed?, h1, h2, h4, h5, h6, h7]
  simp only [Cond.before, Cond.holds, Cond.value, he]
  cases v <;> simp_all [Value.isRef]
theorem vx_isRefq {C n d : String} {A : Nat → Prop} {s : State} {args : Array Value} (h : va_Zq C n d A s s.heap) : (Cond.isRef (.static C n d)).before args s = true := by
  rcases h with h | ⟨t, h⟩
  · exact vx_isRef h rfl
  · exact vx_isRef h rfl
/-- the same frame, seen from here: as if the method were called anew in this heap -/
theorem vx_rebase {T : State} (X : Stand p l e R s m args below meth c T locs cells slots) {R' : Room} (hf : R'.frames ≤ R.frames) (hl : R'.locals ≤ R.locals) (hc : cells + R'.cells ≤ R.cells) (hs : slots + R'.slots ≤ R.slots) :
    Stand p l e R' ((T.setVm s.vm).setFrames (.invoking m args :: below)) m args below meth c T [] 0 0 := by
  have htop : (T.setVm s.vm).topJava?.isSome := X.here.top
  have hF : ((T.setVm s.vm).setFrames (.invoking m args :: below)).frames = .invoking m args :: below := State.frames_setFrames _ (State.cur_lt_of_top htop)
  obtain ⟨g₀, hg0⟩ := Option.isSome_iff_exists.mp htop
  obtain ⟨r, hr⟩ := State.topJava?_eq_some.mp hg0
  have hl9 : e.platform.stackLimits (T.setVm s.vm).me = e.platform.stackLimits s.me := X.limits
  have hb9 : (T.setVm s.vm).me.stackBytes = s.me.stackBytes := X.bytes
  refine ⟨X.admits, X.cas, X.clock, hF, ?_, X.hears, X.method, X.code, X.here, X.tail, X.warmed, ?_, ?_, ?_⟩
  · have h := X.room
    have hU : ((T.setVm s.vm).setFrames (.invoking m args :: below)).localsInUse = s.localsInUse := by
      rw [State.localsInUse_invoking hF (meth := meth) (c := c) X.method X.code, State.localsInUse_invoking X.frames X.method X.code]
    simp only [State.hasRoom, Bool.and_eq_true, decide_eq_true_eq] at h ⊢
    obtain ⟨⟨⟨⟨h1, h2, h3, h4, h5, h6⟩, h7⟩, h8⟩, h9⟩ := h
    rw [X.frames, List.length_cons] at h2 h3
    have q1 := X.heapSize
    have q2 := X.used
    simp only [hF, hU, List.length_cons, State.stackLimits_setFrames, State.stackBytes_setFrames, hl9, hb9]
    refine ⟨⟨⟨⟨by omega, by omega, by omega, by omega, by omega, h6⟩, ?_⟩, ?_⟩, X.book⟩
    · show T.heap.size + R'.cells ≤ e.platform.maxCells
      omega
    · show T.slotsUsed + R'.slots ≤ e.platform.maxSlots
      omega
  · rw [State.stackLimits_setFrames]; rfl
  · rw [State.stackBytes_setFrames]; rfl
  · refine ⟨?_, Nat.le_refl _, Nat.le_refl _, ?_, ?_, fun a c9 h9 => ⟨c9, h9, rfl, rfl, fun _ _ => rfl⟩⟩
    · obtain ⟨t, ht, -⟩ := State.frames_cons hr
      show T.setVm s.vm = { ((T.setVm s.vm).setFrames (.invoking m args :: below)).setFrames (T.setVm s.vm).frames with heap := T.heap, slotsUsed := T.slotsUsed }
      rw [State.setFrames_setFrames, State.setFrames_self ht]
      rfl
    · show T.slotsUsed = T.slotsUsed + ((T.heap.toList.drop T.heap.size).map (·.slots.size)).sum
      rw [List.drop_eq_nil_of_le (Nat.le_of_eq Array.length_toList)]
      rfl
    · show ((T.heap.toList.drop T.heap.size).map (·.slots.size)).sum ≤ 0
      rw [List.drop_eq_nil_of_le (Nat.le_of_eq Array.length_toList)]
      exact Nat.le_refl _
/-- 'throw new E()': new; dup; invokespecial; athrow -/
theorem vx_throw0 {cc : ByteArray} {pc : Nat} (hexec : p.tables.exec = Jvm.exec) (hb : c.code = cc) (hl : l.stackTraces = false) {own cls : String} {names : List String} {ik ic mc ms : Nat} {A : Nat → Prop}
    (hown : s.vm.findClass own = some m.cls) (hcls : Bundle.fit cls = true) (hnames : ∀ n ∈ names, Bundle.fit n = true)
    (hk : (Cond.classLink own ik cls).before args s = true) (hini : (Cond.initialized cls).before args s = true) (hat : ∀ w ∈ vx_at0 own ic cls names, w.before args s = true)
    (hgood : ∀ w ∈ Cond.classLink own ik cls :: Cond.initialized cls :: vx_at0 own ic cls names, vx_ot w = true)
    (hU : vx_Zq Bundle.tN "UNASSIGNED_STACK" Bundle.steD A s s.heap) (hN : vx_Zq Bundle.tN "SUPPRESSED_SENTINEL" Bundle.listD A s s.heap) (hS : va_S A s.heap H locs) (hsize : ls.size = c.maxLocals)
    (d0 : decode cc pc = .ok (.new ik, 3)) (d3 : decode cc (pc + 3) = .ok (.dup, 1)) (d4 : decode cc (pc + 4) = .ok (.invokespecial ic, 3)) (d7 : decode cc (pc + 7) = .ok (.athrow, 1))
    (hout : ∀ x ∈ c.exceptionTable.toList, covers x (pc + 7) = false)
    (hRframes : names.length + 3 < R.frames) (hRlocals : (rest.map fun v => v.category).sum + (13 * (names.length + 1) + 42) ≤ R.locals) (hRcells : cells + 1 ≤ R.cells) (hRslots : slots + 6 ≤ R.slots) (hlocks : meth.locks = false)
    (hx : ∀ t : State, s.vm.Alike t.vm → H.size ≤ t.heap.size → (∀ q : Nat, q < H.size → t.heap[q]? = H[q]?) → XC cls s t)
    (hf : ∀ z ∈ locs, free z.base) (hc : cells + 1 ≤ mc) (hs : slots + 6 ≤ ms) :
    W p l e R s m args below meth c H locs cells slots (vx_MQ below Qc XC args s mc ms free) (F0 m pc ls rest) := by
  intro T hT X
  have htr : e.platform.stackTraces = false := (show e.platform.stackTraces = l.stackTraces by rw [X.admits.platform]).trans hl
  have Y := vx_rebase X (R' := { frames := R.frames, locals := R.locals, cells := 1, slots := 6 }) (Nat.le_refl _) (Nat.le_refl _) hRcells hRslots
  obtain ⟨s', hA⟩ : ∃ z, z = (T.setVm s.vm).setFrames (.invoking m args :: below) := ⟨_, rfl⟩
  rw [← hA] at Y
  have hvm : s'.vm = s.vm := by rw [hA]; rfl
  have hhp : s'.heap = H := by rw [hA]; exact hT
  have hW0 : s.WarmedH s'.vm := by rw [hvm]; exact State.WarmedH.refl s
  have hat' : ∀ w ∈ vx_at0 own ic cls names, w.before args s' = true := fun w hw => vx_ot_at hW0 hvm.symm (hgood w (List.mem_cons_of_mem _ (List.mem_cons_of_mem _ hw))) (hat w hw)
  have hk' : (Cond.classLink own ik cls).before args s' = true := vx_ot_at hW0 hvm.symm (hgood _ List.mem_cons_self) hk
  have hini' : (Cond.initialized cls).before args s' = true := vx_ot_at hW0 hvm.symm (hgood _ (List.mem_cons_of_mem _ List.mem_cons_self)) hini
  have hU' : vx_Zq Bundle.tN "UNASSIGNED_STACK" Bundle.steD A s' s'.heap := by rw [hhp]; exact vx_Zq.moved hW0.alike (hU.kept hS.2.1)
  have hN' : vx_Zq Bundle.tN "SUPPRESSED_SENTINEL" Bundle.listD A s' s'.heap := by rw [hhp]; exact vx_Zq.moved hW0.alike (hN.kept hS.2.1)
  have h : ∀ w ∈ Bundle.ownAtoms0 own ic cls names, w.before args s' = true := vx_own hat' (vx_isRefq hU'.1) (vx_isRefq hN'.1) hU'.2.word hN'.2.word
  have hown' : s'.vm.findClass own = some m.cls := by rw [hvm]; exact hown
  have hins : (Cond.instantiable cls 6).before args s' = true := h _ (by simp [Bundle.ownAtoms0])
  obtain ⟨vm₁, cX, kX, hfX, hkX, -, -, X₁, st1⟩ := Y.newCold hexec (own := own) (C := cls) (index := ik) (n := 6) hown' hk' hins hini'
    (g := F0 m pc ls rest) rfl (by rw [hb]; exact d0) (Nat.le_refl _) (Nat.le_refl _)
  generalize hT1 : (T.setVm vm₁).pushCell { cls := cX, slots := kX.instanceTypes.map defaultValue, vm := .none } = T1 at X₁ st1
  have hcat : (Value.ref T.heap.size).category = 1 := rfl
  have hcellA : T1.heap[T.heap.size]? = some (freshCell cX kX) := by rw [← hT1]; exact State.heap_pushCell_size _ _
  have d3' : decode c.code (pc + 3) = .ok (.dup, 1) := by rw [hb]; exact d3
  obtain ⟨U, hsteps, hrun, hend, hW, hsame, ce, hce, hO⟩ := X₁.ctorThrow0 hexec htr (own := own) (cls := cls) (names := names) (ic := ic) hown' hcls hnames h (fun x hx => nomatch hx) hfX hkX hcellA (by rw [hhp, hT]; exact Nat.le_refl _)
    (g := { method := m, pc := pc + 4, locals := ls, stack := .ref T.heap.size :: .ref T.heap.size :: rest, locked := none }) rfl hsize rfl rfl (rest := rest) rfl
    (by rw [hb]; exact d4) (by rw [hb]; exact d7) hout hRframes (by simp only [List.map_cons, List.sum_cons, hcat]; omega) hlocks
  obtain ⟨f1, f2⟩ := vx_frame hsame
  rw [hhp] at f1 f2
  have hWs : s.WarmedH U.vm := State.WarmedH.trans hW0 hW
  have hcl : s.vm.findClass cls = some ce.cls := by
    have h9 := hO.cls
    rw [hvm] at h9
    exact h9
  have hall : s.sameButNew ({ U with vm := s.vm } : State) locs mc ms := by
    subst hA
    obtain ⟨e1, e2⟩ := hsame
    rw [State.setFrames_setFrames] at e1
    have h2 : (T.setVm s.vm).sameButNew ({ U with vm := s.vm } : State) [] (0 + 1) (0 + 6) := ⟨e1, e2⟩
    have h3 := X.same.trans h2
    rw [List.append_nil] at h3
    exact h3.mono hc hs
  refine ⟨U, ?_, .threw T.heap.size, hrun, hend, Or.inr ⟨T.heap.size, rfl, cls, ce, locs, hx U hWs.alike f1 (fun q hq => f2 q hq (fun z hz => nomatch hz)), hce, hO.vm, hcl, hWs, hall, hf⟩⟩
  refine st1 _ ?_
  show Steps p.tables e below (T1.setTop { method := m, pc := pc + 3, locals := ls, stack := .ref T.heap.size :: rest, locked := none }) _
  jvm_step X₁.here [X₁.here.top, hexec, d3', Value.category]
  exact hsteps
/-- 'throw new E("text")': new; dup; ldc; invokespecial; athrow -/
theorem vx_throwS {cc : ByteArray} {pc : Nat} (hexec : p.tables.exec = Jvm.exec) (hb : c.code = cc) (hl : l.stackTraces = false) {own cls text : String} {names : List String} {ik is ic mc ms sa : Nat} {A : Nat → Prop}
    (hown : s.vm.findClass own = some m.cls) (hcls : Bundle.fit cls = true) (hnames : ∀ n ∈ names, Bundle.fit n = true)
    (hk : (Cond.classLink own ik cls).before args s = true) (hini : (Cond.initialized cls).before args s = true) (hstr : vk_R own is text sa s) (hat : ∀ w ∈ vx_atS own ic cls names, w.before args s = true)
    (hgood : ∀ w ∈ Cond.classLink own ik cls :: Cond.initialized cls :: vx_atS own ic cls names, vx_ot w = true)
    (hU : vx_Zq Bundle.tN "UNASSIGNED_STACK" Bundle.steD A s s.heap) (hN : vx_Zq Bundle.tN "SUPPRESSED_SENTINEL" Bundle.listD A s s.heap) (hS : va_S A s.heap H locs) (hsize : ls.size = c.maxLocals)
    (d0 : decode cc pc = .ok (.new ik, 3)) (d3 : decode cc (pc + 3) = .ok (.dup, 1)) (d4 : decode cc (pc + 4) = .ok (.ldc is, 2)) (d6 : decode cc (pc + 6) = .ok (.invokespecial ic, 3)) (d9 : decode cc (pc + 9) = .ok (.athrow, 1))
    (hout : ∀ x ∈ c.exceptionTable.toList, covers x (pc + 9) = false)
    (hRframes : names.length + 3 < R.frames) (hRlocals : (rest.map fun v => v.category).sum + (13 * (names.length + 1) + 43) ≤ R.locals) (hRcells : cells + 1 ≤ R.cells) (hRslots : slots + 6 ≤ R.slots) (hlocks : meth.locks = false)
    (hx : ∀ t : State, s.vm.Alike t.vm → H.size ≤ t.heap.size → (∀ q : Nat, q < H.size → t.heap[q]? = H[q]?) → XC cls s t)
    (hf : ∀ z ∈ locs, free z.base) (hc : cells + 1 ≤ mc) (hs : slots + 6 ≤ ms) :
    W p l e R s m args below meth c H locs cells slots (vx_MQ below Qc XC args s mc ms free) (F0 m pc ls rest) := by
  intro T hT X
  have htr : e.platform.stackTraces = false := (show e.platform.stackTraces = l.stackTraces by rw [X.admits.platform]).trans hl
  have Y := vx_rebase X (R' := { frames := R.frames, locals := R.locals, cells := 1, slots := 6 }) (Nat.le_refl _) (Nat.le_refl _) hRcells hRslots
  obtain ⟨s', hA⟩ : ∃ z, z = (T.setVm s.vm).setFrames (.invoking m args :: below) := ⟨_, rfl⟩
  rw [← hA] at Y
  have hvm : s'.vm = s.vm := by rw [hA]; rfl
  have hhp : s'.heap = H := by rw [hA]; exact hT
  have hW0 : s.WarmedH s'.vm := by rw [hvm]; exact State.WarmedH.refl s
  have hat' : ∀ w ∈ vx_atS own ic cls names, w.before args s' = true := fun w hw => vx_ot_at hW0 hvm.symm (hgood w (List.mem_cons_of_mem _ (List.mem_cons_of_mem _ hw))) (hat w hw)
  have hk' : (Cond.classLink own ik cls).before args s' = true := vx_ot_at hW0 hvm.symm (hgood _ List.mem_cons_self) hk
  have hini' : (Cond.initialized cls).before args s' = true := vx_ot_at hW0 hvm.symm (hgood _ (List.mem_cons_of_mem _ List.mem_cons_self)) hini
  have hU' : vx_Zq Bundle.tN "UNASSIGNED_STACK" Bundle.steD A s' s'.heap := by rw [hhp]; exact vx_Zq.moved hW0.alike (hU.kept hS.2.1)
  have hN' : vx_Zq Bundle.tN "SUPPRESSED_SENTINEL" Bundle.listD A s' s'.heap := by rw [hhp]; exact vx_Zq.moved hW0.alike (hN.kept hS.2.1)
  have h : ∀ w ∈ Bundle.ownAtoms own ic cls names, w.before args s' = true := vx_own hat' (vx_isRefq hU'.1) (vx_isRefq hN'.1) hU'.2.word hN'.2.word
  have hown' : s'.vm.findClass own = some m.cls := by rw [hvm]; exact hown
  have hins : (Cond.instantiable cls 6).before args s' = true := h _ (by simp [Bundle.ownAtoms])
  obtain ⟨vm₁, cX, kX, hfX, hkX, -, -, X₁, st1⟩ := Y.newCold hexec (own := own) (C := cls) (index := ik) (n := 6) hown' hk' hins hini'
    (g := F0 m pc ls rest) rfl (by rw [hb]; exact d0) (Nat.le_refl _) (Nat.le_refl _)
  generalize hT1 : (T.setVm vm₁).pushCell { cls := cX, slots := kX.instanceTypes.map defaultValue, vm := .none } = T1 at X₁ st1
  have hcat : (Value.ref T.heap.size).category = 1 := rfl
  have hcellA : T1.heap[T.heap.size]? = some (freshCell cX kX) := by rw [← hT1]; exact State.heap_pushCell_size _ _
  have d3' : decode c.code (pc + 3) = .ok (.dup, 1) := by rw [hb]; exact d3
  have d4' : decode c.code (pc + 4) = .ok (.ldc is, 2) := by rw [hb]; exact d4
  have hstr' : vk_R own is text sa s' := vk_R.warm hW0 hstr
  obtain ⟨U, hsteps, hrun, hend, hW, hsame, ce, hce, hO⟩ := X₁.ctorThrowS hexec htr (own := own) (cls := cls) (names := names) (ic := ic) hown' hcls hnames h (fun x hx => nomatch hx) hfX hkX hcellA (by rw [hhp, hT]; exact Nat.le_refl _) (msg := .ref sa) rfl
    (g := { method := m, pc := pc + 6, locals := ls, stack := .ref sa :: .ref T.heap.size :: .ref T.heap.size :: rest, locked := none }) rfl hsize rfl rfl (rest := rest) rfl
    (by rw [hb]; exact d6) (by rw [hb]; exact d9) hout hRframes (by simp only [List.map_cons, List.sum_cons, hcat]; omega) hlocks
  obtain ⟨f1, f2⟩ := vx_frame hsame
  rw [hhp] at f1 f2
  have hWs : s.WarmedH U.vm := State.WarmedH.trans hW0 hW
  have hcl : s.vm.findClass cls = some ce.cls := by
    have h9 := hO.cls
    rw [hvm] at h9
    exact h9
  have hall : s.sameButNew ({ U with vm := s.vm } : State) locs mc ms := by
    subst hA
    obtain ⟨e1, e2⟩ := hsame
    rw [State.setFrames_setFrames] at e1
    have h2 : (T.setVm s.vm).sameButNew ({ U with vm := s.vm } : State) [] (0 + 1) (0 + 6) := ⟨e1, e2⟩
    have h3 := X.same.trans h2
    rw [List.append_nil] at h3
    exact h3.mono hc hs
  refine ⟨U, ?_, .threw T.heap.size, hrun, hend, Or.inr ⟨T.heap.size, rfl, cls, ce, locs, hx U hWs.alike f1 (fun q hq => f2 q hq (fun z hz => nomatch hz)), hce, hO.vm, hcl, hWs, hall, hf⟩⟩
  refine st1 _ ?_
  show Steps p.tables e below (T1.setTop { method := m, pc := pc + 3, locals := ls, stack := .ref T.heap.size :: rest, locked := none }) _
  jvm_step X₁.here [X₁.here.top, hexec, d3', Value.category]
  exact X₁.ldcString hexec (own := own) (text := text) (index := is) (a := sa) hown' hstr'.1 hstr'.2
    (g := { method := m, pc := pc + 4, locals := ls, stack := .ref T.heap.size :: .ref T.heap.size :: rest, locked := none }) rfl d4' _ hsteps
/-- 'throw new E("text")', the text by a wide index -/
theorem vx_throwSW {cc : ByteArray} {pc : Nat} (hexec : p.tables.exec = Jvm.exec) (hb : c.code = cc) (hl : l.stackTraces = false) {own cls text : String} {names : List String} {ik is ic mc ms sa : Nat} {A : Nat → Prop}
    (hown : s.vm.findClass own = some m.cls) (hcls : Bundle.fit cls = true) (hnames : ∀ n ∈ names, Bundle.fit n = true)
    (hk : (Cond.classLink own ik cls).before args s = true) (hini : (Cond.initialized cls).before args s = true) (hstr : vk_R own is text sa s) (hat : ∀ w ∈ vx_atS own ic cls names, w.before args s = true)
    (hgood : ∀ w ∈ Cond.classLink own ik cls :: Cond.initialized cls :: vx_atS own ic cls names, vx_ot w = true)
    (hU : vx_Zq Bundle.tN "UNASSIGNED_STACK" Bundle.steD A s s.heap) (hN : vx_Zq Bundle.tN "SUPPRESSED_SENTINEL" Bundle.listD A s s.heap) (hS : va_S A s.heap H locs) (hsize : ls.size = c.maxLocals)
    (d0 : decode cc pc = .ok (.new ik, 3)) (d3 : decode cc (pc + 3) = .ok (.dup, 1)) (d4 : decode cc (pc + 4) = .ok (.ldc_w is, 3)) (d7 : decode cc (pc + 7) = .ok (.invokespecial ic, 3)) (d10 : decode cc (pc + 10) = .ok (.athrow, 1))
    (hout : ∀ x ∈ c.exceptionTable.toList, covers x (pc + 10) = false)
    (hRframes : names.length + 3 < R.frames) (hRlocals : (rest.map fun v => v.category).sum + (13 * (names.length + 1) + 43) ≤ R.locals) (hRcells : cells + 1 ≤ R.cells) (hRslots : slots + 6 ≤ R.slots) (hlocks : meth.locks = false)
    (hx : ∀ t : State, s.vm.Alike t.vm → H.size ≤ t.heap.size → (∀ q : Nat, q < H.size → t.heap[q]? = H[q]?) → XC cls s t)
    (hf : ∀ z ∈ locs, free z.base) (hc : cells + 1 ≤ mc) (hs : slots + 6 ≤ ms) :
    W p l e R s m args below meth c H locs cells slots (vx_MQ below Qc XC args s mc ms free) (F0 m pc ls rest) := by
  intro T hT X
  have htr : e.platform.stackTraces = false := (show e.platform.stackTraces = l.stackTraces by rw [X.admits.platform]).trans hl
  have Y := vx_rebase X (R' := { frames := R.frames, locals := R.locals, cells := 1, slots := 6 }) (Nat.le_refl _) (Nat.le_refl _) hRcells hRslots
  obtain ⟨s', hA⟩ : ∃ z, z = (T.setVm s.vm).setFrames (.invoking m args :: below) := ⟨_, rfl⟩
  rw [← hA] at Y
  have hvm : s'.vm = s.vm := by rw [hA]; rfl
  have hhp : s'.heap = H := by rw [hA]; exact hT
  have hW0 : s.WarmedH s'.vm := by rw [hvm]; exact State.WarmedH.refl s
  have hat' : ∀ w ∈ vx_atS own ic cls names, w.before args s' = true := fun w hw => vx_ot_at hW0 hvm.symm (hgood w (List.mem_cons_of_mem _ (List.mem_cons_of_mem _ hw))) (hat w hw)
  have hk' : (Cond.classLink own ik cls).before args s' = true := vx_ot_at hW0 hvm.symm (hgood _ List.mem_cons_self) hk
  have hini' : (Cond.initialized cls).before args s' = true := vx_ot_at hW0 hvm.symm (hgood _ (List.mem_cons_of_mem _ List.mem_cons_self)) hini
  have hU' : vx_Zq Bundle.tN "UNASSIGNED_STACK" Bundle.steD A s' s'.heap := by rw [hhp]; exact vx_Zq.moved hW0.alike (hU.kept hS.2.1)
  have hN' : vx_Zq Bundle.tN "SUPPRESSED_SENTINEL" Bundle.listD A s' s'.heap := by rw [hhp]; exact vx_Zq.moved hW0.alike (hN.kept hS.2.1)
  have h : ∀ w ∈ Bundle.ownAtoms own ic cls names, w.before args s' = true := vx_own hat' (vx_isRefq hU'.1) (vx_isRefq hN'.1) hU'.2.word hN'.2.word
  have hown' : s'.vm.findClass own = some m.cls := by rw [hvm]; exact hown
  have hins : (Cond.instantiable cls 6).before args s' = true := h _ (by simp [Bundle.ownAtoms])
  obtain ⟨vm₁, cX, kX, hfX, hkX, -, -, X₁, st1⟩ := Y.newCold hexec (own := own) (C := cls) (index := ik) (n := 6) hown' hk' hins hini'
    (g := F0 m pc ls rest) rfl (by rw [hb]; exact d0) (Nat.le_refl _) (Nat.le_refl _)
  generalize hT1 : (T.setVm vm₁).pushCell { cls := cX, slots := kX.instanceTypes.map defaultValue, vm := .none } = T1 at X₁ st1
  have hcat : (Value.ref T.heap.size).category = 1 := rfl
  have hcellA : T1.heap[T.heap.size]? = some (freshCell cX kX) := by rw [← hT1]; exact State.heap_pushCell_size _ _
  have d3' : decode c.code (pc + 3) = .ok (.dup, 1) := by rw [hb]; exact d3
  have d4' : decode c.code (pc + 4) = .ok (.ldc_w is, 3) := by rw [hb]; exact d4
  have hstr' : vk_R own is text sa s' := vk_R.warm hW0 hstr
  obtain ⟨U, hsteps, hrun, hend, hW, hsame, ce, hce, hO⟩ := X₁.ctorThrowS hexec htr (own := own) (cls := cls) (names := names) (ic := ic) hown' hcls hnames h (fun x hx => nomatch hx) hfX hkX hcellA (by rw [hhp, hT]; exact Nat.le_refl _) (msg := .ref sa) rfl
    (g := { method := m, pc := pc + 7, locals := ls, stack := .ref sa :: .ref T.heap.size :: .ref T.heap.size :: rest, locked := none }) rfl hsize rfl rfl (rest := rest) rfl
    (by rw [hb]; exact d7) (by rw [hb]; exact d10) hout hRframes (by simp only [List.map_cons, List.sum_cons, hcat]; omega) hlocks
  obtain ⟨f1, f2⟩ := vx_frame hsame
  rw [hhp] at f1 f2
  have hWs : s.WarmedH U.vm := State.WarmedH.trans hW0 hW
  have hcl : s.vm.findClass cls = some ce.cls := by
    have h9 := hO.cls
    rw [hvm] at h9
    exact h9
  have hall : s.sameButNew ({ U with vm := s.vm } : State) locs mc ms := by
    subst hA
    obtain ⟨e1, e2⟩ := hsame
    rw [State.setFrames_setFrames] at e1
    have h2 : (T.setVm s.vm).sameButNew ({ U with vm := s.vm } : State) [] (0 + 1) (0 + 6) := ⟨e1, e2⟩
    have h3 := X.same.trans h2
    rw [List.append_nil] at h3
    exact h3.mono hc hs
  refine ⟨U, ?_, .threw T.heap.size, hrun, hend, Or.inr ⟨T.heap.size, rfl, cls, ce, locs, hx U hWs.alike f1 (fun q hq => f2 q hq (fun z hz => nomatch hz)), hce, hO.vm, hcl, hWs, hall, hf⟩⟩
  refine st1 _ ?_
  show Steps p.tables e below (T1.setTop { method := m, pc := pc + 3, locals := ls, stack := .ref T.heap.size :: rest, locked := none }) _
  jvm_step X₁.here [X₁.here.top, hexec, d3', Value.category]
  exact X₁.ldcStringW hexec (own := own) (text := text) (index := is) (a := sa) hown' hstr'.1 hstr'.2
    (g := { method := m, pc := pc + 4, locals := ls, stack := .ref T.heap.size :: .ref T.heap.size :: rest, locked := none }) rfl d4' _ hsteps
end Ends
section Bodies
variable {l : Launch}
theorem vx_ofW {y : MethodName} {ws ws' : List Cond} {rm : Room} {Pc : Array Value → State → Prop} {Qc : Array Value → State → Outcome → State → Prop} {XC : String → State → State → Prop} {mc ms : Nat} {free : Addr → Prop} {cc : ByteArray} {maxL : Nat} {ret : Option FieldType}
    (hy : plainName y.cls = true) (hw : ws = Cond.code y cc maxL ret :: ws')
    (body : ∀ p e s m args below meth c s₁, BodyLoose p l y (headSpec ws rm) cc maxL ret e s m args below meth c s₁ → c.maxLocals = maxL → (∀ x ∈ c.exceptionTable.toList, False) → Pc args s →
      W p l e (headSpec ws rm).room s m args below meth c s.heap [] 0 0 (vx_MQ below Qc XC args s mc ms free) (entryFrame m args maxL)) : vx_Met l y ws rm Pc Qc XC mc ms free := by
  refine MetFree.of_bodyS (code := cc) (maxLocals := maxL) (ret := ret) hy ?_ ?_
  · intro args s m h hn
    obtain ⟨meth, c, h1, h2, h3, h4, h5, h6, -, -⟩ := Cond.code_spec hn (atoms_spec (ws := ws) h _ (by rw [hw]; exact List.mem_cons_self))
    exact ⟨meth, c, h1, h2, h3, h4, h5, h6⟩
  · intro p e s m args below meth c s₁ B hml hP _
    have hh0 : s₁.heap = s.heap := by rw [B.state]; rfl
    have ht : ∀ x ∈ c.exceptionTable.toList, False := by
      obtain ⟨meth9, c9, h1, h2, -, -, -, -, h7, -⟩ := Cond.code_spec B.named (atoms_spec (ws := ws) B.pre _ (by rw [hw]; exact List.mem_cons_self))
      cases Option.some.inj (h1.symm.trans B.method)
      cases Option.some.inj (h2.symm.trans (Stand.of_body B).code)
      intro x hx
      rw [Array.isEmpty_iff.mp h7] at hx
      cases hx
    obtain ⟨t, a1, o, b1, b2, b3⟩ := body p e s m args below meth c s₁ B hml ht hP s₁ hh0 (Stand.of_body B)
    exact ⟨t, o, a1, b1, b2, b3⟩
/-- the table of a body with handlers -/
theorem vx_table {p : Program} {x y : MethodName} {S : Spec} {cc bytes : ByteArray} {maxL maxL' : Nat} {ret ret' : Option FieldType} {e : Env} {s s₁ : State} {m : MethodId} {args : Array Value} {below : List Frame} {meth : Method} {c : Code} {hh : List (Nat × Nat × Nat × Nat)}
    (B : BodyLoose p l y S cc maxL ret e s m args below meth c s₁) (h : (Cond.codeWith y bytes maxL' ret' hh).before args s = true) : c.exceptionTable.toList = tableOf hh := by
  obtain ⟨m9, meth9, c9, hn9, h1, h2, -, -, h6, -⟩ := Cond.codeWith_spec h
  cases Option.some.inj (hn9.symm.trans B.named)
  cases Option.some.inj (h1.symm.trans B.method)
  cases Option.some.inj (h2.symm.trans (Stand.of_body B).code)
  rw [← h6, table_eq]
end Bodies
end VXA
/-! ===== END ===== -/
/-! ===== BEGIN a static call of a method with an exception table ===== -/
section VXS
variable {p : Program} {l : Launch} {e : Env} {R : Room} {s : State} {m : MethodId} {args : Array Value} {below : List Frame} {meth : Method} {c : Code} {T : State} {H : Heap} {locs : List Loc} {cells slots : Nat}
abbrev vx_CSW (R : Room) (s : State) (args : Array Value) (own : String) (index : Nat) (y : MethodName) (bytes : ByteArray) (maxL : Nat) (ret : Option FieldType) (hh : List (Nat × Nat × Nat × Nat)) (ws : List Cond) (rm : Room) (mc ms n : Nat) : Prop :=
  (rm.cells = mc ∧ rm.slots = ms ∧ rm.frames + 1 ≤ R.frames ∧ 8 + (maxL + 11) + rm.locals ≤ R.locals ∧ (∀ w ∈ ws, ∀ (a' : Array Value) (U : State), s.WarmedH U.vm → w.before a' U = true) ∧ Cond.codeWith y bytes maxL ret hh ∈ ws) ∧
  (Cond.codeWith y bytes maxL ret hh).before args s = true ∧ (Cond.initialized y.cls).before args s = true ∧ (y.cls ≠ "java/lang/invoke/MethodHandle" ∧ y.cls ≠ "java/lang/invoke/VarHandle") ∧
  (∀ sig, parseMethodDescriptor y.desc = some sig → n = sig.parameters.length) ∧ (Cond.methodLink own index y).before args s = true ∧ (Cond.static y).before args s = true
theorem vx_cwSW {own : String} {index maxL mc ms : Nat} {y : MethodName} {bytes : ByteArray} {ret : Option FieldType} {hh : List (Nat × Nat × Nat × Nat)} {Ts ws ws' : List Cond} {rm : Room} (n : Nat) (ht : ∀ w ∈ Ts, w.before args s = true) (hT : GoodIn Ts (va_wsS own index y ws)) (hw : ws = Cond.codeWith y bytes maxL ret hh :: ws') (hrc : rm.cells = mc) (hrs : rm.slots = ms)
    (hd : y.cls ≠ "java/lang/invoke/MethodHandle" ∧ y.cls ≠ "java/lang/invoke/VarHandle" ∧ (parseMethodDescriptor y.desc).map (fun d => d.parameters.length) = some n) (hR : rm.frames + 1 ≤ R.frames ∧ 8 + (maxL + 11) + rm.locals ≤ R.locals) :
    vx_CSW R s args own index y bytes maxL ret hh ws rm mc ms n := by
  have ok : ∀ w ∈ va_wsS own index y ws, w.before args s = true := fun w h => ht w (hT w h).1
  have hG : GoodIn Ts ws := fun w h => hT w (by unfold va_wsS; exact List.mem_append_right _ h)
  have hc : Cond.codeWith y bytes maxL ret hh ∈ ws := by rw [hw]; exact List.mem_cons_self
  refine ⟨⟨hrc, hrs, hR.1, hR.2, pay_in ht hG, hc⟩, ht _ (hG _ hc).1, ok _ (by simp [va_wsS]), ⟨hd.1, hd.2.1⟩, fun sig h => ?_, ok _ (by simp [va_wsS]), ok _ (by simp [va_wsS])⟩
  have h2 := hd.2.2
  rw [h] at h2
  exact (Option.some.inj h2).symm
theorem vx_callSW (X : Stand p l e R s m args below meth c T locs cells slots) (hexec : p.tables.exec = Jvm.exec) {own : String} {index : Nat} {y : MethodName} {bytes : ByteArray} {maxL : Nat} {ret : Option FieldType} {hh : List (Nat × Nat × Nat × Nat)}
    (hown : s.vm.findClass own = some m.cls) (hlink : (Cond.methodLink own index y).before args s = true) (hstat : (Cond.static y).before args s = true) (hinit : (Cond.initialized y.cls).before args s = true)
    (hcode : (Cond.codeWith y bytes maxL ret hh).before args s = true) (hy : y.cls ≠ "java/lang/invoke/MethodHandle" ∧ y.cls ≠ "java/lang/invoke/VarHandle")
    {W9 : Nat} {Pre : Pt → Array Value → Prop} {Post : Pt → Array Value → Option Value → Pt → Prop} (hK : Back l R p e below s args y 3 W9 Pre Post)
    {g : JFrame} (hg : g.method = m) (hsize : g.locals.size = c.maxLocals) {argsL rest : List Value} (hlen : ∀ sig, parseMethodDescriptor y.desc = some sig → argsL.length = sig.parameters.length)
    (hstack : g.stack = argsL.reverse ++ rest) (hW : 2 * g.monitorRoom + (rest.map fun v => v.category).sum ≤ W9) (hdg : decode c.code g.pc = .ok (.invokestatic index, 3))
    (hpre : ∀ vm₁, s.WarmedH vm₁ → Pre ⟨T.setVm vm₁, locs, cells, slots⟩ argsL.toArray) :
    ∃ (v : Option Value) (vm₁ : Vm) (B : Pt), s.WarmedH vm₁ ∧ Stand p l e R s m args below meth c B.U B.locs B.cells B.slots ∧ Post ⟨T.setVm vm₁, locs, cells, slots⟩ argsL.toArray v B ∧
      ∀ target, Steps p.tables e below (B.U.setTop { g with pc := g.pc + 3, stack := v.toList ++ rest }) target → Steps p.tables e below (T.setTop g) target := by
  obtain ⟨mk, methM, cM, hnamed, hmethM, -, -, -, -, -, -, hsigM⟩ := Cond.codeWith_spec hcode
  have hstatic : methM.isStatic = true := Cond.static_spec hnamed hmethM hstat
  obtain ⟨kP, hkP, -⟩ := className_of_methodNamed hnamed
  have hinitP : kP.init = .initialized := Cond.initialized_spec (findClass_of_methodNamed hnamed) hkP hinit
  obtain ⟨vm₁, X₁, hstep₁⟩ := X.invokestatic hexec hown hlink hnamed hmethM hstatic hkP hinitP hy (g := g) hg (argsL := argsL) (rest := rest) (hlen _ hsigM) hstack hdg
  obtain ⟨v, B, X', hpost, hsteps⟩ := hK m meth c ⟨T.setVm vm₁, locs, cells, slots⟩ { g with stack := rest } (.invokestatic index) mk argsL.toArray X₁ hg hsize hdg hW (X₁.named hnamed) (hpre vm₁ X₁.warmed)
  exact ⟨v, vm₁, B, X₁.warmed, X', hpost, fun target h => hstep₁ _ fun acts => by rw [doInvoke_state]; exact hsteps.trans h⟩
theorem vx_runSW {y : MethodName} {bytes cc : ByteArray} {maxL nL mc ms n index : Nat} {ret : Option FieldType} {hh : List (Nat × Nat × Nat × Nat)} {ws : List Cond} {rm : Room} {Pc : Array Value → State → Prop} {Qc : Array Value → State → Outcome → State → Prop} {free : Addr → Prop} {Ts : List Cond} {own : String} {As rest : List Value} {g : JFrame}
    (S : CallFix p m c cc nL s args Ts own) (hM : Met l y ws rm Pc Qc mc ms free) (cw : vx_CSW R s args own index y bytes maxL ret hh ws rm mc ms n) (hp : PreS s H Pc As)
    (hg : g.method = m) (hn : As.length = n) (hsize : g.locals.size = nL) (hstack : g.stack = As.reverse ++ rest) (hW : 2 * g.monitorRoom + (rest.map fun v => v.category).sum ≤ 8) (hdg : decode cc g.pc = .ok (.invokestatic index, 3)) (hf : cells + mc ≤ R.cells ∧ slots + ms ≤ R.slots) :
    va_Run p l e R s m args below meth c H locs cells slots mc ms g rest (Qc As.toArray) (free) := by
  obtain ⟨⟨hrc, hrs, hfr, hlo, hws, hcw⟩, hcode, hini, hy, hlen, hl, hstt⟩ := cw
  have hK : Back l R p e below s args y 3 8 (PreOf R mc ms Pc) (PostOf Qc mc ms free) := va_backW (hh := hh) (bytes := bytes) (maxL := maxL) (ret := ret) hM hp.1 hrc hrs hfr hlo hws hcw (fun a' U hW => word_at hW (Or.inl (by first | rfl | simp [Cond.onTables, Cond.keeps, Cond.steady])) hini)
  obtain ⟨hx, hb, hml, ho, -⟩ := S
  intro T hT X
  obtain ⟨v, vm₁, ⟨U', l2, c2, s2⟩, hW₁, X', ⟨g', mk, t, L, e1, e2, hq, h1, hL, h2, h3⟩, st⟩ := vx_callSW X hx (hh := hh) (bytes := bytes) (maxL := maxL) (ret := ret) ho hl hstt hini hcode hy hK hg (hsize.trans hml.symm) (argsL := As) (rest := rest) (fun sig h => hn.trans (hlen sig h)) hstack hW (by rw [hb]; exact hdg)
    (fun vm₁ hW₁ => ⟨hf.1, hf.2, hp.2 (T.setVm vm₁) hT hW₁⟩)
  dsimp only [Pt.U, Pt.locs, Pt.cells, Pt.slots] at X' e1 e2 h1 h2 h3 st
  subst h1; subst h2; subst h3
  exact ⟨v, (T.setVm vm₁).calling g' mk As.toArray, t, U', L, hT, X', hL, e1, e2, hq, st⟩
/-- a thing of a world lies in the heap -/
theorem vx_lt {D : va_G} {cl : List vw_C} {ws : va_W} {H1 : Heap} (h : va_P D cl ws H1) {k : Nat} {q : Nat × va_E} (hk : ws[k]? = some q) : q.1 < H1.size := (h k q hk).lt
end VXS
/-! ===== END ===== -/
/-! ===== BEGIN methods with a table of their own: called by a name, returning or throwing ===== -/
section VXH
/-! vx_backW, vx_callVX, vx_callSX, vx_callVW, vx_runVW, vx_runVX, vx_runSX, vx_ofWH follow the same proofs as their sisters above (Free/Laws.lean, Shelf42/LK1.lean); vx_outP calls Shelf42/NT130.lean (outThrough). -/
section
variable {l : Launch} {R : Room} {p : Program} {e : Env} {below : List Frame} {s : State} {sargs : Array Value} {y : MethodName} {len W9 : Nat}
theorem vx_backW {ws : List Cond} {rm : Room} {Pc : Array Value → State → Prop} {Qc : Array Value → State → Outcome → State → Prop} {XC : String → State → State → Prop} {mc ms : Nat} {free : Addr → Prop} {bytes : ByteArray} {maxL : Nat} {ret : Option FieldType} {hh : List (Nat × Nat × Nat × Nat)}
    (hM : vx_Met l y ws rm Pc Qc XC mc ms free) (hblind : FrameBlind Pc) (hrc : rm.cells = mc) (hrs : rm.slots = ms)
    (hframes : rm.frames + 1 ≤ R.frames) (hlocals : W9 + (maxL + 11) + rm.locals ≤ R.locals)
    (hws : ∀ w ∈ ws, ∀ a' U, s.WarmedH U.vm → w.before a' U = true) (hcode : Cond.codeWith y bytes maxL ret hh ∈ ws) (hinit : ∀ a' U, s.WarmedH U.vm → (Cond.initialized y.cls).before a' U = true) :
    vx_Back l R p e below s sargs y len W9 (PreOf R mc ms Pc) (PostOf Qc mc ms free) (vx_Post XC mc ms free) := by
  intro m meth c A g ig mk a X hg hsize hdg hW hn hp
  have h1 : (headSpec ws rm).pre.before a A.U = true := atoms_intro fun w hw => hws w hw _ _ X.warmed
  have h2 : (Cond.codeWith y bytes maxL ret hh).before a A.U = true := hws _ hcode _ _ X.warmed
  have h3 : (Cond.initialized y.cls).before a A.U = true := hinit _ _ X.warmed
  have h4 : A.cells + (headSpec ws rm).room.cells ≤ R.cells := by rw [show (headSpec ws rm).room.cells = mc from hrc]; exact hp.1
  have h5 : A.slots + (headSpec ws rm).room.slots ≤ R.slots := by rw [show (headSpec ws rm).room.slots = ms from hrs]; exact hp.2.1
  have hPc : Pc a (A.U.calling g mk a) := hblind _ _ _ _ hp.2.2
  obtain ⟨U, Ls, c0, s0⟩ := A
  dsimp only [Pt.U, Pt.locs, Pt.cells, Pt.slots] at h1 h2 h3 h4 h5 X hn hPc ⊢
  obtain ⟨m9, methY, cY, hn9, hmY, hcY, -, hlY, -⟩ := Cond.codeWith_spec h2
  cases Option.some.inj (hn9.symm.trans hn)
  obtain ⟨kY, hkY, -⟩ := className_of_methodNamed hn
  have hinitY : kY.init = .initialized := Cond.initialized_spec (findClass_of_methodNamed hn) hkY h3
  have h : At U g.method c below := by rw [hg]; exact X.here
  have hlocals9 : W9 + (maxL + 11) + (headSpec ws rm).room.locals ≤ R.locals := hlocals
  have happ : (headSpec ws rm).appliesLoose y e.platform (U.calling g mk a) = true :=
    Spec.appliesLoose_calling (g := g) h hdg hn hkY hinitY
      (X.room_calling (g := g) (R' := (headSpec ws rm).room) hsize hmY hcY hframes (by rw [hlY]; omega) h4 h5) h1
  obtain ⟨mid, hmid⟩ := h.above
  have hfr : (U.setTop g).frames = (.java g :: mid) ++ below := by rw [State.frames_setTop' g h.top, hmid]; rfl
  obtain ⟨o, s₂, hsteps, -, hend, hq⟩ := Steps.callFree hM p X.admits X.cas X.clock (acts := []) hfr happ hPc trivial
  have hq' : vx_Q Qc XC mc ms free a (U.calling g mk a) o s₂ := hq
  rw [State.frames_setTop' g h.top] at hend
  obtain ⟨g₀, hg0⟩ := Option.isSome_iff_exists.mp h.top
  obtain ⟨r, hr⟩ := State.topJava?_eq_some.mp hg0
  have hr' : (({ U with heap := s₂.heap, slotsUsed := s₂.slotsUsed } : State).setVm s₂.vm).frames = .java g₀ :: r := hr
  rcases hq' with ⟨hqc, L, hfe, hL⟩ | ⟨q, rfl, E, ce, L, hx, hce, hcv, hcl, hW₂, hsm, hL⟩
  · obtain ⟨⟨v, rfl⟩, hW₂, e2, q2, q3, q4, q5, q6⟩ := id hfe
    have e3 : s₂ = ({ (U.calling g mk a).setFrames s₂.frames with heap := s₂.heap, slotsUsed := s₂.slotsUsed } : State).setVm s₂.vm := by
      have : s₂ = ({ s₂ with vm := (U.calling g mk a).vm } : State).setVm s₂.vm := rfl
      rw [e2] at this
      exact this
    obtain ⟨c₂, i₂, len₂, hc₂, hd₂, hf₂⟩ := hend
    have hW' : U.WarmedH s₂.vm := hW₂
    have hcc : c₂ = c := by
      have h1 : s₂.code? g.method = U.code? g.method := by
        rw [State.code?_eq, State.code?_eq, hW'.alike.method?]
      exact Option.some.inj (hc₂.symm.trans (h1.trans h.code))
    subst hcc
    have hlen : len₂ = len := by rw [hdg] at hd₂; cases hd₂; rfl
    subst hlen
    have hs₂ : s₂ = (({ U with heap := s₂.heap, slotsUsed := s₂.slotsUsed } : State).setVm s₂.vm).setTop { g with pc := g.pc + len₂, stack := v.toList ++ g.stack } := by
      refine e3.trans ?_
      rw [hf₂, State.calling_eq h.top, State.setFrames_setFrames, State.setTop_of_frames _ hr', hr]
      rfl
    have hsame : U.sameButNew ({ U with heap := s₂.heap, slotsUsed := s₂.slotsUsed } : State) L mc ms := by
      refine ⟨?_, q2, q3, q4, q5, q6⟩
      obtain ⟨t, ht, -⟩ := State.frames_cons hr
      show ({ U with heap := s₂.heap, slotsUsed := s₂.slotsUsed } : State) = { U.setFrames U.frames with heap := s₂.heap, slotsUsed := s₂.slotsUsed }
      rw [State.setFrames_self ht]
    subst hg
    refine Or.inl ⟨v, ⟨(({ U with heap := s₂.heap, slotsUsed := s₂.slotsUsed } : State).setVm s₂.vm), Ls ++ L, c0 + mc, s0 + ms⟩,
      ⟨X.admits, X.cas, X.clock, X.frames, X.room, X.hears, X.method, X.code, (X.here.setHeapUsed s₂.heap s₂.slotsUsed).setVm hW'.alike, X.tail, State.WarmedH.trans X.warmed hW', X.limits, X.bytes, X.same.trans (hsame.setVm s.vm)⟩,
      ⟨g, mk, s₂, L, rfl, rfl, hqc, rfl, hL, rfl, rfl⟩, ?_⟩
    show Steps p.tables e below _ ((({ U with heap := s₂.heap, slotsUsed := s₂.slotsUsed } : State).setVm s₂.vm).setTop { g with pc := g.pc + len₂, stack := v.toList ++ g.stack })
    rw [← hs₂]
    exact hsteps
  · obtain ⟨e2, q2, q3, q4, q5, q6⟩ := id hsm
    have e3 : s₂ = ({ (U.calling g mk a).setFrames s₂.frames with heap := s₂.heap, slotsUsed := s₂.slotsUsed } : State).setVm s₂.vm := by
      have : s₂ = ({ s₂ with vm := (U.calling g mk a).vm } : State).setVm s₂.vm := rfl
      rw [e2] at this
      exact this
    have hf₂ : s₂.frames = .throwing q :: .java g :: U.frames.tail := hend
    have hW' : U.WarmedH s₂.vm := hW₂
    have hs₂ : s₂ = ((({ U with heap := s₂.heap, slotsUsed := s₂.slotsUsed } : State).setVm s₂.vm).setTop g).pushFrame (.throwing q) := by
      refine e3.trans ?_
      rw [hf₂, State.calling_eq h.top, State.setFrames_setFrames, State.pushFrame, State.frames_setTop _ hr', State.setTop_of_frames _ hr', State.setFrames_setFrames, hr]
      rfl
    have hsame : U.sameButNew ({ U with heap := s₂.heap, slotsUsed := s₂.slotsUsed } : State) L mc ms := by
      refine ⟨?_, q2, q3, q4, q5, q6⟩
      obtain ⟨t, ht, -⟩ := State.frames_cons hr
      show ({ U with heap := s₂.heap, slotsUsed := s₂.slotsUsed } : State) = { U.setFrames U.frames with heap := s₂.heap, slotsUsed := s₂.slotsUsed }
      rw [State.setFrames_self ht]
    subst hg
    refine Or.inr ⟨q, ⟨(({ U with heap := s₂.heap, slotsUsed := s₂.slotsUsed } : State).setVm s₂.vm), Ls ++ L, c0 + mc, s0 + ms⟩,
      ⟨X.admits, X.cas, X.clock, X.frames, X.room, X.hears, X.method, X.code, (X.here.setHeapUsed s₂.heap s₂.slotsUsed).setVm hW'.alike, X.tail, State.WarmedH.trans X.warmed hW', X.limits, X.bytes, X.same.trans (hsame.setVm s.vm)⟩,
      ⟨g, mk, s₂, L, E, ce, rfl, rfl, hx, hce, hcv, hcl, rfl, hL, rfl, rfl⟩, ?_⟩
    show Steps p.tables e below _ (((({ U with heap := s₂.heap, slotsUsed := s₂.slotsUsed } : State).setVm s₂.vm).setTop g).pushFrame (.throwing q))
    rw [← hs₂]
    exact hsteps
end
variable {p : Program} {l : Launch} {e : Env} {R : Room} {s : State} {m : MethodId} {args : Array Value} {below : List Frame} {meth : Method} {c : Code} {T : State} {H : Heap} {locs : List Loc} {cells slots : Nat}
theorem vx_callVX (X : Stand p l e R s m args below meth c T locs cells slots) (hexec : p.tables.exec = Jvm.exec) {own C : String} {index : Nat} {y : MethodName} {bytes : ByteArray} {maxL : Nat} {ret : Option FieldType} {hh : List (Nat × Nat × Nat × Nat)}
    (hown : s.vm.findClass own = some m.cls) (hlink : (Cond.methodLink own index y).before args s = true) (hinst : (Cond.instanceMethod y).before args s = true) (hsel : (Cond.selects C y y).before args s = true)
    (hcode : (Cond.codeWith y bytes maxL ret hh).before args s = true) (hy : y.cls ≠ "java/lang/invoke/MethodHandle" ∧ y.cls ≠ "java/lang/invoke/VarHandle")
    {W9 : Nat} {Pre : Pt → Array Value → Prop} {Post : Pt → Array Value → Option Value → Pt → Prop} {PostX : Pt → Array Value → Addr → Pt → Prop} (hK : vx_Back l R p e below s args y 3 W9 Pre Post PostX)
    {b : Addr} {cellB : Cell} (hcell : T.heap[b]? = some cellB) (hobj : cellB.vm.isStatics = false) (hcls : s.vm.findClass C = some cellB.cls)
    {g : JFrame} (hg : g.method = m) (hsize : g.locals.size = c.maxLocals) {argsL rest : List Value} (hlen : ∀ sig, parseMethodDescriptor y.desc = some sig → argsL.length = sig.parameters.length)
    (hstack : g.stack = argsL.reverse ++ .ref b :: rest) (hW : 2 * g.monitorRoom + (rest.map fun v => v.category).sum ≤ W9) (hdg : decode c.code g.pc = .ok (.invokevirtual index, 3))
    (hpre : ∀ vm₁, s.WarmedH vm₁ → Pre ⟨T.setVm vm₁, locs, cells, slots⟩ (Value.ref b :: argsL).toArray) :
    (∃ (v : Option Value) (vm₁ : Vm) (B : Pt), s.WarmedH vm₁ ∧ Stand p l e R s m args below meth c B.U B.locs B.cells B.slots ∧ Post ⟨T.setVm vm₁, locs, cells, slots⟩ (Value.ref b :: argsL).toArray v B ∧
      ∀ target, Steps p.tables e below (B.U.setTop { g with pc := g.pc + 3, stack := v.toList ++ rest }) target → Steps p.tables e below (T.setTop g) target) ∨
    (∃ (q : Addr) (vm₁ : Vm) (B : Pt), s.WarmedH vm₁ ∧ Stand p l e R s m args below meth c B.U B.locs B.cells B.slots ∧ PostX ⟨T.setVm vm₁, locs, cells, slots⟩ (Value.ref b :: argsL).toArray q B ∧
      Steps p.tables e below (T.setTop g) ((B.U.setTop { g with stack := rest }).pushFrame (.throwing q))) := by
  obtain ⟨mk, methM, hnamed, hmethM, hstM, habM⟩ := Cond.instanceMethod_spec hinst
  obtain ⟨m8, methM', cM, hn8, hmethM', -, -, -, -, -, -, hsigM⟩ := Cond.codeWith_spec hcode
  cases Option.some.inj (hn8.symm.trans hnamed)
  cases hmethM.symm.trans hmethM'
  obtain ⟨c2, r2, m2, q1, q2, q3, q4, kP, hkP, hkPi⟩ := Cond.selects_spec hsel
  cases hcls.symm.trans q1
  cases (State.methodFound?_of_named hnamed hy).symm.trans q2
  cases hnamed.symm.trans q3
  have hselP : selectMethod e.platform s.vm cellB.cls mk = .method mk := by rw [Launch.admits_selectMethod X.admits]; exact q4
  obtain ⟨vm₁, X₁, hstep₁⟩ := X.invokevirtual hexec hown hlink hnamed hmethM hstM hkP hkPi hy (a := b) (cell := cellB) hcell
    (fun z h => by rw [h] at hobj; cases hobj) hselP hmethM habM hkP hkPi (g := g) hg (argsL := argsL) (rest := rest) (hlen _ hsigM) hstack hdg
  rcases hK m meth c ⟨T.setVm vm₁, locs, cells, slots⟩ { g with stack := rest } (.invokevirtual index) mk (Value.ref b :: argsL).toArray X₁ hg hsize hdg hW (X₁.named hnamed) (hpre vm₁ X₁.warmed) with ⟨v, B, X', hpost, hsteps⟩ | ⟨q, B, X', hpost, hsteps⟩
  · exact Or.inl ⟨v, vm₁, B, X₁.warmed, X', hpost, fun target h => hstep₁ _ fun acts => by rw [doInvoke_state]; exact hsteps.trans h⟩
  · exact Or.inr ⟨q, vm₁, B, X₁.warmed, X', hpost, hstep₁ _ fun acts => by rw [doInvoke_state]; exact hsteps⟩
theorem vx_callSX (X : Stand p l e R s m args below meth c T locs cells slots) (hexec : p.tables.exec = Jvm.exec) {own : String} {index : Nat} {y : MethodName} {bytes : ByteArray} {maxL : Nat} {ret : Option FieldType} {hh : List (Nat × Nat × Nat × Nat)}
    (hown : s.vm.findClass own = some m.cls) (hlink : (Cond.methodLink own index y).before args s = true) (hstat : (Cond.static y).before args s = true) (hinit : (Cond.initialized y.cls).before args s = true)
    (hcode : (Cond.codeWith y bytes maxL ret hh).before args s = true) (hy : y.cls ≠ "java/lang/invoke/MethodHandle" ∧ y.cls ≠ "java/lang/invoke/VarHandle")
    {W9 : Nat} {Pre : Pt → Array Value → Prop} {Post : Pt → Array Value → Option Value → Pt → Prop} {PostX : Pt → Array Value → Addr → Pt → Prop} (hK : vx_Back l R p e below s args y 3 W9 Pre Post PostX)
    {g : JFrame} (hg : g.method = m) (hsize : g.locals.size = c.maxLocals) {argsL rest : List Value} (hlen : ∀ sig, parseMethodDescriptor y.desc = some sig → argsL.length = sig.parameters.length)
    (hstack : g.stack = argsL.reverse ++ rest) (hW : 2 * g.monitorRoom + (rest.map fun v => v.category).sum ≤ W9) (hdg : decode c.code g.pc = .ok (.invokestatic index, 3))
    (hpre : ∀ vm₁, s.WarmedH vm₁ → Pre ⟨T.setVm vm₁, locs, cells, slots⟩ argsL.toArray) :
    (∃ (v : Option Value) (vm₁ : Vm) (B : Pt), s.WarmedH vm₁ ∧ Stand p l e R s m args below meth c B.U B.locs B.cells B.slots ∧ Post ⟨T.setVm vm₁, locs, cells, slots⟩ argsL.toArray v B ∧
      ∀ target, Steps p.tables e below (B.U.setTop { g with pc := g.pc + 3, stack := v.toList ++ rest }) target → Steps p.tables e below (T.setTop g) target) ∨
    (∃ (q : Addr) (vm₁ : Vm) (B : Pt), s.WarmedH vm₁ ∧ Stand p l e R s m args below meth c B.U B.locs B.cells B.slots ∧ PostX ⟨T.setVm vm₁, locs, cells, slots⟩ argsL.toArray q B ∧
      Steps p.tables e below (T.setTop g) ((B.U.setTop { g with stack := rest }).pushFrame (.throwing q))) := by
  obtain ⟨mk, methM, cM, hnamed, hmethM, -, -, -, -, -, -, hsigM⟩ := Cond.codeWith_spec hcode
  have hstatic : methM.isStatic = true := Cond.static_spec hnamed hmethM hstat
  obtain ⟨kP, hkP, -⟩ := className_of_methodNamed hnamed
  have hinitP : kP.init = .initialized := Cond.initialized_spec (findClass_of_methodNamed hnamed) hkP hinit
  obtain ⟨vm₁, X₁, hstep₁⟩ := X.invokestatic hexec hown hlink hnamed hmethM hstatic hkP hinitP hy (g := g) hg (argsL := argsL) (rest := rest) (hlen _ hsigM) hstack hdg
  rcases hK m meth c ⟨T.setVm vm₁, locs, cells, slots⟩ { g with stack := rest } (.invokestatic index) mk argsL.toArray X₁ hg hsize hdg hW (X₁.named hnamed) (hpre vm₁ X₁.warmed) with ⟨v, B, X', hpost, hsteps⟩ | ⟨q, B, X', hpost, hsteps⟩
  · exact Or.inl ⟨v, vm₁, B, X₁.warmed, X', hpost, fun target h => hstep₁ _ fun acts => by rw [doInvoke_state]; exact hsteps.trans h⟩
  · exact Or.inr ⟨q, vm₁, B, X₁.warmed, X', hpost, hstep₁ _ fun acts => by rw [doInvoke_state]; exact hsteps⟩
theorem vx_callVW (X : Stand p l e R s m args below meth c T locs cells slots) (hexec : p.tables.exec = Jvm.exec) {own C : String} {index : Nat} {y : MethodName} {bytes : ByteArray} {maxL : Nat} {ret : Option FieldType} {hh : List (Nat × Nat × Nat × Nat)}
    (hown : s.vm.findClass own = some m.cls) (hlink : (Cond.methodLink own index y).before args s = true) (hinst : (Cond.instanceMethod y).before args s = true) (hsel : (Cond.selects C y y).before args s = true)
    (hcode : (Cond.codeWith y bytes maxL ret hh).before args s = true) (hy : y.cls ≠ "java/lang/invoke/MethodHandle" ∧ y.cls ≠ "java/lang/invoke/VarHandle")
    {W9 : Nat} {Pre : Pt → Array Value → Prop} {Post : Pt → Array Value → Option Value → Pt → Prop} (hK : Back l R p e below s args y 3 W9 Pre Post)
    {b : Addr} {cellB : Cell} (hcell : T.heap[b]? = some cellB) (hobj : cellB.vm.isStatics = false) (hcls : s.vm.findClass C = some cellB.cls)
    {g : JFrame} (hg : g.method = m) (hsize : g.locals.size = c.maxLocals) {argsL rest : List Value} (hlen : ∀ sig, parseMethodDescriptor y.desc = some sig → argsL.length = sig.parameters.length)
    (hstack : g.stack = argsL.reverse ++ .ref b :: rest) (hW : 2 * g.monitorRoom + (rest.map fun v => v.category).sum ≤ W9) (hdg : decode c.code g.pc = .ok (.invokevirtual index, 3))
    (hpre : ∀ vm₁, s.WarmedH vm₁ → Pre ⟨T.setVm vm₁, locs, cells, slots⟩ (Value.ref b :: argsL).toArray) :
    ∃ (v : Option Value) (vm₁ : Vm) (B : Pt), s.WarmedH vm₁ ∧ Stand p l e R s m args below meth c B.U B.locs B.cells B.slots ∧ Post ⟨T.setVm vm₁, locs, cells, slots⟩ (Value.ref b :: argsL).toArray v B ∧
      ∀ target, Steps p.tables e below (B.U.setTop { g with pc := g.pc + 3, stack := v.toList ++ rest }) target → Steps p.tables e below (T.setTop g) target := by
  obtain ⟨mk, methM, hnamed, hmethM, hstM, habM⟩ := Cond.instanceMethod_spec hinst
  obtain ⟨m8, methM', cM, hn8, hmethM', -, -, -, -, -, -, hsigM⟩ := Cond.codeWith_spec hcode
  cases Option.some.inj (hn8.symm.trans hnamed)
  cases hmethM.symm.trans hmethM'
  obtain ⟨c2, r2, m2, q1, q2, q3, q4, kP, hkP, hkPi⟩ := Cond.selects_spec hsel
  cases hcls.symm.trans q1
  cases (State.methodFound?_of_named hnamed hy).symm.trans q2
  cases hnamed.symm.trans q3
  have hselP : selectMethod e.platform s.vm cellB.cls mk = .method mk := by rw [Launch.admits_selectMethod X.admits]; exact q4
  obtain ⟨vm₁, X₁, hstep₁⟩ := X.invokevirtual hexec hown hlink hnamed hmethM hstM hkP hkPi hy (a := b) (cell := cellB) hcell
    (fun z h => by rw [h] at hobj; cases hobj) hselP hmethM habM hkP hkPi (g := g) hg (argsL := argsL) (rest := rest) (hlen _ hsigM) hstack hdg
  obtain ⟨v, B, X', hpost, hsteps⟩ := hK m meth c ⟨T.setVm vm₁, locs, cells, slots⟩ { g with stack := rest } (.invokevirtual index) mk (Value.ref b :: argsL).toArray X₁ hg hsize hdg hW (X₁.named hnamed) (hpre vm₁ X₁.warmed)
  exact ⟨v, vm₁, B, X₁.warmed, X', hpost, fun target h => hstep₁ _ fun acts => by rw [doInvoke_state]; exact hsteps.trans h⟩
abbrev vx_CVW (R : Room) (s : State) (args : Array Value) (own C : String) (index : Nat) (y : MethodName) (bytes : ByteArray) (maxL : Nat) (ret : Option FieldType) (hh : List (Nat × Nat × Nat × Nat)) (ws : List Cond) (rm : Room) (mc ms n : Nat) : Prop :=
  (rm.cells = mc ∧ rm.slots = ms ∧ rm.frames + 1 ≤ R.frames ∧ 8 + (maxL + 11) + rm.locals ≤ R.locals ∧ (∀ w ∈ ws, ∀ (a' : Array Value) (U : State), s.WarmedH U.vm → w.before a' U = true) ∧ Cond.codeWith y bytes maxL ret hh ∈ ws) ∧
  (Cond.codeWith y bytes maxL ret hh).before args s = true ∧ (Cond.initialized y.cls).before args s = true ∧ (y.cls ≠ "java/lang/invoke/MethodHandle" ∧ y.cls ≠ "java/lang/invoke/VarHandle") ∧
  (∀ sig, parseMethodDescriptor y.desc = some sig → n = sig.parameters.length) ∧ (Cond.methodLink own index y).before args s = true ∧ (Cond.instanceMethod y).before args s = true ∧ (Cond.selects C y y).before args s = true
theorem vx_cwVW {own C : String} {index maxL mc ms : Nat} {y : MethodName} {bytes : ByteArray} {ret : Option FieldType} {hh : List (Nat × Nat × Nat × Nat)} {Ts ws ws' : List Cond} {rm : Room} (n : Nat) (ht : ∀ w ∈ Ts, w.before args s = true) (hT : GoodIn Ts (wsV own index C y ws)) (hw : ws = Cond.codeWith y bytes maxL ret hh :: ws') (hrc : rm.cells = mc) (hrs : rm.slots = ms)
    (hd : y.cls = C ∧ y.cls ≠ "java/lang/invoke/MethodHandle" ∧ y.cls ≠ "java/lang/invoke/VarHandle" ∧ (parseMethodDescriptor y.desc).map (fun d => d.parameters.length) = some n) (hR : rm.frames + 1 ≤ R.frames ∧ 8 + (maxL + 11) + rm.locals ≤ R.locals) :
    vx_CVW R s args own C index y bytes maxL ret hh ws rm mc ms n := by
  obtain ⟨hC, hd⟩ := hd
  subst hC
  have ok : ∀ w ∈ wsV own index y.cls y ws, w.before args s = true := fun w h => ht w (hT w h).1
  have hG : GoodIn Ts ws := fun w h => hT w (by unfold wsV; exact List.mem_append_right _ h)
  have hc : Cond.codeWith y bytes maxL ret hh ∈ ws := by rw [hw]; exact List.mem_cons_self
  refine ⟨⟨hrc, hrs, hR.1, hR.2, pay_in ht hG, hc⟩, ht _ (hG _ hc).1, ok _ (by simp [wsV]), ⟨hd.1, hd.2.1⟩, fun sig h => ?_, ok _ (by simp [wsV]), ok _ (by simp [wsV]), ok _ (by simp [wsV])⟩
  have h2 := hd.2.2
  rw [h] at h2
  exact (Option.some.inj h2).symm
theorem vx_runVW {y : MethodName} {bytes cc : ByteArray} {maxL nL mc ms n index : Nat} {ret : Option FieldType} {hh : List (Nat × Nat × Nat × Nat)} {ws : List Cond} {rm : Room} {Pc : Array Value → State → Prop} {Qc : Array Value → State → Outcome → State → Prop} {free : Addr → Prop} {Ts : List Cond} {own C : String} {b : Addr} {As rest : List Value} {g : JFrame}
    (S : CallFix p m c cc nL s args Ts own) (hM : Met l y ws rm Pc Qc mc ms free) (cw : vx_CVW R s args own C index y bytes maxL ret hh ws rm mc ms n) (hp : PreV s H C b Pc As)
    (hg : g.method = m) (hn : As.length = n) (hsize : g.locals.size = nL) (hstack : g.stack = As.reverse ++ .ref b :: rest) (hW : 2 * g.monitorRoom + (rest.map fun v => v.category).sum ≤ 8) (hdg : decode cc g.pc = .ok (.invokevirtual index, 3)) (hf : cells + mc ≤ R.cells ∧ slots + ms ≤ R.slots) :
    va_Run p l e R s m args below meth c H locs cells slots mc ms g rest (Qc (Value.ref b :: As).toArray) free := by
  obtain ⟨⟨hrc, hrs, hfr, hlo, hws, hcw⟩, hcode, hini, hy, hlen, hl, hin, hse⟩ := cw
  have hK : Back l R p e below s args y 3 8 (PreOf R mc ms Pc) (PostOf Qc mc ms free) := va_backW (hh := hh) (bytes := bytes) (maxL := maxL) (ret := ret) hM hp.1 hrc hrs hfr hlo hws hcw (fun a' U hW => word_at hW (Or.inl (by first | rfl | simp [Cond.onTables, Cond.keeps, Cond.steady])) hini)
  obtain ⟨hx, hb, hml, ho, -⟩ := S
  obtain ⟨-, ⟨cellB, hcB, hoB, hclB⟩, hPc⟩ := hp
  intro T hT X
  obtain ⟨v, vm₁, ⟨U', l2, c2, s2⟩, hW₁, X', ⟨g', mk, t, L, e1, e2, hq, h1, hL, h2, h3⟩, st⟩ := vx_callVW X hx (C := C) (hh := hh) (bytes := bytes) (maxL := maxL) (ret := ret) ho hl hin hse hcode hy hK (by rw [hT]; exact hcB) hoB hclB hg (hsize.trans hml.symm) (argsL := As) (rest := rest) (fun sig h => hn.trans (hlen sig h)) hstack hW (by rw [hb]; exact hdg)
    (fun vm₁ hW₁ => ⟨hf.1, hf.2, hPc (T.setVm vm₁) hT hW₁⟩)
  dsimp only [Pt.U, Pt.locs, Pt.cells, Pt.slots] at X' e1 e2 h1 h2 h3 st
  subst h1; subst h2; subst h3
  exact ⟨v, (T.setVm vm₁).calling g' mk (Value.ref b :: As).toArray, t, U', L, hT, X', hL, e1, e2, hq, st⟩
section
variable {y : MethodName} {bytes cc : ByteArray} {maxL nL mc ms n index : Nat} {ret : Option FieldType} {ws : List Cond} {rm : Room} {Pc : Array Value → State → Prop} {Qc : Array Value → State → Outcome → State → Prop} {XC : String → State → State → Prop} {free : Addr → Prop} {Ts : List Cond} {own C : String} {b : Addr} {As rest : List Value} {g : JFrame}
theorem vx_runVX {hh : List (Nat × Nat × Nat × Nat)} (S : CallFix p m c cc nL s args Ts own) (hM : vx_Met l y ws rm Pc Qc XC mc ms free) (cw : vx_CVW R s args own C index y bytes maxL ret hh ws rm mc ms n) (hp : PreV s H C b Pc As)
    (hg : g.method = m) (hn : As.length = n) (hsize : g.locals.size = nL) (hstack : g.stack = As.reverse ++ .ref b :: rest) (hW : 2 * g.monitorRoom + (rest.map fun v => v.category).sum ≤ 8) (hdg : decode cc g.pc = .ok (.invokevirtual index, 3)) (hf : cells + mc ≤ R.cells ∧ slots + ms ≤ R.slots) :
    vx_Run p l e R s m args below meth c H locs cells slots mc ms g rest (Qc (Value.ref b :: As).toArray) XC free := by
  obtain ⟨⟨hrc, hrs, hfr, hlo, hws, hcw⟩, hcode, hini, hy, hlen, hl, hin, hse⟩ := cw
  have hK : vx_Back l R p e below s args y 3 8 (PreOf R mc ms Pc) (PostOf Qc mc ms free) (vx_Post XC mc ms free) := vx_backW (hh := hh) (bytes := bytes) (maxL := maxL) (ret := ret) hM hp.1 hrc hrs hfr hlo hws hcw (fun a' U hW => word_at hW (Or.inl (by first | rfl | simp [Cond.onTables, Cond.keeps, Cond.steady])) hini)
  obtain ⟨hx, hb, hml, ho, -⟩ := S
  obtain ⟨-, ⟨cellB, hcB, hoB, hclB⟩, hPc⟩ := hp
  intro T hT X
  rcases vx_callVX X hx (C := C) (hh := hh) (bytes := bytes) (maxL := maxL) (ret := ret) ho hl hin hse hcode hy hK (by rw [hT]; exact hcB) hoB hclB hg (hsize.trans hml.symm) (argsL := As) (rest := rest) (fun sig h => hn.trans (hlen sig h)) hstack hW (by rw [hb]; exact hdg)
    (fun vm₁ hW₁ => ⟨hf.1, hf.2, hPc (T.setVm vm₁) hT hW₁⟩) with ⟨v, vm₁, ⟨U', l2, c2, s2⟩, hW₁, X', ⟨g', mk, t, L, e1, e2, hq, h1, hL, h2, h3⟩, st⟩ | ⟨q, vm₁, ⟨U', l2, c2, s2⟩, hW₁, X', ⟨g', mk, t, L, E, ce, e1, e2, hq, hce, hcv, hcl, h1, hL, h2, h3⟩, st⟩
  · dsimp only [Pt.U, Pt.locs, Pt.cells, Pt.slots] at X' e1 e2 h1 h2 h3 st
    subst h1; subst h2; subst h3
    exact Or.inl ⟨v, (T.setVm vm₁).calling g' mk (Value.ref b :: As).toArray, t, U', L, hT, X', hL, e1, e2, hq, st⟩
  · dsimp only [Pt.U, Pt.locs, Pt.cells, Pt.slots] at X' e1 e2 h1 h2 h3 st hcl
    subst h1; subst h2; subst h3
    exact Or.inr ⟨q, (T.setVm vm₁).calling g' mk (Value.ref b :: As).toArray, t, U', L, E, ce, hT, X', hL, e1, e2, hq, hce, hcv, vx_cls hW₁ hcl, st⟩
theorem vx_runSX {hh : List (Nat × Nat × Nat × Nat)} (S : CallFix p m c cc nL s args Ts own) (hM : vx_Met l y ws rm Pc Qc XC mc ms free) (cw : vx_CSW R s args own index y bytes maxL ret hh ws rm mc ms n) (hp : PreS s H Pc As)
    (hg : g.method = m) (hn : As.length = n) (hsize : g.locals.size = nL) (hstack : g.stack = As.reverse ++ rest) (hW : 2 * g.monitorRoom + (rest.map fun v => v.category).sum ≤ 8) (hdg : decode cc g.pc = .ok (.invokestatic index, 3)) (hf : cells + mc ≤ R.cells ∧ slots + ms ≤ R.slots) :
    vx_Run p l e R s m args below meth c H locs cells slots mc ms g rest (Qc As.toArray) XC free := by
  obtain ⟨⟨hrc, hrs, hfr, hlo, hws, hcw⟩, hcode, hini, hy, hlen, hl, hstt⟩ := cw
  have hK : vx_Back l R p e below s args y 3 8 (PreOf R mc ms Pc) (PostOf Qc mc ms free) (vx_Post XC mc ms free) := vx_backW (hh := hh) (bytes := bytes) (maxL := maxL) (ret := ret) hM hp.1 hrc hrs hfr hlo hws hcw (fun a' U hW => word_at hW (Or.inl (by first | rfl | simp [Cond.onTables, Cond.keeps, Cond.steady])) hini)
  obtain ⟨hx, hb, hml, ho, -⟩ := S
  intro T hT X
  rcases vx_callSX X hx (hh := hh) (bytes := bytes) (maxL := maxL) (ret := ret) ho hl hstt hini hcode hy hK hg (hsize.trans hml.symm) (argsL := As) (rest := rest) (fun sig h => hn.trans (hlen sig h)) hstack hW (by rw [hb]; exact hdg)
    (fun vm₁ hW₁ => ⟨hf.1, hf.2, hp.2 (T.setVm vm₁) hT hW₁⟩) with ⟨v, vm₁, ⟨U', l2, c2, s2⟩, hW₁, X', ⟨g', mk, t, L, e1, e2, hq, h1, hL, h2, h3⟩, st⟩ | ⟨q, vm₁, ⟨U', l2, c2, s2⟩, hW₁, X', ⟨g', mk, t, L, E, ce, e1, e2, hq, hce, hcv, hcl, h1, hL, h2, h3⟩, st⟩
  · dsimp only [Pt.U, Pt.locs, Pt.cells, Pt.slots] at X' e1 e2 h1 h2 h3 st
    subst h1; subst h2; subst h3
    exact Or.inl ⟨v, (T.setVm vm₁).calling g' mk As.toArray, t, U', L, hT, X', hL, e1, e2, hq, st⟩
  · dsimp only [Pt.U, Pt.locs, Pt.cells, Pt.slots] at X' e1 e2 h1 h2 h3 st hcl
    subst h1; subst h2; subst h3
    exact Or.inr ⟨q, (T.setVm vm₁).calling g' mk As.toArray, t, U', L, E, ce, hT, X', hL, e1, e2, hq, hce, hcv, vx_cls hW₁ hcl, st⟩
end
end VXH
theorem vx_ofWH {l : Launch} {y : MethodName} {ws ws' : List Cond} {rm : Room} {Pc : Array Value → State → Prop} {Qc : Array Value → State → Outcome → State → Prop} {XC : String → State → State → Prop} {mc ms : Nat} {free : Addr → Prop} {cc : ByteArray} {maxL : Nat} {ret : Option FieldType} {hh : List (Nat × Nat × Nat × Nat)}
    (hy : plainName y.cls = true) (hw : ws = Cond.codeWith y cc maxL ret hh :: ws')
    (body : ∀ p e s m args below meth c s₁, BodyLoose p l y (headSpec ws rm) cc maxL ret e s m args below meth c s₁ → c.maxLocals = maxL → Pc args s →
      W p l e (headSpec ws rm).room s m args below meth c s.heap [] 0 0 (vx_MQ below Qc XC args s mc ms free) (entryFrame m args maxL)) : vx_Met l y ws rm Pc Qc XC mc ms free := by
  refine MetFree.of_bodyS (code := cc) (maxLocals := maxL) (ret := ret) hy ?_ ?_
  · intro args s m h hn
    obtain ⟨m9, meth, c, hn9, h1, h2, h3, h4, -, h5, h6, -⟩ := Cond.codeWith_spec (atoms_spec (ws := ws) h _ (by rw [hw]; exact List.mem_cons_self))
    cases hn.symm.trans hn9
    exact ⟨meth, c, h1, h2, h3, h4, h5, h6⟩
  · intro p e s m args below meth c s₁ B hml hP _
    have hh0 : s₁.heap = s.heap := by rw [B.state]; rfl
    obtain ⟨t, a1, o, b1, b2, b3⟩ := body p e s m args below meth c s₁ B hml hP s₁ hh0 (Stand.of_body B)
    exact ⟨t, o, a1, b1, b2, b3⟩
/-! ===== END ===== -/
end
section
def RX0 : String := "PlanCertificates$Certificate"
def TX0 : u_T := fun k => match k with
  | 0 => ("PlanCertificates$Certificate", "numbers", "[I", true)
  | 1 => ("PlanCertificates$Certificate", "size", "I", false)
  | 2 => ("PlanCertificates$Certificate", "begun", "Z", false)
  | 3 => ("PlanCertificates$Certificate", "faultKind", "I", false)
  | 4 => ("PlanCertificates$Certificate", "faultRow", "I", false)
  | 5 => ("PlanCertificates$Certificate", "faultPlace", "I", false)
  | 6 => ("PlanCertificates$Certificate", "rows", "LPlanCertificates$Rows;", true)
  | 7 => ("PlanCertificates$Certificate", "draft", "LPlanCertificates$Draft;", true)
  | 8 => ("PlanCertificates$Certificate", "needed", "[Z", true)
  | _ => ("PlanCertificates$Certificate", "newNumbers", "[I", true)
def tyX0 : Nat → FieldType := fun k => match k with
  | 0 => .array .int
  | 1 => .int
  | 2 => .boolean
  | 3 => .int
  | 4 => .int
  | 5 => .int
  | 6 => .object "PlanCertificates$Rows"
  | 7 => .object "PlanCertificates$Draft"
  | 8 => .array .boolean
  | _ => .array .int
abbrev wsX00 : List Cond := u_ws RX0 TX0 10
theorem nmX0 : ∀ a, a < 10 → ∀ b, b < 10 → a ≠ b → (TX0 a).2.1 ≠ (TX0 b).2.1 := by decide +kernel
theorem tyX0_ok : ∀ k, k < 10 → parseFieldDescriptor (TX0 k).2.2.1 = some (tyX0 k) := by decide +kernel
abbrev cX0_init : ByteArray := prog_2_method_1_code
def yX0_init : MethodName := ⟨RX0, "<init>", "()V"⟩
abbrev cX0_start : ByteArray := prog_2_method_2_code
def yX0_start : MethodName := ⟨RX0, "start", "()V"⟩
abbrev cX0_end : ByteArray := prog_2_method_3_code
def yX0_end : MethodName := ⟨RX0, "end", "()V"⟩
abbrev cX0_numberAt : ByteArray := prog_2_method_4_code
def yX0_numberAt : MethodName := ⟨RX0, "numberAt", "(I)I"⟩
abbrev cX0_setNumber : ByteArray := prog_2_method_5_code
def yX0_setNumber : MethodName := ⟨RX0, "setNumber", "(II)V"⟩
abbrev cX0_take : ByteArray := prog_2_method_6_code
def yX0_take : MethodName := ⟨RX0, "take", "(ILPlanCertificates$Model;LPlanCertificates$Plans;)V"⟩
abbrev cX0_faultOfDigest : ByteArray := prog_2_method_7_code
def yX0_faultOfDigest : MethodName := ⟨RX0, "faultOfDigest", "(ILPlanCertificates$Model;)I"⟩
abbrev cX0_judge : ByteArray := prog_2_method_8_code
def yX0_judge : MethodName := ⟨RX0, "judge", "(ILPlanCertificates$Model;LPlanCertificates$Plans;)I"⟩
abbrev cX0_markNeeded : ByteArray := prog_2_method_9_code
def yX0_markNeeded : MethodName := ⟨RX0, "markNeeded", "(I)I"⟩
abbrev cX0_markSources : ByteArray := prog_2_method_10_code
def yX0_markSources : MethodName := ⟨RX0, "markSources", "(LPlanCertificates$Row;)V"⟩
abbrev cX0_closeGaps : ByteArray := prog_2_method_11_code
def yX0_closeGaps : MethodName := ⟨RX0, "closeGaps", "(I)I"⟩
abbrev cX0_moveNumbers : ByteArray := prog_2_method_12_code
def yX0_moveNumbers : MethodName := ⟨RX0, "moveNumbers", "(LPlanCertificates$Row;I)I"⟩
def RX1 : String := "PlanCertificates$Draft"
def TX1 : u_T := fun k => match k with
  | 0 => ("PlanCertificates$Draft", "parts", "[I", true)
  | _ => ("PlanCertificates$Draft", "count", "I", false)
def tyX1 : Nat → FieldType := fun k => match k with
  | 0 => .array .int
  | _ => .int
abbrev wsX10 : List Cond := u_ws RX1 TX1 2
theorem nmX1 : ∀ a, a < 2 → ∀ b, b < 2 → a ≠ b → (TX1 a).2.1 ≠ (TX1 b).2.1 := by decide +kernel
theorem tyX1_ok : ∀ k, k < 2 → parseFieldDescriptor (TX1 k).2.2.1 = some (tyX1 k) := by decide +kernel
abbrev cX1_init : ByteArray := prog_3_method_1_code
def yX1_init : MethodName := ⟨RX1, "<init>", "()V"⟩
abbrev cX1_clear : ByteArray := prog_3_method_2_code
def yX1_clear : MethodName := ⟨RX1, "clear", "()V"⟩
abbrev cX1_meaningAt : ByteArray := prog_3_method_3_code
def yX1_meaningAt : MethodName := ⟨RX1, "meaningAt", "(II)I"⟩
abbrev cX1_wholeLength : ByteArray := prog_3_method_4_code
def yX1_wholeLength : MethodName := ⟨RX1, "wholeLength", "()I"⟩
abbrev cX1_isWhole : ByteArray := prog_3_method_5_code
def yX1_isWhole : MethodName := ⟨RX1, "isWhole", "()Z"⟩
abbrev cX1_add : ByteArray := prog_3_method_6_code
def yX1_add : MethodName := ⟨RX1, "add", "(I)V"⟩
abbrev cX1_faultOf : ByteArray := prog_3_method_7_code
def yX1_faultOf : MethodName := ⟨RX1, "faultOf", "(ILPlanCertificates$Rows;LPlanCertificates$Model;LPlanCertificates$Plans;)I"⟩
abbrev cX1_faultOfKind : ByteArray := prog_3_method_8_code
def yX1_faultOfKind : MethodName := ⟨RX1, "faultOfKind", "(ILPlanCertificates$Rows;)I"⟩
abbrev cX1_isGoodPlan : ByteArray := prog_3_method_9_code
def yX1_isGoodPlan : MethodName := ⟨RX1, "isGoodPlan", "(ILPlanCertificates$Model;LPlanCertificates$Plans;)Z"⟩
abbrev cX1_faultBeyond : ByteArray := prog_3_method_10_code
def yX1_faultBeyond : MethodName := ⟨RX1, "faultBeyond", "(III)I"⟩
abbrev cX1_make : ByteArray := prog_3_method_11_code
def yX1_make : MethodName := ⟨RX1, "make", "(LPlanCertificates$Row;LPlanCertificates$Rows;LPlanCertificates$Model;LPlanCertificates$Plans;)I"⟩
abbrev cX1_fillSum : ByteArray := prog_3_method_12_code
def yX1_fillSum : MethodName := ⟨RX1, "fillSum", "(LPlanCertificates$Row;LPlanCertificates$Rows;)I"⟩
abbrev cX1_fillDivided : ByteArray := prog_3_method_13_code
def yX1_fillDivided : MethodName := ⟨RX1, "fillDivided", "(LPlanCertificates$Row;LPlanCertificates$Row;I)I"⟩
abbrev cX1_fillBranch : ByteArray := prog_3_method_14_code
def yX1_fillBranch : MethodName := ⟨RX1, "fillBranch", "(LPlanCertificates$Row;)I"⟩
abbrev cX1_fillJoined : ByteArray := prog_3_method_15_code
def yX1_fillJoined : MethodName := ⟨RX1, "fillJoined", "(LPlanCertificates$Row;LPlanCertificates$Rows;)I"⟩
abbrev cX1_fillBetter : ByteArray := prog_3_method_16_code
def yX1_fillBetter : MethodName := ⟨RX1, "fillBetter", "(LPlanCertificates$Row;LPlanCertificates$Model;LPlanCertificates$Plans;)I"⟩
abbrev cX1_fillPushed : ByteArray := prog_3_method_17_code
def yX1_fillPushed : MethodName := ⟨RX1, "fillPushed", "(LPlanCertificates$Row;LPlanCertificates$Row;ILPlanCertificates$Model;)I"⟩
def RX2 : String := "PlanCertificates$Model"
def TX2 : u_T := fun k => match k with
  | 0 => ("PlanCertificates$Model", "variables", "I", false)
  | 1 => ("PlanCertificates$Model", "rules", "I", false)
  | 2 => ("PlanCertificates$Model", "tables", "I", false)
  | 3 => ("PlanCertificates$Model", "digest", "I", false)
  | 4 => ("PlanCertificates$Model", "low", "[I", true)
  | 5 => ("PlanCertificates$Model", "high", "[I", true)
  | 6 => ("PlanCertificates$Model", "cost", "[I", true)
  | 7 => ("PlanCertificates$Model", "factors", "[[I", true)
  | 8 => ("PlanCertificates$Model", "right", "[I", true)
  | 9 => ("PlanCertificates$Model", "first", "[I", true)
  | 10 => ("PlanCertificates$Model", "second", "[I", true)
  | 11 => ("PlanCertificates$Model", "pairs", "[I", true)
  | 12 => ("PlanCertificates$Model", "firstOfPair", "[[I", true)
  | _ => ("PlanCertificates$Model", "secondOfPair", "[[I", true)
def tyX2 : Nat → FieldType := fun k => match k with
  | 0 => .int
  | 1 => .int
  | 2 => .int
  | 3 => .int
  | 4 => .array .int
  | 5 => .array .int
  | 6 => .array .int
  | 7 => .array (.array .int)
  | 8 => .array .int
  | 9 => .array .int
  | 10 => .array .int
  | 11 => .array .int
  | 12 => .array (.array .int)
  | _ => .array (.array .int)
abbrev wsX20 : List Cond := u_ws RX2 TX2 14
theorem nmX2 : ∀ a, a < 14 → ∀ b, b < 14 → a ≠ b → (TX2 a).2.1 ≠ (TX2 b).2.1 := by decide +kernel
theorem tyX2_ok : ∀ k, k < 14 → parseFieldDescriptor (TX2 k).2.2.1 = some (tyX2 k) := by decide +kernel
abbrev cX2_init : ByteArray := prog_4_method_1_code
def yX2_init : MethodName := ⟨RX2, "<init>", "()V"⟩
abbrev cX2_fillFrom : ByteArray := prog_4_method_2_code
def yX2_fillFrom : MethodName := ⟨RX2, "fillFrom", "(LPlanCertificates$Tape;)Z"⟩
abbrev cX2_fillVariable : ByteArray := prog_4_method_3_code
def yX2_fillVariable : MethodName := ⟨RX2, "fillVariable", "(LPlanCertificates$Tape;I)V"⟩
abbrev cX2_fillTable : ByteArray := prog_4_method_4_code
def yX2_fillTable : MethodName := ⟨RX2, "fillTable", "(LPlanCertificates$Tape;I)V"⟩
abbrev cX2_hasVariable : ByteArray := prog_4_method_5_code
def yX2_hasVariable : MethodName := ⟨RX2, "hasVariable", "(I)Z"⟩
abbrev cX2_hasRule : ByteArray := prog_4_method_6_code
def yX2_hasRule : MethodName := ⟨RX2, "hasRule", "(I)Z"⟩
abbrev cX2_hasTable : ByteArray := prog_4_method_7_code
def yX2_hasTable : MethodName := ⟨RX2, "hasTable", "(I)Z"⟩
abbrev cX2_lowOf : ByteArray := prog_4_method_8_code
def yX2_lowOf : MethodName := ⟨RX2, "lowOf", "(I)I"⟩
abbrev cX2_highOf : ByteArray := prog_4_method_9_code
def yX2_highOf : MethodName := ⟨RX2, "highOf", "(I)I"⟩
abbrev cX2_costOf : ByteArray := prog_4_method_10_code
def yX2_costOf : MethodName := ⟨RX2, "costOf", "([I)J"⟩
abbrev cX2_firstBroken : ByteArray := prog_4_method_11_code
def yX2_firstBroken : MethodName := ⟨RX2, "firstBroken", "([I)I"⟩
abbrev cX2_hasPair : ByteArray := prog_4_method_12_code
def yX2_hasPair : MethodName := ⟨RX2, "hasPair", "(III)Z"⟩
abbrev cX2_copyRule : ByteArray := prog_4_method_13_code
def yX2_copyRule : MethodName := ⟨RX2, "copyRule", "(ILPlanCertificates$Row;)V"⟩
abbrev cX2_copyCosts : ByteArray := prog_4_method_14_code
def yX2_copyCosts : MethodName := ⟨RX2, "copyCosts", "(LPlanCertificates$Row;)V"⟩
abbrev cX2_copyTable : ByteArray := prog_4_method_15_code
def yX2_copyTable : MethodName := ⟨RX2, "copyTable", "(IIILPlanCertificates$Row;)V"⟩
def RX3 : String := "PlanCertificates$Numbers"
def TX3 : u_T := fun k => match k with
  | _ => ("", "", "", false)
def tyX3 : Nat → FieldType := fun k => match k with
  | _ => .int
abbrev wsX30 : List Cond := u_ws RX3 TX3 0
theorem nmX3 : ∀ a, a < 0 → ∀ b, b < 0 → a ≠ b → (TX3 a).2.1 ≠ (TX3 b).2.1 := by decide +kernel
theorem tyX3_ok : ∀ k, k < 0 → parseFieldDescriptor (TX3 k).2.2.1 = some (tyX3 k) := by decide +kernel
abbrev cX3_isWithin : ByteArray := prog_5_method_2_code
def yX3_isWithin : MethodName := ⟨RX3, "isWithin", "(III)Z"⟩
abbrev cX3_at : ByteArray := prog_5_method_3_code
def yX3_at : MethodName := ⟨RX3, "at", "([II)I"⟩
abbrev cX3_sumOf : ByteArray := prog_5_method_4_code
def yX3_sumOf : MethodName := ⟨RX3, "sumOf", "([I[I)J"⟩
def RX4 : String := "PlanCertificates$Plans"
def TX4 : u_T := fun k => match k with
  | 0 => ("PlanCertificates$Plans", "numbers", "[[I", true)
  | 1 => ("PlanCertificates$Plans", "noPlan", "[I", true)
  | _ => ("PlanCertificates$Plans", "count", "I", false)
def tyX4 : Nat → FieldType := fun k => match k with
  | 0 => .array (.array .int)
  | 1 => .array .int
  | _ => .int
abbrev wsX40 : List Cond := u_ws RX4 TX4 3
theorem nmX4 : ∀ a, a < 3 → ∀ b, b < 3 → a ≠ b → (TX4 a).2.1 ≠ (TX4 b).2.1 := by decide +kernel
theorem tyX4_ok : ∀ k, k < 3 → parseFieldDescriptor (TX4 k).2.2.1 = some (tyX4 k) := by decide +kernel
abbrev cX4_init : ByteArray := prog_6_method_1_code
def yX4_init : MethodName := ⟨RX4, "<init>", "()V"⟩
abbrev cX4_clear : ByteArray := prog_6_method_2_code
def yX4_clear : MethodName := ⟨RX4, "clear", "()V"⟩
abbrev cX4_has : ByteArray := prog_6_method_3_code
def yX4_has : MethodName := ⟨RX4, "has", "(I)Z"⟩
abbrev cX4_at : ByteArray := prog_6_method_4_code
def yX4_at : MethodName := ⟨RX4, "at", "(I)[I"⟩
abbrev cX4_add : ByteArray := prog_6_method_5_code
def yX4_add : MethodName := ⟨RX4, "add", "(LPlanCertificates$Tape;I)I"⟩
def RX5 : String := "PlanCertificates$Row"
def TX5 : u_T := fun k => match k with
  | 0 => ("PlanCertificates$Row", "factors", "[J", true)
  | 1 => ("PlanCertificates$Row", "right", "J", false)
  | 2 => ("PlanCertificates$Row", "assumptions", "J", false)
  | 3 => ("PlanCertificates$Row", "limited", "Z", false)
  | 4 => ("PlanCertificates$Row", "limit", "J", false)
  | 5 => ("PlanCertificates$Row", "kind", "I", false)
  | 6 => ("PlanCertificates$Row", "start", "I", false)
  | 7 => ("PlanCertificates$Row", "length", "I", false)
  | 8 => ("PlanCertificates$Row", "variable", "I", false)
  | 9 => ("PlanCertificates$Row", "bound", "I", false)
  | _ => ("PlanCertificates$Row", "side", "I", false)
def tyX5 : Nat → FieldType := fun k => match k with
  | 0 => .array .long
  | 1 => .long
  | 2 => .long
  | 3 => .boolean
  | 4 => .long
  | 5 => .int
  | 6 => .int
  | 7 => .int
  | 8 => .int
  | 9 => .int
  | _ => .int
abbrev wsX50 : List Cond := u_ws RX5 TX5 11
theorem nmX5 : ∀ a, a < 11 → ∀ b, b < 11 → a ≠ b → (TX5 a).2.1 ≠ (TX5 b).2.1 := by decide +kernel
theorem tyX5_ok : ∀ k, k < 11 → parseFieldDescriptor (TX5 k).2.2.1 = some (tyX5 k) := by decide +kernel
abbrev cX5_init : ByteArray := prog_7_method_1_code
def yX5_init : MethodName := ⟨RX5, "<init>", "()V"⟩
abbrev cX5_clear : ByteArray := prog_7_method_2_code
def yX5_clear : MethodName := ⟨RX5, "clear", "()V"⟩
abbrev cX5_setFactor : ByteArray := prog_7_method_3_code
def yX5_setFactor : MethodName := ⟨RX5, "setFactor", "(IJ)V"⟩
abbrev cX5_factorOf : ByteArray := prog_7_method_4_code
def yX5_factorOf : MethodName := ⟨RX5, "factorOf", "(I)J"⟩
abbrev cX5_setSingle : ByteArray := prog_7_method_5_code
def yX5_setSingle : MethodName := ⟨RX5, "setSingle", "(IJJ)V"⟩
abbrev cX5_setLimit : ByteArray := prog_7_method_6_code
def yX5_setLimit : MethodName := ⟨RX5, "setLimit", "(J)V"⟩
abbrev cX5_inheritAssumptions : ByteArray := prog_7_method_7_code
def yX5_inheritAssumptions : MethodName := ⟨RX5, "inheritAssumptions", "(LPlanCertificates$Row;)V"⟩
abbrev cX5_inheritLimit : ByteArray := prog_7_method_8_code
def yX5_inheritLimit : MethodName := ⟨RX5, "inheritLimit", "(LPlanCertificates$Row;)V"⟩
abbrev cX5_addTimes : ByteArray := prog_7_method_9_code
def yX5_addTimes : MethodName := ⟨RX5, "addTimes", "(LPlanCertificates$Row;J)V"⟩
abbrev cX5_isMadeOfZeros : ByteArray := prog_7_method_10_code
def yX5_isMadeOfZeros : MethodName := ⟨RX5, "isMadeOfZeros", "()Z"⟩
abbrev cX5_isImpossible : ByteArray := prog_7_method_11_code
def yX5_isImpossible : MethodName := ⟨RX5, "isImpossible", "()Z"⟩
abbrev cX5_hasFactorsOf : ByteArray := prog_7_method_12_code
def yX5_hasFactorsOf : MethodName := ⟨RX5, "hasFactorsOf", "(LPlanCertificates$Row;)Z"⟩
abbrev cX5_isTooGreat : ByteArray := prog_7_method_13_code
def yX5_isTooGreat : MethodName := ⟨RX5, "isTooGreat", "()Z"⟩
abbrev cX5_isBranch : ByteArray := prog_7_method_14_code
def yX5_isBranch : MethodName := ⟨RX5, "isBranch", "(I)Z"⟩
abbrev cX5_isKeptBy : ByteArray := prog_7_method_15_code
def yX5_isKeptBy : MethodName := ⟨RX5, "isKeptBy", "([I)Z"⟩
abbrev cX5_timesLessCosts : ByteArray := prog_7_method_16_code
def yX5_timesLessCosts : MethodName := ⟨RX5, "timesLessCosts", "([I)J"⟩
abbrev cX5_boundOfCost : ByteArray := prog_7_method_17_code
def yX5_boundOfCost : MethodName := ⟨RX5, "boundOfCost", "([I)J"⟩
def RX6 : String := "PlanCertificates$Rows"
def TX6 : u_T := fun k => match k with
  | 0 => ("PlanCertificates$Rows", "rows", "[LPlanCertificates$Row;", true)
  | 1 => ("PlanCertificates$Rows", "noRow", "LPlanCertificates$Row;", true)
  | 2 => ("PlanCertificates$Rows", "branches", "[I", true)
  | 3 => ("PlanCertificates$Rows", "count", "I", false)
  | _ => ("PlanCertificates$Rows", "branchCount", "I", false)
def tyX6 : Nat → FieldType := fun k => match k with
  | 0 => .array (.object "PlanCertificates$Row")
  | 1 => .object "PlanCertificates$Row"
  | 2 => .array .int
  | 3 => .int
  | _ => .int
abbrev wsX60 : List Cond := u_ws RX6 TX6 5
theorem nmX6 : ∀ a, a < 5 → ∀ b, b < 5 → a ≠ b → (TX6 a).2.1 ≠ (TX6 b).2.1 := by decide +kernel
theorem tyX6_ok : ∀ k, k < 5 → parseFieldDescriptor (TX6 k).2.2.1 = some (tyX6 k) := by decide +kernel
abbrev cX6_init : ByteArray := prog_8_method_1_code
def yX6_init : MethodName := ⟨RX6, "<init>", "()V"⟩
abbrev cX6_clear : ByteArray := prog_8_method_2_code
def yX6_clear : MethodName := ⟨RX6, "clear", "()V"⟩
abbrev cX6_has : ByteArray := prog_8_method_3_code
def yX6_has : MethodName := ⟨RX6, "has", "(I)Z"⟩
abbrev cX6_at : ByteArray := prog_8_method_4_code
def yX6_at : MethodName := ⟨RX6, "at", "(I)LPlanCertificates$Row;"⟩
abbrev cX6_areFull : ByteArray := prog_8_method_5_code
def yX6_areFull : MethodName := ⟨RX6, "areFull", "()Z"⟩
abbrev cX6_areBranchesFull : ByteArray := prog_8_method_6_code
def yX6_areBranchesFull : MethodName := ⟨RX6, "areBranchesFull", "()Z"⟩
abbrev cX6_fresh : ByteArray := prog_8_method_7_code
def yX6_fresh : MethodName := ⟨RX6, "fresh", "()LPlanCertificates$Row;"⟩
abbrev cX6_keepFresh : ByteArray := prog_8_method_8_code
def yX6_keepFresh : MethodName := ⟨RX6, "keepFresh", "()V"⟩
abbrev cX6_assumption : ByteArray := prog_8_method_9_code
def yX6_assumption : MethodName := ⟨RX6, "assumption", "(II)I"⟩
abbrev cX6_keepsAssumptions : ByteArray := prog_8_method_10_code
def yX6_keepsAssumptions : MethodName := ⟨RX6, "keepsAssumptions", "(LPlanCertificates$Row;[I)Z"⟩
abbrev cX6_firstProof : ByteArray := prog_8_method_11_code
def yX6_firstProof : MethodName := ⟨RX6, "firstProof", "(Z)I"⟩
abbrev cX6_greatestBound : ByteArray := prog_8_method_12_code
def yX6_greatestBound : MethodName := ⟨RX6, "greatestBound", "([I)J"⟩
def RX7 : String := "PlanCertificates$Tape"
def TX7 : u_T := fun k => match k with
  | 0 => ("PlanCertificates$Tape", "numbers", "[I", true)
  | 1 => ("PlanCertificates$Tape", "size", "I", false)
  | 2 => ("PlanCertificates$Tape", "place", "I", false)
  | _ => ("PlanCertificates$Tape", "good", "Z", false)
def tyX7 : Nat → FieldType := fun k => match k with
  | 0 => .array .int
  | 1 => .int
  | 2 => .int
  | _ => .boolean
abbrev wsX70 : List Cond := u_ws RX7 TX7 4
theorem nmX7 : ∀ a, a < 4 → ∀ b, b < 4 → a ≠ b → (TX7 a).2.1 ≠ (TX7 b).2.1 := by decide +kernel
theorem tyX7_ok : ∀ k, k < 4 → parseFieldDescriptor (TX7 k).2.2.1 = some (tyX7 k) := by decide +kernel
abbrev cX7_init : ByteArray := prog_9_method_1_code
def yX7_init : MethodName := ⟨RX7, "<init>", "()V"⟩
abbrev cX7_hasRoomFor : ByteArray := prog_9_method_2_code
def yX7_hasRoomFor : MethodName := ⟨RX7, "hasRoomFor", "(I)Z"⟩
abbrev cX7_append : ByteArray := prog_9_method_3_code
def yX7_append : MethodName := ⟨RX7, "append", "(I)V"⟩
abbrev cX7_clear : ByteArray := prog_9_method_4_code
def yX7_clear : MethodName := ⟨RX7, "clear", "()V"⟩
abbrev cX7_at : ByteArray := prog_9_method_5_code
def yX7_at : MethodName := ⟨RX7, "at", "(I)I"⟩
abbrev cX7_rewind : ByteArray := prog_9_method_6_code
def yX7_rewind : MethodName := ⟨RX7, "rewind", "()V"⟩
abbrev cX7_next : ByteArray := prog_9_method_7_code
def yX7_next : MethodName := ⟨RX7, "next", "(II)I"⟩
abbrev cX7_nextBut : ByteArray := prog_9_method_8_code
def yX7_nextBut : MethodName := ⟨RX7, "nextBut", "(III)I"⟩
abbrev cX7_isReadWhole : ByteArray := prog_9_method_9_code
def yX7_isReadWhole : MethodName := ⟨RX7, "isReadWhole", "()Z"⟩
abbrev cX7_isPlanOf : ByteArray := prog_9_method_10_code
def yX7_isPlanOf : MethodName := ⟨RX7, "isPlanOf", "(I)Z"⟩
abbrev cX7_digestOfAll : ByteArray := prog_9_method_11_code
def yX7_digestOfAll : MethodName := ⟨RX7, "digestOfAll", "()I"⟩
def RX8 : String := "PlanCertificates"
def TX8 : u_T := fun k => match k with
  | 0 => ("PlanCertificates", "tape", "LPlanCertificates$Tape;", true)
  | 1 => ("PlanCertificates", "plans", "LPlanCertificates$Plans;", true)
  | 2 => ("PlanCertificates", "certificate", "LPlanCertificates$Certificate;", true)
  | 3 => ("PlanCertificates", "hasModel", "Z", false)
  | 4 => ("PlanCertificates", "current", "LPlanCertificates$Model;", false)
  | _ => ("PlanCertificates", "spare", "LPlanCertificates$Model;", false)
def tyX8 : Nat → FieldType := fun k => match k with
  | 0 => .object "PlanCertificates$Tape"
  | 1 => .object "PlanCertificates$Plans"
  | 2 => .object "PlanCertificates$Certificate"
  | 3 => .boolean
  | 4 => .object "PlanCertificates$Model"
  | _ => .object "PlanCertificates$Model"
abbrev wsX80 : List Cond := u_ws RX8 TX8 6
theorem nmX8 : ∀ a, a < 6 → ∀ b, b < 6 → a ≠ b → (TX8 a).2.1 ≠ (TX8 b).2.1 := by decide +kernel
theorem tyX8_ok : ∀ k, k < 6 → parseFieldDescriptor (TX8 k).2.2.1 = some (tyX8 k) := by decide +kernel
abbrev cX8_init : ByteArray := prog_1_method_1_code
def yX8_init : MethodName := ⟨RX8, "<init>", "()V"⟩
abbrev cX8_put : ByteArray := prog_1_method_2_code
def yX8_put : MethodName := ⟨RX8, "put", "(IIIII)I"⟩
abbrev cX8_drop : ByteArray := prog_1_method_3_code
def yX8_drop : MethodName := ⟨RX8, "drop", "()I"⟩
abbrev cX8_model : ByteArray := prog_1_method_4_code
def yX8_model : MethodName := ⟨RX8, "model", "()I"⟩
abbrev cX8_plan : ByteArray := prog_1_method_5_code
def yX8_plan : MethodName := ⟨RX8, "plan", "()I"⟩
abbrev cX8_tellPlan : ByteArray := prog_1_method_6_code
def yX8_tellPlan : MethodName := ⟨RX8, "tellPlan", "()I"⟩
abbrev cX8_breaks : ByteArray := prog_1_method_7_code
def yX8_breaks : MethodName := ⟨RX8, "breaks", "(I)I"⟩
abbrev cX8_cost : ByteArray := prog_1_method_8_code
def yX8_cost : MethodName := ⟨RX8, "cost", "(I)J"⟩
abbrev cX8_digest : ByteArray := prog_1_method_9_code
def yX8_digest : MethodName := ⟨RX8, "digest", "()I"⟩
abbrev cX8_begin : ByteArray := prog_1_method_10_code
def yX8_begin : MethodName := ⟨RX8, "begin", "()I"⟩
abbrev cX8_read : ByteArray := prog_1_method_11_code
def yX8_read : MethodName := ⟨RX8, "read", "()I"⟩
abbrev cX8_fault : ByteArray := prog_1_method_12_code
def yX8_fault : MethodName := ⟨RX8, "fault", "(I)I"⟩
abbrev cX8_row : ByteArray := prog_1_method_13_code
def yX8_row : MethodName := ⟨RX8, "row", "(II)J"⟩
abbrev cX8_assumes : ByteArray := prog_1_method_14_code
def yX8_assumes : MethodName := ⟨RX8, "assumes", "(II)I"⟩
abbrev cX8_holds : ByteArray := prog_1_method_15_code
def yX8_holds : MethodName := ⟨RX8, "holds", "(II)I"⟩
abbrev cX8_proved : ByteArray := prog_1_method_16_code
def yX8_proved : MethodName := ⟨RX8, "proved", "()I"⟩
abbrev cX8_best : ByteArray := prog_1_method_17_code
def yX8_best : MethodName := ⟨RX8, "best", "()J"⟩
abbrev cX8_least : ByteArray := prog_1_method_18_code
def yX8_least : MethodName := ⟨RX8, "least", "()J"⟩
abbrev cX8_trim : ByteArray := prog_1_method_19_code
def yX8_trim : MethodName := ⟨RX8, "trim", "(I)I"⟩
abbrev cX8_number : ByteArray := prog_1_method_20_code
def yX8_number : MethodName := ⟨RX8, "number", "(I)I"⟩
abbrev cX8_told : ByteArray := prog_1_method_21_code
def yX8_told : MethodName := ⟨RX8, "told", "(I)I"⟩
abbrev cX8_demandRow : ByteArray := prog_1_method_22_code
def yX8_demandRow : MethodName := ⟨RX8, "demandRow", "(I)V"⟩
def RX9 : String := "PlanCertificatesModel"
def TX9 : u_T := fun k => match k with
  | 0 => ("PlanCertificatesModel", "thrown", "I", false)
  | 1 => ("PlanCertificatesModel", "tape", "[I", true)
  | 2 => ("PlanCertificatesModel", "taped", "I", false)
  | 3 => ("PlanCertificatesModel", "variables", "I", false)
  | 4 => ("PlanCertificatesModel", "low", "[I", true)
  | 5 => ("PlanCertificatesModel", "high", "[I", true)
  | 6 => ("PlanCertificatesModel", "cost", "[I", true)
  | 7 => ("PlanCertificatesModel", "rules", "I", false)
  | 8 => ("PlanCertificatesModel", "ruleFactor", "[I", true)
  | 9 => ("PlanCertificatesModel", "ruleRight", "[I", true)
  | 10 => ("PlanCertificatesModel", "tables", "I", false)
  | 11 => ("PlanCertificatesModel", "first", "[I", true)
  | 12 => ("PlanCertificatesModel", "second", "[I", true)
  | 13 => ("PlanCertificatesModel", "pairs", "[I", true)
  | 14 => ("PlanCertificatesModel", "pairOne", "[I", true)
  | 15 => ("PlanCertificatesModel", "pairTwo", "[I", true)
  | 16 => ("PlanCertificatesModel", "digest", "I", false)
  | 17 => ("PlanCertificatesModel", "plans", "I", false)
  | 18 => ("PlanCertificatesModel", "planned", "[I", true)
  | 19 => ("PlanCertificatesModel", "begun", "Z", false)
  | 20 => ("PlanCertificatesModel", "numbers", "I", false)
  | 21 => ("PlanCertificatesModel", "number", "[I", true)
  | 22 => ("PlanCertificatesModel", "fault", "I", false)
  | 23 => ("PlanCertificatesModel", "faultRow", "I", false)
  | 24 => ("PlanCertificatesModel", "faultAt", "I", false)
  | 25 => ("PlanCertificatesModel", "from", "I", false)
  | 26 => ("PlanCertificatesModel", "rows", "I", false)
  | 27 => ("PlanCertificatesModel", "branches", "I", false)
  | 28 => ("PlanCertificatesModel", "rowFrom", "[I", true)
  | 29 => ("PlanCertificatesModel", "factor", "[J", true)
  | 30 => ("PlanCertificatesModel", "right", "[J", true)
  | 31 => ("PlanCertificatesModel", "hasLimit", "[Z", true)
  | 32 => ("PlanCertificatesModel", "limit", "[J", true)
  | 33 => ("PlanCertificatesModel", "assumed", "[Z", true)
  | 34 => ("PlanCertificatesModel", "needed", "[Z", true)
  | 35 => ("PlanCertificatesModel", "renamed", "[I", true)
  | 36 => ("PlanCertificatesModel", "kept", "[I", true)
  | 37 => ("PlanCertificatesModel", "at", "I", false)
  | 38 => ("PlanCertificatesModel", "bad", "Z", false)
  | _ => ("PlanCertificatesModel", "keeps", "Z", false)
def tyX9 : Nat → FieldType := fun k => match k with
  | 0 => .int
  | 1 => .array .int
  | 2 => .int
  | 3 => .int
  | 4 => .array .int
  | 5 => .array .int
  | 6 => .array .int
  | 7 => .int
  | 8 => .array .int
  | 9 => .array .int
  | 10 => .int
  | 11 => .array .int
  | 12 => .array .int
  | 13 => .array .int
  | 14 => .array .int
  | 15 => .array .int
  | 16 => .int
  | 17 => .int
  | 18 => .array .int
  | 19 => .boolean
  | 20 => .int
  | 21 => .array .int
  | 22 => .int
  | 23 => .int
  | 24 => .int
  | 25 => .int
  | 26 => .int
  | 27 => .int
  | 28 => .array .int
  | 29 => .array .long
  | 30 => .array .long
  | 31 => .array .boolean
  | 32 => .array .long
  | 33 => .array .boolean
  | 34 => .array .boolean
  | 35 => .array .int
  | 36 => .array .int
  | 37 => .int
  | 38 => .boolean
  | _ => .boolean
abbrev wsX90 : List Cond := u_ws RX9 TX9 40
theorem nmX9 : ∀ a, a < 40 → ∀ b, b < 40 → a ≠ b → (TX9 a).2.1 ≠ (TX9 b).2.1 := by decide +kernel
theorem tyX9_ok : ∀ k, k < 40 → parseFieldDescriptor (TX9 k).2.2.1 = some (tyX9 k) := by decide +kernel
abbrev cX9_init : ByteArray := prog_11_method_1_code
def yX9_init : MethodName := ⟨RX9, "<init>", "()V"⟩
abbrev cX9_thrown : ByteArray := prog_11_method_2_code
def yX9_thrown : MethodName := ⟨RX9, "thrown", "()I"⟩
abbrev cX9_in : ByteArray := prog_11_method_3_code
def yX9_in : MethodName := ⟨RX9, "in", "(III)Z"⟩
abbrev cX9_put : ByteArray := prog_11_method_4_code
def yX9_put : MethodName := ⟨RX9, "put", "(IIIII)I"⟩
abbrev cX9_drop : ByteArray := prog_11_method_5_code
def yX9_drop : MethodName := ⟨RX9, "drop", "()I"⟩
abbrev cX9_next : ByteArray := prog_11_method_6_code
def yX9_next : MethodName := ⟨RX9, "next", "(II)I"⟩
abbrev cX9_go : ByteArray := prog_11_method_7_code
def yX9_go : MethodName := ⟨RX9, "go", "()V"⟩
abbrev cX9_model : ByteArray := prog_11_method_8_code
def yX9_model : MethodName := ⟨RX9, "model", "()I"⟩
abbrev cX9_forget : ByteArray := prog_11_method_9_code
def yX9_forget : MethodName := ⟨RX9, "forget", "()V"⟩
abbrev cX9_plan : ByteArray := prog_11_method_10_code
def yX9_plan : MethodName := ⟨RX9, "plan", "()I"⟩
abbrev cX9_broken : ByteArray := prog_11_method_11_code
def yX9_broken : MethodName := ⟨RX9, "broken", "(I)I"⟩
abbrev cX9_breaks : ByteArray := prog_11_method_12_code
def yX9_breaks : MethodName := ⟨RX9, "breaks", "(I)I"⟩
abbrev cX9_costOf : ByteArray := prog_11_method_13_code
def yX9_costOf : MethodName := ⟨RX9, "costOf", "(I)J"⟩
abbrev cX9_refuses : ByteArray := prog_11_method_14_code
def yX9_refuses : MethodName := ⟨RX9, "refuses", "(Z)Z"⟩
abbrev cX9_cost : ByteArray := prog_11_method_15_code
def yX9_cost : MethodName := ⟨RX9, "cost", "(I)J"⟩
abbrev cX9_digest : ByteArray := prog_11_method_16_code
def yX9_digest : MethodName := ⟨RX9, "digest", "()I"⟩
abbrev cX9_begin : ByteArray := prog_11_method_17_code
def yX9_begin : MethodName := ⟨RX9, "begin", "()I"⟩
abbrev cX9_read : ByteArray := prog_11_method_18_code
def yX9_read : MethodName := ⟨RX9, "read", "()I"⟩
abbrev cX9_fails : ByteArray := prog_11_method_19_code
def yX9_fails : MethodName := ⟨RX9, "fails", "(III)V"⟩
abbrev cX9_take : ByteArray := prog_11_method_20_code
def yX9_take : MethodName := ⟨RX9, "take", "(I)V"⟩
abbrev cX9_of : ByteArray := prog_11_method_21_code
def yX9_of : MethodName := ⟨RX9, "of", "(I)I"⟩
abbrev cX9_length : ByteArray := prog_11_method_22_code
def yX9_length : MethodName := ⟨RX9, "length", "(I)I"⟩
abbrev cX9_isWhole : ByteArray := prog_11_method_23_code
def yX9_isWhole : MethodName := ⟨RX9, "isWhole", "()Z"⟩
abbrev cX9_variable : ByteArray := prog_11_method_24_code
def yX9_variable : MethodName := ⟨RX9, "variable", "(I)I"⟩
abbrev cX9_row : ByteArray := prog_11_method_25_code
def yX9_row : MethodName := ⟨RX9, "row", "(I)I"⟩
abbrev cX9_bounds : ByteArray := prog_11_method_26_code
def yX9_bounds : MethodName := ⟨RX9, "bounds", "(III)I"⟩
abbrev cX9_judged : ByteArray := prog_11_method_27_code
def yX9_judged : MethodName := ⟨RX9, "judged", "()I"⟩
abbrev cX9_says : ByteArray := prog_11_method_28_code
def yX9_says : MethodName := ⟨RX9, "says", "(IIJ)V"⟩
abbrev cX9_assumes : ByteArray := prog_11_method_29_code
def yX9_assumes : MethodName := ⟨RX9, "assumes", "(III)V"⟩
abbrev cX9_works : ByteArray := prog_11_method_30_code
def yX9_works : MethodName := ⟨RX9, "works", "()I"⟩
abbrev cX9_isGreat : ByteArray := prog_11_method_31_code
def yX9_isGreat : MethodName := ⟨RX9, "isGreat", "(I)Z"⟩
abbrev cX9_table : ByteArray := prog_11_method_32_code
def yX9_table : MethodName := ⟨RX9, "table", "(I)V"⟩
abbrev cX9_down : ByteArray := prog_11_method_33_code
def yX9_down : MethodName := ⟨RX9, "down", "(JJ)J"⟩
abbrev cX9_divides : ByteArray := prog_11_method_34_code
def yX9_divides : MethodName := ⟨RX9, "divides", "(I)I"⟩
abbrev cX9_kind : ByteArray := prog_11_method_35_code
def yX9_kind : MethodName := ⟨RX9, "kind", "(I)I"⟩
abbrev cX9_isImpossible : ByteArray := prog_11_method_36_code
def yX9_isImpossible : MethodName := ⟨RX9, "isImpossible", "(I)Z"⟩
abbrev cX9_joins : ByteArray := prog_11_method_37_code
def yX9_joins : MethodName := ⟨RX9, "joins", "(I)I"⟩
abbrev cX9_pushes : ByteArray := prog_11_method_38_code
def yX9_pushes : MethodName := ⟨RX9, "pushes", "(I)I"⟩
abbrev cX9_fault : ByteArray := prog_11_method_39_code
def yX9_fault : MethodName := ⟨RX9, "fault", "(I)I"⟩
abbrev cX9_assumptions : ByteArray := prog_11_method_40_code
def yX9_assumptions : MethodName := ⟨RX9, "assumptions", "(I)I"⟩
abbrev cX9_need : ByteArray := prog_11_method_41_code
def yX9_need : MethodName := ⟨RX9, "need", "(I)I"⟩
abbrev cX9_row_ : ByteArray := prog_11_method_42_code
def yX9_row_ : MethodName := ⟨RX9, "row", "(II)J"⟩
abbrev cX9_assumes_ : ByteArray := prog_11_method_43_code
def yX9_assumes_ : MethodName := ⟨RX9, "assumes", "(II)I"⟩
abbrev cX9_sum : ByteArray := prog_11_method_44_code
def yX9_sum : MethodName := ⟨RX9, "sum", "(II)J"⟩
abbrev cX9_holds : ByteArray := prog_11_method_45_code
def yX9_holds : MethodName := ⟨RX9, "holds", "(II)I"⟩
abbrev cX9_proof : ByteArray := prog_11_method_46_code
def yX9_proof : MethodName := ⟨RX9, "proof", "(Z)I"⟩
abbrev cX9_proved : ByteArray := prog_11_method_47_code
def yX9_proved : MethodName := ⟨RX9, "proved", "()I"⟩
abbrev cX9_best : ByteArray := prog_11_method_48_code
def yX9_best : MethodName := ⟨RX9, "best", "()J"⟩
abbrev cX9_times : ByteArray := prog_11_method_49_code
def yX9_times : MethodName := ⟨RX9, "times", "(I)J"⟩
abbrev cX9_least : ByteArray := prog_11_method_50_code
def yX9_least : MethodName := ⟨RX9, "least", "()J"⟩
abbrev cX9_trim : ByteArray := prog_11_method_51_code
def yX9_trim : MethodName := ⟨RX9, "trim", "(I)I"⟩
abbrev cX9_number : ByteArray := prog_11_method_52_code
def yX9_number : MethodName := ⟨RX9, "number", "(I)I"⟩
abbrev cX9_told : ByteArray := prog_11_method_53_code
def yX9_told : MethodName := ⟨RX9, "told", "(I)I"⟩
def RJ13 : String := "java/lang/Long"
def TJ13 : u_T := fun k => match k with
  | _ => ("", "", "", false)
def tyJ13 : Nat → FieldType := fun k => match k with
  | _ => .int
abbrev wsJ130 : List Cond := u_ws RJ13 TJ13 0
theorem nmJ13 : ∀ a, a < 0 → ∀ b, b < 0 → a ≠ b → (TJ13 a).2.1 ≠ (TJ13 b).2.1 := by decide +kernel
theorem tyJ13_ok : ∀ k, k < 0 → parseFieldDescriptor (TJ13 k).2.2.1 = some (tyJ13 k) := by decide +kernel
abbrev cJ13_bitCount_95d88 : ByteArray := prog_15_method_50_code
def yJ13_bitCount_95d88 : MethodName := ⟨RJ13, "bitCount", "(J)I"⟩
def RJ9 : String := "java/lang/Math"
def TJ9 : u_T := fun k => match k with
  | _ => ("", "", "", false)
def tyJ9 : Nat → FieldType := fun k => match k with
  | _ => .int
abbrev wsJ90 : List Cond := u_ws RJ9 TJ9 0
theorem nmJ9 : ∀ a, a < 0 → ∀ b, b < 0 → a ≠ b → (TJ9 a).2.1 ≠ (TJ9 b).2.1 := by decide +kernel
theorem tyJ9_ok : ∀ k, k < 0 → parseFieldDescriptor (TJ9 k).2.2.1 = some (tyJ9 k) := by decide +kernel
abbrev cJ9_floorDiv_f86c9 : ByteArray := prog_16_method_49_code
def yJ9_floorDiv_f86c9 : MethodName := ⟨RJ9, "floorDiv", "(JJ)J"⟩
abbrev cJ9_max_f86c9 : ByteArray := prog_16_method_66_code
def yJ9_max_f86c9 : MethodName := ⟨RJ9, "max", "(JJ)J"⟩
abbrev cJ9_min_f86c9 : ByteArray := prog_16_method_70_code
def yJ9_min_f86c9 : MethodName := ⟨RJ9, "min", "(JJ)J"⟩
def RJ0 : String := "java/lang/String"
def TJ0 : u_T := fun k => match k with
  | _ => ("", "", "", false)
def tyJ0 : Nat → FieldType := fun k => match k with
  | _ => .int
abbrev wsJ00 : List Cond := u_ws RJ0 TJ0 0
theorem nmJ0 : ∀ a, a < 0 → ∀ b, b < 0 → a ≠ b → (TJ0 a).2.1 ≠ (TJ0 b).2.1 := by decide +kernel
theorem tyJ0_ok : ∀ k, k < 0 → parseFieldDescriptor (TJ0 k).2.2.1 = some (tyJ0 k) := by decide +kernel
def RL : String := "PlanCertificatesLaw"
abbrev cL_cost : ByteArray := method_3_code
def yL_cost : MethodName := ⟨RL, "cost", "(LPlanCertificates;I[J)I"⟩
abbrev cL_row : ByteArray := method_4_code
def yL_row : MethodName := ⟨RL, "row", "(LPlanCertificates;II[J)I"⟩
abbrev cL_assumes : ByteArray := method_5_code
def yL_assumes : MethodName := ⟨RL, "assumes", "(LPlanCertificates;II[J)I"⟩
abbrev cL_holds : ByteArray := method_6_code
def yL_holds : MethodName := ⟨RL, "holds", "(LPlanCertificates;II[J)I"⟩
abbrev cL_best : ByteArray := method_7_code
def yL_best : MethodName := ⟨RL, "best", "(LPlanCertificates;[J)I"⟩
abbrev cL_least : ByteArray := method_8_code
def yL_least : MethodName := ⟨RL, "least", "(LPlanCertificates;[J)I"⟩
abbrev cL_trim : ByteArray := method_9_code
def yL_trim : MethodName := ⟨RL, "trim", "(LPlanCertificates;I[J)I"⟩
abbrev cL_number : ByteArray := method_10_code
def yL_number : MethodName := ⟨RL, "number", "(LPlanCertificates;I[J)I"⟩
abbrev cL_law : ByteArray := code
def yL_law : MethodName := ⟨RL, "law", "([I)Z"⟩
abbrev vwCl : List vw_C := [(RX0, TX0, 10), (RX1, TX1, 2), (RX2, TX2, 14), (RX4, TX4, 3), (RX5, TX5, 11), (RX6, TX6, 5), (RX7, TX7, 4), (RX8, TX8, 6), (RX9, TX9, 40)]
end
section
theorem dX0_init_0 : decode cX0_init 0 = .ok (.aload_n 0, 1) := by decide +kernel
theorem dX0_init_1 : decode cX0_init 1 = .ok (.invokespecial 3, 3) := by decide +kernel
theorem dX0_init_4 : decode cX0_init 4 = .ok (.aload_n 0, 1) := by decide +kernel
theorem dX0_init_5 : decode cX0_init 5 = .ok (.sipush 1500, 3) := by decide +kernel
theorem dX0_init_8 : decode cX0_init 8 = .ok (.newarray .int, 2) := by decide +kernel
theorem dX0_init_10 : decode cX0_init 10 = .ok (.putfield 9, 3) := by decide +kernel
theorem dX0_init_13 : decode cX0_init 13 = .ok (.aload_n 0, 1) := by decide +kernel
theorem dX0_init_14 : decode cX0_init 14 = .ok (.iconst (-1), 1) := by decide +kernel
theorem dX0_init_15 : decode cX0_init 15 = .ok (.putfield 15, 3) := by decide +kernel
theorem dX0_init_18 : decode cX0_init 18 = .ok (.aload_n 0, 1) := by decide +kernel
theorem dX0_init_19 : decode cX0_init 19 = .ok (.iconst (-1), 1) := by decide +kernel
theorem dX0_init_20 : decode cX0_init 20 = .ok (.putfield 19, 3) := by decide +kernel
theorem dX0_init_23 : decode cX0_init 23 = .ok (.aload_n 0, 1) := by decide +kernel
theorem dX0_init_24 : decode cX0_init 24 = .ok (.new 22, 3) := by decide +kernel
theorem dX0_init_27 : decode cX0_init 27 = .ok (.dup, 1) := by decide +kernel
theorem dX0_init_28 : decode cX0_init 28 = .ok (.invokespecial 24, 3) := by decide +kernel
theorem dX0_init_31 : decode cX0_init 31 = .ok (.putfield 25, 3) := by decide +kernel
theorem dX0_init_34 : decode cX0_init 34 = .ok (.aload_n 0, 1) := by decide +kernel
theorem dX0_init_35 : decode cX0_init 35 = .ok (.new 29, 3) := by decide +kernel
theorem dX0_init_38 : decode cX0_init 38 = .ok (.dup, 1) := by decide +kernel
theorem dX0_init_39 : decode cX0_init 39 = .ok (.invokespecial 31, 3) := by decide +kernel
theorem dX0_init_42 : decode cX0_init 42 = .ok (.putfield 32, 3) := by decide +kernel
theorem dX0_init_45 : decode cX0_init 45 = .ok (.aload_n 0, 1) := by decide +kernel
theorem dX0_init_46 : decode cX0_init 46 = .ok (.sipush 200, 3) := by decide +kernel
theorem dX0_init_49 : decode cX0_init 49 = .ok (.newarray .boolean, 2) := by decide +kernel
theorem dX0_init_51 : decode cX0_init 51 = .ok (.putfield 36, 3) := by decide +kernel
theorem dX0_init_54 : decode cX0_init 54 = .ok (.aload_n 0, 1) := by decide +kernel
theorem dX0_init_55 : decode cX0_init 55 = .ok (.sipush 200, 3) := by decide +kernel
theorem dX0_init_58 : decode cX0_init 58 = .ok (.newarray .int, 2) := by decide +kernel
theorem dX0_init_60 : decode cX0_init 60 = .ok (.putfield 40, 3) := by decide +kernel
theorem dX0_init_63 : decode cX0_init 63 = .ok (.return_, 1) := by decide +kernel
theorem dX0_start_0 : decode cX0_start 0 = .ok (.aload_n 0, 1) := by decide +kernel
theorem dX0_start_1 : decode cX0_start 1 = .ok (.invokevirtual 43, 3) := by decide +kernel
theorem dX0_start_4 : decode cX0_start 4 = .ok (.aload_n 0, 1) := by decide +kernel
theorem dX0_start_5 : decode cX0_start 5 = .ok (.iconst 1, 1) := by decide +kernel
theorem dX0_start_6 : decode cX0_start 6 = .ok (.putfield 46, 3) := by decide +kernel
theorem dX0_start_9 : decode cX0_start 9 = .ok (.return_, 1) := by decide +kernel
theorem dX0_end_0 : decode cX0_end 0 = .ok (.aload_n 0, 1) := by decide +kernel
theorem dX0_end_1 : decode cX0_end 1 = .ok (.iconst 0, 1) := by decide +kernel
theorem dX0_end_2 : decode cX0_end 2 = .ok (.putfield 46, 3) := by decide +kernel
theorem dX0_end_5 : decode cX0_end 5 = .ok (.aload_n 0, 1) := by decide +kernel
theorem dX0_end_6 : decode cX0_end 6 = .ok (.iconst 0, 1) := by decide +kernel
theorem dX0_end_7 : decode cX0_end 7 = .ok (.putfield 50, 3) := by decide +kernel
theorem dX0_end_10 : decode cX0_end 10 = .ok (.aload_n 0, 1) := by decide +kernel
theorem dX0_end_11 : decode cX0_end 11 = .ok (.iconst 0, 1) := by decide +kernel
theorem dX0_end_12 : decode cX0_end 12 = .ok (.putfield 53, 3) := by decide +kernel
theorem dX0_end_15 : decode cX0_end 15 = .ok (.aload_n 0, 1) := by decide +kernel
theorem dX0_end_16 : decode cX0_end 16 = .ok (.iconst (-1), 1) := by decide +kernel
theorem dX0_end_17 : decode cX0_end 17 = .ok (.putfield 15, 3) := by decide +kernel
theorem dX0_end_20 : decode cX0_end 20 = .ok (.aload_n 0, 1) := by decide +kernel
theorem dX0_end_21 : decode cX0_end 21 = .ok (.iconst (-1), 1) := by decide +kernel
theorem dX0_end_22 : decode cX0_end 22 = .ok (.putfield 19, 3) := by decide +kernel
theorem dX0_end_25 : decode cX0_end 25 = .ok (.aload_n 0, 1) := by decide +kernel
theorem dX0_end_26 : decode cX0_end 26 = .ok (.getfield 25, 3) := by decide +kernel
theorem dX0_end_29 : decode cX0_end 29 = .ok (.invokevirtual 56, 3) := by decide +kernel
theorem dX0_end_32 : decode cX0_end 32 = .ok (.aload_n 0, 1) := by decide +kernel
theorem dX0_end_33 : decode cX0_end 33 = .ok (.getfield 32, 3) := by decide +kernel
theorem dX0_end_36 : decode cX0_end 36 = .ok (.invokevirtual 59, 3) := by decide +kernel
theorem dX0_end_39 : decode cX0_end 39 = .ok (.return_, 1) := by decide +kernel
theorem dX0_numberAt_0 : decode cX0_numberAt 0 = .ok (.iload_n 1, 1) := by decide +kernel
theorem dX0_numberAt_1 : decode cX0_numberAt 1 = .ok (.ifCond .lt 19, 3) := by decide +kernel
theorem dX0_numberAt_4 : decode cX0_numberAt 4 = .ok (.iload_n 1, 1) := by decide +kernel
theorem dX0_numberAt_5 : decode cX0_numberAt 5 = .ok (.sipush 1500, 3) := by decide +kernel
theorem dX0_numberAt_8 : decode cX0_numberAt 8 = .ok (.if_icmp .ge 12, 3) := by decide +kernel
theorem dX0_numberAt_11 : decode cX0_numberAt 11 = .ok (.aload_n 0, 1) := by decide +kernel
theorem dX0_numberAt_12 : decode cX0_numberAt 12 = .ok (.getfield 9, 3) := by decide +kernel
theorem dX0_numberAt_15 : decode cX0_numberAt 15 = .ok (.iload_n 1, 1) := by decide +kernel
theorem dX0_numberAt_16 : decode cX0_numberAt 16 = .ok (.iaload, 1) := by decide +kernel
theorem dX0_numberAt_17 : decode cX0_numberAt 17 = .ok (.goto 4, 3) := by decide +kernel
theorem dX0_numberAt_20 : decode cX0_numberAt 20 = .ok (.iconst 0, 1) := by decide +kernel
theorem dX0_numberAt_21 : decode cX0_numberAt 21 = .ok (.ireturn, 1) := by decide +kernel
theorem dX0_setNumber_0 : decode cX0_setNumber 0 = .ok (.iload_n 1, 1) := by decide +kernel
theorem dX0_setNumber_1 : decode cX0_setNumber 1 = .ok (.ifCond .lt 17, 3) := by decide +kernel
theorem dX0_setNumber_4 : decode cX0_setNumber 4 = .ok (.iload_n 1, 1) := by decide +kernel
theorem dX0_setNumber_5 : decode cX0_setNumber 5 = .ok (.sipush 1500, 3) := by decide +kernel
theorem dX0_setNumber_8 : decode cX0_setNumber 8 = .ok (.if_icmp .ge 10, 3) := by decide +kernel
theorem dX0_setNumber_11 : decode cX0_setNumber 11 = .ok (.aload_n 0, 1) := by decide +kernel
theorem dX0_setNumber_12 : decode cX0_setNumber 12 = .ok (.getfield 9, 3) := by decide +kernel
theorem dX0_setNumber_15 : decode cX0_setNumber 15 = .ok (.iload_n 1, 1) := by decide +kernel
theorem dX0_setNumber_16 : decode cX0_setNumber 16 = .ok (.iload_n 2, 1) := by decide +kernel
theorem dX0_setNumber_17 : decode cX0_setNumber 17 = .ok (.iastore, 1) := by decide +kernel
theorem dX0_setNumber_18 : decode cX0_setNumber 18 = .ok (.return_, 1) := by decide +kernel
theorem dX0_take_0 : decode cX0_take 0 = .ok (.aload_n 0, 1) := by decide +kernel
theorem dX0_take_1 : decode cX0_take 1 = .ok (.getfield 53, 3) := by decide +kernel
theorem dX0_take_4 : decode cX0_take 4 = .ok (.ifCond .eq 4, 3) := by decide +kernel
theorem dX0_take_7 : decode cX0_take 7 = .ok (.return_, 1) := by decide +kernel
theorem dX0_take_8 : decode cX0_take 8 = .ok (.aload_n 0, 1) := by decide +kernel
theorem dX0_take_9 : decode cX0_take 9 = .ok (.getfield 50, 3) := by decide +kernel
theorem dX0_take_12 : decode cX0_take 12 = .ok (.istore 4, 2) := by decide +kernel
theorem dX0_take_14 : decode cX0_take 14 = .ok (.bipush 9, 2) := by decide +kernel
theorem dX0_take_16 : decode cX0_take 16 = .ok (.istore 5, 2) := by decide +kernel
theorem dX0_take_18 : decode cX0_take 18 = .ok (.iload 4, 2) := by decide +kernel
theorem dX0_take_20 : decode cX0_take 20 = .ok (.sipush 1500, 3) := by decide +kernel
theorem dX0_take_23 : decode cX0_take 23 = .ok (.if_icmp .ge 42, 3) := by decide +kernel
theorem dX0_take_26 : decode cX0_take 26 = .ok (.aload_n 0, 1) := by decide +kernel
theorem dX0_take_27 : decode cX0_take 27 = .ok (.iload 4, 2) := by decide +kernel
theorem dX0_take_29 : decode cX0_take 29 = .ok (.iload_n 1, 1) := by decide +kernel
theorem dX0_take_30 : decode cX0_take 30 = .ok (.invokevirtual 60, 3) := by decide +kernel
theorem dX0_take_33 : decode cX0_take 33 = .ok (.aload_n 0, 1) := by decide +kernel
theorem dX0_take_34 : decode cX0_take 34 = .ok (.dup, 1) := by decide +kernel
theorem dX0_take_35 : decode cX0_take 35 = .ok (.getfield 50, 3) := by decide +kernel
theorem dX0_take_38 : decode cX0_take 38 = .ok (.iconst 1, 1) := by decide +kernel
theorem dX0_take_39 : decode cX0_take 39 = .ok (.iadd, 1) := by decide +kernel
theorem dX0_take_40 : decode cX0_take 40 = .ok (.putfield 50, 3) := by decide +kernel
theorem dX0_take_43 : decode cX0_take 43 = .ok (.iload 4, 2) := by decide +kernel
theorem dX0_take_45 : decode cX0_take 45 = .ok (.ifCond .ne 11, 3) := by decide +kernel
theorem dX0_take_48 : decode cX0_take 48 = .ok (.iload_n 1, 1) := by decide +kernel
theorem dX0_take_49 : decode cX0_take 49 = .ok (.aload_n 2, 1) := by decide +kernel
theorem dX0_take_50 : decode cX0_take 50 = .ok (.invokestatic 64, 3) := by decide +kernel
theorem dX0_take_53 : decode cX0_take 53 = .ok (.goto 10, 3) := by decide +kernel
theorem dX0_take_56 : decode cX0_take 56 = .ok (.aload_n 0, 1) := by decide +kernel
theorem dX0_take_57 : decode cX0_take 57 = .ok (.iload_n 1, 1) := by decide +kernel
theorem dX0_take_58 : decode cX0_take 58 = .ok (.aload_n 2, 1) := by decide +kernel
theorem dX0_take_59 : decode cX0_take 59 = .ok (.aload_n 3, 1) := by decide +kernel
theorem dX0_take_60 : decode cX0_take 60 = .ok (.invokevirtual 68, 3) := by decide +kernel
theorem dX0_take_63 : decode cX0_take 63 = .ok (.istore 5, 2) := by decide +kernel
theorem dX0_take_65 : decode cX0_take 65 = .ok (.iload 5, 2) := by decide +kernel
theorem dX0_take_67 : decode cX0_take 67 = .ok (.ifCond .eq 35, 3) := by decide +kernel
theorem dX0_take_70 : decode cX0_take 70 = .ok (.aload_n 0, 1) := by decide +kernel
theorem dX0_take_71 : decode cX0_take 71 = .ok (.iload 5, 2) := by decide +kernel
theorem dX0_take_73 : decode cX0_take 73 = .ok (.putfield 53, 3) := by decide +kernel
theorem dX0_take_76 : decode cX0_take 76 = .ok (.aload_n 0, 1) := by decide +kernel
theorem dX0_take_77 : decode cX0_take 77 = .ok (.iload 4, 2) := by decide +kernel
theorem dX0_take_79 : decode cX0_take 79 = .ok (.ifCond .ne 7, 3) := by decide +kernel
theorem dX0_take_82 : decode cX0_take 82 = .ok (.iconst (-1), 1) := by decide +kernel
theorem dX0_take_83 : decode cX0_take 83 = .ok (.goto 10, 3) := by decide +kernel
theorem dX0_take_86 : decode cX0_take 86 = .ok (.aload_n 0, 1) := by decide +kernel
theorem dX0_take_87 : decode cX0_take 87 = .ok (.getfield 25, 3) := by decide +kernel
theorem dX0_take_90 : decode cX0_take 90 = .ok (.getfield 72, 3) := by decide +kernel
theorem dX0_take_93 : decode cX0_take 93 = .ok (.putfield 15, 3) := by decide +kernel
theorem dX0_take_96 : decode cX0_take 96 = .ok (.aload_n 0, 1) := by decide +kernel
theorem dX0_take_97 : decode cX0_take 97 = .ok (.iload 4, 2) := by decide +kernel
theorem dX0_take_99 : decode cX0_take 99 = .ok (.putfield 19, 3) := by decide +kernel
theorem dX0_take_102 : decode cX0_take 102 = .ok (.return_, 1) := by decide +kernel
theorem dX0_faultOfDigest_0 : decode cX0_faultOfDigest 0 = .ok (.iload_n 0, 1) := by decide +kernel
theorem dX0_faultOfDigest_1 : decode cX0_faultOfDigest 1 = .ok (.aload_n 1, 1) := by decide +kernel
theorem dX0_faultOfDigest_2 : decode cX0_faultOfDigest 2 = .ok (.getfield 75, 3) := by decide +kernel
theorem dX0_faultOfDigest_5 : decode cX0_faultOfDigest 5 = .ok (.if_icmp .ne 7, 3) := by decide +kernel
theorem dX0_faultOfDigest_8 : decode cX0_faultOfDigest 8 = .ok (.iconst 0, 1) := by decide +kernel
theorem dX0_faultOfDigest_9 : decode cX0_faultOfDigest 9 = .ok (.goto 4, 3) := by decide +kernel
theorem dX0_faultOfDigest_12 : decode cX0_faultOfDigest 12 = .ok (.iconst 1, 1) := by decide +kernel
theorem dX0_faultOfDigest_13 : decode cX0_faultOfDigest 13 = .ok (.ireturn, 1) := by decide +kernel
theorem dX0_judge_0 : decode cX0_judge 0 = .ok (.aload_n 0, 1) := by decide +kernel
theorem dX0_judge_1 : decode cX0_judge 1 = .ok (.getfield 32, 3) := by decide +kernel
theorem dX0_judge_4 : decode cX0_judge 4 = .ok (.iload_n 1, 1) := by decide +kernel
theorem dX0_judge_5 : decode cX0_judge 5 = .ok (.aload_n 0, 1) := by decide +kernel
theorem dX0_judge_6 : decode cX0_judge 6 = .ok (.getfield 25, 3) := by decide +kernel
theorem dX0_judge_9 : decode cX0_judge 9 = .ok (.aload_n 2, 1) := by decide +kernel
theorem dX0_judge_10 : decode cX0_judge 10 = .ok (.aload_n 3, 1) := by decide +kernel
theorem dX0_judge_11 : decode cX0_judge 11 = .ok (.invokevirtual 80, 3) := by decide +kernel
theorem dX0_judge_14 : decode cX0_judge 14 = .ok (.istore 4, 2) := by decide +kernel
theorem dX0_judge_16 : decode cX0_judge 16 = .ok (.iload 4, 2) := by decide +kernel
theorem dX0_judge_18 : decode cX0_judge 18 = .ok (.ifCond .eq 6, 3) := by decide +kernel
theorem dX0_judge_21 : decode cX0_judge 21 = .ok (.iload 4, 2) := by decide +kernel
theorem dX0_judge_23 : decode cX0_judge 23 = .ok (.ireturn, 1) := by decide +kernel
theorem dX0_judge_24 : decode cX0_judge 24 = .ok (.aload_n 0, 1) := by decide +kernel
theorem dX0_judge_25 : decode cX0_judge 25 = .ok (.getfield 32, 3) := by decide +kernel
theorem dX0_judge_28 : decode cX0_judge 28 = .ok (.iload_n 1, 1) := by decide +kernel
theorem dX0_judge_29 : decode cX0_judge 29 = .ok (.invokevirtual 84, 3) := by decide +kernel
theorem dX0_judge_32 : decode cX0_judge 32 = .ok (.aload_n 0, 1) := by decide +kernel
theorem dX0_judge_33 : decode cX0_judge 33 = .ok (.getfield 32, 3) := by decide +kernel
theorem dX0_judge_36 : decode cX0_judge 36 = .ok (.invokevirtual 88, 3) := by decide +kernel
theorem dX0_judge_39 : decode cX0_judge 39 = .ok (.ifCond .ne 5, 3) := by decide +kernel
theorem dX0_judge_42 : decode cX0_judge 42 = .ok (.iconst 0, 1) := by decide +kernel
theorem dX0_judge_43 : decode cX0_judge 43 = .ok (.ireturn, 1) := by decide +kernel
theorem dX0_judge_44 : decode cX0_judge 44 = .ok (.aload_n 0, 1) := by decide +kernel
theorem dX0_judge_45 : decode cX0_judge 45 = .ok (.getfield 25, 3) := by decide +kernel
theorem dX0_judge_48 : decode cX0_judge 48 = .ok (.invokevirtual 92, 3) := by decide +kernel
theorem dX0_judge_51 : decode cX0_judge 51 = .ok (.astore 5, 2) := by decide +kernel
theorem dX0_judge_53 : decode cX0_judge 53 = .ok (.aload 5, 2) := by decide +kernel
theorem dX0_judge_55 : decode cX0_judge 55 = .ok (.aload_n 0, 1) := by decide +kernel
theorem dX0_judge_56 : decode cX0_judge 56 = .ok (.getfield 50, 3) := by decide +kernel
theorem dX0_judge_59 : decode cX0_judge 59 = .ok (.aload_n 0, 1) := by decide +kernel
theorem dX0_judge_60 : decode cX0_judge 60 = .ok (.getfield 32, 3) := by decide +kernel
theorem dX0_judge_63 : decode cX0_judge 63 = .ok (.getfield 96, 3) := by decide +kernel
theorem dX0_judge_66 : decode cX0_judge 66 = .ok (.isub, 1) := by decide +kernel
theorem dX0_judge_67 : decode cX0_judge 67 = .ok (.putfield 97, 3) := by decide +kernel
theorem dX0_judge_70 : decode cX0_judge 70 = .ok (.aload_n 0, 1) := by decide +kernel
theorem dX0_judge_71 : decode cX0_judge 71 = .ok (.getfield 32, 3) := by decide +kernel
theorem dX0_judge_74 : decode cX0_judge 74 = .ok (.aload 5, 2) := by decide +kernel
theorem dX0_judge_76 : decode cX0_judge 76 = .ok (.aload_n 0, 1) := by decide +kernel
theorem dX0_judge_77 : decode cX0_judge 77 = .ok (.getfield 25, 3) := by decide +kernel
theorem dX0_judge_80 : decode cX0_judge 80 = .ok (.aload_n 2, 1) := by decide +kernel
theorem dX0_judge_81 : decode cX0_judge 81 = .ok (.aload_n 3, 1) := by decide +kernel
theorem dX0_judge_82 : decode cX0_judge 82 = .ok (.invokevirtual 102, 3) := by decide +kernel
theorem dX0_judge_85 : decode cX0_judge 85 = .ok (.istore 4, 2) := by decide +kernel
theorem dX0_judge_87 : decode cX0_judge 87 = .ok (.iload 4, 2) := by decide +kernel
theorem dX0_judge_89 : decode cX0_judge 89 = .ok (.ifCond .eq 6, 3) := by decide +kernel
theorem dX0_judge_92 : decode cX0_judge 92 = .ok (.iload 4, 2) := by decide +kernel
theorem dX0_judge_94 : decode cX0_judge 94 = .ok (.ireturn, 1) := by decide +kernel
theorem dX0_judge_95 : decode cX0_judge 95 = .ok (.aload 5, 2) := by decide +kernel
theorem dX0_judge_97 : decode cX0_judge 97 = .ok (.invokevirtual 106, 3) := by decide +kernel
theorem dX0_judge_100 : decode cX0_judge 100 = .ok (.ifCond .eq 6, 3) := by decide +kernel
theorem dX0_judge_103 : decode cX0_judge 103 = .ok (.bipush 8, 2) := by decide +kernel
theorem dX0_judge_105 : decode cX0_judge 105 = .ok (.ireturn, 1) := by decide +kernel
theorem dX0_judge_106 : decode cX0_judge 106 = .ok (.aload_n 0, 1) := by decide +kernel
theorem dX0_judge_107 : decode cX0_judge 107 = .ok (.getfield 25, 3) := by decide +kernel
theorem dX0_judge_110 : decode cX0_judge 110 = .ok (.invokevirtual 109, 3) := by decide +kernel
theorem dX0_judge_113 : decode cX0_judge 113 = .ok (.aload_n 0, 1) := by decide +kernel
theorem dX0_judge_114 : decode cX0_judge 114 = .ok (.getfield 32, 3) := by decide +kernel
theorem dX0_judge_117 : decode cX0_judge 117 = .ok (.invokevirtual 59, 3) := by decide +kernel
theorem dX0_judge_120 : decode cX0_judge 120 = .ok (.iconst 0, 1) := by decide +kernel
theorem dX0_judge_121 : decode cX0_judge 121 = .ok (.ireturn, 1) := by decide +kernel
theorem dX0_markNeeded_0 : decode cX0_markNeeded 0 = .ok (.iconst 0, 1) := by decide +kernel
theorem dX0_markNeeded_1 : decode cX0_markNeeded 1 = .ok (.istore_n 2, 1) := by decide +kernel
theorem dX0_markNeeded_2 : decode cX0_markNeeded 2 = .ok (.iload_n 2, 1) := by decide +kernel
theorem dX0_markNeeded_3 : decode cX0_markNeeded 3 = .ok (.sipush 200, 3) := by decide +kernel
theorem dX0_markNeeded_6 : decode cX0_markNeeded 6 = .ok (.if_icmp .ge 25, 3) := by decide +kernel
theorem dX0_markNeeded_9 : decode cX0_markNeeded 9 = .ok (.aload_n 0, 1) := by decide +kernel
theorem dX0_markNeeded_10 : decode cX0_markNeeded 10 = .ok (.getfield 36, 3) := by decide +kernel
theorem dX0_markNeeded_13 : decode cX0_markNeeded 13 = .ok (.iload_n 2, 1) := by decide +kernel
theorem dX0_markNeeded_14 : decode cX0_markNeeded 14 = .ok (.iload_n 2, 1) := by decide +kernel
theorem dX0_markNeeded_15 : decode cX0_markNeeded 15 = .ok (.iload_n 1, 1) := by decide +kernel
theorem dX0_markNeeded_16 : decode cX0_markNeeded 16 = .ok (.if_icmp .ne 7, 3) := by decide +kernel
theorem dX0_markNeeded_19 : decode cX0_markNeeded 19 = .ok (.iconst 1, 1) := by decide +kernel
theorem dX0_markNeeded_20 : decode cX0_markNeeded 20 = .ok (.goto 4, 3) := by decide +kernel
theorem dX0_markNeeded_23 : decode cX0_markNeeded 23 = .ok (.iconst 0, 1) := by decide +kernel
theorem dX0_markNeeded_24 : decode cX0_markNeeded 24 = .ok (.bastore, 1) := by decide +kernel
theorem dX0_markNeeded_25 : decode cX0_markNeeded 25 = .ok (.iinc 2 1, 3) := by decide +kernel
theorem dX0_markNeeded_28 : decode cX0_markNeeded 28 = .ok (.goto (-26), 3) := by decide +kernel
theorem dX0_markNeeded_31 : decode cX0_markNeeded 31 = .ok (.iconst 0, 1) := by decide +kernel
theorem dX0_markNeeded_32 : decode cX0_markNeeded 32 = .ok (.istore_n 2, 1) := by decide +kernel
theorem dX0_markNeeded_33 : decode cX0_markNeeded 33 = .ok (.sipush 199, 3) := by decide +kernel
theorem dX0_markNeeded_36 : decode cX0_markNeeded 36 = .ok (.istore_n 3, 1) := by decide +kernel
theorem dX0_markNeeded_37 : decode cX0_markNeeded 37 = .ok (.iload_n 3, 1) := by decide +kernel
theorem dX0_markNeeded_38 : decode cX0_markNeeded 38 = .ok (.ifCond .lt 33, 3) := by decide +kernel
theorem dX0_markNeeded_41 : decode cX0_markNeeded 41 = .ok (.aload_n 0, 1) := by decide +kernel
theorem dX0_markNeeded_42 : decode cX0_markNeeded 42 = .ok (.getfield 36, 3) := by decide +kernel
theorem dX0_markNeeded_45 : decode cX0_markNeeded 45 = .ok (.iload_n 3, 1) := by decide +kernel
theorem dX0_markNeeded_46 : decode cX0_markNeeded 46 = .ok (.baload, 1) := by decide +kernel
theorem dX0_markNeeded_47 : decode cX0_markNeeded 47 = .ok (.ifCond .eq 18, 3) := by decide +kernel
theorem dX0_markNeeded_50 : decode cX0_markNeeded 50 = .ok (.iinc 2 1, 3) := by decide +kernel
theorem dX0_markNeeded_53 : decode cX0_markNeeded 53 = .ok (.aload_n 0, 1) := by decide +kernel
theorem dX0_markNeeded_54 : decode cX0_markNeeded 54 = .ok (.aload_n 0, 1) := by decide +kernel
theorem dX0_markNeeded_55 : decode cX0_markNeeded 55 = .ok (.getfield 25, 3) := by decide +kernel
theorem dX0_markNeeded_58 : decode cX0_markNeeded 58 = .ok (.iload_n 3, 1) := by decide +kernel
theorem dX0_markNeeded_59 : decode cX0_markNeeded 59 = .ok (.invokevirtual 112, 3) := by decide +kernel
theorem dX0_markNeeded_62 : decode cX0_markNeeded 62 = .ok (.invokevirtual 116, 3) := by decide +kernel
theorem dX0_markNeeded_65 : decode cX0_markNeeded 65 = .ok (.iinc 3 (-1), 3) := by decide +kernel
theorem dX0_markNeeded_68 : decode cX0_markNeeded 68 = .ok (.goto (-31), 3) := by decide +kernel
theorem dX0_markNeeded_71 : decode cX0_markNeeded 71 = .ok (.iload_n 2, 1) := by decide +kernel
theorem dX0_markNeeded_72 : decode cX0_markNeeded 72 = .ok (.ireturn, 1) := by decide +kernel
theorem dX0_markSources_0 : decode cX0_markSources 0 = .ok (.iconst 1, 1) := by decide +kernel
theorem dX0_markSources_1 : decode cX0_markSources 1 = .ok (.istore_n 2, 1) := by decide +kernel
theorem dX0_markSources_2 : decode cX0_markSources 2 = .ok (.iload_n 2, 1) := by decide +kernel
theorem dX0_markSources_3 : decode cX0_markSources 3 = .ok (.aload_n 1, 1) := by decide +kernel
theorem dX0_markSources_4 : decode cX0_markSources 4 = .ok (.getfield 120, 3) := by decide +kernel
theorem dX0_markSources_7 : decode cX0_markSources 7 = .ok (.if_icmp .ge 51, 3) := by decide +kernel
theorem dX0_markSources_10 : decode cX0_markSources 10 = .ok (.aload_n 0, 1) := by decide +kernel
theorem dX0_markSources_11 : decode cX0_markSources 11 = .ok (.aload_n 1, 1) := by decide +kernel
theorem dX0_markSources_12 : decode cX0_markSources 12 = .ok (.getfield 97, 3) := by decide +kernel
theorem dX0_markSources_15 : decode cX0_markSources 15 = .ok (.iload_n 2, 1) := by decide +kernel
theorem dX0_markSources_16 : decode cX0_markSources 16 = .ok (.iadd, 1) := by decide +kernel
theorem dX0_markSources_17 : decode cX0_markSources 17 = .ok (.invokevirtual 123, 3) := by decide +kernel
theorem dX0_markSources_20 : decode cX0_markSources 20 = .ok (.istore_n 3, 1) := by decide +kernel
theorem dX0_markSources_21 : decode cX0_markSources 21 = .ok (.aload_n 1, 1) := by decide +kernel
theorem dX0_markSources_22 : decode cX0_markSources 22 = .ok (.getfield 127, 3) := by decide +kernel
theorem dX0_markSources_25 : decode cX0_markSources 25 = .ok (.iload_n 2, 1) := by decide +kernel
theorem dX0_markSources_26 : decode cX0_markSources 26 = .ok (.invokestatic 130, 3) := by decide +kernel
theorem dX0_markSources_29 : decode cX0_markSources 29 = .ok (.bipush 6, 2) := by decide +kernel
theorem dX0_markSources_31 : decode cX0_markSources 31 = .ok (.if_icmp .ne 21, 3) := by decide +kernel
theorem dX0_markSources_34 : decode cX0_markSources 34 = .ok (.aload_n 0, 1) := by decide +kernel
theorem dX0_markSources_35 : decode cX0_markSources 35 = .ok (.getfield 25, 3) := by decide +kernel
theorem dX0_markSources_38 : decode cX0_markSources 38 = .ok (.iload_n 3, 1) := by decide +kernel
theorem dX0_markSources_39 : decode cX0_markSources 39 = .ok (.invokevirtual 134, 3) := by decide +kernel
theorem dX0_markSources_42 : decode cX0_markSources 42 = .ok (.ifCond .eq 10, 3) := by decide +kernel
theorem dX0_markSources_45 : decode cX0_markSources 45 = .ok (.aload_n 0, 1) := by decide +kernel
theorem dX0_markSources_46 : decode cX0_markSources 46 = .ok (.getfield 36, 3) := by decide +kernel
theorem dX0_markSources_49 : decode cX0_markSources 49 = .ok (.iload_n 3, 1) := by decide +kernel
theorem dX0_markSources_50 : decode cX0_markSources 50 = .ok (.iconst 1, 1) := by decide +kernel
theorem dX0_markSources_51 : decode cX0_markSources 51 = .ok (.bastore, 1) := by decide +kernel
theorem dX0_markSources_52 : decode cX0_markSources 52 = .ok (.iinc 2 1, 3) := by decide +kernel
theorem dX0_markSources_55 : decode cX0_markSources 55 = .ok (.goto (-53), 3) := by decide +kernel
theorem dX0_markSources_58 : decode cX0_markSources 58 = .ok (.return_, 1) := by decide +kernel
theorem dX0_closeGaps_0 : decode cX0_closeGaps 0 = .ok (.aload_n 0, 1) := by decide +kernel
theorem dX0_closeGaps_1 : decode cX0_closeGaps 1 = .ok (.iload_n 1, 1) := by decide +kernel
theorem dX0_closeGaps_2 : decode cX0_closeGaps 2 = .ok (.invokevirtual 138, 3) := by decide +kernel
theorem dX0_closeGaps_5 : decode cX0_closeGaps 5 = .ok (.pop, 1) := by decide +kernel
theorem dX0_closeGaps_6 : decode cX0_closeGaps 6 = .ok (.iconst 1, 1) := by decide +kernel
theorem dX0_closeGaps_7 : decode cX0_closeGaps 7 = .ok (.istore_n 2, 1) := by decide +kernel
theorem dX0_closeGaps_8 : decode cX0_closeGaps 8 = .ok (.iconst 0, 1) := by decide +kernel
theorem dX0_closeGaps_9 : decode cX0_closeGaps 9 = .ok (.istore_n 3, 1) := by decide +kernel
theorem dX0_closeGaps_10 : decode cX0_closeGaps 10 = .ok (.iconst 0, 1) := by decide +kernel
theorem dX0_closeGaps_11 : decode cX0_closeGaps 11 = .ok (.istore 4, 2) := by decide +kernel
theorem dX0_closeGaps_13 : decode cX0_closeGaps 13 = .ok (.iload 4, 2) := by decide +kernel
theorem dX0_closeGaps_15 : decode cX0_closeGaps 15 = .ok (.sipush 200, 3) := by decide +kernel
theorem dX0_closeGaps_18 : decode cX0_closeGaps 18 = .ok (.if_icmp .ge 45, 3) := by decide +kernel
theorem dX0_closeGaps_21 : decode cX0_closeGaps 21 = .ok (.aload_n 0, 1) := by decide +kernel
theorem dX0_closeGaps_22 : decode cX0_closeGaps 22 = .ok (.getfield 36, 3) := by decide +kernel
theorem dX0_closeGaps_25 : decode cX0_closeGaps 25 = .ok (.iload 4, 2) := by decide +kernel
theorem dX0_closeGaps_27 : decode cX0_closeGaps 27 = .ok (.baload, 1) := by decide +kernel
theorem dX0_closeGaps_28 : decode cX0_closeGaps 28 = .ok (.ifCond .eq 29, 3) := by decide +kernel
theorem dX0_closeGaps_31 : decode cX0_closeGaps 31 = .ok (.aload_n 0, 1) := by decide +kernel
theorem dX0_closeGaps_32 : decode cX0_closeGaps 32 = .ok (.getfield 40, 3) := by decide +kernel
theorem dX0_closeGaps_35 : decode cX0_closeGaps 35 = .ok (.iload 4, 2) := by decide +kernel
theorem dX0_closeGaps_37 : decode cX0_closeGaps 37 = .ok (.iload_n 3, 1) := by decide +kernel
theorem dX0_closeGaps_38 : decode cX0_closeGaps 38 = .ok (.iastore, 1) := by decide +kernel
theorem dX0_closeGaps_39 : decode cX0_closeGaps 39 = .ok (.iinc 3 1, 3) := by decide +kernel
theorem dX0_closeGaps_42 : decode cX0_closeGaps 42 = .ok (.aload_n 0, 1) := by decide +kernel
theorem dX0_closeGaps_43 : decode cX0_closeGaps 43 = .ok (.aload_n 0, 1) := by decide +kernel
theorem dX0_closeGaps_44 : decode cX0_closeGaps 44 = .ok (.getfield 25, 3) := by decide +kernel
theorem dX0_closeGaps_47 : decode cX0_closeGaps 47 = .ok (.iload 4, 2) := by decide +kernel
theorem dX0_closeGaps_49 : decode cX0_closeGaps 49 = .ok (.invokevirtual 112, 3) := by decide +kernel
theorem dX0_closeGaps_52 : decode cX0_closeGaps 52 = .ok (.iload_n 2, 1) := by decide +kernel
theorem dX0_closeGaps_53 : decode cX0_closeGaps 53 = .ok (.invokevirtual 141, 3) := by decide +kernel
theorem dX0_closeGaps_56 : decode cX0_closeGaps 56 = .ok (.istore_n 2, 1) := by decide +kernel
theorem dX0_closeGaps_57 : decode cX0_closeGaps 57 = .ok (.iinc 4 1, 3) := by decide +kernel
theorem dX0_closeGaps_60 : decode cX0_closeGaps 60 = .ok (.goto (-47), 3) := by decide +kernel
theorem dX0_closeGaps_63 : decode cX0_closeGaps 63 = .ok (.iload_n 2, 1) := by decide +kernel
theorem dX0_closeGaps_64 : decode cX0_closeGaps 64 = .ok (.ireturn, 1) := by decide +kernel
theorem dX0_moveNumbers_0 : decode cX0_moveNumbers 0 = .ok (.iconst 0, 1) := by decide +kernel
theorem dX0_moveNumbers_1 : decode cX0_moveNumbers 1 = .ok (.istore_n 3, 1) := by decide +kernel
theorem dX0_moveNumbers_2 : decode cX0_moveNumbers 2 = .ok (.iload_n 3, 1) := by decide +kernel
theorem dX0_moveNumbers_3 : decode cX0_moveNumbers 3 = .ok (.aload_n 1, 1) := by decide +kernel
theorem dX0_moveNumbers_4 : decode cX0_moveNumbers 4 = .ok (.getfield 120, 3) := by decide +kernel
theorem dX0_moveNumbers_7 : decode cX0_moveNumbers 7 = .ok (.if_icmp .ge 64, 3) := by decide +kernel
theorem dX0_moveNumbers_10 : decode cX0_moveNumbers 10 = .ok (.aload_n 0, 1) := by decide +kernel
theorem dX0_moveNumbers_11 : decode cX0_moveNumbers 11 = .ok (.aload_n 1, 1) := by decide +kernel
theorem dX0_moveNumbers_12 : decode cX0_moveNumbers 12 = .ok (.getfield 97, 3) := by decide +kernel
theorem dX0_moveNumbers_15 : decode cX0_moveNumbers 15 = .ok (.iload_n 3, 1) := by decide +kernel
theorem dX0_moveNumbers_16 : decode cX0_moveNumbers 16 = .ok (.iadd, 1) := by decide +kernel
theorem dX0_moveNumbers_17 : decode cX0_moveNumbers 17 = .ok (.invokevirtual 123, 3) := by decide +kernel
theorem dX0_moveNumbers_20 : decode cX0_moveNumbers 20 = .ok (.istore 4, 2) := by decide +kernel
theorem dX0_moveNumbers_22 : decode cX0_moveNumbers 22 = .ok (.aload_n 1, 1) := by decide +kernel
theorem dX0_moveNumbers_23 : decode cX0_moveNumbers 23 = .ok (.getfield 127, 3) := by decide +kernel
theorem dX0_moveNumbers_26 : decode cX0_moveNumbers 26 = .ok (.iload_n 3, 1) := by decide +kernel
theorem dX0_moveNumbers_27 : decode cX0_moveNumbers 27 = .ok (.invokestatic 130, 3) := by decide +kernel
theorem dX0_moveNumbers_30 : decode cX0_moveNumbers 30 = .ok (.bipush 6, 2) := by decide +kernel
theorem dX0_moveNumbers_32 : decode cX0_moveNumbers 32 = .ok (.if_icmp .ne 24, 3) := by decide +kernel
theorem dX0_moveNumbers_35 : decode cX0_moveNumbers 35 = .ok (.aload_n 0, 1) := by decide +kernel
theorem dX0_moveNumbers_36 : decode cX0_moveNumbers 36 = .ok (.getfield 25, 3) := by decide +kernel
theorem dX0_moveNumbers_39 : decode cX0_moveNumbers 39 = .ok (.iload 4, 2) := by decide +kernel
theorem dX0_moveNumbers_41 : decode cX0_moveNumbers 41 = .ok (.invokevirtual 134, 3) := by decide +kernel
theorem dX0_moveNumbers_44 : decode cX0_moveNumbers 44 = .ok (.ifCond .eq 12, 3) := by decide +kernel
theorem dX0_moveNumbers_47 : decode cX0_moveNumbers 47 = .ok (.aload_n 0, 1) := by decide +kernel
theorem dX0_moveNumbers_48 : decode cX0_moveNumbers 48 = .ok (.getfield 40, 3) := by decide +kernel
theorem dX0_moveNumbers_51 : decode cX0_moveNumbers 51 = .ok (.iload 4, 2) := by decide +kernel
theorem dX0_moveNumbers_53 : decode cX0_moveNumbers 53 = .ok (.iaload, 1) := by decide +kernel
theorem dX0_moveNumbers_54 : decode cX0_moveNumbers 54 = .ok (.istore 4, 2) := by decide +kernel
theorem dX0_moveNumbers_56 : decode cX0_moveNumbers 56 = .ok (.aload_n 0, 1) := by decide +kernel
theorem dX0_moveNumbers_57 : decode cX0_moveNumbers 57 = .ok (.iload_n 2, 1) := by decide +kernel
theorem dX0_moveNumbers_58 : decode cX0_moveNumbers 58 = .ok (.iload_n 3, 1) := by decide +kernel
theorem dX0_moveNumbers_59 : decode cX0_moveNumbers 59 = .ok (.iadd, 1) := by decide +kernel
theorem dX0_moveNumbers_60 : decode cX0_moveNumbers 60 = .ok (.iload 4, 2) := by decide +kernel
theorem dX0_moveNumbers_62 : decode cX0_moveNumbers 62 = .ok (.invokevirtual 60, 3) := by decide +kernel
theorem dX0_moveNumbers_65 : decode cX0_moveNumbers 65 = .ok (.iinc 3 1, 3) := by decide +kernel
theorem dX0_moveNumbers_68 : decode cX0_moveNumbers 68 = .ok (.goto (-66), 3) := by decide +kernel
theorem dX0_moveNumbers_71 : decode cX0_moveNumbers 71 = .ok (.iload_n 2, 1) := by decide +kernel
theorem dX0_moveNumbers_72 : decode cX0_moveNumbers 72 = .ok (.aload_n 1, 1) := by decide +kernel
theorem dX0_moveNumbers_73 : decode cX0_moveNumbers 73 = .ok (.getfield 120, 3) := by decide +kernel
theorem dX0_moveNumbers_76 : decode cX0_moveNumbers 76 = .ok (.iadd, 1) := by decide +kernel
theorem dX0_moveNumbers_77 : decode cX0_moveNumbers 77 = .ok (.ireturn, 1) := by decide +kernel
theorem dX1_init_0 : decode cX1_init 0 = .ok (.aload_n 0, 1) := by decide +kernel
theorem dX1_init_1 : decode cX1_init 1 = .ok (.invokespecial 3, 3) := by decide +kernel
theorem dX1_init_4 : decode cX1_init 4 = .ok (.aload_n 0, 1) := by decide +kernel
theorem dX1_init_5 : decode cX1_init 5 = .ok (.bipush 10, 2) := by decide +kernel
theorem dX1_init_7 : decode cX1_init 7 = .ok (.newarray .int, 2) := by decide +kernel
theorem dX1_init_9 : decode cX1_init 9 = .ok (.putfield 9, 3) := by decide +kernel
theorem dX1_init_12 : decode cX1_init 12 = .ok (.return_, 1) := by decide +kernel
theorem dX1_clear_0 : decode cX1_clear 0 = .ok (.aload_n 0, 1) := by decide +kernel
theorem dX1_clear_1 : decode cX1_clear 1 = .ok (.iconst 0, 1) := by decide +kernel
theorem dX1_clear_2 : decode cX1_clear 2 = .ok (.putfield 15, 3) := by decide +kernel
theorem dX1_clear_5 : decode cX1_clear 5 = .ok (.return_, 1) := by decide +kernel
theorem dX1_meaningAt_0 : decode cX1_meaningAt 0 = .ok (.iload_n 1, 1) := by decide +kernel
theorem dX1_meaningAt_1 : decode cX1_meaningAt 1 = .ok (.ifCond .ne 5, 3) := by decide +kernel
theorem dX1_meaningAt_4 : decode cX1_meaningAt 4 = .ok (.iconst 0, 1) := by decide +kernel
theorem dX1_meaningAt_5 : decode cX1_meaningAt 5 = .ok (.ireturn, 1) := by decide +kernel
theorem dX1_meaningAt_6 : decode cX1_meaningAt 6 = .ok (.iload_n 0, 1) := by decide +kernel
theorem dX1_meaningAt_7 : decode cX1_meaningAt 7 = .ok (.tableswitch 132 0 9 #[53, 55, 55, 57, 68, 91, 104, 126, 129, 132], 53) := by decide +kernel
theorem dX1_meaningAt_60 : decode cX1_meaningAt 60 = .ok (.iconst 1, 1) := by decide +kernel
theorem dX1_meaningAt_61 : decode cX1_meaningAt 61 = .ok (.ireturn, 1) := by decide +kernel
theorem dX1_meaningAt_62 : decode cX1_meaningAt 62 = .ok (.iconst 2, 1) := by decide +kernel
theorem dX1_meaningAt_63 : decode cX1_meaningAt 63 = .ok (.ireturn, 1) := by decide +kernel
theorem dX1_meaningAt_64 : decode cX1_meaningAt 64 = .ok (.iload_n 1, 1) := by decide +kernel
theorem dX1_meaningAt_65 : decode cX1_meaningAt 65 = .ok (.iconst 1, 1) := by decide +kernel
theorem dX1_meaningAt_66 : decode cX1_meaningAt 66 = .ok (.if_icmp .ne 7, 3) := by decide +kernel
theorem dX1_meaningAt_69 : decode cX1_meaningAt 69 = .ok (.iconst 3, 1) := by decide +kernel
theorem dX1_meaningAt_70 : decode cX1_meaningAt 70 = .ok (.goto 4, 3) := by decide +kernel
theorem dX1_meaningAt_73 : decode cX1_meaningAt 73 = .ok (.iconst 4, 1) := by decide +kernel
theorem dX1_meaningAt_74 : decode cX1_meaningAt 74 = .ok (.ireturn, 1) := by decide +kernel
theorem dX1_meaningAt_75 : decode cX1_meaningAt 75 = .ok (.iload_n 1, 1) := by decide +kernel
theorem dX1_meaningAt_76 : decode cX1_meaningAt 76 = .ok (.iconst 1, 1) := by decide +kernel
theorem dX1_meaningAt_77 : decode cX1_meaningAt 77 = .ok (.if_icmp .ne 7, 3) := by decide +kernel
theorem dX1_meaningAt_80 : decode cX1_meaningAt 80 = .ok (.iconst 5, 1) := by decide +kernel
theorem dX1_meaningAt_81 : decode cX1_meaningAt 81 = .ok (.goto 16, 3) := by decide +kernel
theorem dX1_meaningAt_84 : decode cX1_meaningAt 84 = .ok (.iload_n 1, 1) := by decide +kernel
theorem dX1_meaningAt_85 : decode cX1_meaningAt 85 = .ok (.iconst 1, 1) := by decide +kernel
theorem dX1_meaningAt_86 : decode cX1_meaningAt 86 = .ok (.iand, 1) := by decide +kernel
theorem dX1_meaningAt_87 : decode cX1_meaningAt 87 = .ok (.ifCond .ne 8, 3) := by decide +kernel
theorem dX1_meaningAt_90 : decode cX1_meaningAt 90 = .ok (.bipush 6, 2) := by decide +kernel
theorem dX1_meaningAt_92 : decode cX1_meaningAt 92 = .ok (.goto 5, 3) := by decide +kernel
theorem dX1_meaningAt_95 : decode cX1_meaningAt 95 = .ok (.bipush 7, 2) := by decide +kernel
theorem dX1_meaningAt_97 : decode cX1_meaningAt 97 = .ok (.ireturn, 1) := by decide +kernel
theorem dX1_meaningAt_98 : decode cX1_meaningAt 98 = .ok (.iload_n 1, 1) := by decide +kernel
theorem dX1_meaningAt_99 : decode cX1_meaningAt 99 = .ok (.iconst 1, 1) := by decide +kernel
theorem dX1_meaningAt_100 : decode cX1_meaningAt 100 = .ok (.if_icmp .ne 8, 3) := by decide +kernel
theorem dX1_meaningAt_103 : decode cX1_meaningAt 103 = .ok (.bipush 6, 2) := by decide +kernel
theorem dX1_meaningAt_105 : decode cX1_meaningAt 105 = .ok (.goto 5, 3) := by decide +kernel
theorem dX1_meaningAt_108 : decode cX1_meaningAt 108 = .ok (.bipush 8, 2) := by decide +kernel
theorem dX1_meaningAt_110 : decode cX1_meaningAt 110 = .ok (.ireturn, 1) := by decide +kernel
theorem dX1_meaningAt_111 : decode cX1_meaningAt 111 = .ok (.iload_n 1, 1) := by decide +kernel
theorem dX1_meaningAt_112 : decode cX1_meaningAt 112 = .ok (.iconst 1, 1) := by decide +kernel
theorem dX1_meaningAt_113 : decode cX1_meaningAt 113 = .ok (.if_icmp .ne 7, 3) := by decide +kernel
theorem dX1_meaningAt_116 : decode cX1_meaningAt 116 = .ok (.iconst 2, 1) := by decide +kernel
theorem dX1_meaningAt_117 : decode cX1_meaningAt 117 = .ok (.goto 15, 3) := by decide +kernel
theorem dX1_meaningAt_120 : decode cX1_meaningAt 120 = .ok (.iload_n 1, 1) := by decide +kernel
theorem dX1_meaningAt_121 : decode cX1_meaningAt 121 = .ok (.iconst 2, 1) := by decide +kernel
theorem dX1_meaningAt_122 : decode cX1_meaningAt 122 = .ok (.if_icmp .ne 8, 3) := by decide +kernel
theorem dX1_meaningAt_125 : decode cX1_meaningAt 125 = .ok (.bipush 9, 2) := by decide +kernel
theorem dX1_meaningAt_127 : decode cX1_meaningAt 127 = .ok (.goto 5, 3) := by decide +kernel
theorem dX1_meaningAt_130 : decode cX1_meaningAt 130 = .ok (.bipush 10, 2) := by decide +kernel
theorem dX1_meaningAt_132 : decode cX1_meaningAt 132 = .ok (.ireturn, 1) := by decide +kernel
theorem dX1_meaningAt_133 : decode cX1_meaningAt 133 = .ok (.bipush 6, 2) := by decide +kernel
theorem dX1_meaningAt_135 : decode cX1_meaningAt 135 = .ok (.ireturn, 1) := by decide +kernel
theorem dX1_meaningAt_136 : decode cX1_meaningAt 136 = .ok (.bipush 11, 2) := by decide +kernel
theorem dX1_meaningAt_138 : decode cX1_meaningAt 138 = .ok (.ireturn, 1) := by decide +kernel
theorem dX1_meaningAt_139 : decode cX1_meaningAt 139 = .ok (.iload_n 1, 1) := by decide +kernel
theorem dX1_meaningAt_140 : decode cX1_meaningAt 140 = .ok (.iconst 1, 1) := by decide +kernel
theorem dX1_meaningAt_141 : decode cX1_meaningAt 141 = .ok (.if_icmp .ne 8, 3) := by decide +kernel
theorem dX1_meaningAt_144 : decode cX1_meaningAt 144 = .ok (.bipush 6, 2) := by decide +kernel
theorem dX1_meaningAt_146 : decode cX1_meaningAt 146 = .ok (.goto 4, 3) := by decide +kernel
theorem dX1_meaningAt_149 : decode cX1_meaningAt 149 = .ok (.iconst 2, 1) := by decide +kernel
theorem dX1_meaningAt_150 : decode cX1_meaningAt 150 = .ok (.ireturn, 1) := by decide +kernel
theorem dX1_wholeLength_0 : decode cX1_wholeLength 0 = .ok (.aload_n 0, 1) := by decide +kernel
theorem dX1_wholeLength_1 : decode cX1_wholeLength 1 = .ok (.getfield 9, 3) := by decide +kernel
theorem dX1_wholeLength_4 : decode cX1_wholeLength 4 = .ok (.iconst 0, 1) := by decide +kernel
theorem dX1_wholeLength_5 : decode cX1_wholeLength 5 = .ok (.iaload, 1) := by decide +kernel
theorem dX1_wholeLength_6 : decode cX1_wholeLength 6 = .ok (.tableswitch 59 3 9 #[53, 42, 55, 53, 57, 59, 55], 42) := by decide +kernel
theorem dX1_wholeLength_48 : decode cX1_wholeLength 48 = .ok (.iconst 2, 1) := by decide +kernel
theorem dX1_wholeLength_49 : decode cX1_wholeLength 49 = .ok (.iconst 2, 1) := by decide +kernel
theorem dX1_wholeLength_50 : decode cX1_wholeLength 50 = .ok (.aload_n 0, 1) := by decide +kernel
theorem dX1_wholeLength_51 : decode cX1_wholeLength 51 = .ok (.getfield 9, 3) := by decide +kernel
theorem dX1_wholeLength_54 : decode cX1_wholeLength 54 = .ok (.iconst 1, 1) := by decide +kernel
theorem dX1_wholeLength_55 : decode cX1_wholeLength 55 = .ok (.iaload, 1) := by decide +kernel
theorem dX1_wholeLength_56 : decode cX1_wholeLength 56 = .ok (.imul, 1) := by decide +kernel
theorem dX1_wholeLength_57 : decode cX1_wholeLength 57 = .ok (.iadd, 1) := by decide +kernel
theorem dX1_wholeLength_58 : decode cX1_wholeLength 58 = .ok (.ireturn, 1) := by decide +kernel
theorem dX1_wholeLength_59 : decode cX1_wholeLength 59 = .ok (.iconst 4, 1) := by decide +kernel
theorem dX1_wholeLength_60 : decode cX1_wholeLength 60 = .ok (.ireturn, 1) := by decide +kernel
theorem dX1_wholeLength_61 : decode cX1_wholeLength 61 = .ok (.iconst 3, 1) := by decide +kernel
theorem dX1_wholeLength_62 : decode cX1_wholeLength 62 = .ok (.ireturn, 1) := by decide +kernel
theorem dX1_wholeLength_63 : decode cX1_wholeLength 63 = .ok (.iconst 5, 1) := by decide +kernel
theorem dX1_wholeLength_64 : decode cX1_wholeLength 64 = .ok (.ireturn, 1) := by decide +kernel
theorem dX1_wholeLength_65 : decode cX1_wholeLength 65 = .ok (.iconst 2, 1) := by decide +kernel
theorem dX1_wholeLength_66 : decode cX1_wholeLength 66 = .ok (.ireturn, 1) := by decide +kernel
theorem dX1_isWhole_0 : decode cX1_isWhole 0 = .ok (.aload_n 0, 1) := by decide +kernel
theorem dX1_isWhole_1 : decode cX1_isWhole 1 = .ok (.getfield 15, 3) := by decide +kernel
theorem dX1_isWhole_4 : decode cX1_isWhole 4 = .ok (.iconst 2, 1) := by decide +kernel
theorem dX1_isWhole_5 : decode cX1_isWhole 5 = .ok (.if_icmp .lt 18, 3) := by decide +kernel
theorem dX1_isWhole_8 : decode cX1_isWhole 8 = .ok (.aload_n 0, 1) := by decide +kernel
theorem dX1_isWhole_9 : decode cX1_isWhole 9 = .ok (.getfield 15, 3) := by decide +kernel
theorem dX1_isWhole_12 : decode cX1_isWhole 12 = .ok (.aload_n 0, 1) := by decide +kernel
theorem dX1_isWhole_13 : decode cX1_isWhole 13 = .ok (.invokevirtual 19, 3) := by decide +kernel
theorem dX1_isWhole_16 : decode cX1_isWhole 16 = .ok (.if_icmp .lt 7, 3) := by decide +kernel
theorem dX1_isWhole_19 : decode cX1_isWhole 19 = .ok (.iconst 1, 1) := by decide +kernel
theorem dX1_isWhole_20 : decode cX1_isWhole 20 = .ok (.goto 4, 3) := by decide +kernel
theorem dX1_isWhole_23 : decode cX1_isWhole 23 = .ok (.iconst 0, 1) := by decide +kernel
theorem dX1_isWhole_24 : decode cX1_isWhole 24 = .ok (.ireturn, 1) := by decide +kernel
theorem dX1_add_0 : decode cX1_add 0 = .ok (.aload_n 0, 1) := by decide +kernel
theorem dX1_add_1 : decode cX1_add 1 = .ok (.getfield 15, 3) := by decide +kernel
theorem dX1_add_4 : decode cX1_add 4 = .ok (.ifCond .lt 35, 3) := by decide +kernel
theorem dX1_add_7 : decode cX1_add 7 = .ok (.aload_n 0, 1) := by decide +kernel
theorem dX1_add_8 : decode cX1_add 8 = .ok (.getfield 15, 3) := by decide +kernel
theorem dX1_add_11 : decode cX1_add 11 = .ok (.aload_n 0, 1) := by decide +kernel
theorem dX1_add_12 : decode cX1_add 12 = .ok (.getfield 9, 3) := by decide +kernel
theorem dX1_add_15 : decode cX1_add 15 = .ok (.arraylength, 1) := by decide +kernel
theorem dX1_add_16 : decode cX1_add 16 = .ok (.if_icmp .ge 23, 3) := by decide +kernel
theorem dX1_add_19 : decode cX1_add 19 = .ok (.aload_n 0, 1) := by decide +kernel
theorem dX1_add_20 : decode cX1_add 20 = .ok (.getfield 9, 3) := by decide +kernel
theorem dX1_add_23 : decode cX1_add 23 = .ok (.aload_n 0, 1) := by decide +kernel
theorem dX1_add_24 : decode cX1_add 24 = .ok (.getfield 15, 3) := by decide +kernel
theorem dX1_add_27 : decode cX1_add 27 = .ok (.iload_n 1, 1) := by decide +kernel
theorem dX1_add_28 : decode cX1_add 28 = .ok (.iastore, 1) := by decide +kernel
theorem dX1_add_29 : decode cX1_add 29 = .ok (.aload_n 0, 1) := by decide +kernel
theorem dX1_add_30 : decode cX1_add 30 = .ok (.dup, 1) := by decide +kernel
theorem dX1_add_31 : decode cX1_add 31 = .ok (.getfield 15, 3) := by decide +kernel
theorem dX1_add_34 : decode cX1_add 34 = .ok (.iconst 1, 1) := by decide +kernel
theorem dX1_add_35 : decode cX1_add 35 = .ok (.iadd, 1) := by decide +kernel
theorem dX1_add_36 : decode cX1_add 36 = .ok (.putfield 15, 3) := by decide +kernel
theorem dX1_add_39 : decode cX1_add 39 = .ok (.return_, 1) := by decide +kernel
theorem dX1_faultOf_0 : decode cX1_faultOf 0 = .ok (.aload_n 0, 1) := by decide +kernel
theorem dX1_faultOf_1 : decode cX1_faultOf 1 = .ok (.getfield 9, 3) := by decide +kernel
theorem dX1_faultOf_4 : decode cX1_faultOf 4 = .ok (.iconst 0, 1) := by decide +kernel
theorem dX1_faultOf_5 : decode cX1_faultOf 5 = .ok (.iaload, 1) := by decide +kernel
theorem dX1_faultOf_6 : decode cX1_faultOf 6 = .ok (.aload_n 0, 1) := by decide +kernel
theorem dX1_faultOf_7 : decode cX1_faultOf 7 = .ok (.getfield 15, 3) := by decide +kernel
theorem dX1_faultOf_10 : decode cX1_faultOf 10 = .ok (.invokestatic 23, 3) := by decide +kernel
theorem dX1_faultOf_13 : decode cX1_faultOf 13 = .ok (.tableswitch 186 0 11 #[63, 113, 127, 83, 141, 150, 69, 157, 166, 175, 186, 97], 63) := by decide +kernel
theorem dX1_faultOf_76 : decode cX1_faultOf 76 = .ok (.iload_n 1, 1) := by decide +kernel
theorem dX1_faultOf_77 : decode cX1_faultOf 77 = .ok (.aload_n 2, 1) := by decide +kernel
theorem dX1_faultOf_78 : decode cX1_faultOf 78 = .ok (.invokestatic 27, 3) := by decide +kernel
theorem dX1_faultOf_81 : decode cX1_faultOf 81 = .ok (.ireturn, 1) := by decide +kernel
theorem dX1_faultOf_82 : decode cX1_faultOf 82 = .ok (.aload_n 2, 1) := by decide +kernel
theorem dX1_faultOf_83 : decode cX1_faultOf 83 = .ok (.iload_n 1, 1) := by decide +kernel
theorem dX1_faultOf_84 : decode cX1_faultOf 84 = .ok (.invokevirtual 31, 3) := by decide +kernel
theorem dX1_faultOf_87 : decode cX1_faultOf 87 = .ok (.ifCond .eq 7, 3) := by decide +kernel
theorem dX1_faultOf_90 : decode cX1_faultOf 90 = .ok (.iconst 0, 1) := by decide +kernel
theorem dX1_faultOf_91 : decode cX1_faultOf 91 = .ok (.goto 4, 3) := by decide +kernel
theorem dX1_faultOf_94 : decode cX1_faultOf 94 = .ok (.iconst 4, 1) := by decide +kernel
theorem dX1_faultOf_95 : decode cX1_faultOf 95 = .ok (.ireturn, 1) := by decide +kernel
theorem dX1_faultOf_96 : decode cX1_faultOf 96 = .ok (.aload_n 3, 1) := by decide +kernel
theorem dX1_faultOf_97 : decode cX1_faultOf 97 = .ok (.iload_n 1, 1) := by decide +kernel
theorem dX1_faultOf_98 : decode cX1_faultOf 98 = .ok (.invokevirtual 37, 3) := by decide +kernel
theorem dX1_faultOf_101 : decode cX1_faultOf 101 = .ok (.ifCond .eq 7, 3) := by decide +kernel
theorem dX1_faultOf_104 : decode cX1_faultOf 104 = .ok (.iconst 0, 1) := by decide +kernel
theorem dX1_faultOf_105 : decode cX1_faultOf 105 = .ok (.goto 4, 3) := by decide +kernel
theorem dX1_faultOf_108 : decode cX1_faultOf 108 = .ok (.iconst 4, 1) := by decide +kernel
theorem dX1_faultOf_109 : decode cX1_faultOf 109 = .ok (.ireturn, 1) := by decide +kernel
theorem dX1_faultOf_110 : decode cX1_faultOf 110 = .ok (.iload_n 1, 1) := by decide +kernel
theorem dX1_faultOf_111 : decode cX1_faultOf 111 = .ok (.aload_n 3, 1) := by decide +kernel
theorem dX1_faultOf_112 : decode cX1_faultOf 112 = .ok (.aload 4, 2) := by decide +kernel
theorem dX1_faultOf_114 : decode cX1_faultOf 114 = .ok (.invokestatic 42, 3) := by decide +kernel
theorem dX1_faultOf_117 : decode cX1_faultOf 117 = .ok (.ifCond .eq 7, 3) := by decide +kernel
theorem dX1_faultOf_120 : decode cX1_faultOf 120 = .ok (.iconst 0, 1) := by decide +kernel
theorem dX1_faultOf_121 : decode cX1_faultOf 121 = .ok (.goto 4, 3) := by decide +kernel
theorem dX1_faultOf_124 : decode cX1_faultOf 124 = .ok (.iconst 4, 1) := by decide +kernel
theorem dX1_faultOf_125 : decode cX1_faultOf 125 = .ok (.ireturn, 1) := by decide +kernel
theorem dX1_faultOf_126 : decode cX1_faultOf 126 = .ok (.aload_n 3, 1) := by decide +kernel
theorem dX1_faultOf_127 : decode cX1_faultOf 127 = .ok (.iload_n 1, 1) := by decide +kernel
theorem dX1_faultOf_128 : decode cX1_faultOf 128 = .ok (.invokevirtual 46, 3) := by decide +kernel
theorem dX1_faultOf_131 : decode cX1_faultOf 131 = .ok (.ifCond .eq 7, 3) := by decide +kernel
theorem dX1_faultOf_134 : decode cX1_faultOf 134 = .ok (.iconst 0, 1) := by decide +kernel
theorem dX1_faultOf_135 : decode cX1_faultOf 135 = .ok (.goto 4, 3) := by decide +kernel
theorem dX1_faultOf_138 : decode cX1_faultOf 138 = .ok (.iconst 3, 1) := by decide +kernel
theorem dX1_faultOf_139 : decode cX1_faultOf 139 = .ok (.ireturn, 1) := by decide +kernel
theorem dX1_faultOf_140 : decode cX1_faultOf 140 = .ok (.aload_n 3, 1) := by decide +kernel
theorem dX1_faultOf_141 : decode cX1_faultOf 141 = .ok (.iload_n 1, 1) := by decide +kernel
theorem dX1_faultOf_142 : decode cX1_faultOf 142 = .ok (.invokevirtual 49, 3) := by decide +kernel
theorem dX1_faultOf_145 : decode cX1_faultOf 145 = .ok (.ifCond .eq 7, 3) := by decide +kernel
theorem dX1_faultOf_148 : decode cX1_faultOf 148 = .ok (.iconst 0, 1) := by decide +kernel
theorem dX1_faultOf_149 : decode cX1_faultOf 149 = .ok (.goto 4, 3) := by decide +kernel
theorem dX1_faultOf_152 : decode cX1_faultOf 152 = .ok (.iconst 3, 1) := by decide +kernel
theorem dX1_faultOf_153 : decode cX1_faultOf 153 = .ok (.ireturn, 1) := by decide +kernel
theorem dX1_faultOf_154 : decode cX1_faultOf 154 = .ok (.iload_n 1, 1) := by decide +kernel
theorem dX1_faultOf_155 : decode cX1_faultOf 155 = .ok (.bipush (-100), 2) := by decide +kernel
theorem dX1_faultOf_157 : decode cX1_faultOf 157 = .ok (.bipush 100, 2) := by decide +kernel
theorem dX1_faultOf_159 : decode cX1_faultOf 159 = .ok (.invokestatic 52, 3) := by decide +kernel
theorem dX1_faultOf_162 : decode cX1_faultOf 162 = .ok (.ireturn, 1) := by decide +kernel
theorem dX1_faultOf_163 : decode cX1_faultOf 163 = .ok (.iload_n 1, 1) := by decide +kernel
theorem dX1_faultOf_164 : decode cX1_faultOf 164 = .ok (.iconst 1, 1) := by decide +kernel
theorem dX1_faultOf_165 : decode cX1_faultOf 165 = .ok (.iconst 4, 1) := by decide +kernel
theorem dX1_faultOf_166 : decode cX1_faultOf 166 = .ok (.invokestatic 52, 3) := by decide +kernel
theorem dX1_faultOf_169 : decode cX1_faultOf 169 = .ok (.ireturn, 1) := by decide +kernel
theorem dX1_faultOf_170 : decode cX1_faultOf 170 = .ok (.iload_n 1, 1) := by decide +kernel
theorem dX1_faultOf_171 : decode cX1_faultOf 171 = .ok (.iconst 1, 1) := by decide +kernel
theorem dX1_faultOf_172 : decode cX1_faultOf 172 = .ok (.sipush 1000, 3) := by decide +kernel
theorem dX1_faultOf_175 : decode cX1_faultOf 175 = .ok (.invokestatic 52, 3) := by decide +kernel
theorem dX1_faultOf_178 : decode cX1_faultOf 178 = .ok (.ireturn, 1) := by decide +kernel
theorem dX1_faultOf_179 : decode cX1_faultOf 179 = .ok (.iload_n 1, 1) := by decide +kernel
theorem dX1_faultOf_180 : decode cX1_faultOf 180 = .ok (.iconst 2, 1) := by decide +kernel
theorem dX1_faultOf_181 : decode cX1_faultOf 181 = .ok (.sipush 1000, 3) := by decide +kernel
theorem dX1_faultOf_184 : decode cX1_faultOf 184 = .ok (.invokestatic 52, 3) := by decide +kernel
theorem dX1_faultOf_187 : decode cX1_faultOf 187 = .ok (.ireturn, 1) := by decide +kernel
theorem dX1_faultOf_188 : decode cX1_faultOf 188 = .ok (.iload_n 1, 1) := by decide +kernel
theorem dX1_faultOf_189 : decode cX1_faultOf 189 = .ok (.sipush (-1000), 3) := by decide +kernel
theorem dX1_faultOf_192 : decode cX1_faultOf 192 = .ok (.sipush 1000, 3) := by decide +kernel
theorem dX1_faultOf_195 : decode cX1_faultOf 195 = .ok (.invokestatic 52, 3) := by decide +kernel
theorem dX1_faultOf_198 : decode cX1_faultOf 198 = .ok (.ireturn, 1) := by decide +kernel
theorem dX1_faultOf_199 : decode cX1_faultOf 199 = .ok (.iload_n 1, 1) := by decide +kernel
theorem dX1_faultOf_200 : decode cX1_faultOf 200 = .ok (.iconst 0, 1) := by decide +kernel
theorem dX1_faultOf_201 : decode cX1_faultOf 201 = .ok (.iconst 1, 1) := by decide +kernel
theorem dX1_faultOf_202 : decode cX1_faultOf 202 = .ok (.invokestatic 52, 3) := by decide +kernel
theorem dX1_faultOf_205 : decode cX1_faultOf 205 = .ok (.ireturn, 1) := by decide +kernel
theorem dX1_faultOfKind_0 : decode cX1_faultOfKind 0 = .ok (.iload_n 0, 1) := by decide +kernel
theorem dX1_faultOfKind_1 : decode cX1_faultOfKind 1 = .ok (.iconst 0, 1) := by decide +kernel
theorem dX1_faultOfKind_2 : decode cX1_faultOfKind 2 = .ok (.bipush 9, 2) := by decide +kernel
theorem dX1_faultOfKind_4 : decode cX1_faultOfKind 4 = .ok (.invokestatic 56, 3) := by decide +kernel
theorem dX1_faultOfKind_7 : decode cX1_faultOfKind 7 = .ok (.ifCond .ne 5, 3) := by decide +kernel
theorem dX1_faultOfKind_10 : decode cX1_faultOfKind 10 = .ok (.iconst 2, 1) := by decide +kernel
theorem dX1_faultOfKind_11 : decode cX1_faultOfKind 11 = .ok (.ireturn, 1) := by decide +kernel
theorem dX1_faultOfKind_12 : decode cX1_faultOfKind 12 = .ok (.aload_n 1, 1) := by decide +kernel
theorem dX1_faultOfKind_13 : decode cX1_faultOfKind 13 = .ok (.invokevirtual 62, 3) := by decide +kernel
theorem dX1_faultOfKind_16 : decode cX1_faultOfKind 16 = .ok (.ifCond .ne 16, 3) := by decide +kernel
theorem dX1_faultOfKind_19 : decode cX1_faultOfKind 19 = .ok (.iload_n 0, 1) := by decide +kernel
theorem dX1_faultOfKind_20 : decode cX1_faultOfKind 20 = .ok (.bipush 6, 2) := by decide +kernel
theorem dX1_faultOfKind_22 : decode cX1_faultOfKind 22 = .ok (.if_icmp .ne 13, 3) := by decide +kernel
theorem dX1_faultOfKind_25 : decode cX1_faultOfKind 25 = .ok (.aload_n 1, 1) := by decide +kernel
theorem dX1_faultOfKind_26 : decode cX1_faultOfKind 26 = .ok (.invokevirtual 66, 3) := by decide +kernel
theorem dX1_faultOfKind_29 : decode cX1_faultOfKind 29 = .ok (.ifCond .eq 6, 3) := by decide +kernel
theorem dX1_faultOfKind_32 : decode cX1_faultOfKind 32 = .ok (.bipush 9, 2) := by decide +kernel
theorem dX1_faultOfKind_34 : decode cX1_faultOfKind 34 = .ok (.ireturn, 1) := by decide +kernel
theorem dX1_faultOfKind_35 : decode cX1_faultOfKind 35 = .ok (.iconst 0, 1) := by decide +kernel
theorem dX1_faultOfKind_36 : decode cX1_faultOfKind 36 = .ok (.ireturn, 1) := by decide +kernel
theorem dX1_isGoodPlan_0 : decode cX1_isGoodPlan 0 = .ok (.aload_n 2, 1) := by decide +kernel
theorem dX1_isGoodPlan_1 : decode cX1_isGoodPlan 1 = .ok (.iload_n 0, 1) := by decide +kernel
theorem dX1_isGoodPlan_2 : decode cX1_isGoodPlan 2 = .ok (.invokevirtual 69, 3) := by decide +kernel
theorem dX1_isGoodPlan_5 : decode cX1_isGoodPlan 5 = .ok (.ifCond .eq 20, 3) := by decide +kernel
theorem dX1_isGoodPlan_8 : decode cX1_isGoodPlan 8 = .ok (.aload_n 1, 1) := by decide +kernel
theorem dX1_isGoodPlan_9 : decode cX1_isGoodPlan 9 = .ok (.aload_n 2, 1) := by decide +kernel
theorem dX1_isGoodPlan_10 : decode cX1_isGoodPlan 10 = .ok (.iload_n 0, 1) := by decide +kernel
theorem dX1_isGoodPlan_11 : decode cX1_isGoodPlan 11 = .ok (.invokevirtual 72, 3) := by decide +kernel
theorem dX1_isGoodPlan_14 : decode cX1_isGoodPlan 14 = .ok (.invokevirtual 76, 3) := by decide +kernel
theorem dX1_isGoodPlan_17 : decode cX1_isGoodPlan 17 = .ok (.iconst (-1), 1) := by decide +kernel
theorem dX1_isGoodPlan_18 : decode cX1_isGoodPlan 18 = .ok (.if_icmp .ne 7, 3) := by decide +kernel
theorem dX1_isGoodPlan_21 : decode cX1_isGoodPlan 21 = .ok (.iconst 1, 1) := by decide +kernel
theorem dX1_isGoodPlan_22 : decode cX1_isGoodPlan 22 = .ok (.goto 4, 3) := by decide +kernel
theorem dX1_isGoodPlan_25 : decode cX1_isGoodPlan 25 = .ok (.iconst 0, 1) := by decide +kernel
theorem dX1_isGoodPlan_26 : decode cX1_isGoodPlan 26 = .ok (.ireturn, 1) := by decide +kernel
theorem dX1_faultBeyond_0 : decode cX1_faultBeyond 0 = .ok (.iload_n 0, 1) := by decide +kernel
theorem dX1_faultBeyond_1 : decode cX1_faultBeyond 1 = .ok (.iload_n 1, 1) := by decide +kernel
theorem dX1_faultBeyond_2 : decode cX1_faultBeyond 2 = .ok (.iload_n 2, 1) := by decide +kernel
theorem dX1_faultBeyond_3 : decode cX1_faultBeyond 3 = .ok (.invokestatic 56, 3) := by decide +kernel
theorem dX1_faultBeyond_6 : decode cX1_faultBeyond 6 = .ok (.ifCond .eq 7, 3) := by decide +kernel
theorem dX1_faultBeyond_9 : decode cX1_faultBeyond 9 = .ok (.iconst 0, 1) := by decide +kernel
theorem dX1_faultBeyond_10 : decode cX1_faultBeyond 10 = .ok (.goto 4, 3) := by decide +kernel
theorem dX1_faultBeyond_13 : decode cX1_faultBeyond 13 = .ok (.iconst 3, 1) := by decide +kernel
theorem dX1_faultBeyond_14 : decode cX1_faultBeyond 14 = .ok (.ireturn, 1) := by decide +kernel
theorem dX1_make_0 : decode cX1_make 0 = .ok (.aload_n 1, 1) := by decide +kernel
theorem dX1_make_1 : decode cX1_make 1 = .ok (.aload_n 0, 1) := by decide +kernel
theorem dX1_make_2 : decode cX1_make 2 = .ok (.getfield 9, 3) := by decide +kernel
theorem dX1_make_5 : decode cX1_make 5 = .ok (.iconst 0, 1) := by decide +kernel
theorem dX1_make_6 : decode cX1_make 6 = .ok (.iaload, 1) := by decide +kernel
theorem dX1_make_7 : decode cX1_make 7 = .ok (.putfield 80, 3) := by decide +kernel
theorem dX1_make_10 : decode cX1_make 10 = .ok (.aload_n 1, 1) := by decide +kernel
theorem dX1_make_11 : decode cX1_make 11 = .ok (.aload_n 0, 1) := by decide +kernel
theorem dX1_make_12 : decode cX1_make 12 = .ok (.getfield 15, 3) := by decide +kernel
theorem dX1_make_15 : decode cX1_make 15 = .ok (.putfield 85, 3) := by decide +kernel
theorem dX1_make_18 : decode cX1_make 18 = .ok (.aload_n 0, 1) := by decide +kernel
theorem dX1_make_19 : decode cX1_make 19 = .ok (.getfield 9, 3) := by decide +kernel
theorem dX1_make_22 : decode cX1_make 22 = .ok (.iconst 0, 1) := by decide +kernel
theorem dX1_make_23 : decode cX1_make 23 = .ok (.iaload, 1) := by decide +kernel
theorem dX1_make_24 : decode cX1_make 24 = .ok (.tableswitch 195 0 9 #[56, 69, 93, 120, 145, 152, 173, 179, 186, 195], 56) := by decide +kernel
theorem dX1_make_80 : decode cX1_make 80 = .ok (.aload_n 3, 1) := by decide +kernel
theorem dX1_make_81 : decode cX1_make 81 = .ok (.aload_n 0, 1) := by decide +kernel
theorem dX1_make_82 : decode cX1_make 82 = .ok (.getfield 9, 3) := by decide +kernel
theorem dX1_make_85 : decode cX1_make 85 = .ok (.iconst 1, 1) := by decide +kernel
theorem dX1_make_86 : decode cX1_make 86 = .ok (.iaload, 1) := by decide +kernel
theorem dX1_make_87 : decode cX1_make 87 = .ok (.aload_n 1, 1) := by decide +kernel
theorem dX1_make_88 : decode cX1_make 88 = .ok (.invokevirtual 88, 3) := by decide +kernel
theorem dX1_make_91 : decode cX1_make 91 = .ok (.iconst 0, 1) := by decide +kernel
theorem dX1_make_92 : decode cX1_make 92 = .ok (.ireturn, 1) := by decide +kernel
theorem dX1_make_93 : decode cX1_make 93 = .ok (.aload_n 1, 1) := by decide +kernel
theorem dX1_make_94 : decode cX1_make 94 = .ok (.aload_n 0, 1) := by decide +kernel
theorem dX1_make_95 : decode cX1_make 95 = .ok (.getfield 9, 3) := by decide +kernel
theorem dX1_make_98 : decode cX1_make 98 = .ok (.iconst 1, 1) := by decide +kernel
theorem dX1_make_99 : decode cX1_make 99 = .ok (.iaload, 1) := by decide +kernel
theorem dX1_make_100 : decode cX1_make 100 = .ok (.lconst 1, 1) := by decide +kernel
theorem dX1_make_101 : decode cX1_make 101 = .ok (.aload_n 3, 1) := by decide +kernel
theorem dX1_make_102 : decode cX1_make 102 = .ok (.aload_n 0, 1) := by decide +kernel
theorem dX1_make_103 : decode cX1_make 103 = .ok (.getfield 9, 3) := by decide +kernel
theorem dX1_make_106 : decode cX1_make 106 = .ok (.iconst 1, 1) := by decide +kernel
theorem dX1_make_107 : decode cX1_make 107 = .ok (.iaload, 1) := by decide +kernel
theorem dX1_make_108 : decode cX1_make 108 = .ok (.invokevirtual 92, 3) := by decide +kernel
theorem dX1_make_111 : decode cX1_make 111 = .ok (.i2l, 1) := by decide +kernel
theorem dX1_make_112 : decode cX1_make 112 = .ok (.invokevirtual 96, 3) := by decide +kernel
theorem dX1_make_115 : decode cX1_make 115 = .ok (.iconst 0, 1) := by decide +kernel
theorem dX1_make_116 : decode cX1_make 116 = .ok (.ireturn, 1) := by decide +kernel
theorem dX1_make_117 : decode cX1_make 117 = .ok (.aload_n 1, 1) := by decide +kernel
theorem dX1_make_118 : decode cX1_make 118 = .ok (.aload_n 0, 1) := by decide +kernel
theorem dX1_make_119 : decode cX1_make 119 = .ok (.getfield 9, 3) := by decide +kernel
theorem dX1_make_122 : decode cX1_make 122 = .ok (.iconst 1, 1) := by decide +kernel
theorem dX1_make_123 : decode cX1_make 123 = .ok (.iaload, 1) := by decide +kernel
theorem dX1_make_124 : decode cX1_make 124 = .ok (.ldc2_w 100, 3) := by decide +kernel
theorem dX1_make_127 : decode cX1_make 127 = .ok (.aload_n 3, 1) := by decide +kernel
theorem dX1_make_128 : decode cX1_make 128 = .ok (.aload_n 0, 1) := by decide +kernel
theorem dX1_make_129 : decode cX1_make 129 = .ok (.getfield 9, 3) := by decide +kernel
theorem dX1_make_132 : decode cX1_make 132 = .ok (.iconst 1, 1) := by decide +kernel
theorem dX1_make_133 : decode cX1_make 133 = .ok (.iaload, 1) := by decide +kernel
theorem dX1_make_134 : decode cX1_make 134 = .ok (.invokevirtual 102, 3) := by decide +kernel
theorem dX1_make_137 : decode cX1_make 137 = .ok (.ineg, 1) := by decide +kernel
theorem dX1_make_138 : decode cX1_make 138 = .ok (.i2l, 1) := by decide +kernel
theorem dX1_make_139 : decode cX1_make 139 = .ok (.invokevirtual 96, 3) := by decide +kernel
theorem dX1_make_142 : decode cX1_make 142 = .ok (.iconst 0, 1) := by decide +kernel
theorem dX1_make_143 : decode cX1_make 143 = .ok (.ireturn, 1) := by decide +kernel
theorem dX1_make_144 : decode cX1_make 144 = .ok (.aload_n 3, 1) := by decide +kernel
theorem dX1_make_145 : decode cX1_make 145 = .ok (.aload_n 0, 1) := by decide +kernel
theorem dX1_make_146 : decode cX1_make 146 = .ok (.getfield 9, 3) := by decide +kernel
theorem dX1_make_149 : decode cX1_make 149 = .ok (.iconst 1, 1) := by decide +kernel
theorem dX1_make_150 : decode cX1_make 150 = .ok (.iaload, 1) := by decide +kernel
theorem dX1_make_151 : decode cX1_make 151 = .ok (.aload_n 0, 1) := by decide +kernel
theorem dX1_make_152 : decode cX1_make 152 = .ok (.getfield 9, 3) := by decide +kernel
theorem dX1_make_155 : decode cX1_make 155 = .ok (.iconst 2, 1) := by decide +kernel
theorem dX1_make_156 : decode cX1_make 156 = .ok (.iaload, 1) := by decide +kernel
theorem dX1_make_157 : decode cX1_make 157 = .ok (.aload_n 0, 1) := by decide +kernel
theorem dX1_make_158 : decode cX1_make 158 = .ok (.getfield 9, 3) := by decide +kernel
theorem dX1_make_161 : decode cX1_make 161 = .ok (.iconst 3, 1) := by decide +kernel
theorem dX1_make_162 : decode cX1_make 162 = .ok (.iaload, 1) := by decide +kernel
theorem dX1_make_163 : decode cX1_make 163 = .ok (.aload_n 1, 1) := by decide +kernel
theorem dX1_make_164 : decode cX1_make 164 = .ok (.invokevirtual 105, 3) := by decide +kernel
theorem dX1_make_167 : decode cX1_make 167 = .ok (.iconst 0, 1) := by decide +kernel
theorem dX1_make_168 : decode cX1_make 168 = .ok (.ireturn, 1) := by decide +kernel
theorem dX1_make_169 : decode cX1_make 169 = .ok (.aload_n 0, 1) := by decide +kernel
theorem dX1_make_170 : decode cX1_make 170 = .ok (.aload_n 1, 1) := by decide +kernel
theorem dX1_make_171 : decode cX1_make 171 = .ok (.aload_n 2, 1) := by decide +kernel
theorem dX1_make_172 : decode cX1_make 172 = .ok (.invokevirtual 109, 3) := by decide +kernel
theorem dX1_make_175 : decode cX1_make 175 = .ok (.ireturn, 1) := by decide +kernel
theorem dX1_make_176 : decode cX1_make 176 = .ok (.aload_n 1, 1) := by decide +kernel
theorem dX1_make_177 : decode cX1_make 177 = .ok (.aload_n 2, 1) := by decide +kernel
theorem dX1_make_178 : decode cX1_make 178 = .ok (.aload_n 0, 1) := by decide +kernel
theorem dX1_make_179 : decode cX1_make 179 = .ok (.getfield 9, 3) := by decide +kernel
theorem dX1_make_182 : decode cX1_make 182 = .ok (.iconst 1, 1) := by decide +kernel
theorem dX1_make_183 : decode cX1_make 183 = .ok (.iaload, 1) := by decide +kernel
theorem dX1_make_184 : decode cX1_make 184 = .ok (.invokevirtual 113, 3) := by decide +kernel
theorem dX1_make_187 : decode cX1_make 187 = .ok (.aload_n 0, 1) := by decide +kernel
theorem dX1_make_188 : decode cX1_make 188 = .ok (.getfield 9, 3) := by decide +kernel
theorem dX1_make_191 : decode cX1_make 191 = .ok (.iconst 2, 1) := by decide +kernel
theorem dX1_make_192 : decode cX1_make 192 = .ok (.iaload, 1) := by decide +kernel
theorem dX1_make_193 : decode cX1_make 193 = .ok (.invokestatic 116, 3) := by decide +kernel
theorem dX1_make_196 : decode cX1_make 196 = .ok (.ireturn, 1) := by decide +kernel
theorem dX1_make_197 : decode cX1_make 197 = .ok (.aload_n 0, 1) := by decide +kernel
theorem dX1_make_198 : decode cX1_make 198 = .ok (.aload_n 1, 1) := by decide +kernel
theorem dX1_make_199 : decode cX1_make 199 = .ok (.invokevirtual 120, 3) := by decide +kernel
theorem dX1_make_202 : decode cX1_make 202 = .ok (.ireturn, 1) := by decide +kernel
theorem dX1_make_203 : decode cX1_make 203 = .ok (.aload_n 0, 1) := by decide +kernel
theorem dX1_make_204 : decode cX1_make 204 = .ok (.aload_n 1, 1) := by decide +kernel
theorem dX1_make_205 : decode cX1_make 205 = .ok (.aload_n 2, 1) := by decide +kernel
theorem dX1_make_206 : decode cX1_make 206 = .ok (.invokevirtual 124, 3) := by decide +kernel
theorem dX1_make_209 : decode cX1_make 209 = .ok (.ireturn, 1) := by decide +kernel
theorem dX1_make_210 : decode cX1_make 210 = .ok (.aload_n 0, 1) := by decide +kernel
theorem dX1_make_211 : decode cX1_make 211 = .ok (.aload_n 1, 1) := by decide +kernel
theorem dX1_make_212 : decode cX1_make 212 = .ok (.aload_n 3, 1) := by decide +kernel
theorem dX1_make_213 : decode cX1_make 213 = .ok (.aload 4, 2) := by decide +kernel
theorem dX1_make_215 : decode cX1_make 215 = .ok (.invokevirtual 127, 3) := by decide +kernel
theorem dX1_make_218 : decode cX1_make 218 = .ok (.ireturn, 1) := by decide +kernel
theorem dX1_make_219 : decode cX1_make 219 = .ok (.aload_n 1, 1) := by decide +kernel
theorem dX1_make_220 : decode cX1_make 220 = .ok (.aload_n 2, 1) := by decide +kernel
theorem dX1_make_221 : decode cX1_make 221 = .ok (.aload_n 0, 1) := by decide +kernel
theorem dX1_make_222 : decode cX1_make 222 = .ok (.getfield 9, 3) := by decide +kernel
theorem dX1_make_225 : decode cX1_make 225 = .ok (.iconst 1, 1) := by decide +kernel
theorem dX1_make_226 : decode cX1_make 226 = .ok (.iaload, 1) := by decide +kernel
theorem dX1_make_227 : decode cX1_make 227 = .ok (.invokevirtual 113, 3) := by decide +kernel
theorem dX1_make_230 : decode cX1_make 230 = .ok (.aload_n 0, 1) := by decide +kernel
theorem dX1_make_231 : decode cX1_make 231 = .ok (.getfield 9, 3) := by decide +kernel
theorem dX1_make_234 : decode cX1_make 234 = .ok (.iconst 2, 1) := by decide +kernel
theorem dX1_make_235 : decode cX1_make 235 = .ok (.iaload, 1) := by decide +kernel
theorem dX1_make_236 : decode cX1_make 236 = .ok (.aload_n 3, 1) := by decide +kernel
theorem dX1_make_237 : decode cX1_make 237 = .ok (.invokestatic 131, 3) := by decide +kernel
theorem dX1_make_240 : decode cX1_make 240 = .ok (.ireturn, 1) := by decide +kernel
theorem dX1_fillSum_0 : decode cX1_fillSum 0 = .ok (.iconst 2, 1) := by decide +kernel
theorem dX1_fillSum_1 : decode cX1_fillSum 1 = .ok (.istore_n 3, 1) := by decide +kernel
theorem dX1_fillSum_2 : decode cX1_fillSum 2 = .ok (.iload_n 3, 1) := by decide +kernel
theorem dX1_fillSum_3 : decode cX1_fillSum 3 = .ok (.iconst 1, 1) := by decide +kernel
theorem dX1_fillSum_4 : decode cX1_fillSum 4 = .ok (.iadd, 1) := by decide +kernel
theorem dX1_fillSum_5 : decode cX1_fillSum 5 = .ok (.aload_n 0, 1) := by decide +kernel
theorem dX1_fillSum_6 : decode cX1_fillSum 6 = .ok (.getfield 15, 3) := by decide +kernel
theorem dX1_fillSum_9 : decode cX1_fillSum 9 = .ok (.if_icmp .ge 59, 3) := by decide +kernel
theorem dX1_fillSum_12 : decode cX1_fillSum 12 = .ok (.iload_n 3, 1) := by decide +kernel
theorem dX1_fillSum_13 : decode cX1_fillSum 13 = .ok (.iconst 1, 1) := by decide +kernel
theorem dX1_fillSum_14 : decode cX1_fillSum 14 = .ok (.iadd, 1) := by decide +kernel
theorem dX1_fillSum_15 : decode cX1_fillSum 15 = .ok (.aload_n 0, 1) := by decide +kernel
theorem dX1_fillSum_16 : decode cX1_fillSum 16 = .ok (.getfield 9, 3) := by decide +kernel
theorem dX1_fillSum_19 : decode cX1_fillSum 19 = .ok (.arraylength, 1) := by decide +kernel
theorem dX1_fillSum_20 : decode cX1_fillSum 20 = .ok (.if_icmp .ge 48, 3) := by decide +kernel
theorem dX1_fillSum_23 : decode cX1_fillSum 23 = .ok (.aload_n 2, 1) := by decide +kernel
theorem dX1_fillSum_24 : decode cX1_fillSum 24 = .ok (.aload_n 0, 1) := by decide +kernel
theorem dX1_fillSum_25 : decode cX1_fillSum 25 = .ok (.getfield 9, 3) := by decide +kernel
theorem dX1_fillSum_28 : decode cX1_fillSum 28 = .ok (.iload_n 3, 1) := by decide +kernel
theorem dX1_fillSum_29 : decode cX1_fillSum 29 = .ok (.iaload, 1) := by decide +kernel
theorem dX1_fillSum_30 : decode cX1_fillSum 30 = .ok (.invokevirtual 113, 3) := by decide +kernel
theorem dX1_fillSum_33 : decode cX1_fillSum 33 = .ok (.astore 4, 2) := by decide +kernel
theorem dX1_fillSum_35 : decode cX1_fillSum 35 = .ok (.aload_n 1, 1) := by decide +kernel
theorem dX1_fillSum_36 : decode cX1_fillSum 36 = .ok (.aload 4, 2) := by decide +kernel
theorem dX1_fillSum_38 : decode cX1_fillSum 38 = .ok (.aload_n 0, 1) := by decide +kernel
theorem dX1_fillSum_39 : decode cX1_fillSum 39 = .ok (.getfield 9, 3) := by decide +kernel
theorem dX1_fillSum_42 : decode cX1_fillSum 42 = .ok (.iload_n 3, 1) := by decide +kernel
theorem dX1_fillSum_43 : decode cX1_fillSum 43 = .ok (.iconst 1, 1) := by decide +kernel
theorem dX1_fillSum_44 : decode cX1_fillSum 44 = .ok (.iadd, 1) := by decide +kernel
theorem dX1_fillSum_45 : decode cX1_fillSum 45 = .ok (.iaload, 1) := by decide +kernel
theorem dX1_fillSum_46 : decode cX1_fillSum 46 = .ok (.i2l, 1) := by decide +kernel
theorem dX1_fillSum_47 : decode cX1_fillSum 47 = .ok (.invokevirtual 135, 3) := by decide +kernel
theorem dX1_fillSum_50 : decode cX1_fillSum 50 = .ok (.aload_n 1, 1) := by decide +kernel
theorem dX1_fillSum_51 : decode cX1_fillSum 51 = .ok (.aload 4, 2) := by decide +kernel
theorem dX1_fillSum_53 : decode cX1_fillSum 53 = .ok (.invokevirtual 139, 3) := by decide +kernel
theorem dX1_fillSum_56 : decode cX1_fillSum 56 = .ok (.aload_n 1, 1) := by decide +kernel
theorem dX1_fillSum_57 : decode cX1_fillSum 57 = .ok (.aload 4, 2) := by decide +kernel
theorem dX1_fillSum_59 : decode cX1_fillSum 59 = .ok (.invokevirtual 143, 3) := by decide +kernel
theorem dX1_fillSum_62 : decode cX1_fillSum 62 = .ok (.iinc 3 2, 3) := by decide +kernel
theorem dX1_fillSum_65 : decode cX1_fillSum 65 = .ok (.goto (-63), 3) := by decide +kernel
theorem dX1_fillSum_68 : decode cX1_fillSum 68 = .ok (.iconst 0, 1) := by decide +kernel
theorem dX1_fillSum_69 : decode cX1_fillSum 69 = .ok (.ireturn, 1) := by decide +kernel
theorem dX1_fillDivided_0 : decode cX1_fillDivided 0 = .ok (.iload_n 2, 1) := by decide +kernel
theorem dX1_fillDivided_1 : decode cX1_fillDivided 1 = .ok (.iconst 2, 1) := by decide +kernel
theorem dX1_fillDivided_2 : decode cX1_fillDivided 2 = .ok (.if_icmp .ge 5, 3) := by decide +kernel
theorem dX1_fillDivided_5 : decode cX1_fillDivided 5 = .ok (.iconst 3, 1) := by decide +kernel
theorem dX1_fillDivided_6 : decode cX1_fillDivided 6 = .ok (.ireturn, 1) := by decide +kernel
theorem dX1_fillDivided_7 : decode cX1_fillDivided 7 = .ok (.iconst 0, 1) := by decide +kernel
theorem dX1_fillDivided_8 : decode cX1_fillDivided 8 = .ok (.istore_n 3, 1) := by decide +kernel
theorem dX1_fillDivided_9 : decode cX1_fillDivided 9 = .ok (.iload_n 3, 1) := by decide +kernel
theorem dX1_fillDivided_10 : decode cX1_fillDivided 10 = .ok (.bipush 8, 2) := by decide +kernel
theorem dX1_fillDivided_12 : decode cX1_fillDivided 12 = .ok (.if_icmp .ge 37, 3) := by decide +kernel
theorem dX1_fillDivided_15 : decode cX1_fillDivided 15 = .ok (.aload_n 1, 1) := by decide +kernel
theorem dX1_fillDivided_16 : decode cX1_fillDivided 16 = .ok (.iload_n 3, 1) := by decide +kernel
theorem dX1_fillDivided_17 : decode cX1_fillDivided 17 = .ok (.invokevirtual 146, 3) := by decide +kernel
theorem dX1_fillDivided_20 : decode cX1_fillDivided 20 = .ok (.iload_n 2, 1) := by decide +kernel
theorem dX1_fillDivided_21 : decode cX1_fillDivided 21 = .ok (.i2l, 1) := by decide +kernel
theorem dX1_fillDivided_22 : decode cX1_fillDivided 22 = .ok (.lrem, 1) := by decide +kernel
theorem dX1_fillDivided_23 : decode cX1_fillDivided 23 = .ok (.lconst 0, 1) := by decide +kernel
theorem dX1_fillDivided_24 : decode cX1_fillDivided 24 = .ok (.lcmp, 1) := by decide +kernel
theorem dX1_fillDivided_25 : decode cX1_fillDivided 25 = .ok (.ifCond .eq 5, 3) := by decide +kernel
theorem dX1_fillDivided_28 : decode cX1_fillDivided 28 = .ok (.iconst 5, 1) := by decide +kernel
theorem dX1_fillDivided_29 : decode cX1_fillDivided 29 = .ok (.ireturn, 1) := by decide +kernel
theorem dX1_fillDivided_30 : decode cX1_fillDivided 30 = .ok (.aload_n 0, 1) := by decide +kernel
theorem dX1_fillDivided_31 : decode cX1_fillDivided 31 = .ok (.iload_n 3, 1) := by decide +kernel
theorem dX1_fillDivided_32 : decode cX1_fillDivided 32 = .ok (.aload_n 1, 1) := by decide +kernel
theorem dX1_fillDivided_33 : decode cX1_fillDivided 33 = .ok (.iload_n 3, 1) := by decide +kernel
theorem dX1_fillDivided_34 : decode cX1_fillDivided 34 = .ok (.invokevirtual 146, 3) := by decide +kernel
theorem dX1_fillDivided_37 : decode cX1_fillDivided 37 = .ok (.iload_n 2, 1) := by decide +kernel
theorem dX1_fillDivided_38 : decode cX1_fillDivided 38 = .ok (.i2l, 1) := by decide +kernel
theorem dX1_fillDivided_39 : decode cX1_fillDivided 39 = .ok (.ldiv, 1) := by decide +kernel
theorem dX1_fillDivided_40 : decode cX1_fillDivided 40 = .ok (.invokevirtual 150, 3) := by decide +kernel
theorem dX1_fillDivided_43 : decode cX1_fillDivided 43 = .ok (.iinc 3 1, 3) := by decide +kernel
theorem dX1_fillDivided_46 : decode cX1_fillDivided 46 = .ok (.goto (-37), 3) := by decide +kernel
theorem dX1_fillDivided_49 : decode cX1_fillDivided 49 = .ok (.aload_n 0, 1) := by decide +kernel
theorem dX1_fillDivided_50 : decode cX1_fillDivided 50 = .ok (.aload_n 1, 1) := by decide +kernel
theorem dX1_fillDivided_51 : decode cX1_fillDivided 51 = .ok (.getfield 154, 3) := by decide +kernel
theorem dX1_fillDivided_54 : decode cX1_fillDivided 54 = .ok (.iload_n 2, 1) := by decide +kernel
theorem dX1_fillDivided_55 : decode cX1_fillDivided 55 = .ok (.i2l, 1) := by decide +kernel
theorem dX1_fillDivided_56 : decode cX1_fillDivided 56 = .ok (.invokestatic 158, 3) := by decide +kernel
theorem dX1_fillDivided_59 : decode cX1_fillDivided 59 = .ok (.putfield 154, 3) := by decide +kernel
theorem dX1_fillDivided_62 : decode cX1_fillDivided 62 = .ok (.aload_n 0, 1) := by decide +kernel
theorem dX1_fillDivided_63 : decode cX1_fillDivided 63 = .ok (.aload_n 1, 1) := by decide +kernel
theorem dX1_fillDivided_64 : decode cX1_fillDivided 64 = .ok (.invokevirtual 139, 3) := by decide +kernel
theorem dX1_fillDivided_67 : decode cX1_fillDivided 67 = .ok (.aload_n 0, 1) := by decide +kernel
theorem dX1_fillDivided_68 : decode cX1_fillDivided 68 = .ok (.aload_n 1, 1) := by decide +kernel
theorem dX1_fillDivided_69 : decode cX1_fillDivided 69 = .ok (.invokevirtual 143, 3) := by decide +kernel
theorem dX1_fillDivided_72 : decode cX1_fillDivided 72 = .ok (.iconst 0, 1) := by decide +kernel
theorem dX1_fillDivided_73 : decode cX1_fillDivided 73 = .ok (.ireturn, 1) := by decide +kernel
theorem dX1_fillBranch_0 : decode cX1_fillBranch 0 = .ok (.aload_n 1, 1) := by decide +kernel
theorem dX1_fillBranch_1 : decode cX1_fillBranch 1 = .ok (.aload_n 0, 1) := by decide +kernel
theorem dX1_fillBranch_2 : decode cX1_fillBranch 2 = .ok (.getfield 9, 3) := by decide +kernel
theorem dX1_fillBranch_5 : decode cX1_fillBranch 5 = .ok (.iconst 1, 1) := by decide +kernel
theorem dX1_fillBranch_6 : decode cX1_fillBranch 6 = .ok (.iaload, 1) := by decide +kernel
theorem dX1_fillBranch_7 : decode cX1_fillBranch 7 = .ok (.putfield 164, 3) := by decide +kernel
theorem dX1_fillBranch_10 : decode cX1_fillBranch 10 = .ok (.aload_n 1, 1) := by decide +kernel
theorem dX1_fillBranch_11 : decode cX1_fillBranch 11 = .ok (.aload_n 0, 1) := by decide +kernel
theorem dX1_fillBranch_12 : decode cX1_fillBranch 12 = .ok (.getfield 9, 3) := by decide +kernel
theorem dX1_fillBranch_15 : decode cX1_fillBranch 15 = .ok (.iconst 2, 1) := by decide +kernel
theorem dX1_fillBranch_16 : decode cX1_fillBranch 16 = .ok (.iaload, 1) := by decide +kernel
theorem dX1_fillBranch_17 : decode cX1_fillBranch 17 = .ok (.putfield 167, 3) := by decide +kernel
theorem dX1_fillBranch_20 : decode cX1_fillBranch 20 = .ok (.aload_n 1, 1) := by decide +kernel
theorem dX1_fillBranch_21 : decode cX1_fillBranch 21 = .ok (.aload_n 0, 1) := by decide +kernel
theorem dX1_fillBranch_22 : decode cX1_fillBranch 22 = .ok (.getfield 9, 3) := by decide +kernel
theorem dX1_fillBranch_25 : decode cX1_fillBranch 25 = .ok (.iconst 3, 1) := by decide +kernel
theorem dX1_fillBranch_26 : decode cX1_fillBranch 26 = .ok (.iaload, 1) := by decide +kernel
theorem dX1_fillBranch_27 : decode cX1_fillBranch 27 = .ok (.putfield 170, 3) := by decide +kernel
theorem dX1_fillBranch_30 : decode cX1_fillBranch 30 = .ok (.aload_n 1, 1) := by decide +kernel
theorem dX1_fillBranch_31 : decode cX1_fillBranch 31 = .ok (.getfield 170, 3) := by decide +kernel
theorem dX1_fillBranch_34 : decode cX1_fillBranch 34 = .ok (.ifCond .ne 20, 3) := by decide +kernel
theorem dX1_fillBranch_37 : decode cX1_fillBranch 37 = .ok (.aload_n 1, 1) := by decide +kernel
theorem dX1_fillBranch_38 : decode cX1_fillBranch 38 = .ok (.aload_n 1, 1) := by decide +kernel
theorem dX1_fillBranch_39 : decode cX1_fillBranch 39 = .ok (.getfield 164, 3) := by decide +kernel
theorem dX1_fillBranch_42 : decode cX1_fillBranch 42 = .ok (.lconst 1, 1) := by decide +kernel
theorem dX1_fillBranch_43 : decode cX1_fillBranch 43 = .ok (.aload_n 1, 1) := by decide +kernel
theorem dX1_fillBranch_44 : decode cX1_fillBranch 44 = .ok (.getfield 167, 3) := by decide +kernel
theorem dX1_fillBranch_47 : decode cX1_fillBranch 47 = .ok (.i2l, 1) := by decide +kernel
theorem dX1_fillBranch_48 : decode cX1_fillBranch 48 = .ok (.invokevirtual 96, 3) := by decide +kernel
theorem dX1_fillBranch_51 : decode cX1_fillBranch 51 = .ok (.goto 22, 3) := by decide +kernel
theorem dX1_fillBranch_54 : decode cX1_fillBranch 54 = .ok (.aload_n 1, 1) := by decide +kernel
theorem dX1_fillBranch_55 : decode cX1_fillBranch 55 = .ok (.aload_n 1, 1) := by decide +kernel
theorem dX1_fillBranch_56 : decode cX1_fillBranch 56 = .ok (.getfield 164, 3) := by decide +kernel
theorem dX1_fillBranch_59 : decode cX1_fillBranch 59 = .ok (.ldc2_w 100, 3) := by decide +kernel
theorem dX1_fillBranch_62 : decode cX1_fillBranch 62 = .ok (.aload_n 1, 1) := by decide +kernel
theorem dX1_fillBranch_63 : decode cX1_fillBranch 63 = .ok (.getfield 167, 3) := by decide +kernel
theorem dX1_fillBranch_66 : decode cX1_fillBranch 66 = .ok (.ineg, 1) := by decide +kernel
theorem dX1_fillBranch_67 : decode cX1_fillBranch 67 = .ok (.iconst 1, 1) := by decide +kernel
theorem dX1_fillBranch_68 : decode cX1_fillBranch 68 = .ok (.isub, 1) := by decide +kernel
theorem dX1_fillBranch_69 : decode cX1_fillBranch 69 = .ok (.i2l, 1) := by decide +kernel
theorem dX1_fillBranch_70 : decode cX1_fillBranch 70 = .ok (.invokevirtual 96, 3) := by decide +kernel
theorem dX1_fillBranch_73 : decode cX1_fillBranch 73 = .ok (.iconst 0, 1) := by decide +kernel
theorem dX1_fillBranch_74 : decode cX1_fillBranch 74 = .ok (.ireturn, 1) := by decide +kernel
theorem dX1_fillJoined_0 : decode cX1_fillJoined 0 = .ok (.aload_n 2, 1) := by decide +kernel
theorem dX1_fillJoined_1 : decode cX1_fillJoined 1 = .ok (.aload_n 0, 1) := by decide +kernel
theorem dX1_fillJoined_2 : decode cX1_fillJoined 2 = .ok (.getfield 9, 3) := by decide +kernel
theorem dX1_fillJoined_5 : decode cX1_fillJoined 5 = .ok (.iconst 1, 1) := by decide +kernel
theorem dX1_fillJoined_6 : decode cX1_fillJoined 6 = .ok (.iaload, 1) := by decide +kernel
theorem dX1_fillJoined_7 : decode cX1_fillJoined 7 = .ok (.invokevirtual 113, 3) := by decide +kernel
theorem dX1_fillJoined_10 : decode cX1_fillJoined 10 = .ok (.astore_n 3, 1) := by decide +kernel
theorem dX1_fillJoined_11 : decode cX1_fillJoined 11 = .ok (.aload_n 2, 1) := by decide +kernel
theorem dX1_fillJoined_12 : decode cX1_fillJoined 12 = .ok (.aload_n 0, 1) := by decide +kernel
theorem dX1_fillJoined_13 : decode cX1_fillJoined 13 = .ok (.getfield 9, 3) := by decide +kernel
theorem dX1_fillJoined_16 : decode cX1_fillJoined 16 = .ok (.iconst 2, 1) := by decide +kernel
theorem dX1_fillJoined_17 : decode cX1_fillJoined 17 = .ok (.iaload, 1) := by decide +kernel
theorem dX1_fillJoined_18 : decode cX1_fillJoined 18 = .ok (.invokevirtual 113, 3) := by decide +kernel
theorem dX1_fillJoined_21 : decode cX1_fillJoined 21 = .ok (.astore 4, 2) := by decide +kernel
theorem dX1_fillJoined_23 : decode cX1_fillJoined 23 = .ok (.aload_n 2, 1) := by decide +kernel
theorem dX1_fillJoined_24 : decode cX1_fillJoined 24 = .ok (.aload_n 0, 1) := by decide +kernel
theorem dX1_fillJoined_25 : decode cX1_fillJoined 25 = .ok (.getfield 9, 3) := by decide +kernel
theorem dX1_fillJoined_28 : decode cX1_fillJoined 28 = .ok (.iconst 3, 1) := by decide +kernel
theorem dX1_fillJoined_29 : decode cX1_fillJoined 29 = .ok (.iaload, 1) := by decide +kernel
theorem dX1_fillJoined_30 : decode cX1_fillJoined 30 = .ok (.invokevirtual 113, 3) := by decide +kernel
theorem dX1_fillJoined_33 : decode cX1_fillJoined 33 = .ok (.astore 5, 2) := by decide +kernel
theorem dX1_fillJoined_35 : decode cX1_fillJoined 35 = .ok (.aload_n 2, 1) := by decide +kernel
theorem dX1_fillJoined_36 : decode cX1_fillJoined 36 = .ok (.aload_n 0, 1) := by decide +kernel
theorem dX1_fillJoined_37 : decode cX1_fillJoined 37 = .ok (.getfield 9, 3) := by decide +kernel
theorem dX1_fillJoined_40 : decode cX1_fillJoined 40 = .ok (.iconst 4, 1) := by decide +kernel
theorem dX1_fillJoined_41 : decode cX1_fillJoined 41 = .ok (.iaload, 1) := by decide +kernel
theorem dX1_fillJoined_42 : decode cX1_fillJoined 42 = .ok (.invokevirtual 113, 3) := by decide +kernel
theorem dX1_fillJoined_45 : decode cX1_fillJoined 45 = .ok (.astore 6, 2) := by decide +kernel
theorem dX1_fillJoined_47 : decode cX1_fillJoined 47 = .ok (.aload 5, 2) := by decide +kernel
theorem dX1_fillJoined_49 : decode cX1_fillJoined 49 = .ok (.iconst 0, 1) := by decide +kernel
theorem dX1_fillJoined_50 : decode cX1_fillJoined 50 = .ok (.invokevirtual 173, 3) := by decide +kernel
theorem dX1_fillJoined_53 : decode cX1_fillJoined 53 = .ok (.ifCond .eq 38, 3) := by decide +kernel
theorem dX1_fillJoined_56 : decode cX1_fillJoined 56 = .ok (.aload 6, 2) := by decide +kernel
theorem dX1_fillJoined_58 : decode cX1_fillJoined 58 = .ok (.iconst 1, 1) := by decide +kernel
theorem dX1_fillJoined_59 : decode cX1_fillJoined 59 = .ok (.invokevirtual 173, 3) := by decide +kernel
theorem dX1_fillJoined_62 : decode cX1_fillJoined 62 = .ok (.ifCond .eq 29, 3) := by decide +kernel
theorem dX1_fillJoined_65 : decode cX1_fillJoined 65 = .ok (.aload 5, 2) := by decide +kernel
theorem dX1_fillJoined_67 : decode cX1_fillJoined 67 = .ok (.getfield 164, 3) := by decide +kernel
theorem dX1_fillJoined_70 : decode cX1_fillJoined 70 = .ok (.aload 6, 2) := by decide +kernel
theorem dX1_fillJoined_72 : decode cX1_fillJoined 72 = .ok (.getfield 164, 3) := by decide +kernel
theorem dX1_fillJoined_75 : decode cX1_fillJoined 75 = .ok (.if_icmp .ne 16, 3) := by decide +kernel
theorem dX1_fillJoined_78 : decode cX1_fillJoined 78 = .ok (.aload 5, 2) := by decide +kernel
theorem dX1_fillJoined_80 : decode cX1_fillJoined 80 = .ok (.getfield 167, 3) := by decide +kernel
theorem dX1_fillJoined_83 : decode cX1_fillJoined 83 = .ok (.aload 6, 2) := by decide +kernel
theorem dX1_fillJoined_85 : decode cX1_fillJoined 85 = .ok (.getfield 167, 3) := by decide +kernel
theorem dX1_fillJoined_88 : decode cX1_fillJoined 88 = .ok (.if_icmp .eq 6, 3) := by decide +kernel
theorem dX1_fillJoined_91 : decode cX1_fillJoined 91 = .ok (.bipush 6, 2) := by decide +kernel
theorem dX1_fillJoined_93 : decode cX1_fillJoined 93 = .ok (.ireturn, 1) := by decide +kernel
theorem dX1_fillJoined_94 : decode cX1_fillJoined 94 = .ok (.aload_n 3, 1) := by decide +kernel
theorem dX1_fillJoined_95 : decode cX1_fillJoined 95 = .ok (.aload 4, 2) := by decide +kernel
theorem dX1_fillJoined_97 : decode cX1_fillJoined 97 = .ok (.invokevirtual 176, 3) := by decide +kernel
theorem dX1_fillJoined_100 : decode cX1_fillJoined 100 = .ok (.ifCond .eq 30, 3) := by decide +kernel
theorem dX1_fillJoined_103 : decode cX1_fillJoined 103 = .ok (.aload_n 1, 1) := by decide +kernel
theorem dX1_fillJoined_104 : decode cX1_fillJoined 104 = .ok (.aload_n 3, 1) := by decide +kernel
theorem dX1_fillJoined_105 : decode cX1_fillJoined 105 = .ok (.getfield 154, 3) := by decide +kernel
theorem dX1_fillJoined_108 : decode cX1_fillJoined 108 = .ok (.aload 4, 2) := by decide +kernel
theorem dX1_fillJoined_110 : decode cX1_fillJoined 110 = .ok (.getfield 154, 3) := by decide +kernel
theorem dX1_fillJoined_113 : decode cX1_fillJoined 113 = .ok (.lcmp, 1) := by decide +kernel
theorem dX1_fillJoined_114 : decode cX1_fillJoined 114 = .ok (.ifCond .le 7, 3) := by decide +kernel
theorem dX1_fillJoined_117 : decode cX1_fillJoined 117 = .ok (.aload_n 3, 1) := by decide +kernel
theorem dX1_fillJoined_118 : decode cX1_fillJoined 118 = .ok (.goto 5, 3) := by decide +kernel
theorem dX1_fillJoined_121 : decode cX1_fillJoined 121 = .ok (.aload 4, 2) := by decide +kernel
theorem dX1_fillJoined_123 : decode cX1_fillJoined 123 = .ok (.lconst 1, 1) := by decide +kernel
theorem dX1_fillJoined_124 : decode cX1_fillJoined 124 = .ok (.invokevirtual 135, 3) := by decide +kernel
theorem dX1_fillJoined_127 : decode cX1_fillJoined 127 = .ok (.goto 40, 3) := by decide +kernel
theorem dX1_fillJoined_130 : decode cX1_fillJoined 130 = .ok (.aload_n 3, 1) := by decide +kernel
theorem dX1_fillJoined_131 : decode cX1_fillJoined 131 = .ok (.invokevirtual 180, 3) := by decide +kernel
theorem dX1_fillJoined_134 : decode cX1_fillJoined 134 = .ok (.ifCond .eq 13, 3) := by decide +kernel
theorem dX1_fillJoined_137 : decode cX1_fillJoined 137 = .ok (.aload_n 1, 1) := by decide +kernel
theorem dX1_fillJoined_138 : decode cX1_fillJoined 138 = .ok (.aload 4, 2) := by decide +kernel
theorem dX1_fillJoined_140 : decode cX1_fillJoined 140 = .ok (.lconst 1, 1) := by decide +kernel
theorem dX1_fillJoined_141 : decode cX1_fillJoined 141 = .ok (.invokevirtual 135, 3) := by decide +kernel
theorem dX1_fillJoined_144 : decode cX1_fillJoined 144 = .ok (.goto 23, 3) := by decide +kernel
theorem dX1_fillJoined_147 : decode cX1_fillJoined 147 = .ok (.aload 4, 2) := by decide +kernel
theorem dX1_fillJoined_149 : decode cX1_fillJoined 149 = .ok (.invokevirtual 180, 3) := by decide +kernel
theorem dX1_fillJoined_152 : decode cX1_fillJoined 152 = .ok (.ifCond .eq 12, 3) := by decide +kernel
theorem dX1_fillJoined_155 : decode cX1_fillJoined 155 = .ok (.aload_n 1, 1) := by decide +kernel
theorem dX1_fillJoined_156 : decode cX1_fillJoined 156 = .ok (.aload_n 3, 1) := by decide +kernel
theorem dX1_fillJoined_157 : decode cX1_fillJoined 157 = .ok (.lconst 1, 1) := by decide +kernel
theorem dX1_fillJoined_158 : decode cX1_fillJoined 158 = .ok (.invokevirtual 135, 3) := by decide +kernel
theorem dX1_fillJoined_161 : decode cX1_fillJoined 161 = .ok (.goto 6, 3) := by decide +kernel
theorem dX1_fillJoined_164 : decode cX1_fillJoined 164 = .ok (.bipush 7, 2) := by decide +kernel
theorem dX1_fillJoined_166 : decode cX1_fillJoined 166 = .ok (.ireturn, 1) := by decide +kernel
theorem dX1_fillJoined_167 : decode cX1_fillJoined 167 = .ok (.aload_n 1, 1) := by decide +kernel
theorem dX1_fillJoined_168 : decode cX1_fillJoined 168 = .ok (.aload_n 3, 1) := by decide +kernel
theorem dX1_fillJoined_169 : decode cX1_fillJoined 169 = .ok (.getfield 183, 3) := by decide +kernel
theorem dX1_fillJoined_172 : decode cX1_fillJoined 172 = .ok (.aload 5, 2) := by decide +kernel
theorem dX1_fillJoined_174 : decode cX1_fillJoined 174 = .ok (.getfield 183, 3) := by decide +kernel
theorem dX1_fillJoined_177 : decode cX1_fillJoined 177 = .ok (.ldc2_w 100, 3) := by decide +kernel
theorem dX1_fillJoined_180 : decode cX1_fillJoined 180 = .ok (.lxor, 1) := by decide +kernel
theorem dX1_fillJoined_181 : decode cX1_fillJoined 181 = .ok (.land, 1) := by decide +kernel
theorem dX1_fillJoined_182 : decode cX1_fillJoined 182 = .ok (.aload 4, 2) := by decide +kernel
theorem dX1_fillJoined_184 : decode cX1_fillJoined 184 = .ok (.getfield 183, 3) := by decide +kernel
theorem dX1_fillJoined_187 : decode cX1_fillJoined 187 = .ok (.aload 6, 2) := by decide +kernel
theorem dX1_fillJoined_189 : decode cX1_fillJoined 189 = .ok (.getfield 183, 3) := by decide +kernel
theorem dX1_fillJoined_192 : decode cX1_fillJoined 192 = .ok (.ldc2_w 100, 3) := by decide +kernel
theorem dX1_fillJoined_195 : decode cX1_fillJoined 195 = .ok (.lxor, 1) := by decide +kernel
theorem dX1_fillJoined_196 : decode cX1_fillJoined 196 = .ok (.land, 1) := by decide +kernel
theorem dX1_fillJoined_197 : decode cX1_fillJoined 197 = .ok (.lor, 1) := by decide +kernel
theorem dX1_fillJoined_198 : decode cX1_fillJoined 198 = .ok (.putfield 183, 3) := by decide +kernel
theorem dX1_fillJoined_201 : decode cX1_fillJoined 201 = .ok (.aload_n 1, 1) := by decide +kernel
theorem dX1_fillJoined_202 : decode cX1_fillJoined 202 = .ok (.aload_n 3, 1) := by decide +kernel
theorem dX1_fillJoined_203 : decode cX1_fillJoined 203 = .ok (.invokevirtual 143, 3) := by decide +kernel
theorem dX1_fillJoined_206 : decode cX1_fillJoined 206 = .ok (.aload_n 1, 1) := by decide +kernel
theorem dX1_fillJoined_207 : decode cX1_fillJoined 207 = .ok (.aload 4, 2) := by decide +kernel
theorem dX1_fillJoined_209 : decode cX1_fillJoined 209 = .ok (.invokevirtual 143, 3) := by decide +kernel
theorem dX1_fillJoined_212 : decode cX1_fillJoined 212 = .ok (.iconst 0, 1) := by decide +kernel
theorem dX1_fillJoined_213 : decode cX1_fillJoined 213 = .ok (.ireturn, 1) := by decide +kernel
theorem dX1_fillBetter_0 : decode cX1_fillBetter 0 = .ok (.aload_n 2, 1) := by decide +kernel
theorem dX1_fillBetter_1 : decode cX1_fillBetter 1 = .ok (.aload_n 3, 1) := by decide +kernel
theorem dX1_fillBetter_2 : decode cX1_fillBetter 2 = .ok (.aload_n 0, 1) := by decide +kernel
theorem dX1_fillBetter_3 : decode cX1_fillBetter 3 = .ok (.getfield 9, 3) := by decide +kernel
theorem dX1_fillBetter_6 : decode cX1_fillBetter 6 = .ok (.iconst 1, 1) := by decide +kernel
theorem dX1_fillBetter_7 : decode cX1_fillBetter 7 = .ok (.iaload, 1) := by decide +kernel
theorem dX1_fillBetter_8 : decode cX1_fillBetter 8 = .ok (.invokevirtual 72, 3) := by decide +kernel
theorem dX1_fillBetter_11 : decode cX1_fillBetter 11 = .ok (.invokevirtual 186, 3) := by decide +kernel
theorem dX1_fillBetter_14 : decode cX1_fillBetter 14 = .ok (.lstore 4, 2) := by decide +kernel
theorem dX1_fillBetter_16 : decode cX1_fillBetter 16 = .ok (.aload_n 2, 1) := by decide +kernel
theorem dX1_fillBetter_17 : decode cX1_fillBetter 17 = .ok (.aload_n 1, 1) := by decide +kernel
theorem dX1_fillBetter_18 : decode cX1_fillBetter 18 = .ok (.invokevirtual 190, 3) := by decide +kernel
theorem dX1_fillBetter_21 : decode cX1_fillBetter 21 = .ok (.aload_n 1, 1) := by decide +kernel
theorem dX1_fillBetter_22 : decode cX1_fillBetter 22 = .ok (.lload 4, 2) := by decide +kernel
theorem dX1_fillBetter_24 : decode cX1_fillBetter 24 = .ok (.lconst 1, 1) := by decide +kernel
theorem dX1_fillBetter_25 : decode cX1_fillBetter 25 = .ok (.lsub, 1) := by decide +kernel
theorem dX1_fillBetter_26 : decode cX1_fillBetter 26 = .ok (.putfield 154, 3) := by decide +kernel
theorem dX1_fillBetter_29 : decode cX1_fillBetter 29 = .ok (.aload_n 1, 1) := by decide +kernel
theorem dX1_fillBetter_30 : decode cX1_fillBetter 30 = .ok (.lload 4, 2) := by decide +kernel
theorem dX1_fillBetter_32 : decode cX1_fillBetter 32 = .ok (.invokevirtual 193, 3) := by decide +kernel
theorem dX1_fillBetter_35 : decode cX1_fillBetter 35 = .ok (.iconst 0, 1) := by decide +kernel
theorem dX1_fillBetter_36 : decode cX1_fillBetter 36 = .ok (.ireturn, 1) := by decide +kernel
theorem dX1_fillPushed_0 : decode cX1_fillPushed 0 = .ok (.aload_n 1, 1) := by decide +kernel
theorem dX1_fillPushed_1 : decode cX1_fillPushed 1 = .ok (.iload_n 2, 1) := by decide +kernel
theorem dX1_fillPushed_2 : decode cX1_fillPushed 2 = .ok (.invokevirtual 146, 3) := by decide +kernel
theorem dX1_fillPushed_5 : decode cX1_fillPushed 5 = .ok (.lstore 4, 2) := by decide +kernel
theorem dX1_fillPushed_7 : decode cX1_fillPushed 7 = .ok (.lload 4, 2) := by decide +kernel
theorem dX1_fillPushed_9 : decode cX1_fillPushed 9 = .ok (.lconst 0, 1) := by decide +kernel
theorem dX1_fillPushed_10 : decode cX1_fillPushed 10 = .ok (.lcmp, 1) := by decide +kernel
theorem dX1_fillPushed_11 : decode cX1_fillPushed 11 = .ok (.ifCond .ne 5, 3) := by decide +kernel
theorem dX1_fillPushed_14 : decode cX1_fillPushed 14 = .ok (.iconst 5, 1) := by decide +kernel
theorem dX1_fillPushed_15 : decode cX1_fillPushed 15 = .ok (.ireturn, 1) := by decide +kernel
theorem dX1_fillPushed_16 : decode cX1_fillPushed 16 = .ok (.aload_n 1, 1) := by decide +kernel
theorem dX1_fillPushed_17 : decode cX1_fillPushed 17 = .ok (.getfield 154, 3) := by decide +kernel
theorem dX1_fillPushed_20 : decode cX1_fillPushed 20 = .ok (.lstore 6, 2) := by decide +kernel
theorem dX1_fillPushed_22 : decode cX1_fillPushed 22 = .ok (.iconst 0, 1) := by decide +kernel
theorem dX1_fillPushed_23 : decode cX1_fillPushed 23 = .ok (.istore 8, 2) := by decide +kernel
theorem dX1_fillPushed_25 : decode cX1_fillPushed 25 = .ok (.iload 8, 2) := by decide +kernel
theorem dX1_fillPushed_27 : decode cX1_fillPushed 27 = .ok (.bipush 8, 2) := by decide +kernel
theorem dX1_fillPushed_29 : decode cX1_fillPushed 29 = .ok (.if_icmp .ge 59, 3) := by decide +kernel
theorem dX1_fillPushed_32 : decode cX1_fillPushed 32 = .ok (.iload 8, 2) := by decide +kernel
theorem dX1_fillPushed_34 : decode cX1_fillPushed 34 = .ok (.iload_n 2, 1) := by decide +kernel
theorem dX1_fillPushed_35 : decode cX1_fillPushed 35 = .ok (.if_icmp .eq 47, 3) := by decide +kernel
theorem dX1_fillPushed_38 : decode cX1_fillPushed 38 = .ok (.aload_n 1, 1) := by decide +kernel
theorem dX1_fillPushed_39 : decode cX1_fillPushed 39 = .ok (.iload 8, 2) := by decide +kernel
theorem dX1_fillPushed_41 : decode cX1_fillPushed 41 = .ok (.invokevirtual 146, 3) := by decide +kernel
theorem dX1_fillPushed_44 : decode cX1_fillPushed 44 = .ok (.aload_n 3, 1) := by decide +kernel
theorem dX1_fillPushed_45 : decode cX1_fillPushed 45 = .ok (.iload 8, 2) := by decide +kernel
theorem dX1_fillPushed_47 : decode cX1_fillPushed 47 = .ok (.invokevirtual 102, 3) := by decide +kernel
theorem dX1_fillPushed_50 : decode cX1_fillPushed 50 = .ok (.i2l, 1) := by decide +kernel
theorem dX1_fillPushed_51 : decode cX1_fillPushed 51 = .ok (.lmul, 1) := by decide +kernel
theorem dX1_fillPushed_52 : decode cX1_fillPushed 52 = .ok (.lstore 9, 2) := by decide +kernel
theorem dX1_fillPushed_54 : decode cX1_fillPushed 54 = .ok (.aload_n 1, 1) := by decide +kernel
theorem dX1_fillPushed_55 : decode cX1_fillPushed 55 = .ok (.iload 8, 2) := by decide +kernel
theorem dX1_fillPushed_57 : decode cX1_fillPushed 57 = .ok (.invokevirtual 146, 3) := by decide +kernel
theorem dX1_fillPushed_60 : decode cX1_fillPushed 60 = .ok (.aload_n 3, 1) := by decide +kernel
theorem dX1_fillPushed_61 : decode cX1_fillPushed 61 = .ok (.iload 8, 2) := by decide +kernel
theorem dX1_fillPushed_63 : decode cX1_fillPushed 63 = .ok (.invokevirtual 92, 3) := by decide +kernel
theorem dX1_fillPushed_66 : decode cX1_fillPushed 66 = .ok (.i2l, 1) := by decide +kernel
theorem dX1_fillPushed_67 : decode cX1_fillPushed 67 = .ok (.lmul, 1) := by decide +kernel
theorem dX1_fillPushed_68 : decode cX1_fillPushed 68 = .ok (.lstore 11, 2) := by decide +kernel
theorem dX1_fillPushed_70 : decode cX1_fillPushed 70 = .ok (.lload 6, 2) := by decide +kernel
theorem dX1_fillPushed_72 : decode cX1_fillPushed 72 = .ok (.lload 9, 2) := by decide +kernel
theorem dX1_fillPushed_74 : decode cX1_fillPushed 74 = .ok (.lload 11, 2) := by decide +kernel
theorem dX1_fillPushed_76 : decode cX1_fillPushed 76 = .ok (.invokestatic 197, 3) := by decide +kernel
theorem dX1_fillPushed_79 : decode cX1_fillPushed 79 = .ok (.lsub, 1) := by decide +kernel
theorem dX1_fillPushed_80 : decode cX1_fillPushed 80 = .ok (.lstore 6, 2) := by decide +kernel
theorem dX1_fillPushed_82 : decode cX1_fillPushed 82 = .ok (.iinc 8 1, 3) := by decide +kernel
theorem dX1_fillPushed_85 : decode cX1_fillPushed 85 = .ok (.goto (-60), 3) := by decide +kernel
theorem dX1_fillPushed_88 : decode cX1_fillPushed 88 = .ok (.lload 4, 2) := by decide +kernel
theorem dX1_fillPushed_90 : decode cX1_fillPushed 90 = .ok (.lconst 0, 1) := by decide +kernel
theorem dX1_fillPushed_91 : decode cX1_fillPushed 91 = .ok (.lcmp, 1) := by decide +kernel
theorem dX1_fillPushed_92 : decode cX1_fillPushed 92 = .ok (.ifCond .le 19, 3) := by decide +kernel
theorem dX1_fillPushed_95 : decode cX1_fillPushed 95 = .ok (.aload_n 0, 1) := by decide +kernel
theorem dX1_fillPushed_96 : decode cX1_fillPushed 96 = .ok (.iload_n 2, 1) := by decide +kernel
theorem dX1_fillPushed_97 : decode cX1_fillPushed 97 = .ok (.lconst 1, 1) := by decide +kernel
theorem dX1_fillPushed_98 : decode cX1_fillPushed 98 = .ok (.lload 6, 2) := by decide +kernel
theorem dX1_fillPushed_100 : decode cX1_fillPushed 100 = .ok (.lload 4, 2) := by decide +kernel
theorem dX1_fillPushed_102 : decode cX1_fillPushed 102 = .ok (.invokestatic 158, 3) := by decide +kernel
theorem dX1_fillPushed_105 : decode cX1_fillPushed 105 = .ok (.invokevirtual 96, 3) := by decide +kernel
theorem dX1_fillPushed_108 : decode cX1_fillPushed 108 = .ok (.goto 19, 3) := by decide +kernel
theorem dX1_fillPushed_111 : decode cX1_fillPushed 111 = .ok (.aload_n 0, 1) := by decide +kernel
theorem dX1_fillPushed_112 : decode cX1_fillPushed 112 = .ok (.iload_n 2, 1) := by decide +kernel
theorem dX1_fillPushed_113 : decode cX1_fillPushed 113 = .ok (.ldc2_w 100, 3) := by decide +kernel
theorem dX1_fillPushed_116 : decode cX1_fillPushed 116 = .ok (.lload 6, 2) := by decide +kernel
theorem dX1_fillPushed_118 : decode cX1_fillPushed 118 = .ok (.lload 4, 2) := by decide +kernel
theorem dX1_fillPushed_120 : decode cX1_fillPushed 120 = .ok (.lneg, 1) := by decide +kernel
theorem dX1_fillPushed_121 : decode cX1_fillPushed 121 = .ok (.invokestatic 158, 3) := by decide +kernel
theorem dX1_fillPushed_124 : decode cX1_fillPushed 124 = .ok (.invokevirtual 96, 3) := by decide +kernel
theorem dX1_fillPushed_127 : decode cX1_fillPushed 127 = .ok (.aload_n 0, 1) := by decide +kernel
theorem dX1_fillPushed_128 : decode cX1_fillPushed 128 = .ok (.aload_n 1, 1) := by decide +kernel
theorem dX1_fillPushed_129 : decode cX1_fillPushed 129 = .ok (.invokevirtual 139, 3) := by decide +kernel
theorem dX1_fillPushed_132 : decode cX1_fillPushed 132 = .ok (.aload_n 0, 1) := by decide +kernel
theorem dX1_fillPushed_133 : decode cX1_fillPushed 133 = .ok (.aload_n 1, 1) := by decide +kernel
theorem dX1_fillPushed_134 : decode cX1_fillPushed 134 = .ok (.invokevirtual 143, 3) := by decide +kernel
theorem dX1_fillPushed_137 : decode cX1_fillPushed 137 = .ok (.iconst 0, 1) := by decide +kernel
theorem dX1_fillPushed_138 : decode cX1_fillPushed 138 = .ok (.ireturn, 1) := by decide +kernel
theorem dX2_init_0 : decode cX2_init 0 = .ok (.aload_n 0, 1) := by decide +kernel
theorem dX2_init_1 : decode cX2_init 1 = .ok (.invokespecial 3, 3) := by decide +kernel
theorem dX2_init_4 : decode cX2_init 4 = .ok (.aload_n 0, 1) := by decide +kernel
theorem dX2_init_5 : decode cX2_init 5 = .ok (.bipush 8, 2) := by decide +kernel
theorem dX2_init_7 : decode cX2_init 7 = .ok (.newarray .int, 2) := by decide +kernel
theorem dX2_init_9 : decode cX2_init 9 = .ok (.putfield 9, 3) := by decide +kernel
theorem dX2_init_12 : decode cX2_init 12 = .ok (.aload_n 0, 1) := by decide +kernel
theorem dX2_init_13 : decode cX2_init 13 = .ok (.bipush 8, 2) := by decide +kernel
theorem dX2_init_15 : decode cX2_init 15 = .ok (.newarray .int, 2) := by decide +kernel
theorem dX2_init_17 : decode cX2_init 17 = .ok (.putfield 15, 3) := by decide +kernel
theorem dX2_init_20 : decode cX2_init 20 = .ok (.aload_n 0, 1) := by decide +kernel
theorem dX2_init_21 : decode cX2_init 21 = .ok (.bipush 8, 2) := by decide +kernel
theorem dX2_init_23 : decode cX2_init 23 = .ok (.newarray .int, 2) := by decide +kernel
theorem dX2_init_25 : decode cX2_init 25 = .ok (.putfield 18, 3) := by decide +kernel
theorem dX2_init_28 : decode cX2_init 28 = .ok (.aload_n 0, 1) := by decide +kernel
theorem dX2_init_29 : decode cX2_init 29 = .ok (.bipush 20, 2) := by decide +kernel
theorem dX2_init_31 : decode cX2_init 31 = .ok (.bipush 8, 2) := by decide +kernel
theorem dX2_init_33 : decode cX2_init 33 = .ok (.multianewarray 21 2, 4) := by decide +kernel
theorem dX2_init_37 : decode cX2_init 37 = .ok (.putfield 23, 3) := by decide +kernel
theorem dX2_init_40 : decode cX2_init 40 = .ok (.aload_n 0, 1) := by decide +kernel
theorem dX2_init_41 : decode cX2_init 41 = .ok (.bipush 20, 2) := by decide +kernel
theorem dX2_init_43 : decode cX2_init 43 = .ok (.newarray .int, 2) := by decide +kernel
theorem dX2_init_45 : decode cX2_init 45 = .ok (.putfield 26, 3) := by decide +kernel
theorem dX2_init_48 : decode cX2_init 48 = .ok (.aload_n 0, 1) := by decide +kernel
theorem dX2_init_49 : decode cX2_init 49 = .ok (.iconst 4, 1) := by decide +kernel
theorem dX2_init_50 : decode cX2_init 50 = .ok (.newarray .int, 2) := by decide +kernel
theorem dX2_init_52 : decode cX2_init 52 = .ok (.putfield 29, 3) := by decide +kernel
theorem dX2_init_55 : decode cX2_init 55 = .ok (.aload_n 0, 1) := by decide +kernel
theorem dX2_init_56 : decode cX2_init 56 = .ok (.iconst 4, 1) := by decide +kernel
theorem dX2_init_57 : decode cX2_init 57 = .ok (.newarray .int, 2) := by decide +kernel
theorem dX2_init_59 : decode cX2_init 59 = .ok (.putfield 32, 3) := by decide +kernel
theorem dX2_init_62 : decode cX2_init 62 = .ok (.aload_n 0, 1) := by decide +kernel
theorem dX2_init_63 : decode cX2_init 63 = .ok (.iconst 4, 1) := by decide +kernel
theorem dX2_init_64 : decode cX2_init 64 = .ok (.newarray .int, 2) := by decide +kernel
theorem dX2_init_66 : decode cX2_init 66 = .ok (.putfield 35, 3) := by decide +kernel
theorem dX2_init_69 : decode cX2_init 69 = .ok (.aload_n 0, 1) := by decide +kernel
theorem dX2_init_70 : decode cX2_init 70 = .ok (.iconst 4, 1) := by decide +kernel
theorem dX2_init_71 : decode cX2_init 71 = .ok (.bipush 20, 2) := by decide +kernel
theorem dX2_init_73 : decode cX2_init 73 = .ok (.multianewarray 21 2, 4) := by decide +kernel
theorem dX2_init_77 : decode cX2_init 77 = .ok (.putfield 38, 3) := by decide +kernel
theorem dX2_init_80 : decode cX2_init 80 = .ok (.aload_n 0, 1) := by decide +kernel
theorem dX2_init_81 : decode cX2_init 81 = .ok (.iconst 4, 1) := by decide +kernel
theorem dX2_init_82 : decode cX2_init 82 = .ok (.bipush 20, 2) := by decide +kernel
theorem dX2_init_84 : decode cX2_init 84 = .ok (.multianewarray 21 2, 4) := by decide +kernel
theorem dX2_init_88 : decode cX2_init 88 = .ok (.putfield 41, 3) := by decide +kernel
theorem dX2_init_91 : decode cX2_init 91 = .ok (.return_, 1) := by decide +kernel
theorem dX2_fillFrom_0 : decode cX2_fillFrom 0 = .ok (.aload_n 1, 1) := by decide +kernel
theorem dX2_fillFrom_1 : decode cX2_fillFrom 1 = .ok (.invokevirtual 44, 3) := by decide +kernel
theorem dX2_fillFrom_4 : decode cX2_fillFrom 4 = .ok (.aload_n 0, 1) := by decide +kernel
theorem dX2_fillFrom_5 : decode cX2_fillFrom 5 = .ok (.aload_n 1, 1) := by decide +kernel
theorem dX2_fillFrom_6 : decode cX2_fillFrom 6 = .ok (.iconst 1, 1) := by decide +kernel
theorem dX2_fillFrom_7 : decode cX2_fillFrom 7 = .ok (.bipush 8, 2) := by decide +kernel
theorem dX2_fillFrom_9 : decode cX2_fillFrom 9 = .ok (.invokevirtual 49, 3) := by decide +kernel
theorem dX2_fillFrom_12 : decode cX2_fillFrom 12 = .ok (.putfield 53, 3) := by decide +kernel
theorem dX2_fillFrom_15 : decode cX2_fillFrom 15 = .ok (.iconst 0, 1) := by decide +kernel
theorem dX2_fillFrom_16 : decode cX2_fillFrom 16 = .ok (.istore_n 2, 1) := by decide +kernel
theorem dX2_fillFrom_17 : decode cX2_fillFrom 17 = .ok (.iload_n 2, 1) := by decide +kernel
theorem dX2_fillFrom_18 : decode cX2_fillFrom 18 = .ok (.bipush 8, 2) := by decide +kernel
theorem dX2_fillFrom_20 : decode cX2_fillFrom 20 = .ok (.if_icmp .ge 15, 3) := by decide +kernel
theorem dX2_fillFrom_23 : decode cX2_fillFrom 23 = .ok (.aload_n 0, 1) := by decide +kernel
theorem dX2_fillFrom_24 : decode cX2_fillFrom 24 = .ok (.aload_n 1, 1) := by decide +kernel
theorem dX2_fillFrom_25 : decode cX2_fillFrom 25 = .ok (.iload_n 2, 1) := by decide +kernel
theorem dX2_fillFrom_26 : decode cX2_fillFrom 26 = .ok (.invokevirtual 57, 3) := by decide +kernel
theorem dX2_fillFrom_29 : decode cX2_fillFrom 29 = .ok (.iinc 2 1, 3) := by decide +kernel
theorem dX2_fillFrom_32 : decode cX2_fillFrom 32 = .ok (.goto (-15), 3) := by decide +kernel
theorem dX2_fillFrom_35 : decode cX2_fillFrom 35 = .ok (.aload_n 0, 1) := by decide +kernel
theorem dX2_fillFrom_36 : decode cX2_fillFrom 36 = .ok (.aload_n 1, 1) := by decide +kernel
theorem dX2_fillFrom_37 : decode cX2_fillFrom 37 = .ok (.iconst 0, 1) := by decide +kernel
theorem dX2_fillFrom_38 : decode cX2_fillFrom 38 = .ok (.bipush 20, 2) := by decide +kernel
theorem dX2_fillFrom_40 : decode cX2_fillFrom 40 = .ok (.invokevirtual 49, 3) := by decide +kernel
theorem dX2_fillFrom_43 : decode cX2_fillFrom 43 = .ok (.putfield 61, 3) := by decide +kernel
theorem dX2_fillFrom_46 : decode cX2_fillFrom 46 = .ok (.iconst 0, 1) := by decide +kernel
theorem dX2_fillFrom_47 : decode cX2_fillFrom 47 = .ok (.istore_n 2, 1) := by decide +kernel
theorem dX2_fillFrom_48 : decode cX2_fillFrom 48 = .ok (.iload_n 2, 1) := by decide +kernel
theorem dX2_fillFrom_49 : decode cX2_fillFrom 49 = .ok (.bipush 20, 2) := by decide +kernel
theorem dX2_fillFrom_51 : decode cX2_fillFrom 51 = .ok (.if_icmp .ge 73, 3) := by decide +kernel
theorem dX2_fillFrom_54 : decode cX2_fillFrom 54 = .ok (.iload_n 2, 1) := by decide +kernel
theorem dX2_fillFrom_55 : decode cX2_fillFrom 55 = .ok (.aload_n 0, 1) := by decide +kernel
theorem dX2_fillFrom_56 : decode cX2_fillFrom 56 = .ok (.getfield 61, 3) := by decide +kernel
theorem dX2_fillFrom_59 : decode cX2_fillFrom 59 = .ok (.if_icmp .ge 65, 3) := by decide +kernel
theorem dX2_fillFrom_62 : decode cX2_fillFrom 62 = .ok (.iconst 0, 1) := by decide +kernel
theorem dX2_fillFrom_63 : decode cX2_fillFrom 63 = .ok (.istore_n 3, 1) := by decide +kernel
theorem dX2_fillFrom_64 : decode cX2_fillFrom 64 = .ok (.iload_n 3, 1) := by decide +kernel
theorem dX2_fillFrom_65 : decode cX2_fillFrom 65 = .ok (.bipush 8, 2) := by decide +kernel
theorem dX2_fillFrom_67 : decode cX2_fillFrom 67 = .ok (.if_icmp .ge 37, 3) := by decide +kernel
theorem dX2_fillFrom_70 : decode cX2_fillFrom 70 = .ok (.aload_n 0, 1) := by decide +kernel
theorem dX2_fillFrom_71 : decode cX2_fillFrom 71 = .ok (.getfield 23, 3) := by decide +kernel
theorem dX2_fillFrom_74 : decode cX2_fillFrom 74 = .ok (.iload_n 2, 1) := by decide +kernel
theorem dX2_fillFrom_75 : decode cX2_fillFrom 75 = .ok (.aaload, 1) := by decide +kernel
theorem dX2_fillFrom_76 : decode cX2_fillFrom 76 = .ok (.iload_n 3, 1) := by decide +kernel
theorem dX2_fillFrom_77 : decode cX2_fillFrom 77 = .ok (.iload_n 3, 1) := by decide +kernel
theorem dX2_fillFrom_78 : decode cX2_fillFrom 78 = .ok (.aload_n 0, 1) := by decide +kernel
theorem dX2_fillFrom_79 : decode cX2_fillFrom 79 = .ok (.getfield 53, 3) := by decide +kernel
theorem dX2_fillFrom_82 : decode cX2_fillFrom 82 = .ok (.if_icmp .ge 14, 3) := by decide +kernel
theorem dX2_fillFrom_85 : decode cX2_fillFrom 85 = .ok (.aload_n 1, 1) := by decide +kernel
theorem dX2_fillFrom_86 : decode cX2_fillFrom 86 = .ok (.bipush (-100), 2) := by decide +kernel
theorem dX2_fillFrom_88 : decode cX2_fillFrom 88 = .ok (.bipush 100, 2) := by decide +kernel
theorem dX2_fillFrom_90 : decode cX2_fillFrom 90 = .ok (.invokevirtual 49, 3) := by decide +kernel
theorem dX2_fillFrom_93 : decode cX2_fillFrom 93 = .ok (.goto 4, 3) := by decide +kernel
theorem dX2_fillFrom_96 : decode cX2_fillFrom 96 = .ok (.iconst 0, 1) := by decide +kernel
theorem dX2_fillFrom_97 : decode cX2_fillFrom 97 = .ok (.iastore, 1) := by decide +kernel
theorem dX2_fillFrom_98 : decode cX2_fillFrom 98 = .ok (.iinc 3 1, 3) := by decide +kernel
theorem dX2_fillFrom_101 : decode cX2_fillFrom 101 = .ok (.goto (-37), 3) := by decide +kernel
theorem dX2_fillFrom_104 : decode cX2_fillFrom 104 = .ok (.aload_n 0, 1) := by decide +kernel
theorem dX2_fillFrom_105 : decode cX2_fillFrom 105 = .ok (.getfield 26, 3) := by decide +kernel
theorem dX2_fillFrom_108 : decode cX2_fillFrom 108 = .ok (.iload_n 2, 1) := by decide +kernel
theorem dX2_fillFrom_109 : decode cX2_fillFrom 109 = .ok (.aload_n 1, 1) := by decide +kernel
theorem dX2_fillFrom_110 : decode cX2_fillFrom 110 = .ok (.ldc 64, 2) := by decide +kernel
theorem dX2_fillFrom_112 : decode cX2_fillFrom 112 = .ok (.ldc 65, 2) := by decide +kernel
theorem dX2_fillFrom_114 : decode cX2_fillFrom 114 = .ok (.invokevirtual 49, 3) := by decide +kernel
theorem dX2_fillFrom_117 : decode cX2_fillFrom 117 = .ok (.iastore, 1) := by decide +kernel
theorem dX2_fillFrom_118 : decode cX2_fillFrom 118 = .ok (.iinc 2 1, 3) := by decide +kernel
theorem dX2_fillFrom_121 : decode cX2_fillFrom 121 = .ok (.goto (-73), 3) := by decide +kernel
theorem dX2_fillFrom_124 : decode cX2_fillFrom 124 = .ok (.aload_n 0, 1) := by decide +kernel
theorem dX2_fillFrom_125 : decode cX2_fillFrom 125 = .ok (.aload_n 1, 1) := by decide +kernel
theorem dX2_fillFrom_126 : decode cX2_fillFrom 126 = .ok (.iconst 0, 1) := by decide +kernel
theorem dX2_fillFrom_127 : decode cX2_fillFrom 127 = .ok (.iconst 4, 1) := by decide +kernel
theorem dX2_fillFrom_128 : decode cX2_fillFrom 128 = .ok (.invokevirtual 49, 3) := by decide +kernel
theorem dX2_fillFrom_131 : decode cX2_fillFrom 131 = .ok (.putfield 66, 3) := by decide +kernel
theorem dX2_fillFrom_134 : decode cX2_fillFrom 134 = .ok (.iconst 0, 1) := by decide +kernel
theorem dX2_fillFrom_135 : decode cX2_fillFrom 135 = .ok (.istore_n 2, 1) := by decide +kernel
theorem dX2_fillFrom_136 : decode cX2_fillFrom 136 = .ok (.iload_n 2, 1) := by decide +kernel
theorem dX2_fillFrom_137 : decode cX2_fillFrom 137 = .ok (.iconst 4, 1) := by decide +kernel
theorem dX2_fillFrom_138 : decode cX2_fillFrom 138 = .ok (.if_icmp .ge 23, 3) := by decide +kernel
theorem dX2_fillFrom_141 : decode cX2_fillFrom 141 = .ok (.iload_n 2, 1) := by decide +kernel
theorem dX2_fillFrom_142 : decode cX2_fillFrom 142 = .ok (.aload_n 0, 1) := by decide +kernel
theorem dX2_fillFrom_143 : decode cX2_fillFrom 143 = .ok (.getfield 66, 3) := by decide +kernel
theorem dX2_fillFrom_146 : decode cX2_fillFrom 146 = .ok (.if_icmp .ge 15, 3) := by decide +kernel
theorem dX2_fillFrom_149 : decode cX2_fillFrom 149 = .ok (.aload_n 0, 1) := by decide +kernel
theorem dX2_fillFrom_150 : decode cX2_fillFrom 150 = .ok (.aload_n 1, 1) := by decide +kernel
theorem dX2_fillFrom_151 : decode cX2_fillFrom 151 = .ok (.iload_n 2, 1) := by decide +kernel
theorem dX2_fillFrom_152 : decode cX2_fillFrom 152 = .ok (.invokevirtual 69, 3) := by decide +kernel
theorem dX2_fillFrom_155 : decode cX2_fillFrom 155 = .ok (.iinc 2 1, 3) := by decide +kernel
theorem dX2_fillFrom_158 : decode cX2_fillFrom 158 = .ok (.goto (-22), 3) := by decide +kernel
theorem dX2_fillFrom_161 : decode cX2_fillFrom 161 = .ok (.aload_n 0, 1) := by decide +kernel
theorem dX2_fillFrom_162 : decode cX2_fillFrom 162 = .ok (.aload_n 1, 1) := by decide +kernel
theorem dX2_fillFrom_163 : decode cX2_fillFrom 163 = .ok (.invokevirtual 72, 3) := by decide +kernel
theorem dX2_fillFrom_166 : decode cX2_fillFrom 166 = .ok (.putfield 76, 3) := by decide +kernel
theorem dX2_fillFrom_169 : decode cX2_fillFrom 169 = .ok (.aload_n 1, 1) := by decide +kernel
theorem dX2_fillFrom_170 : decode cX2_fillFrom 170 = .ok (.invokevirtual 79, 3) := by decide +kernel
theorem dX2_fillFrom_173 : decode cX2_fillFrom 173 = .ok (.ireturn, 1) := by decide +kernel
theorem dX2_fillVariable_0 : decode cX2_fillVariable 0 = .ok (.iload_n 2, 1) := by decide +kernel
theorem dX2_fillVariable_1 : decode cX2_fillVariable 1 = .ok (.aload_n 0, 1) := by decide +kernel
theorem dX2_fillVariable_2 : decode cX2_fillVariable 2 = .ok (.getfield 53, 3) := by decide +kernel
theorem dX2_fillVariable_5 : decode cX2_fillVariable 5 = .ok (.if_icmp .ge 7, 3) := by decide +kernel
theorem dX2_fillVariable_8 : decode cX2_fillVariable 8 = .ok (.iconst 1, 1) := by decide +kernel
theorem dX2_fillVariable_9 : decode cX2_fillVariable 9 = .ok (.goto 4, 3) := by decide +kernel
theorem dX2_fillVariable_12 : decode cX2_fillVariable 12 = .ok (.iconst 0, 1) := by decide +kernel
theorem dX2_fillVariable_13 : decode cX2_fillVariable 13 = .ok (.istore_n 3, 1) := by decide +kernel
theorem dX2_fillVariable_14 : decode cX2_fillVariable 14 = .ok (.aload_n 0, 1) := by decide +kernel
theorem dX2_fillVariable_15 : decode cX2_fillVariable 15 = .ok (.getfield 9, 3) := by decide +kernel
theorem dX2_fillVariable_18 : decode cX2_fillVariable 18 = .ok (.iload_n 2, 1) := by decide +kernel
theorem dX2_fillVariable_19 : decode cX2_fillVariable 19 = .ok (.iload_n 3, 1) := by decide +kernel
theorem dX2_fillVariable_20 : decode cX2_fillVariable 20 = .ok (.ifCond .eq 16, 3) := by decide +kernel
theorem dX2_fillVariable_23 : decode cX2_fillVariable 23 = .ok (.aload_n 1, 1) := by decide +kernel
theorem dX2_fillVariable_24 : decode cX2_fillVariable 24 = .ok (.sipush (-1000), 3) := by decide +kernel
theorem dX2_fillVariable_27 : decode cX2_fillVariable 27 = .ok (.sipush 1000, 3) := by decide +kernel
theorem dX2_fillVariable_30 : decode cX2_fillVariable 30 = .ok (.invokevirtual 49, 3) := by decide +kernel
theorem dX2_fillVariable_33 : decode cX2_fillVariable 33 = .ok (.goto 4, 3) := by decide +kernel
theorem dX2_fillVariable_36 : decode cX2_fillVariable 36 = .ok (.iconst 0, 1) := by decide +kernel
theorem dX2_fillVariable_37 : decode cX2_fillVariable 37 = .ok (.iastore, 1) := by decide +kernel
theorem dX2_fillVariable_38 : decode cX2_fillVariable 38 = .ok (.aload_n 0, 1) := by decide +kernel
theorem dX2_fillVariable_39 : decode cX2_fillVariable 39 = .ok (.getfield 15, 3) := by decide +kernel
theorem dX2_fillVariable_42 : decode cX2_fillVariable 42 = .ok (.iload_n 2, 1) := by decide +kernel
theorem dX2_fillVariable_43 : decode cX2_fillVariable 43 = .ok (.iload_n 3, 1) := by decide +kernel
theorem dX2_fillVariable_44 : decode cX2_fillVariable 44 = .ok (.ifCond .eq 19, 3) := by decide +kernel
theorem dX2_fillVariable_47 : decode cX2_fillVariable 47 = .ok (.aload_n 1, 1) := by decide +kernel
theorem dX2_fillVariable_48 : decode cX2_fillVariable 48 = .ok (.aload_n 0, 1) := by decide +kernel
theorem dX2_fillVariable_49 : decode cX2_fillVariable 49 = .ok (.getfield 9, 3) := by decide +kernel
theorem dX2_fillVariable_52 : decode cX2_fillVariable 52 = .ok (.iload_n 2, 1) := by decide +kernel
theorem dX2_fillVariable_53 : decode cX2_fillVariable 53 = .ok (.iaload, 1) := by decide +kernel
theorem dX2_fillVariable_54 : decode cX2_fillVariable 54 = .ok (.sipush 1000, 3) := by decide +kernel
theorem dX2_fillVariable_57 : decode cX2_fillVariable 57 = .ok (.invokevirtual 49, 3) := by decide +kernel
theorem dX2_fillVariable_60 : decode cX2_fillVariable 60 = .ok (.goto 4, 3) := by decide +kernel
theorem dX2_fillVariable_63 : decode cX2_fillVariable 63 = .ok (.iconst 0, 1) := by decide +kernel
theorem dX2_fillVariable_64 : decode cX2_fillVariable 64 = .ok (.iastore, 1) := by decide +kernel
theorem dX2_fillVariable_65 : decode cX2_fillVariable 65 = .ok (.aload_n 0, 1) := by decide +kernel
theorem dX2_fillVariable_66 : decode cX2_fillVariable 66 = .ok (.getfield 18, 3) := by decide +kernel
theorem dX2_fillVariable_69 : decode cX2_fillVariable 69 = .ok (.iload_n 2, 1) := by decide +kernel
theorem dX2_fillVariable_70 : decode cX2_fillVariable 70 = .ok (.iload_n 3, 1) := by decide +kernel
theorem dX2_fillVariable_71 : decode cX2_fillVariable 71 = .ok (.ifCond .eq 14, 3) := by decide +kernel
theorem dX2_fillVariable_74 : decode cX2_fillVariable 74 = .ok (.aload_n 1, 1) := by decide +kernel
theorem dX2_fillVariable_75 : decode cX2_fillVariable 75 = .ok (.bipush (-100), 2) := by decide +kernel
theorem dX2_fillVariable_77 : decode cX2_fillVariable 77 = .ok (.bipush 100, 2) := by decide +kernel
theorem dX2_fillVariable_79 : decode cX2_fillVariable 79 = .ok (.invokevirtual 49, 3) := by decide +kernel
theorem dX2_fillVariable_82 : decode cX2_fillVariable 82 = .ok (.goto 4, 3) := by decide +kernel
theorem dX2_fillVariable_85 : decode cX2_fillVariable 85 = .ok (.iconst 0, 1) := by decide +kernel
theorem dX2_fillVariable_86 : decode cX2_fillVariable 86 = .ok (.iastore, 1) := by decide +kernel
theorem dX2_fillVariable_87 : decode cX2_fillVariable 87 = .ok (.return_, 1) := by decide +kernel
theorem dX2_fillTable_0 : decode cX2_fillTable 0 = .ok (.aload_n 0, 1) := by decide +kernel
theorem dX2_fillTable_1 : decode cX2_fillTable 1 = .ok (.getfield 29, 3) := by decide +kernel
theorem dX2_fillTable_4 : decode cX2_fillTable 4 = .ok (.iload_n 2, 1) := by decide +kernel
theorem dX2_fillTable_5 : decode cX2_fillTable 5 = .ok (.aload_n 1, 1) := by decide +kernel
theorem dX2_fillTable_6 : decode cX2_fillTable 6 = .ok (.iconst 0, 1) := by decide +kernel
theorem dX2_fillTable_7 : decode cX2_fillTable 7 = .ok (.aload_n 0, 1) := by decide +kernel
theorem dX2_fillTable_8 : decode cX2_fillTable 8 = .ok (.getfield 53, 3) := by decide +kernel
theorem dX2_fillTable_11 : decode cX2_fillTable 11 = .ok (.iconst 1, 1) := by decide +kernel
theorem dX2_fillTable_12 : decode cX2_fillTable 12 = .ok (.isub, 1) := by decide +kernel
theorem dX2_fillTable_13 : decode cX2_fillTable 13 = .ok (.invokevirtual 49, 3) := by decide +kernel
theorem dX2_fillTable_16 : decode cX2_fillTable 16 = .ok (.iastore, 1) := by decide +kernel
theorem dX2_fillTable_17 : decode cX2_fillTable 17 = .ok (.aload_n 0, 1) := by decide +kernel
theorem dX2_fillTable_18 : decode cX2_fillTable 18 = .ok (.getfield 32, 3) := by decide +kernel
theorem dX2_fillTable_21 : decode cX2_fillTable 21 = .ok (.iload_n 2, 1) := by decide +kernel
theorem dX2_fillTable_22 : decode cX2_fillTable 22 = .ok (.aload_n 1, 1) := by decide +kernel
theorem dX2_fillTable_23 : decode cX2_fillTable 23 = .ok (.aload_n 0, 1) := by decide +kernel
theorem dX2_fillTable_24 : decode cX2_fillTable 24 = .ok (.getfield 29, 3) := by decide +kernel
theorem dX2_fillTable_27 : decode cX2_fillTable 27 = .ok (.iload_n 2, 1) := by decide +kernel
theorem dX2_fillTable_28 : decode cX2_fillTable 28 = .ok (.iaload, 1) := by decide +kernel
theorem dX2_fillTable_29 : decode cX2_fillTable 29 = .ok (.iconst 0, 1) := by decide +kernel
theorem dX2_fillTable_30 : decode cX2_fillTable 30 = .ok (.aload_n 0, 1) := by decide +kernel
theorem dX2_fillTable_31 : decode cX2_fillTable 31 = .ok (.getfield 53, 3) := by decide +kernel
theorem dX2_fillTable_34 : decode cX2_fillTable 34 = .ok (.iconst 1, 1) := by decide +kernel
theorem dX2_fillTable_35 : decode cX2_fillTable 35 = .ok (.isub, 1) := by decide +kernel
theorem dX2_fillTable_36 : decode cX2_fillTable 36 = .ok (.invokevirtual 83, 3) := by decide +kernel
theorem dX2_fillTable_39 : decode cX2_fillTable 39 = .ok (.iastore, 1) := by decide +kernel
theorem dX2_fillTable_40 : decode cX2_fillTable 40 = .ok (.aload_n 0, 1) := by decide +kernel
theorem dX2_fillTable_41 : decode cX2_fillTable 41 = .ok (.getfield 35, 3) := by decide +kernel
theorem dX2_fillTable_44 : decode cX2_fillTable 44 = .ok (.iload_n 2, 1) := by decide +kernel
theorem dX2_fillTable_45 : decode cX2_fillTable 45 = .ok (.aload_n 1, 1) := by decide +kernel
theorem dX2_fillTable_46 : decode cX2_fillTable 46 = .ok (.iconst 1, 1) := by decide +kernel
theorem dX2_fillTable_47 : decode cX2_fillTable 47 = .ok (.bipush 20, 2) := by decide +kernel
theorem dX2_fillTable_49 : decode cX2_fillTable 49 = .ok (.invokevirtual 49, 3) := by decide +kernel
theorem dX2_fillTable_52 : decode cX2_fillTable 52 = .ok (.iastore, 1) := by decide +kernel
theorem dX2_fillTable_53 : decode cX2_fillTable 53 = .ok (.iconst 0, 1) := by decide +kernel
theorem dX2_fillTable_54 : decode cX2_fillTable 54 = .ok (.istore_n 3, 1) := by decide +kernel
theorem dX2_fillTable_55 : decode cX2_fillTable 55 = .ok (.iload_n 3, 1) := by decide +kernel
theorem dX2_fillTable_56 : decode cX2_fillTable 56 = .ok (.bipush 20, 2) := by decide +kernel
theorem dX2_fillTable_58 : decode cX2_fillTable 58 = .ok (.if_icmp .ge 55, 3) := by decide +kernel
theorem dX2_fillTable_61 : decode cX2_fillTable 61 = .ok (.iload_n 3, 1) := by decide +kernel
theorem dX2_fillTable_62 : decode cX2_fillTable 62 = .ok (.aload_n 0, 1) := by decide +kernel
theorem dX2_fillTable_63 : decode cX2_fillTable 63 = .ok (.getfield 35, 3) := by decide +kernel
theorem dX2_fillTable_66 : decode cX2_fillTable 66 = .ok (.iload_n 2, 1) := by decide +kernel
theorem dX2_fillTable_67 : decode cX2_fillTable 67 = .ok (.iaload, 1) := by decide +kernel
theorem dX2_fillTable_68 : decode cX2_fillTable 68 = .ok (.if_icmp .ge 45, 3) := by decide +kernel
theorem dX2_fillTable_71 : decode cX2_fillTable 71 = .ok (.aload_n 0, 1) := by decide +kernel
theorem dX2_fillTable_72 : decode cX2_fillTable 72 = .ok (.getfield 38, 3) := by decide +kernel
theorem dX2_fillTable_75 : decode cX2_fillTable 75 = .ok (.iload_n 2, 1) := by decide +kernel
theorem dX2_fillTable_76 : decode cX2_fillTable 76 = .ok (.aaload, 1) := by decide +kernel
theorem dX2_fillTable_77 : decode cX2_fillTable 77 = .ok (.iload_n 3, 1) := by decide +kernel
theorem dX2_fillTable_78 : decode cX2_fillTable 78 = .ok (.aload_n 1, 1) := by decide +kernel
theorem dX2_fillTable_79 : decode cX2_fillTable 79 = .ok (.sipush (-1000), 3) := by decide +kernel
theorem dX2_fillTable_82 : decode cX2_fillTable 82 = .ok (.sipush 1000, 3) := by decide +kernel
theorem dX2_fillTable_85 : decode cX2_fillTable 85 = .ok (.invokevirtual 49, 3) := by decide +kernel
theorem dX2_fillTable_88 : decode cX2_fillTable 88 = .ok (.iastore, 1) := by decide +kernel
theorem dX2_fillTable_89 : decode cX2_fillTable 89 = .ok (.aload_n 0, 1) := by decide +kernel
theorem dX2_fillTable_90 : decode cX2_fillTable 90 = .ok (.getfield 41, 3) := by decide +kernel
theorem dX2_fillTable_93 : decode cX2_fillTable 93 = .ok (.iload_n 2, 1) := by decide +kernel
theorem dX2_fillTable_94 : decode cX2_fillTable 94 = .ok (.aaload, 1) := by decide +kernel
theorem dX2_fillTable_95 : decode cX2_fillTable 95 = .ok (.iload_n 3, 1) := by decide +kernel
theorem dX2_fillTable_96 : decode cX2_fillTable 96 = .ok (.aload_n 1, 1) := by decide +kernel
theorem dX2_fillTable_97 : decode cX2_fillTable 97 = .ok (.sipush (-1000), 3) := by decide +kernel
theorem dX2_fillTable_100 : decode cX2_fillTable 100 = .ok (.sipush 1000, 3) := by decide +kernel
theorem dX2_fillTable_103 : decode cX2_fillTable 103 = .ok (.invokevirtual 49, 3) := by decide +kernel
theorem dX2_fillTable_106 : decode cX2_fillTable 106 = .ok (.iastore, 1) := by decide +kernel
theorem dX2_fillTable_107 : decode cX2_fillTable 107 = .ok (.iinc 3 1, 3) := by decide +kernel
theorem dX2_fillTable_110 : decode cX2_fillTable 110 = .ok (.goto (-55), 3) := by decide +kernel
theorem dX2_fillTable_113 : decode cX2_fillTable 113 = .ok (.return_, 1) := by decide +kernel
theorem dX2_hasVariable_0 : decode cX2_hasVariable 0 = .ok (.iload_n 1, 1) := by decide +kernel
theorem dX2_hasVariable_1 : decode cX2_hasVariable 1 = .ok (.ifCond .lt 21, 3) := by decide +kernel
theorem dX2_hasVariable_4 : decode cX2_hasVariable 4 = .ok (.iload_n 1, 1) := by decide +kernel
theorem dX2_hasVariable_5 : decode cX2_hasVariable 5 = .ok (.aload_n 0, 1) := by decide +kernel
theorem dX2_hasVariable_6 : decode cX2_hasVariable 6 = .ok (.getfield 53, 3) := by decide +kernel
theorem dX2_hasVariable_9 : decode cX2_hasVariable 9 = .ok (.if_icmp .ge 13, 3) := by decide +kernel
theorem dX2_hasVariable_12 : decode cX2_hasVariable 12 = .ok (.iload_n 1, 1) := by decide +kernel
theorem dX2_hasVariable_13 : decode cX2_hasVariable 13 = .ok (.bipush 8, 2) := by decide +kernel
theorem dX2_hasVariable_15 : decode cX2_hasVariable 15 = .ok (.if_icmp .ge 7, 3) := by decide +kernel
theorem dX2_hasVariable_18 : decode cX2_hasVariable 18 = .ok (.iconst 1, 1) := by decide +kernel
theorem dX2_hasVariable_19 : decode cX2_hasVariable 19 = .ok (.goto 4, 3) := by decide +kernel
theorem dX2_hasVariable_22 : decode cX2_hasVariable 22 = .ok (.iconst 0, 1) := by decide +kernel
theorem dX2_hasVariable_23 : decode cX2_hasVariable 23 = .ok (.ireturn, 1) := by decide +kernel
theorem dX2_hasRule_0 : decode cX2_hasRule 0 = .ok (.iload_n 1, 1) := by decide +kernel
theorem dX2_hasRule_1 : decode cX2_hasRule 1 = .ok (.ifCond .lt 21, 3) := by decide +kernel
theorem dX2_hasRule_4 : decode cX2_hasRule 4 = .ok (.iload_n 1, 1) := by decide +kernel
theorem dX2_hasRule_5 : decode cX2_hasRule 5 = .ok (.aload_n 0, 1) := by decide +kernel
theorem dX2_hasRule_6 : decode cX2_hasRule 6 = .ok (.getfield 61, 3) := by decide +kernel
theorem dX2_hasRule_9 : decode cX2_hasRule 9 = .ok (.if_icmp .ge 13, 3) := by decide +kernel
theorem dX2_hasRule_12 : decode cX2_hasRule 12 = .ok (.iload_n 1, 1) := by decide +kernel
theorem dX2_hasRule_13 : decode cX2_hasRule 13 = .ok (.bipush 20, 2) := by decide +kernel
theorem dX2_hasRule_15 : decode cX2_hasRule 15 = .ok (.if_icmp .ge 7, 3) := by decide +kernel
theorem dX2_hasRule_18 : decode cX2_hasRule 18 = .ok (.iconst 1, 1) := by decide +kernel
theorem dX2_hasRule_19 : decode cX2_hasRule 19 = .ok (.goto 4, 3) := by decide +kernel
theorem dX2_hasRule_22 : decode cX2_hasRule 22 = .ok (.iconst 0, 1) := by decide +kernel
theorem dX2_hasRule_23 : decode cX2_hasRule 23 = .ok (.ireturn, 1) := by decide +kernel
theorem dX2_hasTable_0 : decode cX2_hasTable 0 = .ok (.iload_n 1, 1) := by decide +kernel
theorem dX2_hasTable_1 : decode cX2_hasTable 1 = .ok (.ifCond .lt 20, 3) := by decide +kernel
theorem dX2_hasTable_4 : decode cX2_hasTable 4 = .ok (.iload_n 1, 1) := by decide +kernel
theorem dX2_hasTable_5 : decode cX2_hasTable 5 = .ok (.aload_n 0, 1) := by decide +kernel
theorem dX2_hasTable_6 : decode cX2_hasTable 6 = .ok (.getfield 66, 3) := by decide +kernel
theorem dX2_hasTable_9 : decode cX2_hasTable 9 = .ok (.if_icmp .ge 12, 3) := by decide +kernel
theorem dX2_hasTable_12 : decode cX2_hasTable 12 = .ok (.iload_n 1, 1) := by decide +kernel
theorem dX2_hasTable_13 : decode cX2_hasTable 13 = .ok (.iconst 4, 1) := by decide +kernel
theorem dX2_hasTable_14 : decode cX2_hasTable 14 = .ok (.if_icmp .ge 7, 3) := by decide +kernel
theorem dX2_hasTable_17 : decode cX2_hasTable 17 = .ok (.iconst 1, 1) := by decide +kernel
theorem dX2_hasTable_18 : decode cX2_hasTable 18 = .ok (.goto 4, 3) := by decide +kernel
theorem dX2_hasTable_21 : decode cX2_hasTable 21 = .ok (.iconst 0, 1) := by decide +kernel
theorem dX2_hasTable_22 : decode cX2_hasTable 22 = .ok (.ireturn, 1) := by decide +kernel
theorem dX2_lowOf_0 : decode cX2_lowOf 0 = .ok (.aload_n 0, 1) := by decide +kernel
theorem dX2_lowOf_1 : decode cX2_lowOf 1 = .ok (.iload_n 1, 1) := by decide +kernel
theorem dX2_lowOf_2 : decode cX2_lowOf 2 = .ok (.invokevirtual 87, 3) := by decide +kernel
theorem dX2_lowOf_5 : decode cX2_lowOf 5 = .ok (.ifCond .eq 12, 3) := by decide +kernel
theorem dX2_lowOf_8 : decode cX2_lowOf 8 = .ok (.aload_n 0, 1) := by decide +kernel
theorem dX2_lowOf_9 : decode cX2_lowOf 9 = .ok (.getfield 9, 3) := by decide +kernel
theorem dX2_lowOf_12 : decode cX2_lowOf 12 = .ok (.iload_n 1, 1) := by decide +kernel
theorem dX2_lowOf_13 : decode cX2_lowOf 13 = .ok (.iaload, 1) := by decide +kernel
theorem dX2_lowOf_14 : decode cX2_lowOf 14 = .ok (.goto 4, 3) := by decide +kernel
theorem dX2_lowOf_17 : decode cX2_lowOf 17 = .ok (.iconst 0, 1) := by decide +kernel
theorem dX2_lowOf_18 : decode cX2_lowOf 18 = .ok (.ireturn, 1) := by decide +kernel
theorem dX2_highOf_0 : decode cX2_highOf 0 = .ok (.aload_n 0, 1) := by decide +kernel
theorem dX2_highOf_1 : decode cX2_highOf 1 = .ok (.iload_n 1, 1) := by decide +kernel
theorem dX2_highOf_2 : decode cX2_highOf 2 = .ok (.invokevirtual 87, 3) := by decide +kernel
theorem dX2_highOf_5 : decode cX2_highOf 5 = .ok (.ifCond .eq 12, 3) := by decide +kernel
theorem dX2_highOf_8 : decode cX2_highOf 8 = .ok (.aload_n 0, 1) := by decide +kernel
theorem dX2_highOf_9 : decode cX2_highOf 9 = .ok (.getfield 15, 3) := by decide +kernel
theorem dX2_highOf_12 : decode cX2_highOf 12 = .ok (.iload_n 1, 1) := by decide +kernel
theorem dX2_highOf_13 : decode cX2_highOf 13 = .ok (.iaload, 1) := by decide +kernel
theorem dX2_highOf_14 : decode cX2_highOf 14 = .ok (.goto 4, 3) := by decide +kernel
theorem dX2_highOf_17 : decode cX2_highOf 17 = .ok (.iconst 0, 1) := by decide +kernel
theorem dX2_highOf_18 : decode cX2_highOf 18 = .ok (.ireturn, 1) := by decide +kernel
theorem dX2_costOf_0 : decode cX2_costOf 0 = .ok (.aload_n 0, 1) := by decide +kernel
theorem dX2_costOf_1 : decode cX2_costOf 1 = .ok (.getfield 18, 3) := by decide +kernel
theorem dX2_costOf_4 : decode cX2_costOf 4 = .ok (.aload_n 1, 1) := by decide +kernel
theorem dX2_costOf_5 : decode cX2_costOf 5 = .ok (.invokestatic 91, 3) := by decide +kernel
theorem dX2_costOf_8 : decode cX2_costOf 8 = .ok (.lreturn, 1) := by decide +kernel
theorem dX2_firstBroken_0 : decode cX2_firstBroken 0 = .ok (.iconst 0, 1) := by decide +kernel
theorem dX2_firstBroken_1 : decode cX2_firstBroken 1 = .ok (.istore_n 2, 1) := by decide +kernel
theorem dX2_firstBroken_2 : decode cX2_firstBroken 2 = .ok (.iload_n 2, 1) := by decide +kernel
theorem dX2_firstBroken_3 : decode cX2_firstBroken 3 = .ok (.bipush 8, 2) := by decide +kernel
theorem dX2_firstBroken_5 : decode cX2_firstBroken 5 = .ok (.if_icmp .ge 34, 3) := by decide +kernel
theorem dX2_firstBroken_8 : decode cX2_firstBroken 8 = .ok (.aload_n 1, 1) := by decide +kernel
theorem dX2_firstBroken_9 : decode cX2_firstBroken 9 = .ok (.iload_n 2, 1) := by decide +kernel
theorem dX2_firstBroken_10 : decode cX2_firstBroken 10 = .ok (.invokestatic 97, 3) := by decide +kernel
theorem dX2_firstBroken_13 : decode cX2_firstBroken 13 = .ok (.aload_n 0, 1) := by decide +kernel
theorem dX2_firstBroken_14 : decode cX2_firstBroken 14 = .ok (.getfield 9, 3) := by decide +kernel
theorem dX2_firstBroken_17 : decode cX2_firstBroken 17 = .ok (.iload_n 2, 1) := by decide +kernel
theorem dX2_firstBroken_18 : decode cX2_firstBroken 18 = .ok (.iaload, 1) := by decide +kernel
theorem dX2_firstBroken_19 : decode cX2_firstBroken 19 = .ok (.aload_n 0, 1) := by decide +kernel
theorem dX2_firstBroken_20 : decode cX2_firstBroken 20 = .ok (.getfield 15, 3) := by decide +kernel
theorem dX2_firstBroken_23 : decode cX2_firstBroken 23 = .ok (.iload_n 2, 1) := by decide +kernel
theorem dX2_firstBroken_24 : decode cX2_firstBroken 24 = .ok (.iaload, 1) := by decide +kernel
theorem dX2_firstBroken_25 : decode cX2_firstBroken 25 = .ok (.invokestatic 101, 3) := by decide +kernel
theorem dX2_firstBroken_28 : decode cX2_firstBroken 28 = .ok (.ifCond .ne 5, 3) := by decide +kernel
theorem dX2_firstBroken_31 : decode cX2_firstBroken 31 = .ok (.iload_n 2, 1) := by decide +kernel
theorem dX2_firstBroken_32 : decode cX2_firstBroken 32 = .ok (.ireturn, 1) := by decide +kernel
theorem dX2_firstBroken_33 : decode cX2_firstBroken 33 = .ok (.iinc 2 1, 3) := by decide +kernel
theorem dX2_firstBroken_36 : decode cX2_firstBroken 36 = .ok (.goto (-34), 3) := by decide +kernel
theorem dX2_firstBroken_39 : decode cX2_firstBroken 39 = .ok (.iconst 0, 1) := by decide +kernel
theorem dX2_firstBroken_40 : decode cX2_firstBroken 40 = .ok (.istore_n 2, 1) := by decide +kernel
theorem dX2_firstBroken_41 : decode cX2_firstBroken 41 = .ok (.iload_n 2, 1) := by decide +kernel
theorem dX2_firstBroken_42 : decode cX2_firstBroken 42 = .ok (.bipush 20, 2) := by decide +kernel
theorem dX2_firstBroken_44 : decode cX2_firstBroken 44 = .ok (.if_icmp .ge 43, 3) := by decide +kernel
theorem dX2_firstBroken_47 : decode cX2_firstBroken 47 = .ok (.iload_n 2, 1) := by decide +kernel
theorem dX2_firstBroken_48 : decode cX2_firstBroken 48 = .ok (.aload_n 0, 1) := by decide +kernel
theorem dX2_firstBroken_49 : decode cX2_firstBroken 49 = .ok (.getfield 61, 3) := by decide +kernel
theorem dX2_firstBroken_52 : decode cX2_firstBroken 52 = .ok (.if_icmp .ge 35, 3) := by decide +kernel
theorem dX2_firstBroken_55 : decode cX2_firstBroken 55 = .ok (.aload_n 0, 1) := by decide +kernel
theorem dX2_firstBroken_56 : decode cX2_firstBroken 56 = .ok (.getfield 23, 3) := by decide +kernel
theorem dX2_firstBroken_59 : decode cX2_firstBroken 59 = .ok (.iload_n 2, 1) := by decide +kernel
theorem dX2_firstBroken_60 : decode cX2_firstBroken 60 = .ok (.aaload, 1) := by decide +kernel
theorem dX2_firstBroken_61 : decode cX2_firstBroken 61 = .ok (.aload_n 1, 1) := by decide +kernel
theorem dX2_firstBroken_62 : decode cX2_firstBroken 62 = .ok (.invokestatic 91, 3) := by decide +kernel
theorem dX2_firstBroken_65 : decode cX2_firstBroken 65 = .ok (.aload_n 0, 1) := by decide +kernel
theorem dX2_firstBroken_66 : decode cX2_firstBroken 66 = .ok (.getfield 26, 3) := by decide +kernel
theorem dX2_firstBroken_69 : decode cX2_firstBroken 69 = .ok (.iload_n 2, 1) := by decide +kernel
theorem dX2_firstBroken_70 : decode cX2_firstBroken 70 = .ok (.iaload, 1) := by decide +kernel
theorem dX2_firstBroken_71 : decode cX2_firstBroken 71 = .ok (.i2l, 1) := by decide +kernel
theorem dX2_firstBroken_72 : decode cX2_firstBroken 72 = .ok (.lcmp, 1) := by decide +kernel
theorem dX2_firstBroken_73 : decode cX2_firstBroken 73 = .ok (.ifCond .le 8, 3) := by decide +kernel
theorem dX2_firstBroken_76 : decode cX2_firstBroken 76 = .ok (.bipush 100, 2) := by decide +kernel
theorem dX2_firstBroken_78 : decode cX2_firstBroken 78 = .ok (.iload_n 2, 1) := by decide +kernel
theorem dX2_firstBroken_79 : decode cX2_firstBroken 79 = .ok (.iadd, 1) := by decide +kernel
theorem dX2_firstBroken_80 : decode cX2_firstBroken 80 = .ok (.ireturn, 1) := by decide +kernel
theorem dX2_firstBroken_81 : decode cX2_firstBroken 81 = .ok (.iinc 2 1, 3) := by decide +kernel
theorem dX2_firstBroken_84 : decode cX2_firstBroken 84 = .ok (.goto (-43), 3) := by decide +kernel
theorem dX2_firstBroken_87 : decode cX2_firstBroken 87 = .ok (.iconst 0, 1) := by decide +kernel
theorem dX2_firstBroken_88 : decode cX2_firstBroken 88 = .ok (.istore_n 2, 1) := by decide +kernel
theorem dX2_firstBroken_89 : decode cX2_firstBroken 89 = .ok (.iload_n 2, 1) := by decide +kernel
theorem dX2_firstBroken_90 : decode cX2_firstBroken 90 = .ok (.iconst 4, 1) := by decide +kernel
theorem dX2_firstBroken_91 : decode cX2_firstBroken 91 = .ok (.if_icmp .ge 51, 3) := by decide +kernel
theorem dX2_firstBroken_94 : decode cX2_firstBroken 94 = .ok (.iload_n 2, 1) := by decide +kernel
theorem dX2_firstBroken_95 : decode cX2_firstBroken 95 = .ok (.aload_n 0, 1) := by decide +kernel
theorem dX2_firstBroken_96 : decode cX2_firstBroken 96 = .ok (.getfield 66, 3) := by decide +kernel
theorem dX2_firstBroken_99 : decode cX2_firstBroken 99 = .ok (.if_icmp .ge 43, 3) := by decide +kernel
theorem dX2_firstBroken_102 : decode cX2_firstBroken 102 = .ok (.aload_n 0, 1) := by decide +kernel
theorem dX2_firstBroken_103 : decode cX2_firstBroken 103 = .ok (.iload_n 2, 1) := by decide +kernel
theorem dX2_firstBroken_104 : decode cX2_firstBroken 104 = .ok (.aload_n 1, 1) := by decide +kernel
theorem dX2_firstBroken_105 : decode cX2_firstBroken 105 = .ok (.aload_n 0, 1) := by decide +kernel
theorem dX2_firstBroken_106 : decode cX2_firstBroken 106 = .ok (.getfield 29, 3) := by decide +kernel
theorem dX2_firstBroken_109 : decode cX2_firstBroken 109 = .ok (.iload_n 2, 1) := by decide +kernel
theorem dX2_firstBroken_110 : decode cX2_firstBroken 110 = .ok (.iaload, 1) := by decide +kernel
theorem dX2_firstBroken_111 : decode cX2_firstBroken 111 = .ok (.invokestatic 97, 3) := by decide +kernel
theorem dX2_firstBroken_114 : decode cX2_firstBroken 114 = .ok (.aload_n 1, 1) := by decide +kernel
theorem dX2_firstBroken_115 : decode cX2_firstBroken 115 = .ok (.aload_n 0, 1) := by decide +kernel
theorem dX2_firstBroken_116 : decode cX2_firstBroken 116 = .ok (.getfield 32, 3) := by decide +kernel
theorem dX2_firstBroken_119 : decode cX2_firstBroken 119 = .ok (.iload_n 2, 1) := by decide +kernel
theorem dX2_firstBroken_120 : decode cX2_firstBroken 120 = .ok (.iaload, 1) := by decide +kernel
theorem dX2_firstBroken_121 : decode cX2_firstBroken 121 = .ok (.invokestatic 97, 3) := by decide +kernel
theorem dX2_firstBroken_124 : decode cX2_firstBroken 124 = .ok (.invokevirtual 105, 3) := by decide +kernel
theorem dX2_firstBroken_127 : decode cX2_firstBroken 127 = .ok (.ifCond .ne 9, 3) := by decide +kernel
theorem dX2_firstBroken_130 : decode cX2_firstBroken 130 = .ok (.sipush 200, 3) := by decide +kernel
theorem dX2_firstBroken_133 : decode cX2_firstBroken 133 = .ok (.iload_n 2, 1) := by decide +kernel
theorem dX2_firstBroken_134 : decode cX2_firstBroken 134 = .ok (.iadd, 1) := by decide +kernel
theorem dX2_firstBroken_135 : decode cX2_firstBroken 135 = .ok (.ireturn, 1) := by decide +kernel
theorem dX2_firstBroken_136 : decode cX2_firstBroken 136 = .ok (.iinc 2 1, 3) := by decide +kernel
theorem dX2_firstBroken_139 : decode cX2_firstBroken 139 = .ok (.goto (-50), 3) := by decide +kernel
theorem dX2_firstBroken_142 : decode cX2_firstBroken 142 = .ok (.iconst (-1), 1) := by decide +kernel
theorem dX2_firstBroken_143 : decode cX2_firstBroken 143 = .ok (.ireturn, 1) := by decide +kernel
theorem dX2_hasPair_0 : decode cX2_hasPair 0 = .ok (.iconst 0, 1) := by decide +kernel
theorem dX2_hasPair_1 : decode cX2_hasPair 1 = .ok (.istore 4, 2) := by decide +kernel
theorem dX2_hasPair_3 : decode cX2_hasPair 3 = .ok (.iload 4, 2) := by decide +kernel
theorem dX2_hasPair_5 : decode cX2_hasPair 5 = .ok (.bipush 20, 2) := by decide +kernel
theorem dX2_hasPair_7 : decode cX2_hasPair 7 = .ok (.if_icmp .ge 48, 3) := by decide +kernel
theorem dX2_hasPair_10 : decode cX2_hasPair 10 = .ok (.iload 4, 2) := by decide +kernel
theorem dX2_hasPair_12 : decode cX2_hasPair 12 = .ok (.aload_n 0, 1) := by decide +kernel
theorem dX2_hasPair_13 : decode cX2_hasPair 13 = .ok (.getfield 35, 3) := by decide +kernel
theorem dX2_hasPair_16 : decode cX2_hasPair 16 = .ok (.iload_n 1, 1) := by decide +kernel
theorem dX2_hasPair_17 : decode cX2_hasPair 17 = .ok (.iaload, 1) := by decide +kernel
theorem dX2_hasPair_18 : decode cX2_hasPair 18 = .ok (.if_icmp .ge 37, 3) := by decide +kernel
theorem dX2_hasPair_21 : decode cX2_hasPair 21 = .ok (.aload_n 0, 1) := by decide +kernel
theorem dX2_hasPair_22 : decode cX2_hasPair 22 = .ok (.getfield 38, 3) := by decide +kernel
theorem dX2_hasPair_25 : decode cX2_hasPair 25 = .ok (.iload_n 1, 1) := by decide +kernel
theorem dX2_hasPair_26 : decode cX2_hasPair 26 = .ok (.aaload, 1) := by decide +kernel
theorem dX2_hasPair_27 : decode cX2_hasPair 27 = .ok (.iload 4, 2) := by decide +kernel
theorem dX2_hasPair_29 : decode cX2_hasPair 29 = .ok (.iaload, 1) := by decide +kernel
theorem dX2_hasPair_30 : decode cX2_hasPair 30 = .ok (.iload_n 2, 1) := by decide +kernel
theorem dX2_hasPair_31 : decode cX2_hasPair 31 = .ok (.if_icmp .ne 18, 3) := by decide +kernel
theorem dX2_hasPair_34 : decode cX2_hasPair 34 = .ok (.aload_n 0, 1) := by decide +kernel
theorem dX2_hasPair_35 : decode cX2_hasPair 35 = .ok (.getfield 41, 3) := by decide +kernel
theorem dX2_hasPair_38 : decode cX2_hasPair 38 = .ok (.iload_n 1, 1) := by decide +kernel
theorem dX2_hasPair_39 : decode cX2_hasPair 39 = .ok (.aaload, 1) := by decide +kernel
theorem dX2_hasPair_40 : decode cX2_hasPair 40 = .ok (.iload 4, 2) := by decide +kernel
theorem dX2_hasPair_42 : decode cX2_hasPair 42 = .ok (.iaload, 1) := by decide +kernel
theorem dX2_hasPair_43 : decode cX2_hasPair 43 = .ok (.iload_n 3, 1) := by decide +kernel
theorem dX2_hasPair_44 : decode cX2_hasPair 44 = .ok (.if_icmp .ne 5, 3) := by decide +kernel
theorem dX2_hasPair_47 : decode cX2_hasPair 47 = .ok (.iconst 1, 1) := by decide +kernel
theorem dX2_hasPair_48 : decode cX2_hasPair 48 = .ok (.ireturn, 1) := by decide +kernel
theorem dX2_hasPair_49 : decode cX2_hasPair 49 = .ok (.iinc 4 1, 3) := by decide +kernel
theorem dX2_hasPair_52 : decode cX2_hasPair 52 = .ok (.goto (-49), 3) := by decide +kernel
theorem dX2_hasPair_55 : decode cX2_hasPair 55 = .ok (.iconst 0, 1) := by decide +kernel
theorem dX2_hasPair_56 : decode cX2_hasPair 56 = .ok (.ireturn, 1) := by decide +kernel
theorem dX2_copyRule_0 : decode cX2_copyRule 0 = .ok (.aload_n 0, 1) := by decide +kernel
theorem dX2_copyRule_1 : decode cX2_copyRule 1 = .ok (.iload_n 1, 1) := by decide +kernel
theorem dX2_copyRule_2 : decode cX2_copyRule 2 = .ok (.invokevirtual 108, 3) := by decide +kernel
theorem dX2_copyRule_5 : decode cX2_copyRule 5 = .ok (.ifCond .ne 4, 3) := by decide +kernel
theorem dX2_copyRule_8 : decode cX2_copyRule 8 = .ok (.return_, 1) := by decide +kernel
theorem dX2_copyRule_9 : decode cX2_copyRule 9 = .ok (.iconst 0, 1) := by decide +kernel
theorem dX2_copyRule_10 : decode cX2_copyRule 10 = .ok (.istore_n 3, 1) := by decide +kernel
theorem dX2_copyRule_11 : decode cX2_copyRule 11 = .ok (.iload_n 3, 1) := by decide +kernel
theorem dX2_copyRule_12 : decode cX2_copyRule 12 = .ok (.bipush 8, 2) := by decide +kernel
theorem dX2_copyRule_14 : decode cX2_copyRule 14 = .ok (.if_icmp .ge 23, 3) := by decide +kernel
theorem dX2_copyRule_17 : decode cX2_copyRule 17 = .ok (.aload_n 2, 1) := by decide +kernel
theorem dX2_copyRule_18 : decode cX2_copyRule 18 = .ok (.iload_n 3, 1) := by decide +kernel
theorem dX2_copyRule_19 : decode cX2_copyRule 19 = .ok (.aload_n 0, 1) := by decide +kernel
theorem dX2_copyRule_20 : decode cX2_copyRule 20 = .ok (.getfield 23, 3) := by decide +kernel
theorem dX2_copyRule_23 : decode cX2_copyRule 23 = .ok (.iload_n 1, 1) := by decide +kernel
theorem dX2_copyRule_24 : decode cX2_copyRule 24 = .ok (.aaload, 1) := by decide +kernel
theorem dX2_copyRule_25 : decode cX2_copyRule 25 = .ok (.iload_n 3, 1) := by decide +kernel
theorem dX2_copyRule_26 : decode cX2_copyRule 26 = .ok (.iaload, 1) := by decide +kernel
theorem dX2_copyRule_27 : decode cX2_copyRule 27 = .ok (.i2l, 1) := by decide +kernel
theorem dX2_copyRule_28 : decode cX2_copyRule 28 = .ok (.invokevirtual 111, 3) := by decide +kernel
theorem dX2_copyRule_31 : decode cX2_copyRule 31 = .ok (.iinc 3 1, 3) := by decide +kernel
theorem dX2_copyRule_34 : decode cX2_copyRule 34 = .ok (.goto (-23), 3) := by decide +kernel
theorem dX2_copyRule_37 : decode cX2_copyRule 37 = .ok (.aload_n 2, 1) := by decide +kernel
theorem dX2_copyRule_38 : decode cX2_copyRule 38 = .ok (.aload_n 0, 1) := by decide +kernel
theorem dX2_copyRule_39 : decode cX2_copyRule 39 = .ok (.getfield 26, 3) := by decide +kernel
theorem dX2_copyRule_42 : decode cX2_copyRule 42 = .ok (.iload_n 1, 1) := by decide +kernel
theorem dX2_copyRule_43 : decode cX2_copyRule 43 = .ok (.iaload, 1) := by decide +kernel
theorem dX2_copyRule_44 : decode cX2_copyRule 44 = .ok (.i2l, 1) := by decide +kernel
theorem dX2_copyRule_45 : decode cX2_copyRule 45 = .ok (.putfield 117, 3) := by decide +kernel
theorem dX2_copyRule_48 : decode cX2_copyRule 48 = .ok (.return_, 1) := by decide +kernel
theorem dX2_copyCosts_0 : decode cX2_copyCosts 0 = .ok (.iconst 0, 1) := by decide +kernel
theorem dX2_copyCosts_1 : decode cX2_copyCosts 1 = .ok (.istore_n 2, 1) := by decide +kernel
theorem dX2_copyCosts_2 : decode cX2_copyCosts 2 = .ok (.iload_n 2, 1) := by decide +kernel
theorem dX2_copyCosts_3 : decode cX2_copyCosts 3 = .ok (.bipush 8, 2) := by decide +kernel
theorem dX2_copyCosts_5 : decode cX2_copyCosts 5 = .ok (.if_icmp .ge 21, 3) := by decide +kernel
theorem dX2_copyCosts_8 : decode cX2_copyCosts 8 = .ok (.aload_n 1, 1) := by decide +kernel
theorem dX2_copyCosts_9 : decode cX2_copyCosts 9 = .ok (.iload_n 2, 1) := by decide +kernel
theorem dX2_copyCosts_10 : decode cX2_copyCosts 10 = .ok (.aload_n 0, 1) := by decide +kernel
theorem dX2_copyCosts_11 : decode cX2_copyCosts 11 = .ok (.getfield 18, 3) := by decide +kernel
theorem dX2_copyCosts_14 : decode cX2_copyCosts 14 = .ok (.iload_n 2, 1) := by decide +kernel
theorem dX2_copyCosts_15 : decode cX2_copyCosts 15 = .ok (.iaload, 1) := by decide +kernel
theorem dX2_copyCosts_16 : decode cX2_copyCosts 16 = .ok (.i2l, 1) := by decide +kernel
theorem dX2_copyCosts_17 : decode cX2_copyCosts 17 = .ok (.invokevirtual 111, 3) := by decide +kernel
theorem dX2_copyCosts_20 : decode cX2_copyCosts 20 = .ok (.iinc 2 1, 3) := by decide +kernel
theorem dX2_copyCosts_23 : decode cX2_copyCosts 23 = .ok (.goto (-21), 3) := by decide +kernel
theorem dX2_copyCosts_26 : decode cX2_copyCosts 26 = .ok (.return_, 1) := by decide +kernel
theorem dX2_copyTable_0 : decode cX2_copyTable 0 = .ok (.aload_n 0, 1) := by decide +kernel
theorem dX2_copyTable_1 : decode cX2_copyTable 1 = .ok (.iload_n 1, 1) := by decide +kernel
theorem dX2_copyTable_2 : decode cX2_copyTable 2 = .ok (.invokevirtual 120, 3) := by decide +kernel
theorem dX2_copyTable_5 : decode cX2_copyTable 5 = .ok (.ifCond .ne 4, 3) := by decide +kernel
theorem dX2_copyTable_8 : decode cX2_copyTable 8 = .ok (.return_, 1) := by decide +kernel
theorem dX2_copyTable_9 : decode cX2_copyTable 9 = .ok (.aload 4, 2) := by decide +kernel
theorem dX2_copyTable_11 : decode cX2_copyTable 11 = .ok (.aload_n 0, 1) := by decide +kernel
theorem dX2_copyTable_12 : decode cX2_copyTable 12 = .ok (.getfield 29, 3) := by decide +kernel
theorem dX2_copyTable_15 : decode cX2_copyTable 15 = .ok (.iload_n 1, 1) := by decide +kernel
theorem dX2_copyTable_16 : decode cX2_copyTable 16 = .ok (.iaload, 1) := by decide +kernel
theorem dX2_copyTable_17 : decode cX2_copyTable 17 = .ok (.iload_n 2, 1) := by decide +kernel
theorem dX2_copyTable_18 : decode cX2_copyTable 18 = .ok (.i2l, 1) := by decide +kernel
theorem dX2_copyTable_19 : decode cX2_copyTable 19 = .ok (.invokevirtual 111, 3) := by decide +kernel
theorem dX2_copyTable_22 : decode cX2_copyTable 22 = .ok (.aload 4, 2) := by decide +kernel
theorem dX2_copyTable_24 : decode cX2_copyTable 24 = .ok (.aload_n 0, 1) := by decide +kernel
theorem dX2_copyTable_25 : decode cX2_copyTable 25 = .ok (.getfield 32, 3) := by decide +kernel
theorem dX2_copyTable_28 : decode cX2_copyTable 28 = .ok (.iload_n 1, 1) := by decide +kernel
theorem dX2_copyTable_29 : decode cX2_copyTable 29 = .ok (.iaload, 1) := by decide +kernel
theorem dX2_copyTable_30 : decode cX2_copyTable 30 = .ok (.iload_n 3, 1) := by decide +kernel
theorem dX2_copyTable_31 : decode cX2_copyTable 31 = .ok (.i2l, 1) := by decide +kernel
theorem dX2_copyTable_32 : decode cX2_copyTable 32 = .ok (.invokevirtual 111, 3) := by decide +kernel
theorem dX2_copyTable_35 : decode cX2_copyTable 35 = .ok (.iconst 0, 1) := by decide +kernel
theorem dX2_copyTable_36 : decode cX2_copyTable 36 = .ok (.istore 5, 2) := by decide +kernel
theorem dX2_copyTable_38 : decode cX2_copyTable 38 = .ok (.iload 5, 2) := by decide +kernel
theorem dX2_copyTable_40 : decode cX2_copyTable 40 = .ok (.bipush 20, 2) := by decide +kernel
theorem dX2_copyTable_42 : decode cX2_copyTable 42 = .ok (.if_icmp .ge 72, 3) := by decide +kernel
theorem dX2_copyTable_45 : decode cX2_copyTable 45 = .ok (.iload 5, 2) := by decide +kernel
theorem dX2_copyTable_47 : decode cX2_copyTable 47 = .ok (.aload_n 0, 1) := by decide +kernel
theorem dX2_copyTable_48 : decode cX2_copyTable 48 = .ok (.getfield 35, 3) := by decide +kernel
theorem dX2_copyTable_51 : decode cX2_copyTable 51 = .ok (.iload_n 1, 1) := by decide +kernel
theorem dX2_copyTable_52 : decode cX2_copyTable 52 = .ok (.iaload, 1) := by decide +kernel
theorem dX2_copyTable_53 : decode cX2_copyTable 53 = .ok (.if_icmp .ge 61, 3) := by decide +kernel
theorem dX2_copyTable_56 : decode cX2_copyTable 56 = .ok (.iload_n 2, 1) := by decide +kernel
theorem dX2_copyTable_57 : decode cX2_copyTable 57 = .ok (.i2l, 1) := by decide +kernel
theorem dX2_copyTable_58 : decode cX2_copyTable 58 = .ok (.aload_n 0, 1) := by decide +kernel
theorem dX2_copyTable_59 : decode cX2_copyTable 59 = .ok (.getfield 38, 3) := by decide +kernel
theorem dX2_copyTable_62 : decode cX2_copyTable 62 = .ok (.iload_n 1, 1) := by decide +kernel
theorem dX2_copyTable_63 : decode cX2_copyTable 63 = .ok (.aaload, 1) := by decide +kernel
theorem dX2_copyTable_64 : decode cX2_copyTable 64 = .ok (.iload 5, 2) := by decide +kernel
theorem dX2_copyTable_66 : decode cX2_copyTable 66 = .ok (.iaload, 1) := by decide +kernel
theorem dX2_copyTable_67 : decode cX2_copyTable 67 = .ok (.i2l, 1) := by decide +kernel
theorem dX2_copyTable_68 : decode cX2_copyTable 68 = .ok (.lmul, 1) := by decide +kernel
theorem dX2_copyTable_69 : decode cX2_copyTable 69 = .ok (.iload_n 3, 1) := by decide +kernel
theorem dX2_copyTable_70 : decode cX2_copyTable 70 = .ok (.i2l, 1) := by decide +kernel
theorem dX2_copyTable_71 : decode cX2_copyTable 71 = .ok (.aload_n 0, 1) := by decide +kernel
theorem dX2_copyTable_72 : decode cX2_copyTable 72 = .ok (.getfield 41, 3) := by decide +kernel
theorem dX2_copyTable_75 : decode cX2_copyTable 75 = .ok (.iload_n 1, 1) := by decide +kernel
theorem dX2_copyTable_76 : decode cX2_copyTable 76 = .ok (.aaload, 1) := by decide +kernel
theorem dX2_copyTable_77 : decode cX2_copyTable 77 = .ok (.iload 5, 2) := by decide +kernel
theorem dX2_copyTable_79 : decode cX2_copyTable 79 = .ok (.iaload, 1) := by decide +kernel
theorem dX2_copyTable_80 : decode cX2_copyTable 80 = .ok (.i2l, 1) := by decide +kernel
theorem dX2_copyTable_81 : decode cX2_copyTable 81 = .ok (.lmul, 1) := by decide +kernel
theorem dX2_copyTable_82 : decode cX2_copyTable 82 = .ok (.ladd, 1) := by decide +kernel
theorem dX2_copyTable_83 : decode cX2_copyTable 83 = .ok (.lstore 6, 2) := by decide +kernel
theorem dX2_copyTable_85 : decode cX2_copyTable 85 = .ok (.iload 5, 2) := by decide +kernel
theorem dX2_copyTable_87 : decode cX2_copyTable 87 = .ok (.ifCond .eq 14, 3) := by decide +kernel
theorem dX2_copyTable_90 : decode cX2_copyTable 90 = .ok (.lload 6, 2) := by decide +kernel
theorem dX2_copyTable_92 : decode cX2_copyTable 92 = .ok (.aload 4, 2) := by decide +kernel
theorem dX2_copyTable_94 : decode cX2_copyTable 94 = .ok (.getfield 117, 3) := by decide +kernel
theorem dX2_copyTable_97 : decode cX2_copyTable 97 = .ok (.lcmp, 1) := by decide +kernel
theorem dX2_copyTable_98 : decode cX2_copyTable 98 = .ok (.ifCond .le 10, 3) := by decide +kernel
theorem dX2_copyTable_101 : decode cX2_copyTable 101 = .ok (.aload 4, 2) := by decide +kernel
theorem dX2_copyTable_103 : decode cX2_copyTable 103 = .ok (.lload 6, 2) := by decide +kernel
theorem dX2_copyTable_105 : decode cX2_copyTable 105 = .ok (.putfield 117, 3) := by decide +kernel
theorem dX2_copyTable_108 : decode cX2_copyTable 108 = .ok (.iinc 5 1, 3) := by decide +kernel
theorem dX2_copyTable_111 : decode cX2_copyTable 111 = .ok (.goto (-73), 3) := by decide +kernel
theorem dX2_copyTable_114 : decode cX2_copyTable 114 = .ok (.return_, 1) := by decide +kernel
theorem dX3_isWithin_0 : decode cX3_isWithin 0 = .ok (.iload_n 0, 1) := by decide +kernel
theorem dX3_isWithin_1 : decode cX3_isWithin 1 = .ok (.iload_n 1, 1) := by decide +kernel
theorem dX3_isWithin_2 : decode cX3_isWithin 2 = .ok (.if_icmp .lt 12, 3) := by decide +kernel
theorem dX3_isWithin_5 : decode cX3_isWithin 5 = .ok (.iload_n 0, 1) := by decide +kernel
theorem dX3_isWithin_6 : decode cX3_isWithin 6 = .ok (.iload_n 2, 1) := by decide +kernel
theorem dX3_isWithin_7 : decode cX3_isWithin 7 = .ok (.if_icmp .gt 7, 3) := by decide +kernel
theorem dX3_isWithin_10 : decode cX3_isWithin 10 = .ok (.iconst 1, 1) := by decide +kernel
theorem dX3_isWithin_11 : decode cX3_isWithin 11 = .ok (.goto 4, 3) := by decide +kernel
theorem dX3_isWithin_14 : decode cX3_isWithin 14 = .ok (.iconst 0, 1) := by decide +kernel
theorem dX3_isWithin_15 : decode cX3_isWithin 15 = .ok (.ireturn, 1) := by decide +kernel
theorem dX3_at_0 : decode cX3_at 0 = .ok (.iload_n 1, 1) := by decide +kernel
theorem dX3_at_1 : decode cX3_at 1 = .ok (.ifCond .lt 15, 3) := by decide +kernel
theorem dX3_at_4 : decode cX3_at 4 = .ok (.iload_n 1, 1) := by decide +kernel
theorem dX3_at_5 : decode cX3_at 5 = .ok (.aload_n 0, 1) := by decide +kernel
theorem dX3_at_6 : decode cX3_at 6 = .ok (.arraylength, 1) := by decide +kernel
theorem dX3_at_7 : decode cX3_at 7 = .ok (.if_icmp .ge 9, 3) := by decide +kernel
theorem dX3_at_10 : decode cX3_at 10 = .ok (.aload_n 0, 1) := by decide +kernel
theorem dX3_at_11 : decode cX3_at 11 = .ok (.iload_n 1, 1) := by decide +kernel
theorem dX3_at_12 : decode cX3_at 12 = .ok (.iaload, 1) := by decide +kernel
theorem dX3_at_13 : decode cX3_at 13 = .ok (.goto 4, 3) := by decide +kernel
theorem dX3_at_16 : decode cX3_at 16 = .ok (.iconst 0, 1) := by decide +kernel
theorem dX3_at_17 : decode cX3_at 17 = .ok (.ireturn, 1) := by decide +kernel
theorem dX3_sumOf_0 : decode cX3_sumOf 0 = .ok (.lconst 0, 1) := by decide +kernel
theorem dX3_sumOf_1 : decode cX3_sumOf 1 = .ok (.lstore_n 2, 1) := by decide +kernel
theorem dX3_sumOf_2 : decode cX3_sumOf 2 = .ok (.iconst 0, 1) := by decide +kernel
theorem dX3_sumOf_3 : decode cX3_sumOf 3 = .ok (.istore 4, 2) := by decide +kernel
theorem dX3_sumOf_5 : decode cX3_sumOf 5 = .ok (.iload 4, 2) := by decide +kernel
theorem dX3_sumOf_7 : decode cX3_sumOf 7 = .ok (.aload_n 0, 1) := by decide +kernel
theorem dX3_sumOf_8 : decode cX3_sumOf 8 = .ok (.arraylength, 1) := by decide +kernel
theorem dX3_sumOf_9 : decode cX3_sumOf 9 = .ok (.if_icmp .ge 30, 3) := by decide +kernel
theorem dX3_sumOf_12 : decode cX3_sumOf 12 = .ok (.iload 4, 2) := by decide +kernel
theorem dX3_sumOf_14 : decode cX3_sumOf 14 = .ok (.aload_n 1, 1) := by decide +kernel
theorem dX3_sumOf_15 : decode cX3_sumOf 15 = .ok (.arraylength, 1) := by decide +kernel
theorem dX3_sumOf_16 : decode cX3_sumOf 16 = .ok (.if_icmp .ge 23, 3) := by decide +kernel
theorem dX3_sumOf_19 : decode cX3_sumOf 19 = .ok (.lload_n 2, 1) := by decide +kernel
theorem dX3_sumOf_20 : decode cX3_sumOf 20 = .ok (.aload_n 0, 1) := by decide +kernel
theorem dX3_sumOf_21 : decode cX3_sumOf 21 = .ok (.iload 4, 2) := by decide +kernel
theorem dX3_sumOf_23 : decode cX3_sumOf 23 = .ok (.iaload, 1) := by decide +kernel
theorem dX3_sumOf_24 : decode cX3_sumOf 24 = .ok (.i2l, 1) := by decide +kernel
theorem dX3_sumOf_25 : decode cX3_sumOf 25 = .ok (.aload_n 1, 1) := by decide +kernel
theorem dX3_sumOf_26 : decode cX3_sumOf 26 = .ok (.iload 4, 2) := by decide +kernel
theorem dX3_sumOf_28 : decode cX3_sumOf 28 = .ok (.iaload, 1) := by decide +kernel
theorem dX3_sumOf_29 : decode cX3_sumOf 29 = .ok (.i2l, 1) := by decide +kernel
theorem dX3_sumOf_30 : decode cX3_sumOf 30 = .ok (.lmul, 1) := by decide +kernel
theorem dX3_sumOf_31 : decode cX3_sumOf 31 = .ok (.ladd, 1) := by decide +kernel
theorem dX3_sumOf_32 : decode cX3_sumOf 32 = .ok (.lstore_n 2, 1) := by decide +kernel
theorem dX3_sumOf_33 : decode cX3_sumOf 33 = .ok (.iinc 4 1, 3) := by decide +kernel
theorem dX3_sumOf_36 : decode cX3_sumOf 36 = .ok (.goto (-31), 3) := by decide +kernel
theorem dX3_sumOf_39 : decode cX3_sumOf 39 = .ok (.lload_n 2, 1) := by decide +kernel
theorem dX3_sumOf_40 : decode cX3_sumOf 40 = .ok (.lreturn, 1) := by decide +kernel
theorem dX4_init_0 : decode cX4_init 0 = .ok (.aload_n 0, 1) := by decide +kernel
theorem dX4_init_1 : decode cX4_init 1 = .ok (.invokespecial 3, 3) := by decide +kernel
theorem dX4_init_4 : decode cX4_init 4 = .ok (.aload_n 0, 1) := by decide +kernel
theorem dX4_init_5 : decode cX4_init 5 = .ok (.bipush 8, 2) := by decide +kernel
theorem dX4_init_7 : decode cX4_init 7 = .ok (.bipush 8, 2) := by decide +kernel
theorem dX4_init_9 : decode cX4_init 9 = .ok (.multianewarray 9 2, 4) := by decide +kernel
theorem dX4_init_13 : decode cX4_init 13 = .ok (.putfield 11, 3) := by decide +kernel
theorem dX4_init_16 : decode cX4_init 16 = .ok (.aload_n 0, 1) := by decide +kernel
theorem dX4_init_17 : decode cX4_init 17 = .ok (.bipush 8, 2) := by decide +kernel
theorem dX4_init_19 : decode cX4_init 19 = .ok (.newarray .int, 2) := by decide +kernel
theorem dX4_init_21 : decode cX4_init 21 = .ok (.putfield 16, 3) := by decide +kernel
theorem dX4_init_24 : decode cX4_init 24 = .ok (.return_, 1) := by decide +kernel
theorem dX4_clear_0 : decode cX4_clear 0 = .ok (.aload_n 0, 1) := by decide +kernel
theorem dX4_clear_1 : decode cX4_clear 1 = .ok (.iconst 0, 1) := by decide +kernel
theorem dX4_clear_2 : decode cX4_clear 2 = .ok (.putfield 20, 3) := by decide +kernel
theorem dX4_clear_5 : decode cX4_clear 5 = .ok (.return_, 1) := by decide +kernel
theorem dX4_has_0 : decode cX4_has 0 = .ok (.iload_n 1, 1) := by decide +kernel
theorem dX4_has_1 : decode cX4_has 1 = .ok (.ifCond .lt 21, 3) := by decide +kernel
theorem dX4_has_4 : decode cX4_has 4 = .ok (.iload_n 1, 1) := by decide +kernel
theorem dX4_has_5 : decode cX4_has 5 = .ok (.aload_n 0, 1) := by decide +kernel
theorem dX4_has_6 : decode cX4_has 6 = .ok (.getfield 20, 3) := by decide +kernel
theorem dX4_has_9 : decode cX4_has 9 = .ok (.if_icmp .ge 13, 3) := by decide +kernel
theorem dX4_has_12 : decode cX4_has 12 = .ok (.iload_n 1, 1) := by decide +kernel
theorem dX4_has_13 : decode cX4_has 13 = .ok (.bipush 8, 2) := by decide +kernel
theorem dX4_has_15 : decode cX4_has 15 = .ok (.if_icmp .ge 7, 3) := by decide +kernel
theorem dX4_has_18 : decode cX4_has 18 = .ok (.iconst 1, 1) := by decide +kernel
theorem dX4_has_19 : decode cX4_has 19 = .ok (.goto 4, 3) := by decide +kernel
theorem dX4_has_22 : decode cX4_has 22 = .ok (.iconst 0, 1) := by decide +kernel
theorem dX4_has_23 : decode cX4_has 23 = .ok (.ireturn, 1) := by decide +kernel
theorem dX4_at_0 : decode cX4_at 0 = .ok (.aload_n 0, 1) := by decide +kernel
theorem dX4_at_1 : decode cX4_at 1 = .ok (.iload_n 1, 1) := by decide +kernel
theorem dX4_at_2 : decode cX4_at 2 = .ok (.invokevirtual 24, 3) := by decide +kernel
theorem dX4_at_5 : decode cX4_at 5 = .ok (.ifCond .eq 12, 3) := by decide +kernel
theorem dX4_at_8 : decode cX4_at 8 = .ok (.aload_n 0, 1) := by decide +kernel
theorem dX4_at_9 : decode cX4_at 9 = .ok (.getfield 11, 3) := by decide +kernel
theorem dX4_at_12 : decode cX4_at 12 = .ok (.iload_n 1, 1) := by decide +kernel
theorem dX4_at_13 : decode cX4_at 13 = .ok (.aaload, 1) := by decide +kernel
theorem dX4_at_14 : decode cX4_at 14 = .ok (.goto 7, 3) := by decide +kernel
theorem dX4_at_17 : decode cX4_at 17 = .ok (.aload_n 0, 1) := by decide +kernel
theorem dX4_at_18 : decode cX4_at 18 = .ok (.getfield 16, 3) := by decide +kernel
theorem dX4_at_21 : decode cX4_at 21 = .ok (.areturn, 1) := by decide +kernel
theorem dX4_add_0 : decode cX4_add 0 = .ok (.aload_n 0, 1) := by decide +kernel
theorem dX4_add_1 : decode cX4_add 1 = .ok (.getfield 20, 3) := by decide +kernel
theorem dX4_add_4 : decode cX4_add 4 = .ok (.ifCond .lt 12, 3) := by decide +kernel
theorem dX4_add_7 : decode cX4_add 7 = .ok (.aload_n 0, 1) := by decide +kernel
theorem dX4_add_8 : decode cX4_add 8 = .ok (.getfield 20, 3) := by decide +kernel
theorem dX4_add_11 : decode cX4_add 11 = .ok (.bipush 8, 2) := by decide +kernel
theorem dX4_add_13 : decode cX4_add 13 = .ok (.if_icmp .lt 6, 3) := by decide +kernel
theorem dX4_add_16 : decode cX4_add 16 = .ok (.bipush (-5), 2) := by decide +kernel
theorem dX4_add_18 : decode cX4_add 18 = .ok (.ireturn, 1) := by decide +kernel
theorem dX4_add_19 : decode cX4_add 19 = .ok (.iconst 0, 1) := by decide +kernel
theorem dX4_add_20 : decode cX4_add 20 = .ok (.istore_n 3, 1) := by decide +kernel
theorem dX4_add_21 : decode cX4_add 21 = .ok (.iload_n 3, 1) := by decide +kernel
theorem dX4_add_22 : decode cX4_add 22 = .ok (.bipush 8, 2) := by decide +kernel
theorem dX4_add_24 : decode cX4_add 24 = .ok (.if_icmp .ge 34, 3) := by decide +kernel
theorem dX4_add_27 : decode cX4_add 27 = .ok (.aload_n 0, 1) := by decide +kernel
theorem dX4_add_28 : decode cX4_add 28 = .ok (.getfield 11, 3) := by decide +kernel
theorem dX4_add_31 : decode cX4_add 31 = .ok (.aload_n 0, 1) := by decide +kernel
theorem dX4_add_32 : decode cX4_add 32 = .ok (.getfield 20, 3) := by decide +kernel
theorem dX4_add_35 : decode cX4_add 35 = .ok (.aaload, 1) := by decide +kernel
theorem dX4_add_36 : decode cX4_add 36 = .ok (.iload_n 3, 1) := by decide +kernel
theorem dX4_add_37 : decode cX4_add 37 = .ok (.iload_n 3, 1) := by decide +kernel
theorem dX4_add_38 : decode cX4_add 38 = .ok (.iload_n 2, 1) := by decide +kernel
theorem dX4_add_39 : decode cX4_add 39 = .ok (.if_icmp .ge 11, 3) := by decide +kernel
theorem dX4_add_42 : decode cX4_add 42 = .ok (.aload_n 1, 1) := by decide +kernel
theorem dX4_add_43 : decode cX4_add 43 = .ok (.iload_n 3, 1) := by decide +kernel
theorem dX4_add_44 : decode cX4_add 44 = .ok (.invokevirtual 28, 3) := by decide +kernel
theorem dX4_add_47 : decode cX4_add 47 = .ok (.goto 4, 3) := by decide +kernel
theorem dX4_add_50 : decode cX4_add 50 = .ok (.iconst 0, 1) := by decide +kernel
theorem dX4_add_51 : decode cX4_add 51 = .ok (.iastore, 1) := by decide +kernel
theorem dX4_add_52 : decode cX4_add 52 = .ok (.iinc 3 1, 3) := by decide +kernel
theorem dX4_add_55 : decode cX4_add 55 = .ok (.goto (-34), 3) := by decide +kernel
theorem dX4_add_58 : decode cX4_add 58 = .ok (.aload_n 0, 1) := by decide +kernel
theorem dX4_add_59 : decode cX4_add 59 = .ok (.dup, 1) := by decide +kernel
theorem dX4_add_60 : decode cX4_add 60 = .ok (.getfield 20, 3) := by decide +kernel
theorem dX4_add_63 : decode cX4_add 63 = .ok (.iconst 1, 1) := by decide +kernel
theorem dX4_add_64 : decode cX4_add 64 = .ok (.iadd, 1) := by decide +kernel
theorem dX4_add_65 : decode cX4_add 65 = .ok (.putfield 20, 3) := by decide +kernel
theorem dX4_add_68 : decode cX4_add 68 = .ok (.aload_n 0, 1) := by decide +kernel
theorem dX4_add_69 : decode cX4_add 69 = .ok (.getfield 20, 3) := by decide +kernel
theorem dX4_add_72 : decode cX4_add 72 = .ok (.iconst 1, 1) := by decide +kernel
theorem dX4_add_73 : decode cX4_add 73 = .ok (.isub, 1) := by decide +kernel
theorem dX4_add_74 : decode cX4_add 74 = .ok (.ireturn, 1) := by decide +kernel
theorem dX5_init_0 : decode cX5_init 0 = .ok (.aload_n 0, 1) := by decide +kernel
theorem dX5_init_1 : decode cX5_init 1 = .ok (.invokespecial 3, 3) := by decide +kernel
theorem dX5_init_4 : decode cX5_init 4 = .ok (.aload_n 0, 1) := by decide +kernel
theorem dX5_init_5 : decode cX5_init 5 = .ok (.bipush 8, 2) := by decide +kernel
theorem dX5_init_7 : decode cX5_init 7 = .ok (.newarray .long, 2) := by decide +kernel
theorem dX5_init_9 : decode cX5_init 9 = .ok (.putfield 9, 3) := by decide +kernel
theorem dX5_init_12 : decode cX5_init 12 = .ok (.return_, 1) := by decide +kernel
theorem dX5_clear_0 : decode cX5_clear 0 = .ok (.iconst 0, 1) := by decide +kernel
theorem dX5_clear_1 : decode cX5_clear 1 = .ok (.istore_n 1, 1) := by decide +kernel
theorem dX5_clear_2 : decode cX5_clear 2 = .ok (.iload_n 1, 1) := by decide +kernel
theorem dX5_clear_3 : decode cX5_clear 3 = .ok (.bipush 8, 2) := by decide +kernel
theorem dX5_clear_5 : decode cX5_clear 5 = .ok (.if_icmp .ge 16, 3) := by decide +kernel
theorem dX5_clear_8 : decode cX5_clear 8 = .ok (.aload_n 0, 1) := by decide +kernel
theorem dX5_clear_9 : decode cX5_clear 9 = .ok (.getfield 9, 3) := by decide +kernel
theorem dX5_clear_12 : decode cX5_clear 12 = .ok (.iload_n 1, 1) := by decide +kernel
theorem dX5_clear_13 : decode cX5_clear 13 = .ok (.lconst 0, 1) := by decide +kernel
theorem dX5_clear_14 : decode cX5_clear 14 = .ok (.lastore, 1) := by decide +kernel
theorem dX5_clear_15 : decode cX5_clear 15 = .ok (.iinc 1 1, 3) := by decide +kernel
theorem dX5_clear_18 : decode cX5_clear 18 = .ok (.goto (-16), 3) := by decide +kernel
theorem dX5_clear_21 : decode cX5_clear 21 = .ok (.aload_n 0, 1) := by decide +kernel
theorem dX5_clear_22 : decode cX5_clear 22 = .ok (.lconst 0, 1) := by decide +kernel
theorem dX5_clear_23 : decode cX5_clear 23 = .ok (.putfield 15, 3) := by decide +kernel
theorem dX5_clear_26 : decode cX5_clear 26 = .ok (.aload_n 0, 1) := by decide +kernel
theorem dX5_clear_27 : decode cX5_clear 27 = .ok (.lconst 0, 1) := by decide +kernel
theorem dX5_clear_28 : decode cX5_clear 28 = .ok (.putfield 19, 3) := by decide +kernel
theorem dX5_clear_31 : decode cX5_clear 31 = .ok (.aload_n 0, 1) := by decide +kernel
theorem dX5_clear_32 : decode cX5_clear 32 = .ok (.iconst 0, 1) := by decide +kernel
theorem dX5_clear_33 : decode cX5_clear 33 = .ok (.putfield 22, 3) := by decide +kernel
theorem dX5_clear_36 : decode cX5_clear 36 = .ok (.aload_n 0, 1) := by decide +kernel
theorem dX5_clear_37 : decode cX5_clear 37 = .ok (.lconst 0, 1) := by decide +kernel
theorem dX5_clear_38 : decode cX5_clear 38 = .ok (.putfield 26, 3) := by decide +kernel
theorem dX5_clear_41 : decode cX5_clear 41 = .ok (.return_, 1) := by decide +kernel
theorem dX5_setFactor_0 : decode cX5_setFactor 0 = .ok (.iload_n 1, 1) := by decide +kernel
theorem dX5_setFactor_1 : decode cX5_setFactor 1 = .ok (.ifCond .lt 16, 3) := by decide +kernel
theorem dX5_setFactor_4 : decode cX5_setFactor 4 = .ok (.iload_n 1, 1) := by decide +kernel
theorem dX5_setFactor_5 : decode cX5_setFactor 5 = .ok (.bipush 8, 2) := by decide +kernel
theorem dX5_setFactor_7 : decode cX5_setFactor 7 = .ok (.if_icmp .ge 10, 3) := by decide +kernel
theorem dX5_setFactor_10 : decode cX5_setFactor 10 = .ok (.aload_n 0, 1) := by decide +kernel
theorem dX5_setFactor_11 : decode cX5_setFactor 11 = .ok (.getfield 9, 3) := by decide +kernel
theorem dX5_setFactor_14 : decode cX5_setFactor 14 = .ok (.iload_n 1, 1) := by decide +kernel
theorem dX5_setFactor_15 : decode cX5_setFactor 15 = .ok (.lload_n 2, 1) := by decide +kernel
theorem dX5_setFactor_16 : decode cX5_setFactor 16 = .ok (.lastore, 1) := by decide +kernel
theorem dX5_setFactor_17 : decode cX5_setFactor 17 = .ok (.return_, 1) := by decide +kernel
theorem dX5_factorOf_0 : decode cX5_factorOf 0 = .ok (.iload_n 1, 1) := by decide +kernel
theorem dX5_factorOf_1 : decode cX5_factorOf 1 = .ok (.ifCond .lt 18, 3) := by decide +kernel
theorem dX5_factorOf_4 : decode cX5_factorOf 4 = .ok (.iload_n 1, 1) := by decide +kernel
theorem dX5_factorOf_5 : decode cX5_factorOf 5 = .ok (.bipush 8, 2) := by decide +kernel
theorem dX5_factorOf_7 : decode cX5_factorOf 7 = .ok (.if_icmp .ge 12, 3) := by decide +kernel
theorem dX5_factorOf_10 : decode cX5_factorOf 10 = .ok (.aload_n 0, 1) := by decide +kernel
theorem dX5_factorOf_11 : decode cX5_factorOf 11 = .ok (.getfield 9, 3) := by decide +kernel
theorem dX5_factorOf_14 : decode cX5_factorOf 14 = .ok (.iload_n 1, 1) := by decide +kernel
theorem dX5_factorOf_15 : decode cX5_factorOf 15 = .ok (.laload, 1) := by decide +kernel
theorem dX5_factorOf_16 : decode cX5_factorOf 16 = .ok (.goto 4, 3) := by decide +kernel
theorem dX5_factorOf_19 : decode cX5_factorOf 19 = .ok (.lconst 0, 1) := by decide +kernel
theorem dX5_factorOf_20 : decode cX5_factorOf 20 = .ok (.lreturn, 1) := by decide +kernel
theorem dX5_setSingle_0 : decode cX5_setSingle 0 = .ok (.aload_n 0, 1) := by decide +kernel
theorem dX5_setSingle_1 : decode cX5_setSingle 1 = .ok (.iload_n 1, 1) := by decide +kernel
theorem dX5_setSingle_2 : decode cX5_setSingle 2 = .ok (.lload_n 2, 1) := by decide +kernel
theorem dX5_setSingle_3 : decode cX5_setSingle 3 = .ok (.invokevirtual 29, 3) := by decide +kernel
theorem dX5_setSingle_6 : decode cX5_setSingle 6 = .ok (.aload_n 0, 1) := by decide +kernel
theorem dX5_setSingle_7 : decode cX5_setSingle 7 = .ok (.lload 4, 2) := by decide +kernel
theorem dX5_setSingle_9 : decode cX5_setSingle 9 = .ok (.putfield 15, 3) := by decide +kernel
theorem dX5_setSingle_12 : decode cX5_setSingle 12 = .ok (.return_, 1) := by decide +kernel
theorem dX5_setLimit_0 : decode cX5_setLimit 0 = .ok (.aload_n 0, 1) := by decide +kernel
theorem dX5_setLimit_1 : decode cX5_setLimit 1 = .ok (.iconst 1, 1) := by decide +kernel
theorem dX5_setLimit_2 : decode cX5_setLimit 2 = .ok (.putfield 22, 3) := by decide +kernel
theorem dX5_setLimit_5 : decode cX5_setLimit 5 = .ok (.aload_n 0, 1) := by decide +kernel
theorem dX5_setLimit_6 : decode cX5_setLimit 6 = .ok (.lload_n 1, 1) := by decide +kernel
theorem dX5_setLimit_7 : decode cX5_setLimit 7 = .ok (.putfield 26, 3) := by decide +kernel
theorem dX5_setLimit_10 : decode cX5_setLimit 10 = .ok (.return_, 1) := by decide +kernel
theorem dX5_inheritAssumptions_0 : decode cX5_inheritAssumptions 0 = .ok (.aload_n 0, 1) := by decide +kernel
theorem dX5_inheritAssumptions_1 : decode cX5_inheritAssumptions 1 = .ok (.dup, 1) := by decide +kernel
theorem dX5_inheritAssumptions_2 : decode cX5_inheritAssumptions 2 = .ok (.getfield 19, 3) := by decide +kernel
theorem dX5_inheritAssumptions_5 : decode cX5_inheritAssumptions 5 = .ok (.aload_n 1, 1) := by decide +kernel
theorem dX5_inheritAssumptions_6 : decode cX5_inheritAssumptions 6 = .ok (.getfield 19, 3) := by decide +kernel
theorem dX5_inheritAssumptions_9 : decode cX5_inheritAssumptions 9 = .ok (.lor, 1) := by decide +kernel
theorem dX5_inheritAssumptions_10 : decode cX5_inheritAssumptions 10 = .ok (.putfield 19, 3) := by decide +kernel
theorem dX5_inheritAssumptions_13 : decode cX5_inheritAssumptions 13 = .ok (.return_, 1) := by decide +kernel
theorem dX5_inheritLimit_0 : decode cX5_inheritLimit 0 = .ok (.aload_n 1, 1) := by decide +kernel
theorem dX5_inheritLimit_1 : decode cX5_inheritLimit 1 = .ok (.getfield 22, 3) := by decide +kernel
theorem dX5_inheritLimit_4 : decode cX5_inheritLimit 4 = .ok (.ifCond .eq 30, 3) := by decide +kernel
theorem dX5_inheritLimit_7 : decode cX5_inheritLimit 7 = .ok (.aload_n 0, 1) := by decide +kernel
theorem dX5_inheritLimit_8 : decode cX5_inheritLimit 8 = .ok (.getfield 22, 3) := by decide +kernel
theorem dX5_inheritLimit_11 : decode cX5_inheritLimit 11 = .ok (.ifCond .eq 15, 3) := by decide +kernel
theorem dX5_inheritLimit_14 : decode cX5_inheritLimit 14 = .ok (.aload_n 1, 1) := by decide +kernel
theorem dX5_inheritLimit_15 : decode cX5_inheritLimit 15 = .ok (.getfield 26, 3) := by decide +kernel
theorem dX5_inheritLimit_18 : decode cX5_inheritLimit 18 = .ok (.aload_n 0, 1) := by decide +kernel
theorem dX5_inheritLimit_19 : decode cX5_inheritLimit 19 = .ok (.getfield 26, 3) := by decide +kernel
theorem dX5_inheritLimit_22 : decode cX5_inheritLimit 22 = .ok (.lcmp, 1) := by decide +kernel
theorem dX5_inheritLimit_23 : decode cX5_inheritLimit 23 = .ok (.ifCond .ge 11, 3) := by decide +kernel
theorem dX5_inheritLimit_26 : decode cX5_inheritLimit 26 = .ok (.aload_n 0, 1) := by decide +kernel
theorem dX5_inheritLimit_27 : decode cX5_inheritLimit 27 = .ok (.aload_n 1, 1) := by decide +kernel
theorem dX5_inheritLimit_28 : decode cX5_inheritLimit 28 = .ok (.getfield 26, 3) := by decide +kernel
theorem dX5_inheritLimit_31 : decode cX5_inheritLimit 31 = .ok (.invokevirtual 33, 3) := by decide +kernel
theorem dX5_inheritLimit_34 : decode cX5_inheritLimit 34 = .ok (.return_, 1) := by decide +kernel
theorem dX5_addTimes_0 : decode cX5_addTimes 0 = .ok (.iconst 0, 1) := by decide +kernel
theorem dX5_addTimes_1 : decode cX5_addTimes 1 = .ok (.istore 4, 2) := by decide +kernel
theorem dX5_addTimes_3 : decode cX5_addTimes 3 = .ok (.iload 4, 2) := by decide +kernel
theorem dX5_addTimes_5 : decode cX5_addTimes 5 = .ok (.bipush 8, 2) := by decide +kernel
theorem dX5_addTimes_7 : decode cX5_addTimes 7 = .ok (.if_icmp .ge 28, 3) := by decide +kernel
theorem dX5_addTimes_10 : decode cX5_addTimes 10 = .ok (.aload_n 0, 1) := by decide +kernel
theorem dX5_addTimes_11 : decode cX5_addTimes 11 = .ok (.getfield 9, 3) := by decide +kernel
theorem dX5_addTimes_14 : decode cX5_addTimes 14 = .ok (.iload 4, 2) := by decide +kernel
theorem dX5_addTimes_16 : decode cX5_addTimes 16 = .ok (.dup2, 1) := by decide +kernel
theorem dX5_addTimes_17 : decode cX5_addTimes 17 = .ok (.laload, 1) := by decide +kernel
theorem dX5_addTimes_18 : decode cX5_addTimes 18 = .ok (.lload_n 2, 1) := by decide +kernel
theorem dX5_addTimes_19 : decode cX5_addTimes 19 = .ok (.aload_n 1, 1) := by decide +kernel
theorem dX5_addTimes_20 : decode cX5_addTimes 20 = .ok (.getfield 9, 3) := by decide +kernel
theorem dX5_addTimes_23 : decode cX5_addTimes 23 = .ok (.iload 4, 2) := by decide +kernel
theorem dX5_addTimes_25 : decode cX5_addTimes 25 = .ok (.laload, 1) := by decide +kernel
theorem dX5_addTimes_26 : decode cX5_addTimes 26 = .ok (.lmul, 1) := by decide +kernel
theorem dX5_addTimes_27 : decode cX5_addTimes 27 = .ok (.ladd, 1) := by decide +kernel
theorem dX5_addTimes_28 : decode cX5_addTimes 28 = .ok (.lastore, 1) := by decide +kernel
theorem dX5_addTimes_29 : decode cX5_addTimes 29 = .ok (.iinc 4 1, 3) := by decide +kernel
theorem dX5_addTimes_32 : decode cX5_addTimes 32 = .ok (.goto (-29), 3) := by decide +kernel
theorem dX5_addTimes_35 : decode cX5_addTimes 35 = .ok (.aload_n 0, 1) := by decide +kernel
theorem dX5_addTimes_36 : decode cX5_addTimes 36 = .ok (.dup, 1) := by decide +kernel
theorem dX5_addTimes_37 : decode cX5_addTimes 37 = .ok (.getfield 15, 3) := by decide +kernel
theorem dX5_addTimes_40 : decode cX5_addTimes 40 = .ok (.lload_n 2, 1) := by decide +kernel
theorem dX5_addTimes_41 : decode cX5_addTimes 41 = .ok (.aload_n 1, 1) := by decide +kernel
theorem dX5_addTimes_42 : decode cX5_addTimes 42 = .ok (.getfield 15, 3) := by decide +kernel
theorem dX5_addTimes_45 : decode cX5_addTimes 45 = .ok (.lmul, 1) := by decide +kernel
theorem dX5_addTimes_46 : decode cX5_addTimes 46 = .ok (.ladd, 1) := by decide +kernel
theorem dX5_addTimes_47 : decode cX5_addTimes 47 = .ok (.putfield 15, 3) := by decide +kernel
theorem dX5_addTimes_50 : decode cX5_addTimes 50 = .ok (.return_, 1) := by decide +kernel
theorem dX5_isMadeOfZeros_0 : decode cX5_isMadeOfZeros 0 = .ok (.iconst 0, 1) := by decide +kernel
theorem dX5_isMadeOfZeros_1 : decode cX5_isMadeOfZeros 1 = .ok (.istore_n 1, 1) := by decide +kernel
theorem dX5_isMadeOfZeros_2 : decode cX5_isMadeOfZeros 2 = .ok (.iload_n 1, 1) := by decide +kernel
theorem dX5_isMadeOfZeros_3 : decode cX5_isMadeOfZeros 3 = .ok (.bipush 8, 2) := by decide +kernel
theorem dX5_isMadeOfZeros_5 : decode cX5_isMadeOfZeros 5 = .ok (.if_icmp .ge 22, 3) := by decide +kernel
theorem dX5_isMadeOfZeros_8 : decode cX5_isMadeOfZeros 8 = .ok (.aload_n 0, 1) := by decide +kernel
theorem dX5_isMadeOfZeros_9 : decode cX5_isMadeOfZeros 9 = .ok (.getfield 9, 3) := by decide +kernel
theorem dX5_isMadeOfZeros_12 : decode cX5_isMadeOfZeros 12 = .ok (.iload_n 1, 1) := by decide +kernel
theorem dX5_isMadeOfZeros_13 : decode cX5_isMadeOfZeros 13 = .ok (.laload, 1) := by decide +kernel
theorem dX5_isMadeOfZeros_14 : decode cX5_isMadeOfZeros 14 = .ok (.lconst 0, 1) := by decide +kernel
theorem dX5_isMadeOfZeros_15 : decode cX5_isMadeOfZeros 15 = .ok (.lcmp, 1) := by decide +kernel
theorem dX5_isMadeOfZeros_16 : decode cX5_isMadeOfZeros 16 = .ok (.ifCond .eq 5, 3) := by decide +kernel
theorem dX5_isMadeOfZeros_19 : decode cX5_isMadeOfZeros 19 = .ok (.iconst 0, 1) := by decide +kernel
theorem dX5_isMadeOfZeros_20 : decode cX5_isMadeOfZeros 20 = .ok (.ireturn, 1) := by decide +kernel
theorem dX5_isMadeOfZeros_21 : decode cX5_isMadeOfZeros 21 = .ok (.iinc 1 1, 3) := by decide +kernel
theorem dX5_isMadeOfZeros_24 : decode cX5_isMadeOfZeros 24 = .ok (.goto (-22), 3) := by decide +kernel
theorem dX5_isMadeOfZeros_27 : decode cX5_isMadeOfZeros 27 = .ok (.iconst 1, 1) := by decide +kernel
theorem dX5_isMadeOfZeros_28 : decode cX5_isMadeOfZeros 28 = .ok (.ireturn, 1) := by decide +kernel
theorem dX5_isImpossible_0 : decode cX5_isImpossible 0 = .ok (.aload_n 0, 1) := by decide +kernel
theorem dX5_isImpossible_1 : decode cX5_isImpossible 1 = .ok (.getfield 15, 3) := by decide +kernel
theorem dX5_isImpossible_4 : decode cX5_isImpossible 4 = .ok (.lconst 0, 1) := by decide +kernel
theorem dX5_isImpossible_5 : decode cX5_isImpossible 5 = .ok (.lcmp, 1) := by decide +kernel
theorem dX5_isImpossible_6 : decode cX5_isImpossible 6 = .ok (.ifCond .ge 14, 3) := by decide +kernel
theorem dX5_isImpossible_9 : decode cX5_isImpossible 9 = .ok (.aload_n 0, 1) := by decide +kernel
theorem dX5_isImpossible_10 : decode cX5_isImpossible 10 = .ok (.invokevirtual 37, 3) := by decide +kernel
theorem dX5_isImpossible_13 : decode cX5_isImpossible 13 = .ok (.ifCond .eq 7, 3) := by decide +kernel
theorem dX5_isImpossible_16 : decode cX5_isImpossible 16 = .ok (.iconst 1, 1) := by decide +kernel
theorem dX5_isImpossible_17 : decode cX5_isImpossible 17 = .ok (.goto 4, 3) := by decide +kernel
theorem dX5_isImpossible_20 : decode cX5_isImpossible 20 = .ok (.iconst 0, 1) := by decide +kernel
theorem dX5_isImpossible_21 : decode cX5_isImpossible 21 = .ok (.ireturn, 1) := by decide +kernel
theorem dX5_hasFactorsOf_0 : decode cX5_hasFactorsOf 0 = .ok (.iconst 0, 1) := by decide +kernel
theorem dX5_hasFactorsOf_1 : decode cX5_hasFactorsOf 1 = .ok (.istore_n 2, 1) := by decide +kernel
theorem dX5_hasFactorsOf_2 : decode cX5_hasFactorsOf 2 = .ok (.iload_n 2, 1) := by decide +kernel
theorem dX5_hasFactorsOf_3 : decode cX5_hasFactorsOf 3 = .ok (.bipush 8, 2) := by decide +kernel
theorem dX5_hasFactorsOf_5 : decode cX5_hasFactorsOf 5 = .ok (.if_icmp .ge 27, 3) := by decide +kernel
theorem dX5_hasFactorsOf_8 : decode cX5_hasFactorsOf 8 = .ok (.aload_n 0, 1) := by decide +kernel
theorem dX5_hasFactorsOf_9 : decode cX5_hasFactorsOf 9 = .ok (.getfield 9, 3) := by decide +kernel
theorem dX5_hasFactorsOf_12 : decode cX5_hasFactorsOf 12 = .ok (.iload_n 2, 1) := by decide +kernel
theorem dX5_hasFactorsOf_13 : decode cX5_hasFactorsOf 13 = .ok (.laload, 1) := by decide +kernel
theorem dX5_hasFactorsOf_14 : decode cX5_hasFactorsOf 14 = .ok (.aload_n 1, 1) := by decide +kernel
theorem dX5_hasFactorsOf_15 : decode cX5_hasFactorsOf 15 = .ok (.getfield 9, 3) := by decide +kernel
theorem dX5_hasFactorsOf_18 : decode cX5_hasFactorsOf 18 = .ok (.iload_n 2, 1) := by decide +kernel
theorem dX5_hasFactorsOf_19 : decode cX5_hasFactorsOf 19 = .ok (.laload, 1) := by decide +kernel
theorem dX5_hasFactorsOf_20 : decode cX5_hasFactorsOf 20 = .ok (.lcmp, 1) := by decide +kernel
theorem dX5_hasFactorsOf_21 : decode cX5_hasFactorsOf 21 = .ok (.ifCond .eq 5, 3) := by decide +kernel
theorem dX5_hasFactorsOf_24 : decode cX5_hasFactorsOf 24 = .ok (.iconst 0, 1) := by decide +kernel
theorem dX5_hasFactorsOf_25 : decode cX5_hasFactorsOf 25 = .ok (.ireturn, 1) := by decide +kernel
theorem dX5_hasFactorsOf_26 : decode cX5_hasFactorsOf 26 = .ok (.iinc 2 1, 3) := by decide +kernel
theorem dX5_hasFactorsOf_29 : decode cX5_hasFactorsOf 29 = .ok (.goto (-27), 3) := by decide +kernel
theorem dX5_hasFactorsOf_32 : decode cX5_hasFactorsOf 32 = .ok (.iconst 1, 1) := by decide +kernel
theorem dX5_hasFactorsOf_33 : decode cX5_hasFactorsOf 33 = .ok (.ireturn, 1) := by decide +kernel
theorem dX5_isTooGreat_0 : decode cX5_isTooGreat 0 = .ok (.iconst 0, 1) := by decide +kernel
theorem dX5_isTooGreat_1 : decode cX5_isTooGreat 1 = .ok (.istore_n 1, 1) := by decide +kernel
theorem dX5_isTooGreat_2 : decode cX5_isTooGreat 2 = .ok (.iload_n 1, 1) := by decide +kernel
theorem dX5_isTooGreat_3 : decode cX5_isTooGreat 3 = .ok (.bipush 8, 2) := by decide +kernel
theorem dX5_isTooGreat_5 : decode cX5_isTooGreat 5 = .ok (.if_icmp .ge 37, 3) := by decide +kernel
theorem dX5_isTooGreat_8 : decode cX5_isTooGreat 8 = .ok (.aload_n 0, 1) := by decide +kernel
theorem dX5_isTooGreat_9 : decode cX5_isTooGreat 9 = .ok (.getfield 9, 3) := by decide +kernel
theorem dX5_isTooGreat_12 : decode cX5_isTooGreat 12 = .ok (.iload_n 1, 1) := by decide +kernel
theorem dX5_isTooGreat_13 : decode cX5_isTooGreat 13 = .ok (.laload, 1) := by decide +kernel
theorem dX5_isTooGreat_14 : decode cX5_isTooGreat 14 = .ok (.ldc2_w 41, 3) := by decide +kernel
theorem dX5_isTooGreat_17 : decode cX5_isTooGreat 17 = .ok (.lcmp, 1) := by decide +kernel
theorem dX5_isTooGreat_18 : decode cX5_isTooGreat 18 = .ok (.ifCond .lt 16, 3) := by decide +kernel
theorem dX5_isTooGreat_21 : decode cX5_isTooGreat 21 = .ok (.aload_n 0, 1) := by decide +kernel
theorem dX5_isTooGreat_22 : decode cX5_isTooGreat 22 = .ok (.getfield 9, 3) := by decide +kernel
theorem dX5_isTooGreat_25 : decode cX5_isTooGreat 25 = .ok (.iload_n 1, 1) := by decide +kernel
theorem dX5_isTooGreat_26 : decode cX5_isTooGreat 26 = .ok (.laload, 1) := by decide +kernel
theorem dX5_isTooGreat_27 : decode cX5_isTooGreat 27 = .ok (.ldc2_w 43, 3) := by decide +kernel
theorem dX5_isTooGreat_30 : decode cX5_isTooGreat 30 = .ok (.lcmp, 1) := by decide +kernel
theorem dX5_isTooGreat_31 : decode cX5_isTooGreat 31 = .ok (.ifCond .le 5, 3) := by decide +kernel
theorem dX5_isTooGreat_34 : decode cX5_isTooGreat 34 = .ok (.iconst 1, 1) := by decide +kernel
theorem dX5_isTooGreat_35 : decode cX5_isTooGreat 35 = .ok (.ireturn, 1) := by decide +kernel
theorem dX5_isTooGreat_36 : decode cX5_isTooGreat 36 = .ok (.iinc 1 1, 3) := by decide +kernel
theorem dX5_isTooGreat_39 : decode cX5_isTooGreat 39 = .ok (.goto (-37), 3) := by decide +kernel
theorem dX5_isTooGreat_42 : decode cX5_isTooGreat 42 = .ok (.aload_n 0, 1) := by decide +kernel
theorem dX5_isTooGreat_43 : decode cX5_isTooGreat 43 = .ok (.getfield 15, 3) := by decide +kernel
theorem dX5_isTooGreat_46 : decode cX5_isTooGreat 46 = .ok (.ldc2_w 41, 3) := by decide +kernel
theorem dX5_isTooGreat_49 : decode cX5_isTooGreat 49 = .ok (.lcmp, 1) := by decide +kernel
theorem dX5_isTooGreat_50 : decode cX5_isTooGreat 50 = .ok (.ifCond .lt 14, 3) := by decide +kernel
theorem dX5_isTooGreat_53 : decode cX5_isTooGreat 53 = .ok (.aload_n 0, 1) := by decide +kernel
theorem dX5_isTooGreat_54 : decode cX5_isTooGreat 54 = .ok (.getfield 15, 3) := by decide +kernel
theorem dX5_isTooGreat_57 : decode cX5_isTooGreat 57 = .ok (.ldc2_w 43, 3) := by decide +kernel
theorem dX5_isTooGreat_60 : decode cX5_isTooGreat 60 = .ok (.lcmp, 1) := by decide +kernel
theorem dX5_isTooGreat_61 : decode cX5_isTooGreat 61 = .ok (.ifCond .le 7, 3) := by decide +kernel
theorem dX5_isTooGreat_64 : decode cX5_isTooGreat 64 = .ok (.iconst 1, 1) := by decide +kernel
theorem dX5_isTooGreat_65 : decode cX5_isTooGreat 65 = .ok (.goto 4, 3) := by decide +kernel
theorem dX5_isTooGreat_68 : decode cX5_isTooGreat 68 = .ok (.iconst 0, 1) := by decide +kernel
theorem dX5_isTooGreat_69 : decode cX5_isTooGreat 69 = .ok (.ireturn, 1) := by decide +kernel
theorem dX5_isBranch_0 : decode cX5_isBranch 0 = .ok (.aload_n 0, 1) := by decide +kernel
theorem dX5_isBranch_1 : decode cX5_isBranch 1 = .ok (.getfield 45, 3) := by decide +kernel
theorem dX5_isBranch_4 : decode cX5_isBranch 4 = .ok (.bipush 6, 2) := by decide +kernel
theorem dX5_isBranch_6 : decode cX5_isBranch 6 = .ok (.if_icmp .ne 15, 3) := by decide +kernel
theorem dX5_isBranch_9 : decode cX5_isBranch 9 = .ok (.aload_n 0, 1) := by decide +kernel
theorem dX5_isBranch_10 : decode cX5_isBranch 10 = .ok (.getfield 49, 3) := by decide +kernel
theorem dX5_isBranch_13 : decode cX5_isBranch 13 = .ok (.iload_n 1, 1) := by decide +kernel
theorem dX5_isBranch_14 : decode cX5_isBranch 14 = .ok (.if_icmp .ne 7, 3) := by decide +kernel
theorem dX5_isBranch_17 : decode cX5_isBranch 17 = .ok (.iconst 1, 1) := by decide +kernel
theorem dX5_isBranch_18 : decode cX5_isBranch 18 = .ok (.goto 4, 3) := by decide +kernel
theorem dX5_isBranch_21 : decode cX5_isBranch 21 = .ok (.iconst 0, 1) := by decide +kernel
theorem dX5_isBranch_22 : decode cX5_isBranch 22 = .ok (.ireturn, 1) := by decide +kernel
theorem dX5_isKeptBy_0 : decode cX5_isKeptBy 0 = .ok (.lconst 0, 1) := by decide +kernel
theorem dX5_isKeptBy_1 : decode cX5_isKeptBy 1 = .ok (.lstore_n 2, 1) := by decide +kernel
theorem dX5_isKeptBy_2 : decode cX5_isKeptBy 2 = .ok (.iconst 0, 1) := by decide +kernel
theorem dX5_isKeptBy_3 : decode cX5_isKeptBy 3 = .ok (.istore 4, 2) := by decide +kernel
theorem dX5_isKeptBy_5 : decode cX5_isKeptBy 5 = .ok (.iload 4, 2) := by decide +kernel
theorem dX5_isKeptBy_7 : decode cX5_isKeptBy 7 = .ok (.bipush 8, 2) := by decide +kernel
theorem dX5_isKeptBy_9 : decode cX5_isKeptBy 9 = .ok (.if_icmp .ge 27, 3) := by decide +kernel
theorem dX5_isKeptBy_12 : decode cX5_isKeptBy 12 = .ok (.lload_n 2, 1) := by decide +kernel
theorem dX5_isKeptBy_13 : decode cX5_isKeptBy 13 = .ok (.aload_n 0, 1) := by decide +kernel
theorem dX5_isKeptBy_14 : decode cX5_isKeptBy 14 = .ok (.getfield 9, 3) := by decide +kernel
theorem dX5_isKeptBy_17 : decode cX5_isKeptBy 17 = .ok (.iload 4, 2) := by decide +kernel
theorem dX5_isKeptBy_19 : decode cX5_isKeptBy 19 = .ok (.laload, 1) := by decide +kernel
theorem dX5_isKeptBy_20 : decode cX5_isKeptBy 20 = .ok (.aload_n 1, 1) := by decide +kernel
theorem dX5_isKeptBy_21 : decode cX5_isKeptBy 21 = .ok (.iload 4, 2) := by decide +kernel
theorem dX5_isKeptBy_23 : decode cX5_isKeptBy 23 = .ok (.invokestatic 52, 3) := by decide +kernel
theorem dX5_isKeptBy_26 : decode cX5_isKeptBy 26 = .ok (.i2l, 1) := by decide +kernel
theorem dX5_isKeptBy_27 : decode cX5_isKeptBy 27 = .ok (.lmul, 1) := by decide +kernel
theorem dX5_isKeptBy_28 : decode cX5_isKeptBy 28 = .ok (.ladd, 1) := by decide +kernel
theorem dX5_isKeptBy_29 : decode cX5_isKeptBy 29 = .ok (.lstore_n 2, 1) := by decide +kernel
theorem dX5_isKeptBy_30 : decode cX5_isKeptBy 30 = .ok (.iinc 4 1, 3) := by decide +kernel
theorem dX5_isKeptBy_33 : decode cX5_isKeptBy 33 = .ok (.goto (-28), 3) := by decide +kernel
theorem dX5_isKeptBy_36 : decode cX5_isKeptBy 36 = .ok (.lload_n 2, 1) := by decide +kernel
theorem dX5_isKeptBy_37 : decode cX5_isKeptBy 37 = .ok (.aload_n 0, 1) := by decide +kernel
theorem dX5_isKeptBy_38 : decode cX5_isKeptBy 38 = .ok (.getfield 15, 3) := by decide +kernel
theorem dX5_isKeptBy_41 : decode cX5_isKeptBy 41 = .ok (.lcmp, 1) := by decide +kernel
theorem dX5_isKeptBy_42 : decode cX5_isKeptBy 42 = .ok (.ifCond .gt 7, 3) := by decide +kernel
theorem dX5_isKeptBy_45 : decode cX5_isKeptBy 45 = .ok (.iconst 1, 1) := by decide +kernel
theorem dX5_isKeptBy_46 : decode cX5_isKeptBy 46 = .ok (.goto 4, 3) := by decide +kernel
theorem dX5_isKeptBy_49 : decode cX5_isKeptBy 49 = .ok (.iconst 0, 1) := by decide +kernel
theorem dX5_isKeptBy_50 : decode cX5_isKeptBy 50 = .ok (.ireturn, 1) := by decide +kernel
theorem dX5_timesLessCosts_0 : decode cX5_timesLessCosts 0 = .ok (.lconst 0, 1) := by decide +kernel
theorem dX5_timesLessCosts_1 : decode cX5_timesLessCosts 1 = .ok (.lstore_n 2, 1) := by decide +kernel
theorem dX5_timesLessCosts_2 : decode cX5_timesLessCosts 2 = .ok (.iconst 0, 1) := by decide +kernel
theorem dX5_timesLessCosts_3 : decode cX5_timesLessCosts 3 = .ok (.istore 4, 2) := by decide +kernel
theorem dX5_timesLessCosts_5 : decode cX5_timesLessCosts 5 = .ok (.iload 4, 2) := by decide +kernel
theorem dX5_timesLessCosts_7 : decode cX5_timesLessCosts 7 = .ok (.bipush 8, 2) := by decide +kernel
theorem dX5_timesLessCosts_9 : decode cX5_timesLessCosts 9 = .ok (.if_icmp .ge 49, 3) := by decide +kernel
theorem dX5_timesLessCosts_12 : decode cX5_timesLessCosts 12 = .ok (.lload_n 2, 1) := by decide +kernel
theorem dX5_timesLessCosts_13 : decode cX5_timesLessCosts 13 = .ok (.lconst 0, 1) := by decide +kernel
theorem dX5_timesLessCosts_14 : decode cX5_timesLessCosts 14 = .ok (.lcmp, 1) := by decide +kernel
theorem dX5_timesLessCosts_15 : decode cX5_timesLessCosts 15 = .ok (.ifCond .ne 43, 3) := by decide +kernel
theorem dX5_timesLessCosts_18 : decode cX5_timesLessCosts 18 = .ok (.aload_n 1, 1) := by decide +kernel
theorem dX5_timesLessCosts_19 : decode cX5_timesLessCosts 19 = .ok (.iload 4, 2) := by decide +kernel
theorem dX5_timesLessCosts_21 : decode cX5_timesLessCosts 21 = .ok (.invokestatic 52, 3) := by decide +kernel
theorem dX5_timesLessCosts_24 : decode cX5_timesLessCosts 24 = .ok (.istore 5, 2) := by decide +kernel
theorem dX5_timesLessCosts_26 : decode cX5_timesLessCosts 26 = .ok (.iload 5, 2) := by decide +kernel
theorem dX5_timesLessCosts_28 : decode cX5_timesLessCosts 28 = .ok (.ifCond .eq 24, 3) := by decide +kernel
theorem dX5_timesLessCosts_31 : decode cX5_timesLessCosts 31 = .ok (.aload_n 0, 1) := by decide +kernel
theorem dX5_timesLessCosts_32 : decode cX5_timesLessCosts 32 = .ok (.getfield 9, 3) := by decide +kernel
theorem dX5_timesLessCosts_35 : decode cX5_timesLessCosts 35 = .ok (.iload 4, 2) := by decide +kernel
theorem dX5_timesLessCosts_37 : decode cX5_timesLessCosts 37 = .ok (.laload, 1) := by decide +kernel
theorem dX5_timesLessCosts_38 : decode cX5_timesLessCosts 38 = .ok (.iload 5, 2) := by decide +kernel
theorem dX5_timesLessCosts_40 : decode cX5_timesLessCosts 40 = .ok (.i2l, 1) := by decide +kernel
theorem dX5_timesLessCosts_41 : decode cX5_timesLessCosts 41 = .ok (.ldiv, 1) := by decide +kernel
theorem dX5_timesLessCosts_42 : decode cX5_timesLessCosts 42 = .ok (.lneg, 1) := by decide +kernel
theorem dX5_timesLessCosts_43 : decode cX5_timesLessCosts 43 = .ok (.lstore_n 2, 1) := by decide +kernel
theorem dX5_timesLessCosts_44 : decode cX5_timesLessCosts 44 = .ok (.lload_n 2, 1) := by decide +kernel
theorem dX5_timesLessCosts_45 : decode cX5_timesLessCosts 45 = .ok (.lconst 1, 1) := by decide +kernel
theorem dX5_timesLessCosts_46 : decode cX5_timesLessCosts 46 = .ok (.lcmp, 1) := by decide +kernel
theorem dX5_timesLessCosts_47 : decode cX5_timesLessCosts 47 = .ok (.ifCond .ge 5, 3) := by decide +kernel
theorem dX5_timesLessCosts_50 : decode cX5_timesLessCosts 50 = .ok (.lconst 0, 1) := by decide +kernel
theorem dX5_timesLessCosts_51 : decode cX5_timesLessCosts 51 = .ok (.lreturn, 1) := by decide +kernel
theorem dX5_timesLessCosts_52 : decode cX5_timesLessCosts 52 = .ok (.iinc 4 1, 3) := by decide +kernel
theorem dX5_timesLessCosts_55 : decode cX5_timesLessCosts 55 = .ok (.goto (-50), 3) := by decide +kernel
theorem dX5_timesLessCosts_58 : decode cX5_timesLessCosts 58 = .ok (.iconst 0, 1) := by decide +kernel
theorem dX5_timesLessCosts_59 : decode cX5_timesLessCosts 59 = .ok (.istore 4, 2) := by decide +kernel
theorem dX5_timesLessCosts_61 : decode cX5_timesLessCosts 61 = .ok (.iload 4, 2) := by decide +kernel
theorem dX5_timesLessCosts_63 : decode cX5_timesLessCosts 63 = .ok (.bipush 8, 2) := by decide +kernel
theorem dX5_timesLessCosts_65 : decode cX5_timesLessCosts 65 = .ok (.if_icmp .ge 32, 3) := by decide +kernel
theorem dX5_timesLessCosts_68 : decode cX5_timesLessCosts 68 = .ok (.aload_n 0, 1) := by decide +kernel
theorem dX5_timesLessCosts_69 : decode cX5_timesLessCosts 69 = .ok (.getfield 9, 3) := by decide +kernel
theorem dX5_timesLessCosts_72 : decode cX5_timesLessCosts 72 = .ok (.iload 4, 2) := by decide +kernel
theorem dX5_timesLessCosts_74 : decode cX5_timesLessCosts 74 = .ok (.laload, 1) := by decide +kernel
theorem dX5_timesLessCosts_75 : decode cX5_timesLessCosts 75 = .ok (.lload_n 2, 1) := by decide +kernel
theorem dX5_timesLessCosts_76 : decode cX5_timesLessCosts 76 = .ok (.lneg, 1) := by decide +kernel
theorem dX5_timesLessCosts_77 : decode cX5_timesLessCosts 77 = .ok (.aload_n 1, 1) := by decide +kernel
theorem dX5_timesLessCosts_78 : decode cX5_timesLessCosts 78 = .ok (.iload 4, 2) := by decide +kernel
theorem dX5_timesLessCosts_80 : decode cX5_timesLessCosts 80 = .ok (.invokestatic 52, 3) := by decide +kernel
theorem dX5_timesLessCosts_83 : decode cX5_timesLessCosts 83 = .ok (.i2l, 1) := by decide +kernel
theorem dX5_timesLessCosts_84 : decode cX5_timesLessCosts 84 = .ok (.lmul, 1) := by decide +kernel
theorem dX5_timesLessCosts_85 : decode cX5_timesLessCosts 85 = .ok (.lcmp, 1) := by decide +kernel
theorem dX5_timesLessCosts_86 : decode cX5_timesLessCosts 86 = .ok (.ifCond .eq 5, 3) := by decide +kernel
theorem dX5_timesLessCosts_89 : decode cX5_timesLessCosts 89 = .ok (.lconst 0, 1) := by decide +kernel
theorem dX5_timesLessCosts_90 : decode cX5_timesLessCosts 90 = .ok (.lreturn, 1) := by decide +kernel
theorem dX5_timesLessCosts_91 : decode cX5_timesLessCosts 91 = .ok (.iinc 4 1, 3) := by decide +kernel
theorem dX5_timesLessCosts_94 : decode cX5_timesLessCosts 94 = .ok (.goto (-33), 3) := by decide +kernel
theorem dX5_timesLessCosts_97 : decode cX5_timesLessCosts 97 = .ok (.lload_n 2, 1) := by decide +kernel
theorem dX5_timesLessCosts_98 : decode cX5_timesLessCosts 98 = .ok (.lreturn, 1) := by decide +kernel
theorem dX5_boundOfCost_0 : decode cX5_boundOfCost 0 = .ok (.aload_n 0, 1) := by decide +kernel
theorem dX5_boundOfCost_1 : decode cX5_boundOfCost 1 = .ok (.getfield 19, 3) := by decide +kernel
theorem dX5_boundOfCost_4 : decode cX5_boundOfCost 4 = .ok (.lconst 0, 1) := by decide +kernel
theorem dX5_boundOfCost_5 : decode cX5_boundOfCost 5 = .ok (.lcmp, 1) := by decide +kernel
theorem dX5_boundOfCost_6 : decode cX5_boundOfCost 6 = .ok (.ifCond .ne 10, 3) := by decide +kernel
theorem dX5_boundOfCost_9 : decode cX5_boundOfCost 9 = .ok (.aload_n 0, 1) := by decide +kernel
theorem dX5_boundOfCost_10 : decode cX5_boundOfCost 10 = .ok (.getfield 22, 3) := by decide +kernel
theorem dX5_boundOfCost_13 : decode cX5_boundOfCost 13 = .ok (.ifCond .eq 7, 3) := by decide +kernel
theorem dX5_boundOfCost_16 : decode cX5_boundOfCost 16 = .ok (.ldc2_w 58, 3) := by decide +kernel
theorem dX5_boundOfCost_19 : decode cX5_boundOfCost 19 = .ok (.lreturn, 1) := by decide +kernel
theorem dX5_boundOfCost_20 : decode cX5_boundOfCost 20 = .ok (.aload_n 0, 1) := by decide +kernel
theorem dX5_boundOfCost_21 : decode cX5_boundOfCost 21 = .ok (.aload_n 1, 1) := by decide +kernel
theorem dX5_boundOfCost_22 : decode cX5_boundOfCost 22 = .ok (.invokevirtual 60, 3) := by decide +kernel
theorem dX5_boundOfCost_25 : decode cX5_boundOfCost 25 = .ok (.lstore_n 2, 1) := by decide +kernel
theorem dX5_boundOfCost_26 : decode cX5_boundOfCost 26 = .ok (.lload_n 2, 1) := by decide +kernel
theorem dX5_boundOfCost_27 : decode cX5_boundOfCost 27 = .ok (.lconst 1, 1) := by decide +kernel
theorem dX5_boundOfCost_28 : decode cX5_boundOfCost 28 = .ok (.lcmp, 1) := by decide +kernel
theorem dX5_boundOfCost_29 : decode cX5_boundOfCost 29 = .ok (.ifCond .ge 9, 3) := by decide +kernel
theorem dX5_boundOfCost_32 : decode cX5_boundOfCost 32 = .ok (.ldc2_w 58, 3) := by decide +kernel
theorem dX5_boundOfCost_35 : decode cX5_boundOfCost 35 = .ok (.goto 12, 3) := by decide +kernel
theorem dX5_boundOfCost_38 : decode cX5_boundOfCost 38 = .ok (.aload_n 0, 1) := by decide +kernel
theorem dX5_boundOfCost_39 : decode cX5_boundOfCost 39 = .ok (.getfield 15, 3) := by decide +kernel
theorem dX5_boundOfCost_42 : decode cX5_boundOfCost 42 = .ok (.lload_n 2, 1) := by decide +kernel
theorem dX5_boundOfCost_43 : decode cX5_boundOfCost 43 = .ok (.invokestatic 64, 3) := by decide +kernel
theorem dX5_boundOfCost_46 : decode cX5_boundOfCost 46 = .ok (.lneg, 1) := by decide +kernel
theorem dX5_boundOfCost_47 : decode cX5_boundOfCost 47 = .ok (.lreturn, 1) := by decide +kernel
theorem dX6_init_0 : decode cX6_init 0 = .ok (.aload_n 0, 1) := by decide +kernel
theorem dX6_init_1 : decode cX6_init 1 = .ok (.invokespecial 3, 3) := by decide +kernel
theorem dX6_init_4 : decode cX6_init 4 = .ok (.aload_n 0, 1) := by decide +kernel
theorem dX6_init_5 : decode cX6_init 5 = .ok (.sipush 200, 3) := by decide +kernel
theorem dX6_init_8 : decode cX6_init 8 = .ok (.anewarray 9, 3) := by decide +kernel
theorem dX6_init_11 : decode cX6_init 11 = .ok (.putfield 11, 3) := by decide +kernel
theorem dX6_init_14 : decode cX6_init 14 = .ok (.aload_n 0, 1) := by decide +kernel
theorem dX6_init_15 : decode cX6_init 15 = .ok (.new 9, 3) := by decide +kernel
theorem dX6_init_18 : decode cX6_init 18 = .ok (.dup, 1) := by decide +kernel
theorem dX6_init_19 : decode cX6_init 19 = .ok (.invokespecial 17, 3) := by decide +kernel
theorem dX6_init_22 : decode cX6_init 22 = .ok (.putfield 18, 3) := by decide +kernel
theorem dX6_init_25 : decode cX6_init 25 = .ok (.aload_n 0, 1) := by decide +kernel
theorem dX6_init_26 : decode cX6_init 26 = .ok (.bipush 60, 2) := by decide +kernel
theorem dX6_init_28 : decode cX6_init 28 = .ok (.newarray .int, 2) := by decide +kernel
theorem dX6_init_30 : decode cX6_init 30 = .ok (.putfield 22, 3) := by decide +kernel
theorem dX6_init_33 : decode cX6_init 33 = .ok (.iconst 0, 1) := by decide +kernel
theorem dX6_init_34 : decode cX6_init 34 = .ok (.istore_n 1, 1) := by decide +kernel
theorem dX6_init_35 : decode cX6_init 35 = .ok (.iload_n 1, 1) := by decide +kernel
theorem dX6_init_36 : decode cX6_init 36 = .ok (.sipush 200, 3) := by decide +kernel
theorem dX6_init_39 : decode cX6_init 39 = .ok (.if_icmp .ge 22, 3) := by decide +kernel
theorem dX6_init_42 : decode cX6_init 42 = .ok (.aload_n 0, 1) := by decide +kernel
theorem dX6_init_43 : decode cX6_init 43 = .ok (.getfield 11, 3) := by decide +kernel
theorem dX6_init_46 : decode cX6_init 46 = .ok (.iload_n 1, 1) := by decide +kernel
theorem dX6_init_47 : decode cX6_init 47 = .ok (.new 9, 3) := by decide +kernel
theorem dX6_init_50 : decode cX6_init 50 = .ok (.dup, 1) := by decide +kernel
theorem dX6_init_51 : decode cX6_init 51 = .ok (.invokespecial 17, 3) := by decide +kernel
theorem dX6_init_54 : decode cX6_init 54 = .ok (.aastore, 1) := by decide +kernel
theorem dX6_init_55 : decode cX6_init 55 = .ok (.iinc 1 1, 3) := by decide +kernel
theorem dX6_init_58 : decode cX6_init 58 = .ok (.goto (-23), 3) := by decide +kernel
theorem dX6_init_61 : decode cX6_init 61 = .ok (.return_, 1) := by decide +kernel
theorem dX6_clear_0 : decode cX6_clear 0 = .ok (.aload_n 0, 1) := by decide +kernel
theorem dX6_clear_1 : decode cX6_clear 1 = .ok (.iconst 0, 1) := by decide +kernel
theorem dX6_clear_2 : decode cX6_clear 2 = .ok (.putfield 26, 3) := by decide +kernel
theorem dX6_clear_5 : decode cX6_clear 5 = .ok (.aload_n 0, 1) := by decide +kernel
theorem dX6_clear_6 : decode cX6_clear 6 = .ok (.iconst 0, 1) := by decide +kernel
theorem dX6_clear_7 : decode cX6_clear 7 = .ok (.putfield 30, 3) := by decide +kernel
theorem dX6_clear_10 : decode cX6_clear 10 = .ok (.return_, 1) := by decide +kernel
theorem dX6_has_0 : decode cX6_has 0 = .ok (.iload_n 1, 1) := by decide +kernel
theorem dX6_has_1 : decode cX6_has 1 = .ok (.ifCond .lt 22, 3) := by decide +kernel
theorem dX6_has_4 : decode cX6_has 4 = .ok (.iload_n 1, 1) := by decide +kernel
theorem dX6_has_5 : decode cX6_has 5 = .ok (.aload_n 0, 1) := by decide +kernel
theorem dX6_has_6 : decode cX6_has 6 = .ok (.getfield 26, 3) := by decide +kernel
theorem dX6_has_9 : decode cX6_has 9 = .ok (.if_icmp .ge 14, 3) := by decide +kernel
theorem dX6_has_12 : decode cX6_has 12 = .ok (.iload_n 1, 1) := by decide +kernel
theorem dX6_has_13 : decode cX6_has 13 = .ok (.sipush 200, 3) := by decide +kernel
theorem dX6_has_16 : decode cX6_has 16 = .ok (.if_icmp .ge 7, 3) := by decide +kernel
theorem dX6_has_19 : decode cX6_has 19 = .ok (.iconst 1, 1) := by decide +kernel
theorem dX6_has_20 : decode cX6_has 20 = .ok (.goto 4, 3) := by decide +kernel
theorem dX6_has_23 : decode cX6_has 23 = .ok (.iconst 0, 1) := by decide +kernel
theorem dX6_has_24 : decode cX6_has 24 = .ok (.ireturn, 1) := by decide +kernel
theorem dX6_at_0 : decode cX6_at 0 = .ok (.aload_n 0, 1) := by decide +kernel
theorem dX6_at_1 : decode cX6_at 1 = .ok (.iload_n 1, 1) := by decide +kernel
theorem dX6_at_2 : decode cX6_at 2 = .ok (.invokevirtual 33, 3) := by decide +kernel
theorem dX6_at_5 : decode cX6_at 5 = .ok (.ifCond .eq 12, 3) := by decide +kernel
theorem dX6_at_8 : decode cX6_at 8 = .ok (.aload_n 0, 1) := by decide +kernel
theorem dX6_at_9 : decode cX6_at 9 = .ok (.getfield 11, 3) := by decide +kernel
theorem dX6_at_12 : decode cX6_at 12 = .ok (.iload_n 1, 1) := by decide +kernel
theorem dX6_at_13 : decode cX6_at 13 = .ok (.aaload, 1) := by decide +kernel
theorem dX6_at_14 : decode cX6_at 14 = .ok (.goto 7, 3) := by decide +kernel
theorem dX6_at_17 : decode cX6_at 17 = .ok (.aload_n 0, 1) := by decide +kernel
theorem dX6_at_18 : decode cX6_at 18 = .ok (.getfield 18, 3) := by decide +kernel
theorem dX6_at_21 : decode cX6_at 21 = .ok (.areturn, 1) := by decide +kernel
theorem dX6_areFull_0 : decode cX6_areFull 0 = .ok (.aload_n 0, 1) := by decide +kernel
theorem dX6_areFull_1 : decode cX6_areFull 1 = .ok (.getfield 26, 3) := by decide +kernel
theorem dX6_areFull_4 : decode cX6_areFull 4 = .ok (.sipush 200, 3) := by decide +kernel
theorem dX6_areFull_7 : decode cX6_areFull 7 = .ok (.if_icmp .lt 7, 3) := by decide +kernel
theorem dX6_areFull_10 : decode cX6_areFull 10 = .ok (.iconst 1, 1) := by decide +kernel
theorem dX6_areFull_11 : decode cX6_areFull 11 = .ok (.goto 4, 3) := by decide +kernel
theorem dX6_areFull_14 : decode cX6_areFull 14 = .ok (.iconst 0, 1) := by decide +kernel
theorem dX6_areFull_15 : decode cX6_areFull 15 = .ok (.ireturn, 1) := by decide +kernel
theorem dX6_areBranchesFull_0 : decode cX6_areBranchesFull 0 = .ok (.aload_n 0, 1) := by decide +kernel
theorem dX6_areBranchesFull_1 : decode cX6_areBranchesFull 1 = .ok (.getfield 30, 3) := by decide +kernel
theorem dX6_areBranchesFull_4 : decode cX6_areBranchesFull 4 = .ok (.bipush 60, 2) := by decide +kernel
theorem dX6_areBranchesFull_6 : decode cX6_areBranchesFull 6 = .ok (.if_icmp .lt 7, 3) := by decide +kernel
theorem dX6_areBranchesFull_9 : decode cX6_areBranchesFull 9 = .ok (.iconst 1, 1) := by decide +kernel
theorem dX6_areBranchesFull_10 : decode cX6_areBranchesFull 10 = .ok (.goto 4, 3) := by decide +kernel
theorem dX6_areBranchesFull_13 : decode cX6_areBranchesFull 13 = .ok (.iconst 0, 1) := by decide +kernel
theorem dX6_areBranchesFull_14 : decode cX6_areBranchesFull 14 = .ok (.ireturn, 1) := by decide +kernel
theorem dX6_fresh_0 : decode cX6_fresh 0 = .ok (.aload_n 0, 1) := by decide +kernel
theorem dX6_fresh_1 : decode cX6_fresh 1 = .ok (.getfield 26, 3) := by decide +kernel
theorem dX6_fresh_4 : decode cX6_fresh 4 = .ok (.ifCond .lt 25, 3) := by decide +kernel
theorem dX6_fresh_7 : decode cX6_fresh 7 = .ok (.aload_n 0, 1) := by decide +kernel
theorem dX6_fresh_8 : decode cX6_fresh 8 = .ok (.getfield 26, 3) := by decide +kernel
theorem dX6_fresh_11 : decode cX6_fresh 11 = .ok (.sipush 200, 3) := by decide +kernel
theorem dX6_fresh_14 : decode cX6_fresh 14 = .ok (.if_icmp .ge 15, 3) := by decide +kernel
theorem dX6_fresh_17 : decode cX6_fresh 17 = .ok (.aload_n 0, 1) := by decide +kernel
theorem dX6_fresh_18 : decode cX6_fresh 18 = .ok (.getfield 11, 3) := by decide +kernel
theorem dX6_fresh_21 : decode cX6_fresh 21 = .ok (.aload_n 0, 1) := by decide +kernel
theorem dX6_fresh_22 : decode cX6_fresh 22 = .ok (.getfield 26, 3) := by decide +kernel
theorem dX6_fresh_25 : decode cX6_fresh 25 = .ok (.aaload, 1) := by decide +kernel
theorem dX6_fresh_26 : decode cX6_fresh 26 = .ok (.goto 7, 3) := by decide +kernel
theorem dX6_fresh_29 : decode cX6_fresh 29 = .ok (.aload_n 0, 1) := by decide +kernel
theorem dX6_fresh_30 : decode cX6_fresh 30 = .ok (.getfield 18, 3) := by decide +kernel
theorem dX6_fresh_33 : decode cX6_fresh 33 = .ok (.astore_n 1, 1) := by decide +kernel
theorem dX6_fresh_34 : decode cX6_fresh 34 = .ok (.aload_n 1, 1) := by decide +kernel
theorem dX6_fresh_35 : decode cX6_fresh 35 = .ok (.invokevirtual 37, 3) := by decide +kernel
theorem dX6_fresh_38 : decode cX6_fresh 38 = .ok (.aload_n 1, 1) := by decide +kernel
theorem dX6_fresh_39 : decode cX6_fresh 39 = .ok (.areturn, 1) := by decide +kernel
theorem dX6_keepFresh_0 : decode cX6_keepFresh 0 = .ok (.aload_n 0, 1) := by decide +kernel
theorem dX6_keepFresh_1 : decode cX6_keepFresh 1 = .ok (.getfield 26, 3) := by decide +kernel
theorem dX6_keepFresh_4 : decode cX6_keepFresh 4 = .ok (.ifCond .lt 10, 3) := by decide +kernel
theorem dX6_keepFresh_7 : decode cX6_keepFresh 7 = .ok (.aload_n 0, 1) := by decide +kernel
theorem dX6_keepFresh_8 : decode cX6_keepFresh 8 = .ok (.invokevirtual 40, 3) := by decide +kernel
theorem dX6_keepFresh_11 : decode cX6_keepFresh 11 = .ok (.ifCond .eq 4, 3) := by decide +kernel
theorem dX6_keepFresh_14 : decode cX6_keepFresh 14 = .ok (.return_, 1) := by decide +kernel
theorem dX6_keepFresh_15 : decode cX6_keepFresh 15 = .ok (.aload_n 0, 1) := by decide +kernel
theorem dX6_keepFresh_16 : decode cX6_keepFresh 16 = .ok (.getfield 11, 3) := by decide +kernel
theorem dX6_keepFresh_19 : decode cX6_keepFresh 19 = .ok (.aload_n 0, 1) := by decide +kernel
theorem dX6_keepFresh_20 : decode cX6_keepFresh 20 = .ok (.getfield 26, 3) := by decide +kernel
theorem dX6_keepFresh_23 : decode cX6_keepFresh 23 = .ok (.aaload, 1) := by decide +kernel
theorem dX6_keepFresh_24 : decode cX6_keepFresh 24 = .ok (.getfield 44, 3) := by decide +kernel
theorem dX6_keepFresh_27 : decode cX6_keepFresh 27 = .ok (.bipush 6, 2) := by decide +kernel
theorem dX6_keepFresh_29 : decode cX6_keepFresh 29 = .ok (.if_icmp .ne 58, 3) := by decide +kernel
theorem dX6_keepFresh_32 : decode cX6_keepFresh 32 = .ok (.aload_n 0, 1) := by decide +kernel
theorem dX6_keepFresh_33 : decode cX6_keepFresh 33 = .ok (.getfield 30, 3) := by decide +kernel
theorem dX6_keepFresh_36 : decode cX6_keepFresh 36 = .ok (.ifCond .lt 51, 3) := by decide +kernel
theorem dX6_keepFresh_39 : decode cX6_keepFresh 39 = .ok (.aload_n 0, 1) := by decide +kernel
theorem dX6_keepFresh_40 : decode cX6_keepFresh 40 = .ok (.invokevirtual 47, 3) := by decide +kernel
theorem dX6_keepFresh_43 : decode cX6_keepFresh 43 = .ok (.ifCond .ne 44, 3) := by decide +kernel
theorem dX6_keepFresh_46 : decode cX6_keepFresh 46 = .ok (.aload_n 0, 1) := by decide +kernel
theorem dX6_keepFresh_47 : decode cX6_keepFresh 47 = .ok (.getfield 11, 3) := by decide +kernel
theorem dX6_keepFresh_50 : decode cX6_keepFresh 50 = .ok (.aload_n 0, 1) := by decide +kernel
theorem dX6_keepFresh_51 : decode cX6_keepFresh 51 = .ok (.getfield 26, 3) := by decide +kernel
theorem dX6_keepFresh_54 : decode cX6_keepFresh 54 = .ok (.aaload, 1) := by decide +kernel
theorem dX6_keepFresh_55 : decode cX6_keepFresh 55 = .ok (.lconst 1, 1) := by decide +kernel
theorem dX6_keepFresh_56 : decode cX6_keepFresh 56 = .ok (.aload_n 0, 1) := by decide +kernel
theorem dX6_keepFresh_57 : decode cX6_keepFresh 57 = .ok (.getfield 30, 3) := by decide +kernel
theorem dX6_keepFresh_60 : decode cX6_keepFresh 60 = .ok (.lshl, 1) := by decide +kernel
theorem dX6_keepFresh_61 : decode cX6_keepFresh 61 = .ok (.putfield 50, 3) := by decide +kernel
theorem dX6_keepFresh_64 : decode cX6_keepFresh 64 = .ok (.aload_n 0, 1) := by decide +kernel
theorem dX6_keepFresh_65 : decode cX6_keepFresh 65 = .ok (.getfield 22, 3) := by decide +kernel
theorem dX6_keepFresh_68 : decode cX6_keepFresh 68 = .ok (.aload_n 0, 1) := by decide +kernel
theorem dX6_keepFresh_69 : decode cX6_keepFresh 69 = .ok (.getfield 30, 3) := by decide +kernel
theorem dX6_keepFresh_72 : decode cX6_keepFresh 72 = .ok (.aload_n 0, 1) := by decide +kernel
theorem dX6_keepFresh_73 : decode cX6_keepFresh 73 = .ok (.getfield 26, 3) := by decide +kernel
theorem dX6_keepFresh_76 : decode cX6_keepFresh 76 = .ok (.iastore, 1) := by decide +kernel
theorem dX6_keepFresh_77 : decode cX6_keepFresh 77 = .ok (.aload_n 0, 1) := by decide +kernel
theorem dX6_keepFresh_78 : decode cX6_keepFresh 78 = .ok (.dup, 1) := by decide +kernel
theorem dX6_keepFresh_79 : decode cX6_keepFresh 79 = .ok (.getfield 30, 3) := by decide +kernel
theorem dX6_keepFresh_82 : decode cX6_keepFresh 82 = .ok (.iconst 1, 1) := by decide +kernel
theorem dX6_keepFresh_83 : decode cX6_keepFresh 83 = .ok (.iadd, 1) := by decide +kernel
theorem dX6_keepFresh_84 : decode cX6_keepFresh 84 = .ok (.putfield 30, 3) := by decide +kernel
theorem dX6_keepFresh_87 : decode cX6_keepFresh 87 = .ok (.aload_n 0, 1) := by decide +kernel
theorem dX6_keepFresh_88 : decode cX6_keepFresh 88 = .ok (.dup, 1) := by decide +kernel
theorem dX6_keepFresh_89 : decode cX6_keepFresh 89 = .ok (.getfield 26, 3) := by decide +kernel
theorem dX6_keepFresh_92 : decode cX6_keepFresh 92 = .ok (.iconst 1, 1) := by decide +kernel
theorem dX6_keepFresh_93 : decode cX6_keepFresh 93 = .ok (.iadd, 1) := by decide +kernel
theorem dX6_keepFresh_94 : decode cX6_keepFresh 94 = .ok (.putfield 26, 3) := by decide +kernel
theorem dX6_keepFresh_97 : decode cX6_keepFresh 97 = .ok (.return_, 1) := by decide +kernel
theorem dX6_assumption_0 : decode cX6_assumption 0 = .ok (.aload_n 0, 1) := by decide +kernel
theorem dX6_assumption_1 : decode cX6_assumption 1 = .ok (.iload_n 1, 1) := by decide +kernel
theorem dX6_assumption_2 : decode cX6_assumption 2 = .ok (.invokevirtual 54, 3) := by decide +kernel
theorem dX6_assumption_5 : decode cX6_assumption 5 = .ok (.getfield 50, 3) := by decide +kernel
theorem dX6_assumption_8 : decode cX6_assumption 8 = .ok (.lstore_n 3, 1) := by decide +kernel
theorem dX6_assumption_9 : decode cX6_assumption 9 = .ok (.iconst 0, 1) := by decide +kernel
theorem dX6_assumption_10 : decode cX6_assumption 10 = .ok (.istore 5, 2) := by decide +kernel
theorem dX6_assumption_12 : decode cX6_assumption 12 = .ok (.iconst 0, 1) := by decide +kernel
theorem dX6_assumption_13 : decode cX6_assumption 13 = .ok (.istore 6, 2) := by decide +kernel
theorem dX6_assumption_15 : decode cX6_assumption 15 = .ok (.iload 6, 2) := by decide +kernel
theorem dX6_assumption_17 : decode cX6_assumption 17 = .ok (.bipush 60, 2) := by decide +kernel
theorem dX6_assumption_19 : decode cX6_assumption 19 = .ok (.if_icmp .ge 46, 3) := by decide +kernel
theorem dX6_assumption_22 : decode cX6_assumption 22 = .ok (.iload 6, 2) := by decide +kernel
theorem dX6_assumption_24 : decode cX6_assumption 24 = .ok (.aload_n 0, 1) := by decide +kernel
theorem dX6_assumption_25 : decode cX6_assumption 25 = .ok (.getfield 30, 3) := by decide +kernel
theorem dX6_assumption_28 : decode cX6_assumption 28 = .ok (.if_icmp .ge 37, 3) := by decide +kernel
theorem dX6_assumption_31 : decode cX6_assumption 31 = .ok (.lload_n 3, 1) := by decide +kernel
theorem dX6_assumption_32 : decode cX6_assumption 32 = .ok (.iload 6, 2) := by decide +kernel
theorem dX6_assumption_34 : decode cX6_assumption 34 = .ok (.lshr, 1) := by decide +kernel
theorem dX6_assumption_35 : decode cX6_assumption 35 = .ok (.lconst 1, 1) := by decide +kernel
theorem dX6_assumption_36 : decode cX6_assumption 36 = .ok (.land, 1) := by decide +kernel
theorem dX6_assumption_37 : decode cX6_assumption 37 = .ok (.lconst 0, 1) := by decide +kernel
theorem dX6_assumption_38 : decode cX6_assumption 38 = .ok (.lcmp, 1) := by decide +kernel
theorem dX6_assumption_39 : decode cX6_assumption 39 = .ok (.ifCond .eq 20, 3) := by decide +kernel
theorem dX6_assumption_42 : decode cX6_assumption 42 = .ok (.iload 5, 2) := by decide +kernel
theorem dX6_assumption_44 : decode cX6_assumption 44 = .ok (.iload_n 2, 1) := by decide +kernel
theorem dX6_assumption_45 : decode cX6_assumption 45 = .ok (.if_icmp .ne 11, 3) := by decide +kernel
theorem dX6_assumption_48 : decode cX6_assumption 48 = .ok (.aload_n 0, 1) := by decide +kernel
theorem dX6_assumption_49 : decode cX6_assumption 49 = .ok (.getfield 22, 3) := by decide +kernel
theorem dX6_assumption_52 : decode cX6_assumption 52 = .ok (.iload 6, 2) := by decide +kernel
theorem dX6_assumption_54 : decode cX6_assumption 54 = .ok (.iaload, 1) := by decide +kernel
theorem dX6_assumption_55 : decode cX6_assumption 55 = .ok (.ireturn, 1) := by decide +kernel
theorem dX6_assumption_56 : decode cX6_assumption 56 = .ok (.iinc 5 1, 3) := by decide +kernel
theorem dX6_assumption_59 : decode cX6_assumption 59 = .ok (.iinc 6 1, 3) := by decide +kernel
theorem dX6_assumption_62 : decode cX6_assumption 62 = .ok (.goto (-47), 3) := by decide +kernel
theorem dX6_assumption_65 : decode cX6_assumption 65 = .ok (.iconst (-1), 1) := by decide +kernel
theorem dX6_assumption_66 : decode cX6_assumption 66 = .ok (.ireturn, 1) := by decide +kernel
theorem dX6_keepsAssumptions_0 : decode cX6_keepsAssumptions 0 = .ok (.iconst 0, 1) := by decide +kernel
theorem dX6_keepsAssumptions_1 : decode cX6_keepsAssumptions 1 = .ok (.istore_n 3, 1) := by decide +kernel
theorem dX6_keepsAssumptions_2 : decode cX6_keepsAssumptions 2 = .ok (.iload_n 3, 1) := by decide +kernel
theorem dX6_keepsAssumptions_3 : decode cX6_keepsAssumptions 3 = .ok (.bipush 60, 2) := by decide +kernel
theorem dX6_keepsAssumptions_5 : decode cX6_keepsAssumptions 5 = .ok (.if_icmp .ge 49, 3) := by decide +kernel
theorem dX6_keepsAssumptions_8 : decode cX6_keepsAssumptions 8 = .ok (.iload_n 3, 1) := by decide +kernel
theorem dX6_keepsAssumptions_9 : decode cX6_keepsAssumptions 9 = .ok (.aload_n 0, 1) := by decide +kernel
theorem dX6_keepsAssumptions_10 : decode cX6_keepsAssumptions 10 = .ok (.getfield 30, 3) := by decide +kernel
theorem dX6_keepsAssumptions_13 : decode cX6_keepsAssumptions 13 = .ok (.if_icmp .ge 41, 3) := by decide +kernel
theorem dX6_keepsAssumptions_16 : decode cX6_keepsAssumptions 16 = .ok (.aload_n 1, 1) := by decide +kernel
theorem dX6_keepsAssumptions_17 : decode cX6_keepsAssumptions 17 = .ok (.getfield 50, 3) := by decide +kernel
theorem dX6_keepsAssumptions_20 : decode cX6_keepsAssumptions 20 = .ok (.iload_n 3, 1) := by decide +kernel
theorem dX6_keepsAssumptions_21 : decode cX6_keepsAssumptions 21 = .ok (.lshr, 1) := by decide +kernel
theorem dX6_keepsAssumptions_22 : decode cX6_keepsAssumptions 22 = .ok (.lconst 1, 1) := by decide +kernel
end
section
theorem dX6_keepsAssumptions_23 : decode cX6_keepsAssumptions 23 = .ok (.land, 1) := by decide +kernel
theorem dX6_keepsAssumptions_24 : decode cX6_keepsAssumptions 24 = .ok (.lconst 0, 1) := by decide +kernel
theorem dX6_keepsAssumptions_25 : decode cX6_keepsAssumptions 25 = .ok (.lcmp, 1) := by decide +kernel
theorem dX6_keepsAssumptions_26 : decode cX6_keepsAssumptions 26 = .ok (.ifCond .eq 22, 3) := by decide +kernel
theorem dX6_keepsAssumptions_29 : decode cX6_keepsAssumptions 29 = .ok (.aload_n 0, 1) := by decide +kernel
theorem dX6_keepsAssumptions_30 : decode cX6_keepsAssumptions 30 = .ok (.aload_n 0, 1) := by decide +kernel
theorem dX6_keepsAssumptions_31 : decode cX6_keepsAssumptions 31 = .ok (.getfield 22, 3) := by decide +kernel
theorem dX6_keepsAssumptions_34 : decode cX6_keepsAssumptions 34 = .ok (.iload_n 3, 1) := by decide +kernel
theorem dX6_keepsAssumptions_35 : decode cX6_keepsAssumptions 35 = .ok (.iaload, 1) := by decide +kernel
theorem dX6_keepsAssumptions_36 : decode cX6_keepsAssumptions 36 = .ok (.invokevirtual 54, 3) := by decide +kernel
theorem dX6_keepsAssumptions_39 : decode cX6_keepsAssumptions 39 = .ok (.aload_n 2, 1) := by decide +kernel
theorem dX6_keepsAssumptions_40 : decode cX6_keepsAssumptions 40 = .ok (.invokevirtual 58, 3) := by decide +kernel
theorem dX6_keepsAssumptions_43 : decode cX6_keepsAssumptions 43 = .ok (.ifCond .ne 5, 3) := by decide +kernel
theorem dX6_keepsAssumptions_46 : decode cX6_keepsAssumptions 46 = .ok (.iconst 0, 1) := by decide +kernel
theorem dX6_keepsAssumptions_47 : decode cX6_keepsAssumptions 47 = .ok (.ireturn, 1) := by decide +kernel
theorem dX6_keepsAssumptions_48 : decode cX6_keepsAssumptions 48 = .ok (.iinc 3 1, 3) := by decide +kernel
theorem dX6_keepsAssumptions_51 : decode cX6_keepsAssumptions 51 = .ok (.goto (-49), 3) := by decide +kernel
theorem dX6_keepsAssumptions_54 : decode cX6_keepsAssumptions 54 = .ok (.iconst 1, 1) := by decide +kernel
theorem dX6_keepsAssumptions_55 : decode cX6_keepsAssumptions 55 = .ok (.ireturn, 1) := by decide +kernel
theorem dX6_firstProof_0 : decode cX6_firstProof 0 = .ok (.iconst 0, 1) := by decide +kernel
theorem dX6_firstProof_1 : decode cX6_firstProof 1 = .ok (.istore_n 2, 1) := by decide +kernel
theorem dX6_firstProof_2 : decode cX6_firstProof 2 = .ok (.iload_n 2, 1) := by decide +kernel
theorem dX6_firstProof_3 : decode cX6_firstProof 3 = .ok (.sipush 200, 3) := by decide +kernel
theorem dX6_firstProof_6 : decode cX6_firstProof 6 = .ok (.if_icmp .ge 50, 3) := by decide +kernel
theorem dX6_firstProof_9 : decode cX6_firstProof 9 = .ok (.iload_n 2, 1) := by decide +kernel
theorem dX6_firstProof_10 : decode cX6_firstProof 10 = .ok (.aload_n 0, 1) := by decide +kernel
theorem dX6_firstProof_11 : decode cX6_firstProof 11 = .ok (.getfield 26, 3) := by decide +kernel
theorem dX6_firstProof_14 : decode cX6_firstProof 14 = .ok (.if_icmp .ge 42, 3) := by decide +kernel
theorem dX6_firstProof_17 : decode cX6_firstProof 17 = .ok (.aload_n 0, 1) := by decide +kernel
theorem dX6_firstProof_18 : decode cX6_firstProof 18 = .ok (.getfield 11, 3) := by decide +kernel
theorem dX6_firstProof_21 : decode cX6_firstProof 21 = .ok (.iload_n 2, 1) := by decide +kernel
theorem dX6_firstProof_22 : decode cX6_firstProof 22 = .ok (.aaload, 1) := by decide +kernel
theorem dX6_firstProof_23 : decode cX6_firstProof 23 = .ok (.astore_n 3, 1) := by decide +kernel
theorem dX6_firstProof_24 : decode cX6_firstProof 24 = .ok (.aload_n 3, 1) := by decide +kernel
theorem dX6_firstProof_25 : decode cX6_firstProof 25 = .ok (.getfield 50, 3) := by decide +kernel
theorem dX6_firstProof_28 : decode cX6_firstProof 28 = .ok (.lconst 0, 1) := by decide +kernel
theorem dX6_firstProof_29 : decode cX6_firstProof 29 = .ok (.lcmp, 1) := by decide +kernel
theorem dX6_firstProof_30 : decode cX6_firstProof 30 = .ok (.ifCond .ne 20, 3) := by decide +kernel
theorem dX6_firstProof_33 : decode cX6_firstProof 33 = .ok (.aload_n 3, 1) := by decide +kernel
theorem dX6_firstProof_34 : decode cX6_firstProof 34 = .ok (.getfield 62, 3) := by decide +kernel
theorem dX6_firstProof_37 : decode cX6_firstProof 37 = .ok (.iload_n 1, 1) := by decide +kernel
theorem dX6_firstProof_38 : decode cX6_firstProof 38 = .ok (.if_icmp .ne 12, 3) := by decide +kernel
theorem dX6_firstProof_41 : decode cX6_firstProof 41 = .ok (.aload_n 3, 1) := by decide +kernel
theorem dX6_firstProof_42 : decode cX6_firstProof 42 = .ok (.invokevirtual 66, 3) := by decide +kernel
theorem dX6_firstProof_45 : decode cX6_firstProof 45 = .ok (.ifCond .eq 5, 3) := by decide +kernel
theorem dX6_firstProof_48 : decode cX6_firstProof 48 = .ok (.iload_n 2, 1) := by decide +kernel
theorem dX6_firstProof_49 : decode cX6_firstProof 49 = .ok (.ireturn, 1) := by decide +kernel
theorem dX6_firstProof_50 : decode cX6_firstProof 50 = .ok (.iinc 2 1, 3) := by decide +kernel
theorem dX6_firstProof_53 : decode cX6_firstProof 53 = .ok (.goto (-51), 3) := by decide +kernel
theorem dX6_firstProof_56 : decode cX6_firstProof 56 = .ok (.iconst (-1), 1) := by decide +kernel
theorem dX6_firstProof_57 : decode cX6_firstProof 57 = .ok (.ireturn, 1) := by decide +kernel
theorem dX6_greatestBound_0 : decode cX6_greatestBound 0 = .ok (.ldc2_w 69, 3) := by decide +kernel
theorem dX6_greatestBound_3 : decode cX6_greatestBound 3 = .ok (.lstore_n 2, 1) := by decide +kernel
theorem dX6_greatestBound_4 : decode cX6_greatestBound 4 = .ok (.iconst 0, 1) := by decide +kernel
theorem dX6_greatestBound_5 : decode cX6_greatestBound 5 = .ok (.istore 4, 2) := by decide +kernel
theorem dX6_greatestBound_7 : decode cX6_greatestBound 7 = .ok (.iload 4, 2) := by decide +kernel
theorem dX6_greatestBound_9 : decode cX6_greatestBound 9 = .ok (.sipush 200, 3) := by decide +kernel
theorem dX6_greatestBound_12 : decode cX6_greatestBound 12 = .ok (.if_icmp .ge 34, 3) := by decide +kernel
theorem dX6_greatestBound_15 : decode cX6_greatestBound 15 = .ok (.iload 4, 2) := by decide +kernel
theorem dX6_greatestBound_17 : decode cX6_greatestBound 17 = .ok (.aload_n 0, 1) := by decide +kernel
theorem dX6_greatestBound_18 : decode cX6_greatestBound 18 = .ok (.getfield 26, 3) := by decide +kernel
theorem dX6_greatestBound_21 : decode cX6_greatestBound 21 = .ok (.if_icmp .ge 25, 3) := by decide +kernel
theorem dX6_greatestBound_24 : decode cX6_greatestBound 24 = .ok (.lload_n 2, 1) := by decide +kernel
theorem dX6_greatestBound_25 : decode cX6_greatestBound 25 = .ok (.aload_n 0, 1) := by decide +kernel
theorem dX6_greatestBound_26 : decode cX6_greatestBound 26 = .ok (.getfield 11, 3) := by decide +kernel
theorem dX6_greatestBound_29 : decode cX6_greatestBound 29 = .ok (.iload 4, 2) := by decide +kernel
theorem dX6_greatestBound_31 : decode cX6_greatestBound 31 = .ok (.aaload, 1) := by decide +kernel
theorem dX6_greatestBound_32 : decode cX6_greatestBound 32 = .ok (.aload_n 1, 1) := by decide +kernel
theorem dX6_greatestBound_33 : decode cX6_greatestBound 33 = .ok (.invokevirtual 71, 3) := by decide +kernel
theorem dX6_greatestBound_36 : decode cX6_greatestBound 36 = .ok (.invokestatic 75, 3) := by decide +kernel
theorem dX6_greatestBound_39 : decode cX6_greatestBound 39 = .ok (.lstore_n 2, 1) := by decide +kernel
theorem dX6_greatestBound_40 : decode cX6_greatestBound 40 = .ok (.iinc 4 1, 3) := by decide +kernel
theorem dX6_greatestBound_43 : decode cX6_greatestBound 43 = .ok (.goto (-36), 3) := by decide +kernel
theorem dX6_greatestBound_46 : decode cX6_greatestBound 46 = .ok (.lload_n 2, 1) := by decide +kernel
theorem dX6_greatestBound_47 : decode cX6_greatestBound 47 = .ok (.lreturn, 1) := by decide +kernel
theorem dX7_init_0 : decode cX7_init 0 = .ok (.aload_n 0, 1) := by decide +kernel
theorem dX7_init_1 : decode cX7_init 1 = .ok (.invokespecial 3, 3) := by decide +kernel
theorem dX7_init_4 : decode cX7_init 4 = .ok (.aload_n 0, 1) := by decide +kernel
theorem dX7_init_5 : decode cX7_init 5 = .ok (.sipush 1000, 3) := by decide +kernel
theorem dX7_init_8 : decode cX7_init 8 = .ok (.newarray .int, 2) := by decide +kernel
theorem dX7_init_10 : decode cX7_init 10 = .ok (.putfield 9, 3) := by decide +kernel
theorem dX7_init_13 : decode cX7_init 13 = .ok (.return_, 1) := by decide +kernel
theorem dX7_hasRoomFor_0 : decode cX7_hasRoomFor 0 = .ok (.iload_n 1, 1) := by decide +kernel
theorem dX7_hasRoomFor_1 : decode cX7_hasRoomFor 1 = .ok (.aload_n 0, 1) := by decide +kernel
theorem dX7_hasRoomFor_2 : decode cX7_hasRoomFor 2 = .ok (.getfield 9, 3) := by decide +kernel
theorem dX7_hasRoomFor_5 : decode cX7_hasRoomFor 5 = .ok (.arraylength, 1) := by decide +kernel
theorem dX7_hasRoomFor_6 : decode cX7_hasRoomFor 6 = .ok (.aload_n 0, 1) := by decide +kernel
theorem dX7_hasRoomFor_7 : decode cX7_hasRoomFor 7 = .ok (.getfield 15, 3) := by decide +kernel
theorem dX7_hasRoomFor_10 : decode cX7_hasRoomFor 10 = .ok (.isub, 1) := by decide +kernel
theorem dX7_hasRoomFor_11 : decode cX7_hasRoomFor 11 = .ok (.if_icmp .gt 7, 3) := by decide +kernel
theorem dX7_hasRoomFor_14 : decode cX7_hasRoomFor 14 = .ok (.iconst 1, 1) := by decide +kernel
theorem dX7_hasRoomFor_15 : decode cX7_hasRoomFor 15 = .ok (.goto 4, 3) := by decide +kernel
theorem dX7_hasRoomFor_18 : decode cX7_hasRoomFor 18 = .ok (.iconst 0, 1) := by decide +kernel
theorem dX7_hasRoomFor_19 : decode cX7_hasRoomFor 19 = .ok (.ireturn, 1) := by decide +kernel
theorem dX7_append_0 : decode cX7_append 0 = .ok (.aload_n 0, 1) := by decide +kernel
theorem dX7_append_1 : decode cX7_append 1 = .ok (.getfield 15, 3) := by decide +kernel
theorem dX7_append_4 : decode cX7_append 4 = .ok (.ifCond .lt 35, 3) := by decide +kernel
theorem dX7_append_7 : decode cX7_append 7 = .ok (.aload_n 0, 1) := by decide +kernel
theorem dX7_append_8 : decode cX7_append 8 = .ok (.getfield 15, 3) := by decide +kernel
theorem dX7_append_11 : decode cX7_append 11 = .ok (.aload_n 0, 1) := by decide +kernel
theorem dX7_append_12 : decode cX7_append 12 = .ok (.getfield 9, 3) := by decide +kernel
theorem dX7_append_15 : decode cX7_append 15 = .ok (.arraylength, 1) := by decide +kernel
theorem dX7_append_16 : decode cX7_append 16 = .ok (.if_icmp .ge 23, 3) := by decide +kernel
theorem dX7_append_19 : decode cX7_append 19 = .ok (.aload_n 0, 1) := by decide +kernel
theorem dX7_append_20 : decode cX7_append 20 = .ok (.getfield 9, 3) := by decide +kernel
theorem dX7_append_23 : decode cX7_append 23 = .ok (.aload_n 0, 1) := by decide +kernel
theorem dX7_append_24 : decode cX7_append 24 = .ok (.getfield 15, 3) := by decide +kernel
theorem dX7_append_27 : decode cX7_append 27 = .ok (.iload_n 1, 1) := by decide +kernel
theorem dX7_append_28 : decode cX7_append 28 = .ok (.iastore, 1) := by decide +kernel
theorem dX7_append_29 : decode cX7_append 29 = .ok (.aload_n 0, 1) := by decide +kernel
theorem dX7_append_30 : decode cX7_append 30 = .ok (.dup, 1) := by decide +kernel
theorem dX7_append_31 : decode cX7_append 31 = .ok (.getfield 15, 3) := by decide +kernel
theorem dX7_append_34 : decode cX7_append 34 = .ok (.iconst 1, 1) := by decide +kernel
theorem dX7_append_35 : decode cX7_append 35 = .ok (.iadd, 1) := by decide +kernel
theorem dX7_append_36 : decode cX7_append 36 = .ok (.putfield 15, 3) := by decide +kernel
theorem dX7_append_39 : decode cX7_append 39 = .ok (.return_, 1) := by decide +kernel
theorem dX7_clear_0 : decode cX7_clear 0 = .ok (.aload_n 0, 1) := by decide +kernel
theorem dX7_clear_1 : decode cX7_clear 1 = .ok (.iconst 0, 1) := by decide +kernel
theorem dX7_clear_2 : decode cX7_clear 2 = .ok (.putfield 15, 3) := by decide +kernel
theorem dX7_clear_5 : decode cX7_clear 5 = .ok (.return_, 1) := by decide +kernel
theorem dX7_at_0 : decode cX7_at 0 = .ok (.iload_n 1, 1) := by decide +kernel
theorem dX7_at_1 : decode cX7_at 1 = .ok (.ifCond .lt 29, 3) := by decide +kernel
theorem dX7_at_4 : decode cX7_at 4 = .ok (.iload_n 1, 1) := by decide +kernel
theorem dX7_at_5 : decode cX7_at 5 = .ok (.aload_n 0, 1) := by decide +kernel
theorem dX7_at_6 : decode cX7_at 6 = .ok (.getfield 15, 3) := by decide +kernel
theorem dX7_at_9 : decode cX7_at 9 = .ok (.if_icmp .ge 21, 3) := by decide +kernel
theorem dX7_at_12 : decode cX7_at 12 = .ok (.iload_n 1, 1) := by decide +kernel
theorem dX7_at_13 : decode cX7_at 13 = .ok (.aload_n 0, 1) := by decide +kernel
theorem dX7_at_14 : decode cX7_at 14 = .ok (.getfield 9, 3) := by decide +kernel
theorem dX7_at_17 : decode cX7_at 17 = .ok (.arraylength, 1) := by decide +kernel
theorem dX7_at_18 : decode cX7_at 18 = .ok (.if_icmp .ge 12, 3) := by decide +kernel
theorem dX7_at_21 : decode cX7_at 21 = .ok (.aload_n 0, 1) := by decide +kernel
theorem dX7_at_22 : decode cX7_at 22 = .ok (.getfield 9, 3) := by decide +kernel
theorem dX7_at_25 : decode cX7_at 25 = .ok (.iload_n 1, 1) := by decide +kernel
theorem dX7_at_26 : decode cX7_at 26 = .ok (.iaload, 1) := by decide +kernel
theorem dX7_at_27 : decode cX7_at 27 = .ok (.goto 4, 3) := by decide +kernel
theorem dX7_at_30 : decode cX7_at 30 = .ok (.iconst 0, 1) := by decide +kernel
theorem dX7_at_31 : decode cX7_at 31 = .ok (.ireturn, 1) := by decide +kernel
theorem dX7_rewind_0 : decode cX7_rewind 0 = .ok (.aload_n 0, 1) := by decide +kernel
theorem dX7_rewind_1 : decode cX7_rewind 1 = .ok (.iconst 0, 1) := by decide +kernel
theorem dX7_rewind_2 : decode cX7_rewind 2 = .ok (.putfield 19, 3) := by decide +kernel
theorem dX7_rewind_5 : decode cX7_rewind 5 = .ok (.aload_n 0, 1) := by decide +kernel
theorem dX7_rewind_6 : decode cX7_rewind 6 = .ok (.iconst 1, 1) := by decide +kernel
theorem dX7_rewind_7 : decode cX7_rewind 7 = .ok (.putfield 22, 3) := by decide +kernel
theorem dX7_rewind_10 : decode cX7_rewind 10 = .ok (.return_, 1) := by decide +kernel
theorem dX7_next_0 : decode cX7_next 0 = .ok (.aload_n 0, 1) := by decide +kernel
theorem dX7_next_1 : decode cX7_next 1 = .ok (.getfield 22, 3) := by decide +kernel
theorem dX7_next_4 : decode cX7_next 4 = .ok (.ifCond .ne 5, 3) := by decide +kernel
theorem dX7_next_7 : decode cX7_next 7 = .ok (.iload_n 1, 1) := by decide +kernel
theorem dX7_next_8 : decode cX7_next 8 = .ok (.ireturn, 1) := by decide +kernel
theorem dX7_next_9 : decode cX7_next 9 = .ok (.aload_n 0, 1) := by decide +kernel
theorem dX7_next_10 : decode cX7_next 10 = .ok (.getfield 19, 3) := by decide +kernel
theorem dX7_next_13 : decode cX7_next 13 = .ok (.aload_n 0, 1) := by decide +kernel
theorem dX7_next_14 : decode cX7_next 14 = .ok (.getfield 15, 3) := by decide +kernel
theorem dX7_next_17 : decode cX7_next 17 = .ok (.if_icmp .ge 19, 3) := by decide +kernel
theorem dX7_next_20 : decode cX7_next 20 = .ok (.aload_n 0, 1) := by decide +kernel
theorem dX7_next_21 : decode cX7_next 21 = .ok (.aload_n 0, 1) := by decide +kernel
theorem dX7_next_22 : decode cX7_next 22 = .ok (.getfield 19, 3) := by decide +kernel
theorem dX7_next_25 : decode cX7_next 25 = .ok (.invokevirtual 26, 3) := by decide +kernel
theorem dX7_next_28 : decode cX7_next 28 = .ok (.iload_n 1, 1) := by decide +kernel
theorem dX7_next_29 : decode cX7_next 29 = .ok (.iload_n 2, 1) := by decide +kernel
theorem dX7_next_30 : decode cX7_next 30 = .ok (.invokestatic 30, 3) := by decide +kernel
theorem dX7_next_33 : decode cX7_next 33 = .ok (.ifCond .ne 10, 3) := by decide +kernel
theorem dX7_next_36 : decode cX7_next 36 = .ok (.aload_n 0, 1) := by decide +kernel
theorem dX7_next_37 : decode cX7_next 37 = .ok (.iconst 0, 1) := by decide +kernel
theorem dX7_next_38 : decode cX7_next 38 = .ok (.putfield 22, 3) := by decide +kernel
theorem dX7_next_41 : decode cX7_next 41 = .ok (.iload_n 1, 1) := by decide +kernel
theorem dX7_next_42 : decode cX7_next 42 = .ok (.ireturn, 1) := by decide +kernel
theorem dX7_next_43 : decode cX7_next 43 = .ok (.aload_n 0, 1) := by decide +kernel
theorem dX7_next_44 : decode cX7_next 44 = .ok (.aload_n 0, 1) := by decide +kernel
theorem dX7_next_45 : decode cX7_next 45 = .ok (.getfield 19, 3) := by decide +kernel
theorem dX7_next_48 : decode cX7_next 48 = .ok (.invokevirtual 26, 3) := by decide +kernel
theorem dX7_next_51 : decode cX7_next 51 = .ok (.istore_n 3, 1) := by decide +kernel
theorem dX7_next_52 : decode cX7_next 52 = .ok (.aload_n 0, 1) := by decide +kernel
theorem dX7_next_53 : decode cX7_next 53 = .ok (.dup, 1) := by decide +kernel
theorem dX7_next_54 : decode cX7_next 54 = .ok (.getfield 19, 3) := by decide +kernel
theorem dX7_next_57 : decode cX7_next 57 = .ok (.iconst 1, 1) := by decide +kernel
theorem dX7_next_58 : decode cX7_next 58 = .ok (.iadd, 1) := by decide +kernel
theorem dX7_next_59 : decode cX7_next 59 = .ok (.putfield 19, 3) := by decide +kernel
theorem dX7_next_62 : decode cX7_next 62 = .ok (.iload_n 3, 1) := by decide +kernel
theorem dX7_next_63 : decode cX7_next 63 = .ok (.ireturn, 1) := by decide +kernel
theorem dX7_nextBut_0 : decode cX7_nextBut 0 = .ok (.aload_n 0, 1) := by decide +kernel
theorem dX7_nextBut_1 : decode cX7_nextBut 1 = .ok (.getfield 19, 3) := by decide +kernel
theorem dX7_nextBut_4 : decode cX7_nextBut 4 = .ok (.aload_n 0, 1) := by decide +kernel
theorem dX7_nextBut_5 : decode cX7_nextBut 5 = .ok (.getfield 15, 3) := by decide +kernel
theorem dX7_nextBut_8 : decode cX7_nextBut 8 = .ok (.if_icmp .ge 20, 3) := by decide +kernel
theorem dX7_nextBut_11 : decode cX7_nextBut 11 = .ok (.aload_n 0, 1) := by decide +kernel
theorem dX7_nextBut_12 : decode cX7_nextBut 12 = .ok (.aload_n 0, 1) := by decide +kernel
theorem dX7_nextBut_13 : decode cX7_nextBut 13 = .ok (.getfield 19, 3) := by decide +kernel
theorem dX7_nextBut_16 : decode cX7_nextBut 16 = .ok (.invokevirtual 26, 3) := by decide +kernel
theorem dX7_nextBut_19 : decode cX7_nextBut 19 = .ok (.iload_n 1, 1) := by decide +kernel
theorem dX7_nextBut_20 : decode cX7_nextBut 20 = .ok (.if_icmp .ne 8, 3) := by decide +kernel
theorem dX7_nextBut_23 : decode cX7_nextBut 23 = .ok (.aload_n 0, 1) := by decide +kernel
theorem dX7_nextBut_24 : decode cX7_nextBut 24 = .ok (.iconst 0, 1) := by decide +kernel
theorem dX7_nextBut_25 : decode cX7_nextBut 25 = .ok (.putfield 22, 3) := by decide +kernel
theorem dX7_nextBut_28 : decode cX7_nextBut 28 = .ok (.aload_n 0, 1) := by decide +kernel
theorem dX7_nextBut_29 : decode cX7_nextBut 29 = .ok (.iload_n 2, 1) := by decide +kernel
theorem dX7_nextBut_30 : decode cX7_nextBut 30 = .ok (.iload_n 3, 1) := by decide +kernel
theorem dX7_nextBut_31 : decode cX7_nextBut 31 = .ok (.invokevirtual 36, 3) := by decide +kernel
theorem dX7_nextBut_34 : decode cX7_nextBut 34 = .ok (.ireturn, 1) := by decide +kernel
theorem dX7_isReadWhole_0 : decode cX7_isReadWhole 0 = .ok (.aload_n 0, 1) := by decide +kernel
theorem dX7_isReadWhole_1 : decode cX7_isReadWhole 1 = .ok (.getfield 22, 3) := by decide +kernel
theorem dX7_isReadWhole_4 : decode cX7_isReadWhole 4 = .ok (.ifCond .eq 18, 3) := by decide +kernel
theorem dX7_isReadWhole_7 : decode cX7_isReadWhole 7 = .ok (.aload_n 0, 1) := by decide +kernel
theorem dX7_isReadWhole_8 : decode cX7_isReadWhole 8 = .ok (.getfield 19, 3) := by decide +kernel
theorem dX7_isReadWhole_11 : decode cX7_isReadWhole 11 = .ok (.aload_n 0, 1) := by decide +kernel
theorem dX7_isReadWhole_12 : decode cX7_isReadWhole 12 = .ok (.getfield 15, 3) := by decide +kernel
theorem dX7_isReadWhole_15 : decode cX7_isReadWhole 15 = .ok (.if_icmp .ne 7, 3) := by decide +kernel
theorem dX7_isReadWhole_18 : decode cX7_isReadWhole 18 = .ok (.iconst 1, 1) := by decide +kernel
theorem dX7_isReadWhole_19 : decode cX7_isReadWhole 19 = .ok (.goto 4, 3) := by decide +kernel
theorem dX7_isReadWhole_22 : decode cX7_isReadWhole 22 = .ok (.iconst 0, 1) := by decide +kernel
theorem dX7_isReadWhole_23 : decode cX7_isReadWhole 23 = .ok (.ireturn, 1) := by decide +kernel
theorem dX7_isPlanOf_0 : decode cX7_isPlanOf 0 = .ok (.aload_n 0, 1) := by decide +kernel
theorem dX7_isPlanOf_1 : decode cX7_isPlanOf 1 = .ok (.invokevirtual 40, 3) := by decide +kernel
theorem dX7_isPlanOf_4 : decode cX7_isPlanOf 4 = .ok (.iconst 0, 1) := by decide +kernel
theorem dX7_isPlanOf_5 : decode cX7_isPlanOf 5 = .ok (.istore_n 2, 1) := by decide +kernel
theorem dX7_isPlanOf_6 : decode cX7_isPlanOf 6 = .ok (.iload_n 2, 1) := by decide +kernel
theorem dX7_isPlanOf_7 : decode cX7_isPlanOf 7 = .ok (.iload_n 1, 1) := by decide +kernel
theorem dX7_isPlanOf_8 : decode cX7_isPlanOf 8 = .ok (.if_icmp .ge 18, 3) := by decide +kernel
theorem dX7_isPlanOf_11 : decode cX7_isPlanOf 11 = .ok (.aload_n 0, 1) := by decide +kernel
theorem dX7_isPlanOf_12 : decode cX7_isPlanOf 12 = .ok (.ldc 43, 2) := by decide +kernel
theorem dX7_isPlanOf_14 : decode cX7_isPlanOf 14 = .ok (.ldc 44, 2) := by decide +kernel
theorem dX7_isPlanOf_16 : decode cX7_isPlanOf 16 = .ok (.invokevirtual 36, 3) := by decide +kernel
theorem dX7_isPlanOf_19 : decode cX7_isPlanOf 19 = .ok (.pop, 1) := by decide +kernel
theorem dX7_isPlanOf_20 : decode cX7_isPlanOf 20 = .ok (.iinc 2 1, 3) := by decide +kernel
theorem dX7_isPlanOf_23 : decode cX7_isPlanOf 23 = .ok (.goto (-17), 3) := by decide +kernel
theorem dX7_isPlanOf_26 : decode cX7_isPlanOf 26 = .ok (.aload_n 0, 1) := by decide +kernel
theorem dX7_isPlanOf_27 : decode cX7_isPlanOf 27 = .ok (.invokevirtual 45, 3) := by decide +kernel
theorem dX7_isPlanOf_30 : decode cX7_isPlanOf 30 = .ok (.ireturn, 1) := by decide +kernel
theorem dX7_digestOfAll_0 : decode cX7_digestOfAll 0 = .ok (.bipush 17, 2) := by decide +kernel
theorem dX7_digestOfAll_2 : decode cX7_digestOfAll 2 = .ok (.istore_n 1, 1) := by decide +kernel
theorem dX7_digestOfAll_3 : decode cX7_digestOfAll 3 = .ok (.iconst 0, 1) := by decide +kernel
theorem dX7_digestOfAll_4 : decode cX7_digestOfAll 4 = .ok (.istore_n 2, 1) := by decide +kernel
theorem dX7_digestOfAll_5 : decode cX7_digestOfAll 5 = .ok (.iload_n 2, 1) := by decide +kernel
theorem dX7_digestOfAll_6 : decode cX7_digestOfAll 6 = .ok (.aload_n 0, 1) := by decide +kernel
theorem dX7_digestOfAll_7 : decode cX7_digestOfAll 7 = .ok (.getfield 15, 3) := by decide +kernel
theorem dX7_digestOfAll_10 : decode cX7_digestOfAll 10 = .ok (.if_icmp .ge 20, 3) := by decide +kernel
theorem dX7_digestOfAll_13 : decode cX7_digestOfAll 13 = .ok (.bipush 31, 2) := by decide +kernel
theorem dX7_digestOfAll_15 : decode cX7_digestOfAll 15 = .ok (.iload_n 1, 1) := by decide +kernel
theorem dX7_digestOfAll_16 : decode cX7_digestOfAll 16 = .ok (.imul, 1) := by decide +kernel
theorem dX7_digestOfAll_17 : decode cX7_digestOfAll 17 = .ok (.aload_n 0, 1) := by decide +kernel
theorem dX7_digestOfAll_18 : decode cX7_digestOfAll 18 = .ok (.iload_n 2, 1) := by decide +kernel
theorem dX7_digestOfAll_19 : decode cX7_digestOfAll 19 = .ok (.invokevirtual 26, 3) := by decide +kernel
theorem dX7_digestOfAll_22 : decode cX7_digestOfAll 22 = .ok (.iadd, 1) := by decide +kernel
theorem dX7_digestOfAll_23 : decode cX7_digestOfAll 23 = .ok (.istore_n 1, 1) := by decide +kernel
theorem dX7_digestOfAll_24 : decode cX7_digestOfAll 24 = .ok (.iinc 2 1, 3) := by decide +kernel
theorem dX7_digestOfAll_27 : decode cX7_digestOfAll 27 = .ok (.goto (-22), 3) := by decide +kernel
theorem dX7_digestOfAll_30 : decode cX7_digestOfAll 30 = .ok (.iload_n 1, 1) := by decide +kernel
theorem dX7_digestOfAll_31 : decode cX7_digestOfAll 31 = .ok (.ireturn, 1) := by decide +kernel
theorem dX8_init_0 : decode cX8_init 0 = .ok (.aload_n 0, 1) := by decide +kernel
theorem dX8_init_1 : decode cX8_init 1 = .ok (.invokespecial 3, 3) := by decide +kernel
theorem dX8_init_4 : decode cX8_init 4 = .ok (.aload_n 0, 1) := by decide +kernel
theorem dX8_init_5 : decode cX8_init 5 = .ok (.new 9, 3) := by decide +kernel
theorem dX8_init_8 : decode cX8_init 8 = .ok (.dup, 1) := by decide +kernel
theorem dX8_init_9 : decode cX8_init 9 = .ok (.invokespecial 11, 3) := by decide +kernel
theorem dX8_init_12 : decode cX8_init 12 = .ok (.putfield 12, 3) := by decide +kernel
theorem dX8_init_15 : decode cX8_init 15 = .ok (.aload_n 0, 1) := by decide +kernel
theorem dX8_init_16 : decode cX8_init 16 = .ok (.new 18, 3) := by decide +kernel
theorem dX8_init_19 : decode cX8_init 19 = .ok (.dup, 1) := by decide +kernel
theorem dX8_init_20 : decode cX8_init 20 = .ok (.invokespecial 20, 3) := by decide +kernel
theorem dX8_init_23 : decode cX8_init 23 = .ok (.putfield 21, 3) := by decide +kernel
theorem dX8_init_26 : decode cX8_init 26 = .ok (.aload_n 0, 1) := by decide +kernel
theorem dX8_init_27 : decode cX8_init 27 = .ok (.new 25, 3) := by decide +kernel
theorem dX8_init_30 : decode cX8_init 30 = .ok (.dup, 1) := by decide +kernel
theorem dX8_init_31 : decode cX8_init 31 = .ok (.invokespecial 27, 3) := by decide +kernel
theorem dX8_init_34 : decode cX8_init 34 = .ok (.putfield 28, 3) := by decide +kernel
theorem dX8_init_37 : decode cX8_init 37 = .ok (.aload_n 0, 1) := by decide +kernel
theorem dX8_init_38 : decode cX8_init 38 = .ok (.new 32, 3) := by decide +kernel
theorem dX8_init_41 : decode cX8_init 41 = .ok (.dup, 1) := by decide +kernel
theorem dX8_init_42 : decode cX8_init 42 = .ok (.invokespecial 34, 3) := by decide +kernel
theorem dX8_init_45 : decode cX8_init 45 = .ok (.putfield 35, 3) := by decide +kernel
theorem dX8_init_48 : decode cX8_init 48 = .ok (.aload_n 0, 1) := by decide +kernel
theorem dX8_init_49 : decode cX8_init 49 = .ok (.new 32, 3) := by decide +kernel
theorem dX8_init_52 : decode cX8_init 52 = .ok (.dup, 1) := by decide +kernel
theorem dX8_init_53 : decode cX8_init 53 = .ok (.invokespecial 34, 3) := by decide +kernel
theorem dX8_init_56 : decode cX8_init 56 = .ok (.putfield 39, 3) := by decide +kernel
theorem dX8_init_59 : decode cX8_init 59 = .ok (.return_, 1) := by decide +kernel
theorem dX8_put_0 : decode cX8_put 0 = .ok (.iload_n 1, 1) := by decide +kernel
theorem dX8_put_1 : decode cX8_put 1 = .ok (.iconst 1, 1) := by decide +kernel
theorem dX8_put_2 : decode cX8_put 2 = .ok (.if_icmp .lt 8, 3) := by decide +kernel
theorem dX8_put_5 : decode cX8_put 5 = .ok (.iload_n 1, 1) := by decide +kernel
theorem dX8_put_6 : decode cX8_put 6 = .ok (.iconst 4, 1) := by decide +kernel
theorem dX8_put_7 : decode cX8_put 7 = .ok (.if_icmp .le 6, 3) := by decide +kernel
theorem dX8_put_10 : decode cX8_put 10 = .ok (.bipush (-3), 2) := by decide +kernel
theorem dX8_put_12 : decode cX8_put 12 = .ok (.ireturn, 1) := by decide +kernel
theorem dX8_put_13 : decode cX8_put 13 = .ok (.aload_n 0, 1) := by decide +kernel
theorem dX8_put_14 : decode cX8_put 14 = .ok (.getfield 12, 3) := by decide +kernel
theorem dX8_put_17 : decode cX8_put 17 = .ok (.iload_n 1, 1) := by decide +kernel
theorem dX8_put_18 : decode cX8_put 18 = .ok (.invokevirtual 42, 3) := by decide +kernel
theorem dX8_put_21 : decode cX8_put 21 = .ok (.ifCond .ne 6, 3) := by decide +kernel
theorem dX8_put_24 : decode cX8_put 24 = .ok (.bipush (-5), 2) := by decide +kernel
theorem dX8_put_26 : decode cX8_put 26 = .ok (.ireturn, 1) := by decide +kernel
theorem dX8_put_27 : decode cX8_put 27 = .ok (.aload_n 0, 1) := by decide +kernel
theorem dX8_put_28 : decode cX8_put 28 = .ok (.getfield 12, 3) := by decide +kernel
theorem dX8_put_31 : decode cX8_put 31 = .ok (.iload_n 2, 1) := by decide +kernel
theorem dX8_put_32 : decode cX8_put 32 = .ok (.invokevirtual 46, 3) := by decide +kernel
theorem dX8_put_35 : decode cX8_put 35 = .ok (.iload_n 1, 1) := by decide +kernel
theorem dX8_put_36 : decode cX8_put 36 = .ok (.iconst 1, 1) := by decide +kernel
theorem dX8_put_37 : decode cX8_put 37 = .ok (.if_icmp .le 11, 3) := by decide +kernel
theorem dX8_put_40 : decode cX8_put 40 = .ok (.aload_n 0, 1) := by decide +kernel
theorem dX8_put_41 : decode cX8_put 41 = .ok (.getfield 12, 3) := by decide +kernel
theorem dX8_put_44 : decode cX8_put 44 = .ok (.iload_n 3, 1) := by decide +kernel
theorem dX8_put_45 : decode cX8_put 45 = .ok (.invokevirtual 46, 3) := by decide +kernel
theorem dX8_put_48 : decode cX8_put 48 = .ok (.iload_n 1, 1) := by decide +kernel
theorem dX8_put_49 : decode cX8_put 49 = .ok (.iconst 2, 1) := by decide +kernel
theorem dX8_put_50 : decode cX8_put 50 = .ok (.if_icmp .le 12, 3) := by decide +kernel
theorem dX8_put_53 : decode cX8_put 53 = .ok (.aload_n 0, 1) := by decide +kernel
theorem dX8_put_54 : decode cX8_put 54 = .ok (.getfield 12, 3) := by decide +kernel
theorem dX8_put_57 : decode cX8_put 57 = .ok (.iload 4, 2) := by decide +kernel
theorem dX8_put_59 : decode cX8_put 59 = .ok (.invokevirtual 46, 3) := by decide +kernel
theorem dX8_put_62 : decode cX8_put 62 = .ok (.iload_n 1, 1) := by decide +kernel
theorem dX8_put_63 : decode cX8_put 63 = .ok (.iconst 3, 1) := by decide +kernel
theorem dX8_put_64 : decode cX8_put 64 = .ok (.if_icmp .le 12, 3) := by decide +kernel
theorem dX8_put_67 : decode cX8_put 67 = .ok (.aload_n 0, 1) := by decide +kernel
theorem dX8_put_68 : decode cX8_put 68 = .ok (.getfield 12, 3) := by decide +kernel
theorem dX8_put_71 : decode cX8_put 71 = .ok (.iload 5, 2) := by decide +kernel
theorem dX8_put_73 : decode cX8_put 73 = .ok (.invokevirtual 46, 3) := by decide +kernel
theorem dX8_put_76 : decode cX8_put 76 = .ok (.aload_n 0, 1) := by decide +kernel
theorem dX8_put_77 : decode cX8_put 77 = .ok (.getfield 12, 3) := by decide +kernel
theorem dX8_put_80 : decode cX8_put 80 = .ok (.getfield 50, 3) := by decide +kernel
theorem dX8_put_83 : decode cX8_put 83 = .ok (.ireturn, 1) := by decide +kernel
theorem dX8_drop_0 : decode cX8_drop 0 = .ok (.aload_n 0, 1) := by decide +kernel
theorem dX8_drop_1 : decode cX8_drop 1 = .ok (.getfield 12, 3) := by decide +kernel
theorem dX8_drop_4 : decode cX8_drop 4 = .ok (.getfield 50, 3) := by decide +kernel
theorem dX8_drop_7 : decode cX8_drop 7 = .ok (.istore_n 1, 1) := by decide +kernel
theorem dX8_drop_8 : decode cX8_drop 8 = .ok (.aload_n 0, 1) := by decide +kernel
theorem dX8_drop_9 : decode cX8_drop 9 = .ok (.getfield 12, 3) := by decide +kernel
theorem dX8_drop_12 : decode cX8_drop 12 = .ok (.invokevirtual 54, 3) := by decide +kernel
theorem dX8_drop_15 : decode cX8_drop 15 = .ok (.iload_n 1, 1) := by decide +kernel
theorem dX8_drop_16 : decode cX8_drop 16 = .ok (.ireturn, 1) := by decide +kernel
theorem dX8_model_0 : decode cX8_model 0 = .ok (.aload_n 0, 1) := by decide +kernel
theorem dX8_model_1 : decode cX8_model 1 = .ok (.getfield 39, 3) := by decide +kernel
theorem dX8_model_4 : decode cX8_model 4 = .ok (.aload_n 0, 1) := by decide +kernel
theorem dX8_model_5 : decode cX8_model 5 = .ok (.getfield 12, 3) := by decide +kernel
theorem dX8_model_8 : decode cX8_model 8 = .ok (.invokevirtual 57, 3) := by decide +kernel
theorem dX8_model_11 : decode cX8_model 11 = .ok (.istore_n 1, 1) := by decide +kernel
theorem dX8_model_12 : decode cX8_model 12 = .ok (.aload_n 0, 1) := by decide +kernel
theorem dX8_model_13 : decode cX8_model 13 = .ok (.getfield 12, 3) := by decide +kernel
theorem dX8_model_16 : decode cX8_model 16 = .ok (.getfield 61, 3) := by decide +kernel
theorem dX8_model_19 : decode cX8_model 19 = .ok (.istore_n 2, 1) := by decide +kernel
theorem dX8_model_20 : decode cX8_model 20 = .ok (.aload_n 0, 1) := by decide +kernel
theorem dX8_model_21 : decode cX8_model 21 = .ok (.getfield 12, 3) := by decide +kernel
theorem dX8_model_24 : decode cX8_model 24 = .ok (.invokevirtual 54, 3) := by decide +kernel
theorem dX8_model_27 : decode cX8_model 27 = .ok (.iload_n 1, 1) := by decide +kernel
theorem dX8_model_28 : decode cX8_model 28 = .ok (.ifCond .ne 8, 3) := by decide +kernel
theorem dX8_model_31 : decode cX8_model 31 = .ok (.bipush (-10), 2) := by decide +kernel
theorem dX8_model_33 : decode cX8_model 33 = .ok (.iload_n 2, 1) := by decide +kernel
theorem dX8_model_34 : decode cX8_model 34 = .ok (.isub, 1) := by decide +kernel
theorem dX8_model_35 : decode cX8_model 35 = .ok (.ireturn, 1) := by decide +kernel
theorem dX8_model_36 : decode cX8_model 36 = .ok (.aload_n 0, 1) := by decide +kernel
theorem dX8_model_37 : decode cX8_model 37 = .ok (.getfield 35, 3) := by decide +kernel
theorem dX8_model_40 : decode cX8_model 40 = .ok (.astore_n 3, 1) := by decide +kernel
theorem dX8_model_41 : decode cX8_model 41 = .ok (.aload_n 0, 1) := by decide +kernel
theorem dX8_model_42 : decode cX8_model 42 = .ok (.aload_n 0, 1) := by decide +kernel
theorem dX8_model_43 : decode cX8_model 43 = .ok (.getfield 39, 3) := by decide +kernel
theorem dX8_model_46 : decode cX8_model 46 = .ok (.putfield 35, 3) := by decide +kernel
theorem dX8_model_49 : decode cX8_model 49 = .ok (.aload_n 0, 1) := by decide +kernel
theorem dX8_model_50 : decode cX8_model 50 = .ok (.aload_n 3, 1) := by decide +kernel
theorem dX8_model_51 : decode cX8_model 51 = .ok (.putfield 39, 3) := by decide +kernel
theorem dX8_model_54 : decode cX8_model 54 = .ok (.aload_n 0, 1) := by decide +kernel
theorem dX8_model_55 : decode cX8_model 55 = .ok (.iconst 1, 1) := by decide +kernel
theorem dX8_model_56 : decode cX8_model 56 = .ok (.putfield 64, 3) := by decide +kernel
theorem dX8_model_59 : decode cX8_model 59 = .ok (.aload_n 0, 1) := by decide +kernel
theorem dX8_model_60 : decode cX8_model 60 = .ok (.getfield 21, 3) := by decide +kernel
theorem dX8_model_63 : decode cX8_model 63 = .ok (.invokevirtual 68, 3) := by decide +kernel
theorem dX8_model_66 : decode cX8_model 66 = .ok (.aload_n 0, 1) := by decide +kernel
theorem dX8_model_67 : decode cX8_model 67 = .ok (.getfield 28, 3) := by decide +kernel
theorem dX8_model_70 : decode cX8_model 70 = .ok (.invokevirtual 69, 3) := by decide +kernel
theorem dX8_model_73 : decode cX8_model 73 = .ok (.iconst 1, 1) := by decide +kernel
theorem dX8_model_74 : decode cX8_model 74 = .ok (.ireturn, 1) := by decide +kernel
theorem dX8_plan_0 : decode cX8_plan 0 = .ok (.aload_n 0, 1) := by decide +kernel
theorem dX8_plan_1 : decode cX8_plan 1 = .ok (.invokevirtual 72, 3) := by decide +kernel
theorem dX8_plan_4 : decode cX8_plan 4 = .ok (.istore_n 1, 1) := by decide +kernel
theorem dX8_plan_5 : decode cX8_plan 5 = .ok (.aload_n 0, 1) := by decide +kernel
theorem dX8_plan_6 : decode cX8_plan 6 = .ok (.getfield 12, 3) := by decide +kernel
theorem dX8_plan_9 : decode cX8_plan 9 = .ok (.invokevirtual 54, 3) := by decide +kernel
theorem dX8_plan_12 : decode cX8_plan 12 = .ok (.iload_n 1, 1) := by decide +kernel
theorem dX8_plan_13 : decode cX8_plan 13 = .ok (.ireturn, 1) := by decide +kernel
theorem dX8_tellPlan_0 : decode cX8_tellPlan 0 = .ok (.aload_n 0, 1) := by decide +kernel
theorem dX8_tellPlan_1 : decode cX8_tellPlan 1 = .ok (.getfield 64, 3) := by decide +kernel
theorem dX8_tellPlan_4 : decode cX8_tellPlan 4 = .ok (.ifCond .ne 6, 3) := by decide +kernel
theorem dX8_tellPlan_7 : decode cX8_tellPlan 7 = .ok (.bipush (-4), 2) := by decide +kernel
theorem dX8_tellPlan_9 : decode cX8_tellPlan 9 = .ok (.ireturn, 1) := by decide +kernel
theorem dX8_tellPlan_10 : decode cX8_tellPlan 10 = .ok (.aload_n 0, 1) := by decide +kernel
theorem dX8_tellPlan_11 : decode cX8_tellPlan 11 = .ok (.getfield 12, 3) := by decide +kernel
theorem dX8_tellPlan_14 : decode cX8_tellPlan 14 = .ok (.aload_n 0, 1) := by decide +kernel
theorem dX8_tellPlan_15 : decode cX8_tellPlan 15 = .ok (.getfield 35, 3) := by decide +kernel
theorem dX8_tellPlan_18 : decode cX8_tellPlan 18 = .ok (.getfield 76, 3) := by decide +kernel
theorem dX8_tellPlan_21 : decode cX8_tellPlan 21 = .ok (.invokevirtual 79, 3) := by decide +kernel
theorem dX8_tellPlan_24 : decode cX8_tellPlan 24 = .ok (.ifCond .ne 6, 3) := by decide +kernel
theorem dX8_tellPlan_27 : decode cX8_tellPlan 27 = .ok (.bipush (-3), 2) := by decide +kernel
theorem dX8_tellPlan_29 : decode cX8_tellPlan 29 = .ok (.ireturn, 1) := by decide +kernel
theorem dX8_tellPlan_30 : decode cX8_tellPlan 30 = .ok (.aload_n 0, 1) := by decide +kernel
theorem dX8_tellPlan_31 : decode cX8_tellPlan 31 = .ok (.getfield 21, 3) := by decide +kernel
theorem dX8_tellPlan_34 : decode cX8_tellPlan 34 = .ok (.aload_n 0, 1) := by decide +kernel
theorem dX8_tellPlan_35 : decode cX8_tellPlan 35 = .ok (.getfield 12, 3) := by decide +kernel
theorem dX8_tellPlan_38 : decode cX8_tellPlan 38 = .ok (.aload_n 0, 1) := by decide +kernel
theorem dX8_tellPlan_39 : decode cX8_tellPlan 39 = .ok (.getfield 35, 3) := by decide +kernel
theorem dX8_tellPlan_42 : decode cX8_tellPlan 42 = .ok (.getfield 76, 3) := by decide +kernel
theorem dX8_tellPlan_45 : decode cX8_tellPlan 45 = .ok (.invokevirtual 82, 3) := by decide +kernel
theorem dX8_tellPlan_48 : decode cX8_tellPlan 48 = .ok (.ireturn, 1) := by decide +kernel
theorem dX8_breaks_0 : decode cX8_breaks 0 = .ok (.aload_n 0, 1) := by decide +kernel
theorem dX8_breaks_1 : decode cX8_breaks 1 = .ok (.getfield 21, 3) := by decide +kernel
theorem dX8_breaks_4 : decode cX8_breaks 4 = .ok (.iload_n 1, 1) := by decide +kernel
theorem dX8_breaks_5 : decode cX8_breaks 5 = .ok (.invokevirtual 86, 3) := by decide +kernel
theorem dX8_breaks_8 : decode cX8_breaks 8 = .ok (.ifCond .ne 6, 3) := by decide +kernel
theorem dX8_breaks_11 : decode cX8_breaks 11 = .ok (.bipush (-2), 2) := by decide +kernel
theorem dX8_breaks_13 : decode cX8_breaks 13 = .ok (.ireturn, 1) := by decide +kernel
theorem dX8_breaks_14 : decode cX8_breaks 14 = .ok (.aload_n 0, 1) := by decide +kernel
theorem dX8_breaks_15 : decode cX8_breaks 15 = .ok (.getfield 35, 3) := by decide +kernel
theorem dX8_breaks_18 : decode cX8_breaks 18 = .ok (.aload_n 0, 1) := by decide +kernel
theorem dX8_breaks_19 : decode cX8_breaks 19 = .ok (.getfield 21, 3) := by decide +kernel
theorem dX8_breaks_22 : decode cX8_breaks 22 = .ok (.iload_n 1, 1) := by decide +kernel
theorem dX8_breaks_23 : decode cX8_breaks 23 = .ok (.invokevirtual 89, 3) := by decide +kernel
theorem dX8_breaks_26 : decode cX8_breaks 26 = .ok (.invokevirtual 93, 3) := by decide +kernel
theorem dX8_breaks_29 : decode cX8_breaks 29 = .ok (.ireturn, 1) := by decide +kernel
theorem dX8_cost_0 : decode cX8_cost 0 = .ok (.aload_n 0, 1) := by decide +kernel
theorem dX8_cost_1 : decode cX8_cost 1 = .ok (.getfield 21, 3) := by decide +kernel
theorem dX8_cost_4 : decode cX8_cost 4 = .ok (.iload_n 1, 1) := by decide +kernel
theorem dX8_cost_5 : decode cX8_cost 5 = .ok (.invokevirtual 86, 3) := by decide +kernel
theorem dX8_cost_8 : decode cX8_cost 8 = .ok (.ifCond .ne 13, 3) := by decide +kernel
theorem dX8_cost_11 : decode cX8_cost 11 = .ok (.new 97, 3) := by decide +kernel
theorem dX8_cost_14 : decode cX8_cost 14 = .ok (.dup, 1) := by decide +kernel
theorem dX8_cost_15 : decode cX8_cost 15 = .ok (.ldc 99, 2) := by decide +kernel
theorem dX8_cost_17 : decode cX8_cost 17 = .ok (.invokespecial 101, 3) := by decide +kernel
theorem dX8_cost_20 : decode cX8_cost 20 = .ok (.athrow, 1) := by decide +kernel
theorem dX8_cost_21 : decode cX8_cost 21 = .ok (.aload_n 0, 1) := by decide +kernel
theorem dX8_cost_22 : decode cX8_cost 22 = .ok (.getfield 35, 3) := by decide +kernel
theorem dX8_cost_25 : decode cX8_cost 25 = .ok (.aload_n 0, 1) := by decide +kernel
theorem dX8_cost_26 : decode cX8_cost 26 = .ok (.getfield 21, 3) := by decide +kernel
theorem dX8_cost_29 : decode cX8_cost 29 = .ok (.iload_n 1, 1) := by decide +kernel
theorem dX8_cost_30 : decode cX8_cost 30 = .ok (.invokevirtual 89, 3) := by decide +kernel
theorem dX8_cost_33 : decode cX8_cost 33 = .ok (.invokevirtual 104, 3) := by decide +kernel
theorem dX8_cost_36 : decode cX8_cost 36 = .ok (.lreturn, 1) := by decide +kernel
theorem dX8_digest_0 : decode cX8_digest 0 = .ok (.aload_n 0, 1) := by decide +kernel
theorem dX8_digest_1 : decode cX8_digest 1 = .ok (.getfield 64, 3) := by decide +kernel
theorem dX8_digest_4 : decode cX8_digest 4 = .ok (.ifCond .eq 13, 3) := by decide +kernel
theorem dX8_digest_7 : decode cX8_digest 7 = .ok (.aload_n 0, 1) := by decide +kernel
theorem dX8_digest_8 : decode cX8_digest 8 = .ok (.getfield 35, 3) := by decide +kernel
theorem dX8_digest_11 : decode cX8_digest 11 = .ok (.getfield 108, 3) := by decide +kernel
theorem dX8_digest_14 : decode cX8_digest 14 = .ok (.goto 4, 3) := by decide +kernel
theorem dX8_digest_17 : decode cX8_digest 17 = .ok (.iconst 0, 1) := by decide +kernel
theorem dX8_digest_18 : decode cX8_digest 18 = .ok (.ireturn, 1) := by decide +kernel
theorem dX8_begin_0 : decode cX8_begin 0 = .ok (.aload_n 0, 1) := by decide +kernel
theorem dX8_begin_1 : decode cX8_begin 1 = .ok (.getfield 64, 3) := by decide +kernel
theorem dX8_begin_4 : decode cX8_begin 4 = .ok (.ifCond .ne 6, 3) := by decide +kernel
theorem dX8_begin_7 : decode cX8_begin 7 = .ok (.bipush (-4), 2) := by decide +kernel
theorem dX8_begin_9 : decode cX8_begin 9 = .ok (.ireturn, 1) := by decide +kernel
theorem dX8_begin_10 : decode cX8_begin 10 = .ok (.aload_n 0, 1) := by decide +kernel
theorem dX8_begin_11 : decode cX8_begin 11 = .ok (.getfield 28, 3) := by decide +kernel
theorem dX8_begin_14 : decode cX8_begin 14 = .ok (.getfield 111, 3) := by decide +kernel
theorem dX8_begin_17 : decode cX8_begin 17 = .ok (.istore_n 1, 1) := by decide +kernel
theorem dX8_begin_18 : decode cX8_begin 18 = .ok (.aload_n 0, 1) := by decide +kernel
theorem dX8_begin_19 : decode cX8_begin 19 = .ok (.getfield 28, 3) := by decide +kernel
theorem dX8_begin_22 : decode cX8_begin 22 = .ok (.invokevirtual 112, 3) := by decide +kernel
theorem dX8_begin_25 : decode cX8_begin 25 = .ok (.iload_n 1, 1) := by decide +kernel
theorem dX8_begin_26 : decode cX8_begin 26 = .ok (.ireturn, 1) := by decide +kernel
theorem dX8_read_0 : decode cX8_read 0 = .ok (.aload_n 0, 1) := by decide +kernel
theorem dX8_read_1 : decode cX8_read 1 = .ok (.getfield 28, 3) := by decide +kernel
theorem dX8_read_4 : decode cX8_read 4 = .ok (.getfield 115, 3) := by decide +kernel
theorem dX8_read_7 : decode cX8_read 7 = .ok (.ifCond .ne 13, 3) := by decide +kernel
theorem dX8_read_10 : decode cX8_read 10 = .ok (.aload_n 0, 1) := by decide +kernel
theorem dX8_read_11 : decode cX8_read 11 = .ok (.getfield 12, 3) := by decide +kernel
theorem dX8_read_14 : decode cX8_read 14 = .ok (.invokevirtual 54, 3) := by decide +kernel
theorem dX8_read_17 : decode cX8_read 17 = .ok (.bipush (-4), 2) := by decide +kernel
theorem dX8_read_19 : decode cX8_read 19 = .ok (.ireturn, 1) := by decide +kernel
theorem dX8_read_20 : decode cX8_read 20 = .ok (.iconst 0, 1) := by decide +kernel
theorem dX8_read_21 : decode cX8_read 21 = .ok (.istore_n 1, 1) := by decide +kernel
theorem dX8_read_22 : decode cX8_read 22 = .ok (.iload_n 1, 1) := by decide +kernel
theorem dX8_read_23 : decode cX8_read 23 = .ok (.aload_n 0, 1) := by decide +kernel
theorem dX8_read_24 : decode cX8_read 24 = .ok (.getfield 12, 3) := by decide +kernel
theorem dX8_read_27 : decode cX8_read 27 = .ok (.getfield 50, 3) := by decide +kernel
theorem dX8_read_30 : decode cX8_read 30 = .ok (.if_icmp .ge 32, 3) := by decide +kernel
theorem dX8_read_33 : decode cX8_read 33 = .ok (.aload_n 0, 1) := by decide +kernel
theorem dX8_read_34 : decode cX8_read 34 = .ok (.getfield 28, 3) := by decide +kernel
theorem dX8_read_37 : decode cX8_read 37 = .ok (.aload_n 0, 1) := by decide +kernel
theorem dX8_read_38 : decode cX8_read 38 = .ok (.getfield 12, 3) := by decide +kernel
theorem dX8_read_41 : decode cX8_read 41 = .ok (.iload_n 1, 1) := by decide +kernel
theorem dX8_read_42 : decode cX8_read 42 = .ok (.invokevirtual 118, 3) := by decide +kernel
theorem dX8_read_45 : decode cX8_read 45 = .ok (.aload_n 0, 1) := by decide +kernel
theorem dX8_read_46 : decode cX8_read 46 = .ok (.getfield 35, 3) := by decide +kernel
theorem dX8_read_49 : decode cX8_read 49 = .ok (.aload_n 0, 1) := by decide +kernel
theorem dX8_read_50 : decode cX8_read 50 = .ok (.getfield 21, 3) := by decide +kernel
theorem dX8_read_53 : decode cX8_read 53 = .ok (.invokevirtual 121, 3) := by decide +kernel
theorem dX8_read_56 : decode cX8_read 56 = .ok (.iinc 1 1, 3) := by decide +kernel
theorem dX8_read_59 : decode cX8_read 59 = .ok (.goto (-37), 3) := by decide +kernel
theorem dX8_read_62 : decode cX8_read 62 = .ok (.aload_n 0, 1) := by decide +kernel
theorem dX8_read_63 : decode cX8_read 63 = .ok (.getfield 12, 3) := by decide +kernel
theorem dX8_read_66 : decode cX8_read 66 = .ok (.invokevirtual 54, 3) := by decide +kernel
theorem dX8_read_69 : decode cX8_read 69 = .ok (.aload_n 0, 1) := by decide +kernel
theorem dX8_read_70 : decode cX8_read 70 = .ok (.getfield 28, 3) := by decide +kernel
theorem dX8_read_73 : decode cX8_read 73 = .ok (.getfield 125, 3) := by decide +kernel
theorem dX8_read_76 : decode cX8_read 76 = .ok (.ifCond .eq 14, 3) := by decide +kernel
theorem dX8_read_79 : decode cX8_read 79 = .ok (.bipush (-10), 2) := by decide +kernel
theorem dX8_read_81 : decode cX8_read 81 = .ok (.aload_n 0, 1) := by decide +kernel
theorem dX8_read_82 : decode cX8_read 82 = .ok (.getfield 28, 3) := by decide +kernel
theorem dX8_read_85 : decode cX8_read 85 = .ok (.getfield 125, 3) := by decide +kernel
theorem dX8_read_88 : decode cX8_read 88 = .ok (.isub, 1) := by decide +kernel
theorem dX8_read_89 : decode cX8_read 89 = .ok (.ireturn, 1) := by decide +kernel
theorem dX8_read_90 : decode cX8_read 90 = .ok (.aload_n 0, 1) := by decide +kernel
theorem dX8_read_91 : decode cX8_read 91 = .ok (.getfield 28, 3) := by decide +kernel
theorem dX8_read_94 : decode cX8_read 94 = .ok (.getfield 128, 3) := by decide +kernel
theorem dX8_read_97 : decode cX8_read 97 = .ok (.getfield 132, 3) := by decide +kernel
theorem dX8_read_100 : decode cX8_read 100 = .ok (.ireturn, 1) := by decide +kernel
theorem dX8_fault_0 : decode cX8_fault 0 = .ok (.iload_n 1, 1) := by decide +kernel
theorem dX8_fault_1 : decode cX8_fault 1 = .ok (.tableswitch 51 0 2 #[27, 35, 43], 27) := by decide +kernel
theorem dX8_fault_28 : decode cX8_fault 28 = .ok (.aload_n 0, 1) := by decide +kernel
theorem dX8_fault_29 : decode cX8_fault 29 = .ok (.getfield 28, 3) := by decide +kernel
theorem dX8_fault_32 : decode cX8_fault 32 = .ok (.getfield 125, 3) := by decide +kernel
theorem dX8_fault_35 : decode cX8_fault 35 = .ok (.ireturn, 1) := by decide +kernel
theorem dX8_fault_36 : decode cX8_fault 36 = .ok (.aload_n 0, 1) := by decide +kernel
theorem dX8_fault_37 : decode cX8_fault 37 = .ok (.getfield 28, 3) := by decide +kernel
theorem dX8_fault_40 : decode cX8_fault 40 = .ok (.getfield 137, 3) := by decide +kernel
theorem dX8_fault_43 : decode cX8_fault 43 = .ok (.ireturn, 1) := by decide +kernel
theorem dX8_fault_44 : decode cX8_fault 44 = .ok (.aload_n 0, 1) := by decide +kernel
theorem dX8_fault_45 : decode cX8_fault 45 = .ok (.getfield 28, 3) := by decide +kernel
theorem dX8_fault_48 : decode cX8_fault 48 = .ok (.getfield 140, 3) := by decide +kernel
theorem dX8_fault_51 : decode cX8_fault 51 = .ok (.ireturn, 1) := by decide +kernel
theorem dX8_fault_52 : decode cX8_fault 52 = .ok (.bipush (-3), 2) := by decide +kernel
theorem dX8_fault_54 : decode cX8_fault 54 = .ok (.ireturn, 1) := by decide +kernel
theorem dX8_row_0 : decode cX8_row 0 = .ok (.aload_n 0, 1) := by decide +kernel
theorem dX8_row_1 : decode cX8_row 1 = .ok (.iload_n 1, 1) := by decide +kernel
theorem dX8_row_2 : decode cX8_row 2 = .ok (.invokevirtual 143, 3) := by decide +kernel
theorem dX8_row_5 : decode cX8_row 5 = .ok (.aload_n 0, 1) := by decide +kernel
theorem dX8_row_6 : decode cX8_row 6 = .ok (.getfield 28, 3) := by decide +kernel
theorem dX8_row_9 : decode cX8_row 9 = .ok (.getfield 128, 3) := by decide +kernel
theorem dX8_row_12 : decode cX8_row 12 = .ok (.iload_n 1, 1) := by decide +kernel
theorem dX8_row_13 : decode cX8_row 13 = .ok (.invokevirtual 146, 3) := by decide +kernel
theorem dX8_row_16 : decode cX8_row 16 = .ok (.astore_n 3, 1) := by decide +kernel
theorem dX8_row_17 : decode cX8_row 17 = .ok (.iload_n 2, 1) := by decide +kernel
theorem dX8_row_18 : decode cX8_row 18 = .ok (.ifCond .lt 20, 3) := by decide +kernel
theorem dX8_row_21 : decode cX8_row 21 = .ok (.iload_n 2, 1) := by decide +kernel
theorem dX8_row_22 : decode cX8_row 22 = .ok (.aload_n 0, 1) := by decide +kernel
theorem dX8_row_23 : decode cX8_row 23 = .ok (.getfield 35, 3) := by decide +kernel
theorem dX8_row_26 : decode cX8_row 26 = .ok (.getfield 76, 3) := by decide +kernel
theorem dX8_row_29 : decode cX8_row 29 = .ok (.if_icmp .ge 9, 3) := by decide +kernel
theorem dX8_row_32 : decode cX8_row 32 = .ok (.aload_n 3, 1) := by decide +kernel
theorem dX8_row_33 : decode cX8_row 33 = .ok (.iload_n 2, 1) := by decide +kernel
theorem dX8_row_34 : decode cX8_row 34 = .ok (.invokevirtual 149, 3) := by decide +kernel
theorem dX8_row_37 : decode cX8_row 37 = .ok (.lreturn, 1) := by decide +kernel
theorem dX8_row_38 : decode cX8_row 38 = .ok (.iload_n 2, 1) := by decide +kernel
theorem dX8_row_39 : decode cX8_row 39 = .ok (.tableswitch 96 8 13 #[37, 42, 51, 64, 80, 86], 37) := by decide +kernel
theorem dX8_row_76 : decode cX8_row 76 = .ok (.aload_n 3, 1) := by decide +kernel
theorem dX8_row_77 : decode cX8_row 77 = .ok (.getfield 155, 3) := by decide +kernel
theorem dX8_row_80 : decode cX8_row 80 = .ok (.lreturn, 1) := by decide +kernel
theorem dX8_row_81 : decode cX8_row 81 = .ok (.aload_n 3, 1) := by decide +kernel
theorem dX8_row_82 : decode cX8_row 82 = .ok (.getfield 159, 3) := by decide +kernel
theorem dX8_row_85 : decode cX8_row 85 = .ok (.invokestatic 162, 3) := by decide +kernel
theorem dX8_row_88 : decode cX8_row 88 = .ok (.i2l, 1) := by decide +kernel
theorem dX8_row_89 : decode cX8_row 89 = .ok (.lreturn, 1) := by decide +kernel
theorem dX8_row_90 : decode cX8_row 90 = .ok (.aload_n 3, 1) := by decide +kernel
theorem dX8_row_91 : decode cX8_row 91 = .ok (.getfield 166, 3) := by decide +kernel
theorem dX8_row_94 : decode cX8_row 94 = .ok (.ifCond .eq 7, 3) := by decide +kernel
theorem dX8_row_97 : decode cX8_row 97 = .ok (.lconst 1, 1) := by decide +kernel
theorem dX8_row_98 : decode cX8_row 98 = .ok (.goto 4, 3) := by decide +kernel
theorem dX8_row_101 : decode cX8_row 101 = .ok (.lconst 0, 1) := by decide +kernel
theorem dX8_row_102 : decode cX8_row 102 = .ok (.lreturn, 1) := by decide +kernel
theorem dX8_row_103 : decode cX8_row 103 = .ok (.aload_n 3, 1) := by decide +kernel
theorem dX8_row_104 : decode cX8_row 104 = .ok (.getfield 166, 3) := by decide +kernel
theorem dX8_row_107 : decode cX8_row 107 = .ok (.ifCond .eq 10, 3) := by decide +kernel
theorem dX8_row_110 : decode cX8_row 110 = .ok (.aload_n 3, 1) := by decide +kernel
theorem dX8_row_111 : decode cX8_row 111 = .ok (.getfield 169, 3) := by decide +kernel
theorem dX8_row_114 : decode cX8_row 114 = .ok (.goto 4, 3) := by decide +kernel
theorem dX8_row_117 : decode cX8_row 117 = .ok (.lconst 0, 1) := by decide +kernel
theorem dX8_row_118 : decode cX8_row 118 = .ok (.lreturn, 1) := by decide +kernel
theorem dX8_row_119 : decode cX8_row 119 = .ok (.aload_n 3, 1) := by decide +kernel
theorem dX8_row_120 : decode cX8_row 120 = .ok (.getfield 172, 3) := by decide +kernel
theorem dX8_row_123 : decode cX8_row 123 = .ok (.i2l, 1) := by decide +kernel
theorem dX8_row_124 : decode cX8_row 124 = .ok (.lreturn, 1) := by decide +kernel
theorem dX8_row_125 : decode cX8_row 125 = .ok (.aload_n 0, 1) := by decide +kernel
theorem dX8_row_126 : decode cX8_row 126 = .ok (.getfield 28, 3) := by decide +kernel
theorem dX8_row_129 : decode cX8_row 129 = .ok (.iload_n 1, 1) := by decide +kernel
theorem dX8_row_130 : decode cX8_row 130 = .ok (.invokevirtual 175, 3) := by decide +kernel
theorem dX8_row_133 : decode cX8_row 133 = .ok (.i2l, 1) := by decide +kernel
theorem dX8_row_134 : decode cX8_row 134 = .ok (.lreturn, 1) := by decide +kernel
theorem dX8_row_135 : decode cX8_row 135 = .ok (.new 97, 3) := by decide +kernel
theorem dX8_row_138 : decode cX8_row 138 = .ok (.dup, 1) := by decide +kernel
theorem dX8_row_139 : decode cX8_row 139 = .ok (.ldc 178, 2) := by decide +kernel
theorem dX8_row_141 : decode cX8_row 141 = .ok (.invokespecial 101, 3) := by decide +kernel
theorem dX8_row_144 : decode cX8_row 144 = .ok (.athrow, 1) := by decide +kernel
theorem dX8_assumes_0 : decode cX8_assumes 0 = .ok (.aload_n 0, 1) := by decide +kernel
theorem dX8_assumes_1 : decode cX8_assumes 1 = .ok (.iload_n 1, 1) := by decide +kernel
theorem dX8_assumes_2 : decode cX8_assumes 2 = .ok (.invokevirtual 143, 3) := by decide +kernel
theorem dX8_assumes_5 : decode cX8_assumes 5 = .ok (.aload_n 0, 1) := by decide +kernel
theorem dX8_assumes_6 : decode cX8_assumes 6 = .ok (.getfield 28, 3) := by decide +kernel
theorem dX8_assumes_9 : decode cX8_assumes 9 = .ok (.getfield 128, 3) := by decide +kernel
theorem dX8_assumes_12 : decode cX8_assumes 12 = .ok (.iload_n 1, 1) := by decide +kernel
theorem dX8_assumes_13 : decode cX8_assumes 13 = .ok (.iload_n 2, 1) := by decide +kernel
theorem dX8_assumes_14 : decode cX8_assumes 14 = .ok (.invokevirtual 180, 3) := by decide +kernel
theorem dX8_assumes_17 : decode cX8_assumes 17 = .ok (.ireturn, 1) := by decide +kernel
theorem dX8_holds_0 : decode cX8_holds 0 = .ok (.aload_n 0, 1) := by decide +kernel
theorem dX8_holds_1 : decode cX8_holds 1 = .ok (.iload_n 1, 1) := by decide +kernel
theorem dX8_holds_2 : decode cX8_holds 2 = .ok (.invokevirtual 143, 3) := by decide +kernel
theorem dX8_holds_5 : decode cX8_holds 5 = .ok (.aload_n 0, 1) := by decide +kernel
theorem dX8_holds_6 : decode cX8_holds 6 = .ok (.getfield 21, 3) := by decide +kernel
theorem dX8_holds_9 : decode cX8_holds 9 = .ok (.iload_n 2, 1) := by decide +kernel
theorem dX8_holds_10 : decode cX8_holds 10 = .ok (.invokevirtual 86, 3) := by decide +kernel
theorem dX8_holds_13 : decode cX8_holds 13 = .ok (.ifCond .ne 13, 3) := by decide +kernel
theorem dX8_holds_16 : decode cX8_holds 16 = .ok (.new 97, 3) := by decide +kernel
theorem dX8_holds_19 : decode cX8_holds 19 = .ok (.dup, 1) := by decide +kernel
theorem dX8_holds_20 : decode cX8_holds 20 = .ok (.ldc 99, 2) := by decide +kernel
theorem dX8_holds_22 : decode cX8_holds 22 = .ok (.invokespecial 101, 3) := by decide +kernel
theorem dX8_holds_25 : decode cX8_holds 25 = .ok (.athrow, 1) := by decide +kernel
theorem dX8_holds_26 : decode cX8_holds 26 = .ok (.aload_n 0, 1) := by decide +kernel
theorem dX8_holds_27 : decode cX8_holds 27 = .ok (.getfield 28, 3) := by decide +kernel
theorem dX8_holds_30 : decode cX8_holds 30 = .ok (.getfield 128, 3) := by decide +kernel
theorem dX8_holds_33 : decode cX8_holds 33 = .ok (.iload_n 1, 1) := by decide +kernel
theorem dX8_holds_34 : decode cX8_holds 34 = .ok (.invokevirtual 146, 3) := by decide +kernel
theorem dX8_holds_37 : decode cX8_holds 37 = .ok (.astore_n 3, 1) := by decide +kernel
theorem dX8_holds_38 : decode cX8_holds 38 = .ok (.aload_n 0, 1) := by decide +kernel
theorem dX8_holds_39 : decode cX8_holds 39 = .ok (.getfield 21, 3) := by decide +kernel
theorem dX8_holds_42 : decode cX8_holds 42 = .ok (.iload_n 2, 1) := by decide +kernel
theorem dX8_holds_43 : decode cX8_holds 43 = .ok (.invokevirtual 89, 3) := by decide +kernel
theorem dX8_holds_46 : decode cX8_holds 46 = .ok (.astore 4, 2) := by decide +kernel
theorem dX8_holds_48 : decode cX8_holds 48 = .ok (.aload_n 0, 1) := by decide +kernel
theorem dX8_holds_49 : decode cX8_holds 49 = .ok (.getfield 28, 3) := by decide +kernel
theorem dX8_holds_52 : decode cX8_holds 52 = .ok (.getfield 128, 3) := by decide +kernel
theorem dX8_holds_55 : decode cX8_holds 55 = .ok (.aload_n 3, 1) := by decide +kernel
theorem dX8_holds_56 : decode cX8_holds 56 = .ok (.aload 4, 2) := by decide +kernel
theorem dX8_holds_58 : decode cX8_holds 58 = .ok (.invokevirtual 184, 3) := by decide +kernel
theorem dX8_holds_61 : decode cX8_holds 61 = .ok (.ifCond .ne 5, 3) := by decide +kernel
theorem dX8_holds_64 : decode cX8_holds 64 = .ok (.iconst 2, 1) := by decide +kernel
theorem dX8_holds_65 : decode cX8_holds 65 = .ok (.ireturn, 1) := by decide +kernel
theorem dX8_holds_66 : decode cX8_holds 66 = .ok (.aload_n 3, 1) := by decide +kernel
theorem dX8_holds_67 : decode cX8_holds 67 = .ok (.getfield 166, 3) := by decide +kernel
theorem dX8_holds_70 : decode cX8_holds 70 = .ok (.ifCond .eq 22, 3) := by decide +kernel
theorem dX8_holds_73 : decode cX8_holds 73 = .ok (.aload_n 0, 1) := by decide +kernel
theorem dX8_holds_74 : decode cX8_holds 74 = .ok (.getfield 35, 3) := by decide +kernel
theorem dX8_holds_77 : decode cX8_holds 77 = .ok (.aload 4, 2) := by decide +kernel
theorem dX8_holds_79 : decode cX8_holds 79 = .ok (.invokevirtual 104, 3) := by decide +kernel
theorem dX8_holds_82 : decode cX8_holds 82 = .ok (.aload_n 3, 1) := by decide +kernel
theorem dX8_holds_83 : decode cX8_holds 83 = .ok (.getfield 169, 3) := by decide +kernel
theorem dX8_holds_86 : decode cX8_holds 86 = .ok (.lcmp, 1) := by decide +kernel
theorem dX8_holds_87 : decode cX8_holds 87 = .ok (.ifCond .lt 5, 3) := by decide +kernel
theorem dX8_holds_90 : decode cX8_holds 90 = .ok (.iconst 2, 1) := by decide +kernel
theorem dX8_holds_91 : decode cX8_holds 91 = .ok (.ireturn, 1) := by decide +kernel
theorem dX8_holds_92 : decode cX8_holds 92 = .ok (.aload_n 3, 1) := by decide +kernel
theorem dX8_holds_93 : decode cX8_holds 93 = .ok (.aload 4, 2) := by decide +kernel
theorem dX8_holds_95 : decode cX8_holds 95 = .ok (.invokevirtual 188, 3) := by decide +kernel
theorem dX8_holds_98 : decode cX8_holds 98 = .ok (.ifCond .eq 7, 3) := by decide +kernel
theorem dX8_holds_101 : decode cX8_holds 101 = .ok (.iconst 1, 1) := by decide +kernel
theorem dX8_holds_102 : decode cX8_holds 102 = .ok (.goto 4, 3) := by decide +kernel
theorem dX8_holds_105 : decode cX8_holds 105 = .ok (.iconst 0, 1) := by decide +kernel
theorem dX8_holds_106 : decode cX8_holds 106 = .ok (.ireturn, 1) := by decide +kernel
theorem dX8_proved_0 : decode cX8_proved 0 = .ok (.aload_n 0, 1) := by decide +kernel
theorem dX8_proved_1 : decode cX8_proved 1 = .ok (.getfield 28, 3) := by decide +kernel
theorem dX8_proved_4 : decode cX8_proved 4 = .ok (.getfield 128, 3) := by decide +kernel
theorem dX8_proved_7 : decode cX8_proved 7 = .ok (.iconst 0, 1) := by decide +kernel
theorem dX8_proved_8 : decode cX8_proved 8 = .ok (.invokevirtual 192, 3) := by decide +kernel
theorem dX8_proved_11 : decode cX8_proved 11 = .ok (.iconst (-1), 1) := by decide +kernel
theorem dX8_proved_12 : decode cX8_proved 12 = .ok (.if_icmp .eq 5, 3) := by decide +kernel
theorem dX8_proved_15 : decode cX8_proved 15 = .ok (.iconst 1, 1) := by decide +kernel
theorem dX8_proved_16 : decode cX8_proved 16 = .ok (.ireturn, 1) := by decide +kernel
theorem dX8_proved_17 : decode cX8_proved 17 = .ok (.aload_n 0, 1) := by decide +kernel
theorem dX8_proved_18 : decode cX8_proved 18 = .ok (.getfield 28, 3) := by decide +kernel
theorem dX8_proved_21 : decode cX8_proved 21 = .ok (.getfield 128, 3) := by decide +kernel
theorem dX8_proved_24 : decode cX8_proved 24 = .ok (.iconst 1, 1) := by decide +kernel
theorem dX8_proved_25 : decode cX8_proved 25 = .ok (.invokevirtual 192, 3) := by decide +kernel
theorem dX8_proved_28 : decode cX8_proved 28 = .ok (.iconst (-1), 1) := by decide +kernel
theorem dX8_proved_29 : decode cX8_proved 29 = .ok (.if_icmp .eq 7, 3) := by decide +kernel
theorem dX8_proved_32 : decode cX8_proved 32 = .ok (.iconst 2, 1) := by decide +kernel
theorem dX8_proved_33 : decode cX8_proved 33 = .ok (.goto 4, 3) := by decide +kernel
theorem dX8_proved_36 : decode cX8_proved 36 = .ok (.iconst 0, 1) := by decide +kernel
theorem dX8_proved_37 : decode cX8_proved 37 = .ok (.ireturn, 1) := by decide +kernel
theorem dX8_best_0 : decode cX8_best 0 = .ok (.aload_n 0, 1) := by decide +kernel
theorem dX8_best_1 : decode cX8_best 1 = .ok (.getfield 28, 3) := by decide +kernel
theorem dX8_best_4 : decode cX8_best 4 = .ok (.getfield 128, 3) := by decide +kernel
theorem dX8_best_7 : decode cX8_best 7 = .ok (.iconst 0, 1) := by decide +kernel
theorem dX8_best_8 : decode cX8_best 8 = .ok (.invokevirtual 192, 3) := by decide +kernel
theorem dX8_best_11 : decode cX8_best 11 = .ok (.iconst (-1), 1) := by decide +kernel
theorem dX8_best_12 : decode cX8_best 12 = .ok (.if_icmp .eq 13, 3) := by decide +kernel
theorem dX8_best_15 : decode cX8_best 15 = .ok (.new 196, 3) := by decide +kernel
theorem dX8_best_18 : decode cX8_best 18 = .ok (.dup, 1) := by decide +kernel
theorem dX8_best_19 : decode cX8_best 19 = .ok (.ldc 198, 2) := by decide +kernel
theorem dX8_best_21 : decode cX8_best 21 = .ok (.invokespecial 200, 3) := by decide +kernel
theorem dX8_best_24 : decode cX8_best 24 = .ok (.athrow, 1) := by decide +kernel
theorem dX8_best_25 : decode cX8_best 25 = .ok (.aload_n 0, 1) := by decide +kernel
theorem dX8_best_26 : decode cX8_best 26 = .ok (.getfield 28, 3) := by decide +kernel
theorem dX8_best_29 : decode cX8_best 29 = .ok (.getfield 128, 3) := by decide +kernel
theorem dX8_best_32 : decode cX8_best 32 = .ok (.iconst 1, 1) := by decide +kernel
theorem dX8_best_33 : decode cX8_best 33 = .ok (.invokevirtual 192, 3) := by decide +kernel
theorem dX8_best_36 : decode cX8_best 36 = .ok (.istore_n 1, 1) := by decide +kernel
theorem dX8_best_37 : decode cX8_best 37 = .ok (.iload_n 1, 1) := by decide +kernel
theorem dX8_best_38 : decode cX8_best 38 = .ok (.iconst (-1), 1) := by decide +kernel
theorem dX8_best_39 : decode cX8_best 39 = .ok (.if_icmp .ne 13, 3) := by decide +kernel
theorem dX8_best_42 : decode cX8_best 42 = .ok (.new 196, 3) := by decide +kernel
theorem dX8_best_45 : decode cX8_best 45 = .ok (.dup, 1) := by decide +kernel
theorem dX8_best_46 : decode cX8_best 46 = .ok (.ldc 201, 2) := by decide +kernel
theorem dX8_best_48 : decode cX8_best 48 = .ok (.invokespecial 200, 3) := by decide +kernel
theorem dX8_best_51 : decode cX8_best 51 = .ok (.athrow, 1) := by decide +kernel
theorem dX8_best_52 : decode cX8_best 52 = .ok (.aload_n 0, 1) := by decide +kernel
theorem dX8_best_53 : decode cX8_best 53 = .ok (.getfield 28, 3) := by decide +kernel
theorem dX8_best_56 : decode cX8_best 56 = .ok (.getfield 128, 3) := by decide +kernel
theorem dX8_best_59 : decode cX8_best 59 = .ok (.iload_n 1, 1) := by decide +kernel
theorem dX8_best_60 : decode cX8_best 60 = .ok (.invokevirtual 146, 3) := by decide +kernel
theorem dX8_best_63 : decode cX8_best 63 = .ok (.getfield 169, 3) := by decide +kernel
theorem dX8_best_66 : decode cX8_best 66 = .ok (.lreturn, 1) := by decide +kernel
theorem dX8_least_0 : decode cX8_least 0 = .ok (.aload_n 0, 1) := by decide +kernel
theorem dX8_least_1 : decode cX8_least 1 = .ok (.getfield 28, 3) := by decide +kernel
theorem dX8_least_4 : decode cX8_least 4 = .ok (.getfield 128, 3) := by decide +kernel
theorem dX8_least_7 : decode cX8_least 7 = .ok (.aload_n 0, 1) := by decide +kernel
theorem dX8_least_8 : decode cX8_least 8 = .ok (.getfield 35, 3) := by decide +kernel
theorem dX8_least_11 : decode cX8_least 11 = .ok (.getfield 203, 3) := by decide +kernel
theorem dX8_least_14 : decode cX8_least 14 = .ok (.invokevirtual 207, 3) := by decide +kernel
theorem dX8_least_17 : decode cX8_least 17 = .ok (.lstore_n 1, 1) := by decide +kernel
theorem dX8_least_18 : decode cX8_least 18 = .ok (.lload_n 1, 1) := by decide +kernel
theorem dX8_least_19 : decode cX8_least 19 = .ok (.ldc2_w 210, 3) := by decide +kernel
theorem dX8_least_22 : decode cX8_least 22 = .ok (.lcmp, 1) := by decide +kernel
theorem dX8_least_23 : decode cX8_least 23 = .ok (.ifCond .ne 13, 3) := by decide +kernel
theorem dX8_least_26 : decode cX8_least 26 = .ok (.new 196, 3) := by decide +kernel
theorem dX8_least_29 : decode cX8_least 29 = .ok (.dup, 1) := by decide +kernel
theorem dX8_least_30 : decode cX8_least 30 = .ok (.ldc 212, 2) := by decide +kernel
theorem dX8_least_32 : decode cX8_least 32 = .ok (.invokespecial 200, 3) := by decide +kernel
theorem dX8_least_35 : decode cX8_least 35 = .ok (.athrow, 1) := by decide +kernel
theorem dX8_least_36 : decode cX8_least 36 = .ok (.lload_n 1, 1) := by decide +kernel
theorem dX8_least_37 : decode cX8_least 37 = .ok (.lreturn, 1) := by decide +kernel
theorem dX8_trim_0 : decode cX8_trim 0 = .ok (.aload_n 0, 1) := by decide +kernel
theorem dX8_trim_1 : decode cX8_trim 1 = .ok (.iload_n 1, 1) := by decide +kernel
theorem dX8_trim_2 : decode cX8_trim 2 = .ok (.invokevirtual 143, 3) := by decide +kernel
theorem dX8_trim_5 : decode cX8_trim 5 = .ok (.aload_n 0, 1) := by decide +kernel
theorem dX8_trim_6 : decode cX8_trim 6 = .ok (.getfield 28, 3) := by decide +kernel
theorem dX8_trim_9 : decode cX8_trim 9 = .ok (.iload_n 1, 1) := by decide +kernel
theorem dX8_trim_10 : decode cX8_trim 10 = .ok (.invokevirtual 214, 3) := by decide +kernel
theorem dX8_trim_13 : decode cX8_trim 13 = .ok (.istore_n 2, 1) := by decide +kernel
theorem dX8_trim_14 : decode cX8_trim 14 = .ok (.aload_n 0, 1) := by decide +kernel
theorem dX8_trim_15 : decode cX8_trim 15 = .ok (.getfield 28, 3) := by decide +kernel
theorem dX8_trim_18 : decode cX8_trim 18 = .ok (.invokevirtual 112, 3) := by decide +kernel
theorem dX8_trim_21 : decode cX8_trim 21 = .ok (.iconst 0, 1) := by decide +kernel
theorem dX8_trim_22 : decode cX8_trim 22 = .ok (.istore_n 3, 1) := by decide +kernel
theorem dX8_trim_23 : decode cX8_trim 23 = .ok (.iload_n 3, 1) := by decide +kernel
theorem dX8_trim_24 : decode cX8_trim 24 = .ok (.iload_n 2, 1) := by decide +kernel
theorem dX8_trim_25 : decode cX8_trim 25 = .ok (.if_icmp .ge 32, 3) := by decide +kernel
theorem dX8_trim_28 : decode cX8_trim 28 = .ok (.aload_n 0, 1) := by decide +kernel
theorem dX8_trim_29 : decode cX8_trim 29 = .ok (.getfield 28, 3) := by decide +kernel
theorem dX8_trim_32 : decode cX8_trim 32 = .ok (.aload_n 0, 1) := by decide +kernel
theorem dX8_trim_33 : decode cX8_trim 33 = .ok (.getfield 28, 3) := by decide +kernel
theorem dX8_trim_36 : decode cX8_trim 36 = .ok (.iload_n 3, 1) := by decide +kernel
theorem dX8_trim_37 : decode cX8_trim 37 = .ok (.invokevirtual 217, 3) := by decide +kernel
theorem dX8_trim_40 : decode cX8_trim 40 = .ok (.aload_n 0, 1) := by decide +kernel
theorem dX8_trim_41 : decode cX8_trim 41 = .ok (.getfield 35, 3) := by decide +kernel
theorem dX8_trim_44 : decode cX8_trim 44 = .ok (.aload_n 0, 1) := by decide +kernel
theorem dX8_trim_45 : decode cX8_trim 45 = .ok (.getfield 21, 3) := by decide +kernel
theorem dX8_trim_48 : decode cX8_trim 48 = .ok (.invokevirtual 121, 3) := by decide +kernel
theorem dX8_trim_51 : decode cX8_trim 51 = .ok (.iinc 3 1, 3) := by decide +kernel
theorem dX8_trim_54 : decode cX8_trim 54 = .ok (.goto (-31), 3) := by decide +kernel
theorem dX8_trim_57 : decode cX8_trim 57 = .ok (.aload_n 0, 1) := by decide +kernel
theorem dX8_trim_58 : decode cX8_trim 58 = .ok (.getfield 28, 3) := by decide +kernel
theorem dX8_trim_61 : decode cX8_trim 61 = .ok (.getfield 128, 3) := by decide +kernel
theorem dX8_trim_64 : decode cX8_trim 64 = .ok (.getfield 132, 3) := by decide +kernel
theorem dX8_trim_67 : decode cX8_trim 67 = .ok (.ireturn, 1) := by decide +kernel
theorem dX8_number_0 : decode cX8_number 0 = .ok (.iload_n 1, 1) := by decide +kernel
theorem dX8_number_1 : decode cX8_number 1 = .ok (.ifCond .lt 14, 3) := by decide +kernel
theorem dX8_number_4 : decode cX8_number 4 = .ok (.iload_n 1, 1) := by decide +kernel
theorem dX8_number_5 : decode cX8_number 5 = .ok (.aload_n 0, 1) := by decide +kernel
theorem dX8_number_6 : decode cX8_number 6 = .ok (.getfield 28, 3) := by decide +kernel
theorem dX8_number_9 : decode cX8_number 9 = .ok (.getfield 111, 3) := by decide +kernel
theorem dX8_number_12 : decode cX8_number 12 = .ok (.if_icmp .lt 13, 3) := by decide +kernel
theorem dX8_number_15 : decode cX8_number 15 = .ok (.new 97, 3) := by decide +kernel
theorem dX8_number_18 : decode cX8_number 18 = .ok (.dup, 1) := by decide +kernel
theorem dX8_number_19 : decode cX8_number 19 = .ok (.ldc 220, 2) := by decide +kernel
theorem dX8_number_21 : decode cX8_number 21 = .ok (.invokespecial 101, 3) := by decide +kernel
theorem dX8_number_24 : decode cX8_number 24 = .ok (.athrow, 1) := by decide +kernel
theorem dX8_number_25 : decode cX8_number 25 = .ok (.aload_n 0, 1) := by decide +kernel
theorem dX8_number_26 : decode cX8_number 26 = .ok (.getfield 28, 3) := by decide +kernel
theorem dX8_number_29 : decode cX8_number 29 = .ok (.iload_n 1, 1) := by decide +kernel
theorem dX8_number_30 : decode cX8_number 30 = .ok (.invokevirtual 217, 3) := by decide +kernel
theorem dX8_number_33 : decode cX8_number 33 = .ok (.ireturn, 1) := by decide +kernel
theorem dX8_told_0 : decode cX8_told 0 = .ok (.iload_n 1, 1) := by decide +kernel
theorem dX8_told_1 : decode cX8_told 1 = .ok (.tableswitch 150 0 7 #[47, 55, 74, 93, 112, 120, 131, 142], 47) := by decide +kernel
theorem dX8_told_48 : decode cX8_told 48 = .ok (.aload_n 0, 1) := by decide +kernel
theorem dX8_told_49 : decode cX8_told 49 = .ok (.getfield 12, 3) := by decide +kernel
theorem dX8_told_52 : decode cX8_told 52 = .ok (.getfield 50, 3) := by decide +kernel
theorem dX8_told_55 : decode cX8_told 55 = .ok (.ireturn, 1) := by decide +kernel
theorem dX8_told_56 : decode cX8_told 56 = .ok (.aload_n 0, 1) := by decide +kernel
theorem dX8_told_57 : decode cX8_told 57 = .ok (.getfield 64, 3) := by decide +kernel
theorem dX8_told_60 : decode cX8_told 60 = .ok (.ifCond .eq 13, 3) := by decide +kernel
theorem dX8_told_63 : decode cX8_told 63 = .ok (.aload_n 0, 1) := by decide +kernel
theorem dX8_told_64 : decode cX8_told 64 = .ok (.getfield 35, 3) := by decide +kernel
theorem dX8_told_67 : decode cX8_told 67 = .ok (.getfield 76, 3) := by decide +kernel
theorem dX8_told_70 : decode cX8_told 70 = .ok (.goto 4, 3) := by decide +kernel
theorem dX8_told_73 : decode cX8_told 73 = .ok (.iconst 0, 1) := by decide +kernel
theorem dX8_told_74 : decode cX8_told 74 = .ok (.ireturn, 1) := by decide +kernel
theorem dX8_told_75 : decode cX8_told 75 = .ok (.aload_n 0, 1) := by decide +kernel
theorem dX8_told_76 : decode cX8_told 76 = .ok (.getfield 64, 3) := by decide +kernel
theorem dX8_told_79 : decode cX8_told 79 = .ok (.ifCond .eq 13, 3) := by decide +kernel
theorem dX8_told_82 : decode cX8_told 82 = .ok (.aload_n 0, 1) := by decide +kernel
theorem dX8_told_83 : decode cX8_told 83 = .ok (.getfield 35, 3) := by decide +kernel
theorem dX8_told_86 : decode cX8_told 86 = .ok (.getfield 222, 3) := by decide +kernel
theorem dX8_told_89 : decode cX8_told 89 = .ok (.goto 4, 3) := by decide +kernel
theorem dX8_told_92 : decode cX8_told 92 = .ok (.iconst 0, 1) := by decide +kernel
theorem dX8_told_93 : decode cX8_told 93 = .ok (.ireturn, 1) := by decide +kernel
theorem dX8_told_94 : decode cX8_told 94 = .ok (.aload_n 0, 1) := by decide +kernel
theorem dX8_told_95 : decode cX8_told 95 = .ok (.getfield 64, 3) := by decide +kernel
theorem dX8_told_98 : decode cX8_told 98 = .ok (.ifCond .eq 13, 3) := by decide +kernel
theorem dX8_told_101 : decode cX8_told 101 = .ok (.aload_n 0, 1) := by decide +kernel
theorem dX8_told_102 : decode cX8_told 102 = .ok (.getfield 35, 3) := by decide +kernel
theorem dX8_told_105 : decode cX8_told 105 = .ok (.getfield 225, 3) := by decide +kernel
theorem dX8_told_108 : decode cX8_told 108 = .ok (.goto 4, 3) := by decide +kernel
theorem dX8_told_111 : decode cX8_told 111 = .ok (.iconst 0, 1) := by decide +kernel
theorem dX8_told_112 : decode cX8_told 112 = .ok (.ireturn, 1) := by decide +kernel
theorem dX8_told_113 : decode cX8_told 113 = .ok (.aload_n 0, 1) := by decide +kernel
theorem dX8_told_114 : decode cX8_told 114 = .ok (.getfield 21, 3) := by decide +kernel
theorem dX8_told_117 : decode cX8_told 117 = .ok (.getfield 228, 3) := by decide +kernel
theorem dX8_told_120 : decode cX8_told 120 = .ok (.ireturn, 1) := by decide +kernel
theorem dX8_told_121 : decode cX8_told 121 = .ok (.aload_n 0, 1) := by decide +kernel
theorem dX8_told_122 : decode cX8_told 122 = .ok (.getfield 28, 3) := by decide +kernel
theorem dX8_told_125 : decode cX8_told 125 = .ok (.getfield 128, 3) := by decide +kernel
theorem dX8_told_128 : decode cX8_told 128 = .ok (.getfield 132, 3) := by decide +kernel
theorem dX8_told_131 : decode cX8_told 131 = .ok (.ireturn, 1) := by decide +kernel
theorem dX8_told_132 : decode cX8_told 132 = .ok (.aload_n 0, 1) := by decide +kernel
theorem dX8_told_133 : decode cX8_told 133 = .ok (.getfield 28, 3) := by decide +kernel
theorem dX8_told_136 : decode cX8_told 136 = .ok (.getfield 128, 3) := by decide +kernel
theorem dX8_told_139 : decode cX8_told 139 = .ok (.getfield 229, 3) := by decide +kernel
theorem dX8_told_142 : decode cX8_told 142 = .ok (.ireturn, 1) := by decide +kernel
theorem dX8_told_143 : decode cX8_told 143 = .ok (.aload_n 0, 1) := by decide +kernel
theorem dX8_told_144 : decode cX8_told 144 = .ok (.getfield 28, 3) := by decide +kernel
theorem dX8_told_147 : decode cX8_told 147 = .ok (.getfield 111, 3) := by decide +kernel
theorem dX8_told_150 : decode cX8_told 150 = .ok (.ireturn, 1) := by decide +kernel
theorem dX8_told_151 : decode cX8_told 151 = .ok (.bipush (-3), 2) := by decide +kernel
theorem dX8_told_153 : decode cX8_told 153 = .ok (.ireturn, 1) := by decide +kernel
theorem dX8_demandRow_0 : decode cX8_demandRow 0 = .ok (.aload_n 0, 1) := by decide +kernel
theorem dX8_demandRow_1 : decode cX8_demandRow 1 = .ok (.getfield 28, 3) := by decide +kernel
theorem dX8_demandRow_4 : decode cX8_demandRow 4 = .ok (.getfield 128, 3) := by decide +kernel
theorem dX8_demandRow_7 : decode cX8_demandRow 7 = .ok (.iload_n 1, 1) := by decide +kernel
theorem dX8_demandRow_8 : decode cX8_demandRow 8 = .ok (.invokevirtual 232, 3) := by decide +kernel
theorem dX8_demandRow_11 : decode cX8_demandRow 11 = .ok (.ifCond .ne 13, 3) := by decide +kernel
theorem dX8_demandRow_14 : decode cX8_demandRow 14 = .ok (.new 97, 3) := by decide +kernel
theorem dX8_demandRow_17 : decode cX8_demandRow 17 = .ok (.dup, 1) := by decide +kernel
theorem dX8_demandRow_18 : decode cX8_demandRow 18 = .ok (.ldc 233, 2) := by decide +kernel
theorem dX8_demandRow_20 : decode cX8_demandRow 20 = .ok (.invokespecial 101, 3) := by decide +kernel
theorem dX8_demandRow_23 : decode cX8_demandRow 23 = .ok (.athrow, 1) := by decide +kernel
theorem dX8_demandRow_24 : decode cX8_demandRow 24 = .ok (.return_, 1) := by decide +kernel
theorem dX9_init_0 : decode cX9_init 0 = .ok (.aload_n 0, 1) := by decide +kernel
theorem dX9_init_1 : decode cX9_init 1 = .ok (.invokespecial 1, 3) := by decide +kernel
theorem dX9_init_4 : decode cX9_init 4 = .ok (.aload_n 0, 1) := by decide +kernel
theorem dX9_init_5 : decode cX9_init 5 = .ok (.sipush 1000, 3) := by decide +kernel
theorem dX9_init_8 : decode cX9_init 8 = .ok (.newarray .int, 2) := by decide +kernel
theorem dX9_init_10 : decode cX9_init 10 = .ok (.putfield 7, 3) := by decide +kernel
theorem dX9_init_13 : decode cX9_init 13 = .ok (.aload_n 0, 1) := by decide +kernel
theorem dX9_init_14 : decode cX9_init 14 = .ok (.bipush 8, 2) := by decide +kernel
theorem dX9_init_16 : decode cX9_init 16 = .ok (.newarray .int, 2) := by decide +kernel
theorem dX9_init_18 : decode cX9_init 18 = .ok (.putfield 13, 3) := by decide +kernel
theorem dX9_init_21 : decode cX9_init 21 = .ok (.aload_n 0, 1) := by decide +kernel
theorem dX9_init_22 : decode cX9_init 22 = .ok (.bipush 8, 2) := by decide +kernel
theorem dX9_init_24 : decode cX9_init 24 = .ok (.newarray .int, 2) := by decide +kernel
theorem dX9_init_26 : decode cX9_init 26 = .ok (.putfield 16, 3) := by decide +kernel
theorem dX9_init_29 : decode cX9_init 29 = .ok (.aload_n 0, 1) := by decide +kernel
theorem dX9_init_30 : decode cX9_init 30 = .ok (.bipush 8, 2) := by decide +kernel
theorem dX9_init_32 : decode cX9_init 32 = .ok (.newarray .int, 2) := by decide +kernel
theorem dX9_init_34 : decode cX9_init 34 = .ok (.putfield 19, 3) := by decide +kernel
theorem dX9_init_37 : decode cX9_init 37 = .ok (.aload_n 0, 1) := by decide +kernel
theorem dX9_init_38 : decode cX9_init 38 = .ok (.sipush 160, 3) := by decide +kernel
theorem dX9_init_41 : decode cX9_init 41 = .ok (.newarray .int, 2) := by decide +kernel
theorem dX9_init_43 : decode cX9_init 43 = .ok (.putfield 22, 3) := by decide +kernel
theorem dX9_init_46 : decode cX9_init 46 = .ok (.aload_n 0, 1) := by decide +kernel
theorem dX9_init_47 : decode cX9_init 47 = .ok (.bipush 20, 2) := by decide +kernel
theorem dX9_init_49 : decode cX9_init 49 = .ok (.newarray .int, 2) := by decide +kernel
theorem dX9_init_51 : decode cX9_init 51 = .ok (.putfield 25, 3) := by decide +kernel
theorem dX9_init_54 : decode cX9_init 54 = .ok (.aload_n 0, 1) := by decide +kernel
theorem dX9_init_55 : decode cX9_init 55 = .ok (.iconst 4, 1) := by decide +kernel
theorem dX9_init_56 : decode cX9_init 56 = .ok (.newarray .int, 2) := by decide +kernel
theorem dX9_init_58 : decode cX9_init 58 = .ok (.putfield 28, 3) := by decide +kernel
theorem dX9_init_61 : decode cX9_init 61 = .ok (.aload_n 0, 1) := by decide +kernel
theorem dX9_init_62 : decode cX9_init 62 = .ok (.iconst 4, 1) := by decide +kernel
theorem dX9_init_63 : decode cX9_init 63 = .ok (.newarray .int, 2) := by decide +kernel
theorem dX9_init_65 : decode cX9_init 65 = .ok (.putfield 31, 3) := by decide +kernel
theorem dX9_init_68 : decode cX9_init 68 = .ok (.aload_n 0, 1) := by decide +kernel
theorem dX9_init_69 : decode cX9_init 69 = .ok (.iconst 4, 1) := by decide +kernel
theorem dX9_init_70 : decode cX9_init 70 = .ok (.newarray .int, 2) := by decide +kernel
theorem dX9_init_72 : decode cX9_init 72 = .ok (.putfield 34, 3) := by decide +kernel
theorem dX9_init_75 : decode cX9_init 75 = .ok (.aload_n 0, 1) := by decide +kernel
theorem dX9_init_76 : decode cX9_init 76 = .ok (.bipush 80, 2) := by decide +kernel
theorem dX9_init_78 : decode cX9_init 78 = .ok (.newarray .int, 2) := by decide +kernel
theorem dX9_init_80 : decode cX9_init 80 = .ok (.putfield 37, 3) := by decide +kernel
theorem dX9_init_83 : decode cX9_init 83 = .ok (.aload_n 0, 1) := by decide +kernel
theorem dX9_init_84 : decode cX9_init 84 = .ok (.bipush 80, 2) := by decide +kernel
theorem dX9_init_86 : decode cX9_init 86 = .ok (.newarray .int, 2) := by decide +kernel
theorem dX9_init_88 : decode cX9_init 88 = .ok (.putfield 40, 3) := by decide +kernel
theorem dX9_init_91 : decode cX9_init 91 = .ok (.aload_n 0, 1) := by decide +kernel
theorem dX9_init_92 : decode cX9_init 92 = .ok (.bipush 64, 2) := by decide +kernel
theorem dX9_init_94 : decode cX9_init 94 = .ok (.newarray .int, 2) := by decide +kernel
theorem dX9_init_96 : decode cX9_init 96 = .ok (.putfield 43, 3) := by decide +kernel
theorem dX9_init_99 : decode cX9_init 99 = .ok (.aload_n 0, 1) := by decide +kernel
theorem dX9_init_100 : decode cX9_init 100 = .ok (.sipush 1500, 3) := by decide +kernel
theorem dX9_init_103 : decode cX9_init 103 = .ok (.newarray .int, 2) := by decide +kernel
theorem dX9_init_105 : decode cX9_init 105 = .ok (.putfield 46, 3) := by decide +kernel
theorem dX9_init_108 : decode cX9_init 108 = .ok (.aload_n 0, 1) := by decide +kernel
theorem dX9_init_109 : decode cX9_init 109 = .ok (.iconst (-1), 1) := by decide +kernel
theorem dX9_init_110 : decode cX9_init 110 = .ok (.putfield 49, 3) := by decide +kernel
theorem dX9_init_113 : decode cX9_init 113 = .ok (.aload_n 0, 1) := by decide +kernel
theorem dX9_init_114 : decode cX9_init 114 = .ok (.iconst (-1), 1) := by decide +kernel
theorem dX9_init_115 : decode cX9_init 115 = .ok (.putfield 53, 3) := by decide +kernel
theorem dX9_init_118 : decode cX9_init 118 = .ok (.aload_n 0, 1) := by decide +kernel
theorem dX9_init_119 : decode cX9_init 119 = .ok (.sipush 201, 3) := by decide +kernel
theorem dX9_init_122 : decode cX9_init 122 = .ok (.newarray .int, 2) := by decide +kernel
theorem dX9_init_124 : decode cX9_init 124 = .ok (.putfield 56, 3) := by decide +kernel
theorem dX9_init_127 : decode cX9_init 127 = .ok (.aload_n 0, 1) := by decide +kernel
theorem dX9_init_128 : decode cX9_init 128 = .ok (.sipush 1600, 3) := by decide +kernel
theorem dX9_init_131 : decode cX9_init 131 = .ok (.newarray .long, 2) := by decide +kernel
theorem dX9_init_133 : decode cX9_init 133 = .ok (.putfield 59, 3) := by decide +kernel
theorem dX9_init_136 : decode cX9_init 136 = .ok (.aload_n 0, 1) := by decide +kernel
theorem dX9_init_137 : decode cX9_init 137 = .ok (.sipush 200, 3) := by decide +kernel
theorem dX9_init_140 : decode cX9_init 140 = .ok (.newarray .long, 2) := by decide +kernel
theorem dX9_init_142 : decode cX9_init 142 = .ok (.putfield 63, 3) := by decide +kernel
theorem dX9_init_145 : decode cX9_init 145 = .ok (.aload_n 0, 1) := by decide +kernel
theorem dX9_init_146 : decode cX9_init 146 = .ok (.sipush 200, 3) := by decide +kernel
theorem dX9_init_149 : decode cX9_init 149 = .ok (.newarray .boolean, 2) := by decide +kernel
theorem dX9_init_151 : decode cX9_init 151 = .ok (.putfield 66, 3) := by decide +kernel
theorem dX9_init_154 : decode cX9_init 154 = .ok (.aload_n 0, 1) := by decide +kernel
theorem dX9_init_155 : decode cX9_init 155 = .ok (.sipush 200, 3) := by decide +kernel
theorem dX9_init_158 : decode cX9_init 158 = .ok (.newarray .long, 2) := by decide +kernel
theorem dX9_init_160 : decode cX9_init 160 = .ok (.putfield 70, 3) := by decide +kernel
theorem dX9_init_163 : decode cX9_init 163 = .ok (.aload_n 0, 1) := by decide +kernel
theorem dX9_init_164 : decode cX9_init 164 = .ok (.ldc 73, 2) := by decide +kernel
theorem dX9_init_166 : decode cX9_init 166 = .ok (.newarray .boolean, 2) := by decide +kernel
theorem dX9_init_168 : decode cX9_init 168 = .ok (.putfield 74, 3) := by decide +kernel
theorem dX9_init_171 : decode cX9_init 171 = .ok (.aload_n 0, 1) := by decide +kernel
theorem dX9_init_172 : decode cX9_init 172 = .ok (.sipush 200, 3) := by decide +kernel
theorem dX9_init_175 : decode cX9_init 175 = .ok (.newarray .boolean, 2) := by decide +kernel
theorem dX9_init_177 : decode cX9_init 177 = .ok (.putfield 77, 3) := by decide +kernel
theorem dX9_init_180 : decode cX9_init 180 = .ok (.aload_n 0, 1) := by decide +kernel
theorem dX9_init_181 : decode cX9_init 181 = .ok (.sipush 200, 3) := by decide +kernel
theorem dX9_init_184 : decode cX9_init 184 = .ok (.newarray .int, 2) := by decide +kernel
theorem dX9_init_186 : decode cX9_init 186 = .ok (.putfield 80, 3) := by decide +kernel
theorem dX9_init_189 : decode cX9_init 189 = .ok (.aload_n 0, 1) := by decide +kernel
theorem dX9_init_190 : decode cX9_init 190 = .ok (.sipush 1500, 3) := by decide +kernel
theorem dX9_init_193 : decode cX9_init 193 = .ok (.newarray .int, 2) := by decide +kernel
theorem dX9_init_195 : decode cX9_init 195 = .ok (.putfield 83, 3) := by decide +kernel
theorem dX9_init_198 : decode cX9_init 198 = .ok (.return_, 1) := by decide +kernel
theorem dX9_thrown_0 : decode cX9_thrown 0 = .ok (.aload_n 0, 1) := by decide +kernel
theorem dX9_thrown_1 : decode cX9_thrown 1 = .ok (.getfield 86, 3) := by decide +kernel
theorem dX9_thrown_4 : decode cX9_thrown 4 = .ok (.ireturn, 1) := by decide +kernel
theorem dX9_in_0 : decode cX9_in 0 = .ok (.iload_n 0, 1) := by decide +kernel
theorem dX9_in_1 : decode cX9_in 1 = .ok (.iload_n 1, 1) := by decide +kernel
theorem dX9_in_2 : decode cX9_in 2 = .ok (.if_icmp .lt 12, 3) := by decide +kernel
theorem dX9_in_5 : decode cX9_in 5 = .ok (.iload_n 0, 1) := by decide +kernel
theorem dX9_in_6 : decode cX9_in 6 = .ok (.iload_n 2, 1) := by decide +kernel
theorem dX9_in_7 : decode cX9_in 7 = .ok (.if_icmp .gt 7, 3) := by decide +kernel
theorem dX9_in_10 : decode cX9_in 10 = .ok (.iconst 1, 1) := by decide +kernel
theorem dX9_in_11 : decode cX9_in 11 = .ok (.goto 4, 3) := by decide +kernel
theorem dX9_in_14 : decode cX9_in 14 = .ok (.iconst 0, 1) := by decide +kernel
theorem dX9_in_15 : decode cX9_in 15 = .ok (.ireturn, 1) := by decide +kernel
theorem dX9_put_0 : decode cX9_put 0 = .ok (.aload_n 0, 1) := by decide +kernel
theorem dX9_put_1 : decode cX9_put 1 = .ok (.iconst 0, 1) := by decide +kernel
theorem dX9_put_2 : decode cX9_put 2 = .ok (.putfield 86, 3) := by decide +kernel
theorem dX9_put_5 : decode cX9_put 5 = .ok (.iload_n 1, 1) := by decide +kernel
theorem dX9_put_6 : decode cX9_put 6 = .ok (.iconst 1, 1) := by decide +kernel
theorem dX9_put_7 : decode cX9_put 7 = .ok (.iconst 4, 1) := by decide +kernel
theorem dX9_put_8 : decode cX9_put 8 = .ok (.invokestatic 89, 3) := by decide +kernel
theorem dX9_put_11 : decode cX9_put 11 = .ok (.ifCond .ne 6, 3) := by decide +kernel
theorem dX9_put_14 : decode cX9_put 14 = .ok (.bipush (-3), 2) := by decide +kernel
theorem dX9_put_16 : decode cX9_put 16 = .ok (.ireturn, 1) := by decide +kernel
theorem dX9_put_17 : decode cX9_put 17 = .ok (.aload_n 0, 1) := by decide +kernel
theorem dX9_put_18 : decode cX9_put 18 = .ok (.getfield 93, 3) := by decide +kernel
theorem dX9_put_21 : decode cX9_put 21 = .ok (.iload_n 1, 1) := by decide +kernel
theorem dX9_put_22 : decode cX9_put 22 = .ok (.iadd, 1) := by decide +kernel
theorem dX9_put_23 : decode cX9_put 23 = .ok (.sipush 1000, 3) := by decide +kernel
theorem dX9_put_26 : decode cX9_put 26 = .ok (.if_icmp .le 6, 3) := by decide +kernel
theorem dX9_put_29 : decode cX9_put 29 = .ok (.bipush (-5), 2) := by decide +kernel
theorem dX9_put_31 : decode cX9_put 31 = .ok (.ireturn, 1) := by decide +kernel
theorem dX9_put_32 : decode cX9_put 32 = .ok (.iconst 0, 1) := by decide +kernel
theorem dX9_put_33 : decode cX9_put 33 = .ok (.istore 6, 2) := by decide +kernel
theorem dX9_put_35 : decode cX9_put 35 = .ok (.iload 6, 2) := by decide +kernel
theorem dX9_put_37 : decode cX9_put 37 = .ok (.iload_n 1, 1) := by decide +kernel
theorem dX9_put_38 : decode cX9_put 38 = .ok (.if_icmp .ge 60, 3) := by decide +kernel
theorem dX9_put_41 : decode cX9_put 41 = .ok (.aload_n 0, 1) := by decide +kernel
theorem dX9_put_42 : decode cX9_put 42 = .ok (.getfield 7, 3) := by decide +kernel
theorem dX9_put_45 : decode cX9_put 45 = .ok (.aload_n 0, 1) := by decide +kernel
theorem dX9_put_46 : decode cX9_put 46 = .ok (.getfield 93, 3) := by decide +kernel
theorem dX9_put_49 : decode cX9_put 49 = .ok (.iload 6, 2) := by decide +kernel
theorem dX9_put_51 : decode cX9_put 51 = .ok (.ifCond .ne 7, 3) := by decide +kernel
theorem dX9_put_54 : decode cX9_put 54 = .ok (.iload_n 2, 1) := by decide +kernel
theorem dX9_put_55 : decode cX9_put 55 = .ok (.goto 26, 3) := by decide +kernel
theorem dX9_put_58 : decode cX9_put 58 = .ok (.iload 6, 2) := by decide +kernel
theorem dX9_put_60 : decode cX9_put 60 = .ok (.iconst 1, 1) := by decide +kernel
theorem dX9_put_61 : decode cX9_put 61 = .ok (.if_icmp .ne 7, 3) := by decide +kernel
theorem dX9_put_64 : decode cX9_put 64 = .ok (.iload_n 3, 1) := by decide +kernel
theorem dX9_put_65 : decode cX9_put 65 = .ok (.goto 16, 3) := by decide +kernel
theorem dX9_put_68 : decode cX9_put 68 = .ok (.iload 6, 2) := by decide +kernel
theorem dX9_put_70 : decode cX9_put 70 = .ok (.iconst 2, 1) := by decide +kernel
theorem dX9_put_71 : decode cX9_put 71 = .ok (.if_icmp .ne 8, 3) := by decide +kernel
theorem dX9_put_74 : decode cX9_put 74 = .ok (.iload 4, 2) := by decide +kernel
theorem dX9_put_76 : decode cX9_put 76 = .ok (.goto 5, 3) := by decide +kernel
theorem dX9_put_79 : decode cX9_put 79 = .ok (.iload 5, 2) := by decide +kernel
theorem dX9_put_81 : decode cX9_put 81 = .ok (.iastore, 1) := by decide +kernel
theorem dX9_put_82 : decode cX9_put 82 = .ok (.aload_n 0, 1) := by decide +kernel
theorem dX9_put_83 : decode cX9_put 83 = .ok (.dup, 1) := by decide +kernel
theorem dX9_put_84 : decode cX9_put 84 = .ok (.getfield 93, 3) := by decide +kernel
theorem dX9_put_87 : decode cX9_put 87 = .ok (.iconst 1, 1) := by decide +kernel
theorem dX9_put_88 : decode cX9_put 88 = .ok (.iadd, 1) := by decide +kernel
theorem dX9_put_89 : decode cX9_put 89 = .ok (.putfield 93, 3) := by decide +kernel
theorem dX9_put_92 : decode cX9_put 92 = .ok (.iinc 6 1, 3) := by decide +kernel
theorem dX9_put_95 : decode cX9_put 95 = .ok (.goto (-60), 3) := by decide +kernel
theorem dX9_put_98 : decode cX9_put 98 = .ok (.aload_n 0, 1) := by decide +kernel
theorem dX9_put_99 : decode cX9_put 99 = .ok (.getfield 93, 3) := by decide +kernel
theorem dX9_put_102 : decode cX9_put 102 = .ok (.ireturn, 1) := by decide +kernel
theorem dX9_drop_0 : decode cX9_drop 0 = .ok (.aload_n 0, 1) := by decide +kernel
theorem dX9_drop_1 : decode cX9_drop 1 = .ok (.iconst 0, 1) := by decide +kernel
theorem dX9_drop_2 : decode cX9_drop 2 = .ok (.putfield 86, 3) := by decide +kernel
theorem dX9_drop_5 : decode cX9_drop 5 = .ok (.aload_n 0, 1) := by decide +kernel
theorem dX9_drop_6 : decode cX9_drop 6 = .ok (.getfield 93, 3) := by decide +kernel
theorem dX9_drop_9 : decode cX9_drop 9 = .ok (.istore_n 1, 1) := by decide +kernel
theorem dX9_drop_10 : decode cX9_drop 10 = .ok (.aload_n 0, 1) := by decide +kernel
theorem dX9_drop_11 : decode cX9_drop 11 = .ok (.iconst 0, 1) := by decide +kernel
theorem dX9_drop_12 : decode cX9_drop 12 = .ok (.putfield 93, 3) := by decide +kernel
theorem dX9_drop_15 : decode cX9_drop 15 = .ok (.iload_n 1, 1) := by decide +kernel
theorem dX9_drop_16 : decode cX9_drop 16 = .ok (.ireturn, 1) := by decide +kernel
theorem dX9_next_0 : decode cX9_next 0 = .ok (.aload_n 0, 1) := by decide +kernel
theorem dX9_next_1 : decode cX9_next 1 = .ok (.getfield 96, 3) := by decide +kernel
theorem dX9_next_4 : decode cX9_next 4 = .ok (.ifCond .eq 5, 3) := by decide +kernel
theorem dX9_next_7 : decode cX9_next 7 = .ok (.iload_n 1, 1) := by decide +kernel
theorem dX9_next_8 : decode cX9_next 8 = .ok (.ireturn, 1) := by decide +kernel
theorem dX9_next_9 : decode cX9_next 9 = .ok (.aload_n 0, 1) := by decide +kernel
theorem dX9_next_10 : decode cX9_next 10 = .ok (.getfield 100, 3) := by decide +kernel
theorem dX9_next_13 : decode cX9_next 13 = .ok (.aload_n 0, 1) := by decide +kernel
theorem dX9_next_14 : decode cX9_next 14 = .ok (.getfield 93, 3) := by decide +kernel
theorem dX9_next_17 : decode cX9_next 17 = .ok (.if_icmp .ge 20, 3) := by decide +kernel
theorem dX9_next_20 : decode cX9_next 20 = .ok (.aload_n 0, 1) := by decide +kernel
theorem dX9_next_21 : decode cX9_next 21 = .ok (.getfield 7, 3) := by decide +kernel
theorem dX9_next_24 : decode cX9_next 24 = .ok (.aload_n 0, 1) := by decide +kernel
theorem dX9_next_25 : decode cX9_next 25 = .ok (.getfield 100, 3) := by decide +kernel
theorem dX9_next_28 : decode cX9_next 28 = .ok (.iaload, 1) := by decide +kernel
theorem dX9_next_29 : decode cX9_next 29 = .ok (.iload_n 1, 1) := by decide +kernel
theorem dX9_next_30 : decode cX9_next 30 = .ok (.iload_n 2, 1) := by decide +kernel
theorem dX9_next_31 : decode cX9_next 31 = .ok (.invokestatic 89, 3) := by decide +kernel
theorem dX9_next_34 : decode cX9_next 34 = .ok (.ifCond .ne 10, 3) := by decide +kernel
theorem dX9_next_37 : decode cX9_next 37 = .ok (.aload_n 0, 1) := by decide +kernel
theorem dX9_next_38 : decode cX9_next 38 = .ok (.iconst 1, 1) := by decide +kernel
theorem dX9_next_39 : decode cX9_next 39 = .ok (.putfield 96, 3) := by decide +kernel
theorem dX9_next_42 : decode cX9_next 42 = .ok (.iload_n 1, 1) := by decide +kernel
theorem dX9_next_43 : decode cX9_next 43 = .ok (.ireturn, 1) := by decide +kernel
theorem dX9_next_44 : decode cX9_next 44 = .ok (.aload_n 0, 1) := by decide +kernel
theorem dX9_next_45 : decode cX9_next 45 = .ok (.dup, 1) := by decide +kernel
theorem dX9_next_46 : decode cX9_next 46 = .ok (.getfield 100, 3) := by decide +kernel
theorem dX9_next_49 : decode cX9_next 49 = .ok (.iconst 1, 1) := by decide +kernel
theorem dX9_next_50 : decode cX9_next 50 = .ok (.iadd, 1) := by decide +kernel
theorem dX9_next_51 : decode cX9_next 51 = .ok (.putfield 100, 3) := by decide +kernel
theorem dX9_next_54 : decode cX9_next 54 = .ok (.aload_n 0, 1) := by decide +kernel
theorem dX9_next_55 : decode cX9_next 55 = .ok (.getfield 7, 3) := by decide +kernel
theorem dX9_next_58 : decode cX9_next 58 = .ok (.aload_n 0, 1) := by decide +kernel
theorem dX9_next_59 : decode cX9_next 59 = .ok (.getfield 100, 3) := by decide +kernel
theorem dX9_next_62 : decode cX9_next 62 = .ok (.iconst 1, 1) := by decide +kernel
theorem dX9_next_63 : decode cX9_next 63 = .ok (.isub, 1) := by decide +kernel
theorem dX9_next_64 : decode cX9_next 64 = .ok (.iaload, 1) := by decide +kernel
theorem dX9_next_65 : decode cX9_next 65 = .ok (.ireturn, 1) := by decide +kernel
theorem dX9_go_0 : decode cX9_go 0 = .ok (.aload_n 0, 1) := by decide +kernel
theorem dX9_go_1 : decode cX9_go 1 = .ok (.iconst 0, 1) := by decide +kernel
theorem dX9_go_2 : decode cX9_go 2 = .ok (.putfield 100, 3) := by decide +kernel
theorem dX9_go_5 : decode cX9_go 5 = .ok (.aload_n 0, 1) := by decide +kernel
theorem dX9_go_6 : decode cX9_go 6 = .ok (.iconst 0, 1) := by decide +kernel
theorem dX9_go_7 : decode cX9_go 7 = .ok (.putfield 96, 3) := by decide +kernel
theorem dX9_go_10 : decode cX9_go 10 = .ok (.aload_n 0, 1) := by decide +kernel
theorem dX9_go_11 : decode cX9_go 11 = .ok (.iconst 1, 1) := by decide +kernel
theorem dX9_go_12 : decode cX9_go 12 = .ok (.bipush 8, 2) := by decide +kernel
theorem dX9_go_14 : decode cX9_go 14 = .ok (.invokevirtual 103, 3) := by decide +kernel
theorem dX9_go_17 : decode cX9_go 17 = .ok (.istore_n 1, 1) := by decide +kernel
theorem dX9_go_18 : decode cX9_go 18 = .ok (.iconst 0, 1) := by decide +kernel
theorem dX9_go_19 : decode cX9_go 19 = .ok (.istore_n 2, 1) := by decide +kernel
theorem dX9_go_20 : decode cX9_go 20 = .ok (.iload_n 2, 1) := by decide +kernel
theorem dX9_go_21 : decode cX9_go 21 = .ok (.iload_n 1, 1) := by decide +kernel
theorem dX9_go_22 : decode cX9_go 22 = .ok (.if_icmp .ge 77, 3) := by decide +kernel
theorem dX9_go_25 : decode cX9_go 25 = .ok (.aload_n 0, 1) := by decide +kernel
theorem dX9_go_26 : decode cX9_go 26 = .ok (.getfield 96, 3) := by decide +kernel
theorem dX9_go_29 : decode cX9_go 29 = .ok (.ifCond .ne 70, 3) := by decide +kernel
theorem dX9_go_32 : decode cX9_go 32 = .ok (.aload_n 0, 1) := by decide +kernel
theorem dX9_go_33 : decode cX9_go 33 = .ok (.sipush (-1000), 3) := by decide +kernel
theorem dX9_go_36 : decode cX9_go 36 = .ok (.sipush 1000, 3) := by decide +kernel
theorem dX9_go_39 : decode cX9_go 39 = .ok (.invokevirtual 103, 3) := by decide +kernel
theorem dX9_go_42 : decode cX9_go 42 = .ok (.istore_n 3, 1) := by decide +kernel
theorem dX9_go_43 : decode cX9_go 43 = .ok (.aload_n 0, 1) := by decide +kernel
theorem dX9_go_44 : decode cX9_go 44 = .ok (.iload_n 3, 1) := by decide +kernel
theorem dX9_go_45 : decode cX9_go 45 = .ok (.sipush 1000, 3) := by decide +kernel
theorem dX9_go_48 : decode cX9_go 48 = .ok (.invokevirtual 103, 3) := by decide +kernel
theorem dX9_go_51 : decode cX9_go 51 = .ok (.istore 4, 2) := by decide +kernel
theorem dX9_go_53 : decode cX9_go 53 = .ok (.aload_n 0, 1) := by decide +kernel
theorem dX9_go_54 : decode cX9_go 54 = .ok (.bipush (-100), 2) := by decide +kernel
theorem dX9_go_56 : decode cX9_go 56 = .ok (.bipush 100, 2) := by decide +kernel
theorem dX9_go_58 : decode cX9_go 58 = .ok (.invokevirtual 103, 3) := by decide +kernel
theorem dX9_go_61 : decode cX9_go 61 = .ok (.istore 5, 2) := by decide +kernel
theorem dX9_go_63 : decode cX9_go 63 = .ok (.aload_n 0, 1) := by decide +kernel
theorem dX9_go_64 : decode cX9_go 64 = .ok (.getfield 107, 3) := by decide +kernel
theorem dX9_go_67 : decode cX9_go 67 = .ok (.ifCond .eq 26, 3) := by decide +kernel
theorem dX9_go_70 : decode cX9_go 70 = .ok (.aload_n 0, 1) := by decide +kernel
theorem dX9_go_71 : decode cX9_go 71 = .ok (.getfield 13, 3) := by decide +kernel
theorem dX9_go_74 : decode cX9_go 74 = .ok (.iload_n 2, 1) := by decide +kernel
theorem dX9_go_75 : decode cX9_go 75 = .ok (.iload_n 3, 1) := by decide +kernel
theorem dX9_go_76 : decode cX9_go 76 = .ok (.iastore, 1) := by decide +kernel
theorem dX9_go_77 : decode cX9_go 77 = .ok (.aload_n 0, 1) := by decide +kernel
theorem dX9_go_78 : decode cX9_go 78 = .ok (.getfield 16, 3) := by decide +kernel
theorem dX9_go_81 : decode cX9_go 81 = .ok (.iload_n 2, 1) := by decide +kernel
theorem dX9_go_82 : decode cX9_go 82 = .ok (.iload 4, 2) := by decide +kernel
theorem dX9_go_84 : decode cX9_go 84 = .ok (.iastore, 1) := by decide +kernel
theorem dX9_go_85 : decode cX9_go 85 = .ok (.aload_n 0, 1) := by decide +kernel
theorem dX9_go_86 : decode cX9_go 86 = .ok (.getfield 19, 3) := by decide +kernel
theorem dX9_go_89 : decode cX9_go 89 = .ok (.iload_n 2, 1) := by decide +kernel
theorem dX9_go_90 : decode cX9_go 90 = .ok (.iload 5, 2) := by decide +kernel
theorem dX9_go_92 : decode cX9_go 92 = .ok (.iastore, 1) := by decide +kernel
theorem dX9_go_93 : decode cX9_go 93 = .ok (.iinc 2 1, 3) := by decide +kernel
theorem dX9_go_96 : decode cX9_go 96 = .ok (.goto (-76), 3) := by decide +kernel
theorem dX9_go_99 : decode cX9_go 99 = .ok (.aload_n 0, 1) := by decide +kernel
theorem dX9_go_100 : decode cX9_go 100 = .ok (.iconst 0, 1) := by decide +kernel
theorem dX9_go_101 : decode cX9_go 101 = .ok (.bipush 20, 2) := by decide +kernel
theorem dX9_go_103 : decode cX9_go 103 = .ok (.invokevirtual 103, 3) := by decide +kernel
theorem dX9_go_106 : decode cX9_go 106 = .ok (.istore_n 2, 1) := by decide +kernel
theorem dX9_go_107 : decode cX9_go 107 = .ok (.iconst 0, 1) := by decide +kernel
theorem dX9_go_108 : decode cX9_go 108 = .ok (.istore_n 3, 1) := by decide +kernel
theorem dX9_go_109 : decode cX9_go 109 = .ok (.iload_n 3, 1) := by decide +kernel
theorem dX9_go_110 : decode cX9_go 110 = .ok (.iload_n 2, 1) := by decide +kernel
theorem dX9_go_111 : decode cX9_go 111 = .ok (.if_icmp .ge 87, 3) := by decide +kernel
theorem dX9_go_114 : decode cX9_go 114 = .ok (.aload_n 0, 1) := by decide +kernel
theorem dX9_go_115 : decode cX9_go 115 = .ok (.getfield 96, 3) := by decide +kernel
theorem dX9_go_118 : decode cX9_go 118 = .ok (.ifCond .ne 80, 3) := by decide +kernel
theorem dX9_go_121 : decode cX9_go 121 = .ok (.iconst 0, 1) := by decide +kernel
theorem dX9_go_122 : decode cX9_go 122 = .ok (.istore 4, 2) := by decide +kernel
theorem dX9_go_124 : decode cX9_go 124 = .ok (.iload 4, 2) := by decide +kernel
theorem dX9_go_126 : decode cX9_go 126 = .ok (.iload_n 1, 1) := by decide +kernel
theorem dX9_go_127 : decode cX9_go 127 = .ok (.if_icmp .ge 40, 3) := by decide +kernel
theorem dX9_go_130 : decode cX9_go 130 = .ok (.aload_n 0, 1) := by decide +kernel
theorem dX9_go_131 : decode cX9_go 131 = .ok (.bipush (-100), 2) := by decide +kernel
theorem dX9_go_133 : decode cX9_go 133 = .ok (.bipush 100, 2) := by decide +kernel
theorem dX9_go_135 : decode cX9_go 135 = .ok (.invokevirtual 103, 3) := by decide +kernel
theorem dX9_go_138 : decode cX9_go 138 = .ok (.istore 5, 2) := by decide +kernel
theorem dX9_go_140 : decode cX9_go 140 = .ok (.aload_n 0, 1) := by decide +kernel
theorem dX9_go_141 : decode cX9_go 141 = .ok (.getfield 107, 3) := by decide +kernel
theorem dX9_go_144 : decode cX9_go 144 = .ok (.ifCond .eq 17, 3) := by decide +kernel
theorem dX9_go_147 : decode cX9_go 147 = .ok (.aload_n 0, 1) := by decide +kernel
theorem dX9_go_148 : decode cX9_go 148 = .ok (.getfield 22, 3) := by decide +kernel
theorem dX9_go_151 : decode cX9_go 151 = .ok (.bipush 8, 2) := by decide +kernel
theorem dX9_go_153 : decode cX9_go 153 = .ok (.iload_n 3, 1) := by decide +kernel
theorem dX9_go_154 : decode cX9_go 154 = .ok (.imul, 1) := by decide +kernel
theorem dX9_go_155 : decode cX9_go 155 = .ok (.iload 4, 2) := by decide +kernel
theorem dX9_go_157 : decode cX9_go 157 = .ok (.iadd, 1) := by decide +kernel
theorem dX9_go_158 : decode cX9_go 158 = .ok (.iload 5, 2) := by decide +kernel
theorem dX9_go_160 : decode cX9_go 160 = .ok (.iastore, 1) := by decide +kernel
theorem dX9_go_161 : decode cX9_go 161 = .ok (.iinc 4 1, 3) := by decide +kernel
theorem dX9_go_164 : decode cX9_go 164 = .ok (.goto (-40), 3) := by decide +kernel
theorem dX9_go_167 : decode cX9_go 167 = .ok (.aload_n 0, 1) := by decide +kernel
theorem dX9_go_168 : decode cX9_go 168 = .ok (.ldc 110, 2) := by decide +kernel
theorem dX9_go_170 : decode cX9_go 170 = .ok (.ldc 111, 2) := by decide +kernel
theorem dX9_go_172 : decode cX9_go 172 = .ok (.invokevirtual 103, 3) := by decide +kernel
theorem dX9_go_175 : decode cX9_go 175 = .ok (.istore 4, 2) := by decide +kernel
theorem dX9_go_177 : decode cX9_go 177 = .ok (.aload_n 0, 1) := by decide +kernel
theorem dX9_go_178 : decode cX9_go 178 = .ok (.getfield 107, 3) := by decide +kernel
theorem dX9_go_181 : decode cX9_go 181 = .ok (.ifCond .eq 11, 3) := by decide +kernel
theorem dX9_go_184 : decode cX9_go 184 = .ok (.aload_n 0, 1) := by decide +kernel
theorem dX9_go_185 : decode cX9_go 185 = .ok (.getfield 25, 3) := by decide +kernel
theorem dX9_go_188 : decode cX9_go 188 = .ok (.iload_n 3, 1) := by decide +kernel
theorem dX9_go_189 : decode cX9_go 189 = .ok (.iload 4, 2) := by decide +kernel
theorem dX9_go_191 : decode cX9_go 191 = .ok (.iastore, 1) := by decide +kernel
theorem dX9_go_192 : decode cX9_go 192 = .ok (.iinc 3 1, 3) := by decide +kernel
theorem dX9_go_195 : decode cX9_go 195 = .ok (.goto (-86), 3) := by decide +kernel
theorem dX9_go_198 : decode cX9_go 198 = .ok (.aload_n 0, 1) := by decide +kernel
theorem dX9_go_199 : decode cX9_go 199 = .ok (.iconst 0, 1) := by decide +kernel
theorem dX9_go_200 : decode cX9_go 200 = .ok (.iconst 4, 1) := by decide +kernel
theorem dX9_go_201 : decode cX9_go 201 = .ok (.invokevirtual 103, 3) := by decide +kernel
theorem dX9_go_204 : decode cX9_go 204 = .ok (.istore_n 3, 1) := by decide +kernel
theorem dX9_go_205 : decode cX9_go 205 = .ok (.iconst 0, 1) := by decide +kernel
theorem dX9_go_206 : decode cX9_go 206 = .ok (.istore 4, 2) := by decide +kernel
theorem dX9_go_208 : decode cX9_go 208 = .ok (.iload 4, 2) := by decide +kernel
theorem dX9_go_210 : decode cX9_go 210 = .ok (.iload_n 3, 1) := by decide +kernel
theorem dX9_go_211 : decode cX9_go 211 = .ok (.if_icmp .ge 192, 3) := by decide +kernel
theorem dX9_go_214 : decode cX9_go 214 = .ok (.aload_n 0, 1) := by decide +kernel
theorem dX9_go_215 : decode cX9_go 215 = .ok (.getfield 96, 3) := by decide +kernel
theorem dX9_go_218 : decode cX9_go 218 = .ok (.ifCond .ne 185, 3) := by decide +kernel
theorem dX9_go_221 : decode cX9_go 221 = .ok (.aload_n 0, 1) := by decide +kernel
theorem dX9_go_222 : decode cX9_go 222 = .ok (.iconst 0, 1) := by decide +kernel
theorem dX9_go_223 : decode cX9_go 223 = .ok (.iload_n 1, 1) := by decide +kernel
theorem dX9_go_224 : decode cX9_go 224 = .ok (.iconst 1, 1) := by decide +kernel
theorem dX9_go_225 : decode cX9_go 225 = .ok (.isub, 1) := by decide +kernel
theorem dX9_go_226 : decode cX9_go 226 = .ok (.invokevirtual 103, 3) := by decide +kernel
theorem dX9_go_229 : decode cX9_go 229 = .ok (.istore 5, 2) := by decide +kernel
theorem dX9_go_231 : decode cX9_go 231 = .ok (.aload_n 0, 1) := by decide +kernel
theorem dX9_go_232 : decode cX9_go 232 = .ok (.iconst 0, 1) := by decide +kernel
theorem dX9_go_233 : decode cX9_go 233 = .ok (.iload_n 1, 1) := by decide +kernel
theorem dX9_go_234 : decode cX9_go 234 = .ok (.iconst 1, 1) := by decide +kernel
theorem dX9_go_235 : decode cX9_go 235 = .ok (.isub, 1) := by decide +kernel
theorem dX9_go_236 : decode cX9_go 236 = .ok (.invokevirtual 103, 3) := by decide +kernel
theorem dX9_go_239 : decode cX9_go 239 = .ok (.istore 6, 2) := by decide +kernel
theorem dX9_go_241 : decode cX9_go 241 = .ok (.aload_n 0, 1) := by decide +kernel
theorem dX9_go_242 : decode cX9_go 242 = .ok (.getfield 96, 3) := by decide +kernel
theorem dX9_go_245 : decode cX9_go 245 = .ok (.ifCond .ne 25, 3) := by decide +kernel
theorem dX9_go_248 : decode cX9_go 248 = .ok (.iload 5, 2) := by decide +kernel
theorem dX9_go_250 : decode cX9_go 250 = .ok (.iload 6, 2) := by decide +kernel
theorem dX9_go_252 : decode cX9_go 252 = .ok (.if_icmp .ne 18, 3) := by decide +kernel
theorem dX9_go_255 : decode cX9_go 255 = .ok (.aload_n 0, 1) := by decide +kernel
theorem dX9_go_256 : decode cX9_go 256 = .ok (.iconst 1, 1) := by decide +kernel
theorem dX9_go_257 : decode cX9_go 257 = .ok (.putfield 96, 3) := by decide +kernel
theorem dX9_go_260 : decode cX9_go 260 = .ok (.aload_n 0, 1) := by decide +kernel
theorem dX9_go_261 : decode cX9_go 261 = .ok (.dup, 1) := by decide +kernel
theorem dX9_go_262 : decode cX9_go 262 = .ok (.getfield 100, 3) := by decide +kernel
theorem dX9_go_265 : decode cX9_go 265 = .ok (.iconst 1, 1) := by decide +kernel
theorem dX9_go_266 : decode cX9_go 266 = .ok (.isub, 1) := by decide +kernel
theorem dX9_go_267 : decode cX9_go 267 = .ok (.putfield 100, 3) := by decide +kernel
theorem dX9_go_270 : decode cX9_go 270 = .ok (.aload_n 0, 1) := by decide +kernel
theorem dX9_go_271 : decode cX9_go 271 = .ok (.iconst 1, 1) := by decide +kernel
theorem dX9_go_272 : decode cX9_go 272 = .ok (.bipush 20, 2) := by decide +kernel
theorem dX9_go_274 : decode cX9_go 274 = .ok (.invokevirtual 103, 3) := by decide +kernel
theorem dX9_go_277 : decode cX9_go 277 = .ok (.istore 7, 2) := by decide +kernel
theorem dX9_go_279 : decode cX9_go 279 = .ok (.aload_n 0, 1) := by decide +kernel
theorem dX9_go_280 : decode cX9_go 280 = .ok (.getfield 107, 3) := by decide +kernel
theorem dX9_go_283 : decode cX9_go 283 = .ok (.ifCond .eq 30, 3) := by decide +kernel
theorem dX9_go_286 : decode cX9_go 286 = .ok (.aload_n 0, 1) := by decide +kernel
theorem dX9_go_287 : decode cX9_go 287 = .ok (.getfield 28, 3) := by decide +kernel
theorem dX9_go_290 : decode cX9_go 290 = .ok (.iload 4, 2) := by decide +kernel
theorem dX9_go_292 : decode cX9_go 292 = .ok (.iload 5, 2) := by decide +kernel
theorem dX9_go_294 : decode cX9_go 294 = .ok (.iastore, 1) := by decide +kernel
theorem dX9_go_295 : decode cX9_go 295 = .ok (.aload_n 0, 1) := by decide +kernel
theorem dX9_go_296 : decode cX9_go 296 = .ok (.getfield 31, 3) := by decide +kernel
theorem dX9_go_299 : decode cX9_go 299 = .ok (.iload 4, 2) := by decide +kernel
theorem dX9_go_301 : decode cX9_go 301 = .ok (.iload 6, 2) := by decide +kernel
theorem dX9_go_303 : decode cX9_go 303 = .ok (.iastore, 1) := by decide +kernel
theorem dX9_go_304 : decode cX9_go 304 = .ok (.aload_n 0, 1) := by decide +kernel
theorem dX9_go_305 : decode cX9_go 305 = .ok (.getfield 34, 3) := by decide +kernel
theorem dX9_go_308 : decode cX9_go 308 = .ok (.iload 4, 2) := by decide +kernel
theorem dX9_go_310 : decode cX9_go 310 = .ok (.iload 7, 2) := by decide +kernel
theorem dX9_go_312 : decode cX9_go 312 = .ok (.iastore, 1) := by decide +kernel
theorem dX9_go_313 : decode cX9_go 313 = .ok (.iconst 0, 1) := by decide +kernel
theorem dX9_go_314 : decode cX9_go 314 = .ok (.istore 8, 2) := by decide +kernel
theorem dX9_go_316 : decode cX9_go 316 = .ok (.iload 8, 2) := by decide +kernel
theorem dX9_go_318 : decode cX9_go 318 = .ok (.iload 7, 2) := by decide +kernel
theorem dX9_go_320 : decode cX9_go 320 = .ok (.if_icmp .ge 77, 3) := by decide +kernel
theorem dX9_go_323 : decode cX9_go 323 = .ok (.aload_n 0, 1) := by decide +kernel
theorem dX9_go_324 : decode cX9_go 324 = .ok (.getfield 96, 3) := by decide +kernel
theorem dX9_go_327 : decode cX9_go 327 = .ok (.ifCond .ne 70, 3) := by decide +kernel
theorem dX9_go_330 : decode cX9_go 330 = .ok (.aload_n 0, 1) := by decide +kernel
theorem dX9_go_331 : decode cX9_go 331 = .ok (.sipush (-1000), 3) := by decide +kernel
theorem dX9_go_334 : decode cX9_go 334 = .ok (.sipush 1000, 3) := by decide +kernel
theorem dX9_go_337 : decode cX9_go 337 = .ok (.invokevirtual 103, 3) := by decide +kernel
theorem dX9_go_340 : decode cX9_go 340 = .ok (.istore 9, 2) := by decide +kernel
theorem dX9_go_342 : decode cX9_go 342 = .ok (.aload_n 0, 1) := by decide +kernel
theorem dX9_go_343 : decode cX9_go 343 = .ok (.sipush (-1000), 3) := by decide +kernel
theorem dX9_go_346 : decode cX9_go 346 = .ok (.sipush 1000, 3) := by decide +kernel
theorem dX9_go_349 : decode cX9_go 349 = .ok (.invokevirtual 103, 3) := by decide +kernel
theorem dX9_go_352 : decode cX9_go 352 = .ok (.istore 10, 2) := by decide +kernel
theorem dX9_go_354 : decode cX9_go 354 = .ok (.aload_n 0, 1) := by decide +kernel
theorem dX9_go_355 : decode cX9_go 355 = .ok (.getfield 107, 3) := by decide +kernel
theorem dX9_go_358 : decode cX9_go 358 = .ok (.ifCond .eq 33, 3) := by decide +kernel
theorem dX9_go_361 : decode cX9_go 361 = .ok (.aload_n 0, 1) := by decide +kernel
theorem dX9_go_362 : decode cX9_go 362 = .ok (.getfield 37, 3) := by decide +kernel
theorem dX9_go_365 : decode cX9_go 365 = .ok (.bipush 20, 2) := by decide +kernel
theorem dX9_go_367 : decode cX9_go 367 = .ok (.iload 4, 2) := by decide +kernel
theorem dX9_go_369 : decode cX9_go 369 = .ok (.imul, 1) := by decide +kernel
theorem dX9_go_370 : decode cX9_go 370 = .ok (.iload 8, 2) := by decide +kernel
theorem dX9_go_372 : decode cX9_go 372 = .ok (.iadd, 1) := by decide +kernel
theorem dX9_go_373 : decode cX9_go 373 = .ok (.iload 9, 2) := by decide +kernel
theorem dX9_go_375 : decode cX9_go 375 = .ok (.iastore, 1) := by decide +kernel
theorem dX9_go_376 : decode cX9_go 376 = .ok (.aload_n 0, 1) := by decide +kernel
theorem dX9_go_377 : decode cX9_go 377 = .ok (.getfield 40, 3) := by decide +kernel
theorem dX9_go_380 : decode cX9_go 380 = .ok (.bipush 20, 2) := by decide +kernel
theorem dX9_go_382 : decode cX9_go 382 = .ok (.iload 4, 2) := by decide +kernel
theorem dX9_go_384 : decode cX9_go 384 = .ok (.imul, 1) := by decide +kernel
theorem dX9_go_385 : decode cX9_go 385 = .ok (.iload 8, 2) := by decide +kernel
theorem dX9_go_387 : decode cX9_go 387 = .ok (.iadd, 1) := by decide +kernel
theorem dX9_go_388 : decode cX9_go 388 = .ok (.iload 10, 2) := by decide +kernel
theorem dX9_go_390 : decode cX9_go 390 = .ok (.iastore, 1) := by decide +kernel
theorem dX9_go_391 : decode cX9_go 391 = .ok (.iinc 8 1, 3) := by decide +kernel
theorem dX9_go_394 : decode cX9_go 394 = .ok (.goto (-78), 3) := by decide +kernel
theorem dX9_go_397 : decode cX9_go 397 = .ok (.iinc 4 1, 3) := by decide +kernel
theorem dX9_go_400 : decode cX9_go 400 = .ok (.goto (-192), 3) := by decide +kernel
theorem dX9_go_403 : decode cX9_go 403 = .ok (.aload_n 0, 1) := by decide +kernel
theorem dX9_go_404 : decode cX9_go 404 = .ok (.getfield 96, 3) := by decide +kernel
theorem dX9_go_407 : decode cX9_go 407 = .ok (.ifCond .ne 19, 3) := by decide +kernel
theorem dX9_go_410 : decode cX9_go 410 = .ok (.aload_n 0, 1) := by decide +kernel
theorem dX9_go_411 : decode cX9_go 411 = .ok (.getfield 100, 3) := by decide +kernel
theorem dX9_go_414 : decode cX9_go 414 = .ok (.aload_n 0, 1) := by decide +kernel
theorem dX9_go_415 : decode cX9_go 415 = .ok (.getfield 93, 3) := by decide +kernel
theorem dX9_go_418 : decode cX9_go 418 = .ok (.if_icmp .ge 8, 3) := by decide +kernel
theorem dX9_go_421 : decode cX9_go 421 = .ok (.aload_n 0, 1) := by decide +kernel
theorem dX9_go_422 : decode cX9_go 422 = .ok (.iconst 1, 1) := by decide +kernel
theorem dX9_go_423 : decode cX9_go 423 = .ok (.putfield 96, 3) := by decide +kernel
theorem dX9_go_426 : decode cX9_go 426 = .ok (.aload_n 0, 1) := by decide +kernel
theorem dX9_go_427 : decode cX9_go 427 = .ok (.getfield 107, 3) := by decide +kernel
theorem dX9_go_430 : decode cX9_go 430 = .ok (.ifCond .eq 18, 3) := by decide +kernel
theorem dX9_go_433 : decode cX9_go 433 = .ok (.aload_n 0, 1) := by decide +kernel
theorem dX9_go_434 : decode cX9_go 434 = .ok (.iload_n 1, 1) := by decide +kernel
theorem dX9_go_435 : decode cX9_go 435 = .ok (.putfield 112, 3) := by decide +kernel
theorem dX9_go_438 : decode cX9_go 438 = .ok (.aload_n 0, 1) := by decide +kernel
theorem dX9_go_439 : decode cX9_go 439 = .ok (.iload_n 2, 1) := by decide +kernel
theorem dX9_go_440 : decode cX9_go 440 = .ok (.putfield 115, 3) := by decide +kernel
theorem dX9_go_443 : decode cX9_go 443 = .ok (.aload_n 0, 1) := by decide +kernel
theorem dX9_go_444 : decode cX9_go 444 = .ok (.iload_n 3, 1) := by decide +kernel
theorem dX9_go_445 : decode cX9_go 445 = .ok (.putfield 118, 3) := by decide +kernel
theorem dX9_go_448 : decode cX9_go 448 = .ok (.return_, 1) := by decide +kernel
theorem dX9_model_0 : decode cX9_model 0 = .ok (.aload_n 0, 1) := by decide +kernel
theorem dX9_model_1 : decode cX9_model 1 = .ok (.iconst 0, 1) := by decide +kernel
theorem dX9_model_2 : decode cX9_model 2 = .ok (.putfield 86, 3) := by decide +kernel
theorem dX9_model_5 : decode cX9_model 5 = .ok (.aload_n 0, 1) := by decide +kernel
theorem dX9_model_6 : decode cX9_model 6 = .ok (.iconst 0, 1) := by decide +kernel
theorem dX9_model_7 : decode cX9_model 7 = .ok (.putfield 107, 3) := by decide +kernel
theorem dX9_model_10 : decode cX9_model 10 = .ok (.aload_n 0, 1) := by decide +kernel
theorem dX9_model_11 : decode cX9_model 11 = .ok (.invokevirtual 121, 3) := by decide +kernel
theorem dX9_model_14 : decode cX9_model 14 = .ok (.aload_n 0, 1) := by decide +kernel
theorem dX9_model_15 : decode cX9_model 15 = .ok (.getfield 96, 3) := by decide +kernel
theorem dX9_model_18 : decode cX9_model 18 = .ok (.ifCond .eq 18, 3) := by decide +kernel
theorem dX9_model_21 : decode cX9_model 21 = .ok (.aload_n 0, 1) := by decide +kernel
theorem dX9_model_22 : decode cX9_model 22 = .ok (.getfield 100, 3) := by decide +kernel
theorem dX9_model_25 : decode cX9_model 25 = .ok (.istore_n 1, 1) := by decide +kernel
theorem dX9_model_26 : decode cX9_model 26 = .ok (.aload_n 0, 1) := by decide +kernel
theorem dX9_model_27 : decode cX9_model 27 = .ok (.iconst 0, 1) := by decide +kernel
theorem dX9_model_28 : decode cX9_model 28 = .ok (.putfield 93, 3) := by decide +kernel
theorem dX9_model_31 : decode cX9_model 31 = .ok (.bipush (-10), 2) := by decide +kernel
theorem dX9_model_33 : decode cX9_model 33 = .ok (.iload_n 1, 1) := by decide +kernel
theorem dX9_model_34 : decode cX9_model 34 = .ok (.isub, 1) := by decide +kernel
theorem dX9_model_35 : decode cX9_model 35 = .ok (.ireturn, 1) := by decide +kernel
theorem dX9_model_36 : decode cX9_model 36 = .ok (.aload_n 0, 1) := by decide +kernel
theorem dX9_model_37 : decode cX9_model 37 = .ok (.iconst 1, 1) := by decide +kernel
theorem dX9_model_38 : decode cX9_model 38 = .ok (.putfield 107, 3) := by decide +kernel
theorem dX9_model_41 : decode cX9_model 41 = .ok (.aload_n 0, 1) := by decide +kernel
theorem dX9_model_42 : decode cX9_model 42 = .ok (.invokevirtual 121, 3) := by decide +kernel
theorem dX9_model_45 : decode cX9_model 45 = .ok (.aload_n 0, 1) := by decide +kernel
theorem dX9_model_46 : decode cX9_model 46 = .ok (.bipush 17, 2) := by decide +kernel
theorem dX9_model_48 : decode cX9_model 48 = .ok (.putfield 124, 3) := by decide +kernel
theorem dX9_model_51 : decode cX9_model 51 = .ok (.iconst 0, 1) := by decide +kernel
theorem dX9_model_52 : decode cX9_model 52 = .ok (.istore_n 1, 1) := by decide +kernel
theorem dX9_model_53 : decode cX9_model 53 = .ok (.iload_n 1, 1) := by decide +kernel
theorem dX9_model_54 : decode cX9_model 54 = .ok (.aload_n 0, 1) := by decide +kernel
theorem dX9_model_55 : decode cX9_model 55 = .ok (.getfield 93, 3) := by decide +kernel
theorem dX9_model_58 : decode cX9_model 58 = .ok (.if_icmp .ge 27, 3) := by decide +kernel
theorem dX9_model_61 : decode cX9_model 61 = .ok (.aload_n 0, 1) := by decide +kernel
theorem dX9_model_62 : decode cX9_model 62 = .ok (.bipush 31, 2) := by decide +kernel
theorem dX9_model_64 : decode cX9_model 64 = .ok (.aload_n 0, 1) := by decide +kernel
theorem dX9_model_65 : decode cX9_model 65 = .ok (.getfield 124, 3) := by decide +kernel
theorem dX9_model_68 : decode cX9_model 68 = .ok (.imul, 1) := by decide +kernel
theorem dX9_model_69 : decode cX9_model 69 = .ok (.aload_n 0, 1) := by decide +kernel
theorem dX9_model_70 : decode cX9_model 70 = .ok (.getfield 7, 3) := by decide +kernel
theorem dX9_model_73 : decode cX9_model 73 = .ok (.iload_n 1, 1) := by decide +kernel
theorem dX9_model_74 : decode cX9_model 74 = .ok (.iaload, 1) := by decide +kernel
theorem dX9_model_75 : decode cX9_model 75 = .ok (.iadd, 1) := by decide +kernel
theorem dX9_model_76 : decode cX9_model 76 = .ok (.putfield 124, 3) := by decide +kernel
theorem dX9_model_79 : decode cX9_model 79 = .ok (.iinc 1 1, 3) := by decide +kernel
theorem dX9_model_82 : decode cX9_model 82 = .ok (.goto (-29), 3) := by decide +kernel
theorem dX9_model_85 : decode cX9_model 85 = .ok (.aload_n 0, 1) := by decide +kernel
theorem dX9_model_86 : decode cX9_model 86 = .ok (.iconst 0, 1) := by decide +kernel
theorem dX9_model_87 : decode cX9_model 87 = .ok (.putfield 93, 3) := by decide +kernel
theorem dX9_model_90 : decode cX9_model 90 = .ok (.aload_n 0, 1) := by decide +kernel
theorem dX9_model_91 : decode cX9_model 91 = .ok (.iconst 0, 1) := by decide +kernel
theorem dX9_model_92 : decode cX9_model 92 = .ok (.putfield 127, 3) := by decide +kernel
theorem dX9_model_95 : decode cX9_model 95 = .ok (.aload_n 0, 1) := by decide +kernel
theorem dX9_model_96 : decode cX9_model 96 = .ok (.invokevirtual 130, 3) := by decide +kernel
theorem dX9_model_99 : decode cX9_model 99 = .ok (.iconst 1, 1) := by decide +kernel
theorem dX9_model_100 : decode cX9_model 100 = .ok (.ireturn, 1) := by decide +kernel
theorem dX9_forget_0 : decode cX9_forget 0 = .ok (.aload_n 0, 1) := by decide +kernel
theorem dX9_forget_1 : decode cX9_forget 1 = .ok (.iconst 0, 1) := by decide +kernel
theorem dX9_forget_2 : decode cX9_forget 2 = .ok (.putfield 133, 3) := by decide +kernel
theorem dX9_forget_5 : decode cX9_forget 5 = .ok (.aload_n 0, 1) := by decide +kernel
theorem dX9_forget_6 : decode cX9_forget 6 = .ok (.iconst 0, 1) := by decide +kernel
theorem dX9_forget_7 : decode cX9_forget 7 = .ok (.putfield 136, 3) := by decide +kernel
theorem dX9_forget_10 : decode cX9_forget 10 = .ok (.aload_n 0, 1) := by decide +kernel
theorem dX9_forget_11 : decode cX9_forget 11 = .ok (.iconst 0, 1) := by decide +kernel
theorem dX9_forget_12 : decode cX9_forget 12 = .ok (.putfield 139, 3) := by decide +kernel
theorem dX9_forget_15 : decode cX9_forget 15 = .ok (.aload_n 0, 1) := by decide +kernel
theorem dX9_forget_16 : decode cX9_forget 16 = .ok (.iconst (-1), 1) := by decide +kernel
theorem dX9_forget_17 : decode cX9_forget 17 = .ok (.putfield 49, 3) := by decide +kernel
theorem dX9_forget_20 : decode cX9_forget 20 = .ok (.aload_n 0, 1) := by decide +kernel
theorem dX9_forget_21 : decode cX9_forget 21 = .ok (.iconst (-1), 1) := by decide +kernel
theorem dX9_forget_22 : decode cX9_forget 22 = .ok (.putfield 53, 3) := by decide +kernel
theorem dX9_forget_25 : decode cX9_forget 25 = .ok (.aload_n 0, 1) := by decide +kernel
theorem dX9_forget_26 : decode cX9_forget 26 = .ok (.iconst 1, 1) := by decide +kernel
theorem dX9_forget_27 : decode cX9_forget 27 = .ok (.putfield 142, 3) := by decide +kernel
theorem dX9_forget_30 : decode cX9_forget 30 = .ok (.aload_n 0, 1) := by decide +kernel
theorem dX9_forget_31 : decode cX9_forget 31 = .ok (.iconst 0, 1) := by decide +kernel
theorem dX9_forget_32 : decode cX9_forget 32 = .ok (.putfield 145, 3) := by decide +kernel
theorem dX9_forget_35 : decode cX9_forget 35 = .ok (.aload_n 0, 1) := by decide +kernel
theorem dX9_forget_36 : decode cX9_forget 36 = .ok (.iconst 0, 1) := by decide +kernel
theorem dX9_forget_37 : decode cX9_forget 37 = .ok (.putfield 148, 3) := by decide +kernel
theorem dX9_forget_40 : decode cX9_forget 40 = .ok (.return_, 1) := by decide +kernel
theorem dX9_plan_0 : decode cX9_plan 0 = .ok (.aload_n 0, 1) := by decide +kernel
theorem dX9_plan_1 : decode cX9_plan 1 = .ok (.iconst 0, 1) := by decide +kernel
theorem dX9_plan_2 : decode cX9_plan 2 = .ok (.putfield 86, 3) := by decide +kernel
theorem dX9_plan_5 : decode cX9_plan 5 = .ok (.aload_n 0, 1) := by decide +kernel
theorem dX9_plan_6 : decode cX9_plan 6 = .ok (.getfield 93, 3) := by decide +kernel
theorem dX9_plan_9 : decode cX9_plan 9 = .ok (.istore_n 1, 1) := by decide +kernel
theorem dX9_plan_10 : decode cX9_plan 10 = .ok (.aload_n 0, 1) := by decide +kernel
theorem dX9_plan_11 : decode cX9_plan 11 = .ok (.iconst 0, 1) := by decide +kernel
theorem dX9_plan_12 : decode cX9_plan 12 = .ok (.putfield 93, 3) := by decide +kernel
theorem dX9_plan_15 : decode cX9_plan 15 = .ok (.aload_n 0, 1) := by decide +kernel
theorem dX9_plan_16 : decode cX9_plan 16 = .ok (.getfield 112, 3) := by decide +kernel
theorem dX9_plan_19 : decode cX9_plan 19 = .ok (.ifCond .ne 6, 3) := by decide +kernel
theorem dX9_plan_22 : decode cX9_plan 22 = .ok (.bipush (-4), 2) := by decide +kernel
theorem dX9_plan_24 : decode cX9_plan 24 = .ok (.ireturn, 1) := by decide +kernel
theorem dX9_plan_25 : decode cX9_plan 25 = .ok (.iload_n 1, 1) := by decide +kernel
theorem dX9_plan_26 : decode cX9_plan 26 = .ok (.aload_n 0, 1) := by decide +kernel
theorem dX9_plan_27 : decode cX9_plan 27 = .ok (.getfield 112, 3) := by decide +kernel
theorem dX9_plan_30 : decode cX9_plan 30 = .ok (.if_icmp .ne 7, 3) := by decide +kernel
theorem dX9_plan_33 : decode cX9_plan 33 = .ok (.iconst 1, 1) := by decide +kernel
theorem dX9_plan_34 : decode cX9_plan 34 = .ok (.goto 4, 3) := by decide +kernel
theorem dX9_plan_37 : decode cX9_plan 37 = .ok (.iconst 0, 1) := by decide +kernel
theorem dX9_plan_38 : decode cX9_plan 38 = .ok (.istore_n 2, 1) := by decide +kernel
theorem dX9_plan_39 : decode cX9_plan 39 = .ok (.iconst 0, 1) := by decide +kernel
theorem dX9_plan_40 : decode cX9_plan 40 = .ok (.istore_n 3, 1) := by decide +kernel
theorem dX9_plan_41 : decode cX9_plan 41 = .ok (.iload_n 3, 1) := by decide +kernel
theorem dX9_plan_42 : decode cX9_plan 42 = .ok (.iload_n 1, 1) := by decide +kernel
theorem dX9_plan_43 : decode cX9_plan 43 = .ok (.if_icmp .ge 27, 3) := by decide +kernel
theorem dX9_plan_46 : decode cX9_plan 46 = .ok (.iload_n 2, 1) := by decide +kernel
theorem dX9_plan_47 : decode cX9_plan 47 = .ok (.ifCond .eq 23, 3) := by decide +kernel
theorem dX9_plan_50 : decode cX9_plan 50 = .ok (.aload_n 0, 1) := by decide +kernel
theorem dX9_plan_51 : decode cX9_plan 51 = .ok (.getfield 7, 3) := by decide +kernel
theorem dX9_plan_54 : decode cX9_plan 54 = .ok (.iload_n 3, 1) := by decide +kernel
theorem dX9_plan_55 : decode cX9_plan 55 = .ok (.iaload, 1) := by decide +kernel
theorem dX9_plan_56 : decode cX9_plan 56 = .ok (.ldc 151, 2) := by decide +kernel
theorem dX9_plan_58 : decode cX9_plan 58 = .ok (.ldc 152, 2) := by decide +kernel
theorem dX9_plan_60 : decode cX9_plan 60 = .ok (.invokestatic 89, 3) := by decide +kernel
theorem dX9_plan_63 : decode cX9_plan 63 = .ok (.istore_n 2, 1) := by decide +kernel
theorem dX9_plan_64 : decode cX9_plan 64 = .ok (.iinc 3 1, 3) := by decide +kernel
theorem dX9_plan_67 : decode cX9_plan 67 = .ok (.goto (-26), 3) := by decide +kernel
theorem dX9_plan_70 : decode cX9_plan 70 = .ok (.iload_n 2, 1) := by decide +kernel
theorem dX9_plan_71 : decode cX9_plan 71 = .ok (.ifCond .ne 6, 3) := by decide +kernel
theorem dX9_plan_74 : decode cX9_plan 74 = .ok (.bipush (-3), 2) := by decide +kernel
theorem dX9_plan_76 : decode cX9_plan 76 = .ok (.ireturn, 1) := by decide +kernel
theorem dX9_plan_77 : decode cX9_plan 77 = .ok (.aload_n 0, 1) := by decide +kernel
theorem dX9_plan_78 : decode cX9_plan 78 = .ok (.getfield 127, 3) := by decide +kernel
theorem dX9_plan_81 : decode cX9_plan 81 = .ok (.bipush 8, 2) := by decide +kernel
theorem dX9_plan_83 : decode cX9_plan 83 = .ok (.if_icmp .ne 6, 3) := by decide +kernel
theorem dX9_plan_86 : decode cX9_plan 86 = .ok (.bipush (-5), 2) := by decide +kernel
theorem dX9_plan_88 : decode cX9_plan 88 = .ok (.ireturn, 1) := by decide +kernel
theorem dX9_plan_89 : decode cX9_plan 89 = .ok (.iconst 0, 1) := by decide +kernel
theorem dX9_plan_90 : decode cX9_plan 90 = .ok (.istore_n 3, 1) := by decide +kernel
theorem dX9_plan_91 : decode cX9_plan 91 = .ok (.iload_n 3, 1) := by decide +kernel
theorem dX9_plan_92 : decode cX9_plan 92 = .ok (.iload_n 1, 1) := by decide +kernel
theorem dX9_plan_93 : decode cX9_plan 93 = .ok (.if_icmp .ge 29, 3) := by decide +kernel
theorem dX9_plan_96 : decode cX9_plan 96 = .ok (.aload_n 0, 1) := by decide +kernel
theorem dX9_plan_97 : decode cX9_plan 97 = .ok (.getfield 43, 3) := by decide +kernel
theorem dX9_plan_100 : decode cX9_plan 100 = .ok (.bipush 8, 2) := by decide +kernel
theorem dX9_plan_102 : decode cX9_plan 102 = .ok (.aload_n 0, 1) := by decide +kernel
theorem dX9_plan_103 : decode cX9_plan 103 = .ok (.getfield 127, 3) := by decide +kernel
theorem dX9_plan_106 : decode cX9_plan 106 = .ok (.imul, 1) := by decide +kernel
theorem dX9_plan_107 : decode cX9_plan 107 = .ok (.iload_n 3, 1) := by decide +kernel
theorem dX9_plan_108 : decode cX9_plan 108 = .ok (.iadd, 1) := by decide +kernel
theorem dX9_plan_109 : decode cX9_plan 109 = .ok (.aload_n 0, 1) := by decide +kernel
theorem dX9_plan_110 : decode cX9_plan 110 = .ok (.getfield 7, 3) := by decide +kernel
theorem dX9_plan_113 : decode cX9_plan 113 = .ok (.iload_n 3, 1) := by decide +kernel
theorem dX9_plan_114 : decode cX9_plan 114 = .ok (.iaload, 1) := by decide +kernel
theorem dX9_plan_115 : decode cX9_plan 115 = .ok (.iastore, 1) := by decide +kernel
theorem dX9_plan_116 : decode cX9_plan 116 = .ok (.iinc 3 1, 3) := by decide +kernel
theorem dX9_plan_119 : decode cX9_plan 119 = .ok (.goto (-28), 3) := by decide +kernel
theorem dX9_plan_122 : decode cX9_plan 122 = .ok (.aload_n 0, 1) := by decide +kernel
theorem dX9_plan_123 : decode cX9_plan 123 = .ok (.dup, 1) := by decide +kernel
theorem dX9_plan_124 : decode cX9_plan 124 = .ok (.getfield 127, 3) := by decide +kernel
theorem dX9_plan_127 : decode cX9_plan 127 = .ok (.iconst 1, 1) := by decide +kernel
theorem dX9_plan_128 : decode cX9_plan 128 = .ok (.iadd, 1) := by decide +kernel
theorem dX9_plan_129 : decode cX9_plan 129 = .ok (.putfield 127, 3) := by decide +kernel
theorem dX9_plan_132 : decode cX9_plan 132 = .ok (.aload_n 0, 1) := by decide +kernel
theorem dX9_plan_133 : decode cX9_plan 133 = .ok (.getfield 127, 3) := by decide +kernel
theorem dX9_plan_136 : decode cX9_plan 136 = .ok (.iconst 1, 1) := by decide +kernel
theorem dX9_plan_137 : decode cX9_plan 137 = .ok (.isub, 1) := by decide +kernel
theorem dX9_plan_138 : decode cX9_plan 138 = .ok (.ireturn, 1) := by decide +kernel
theorem dX9_broken_0 : decode cX9_broken 0 = .ok (.iconst 0, 1) := by decide +kernel
theorem dX9_broken_1 : decode cX9_broken 1 = .ok (.istore_n 2, 1) := by decide +kernel
theorem dX9_broken_2 : decode cX9_broken 2 = .ok (.iload_n 2, 1) := by decide +kernel
theorem dX9_broken_3 : decode cX9_broken 3 = .ok (.aload_n 0, 1) := by decide +kernel
theorem dX9_broken_4 : decode cX9_broken 4 = .ok (.getfield 112, 3) := by decide +kernel
theorem dX9_broken_7 : decode cX9_broken 7 = .ok (.if_icmp .ge 40, 3) := by decide +kernel
theorem dX9_broken_10 : decode cX9_broken 10 = .ok (.aload_n 0, 1) := by decide +kernel
theorem dX9_broken_11 : decode cX9_broken 11 = .ok (.getfield 43, 3) := by decide +kernel
theorem dX9_broken_14 : decode cX9_broken 14 = .ok (.bipush 8, 2) := by decide +kernel
theorem dX9_broken_16 : decode cX9_broken 16 = .ok (.iload_n 1, 1) := by decide +kernel
theorem dX9_broken_17 : decode cX9_broken 17 = .ok (.imul, 1) := by decide +kernel
theorem dX9_broken_18 : decode cX9_broken 18 = .ok (.iload_n 2, 1) := by decide +kernel
theorem dX9_broken_19 : decode cX9_broken 19 = .ok (.iadd, 1) := by decide +kernel
theorem dX9_broken_20 : decode cX9_broken 20 = .ok (.iaload, 1) := by decide +kernel
theorem dX9_broken_21 : decode cX9_broken 21 = .ok (.aload_n 0, 1) := by decide +kernel
theorem dX9_broken_22 : decode cX9_broken 22 = .ok (.getfield 13, 3) := by decide +kernel
theorem dX9_broken_25 : decode cX9_broken 25 = .ok (.iload_n 2, 1) := by decide +kernel
theorem dX9_broken_26 : decode cX9_broken 26 = .ok (.iaload, 1) := by decide +kernel
theorem dX9_broken_27 : decode cX9_broken 27 = .ok (.aload_n 0, 1) := by decide +kernel
theorem dX9_broken_28 : decode cX9_broken 28 = .ok (.getfield 16, 3) := by decide +kernel
theorem dX9_broken_31 : decode cX9_broken 31 = .ok (.iload_n 2, 1) := by decide +kernel
theorem dX9_broken_32 : decode cX9_broken 32 = .ok (.iaload, 1) := by decide +kernel
theorem dX9_broken_33 : decode cX9_broken 33 = .ok (.invokestatic 89, 3) := by decide +kernel
theorem dX9_broken_36 : decode cX9_broken 36 = .ok (.ifCond .ne 5, 3) := by decide +kernel
theorem dX9_broken_39 : decode cX9_broken 39 = .ok (.iload_n 2, 1) := by decide +kernel
theorem dX9_broken_40 : decode cX9_broken 40 = .ok (.ireturn, 1) := by decide +kernel
theorem dX9_broken_41 : decode cX9_broken 41 = .ok (.iinc 2 1, 3) := by decide +kernel
theorem dX9_broken_44 : decode cX9_broken 44 = .ok (.goto (-42), 3) := by decide +kernel
theorem dX9_broken_47 : decode cX9_broken 47 = .ok (.iconst 0, 1) := by decide +kernel
theorem dX9_broken_48 : decode cX9_broken 48 = .ok (.istore_n 2, 1) := by decide +kernel
theorem dX9_broken_49 : decode cX9_broken 49 = .ok (.iload_n 2, 1) := by decide +kernel
theorem dX9_broken_50 : decode cX9_broken 50 = .ok (.aload_n 0, 1) := by decide +kernel
theorem dX9_broken_51 : decode cX9_broken 51 = .ok (.getfield 115, 3) := by decide +kernel
theorem dX9_broken_54 : decode cX9_broken 54 = .ok (.if_icmp .ge 76, 3) := by decide +kernel
theorem dX9_broken_57 : decode cX9_broken 57 = .ok (.lconst 0, 1) := by decide +kernel
theorem dX9_broken_58 : decode cX9_broken 58 = .ok (.lstore_n 3, 1) := by decide +kernel
theorem dX9_broken_59 : decode cX9_broken 59 = .ok (.iconst 0, 1) := by decide +kernel
theorem dX9_broken_60 : decode cX9_broken 60 = .ok (.istore 5, 2) := by decide +kernel
theorem dX9_broken_62 : decode cX9_broken 62 = .ok (.iload 5, 2) := by decide +kernel
theorem dX9_broken_64 : decode cX9_broken 64 = .ok (.aload_n 0, 1) := by decide +kernel
theorem dX9_broken_65 : decode cX9_broken 65 = .ok (.getfield 112, 3) := by decide +kernel
theorem dX9_broken_68 : decode cX9_broken 68 = .ok (.if_icmp .ge 39, 3) := by decide +kernel
theorem dX9_broken_71 : decode cX9_broken 71 = .ok (.lload_n 3, 1) := by decide +kernel
theorem dX9_broken_72 : decode cX9_broken 72 = .ok (.aload_n 0, 1) := by decide +kernel
theorem dX9_broken_73 : decode cX9_broken 73 = .ok (.getfield 22, 3) := by decide +kernel
theorem dX9_broken_76 : decode cX9_broken 76 = .ok (.bipush 8, 2) := by decide +kernel
theorem dX9_broken_78 : decode cX9_broken 78 = .ok (.iload_n 2, 1) := by decide +kernel
theorem dX9_broken_79 : decode cX9_broken 79 = .ok (.imul, 1) := by decide +kernel
theorem dX9_broken_80 : decode cX9_broken 80 = .ok (.iload 5, 2) := by decide +kernel
theorem dX9_broken_82 : decode cX9_broken 82 = .ok (.iadd, 1) := by decide +kernel
theorem dX9_broken_83 : decode cX9_broken 83 = .ok (.iaload, 1) := by decide +kernel
theorem dX9_broken_84 : decode cX9_broken 84 = .ok (.i2l, 1) := by decide +kernel
theorem dX9_broken_85 : decode cX9_broken 85 = .ok (.aload_n 0, 1) := by decide +kernel
theorem dX9_broken_86 : decode cX9_broken 86 = .ok (.getfield 43, 3) := by decide +kernel
theorem dX9_broken_89 : decode cX9_broken 89 = .ok (.bipush 8, 2) := by decide +kernel
theorem dX9_broken_91 : decode cX9_broken 91 = .ok (.iload_n 1, 1) := by decide +kernel
theorem dX9_broken_92 : decode cX9_broken 92 = .ok (.imul, 1) := by decide +kernel
theorem dX9_broken_93 : decode cX9_broken 93 = .ok (.iload 5, 2) := by decide +kernel
theorem dX9_broken_95 : decode cX9_broken 95 = .ok (.iadd, 1) := by decide +kernel
theorem dX9_broken_96 : decode cX9_broken 96 = .ok (.iaload, 1) := by decide +kernel
theorem dX9_broken_97 : decode cX9_broken 97 = .ok (.i2l, 1) := by decide +kernel
theorem dX9_broken_98 : decode cX9_broken 98 = .ok (.lmul, 1) := by decide +kernel
theorem dX9_broken_99 : decode cX9_broken 99 = .ok (.ladd, 1) := by decide +kernel
theorem dX9_broken_100 : decode cX9_broken 100 = .ok (.lstore_n 3, 1) := by decide +kernel
theorem dX9_broken_101 : decode cX9_broken 101 = .ok (.iinc 5 1, 3) := by decide +kernel
theorem dX9_broken_104 : decode cX9_broken 104 = .ok (.goto (-42), 3) := by decide +kernel
theorem dX9_broken_107 : decode cX9_broken 107 = .ok (.lload_n 3, 1) := by decide +kernel
theorem dX9_broken_108 : decode cX9_broken 108 = .ok (.aload_n 0, 1) := by decide +kernel
theorem dX9_broken_109 : decode cX9_broken 109 = .ok (.getfield 25, 3) := by decide +kernel
theorem dX9_broken_112 : decode cX9_broken 112 = .ok (.iload_n 2, 1) := by decide +kernel
theorem dX9_broken_113 : decode cX9_broken 113 = .ok (.iaload, 1) := by decide +kernel
theorem dX9_broken_114 : decode cX9_broken 114 = .ok (.i2l, 1) := by decide +kernel
theorem dX9_broken_115 : decode cX9_broken 115 = .ok (.lcmp, 1) := by decide +kernel
theorem dX9_broken_116 : decode cX9_broken 116 = .ok (.ifCond .le 8, 3) := by decide +kernel
theorem dX9_broken_119 : decode cX9_broken 119 = .ok (.bipush 100, 2) := by decide +kernel
theorem dX9_broken_121 : decode cX9_broken 121 = .ok (.iload_n 2, 1) := by decide +kernel
theorem dX9_broken_122 : decode cX9_broken 122 = .ok (.iadd, 1) := by decide +kernel
theorem dX9_broken_123 : decode cX9_broken 123 = .ok (.ireturn, 1) := by decide +kernel
theorem dX9_broken_124 : decode cX9_broken 124 = .ok (.iinc 2 1, 3) := by decide +kernel
theorem dX9_broken_127 : decode cX9_broken 127 = .ok (.goto (-78), 3) := by decide +kernel
theorem dX9_broken_130 : decode cX9_broken 130 = .ok (.iconst 0, 1) := by decide +kernel
theorem dX9_broken_131 : decode cX9_broken 131 = .ok (.istore_n 2, 1) := by decide +kernel
theorem dX9_broken_132 : decode cX9_broken 132 = .ok (.iload_n 2, 1) := by decide +kernel
theorem dX9_broken_133 : decode cX9_broken 133 = .ok (.aload_n 0, 1) := by decide +kernel
theorem dX9_broken_134 : decode cX9_broken 134 = .ok (.getfield 118, 3) := by decide +kernel
theorem dX9_broken_137 : decode cX9_broken 137 = .ok (.if_icmp .ge 113, 3) := by decide +kernel
theorem dX9_broken_140 : decode cX9_broken 140 = .ok (.iconst 0, 1) := by decide +kernel
theorem dX9_broken_141 : decode cX9_broken 141 = .ok (.istore_n 3, 1) := by decide +kernel
theorem dX9_broken_142 : decode cX9_broken 142 = .ok (.iconst 0, 1) := by decide +kernel
theorem dX9_broken_143 : decode cX9_broken 143 = .ok (.istore 4, 2) := by decide +kernel
theorem dX9_broken_145 : decode cX9_broken 145 = .ok (.iload 4, 2) := by decide +kernel
theorem dX9_broken_147 : decode cX9_broken 147 = .ok (.aload_n 0, 1) := by decide +kernel
theorem dX9_broken_148 : decode cX9_broken 148 = .ok (.getfield 34, 3) := by decide +kernel
theorem dX9_broken_151 : decode cX9_broken 151 = .ok (.iload_n 2, 1) := by decide +kernel
theorem dX9_broken_152 : decode cX9_broken 152 = .ok (.iaload, 1) := by decide +kernel
theorem dX9_broken_153 : decode cX9_broken 153 = .ok (.if_icmp .ge 81, 3) := by decide +kernel
theorem dX9_broken_156 : decode cX9_broken 156 = .ok (.iload_n 3, 1) := by decide +kernel
theorem dX9_broken_157 : decode cX9_broken 157 = .ok (.ifCond .ne 65, 3) := by decide +kernel
theorem dX9_broken_160 : decode cX9_broken 160 = .ok (.aload_n 0, 1) := by decide +kernel
theorem dX9_broken_161 : decode cX9_broken 161 = .ok (.getfield 37, 3) := by decide +kernel
theorem dX9_broken_164 : decode cX9_broken 164 = .ok (.bipush 20, 2) := by decide +kernel
theorem dX9_broken_166 : decode cX9_broken 166 = .ok (.iload_n 2, 1) := by decide +kernel
theorem dX9_broken_167 : decode cX9_broken 167 = .ok (.imul, 1) := by decide +kernel
theorem dX9_broken_168 : decode cX9_broken 168 = .ok (.iload 4, 2) := by decide +kernel
theorem dX9_broken_170 : decode cX9_broken 170 = .ok (.iadd, 1) := by decide +kernel
theorem dX9_broken_171 : decode cX9_broken 171 = .ok (.iaload, 1) := by decide +kernel
theorem dX9_broken_172 : decode cX9_broken 172 = .ok (.aload_n 0, 1) := by decide +kernel
theorem dX9_broken_173 : decode cX9_broken 173 = .ok (.getfield 43, 3) := by decide +kernel
theorem dX9_broken_176 : decode cX9_broken 176 = .ok (.bipush 8, 2) := by decide +kernel
theorem dX9_broken_178 : decode cX9_broken 178 = .ok (.iload_n 1, 1) := by decide +kernel
theorem dX9_broken_179 : decode cX9_broken 179 = .ok (.imul, 1) := by decide +kernel
theorem dX9_broken_180 : decode cX9_broken 180 = .ok (.aload_n 0, 1) := by decide +kernel
theorem dX9_broken_181 : decode cX9_broken 181 = .ok (.getfield 28, 3) := by decide +kernel
theorem dX9_broken_184 : decode cX9_broken 184 = .ok (.iload_n 2, 1) := by decide +kernel
theorem dX9_broken_185 : decode cX9_broken 185 = .ok (.iaload, 1) := by decide +kernel
theorem dX9_broken_186 : decode cX9_broken 186 = .ok (.iadd, 1) := by decide +kernel
theorem dX9_broken_187 : decode cX9_broken 187 = .ok (.iaload, 1) := by decide +kernel
theorem dX9_broken_188 : decode cX9_broken 188 = .ok (.if_icmp .ne 38, 3) := by decide +kernel
theorem dX9_broken_191 : decode cX9_broken 191 = .ok (.aload_n 0, 1) := by decide +kernel
theorem dX9_broken_192 : decode cX9_broken 192 = .ok (.getfield 40, 3) := by decide +kernel
theorem dX9_broken_195 : decode cX9_broken 195 = .ok (.bipush 20, 2) := by decide +kernel
theorem dX9_broken_197 : decode cX9_broken 197 = .ok (.iload_n 2, 1) := by decide +kernel
theorem dX9_broken_198 : decode cX9_broken 198 = .ok (.imul, 1) := by decide +kernel
theorem dX9_broken_199 : decode cX9_broken 199 = .ok (.iload 4, 2) := by decide +kernel
theorem dX9_broken_201 : decode cX9_broken 201 = .ok (.iadd, 1) := by decide +kernel
theorem dX9_broken_202 : decode cX9_broken 202 = .ok (.iaload, 1) := by decide +kernel
theorem dX9_broken_203 : decode cX9_broken 203 = .ok (.aload_n 0, 1) := by decide +kernel
theorem dX9_broken_204 : decode cX9_broken 204 = .ok (.getfield 43, 3) := by decide +kernel
theorem dX9_broken_207 : decode cX9_broken 207 = .ok (.bipush 8, 2) := by decide +kernel
theorem dX9_broken_209 : decode cX9_broken 209 = .ok (.iload_n 1, 1) := by decide +kernel
theorem dX9_broken_210 : decode cX9_broken 210 = .ok (.imul, 1) := by decide +kernel
theorem dX9_broken_211 : decode cX9_broken 211 = .ok (.aload_n 0, 1) := by decide +kernel
theorem dX9_broken_212 : decode cX9_broken 212 = .ok (.getfield 31, 3) := by decide +kernel
theorem dX9_broken_215 : decode cX9_broken 215 = .ok (.iload_n 2, 1) := by decide +kernel
theorem dX9_broken_216 : decode cX9_broken 216 = .ok (.iaload, 1) := by decide +kernel
theorem dX9_broken_217 : decode cX9_broken 217 = .ok (.iadd, 1) := by decide +kernel
theorem dX9_broken_218 : decode cX9_broken 218 = .ok (.iaload, 1) := by decide +kernel
theorem dX9_broken_219 : decode cX9_broken 219 = .ok (.if_icmp .ne 7, 3) := by decide +kernel
theorem dX9_broken_222 : decode cX9_broken 222 = .ok (.iconst 1, 1) := by decide +kernel
theorem dX9_broken_223 : decode cX9_broken 223 = .ok (.goto 4, 3) := by decide +kernel
theorem dX9_broken_226 : decode cX9_broken 226 = .ok (.iconst 0, 1) := by decide +kernel
theorem dX9_broken_227 : decode cX9_broken 227 = .ok (.istore_n 3, 1) := by decide +kernel
theorem dX9_broken_228 : decode cX9_broken 228 = .ok (.iinc 4 1, 3) := by decide +kernel
theorem dX9_broken_231 : decode cX9_broken 231 = .ok (.goto (-86), 3) := by decide +kernel
theorem dX9_broken_234 : decode cX9_broken 234 = .ok (.iload_n 3, 1) := by decide +kernel
theorem dX9_broken_235 : decode cX9_broken 235 = .ok (.ifCond .ne 9, 3) := by decide +kernel
theorem dX9_broken_238 : decode cX9_broken 238 = .ok (.sipush 200, 3) := by decide +kernel
theorem dX9_broken_241 : decode cX9_broken 241 = .ok (.iload_n 2, 1) := by decide +kernel
theorem dX9_broken_242 : decode cX9_broken 242 = .ok (.iadd, 1) := by decide +kernel
theorem dX9_broken_243 : decode cX9_broken 243 = .ok (.ireturn, 1) := by decide +kernel
theorem dX9_broken_244 : decode cX9_broken 244 = .ok (.iinc 2 1, 3) := by decide +kernel
theorem dX9_broken_247 : decode cX9_broken 247 = .ok (.goto (-115), 3) := by decide +kernel
theorem dX9_broken_250 : decode cX9_broken 250 = .ok (.iconst (-1), 1) := by decide +kernel
theorem dX9_broken_251 : decode cX9_broken 251 = .ok (.ireturn, 1) := by decide +kernel
theorem dX9_breaks_0 : decode cX9_breaks 0 = .ok (.aload_n 0, 1) := by decide +kernel
theorem dX9_breaks_1 : decode cX9_breaks 1 = .ok (.iconst 0, 1) := by decide +kernel
theorem dX9_breaks_2 : decode cX9_breaks 2 = .ok (.putfield 86, 3) := by decide +kernel
theorem dX9_breaks_5 : decode cX9_breaks 5 = .ok (.iload_n 1, 1) := by decide +kernel
theorem dX9_breaks_6 : decode cX9_breaks 6 = .ok (.iconst 0, 1) := by decide +kernel
theorem dX9_breaks_7 : decode cX9_breaks 7 = .ok (.aload_n 0, 1) := by decide +kernel
theorem dX9_breaks_8 : decode cX9_breaks 8 = .ok (.getfield 127, 3) := by decide +kernel
theorem dX9_breaks_11 : decode cX9_breaks 11 = .ok (.iconst 1, 1) := by decide +kernel
theorem dX9_breaks_12 : decode cX9_breaks 12 = .ok (.isub, 1) := by decide +kernel
theorem dX9_breaks_13 : decode cX9_breaks 13 = .ok (.invokestatic 89, 3) := by decide +kernel
theorem dX9_breaks_16 : decode cX9_breaks 16 = .ok (.ifCond .eq 11, 3) := by decide +kernel
theorem dX9_breaks_19 : decode cX9_breaks 19 = .ok (.aload_n 0, 1) := by decide +kernel
theorem dX9_breaks_20 : decode cX9_breaks 20 = .ok (.iload_n 1, 1) := by decide +kernel
theorem dX9_breaks_21 : decode cX9_breaks 21 = .ok (.invokevirtual 153, 3) := by decide +kernel
theorem dX9_breaks_24 : decode cX9_breaks 24 = .ok (.goto 5, 3) := by decide +kernel
theorem dX9_breaks_27 : decode cX9_breaks 27 = .ok (.bipush (-2), 2) := by decide +kernel
theorem dX9_breaks_29 : decode cX9_breaks 29 = .ok (.ireturn, 1) := by decide +kernel
theorem dX9_costOf_0 : decode cX9_costOf 0 = .ok (.lconst 0, 1) := by decide +kernel
theorem dX9_costOf_1 : decode cX9_costOf 1 = .ok (.lstore_n 2, 1) := by decide +kernel
theorem dX9_costOf_2 : decode cX9_costOf 2 = .ok (.iconst 0, 1) := by decide +kernel
theorem dX9_costOf_3 : decode cX9_costOf 3 = .ok (.istore 4, 2) := by decide +kernel
theorem dX9_costOf_5 : decode cX9_costOf 5 = .ok (.iload 4, 2) := by decide +kernel
theorem dX9_costOf_7 : decode cX9_costOf 7 = .ok (.aload_n 0, 1) := by decide +kernel
theorem dX9_costOf_8 : decode cX9_costOf 8 = .ok (.getfield 112, 3) := by decide +kernel
theorem dX9_costOf_11 : decode cX9_costOf 11 = .ok (.if_icmp .ge 34, 3) := by decide +kernel
theorem dX9_costOf_14 : decode cX9_costOf 14 = .ok (.lload_n 2, 1) := by decide +kernel
theorem dX9_costOf_15 : decode cX9_costOf 15 = .ok (.aload_n 0, 1) := by decide +kernel
theorem dX9_costOf_16 : decode cX9_costOf 16 = .ok (.getfield 19, 3) := by decide +kernel
theorem dX9_costOf_19 : decode cX9_costOf 19 = .ok (.iload 4, 2) := by decide +kernel
theorem dX9_costOf_21 : decode cX9_costOf 21 = .ok (.iaload, 1) := by decide +kernel
theorem dX9_costOf_22 : decode cX9_costOf 22 = .ok (.i2l, 1) := by decide +kernel
theorem dX9_costOf_23 : decode cX9_costOf 23 = .ok (.aload_n 0, 1) := by decide +kernel
theorem dX9_costOf_24 : decode cX9_costOf 24 = .ok (.getfield 43, 3) := by decide +kernel
theorem dX9_costOf_27 : decode cX9_costOf 27 = .ok (.bipush 8, 2) := by decide +kernel
theorem dX9_costOf_29 : decode cX9_costOf 29 = .ok (.iload_n 1, 1) := by decide +kernel
theorem dX9_costOf_30 : decode cX9_costOf 30 = .ok (.imul, 1) := by decide +kernel
theorem dX9_costOf_31 : decode cX9_costOf 31 = .ok (.iload 4, 2) := by decide +kernel
theorem dX9_costOf_33 : decode cX9_costOf 33 = .ok (.iadd, 1) := by decide +kernel
theorem dX9_costOf_34 : decode cX9_costOf 34 = .ok (.iaload, 1) := by decide +kernel
theorem dX9_costOf_35 : decode cX9_costOf 35 = .ok (.i2l, 1) := by decide +kernel
theorem dX9_costOf_36 : decode cX9_costOf 36 = .ok (.lmul, 1) := by decide +kernel
theorem dX9_costOf_37 : decode cX9_costOf 37 = .ok (.ladd, 1) := by decide +kernel
theorem dX9_costOf_38 : decode cX9_costOf 38 = .ok (.lstore_n 2, 1) := by decide +kernel
theorem dX9_costOf_39 : decode cX9_costOf 39 = .ok (.iinc 4 1, 3) := by decide +kernel
theorem dX9_costOf_42 : decode cX9_costOf 42 = .ok (.goto (-37), 3) := by decide +kernel
theorem dX9_costOf_45 : decode cX9_costOf 45 = .ok (.lload_n 2, 1) := by decide +kernel
theorem dX9_costOf_46 : decode cX9_costOf 46 = .ok (.lreturn, 1) := by decide +kernel
theorem dX9_refuses_0 : decode cX9_refuses 0 = .ok (.aload_n 0, 1) := by decide +kernel
theorem dX9_refuses_1 : decode cX9_refuses 1 = .ok (.iload_n 1, 1) := by decide +kernel
theorem dX9_refuses_2 : decode cX9_refuses 2 = .ok (.ifCond .eq 7, 3) := by decide +kernel
theorem dX9_refuses_5 : decode cX9_refuses 5 = .ok (.iconst 1, 1) := by decide +kernel
theorem dX9_refuses_6 : decode cX9_refuses 6 = .ok (.goto 4, 3) := by decide +kernel
theorem dX9_refuses_9 : decode cX9_refuses 9 = .ok (.iconst 0, 1) := by decide +kernel
theorem dX9_refuses_10 : decode cX9_refuses 10 = .ok (.putfield 86, 3) := by decide +kernel
theorem dX9_refuses_13 : decode cX9_refuses 13 = .ok (.iload_n 1, 1) := by decide +kernel
theorem dX9_refuses_14 : decode cX9_refuses 14 = .ok (.ireturn, 1) := by decide +kernel
theorem dX9_cost_0 : decode cX9_cost 0 = .ok (.aload_n 0, 1) := by decide +kernel
theorem dX9_cost_1 : decode cX9_cost 1 = .ok (.iload_n 1, 1) := by decide +kernel
theorem dX9_cost_2 : decode cX9_cost 2 = .ok (.iconst 0, 1) := by decide +kernel
theorem dX9_cost_3 : decode cX9_cost 3 = .ok (.aload_n 0, 1) := by decide +kernel
theorem dX9_cost_4 : decode cX9_cost 4 = .ok (.getfield 127, 3) := by decide +kernel
theorem dX9_cost_7 : decode cX9_cost 7 = .ok (.iconst 1, 1) := by decide +kernel
theorem dX9_cost_8 : decode cX9_cost 8 = .ok (.isub, 1) := by decide +kernel
theorem dX9_cost_9 : decode cX9_cost 9 = .ok (.invokestatic 89, 3) := by decide +kernel
theorem dX9_cost_12 : decode cX9_cost 12 = .ok (.ifCond .ne 7, 3) := by decide +kernel
theorem dX9_cost_15 : decode cX9_cost 15 = .ok (.iconst 1, 1) := by decide +kernel
theorem dX9_cost_16 : decode cX9_cost 16 = .ok (.goto 4, 3) := by decide +kernel
theorem dX9_cost_19 : decode cX9_cost 19 = .ok (.iconst 0, 1) := by decide +kernel
theorem dX9_cost_20 : decode cX9_cost 20 = .ok (.invokevirtual 157, 3) := by decide +kernel
theorem dX9_cost_23 : decode cX9_cost 23 = .ok (.ifCond .eq 7, 3) := by decide +kernel
theorem dX9_cost_26 : decode cX9_cost 26 = .ok (.lconst 0, 1) := by decide +kernel
theorem dX9_cost_27 : decode cX9_cost 27 = .ok (.goto 8, 3) := by decide +kernel
theorem dX9_cost_30 : decode cX9_cost 30 = .ok (.aload_n 0, 1) := by decide +kernel
theorem dX9_cost_31 : decode cX9_cost 31 = .ok (.iload_n 1, 1) := by decide +kernel
theorem dX9_cost_32 : decode cX9_cost 32 = .ok (.invokevirtual 161, 3) := by decide +kernel
theorem dX9_cost_35 : decode cX9_cost 35 = .ok (.lreturn, 1) := by decide +kernel
theorem dX9_digest_0 : decode cX9_digest 0 = .ok (.aload_n 0, 1) := by decide +kernel
theorem dX9_digest_1 : decode cX9_digest 1 = .ok (.iconst 0, 1) := by decide +kernel
theorem dX9_digest_2 : decode cX9_digest 2 = .ok (.putfield 86, 3) := by decide +kernel
theorem dX9_digest_5 : decode cX9_digest 5 = .ok (.aload_n 0, 1) := by decide +kernel
theorem dX9_digest_6 : decode cX9_digest 6 = .ok (.getfield 112, 3) := by decide +kernel
theorem dX9_digest_9 : decode cX9_digest 9 = .ok (.ifCond .ne 7, 3) := by decide +kernel
theorem dX9_digest_12 : decode cX9_digest 12 = .ok (.iconst 0, 1) := by decide +kernel
theorem dX9_digest_13 : decode cX9_digest 13 = .ok (.goto 7, 3) := by decide +kernel
theorem dX9_digest_16 : decode cX9_digest 16 = .ok (.aload_n 0, 1) := by decide +kernel
theorem dX9_digest_17 : decode cX9_digest 17 = .ok (.getfield 124, 3) := by decide +kernel
theorem dX9_digest_20 : decode cX9_digest 20 = .ok (.ireturn, 1) := by decide +kernel
theorem dX9_begin_0 : decode cX9_begin 0 = .ok (.aload_n 0, 1) := by decide +kernel
theorem dX9_begin_1 : decode cX9_begin 1 = .ok (.iconst 0, 1) := by decide +kernel
theorem dX9_begin_2 : decode cX9_begin 2 = .ok (.putfield 86, 3) := by decide +kernel
theorem dX9_begin_5 : decode cX9_begin 5 = .ok (.aload_n 0, 1) := by decide +kernel
theorem dX9_begin_6 : decode cX9_begin 6 = .ok (.getfield 112, 3) := by decide +kernel
theorem dX9_begin_9 : decode cX9_begin 9 = .ok (.ifCond .ne 6, 3) := by decide +kernel
theorem dX9_begin_12 : decode cX9_begin 12 = .ok (.bipush (-4), 2) := by decide +kernel
theorem dX9_begin_14 : decode cX9_begin 14 = .ok (.ireturn, 1) := by decide +kernel
theorem dX9_begin_15 : decode cX9_begin 15 = .ok (.aload_n 0, 1) := by decide +kernel
theorem dX9_begin_16 : decode cX9_begin 16 = .ok (.getfield 136, 3) := by decide +kernel
theorem dX9_begin_19 : decode cX9_begin 19 = .ok (.istore_n 1, 1) := by decide +kernel
theorem dX9_begin_20 : decode cX9_begin 20 = .ok (.aload_n 0, 1) := by decide +kernel
theorem dX9_begin_21 : decode cX9_begin 21 = .ok (.invokevirtual 130, 3) := by decide +kernel
theorem dX9_begin_24 : decode cX9_begin 24 = .ok (.aload_n 0, 1) := by decide +kernel
theorem dX9_begin_25 : decode cX9_begin 25 = .ok (.iconst 1, 1) := by decide +kernel
theorem dX9_begin_26 : decode cX9_begin 26 = .ok (.putfield 133, 3) := by decide +kernel
theorem dX9_begin_29 : decode cX9_begin 29 = .ok (.iload_n 1, 1) := by decide +kernel
theorem dX9_begin_30 : decode cX9_begin 30 = .ok (.ireturn, 1) := by decide +kernel
theorem dX9_read_0 : decode cX9_read 0 = .ok (.aload_n 0, 1) := by decide +kernel
theorem dX9_read_1 : decode cX9_read 1 = .ok (.iconst 0, 1) := by decide +kernel
theorem dX9_read_2 : decode cX9_read 2 = .ok (.putfield 86, 3) := by decide +kernel
theorem dX9_read_5 : decode cX9_read 5 = .ok (.aload_n 0, 1) := by decide +kernel
theorem dX9_read_6 : decode cX9_read 6 = .ok (.getfield 93, 3) := by decide +kernel
theorem dX9_read_9 : decode cX9_read 9 = .ok (.istore_n 1, 1) := by decide +kernel
theorem dX9_read_10 : decode cX9_read 10 = .ok (.aload_n 0, 1) := by decide +kernel
theorem dX9_read_11 : decode cX9_read 11 = .ok (.iconst 0, 1) := by decide +kernel
theorem dX9_read_12 : decode cX9_read 12 = .ok (.putfield 93, 3) := by decide +kernel
theorem dX9_read_15 : decode cX9_read 15 = .ok (.aload_n 0, 1) := by decide +kernel
theorem dX9_read_16 : decode cX9_read 16 = .ok (.getfield 133, 3) := by decide +kernel
theorem dX9_read_19 : decode cX9_read 19 = .ok (.ifCond .ne 6, 3) := by decide +kernel
theorem dX9_read_22 : decode cX9_read 22 = .ok (.bipush (-4), 2) := by decide +kernel
theorem dX9_read_24 : decode cX9_read 24 = .ok (.ireturn, 1) := by decide +kernel
theorem dX9_read_25 : decode cX9_read 25 = .ok (.iconst 0, 1) := by decide +kernel
theorem dX9_read_26 : decode cX9_read 26 = .ok (.istore_n 2, 1) := by decide +kernel
theorem dX9_read_27 : decode cX9_read 27 = .ok (.iload_n 2, 1) := by decide +kernel
theorem dX9_read_28 : decode cX9_read 28 = .ok (.iload_n 1, 1) := by decide +kernel
theorem dX9_read_29 : decode cX9_read 29 = .ok (.if_icmp .ge 26, 3) := by decide +kernel
theorem dX9_read_32 : decode cX9_read 32 = .ok (.aload_n 0, 1) := by decide +kernel
theorem dX9_read_33 : decode cX9_read 33 = .ok (.getfield 139, 3) := by decide +kernel
theorem dX9_read_36 : decode cX9_read 36 = .ok (.ifCond .ne 19, 3) := by decide +kernel
theorem dX9_read_39 : decode cX9_read 39 = .ok (.aload_n 0, 1) := by decide +kernel
theorem dX9_read_40 : decode cX9_read 40 = .ok (.aload_n 0, 1) := by decide +kernel
theorem dX9_read_41 : decode cX9_read 41 = .ok (.getfield 7, 3) := by decide +kernel
theorem dX9_read_44 : decode cX9_read 44 = .ok (.iload_n 2, 1) := by decide +kernel
theorem dX9_read_45 : decode cX9_read 45 = .ok (.iaload, 1) := by decide +kernel
theorem dX9_read_46 : decode cX9_read 46 = .ok (.invokevirtual 165, 3) := by decide +kernel
theorem dX9_read_49 : decode cX9_read 49 = .ok (.iinc 2 1, 3) := by decide +kernel
theorem dX9_read_52 : decode cX9_read 52 = .ok (.goto (-25), 3) := by decide +kernel
theorem dX9_read_55 : decode cX9_read 55 = .ok (.aload_n 0, 1) := by decide +kernel
theorem dX9_read_56 : decode cX9_read 56 = .ok (.getfield 139, 3) := by decide +kernel
theorem dX9_read_59 : decode cX9_read 59 = .ok (.ifCond .ne 10, 3) := by decide +kernel
theorem dX9_read_62 : decode cX9_read 62 = .ok (.aload_n 0, 1) := by decide +kernel
theorem dX9_read_63 : decode cX9_read 63 = .ok (.getfield 145, 3) := by decide +kernel
theorem dX9_read_66 : decode cX9_read 66 = .ok (.goto 10, 3) := by decide +kernel
theorem dX9_read_69 : decode cX9_read 69 = .ok (.bipush (-10), 2) := by decide +kernel
theorem dX9_read_71 : decode cX9_read 71 = .ok (.aload_n 0, 1) := by decide +kernel
theorem dX9_read_72 : decode cX9_read 72 = .ok (.getfield 139, 3) := by decide +kernel
theorem dX9_read_75 : decode cX9_read 75 = .ok (.isub, 1) := by decide +kernel
theorem dX9_read_76 : decode cX9_read 76 = .ok (.ireturn, 1) := by decide +kernel
theorem dX9_fails_0 : decode cX9_fails 0 = .ok (.aload_n 0, 1) := by decide +kernel
theorem dX9_fails_1 : decode cX9_fails 1 = .ok (.iload_n 1, 1) := by decide +kernel
theorem dX9_fails_2 : decode cX9_fails 2 = .ok (.putfield 139, 3) := by decide +kernel
theorem dX9_fails_5 : decode cX9_fails 5 = .ok (.aload_n 0, 1) := by decide +kernel
theorem dX9_fails_6 : decode cX9_fails 6 = .ok (.iload_n 2, 1) := by decide +kernel
theorem dX9_fails_7 : decode cX9_fails 7 = .ok (.putfield 49, 3) := by decide +kernel
theorem dX9_fails_10 : decode cX9_fails 10 = .ok (.aload_n 0, 1) := by decide +kernel
theorem dX9_fails_11 : decode cX9_fails 11 = .ok (.iload_n 3, 1) := by decide +kernel
theorem dX9_fails_12 : decode cX9_fails 12 = .ok (.putfield 53, 3) := by decide +kernel
theorem dX9_fails_15 : decode cX9_fails 15 = .ok (.return_, 1) := by decide +kernel
theorem dX9_take_0 : decode cX9_take 0 = .ok (.aload_n 0, 1) := by decide +kernel
theorem dX9_take_1 : decode cX9_take 1 = .ok (.getfield 136, 3) := by decide +kernel
theorem dX9_take_4 : decode cX9_take 4 = .ok (.sipush 1500, 3) := by decide +kernel
theorem dX9_take_7 : decode cX9_take 7 = .ok (.if_icmp .ne 17, 3) := by decide +kernel
theorem dX9_take_10 : decode cX9_take 10 = .ok (.aload_n 0, 1) := by decide +kernel
theorem dX9_take_11 : decode cX9_take 11 = .ok (.bipush 9, 2) := by decide +kernel
theorem dX9_take_13 : decode cX9_take 13 = .ok (.aload_n 0, 1) := by decide +kernel
theorem dX9_take_14 : decode cX9_take 14 = .ok (.getfield 145, 3) := by decide +kernel
theorem dX9_take_17 : decode cX9_take 17 = .ok (.sipush 1500, 3) := by decide +kernel
theorem dX9_take_20 : decode cX9_take 20 = .ok (.invokevirtual 169, 3) := by decide +kernel
theorem dX9_take_23 : decode cX9_take 23 = .ok (.return_, 1) := by decide +kernel
theorem dX9_take_24 : decode cX9_take 24 = .ok (.aload_n 0, 1) := by decide +kernel
theorem dX9_take_25 : decode cX9_take 25 = .ok (.getfield 46, 3) := by decide +kernel
theorem dX9_take_28 : decode cX9_take 28 = .ok (.aload_n 0, 1) := by decide +kernel
theorem dX9_take_29 : decode cX9_take 29 = .ok (.getfield 136, 3) := by decide +kernel
theorem dX9_take_32 : decode cX9_take 32 = .ok (.iload_n 1, 1) := by decide +kernel
theorem dX9_take_33 : decode cX9_take 33 = .ok (.iastore, 1) := by decide +kernel
theorem dX9_take_34 : decode cX9_take 34 = .ok (.aload_n 0, 1) := by decide +kernel
theorem dX9_take_35 : decode cX9_take 35 = .ok (.dup, 1) := by decide +kernel
theorem dX9_take_36 : decode cX9_take 36 = .ok (.getfield 136, 3) := by decide +kernel
theorem dX9_take_39 : decode cX9_take 39 = .ok (.iconst 1, 1) := by decide +kernel
theorem dX9_take_40 : decode cX9_take 40 = .ok (.iadd, 1) := by decide +kernel
theorem dX9_take_41 : decode cX9_take 41 = .ok (.putfield 136, 3) := by decide +kernel
theorem dX9_take_44 : decode cX9_take 44 = .ok (.aload_n 0, 1) := by decide +kernel
theorem dX9_take_45 : decode cX9_take 45 = .ok (.getfield 136, 3) := by decide +kernel
theorem dX9_take_48 : decode cX9_take 48 = .ok (.iconst 1, 1) := by decide +kernel
theorem dX9_take_49 : decode cX9_take 49 = .ok (.if_icmp .ne 19, 3) := by decide +kernel
theorem dX9_take_52 : decode cX9_take 52 = .ok (.iload_n 1, 1) := by decide +kernel
theorem dX9_take_53 : decode cX9_take 53 = .ok (.aload_n 0, 1) := by decide +kernel
theorem dX9_take_54 : decode cX9_take 54 = .ok (.getfield 124, 3) := by decide +kernel
theorem dX9_take_57 : decode cX9_take 57 = .ok (.if_icmp .eq 10, 3) := by decide +kernel
theorem dX9_take_60 : decode cX9_take 60 = .ok (.aload_n 0, 1) := by decide +kernel
theorem dX9_take_61 : decode cX9_take 61 = .ok (.iconst 1, 1) := by decide +kernel
theorem dX9_take_62 : decode cX9_take 62 = .ok (.iconst (-1), 1) := by decide +kernel
theorem dX9_take_63 : decode cX9_take 63 = .ok (.iconst 0, 1) := by decide +kernel
theorem dX9_take_64 : decode cX9_take 64 = .ok (.invokevirtual 169, 3) := by decide +kernel
theorem dX9_take_67 : decode cX9_take 67 = .ok (.return_, 1) := by decide +kernel
theorem dX9_take_68 : decode cX9_take 68 = .ok (.aload_n 0, 1) := by decide +kernel
theorem dX9_take_69 : decode cX9_take 69 = .ok (.invokevirtual 173, 3) := by decide +kernel
theorem dX9_take_72 : decode cX9_take 72 = .ok (.istore_n 2, 1) := by decide +kernel
theorem dX9_take_73 : decode cX9_take 73 = .ok (.iload_n 2, 1) := by decide +kernel
theorem dX9_take_74 : decode cX9_take 74 = .ok (.ifCond .eq 21, 3) := by decide +kernel
theorem dX9_take_77 : decode cX9_take 77 = .ok (.aload_n 0, 1) := by decide +kernel
theorem dX9_take_78 : decode cX9_take 78 = .ok (.iload_n 2, 1) := by decide +kernel
theorem dX9_take_79 : decode cX9_take 79 = .ok (.aload_n 0, 1) := by decide +kernel
theorem dX9_take_80 : decode cX9_take 80 = .ok (.getfield 145, 3) := by decide +kernel
theorem dX9_take_83 : decode cX9_take 83 = .ok (.aload_n 0, 1) := by decide +kernel
theorem dX9_take_84 : decode cX9_take 84 = .ok (.getfield 136, 3) := by decide +kernel
theorem dX9_take_87 : decode cX9_take 87 = .ok (.iconst 1, 1) := by decide +kernel
theorem dX9_take_88 : decode cX9_take 88 = .ok (.isub, 1) := by decide +kernel
theorem dX9_take_89 : decode cX9_take 89 = .ok (.invokevirtual 169, 3) := by decide +kernel
theorem dX9_take_92 : decode cX9_take 92 = .ok (.goto 68, 3) := by decide +kernel
theorem dX9_take_95 : decode cX9_take 95 = .ok (.aload_n 0, 1) := by decide +kernel
theorem dX9_take_96 : decode cX9_take 96 = .ok (.invokevirtual 177, 3) := by decide +kernel
theorem dX9_take_99 : decode cX9_take 99 = .ok (.ifCond .eq 61, 3) := by decide +kernel
theorem dX9_take_102 : decode cX9_take 102 = .ok (.aload_n 0, 1) := by decide +kernel
theorem dX9_take_103 : decode cX9_take 103 = .ok (.invokevirtual 181, 3) := by decide +kernel
theorem dX9_take_106 : decode cX9_take 106 = .ok (.istore_n 2, 1) := by decide +kernel
theorem dX9_take_107 : decode cX9_take 107 = .ok (.iload_n 2, 1) := by decide +kernel
theorem dX9_take_108 : decode cX9_take 108 = .ok (.ifCond .eq 21, 3) := by decide +kernel
theorem dX9_take_111 : decode cX9_take 111 = .ok (.aload_n 0, 1) := by decide +kernel
theorem dX9_take_112 : decode cX9_take 112 = .ok (.iload_n 2, 1) := by decide +kernel
theorem dX9_take_113 : decode cX9_take 113 = .ok (.aload_n 0, 1) := by decide +kernel
theorem dX9_take_114 : decode cX9_take 114 = .ok (.getfield 145, 3) := by decide +kernel
theorem dX9_take_117 : decode cX9_take 117 = .ok (.aload_n 0, 1) := by decide +kernel
theorem dX9_take_118 : decode cX9_take 118 = .ok (.getfield 136, 3) := by decide +kernel
theorem dX9_take_121 : decode cX9_take 121 = .ok (.iconst 1, 1) := by decide +kernel
theorem dX9_take_122 : decode cX9_take 122 = .ok (.isub, 1) := by decide +kernel
theorem dX9_take_123 : decode cX9_take 123 = .ok (.invokevirtual 169, 3) := by decide +kernel
theorem dX9_take_126 : decode cX9_take 126 = .ok (.goto 34, 3) := by decide +kernel
theorem dX9_take_129 : decode cX9_take 129 = .ok (.aload_n 0, 1) := by decide +kernel
theorem dX9_take_130 : decode cX9_take 130 = .ok (.getfield 56, 3) := by decide +kernel
theorem dX9_take_133 : decode cX9_take 133 = .ok (.aload_n 0, 1) := by decide +kernel
theorem dX9_take_134 : decode cX9_take 134 = .ok (.getfield 145, 3) := by decide +kernel
theorem dX9_take_137 : decode cX9_take 137 = .ok (.aload_n 0, 1) := by decide +kernel
theorem dX9_take_138 : decode cX9_take 138 = .ok (.getfield 142, 3) := by decide +kernel
theorem dX9_take_141 : decode cX9_take 141 = .ok (.iastore, 1) := by decide +kernel
theorem dX9_take_142 : decode cX9_take 142 = .ok (.aload_n 0, 1) := by decide +kernel
theorem dX9_take_143 : decode cX9_take 143 = .ok (.dup, 1) := by decide +kernel
theorem dX9_take_144 : decode cX9_take 144 = .ok (.getfield 145, 3) := by decide +kernel
theorem dX9_take_147 : decode cX9_take 147 = .ok (.iconst 1, 1) := by decide +kernel
theorem dX9_take_148 : decode cX9_take 148 = .ok (.iadd, 1) := by decide +kernel
theorem dX9_take_149 : decode cX9_take 149 = .ok (.putfield 145, 3) := by decide +kernel
theorem dX9_take_152 : decode cX9_take 152 = .ok (.aload_n 0, 1) := by decide +kernel
theorem dX9_take_153 : decode cX9_take 153 = .ok (.aload_n 0, 1) := by decide +kernel
theorem dX9_take_154 : decode cX9_take 154 = .ok (.getfield 136, 3) := by decide +kernel
theorem dX9_take_157 : decode cX9_take 157 = .ok (.putfield 142, 3) := by decide +kernel
theorem dX9_take_160 : decode cX9_take 160 = .ok (.return_, 1) := by decide +kernel
theorem dX9_of_0 : decode cX9_of 0 = .ok (.aload_n 0, 1) := by decide +kernel
theorem dX9_of_1 : decode cX9_of 1 = .ok (.getfield 46, 3) := by decide +kernel
theorem dX9_of_4 : decode cX9_of 4 = .ok (.aload_n 0, 1) := by decide +kernel
theorem dX9_of_5 : decode cX9_of 5 = .ok (.getfield 142, 3) := by decide +kernel
theorem dX9_of_8 : decode cX9_of 8 = .ok (.iload_n 1, 1) := by decide +kernel
theorem dX9_of_9 : decode cX9_of 9 = .ok (.iadd, 1) := by decide +kernel
theorem dX9_of_10 : decode cX9_of 10 = .ok (.iaload, 1) := by decide +kernel
theorem dX9_of_11 : decode cX9_of 11 = .ok (.ireturn, 1) := by decide +kernel
theorem dX9_length_0 : decode cX9_length 0 = .ok (.aload_n 0, 1) := by decide +kernel
theorem dX9_length_1 : decode cX9_length 1 = .ok (.getfield 46, 3) := by decide +kernel
theorem dX9_length_4 : decode cX9_length 4 = .ok (.iload_n 1, 1) := by decide +kernel
theorem dX9_length_5 : decode cX9_length 5 = .ok (.iaload, 1) := by decide +kernel
theorem dX9_length_6 : decode cX9_length 6 = .ok (.istore_n 2, 1) := by decide +kernel
theorem dX9_length_7 : decode cX9_length 7 = .ok (.iload_n 2, 1) := by decide +kernel
theorem dX9_length_8 : decode cX9_length 8 = .ok (.ifCond .eq 19, 3) := by decide +kernel
theorem dX9_length_11 : decode cX9_length 11 = .ok (.iload_n 2, 1) := by decide +kernel
theorem dX9_length_12 : decode cX9_length 12 = .ok (.iconst 1, 1) := by decide +kernel
theorem dX9_length_13 : decode cX9_length 13 = .ok (.if_icmp .eq 14, 3) := by decide +kernel
theorem dX9_length_16 : decode cX9_length 16 = .ok (.iload_n 2, 1) := by decide +kernel
theorem dX9_length_17 : decode cX9_length 17 = .ok (.iconst 2, 1) := by decide +kernel
theorem dX9_length_18 : decode cX9_length 18 = .ok (.if_icmp .eq 9, 3) := by decide +kernel
theorem dX9_length_21 : decode cX9_length 21 = .ok (.iload_n 2, 1) := by decide +kernel
theorem dX9_length_22 : decode cX9_length 22 = .ok (.bipush 8, 2) := by decide +kernel
theorem dX9_length_24 : decode cX9_length 24 = .ok (.if_icmp .ne 7, 3) := by decide +kernel
theorem dX9_length_27 : decode cX9_length 27 = .ok (.iconst 2, 1) := by decide +kernel
theorem dX9_length_28 : decode cX9_length 28 = .ok (.goto 49, 3) := by decide +kernel
theorem dX9_length_31 : decode cX9_length 31 = .ok (.iload_n 2, 1) := by decide +kernel
theorem dX9_length_32 : decode cX9_length 32 = .ok (.iconst 3, 1) := by decide +kernel
theorem dX9_length_33 : decode cX9_length 33 = .ok (.if_icmp .eq 9, 3) := by decide +kernel
theorem dX9_length_36 : decode cX9_length 36 = .ok (.iload_n 2, 1) := by decide +kernel
theorem dX9_length_37 : decode cX9_length 37 = .ok (.bipush 6, 2) := by decide +kernel
theorem dX9_length_39 : decode cX9_length 39 = .ok (.if_icmp .ne 7, 3) := by decide +kernel
theorem dX9_length_42 : decode cX9_length 42 = .ok (.iconst 4, 1) := by decide +kernel
theorem dX9_length_43 : decode cX9_length 43 = .ok (.goto 34, 3) := by decide +kernel
theorem dX9_length_46 : decode cX9_length 46 = .ok (.iload_n 2, 1) := by decide +kernel
theorem dX9_length_47 : decode cX9_length 47 = .ok (.iconst 4, 1) := by decide +kernel
theorem dX9_length_48 : decode cX9_length 48 = .ok (.if_icmp .ne 18, 3) := by decide +kernel
theorem dX9_length_51 : decode cX9_length 51 = .ok (.iconst 2, 1) := by decide +kernel
theorem dX9_length_52 : decode cX9_length 52 = .ok (.iconst 2, 1) := by decide +kernel
theorem dX9_length_53 : decode cX9_length 53 = .ok (.aload_n 0, 1) := by decide +kernel
theorem dX9_length_54 : decode cX9_length 54 = .ok (.getfield 46, 3) := by decide +kernel
theorem dX9_length_57 : decode cX9_length 57 = .ok (.iload_n 1, 1) := by decide +kernel
theorem dX9_length_58 : decode cX9_length 58 = .ok (.iconst 1, 1) := by decide +kernel
theorem dX9_length_59 : decode cX9_length 59 = .ok (.iadd, 1) := by decide +kernel
theorem dX9_length_60 : decode cX9_length 60 = .ok (.iaload, 1) := by decide +kernel
theorem dX9_length_61 : decode cX9_length 61 = .ok (.imul, 1) := by decide +kernel
theorem dX9_length_62 : decode cX9_length 62 = .ok (.iadd, 1) := by decide +kernel
theorem dX9_length_63 : decode cX9_length 63 = .ok (.goto 14, 3) := by decide +kernel
theorem dX9_length_66 : decode cX9_length 66 = .ok (.iload_n 2, 1) := by decide +kernel
theorem dX9_length_67 : decode cX9_length 67 = .ok (.bipush 7, 2) := by decide +kernel
theorem dX9_length_69 : decode cX9_length 69 = .ok (.if_icmp .ne 7, 3) := by decide +kernel
theorem dX9_length_72 : decode cX9_length 72 = .ok (.iconst 5, 1) := by decide +kernel
theorem dX9_length_73 : decode cX9_length 73 = .ok (.goto 4, 3) := by decide +kernel
theorem dX9_length_76 : decode cX9_length 76 = .ok (.iconst 3, 1) := by decide +kernel
theorem dX9_length_77 : decode cX9_length 77 = .ok (.ireturn, 1) := by decide +kernel
theorem dX9_isWhole_0 : decode cX9_isWhole 0 = .ok (.aload_n 0, 1) := by decide +kernel
theorem dX9_isWhole_1 : decode cX9_isWhole 1 = .ok (.getfield 136, 3) := by decide +kernel
theorem dX9_isWhole_4 : decode cX9_isWhole 4 = .ok (.aload_n 0, 1) := by decide +kernel
theorem dX9_isWhole_5 : decode cX9_isWhole 5 = .ok (.getfield 142, 3) := by decide +kernel
theorem dX9_isWhole_8 : decode cX9_isWhole 8 = .ok (.isub, 1) := by decide +kernel
theorem dX9_isWhole_9 : decode cX9_isWhole 9 = .ok (.istore_n 1, 1) := by decide +kernel
theorem dX9_isWhole_10 : decode cX9_isWhole 10 = .ok (.iload_n 1, 1) := by decide +kernel
theorem dX9_isWhole_11 : decode cX9_isWhole 11 = .ok (.iconst 1, 1) := by decide +kernel
theorem dX9_isWhole_12 : decode cX9_isWhole 12 = .ok (.if_icmp .le 19, 3) := by decide +kernel
theorem dX9_isWhole_15 : decode cX9_isWhole 15 = .ok (.iload_n 1, 1) := by decide +kernel
theorem dX9_isWhole_16 : decode cX9_isWhole 16 = .ok (.aload_n 0, 1) := by decide +kernel
theorem dX9_isWhole_17 : decode cX9_isWhole 17 = .ok (.aload_n 0, 1) := by decide +kernel
theorem dX9_isWhole_18 : decode cX9_isWhole 18 = .ok (.getfield 142, 3) := by decide +kernel
theorem dX9_isWhole_21 : decode cX9_isWhole 21 = .ok (.invokevirtual 184, 3) := by decide +kernel
theorem dX9_isWhole_24 : decode cX9_isWhole 24 = .ok (.if_icmp .ne 7, 3) := by decide +kernel
theorem dX9_isWhole_27 : decode cX9_isWhole 27 = .ok (.iconst 1, 1) := by decide +kernel
theorem dX9_isWhole_28 : decode cX9_isWhole 28 = .ok (.goto 4, 3) := by decide +kernel
theorem dX9_isWhole_31 : decode cX9_isWhole 31 = .ok (.iconst 0, 1) := by decide +kernel
theorem dX9_isWhole_32 : decode cX9_isWhole 32 = .ok (.ireturn, 1) := by decide +kernel
theorem dX9_variable_0 : decode cX9_variable 0 = .ok (.iload_n 1, 1) := by decide +kernel
theorem dX9_variable_1 : decode cX9_variable 1 = .ok (.iconst 0, 1) := by decide +kernel
theorem dX9_variable_2 : decode cX9_variable 2 = .ok (.aload_n 0, 1) := by decide +kernel
theorem dX9_variable_3 : decode cX9_variable 3 = .ok (.getfield 112, 3) := by decide +kernel
theorem dX9_variable_6 : decode cX9_variable 6 = .ok (.iconst 1, 1) := by decide +kernel
theorem dX9_variable_7 : decode cX9_variable 7 = .ok (.isub, 1) := by decide +kernel
theorem dX9_variable_8 : decode cX9_variable 8 = .ok (.invokestatic 89, 3) := by decide +kernel
theorem dX9_variable_11 : decode cX9_variable 11 = .ok (.ifCond .eq 7, 3) := by decide +kernel
theorem dX9_variable_14 : decode cX9_variable 14 = .ok (.iconst 0, 1) := by decide +kernel
theorem dX9_variable_15 : decode cX9_variable 15 = .ok (.goto 4, 3) := by decide +kernel
theorem dX9_variable_18 : decode cX9_variable 18 = .ok (.iconst 3, 1) := by decide +kernel
theorem dX9_variable_19 : decode cX9_variable 19 = .ok (.ireturn, 1) := by decide +kernel
theorem dX9_row_0 : decode cX9_row 0 = .ok (.iload_n 1, 1) := by decide +kernel
theorem dX9_row_1 : decode cX9_row 1 = .ok (.iconst 0, 1) := by decide +kernel
theorem dX9_row_2 : decode cX9_row 2 = .ok (.aload_n 0, 1) := by decide +kernel
theorem dX9_row_3 : decode cX9_row 3 = .ok (.getfield 145, 3) := by decide +kernel
theorem dX9_row_6 : decode cX9_row 6 = .ok (.iconst 1, 1) := by decide +kernel
theorem dX9_row_7 : decode cX9_row 7 = .ok (.isub, 1) := by decide +kernel
theorem dX9_row_8 : decode cX9_row 8 = .ok (.invokestatic 89, 3) := by decide +kernel
theorem dX9_row_11 : decode cX9_row 11 = .ok (.ifCond .eq 7, 3) := by decide +kernel
theorem dX9_row_14 : decode cX9_row 14 = .ok (.iconst 0, 1) := by decide +kernel
theorem dX9_row_15 : decode cX9_row 15 = .ok (.goto 4, 3) := by decide +kernel
theorem dX9_row_18 : decode cX9_row 18 = .ok (.iconst 4, 1) := by decide +kernel
theorem dX9_row_19 : decode cX9_row 19 = .ok (.ireturn, 1) := by decide +kernel
theorem dX9_bounds_0 : decode cX9_bounds 0 = .ok (.iload_n 0, 1) := by decide +kernel
theorem dX9_bounds_1 : decode cX9_bounds 1 = .ok (.iload_n 1, 1) := by decide +kernel
theorem dX9_bounds_2 : decode cX9_bounds 2 = .ok (.iload_n 2, 1) := by decide +kernel
theorem dX9_bounds_3 : decode cX9_bounds 3 = .ok (.invokestatic 89, 3) := by decide +kernel
theorem dX9_bounds_6 : decode cX9_bounds 6 = .ok (.ifCond .eq 7, 3) := by decide +kernel
theorem dX9_bounds_9 : decode cX9_bounds 9 = .ok (.iconst 0, 1) := by decide +kernel
theorem dX9_bounds_10 : decode cX9_bounds 10 = .ok (.goto 4, 3) := by decide +kernel
theorem dX9_bounds_13 : decode cX9_bounds 13 = .ok (.iconst 3, 1) := by decide +kernel
theorem dX9_bounds_14 : decode cX9_bounds 14 = .ok (.ireturn, 1) := by decide +kernel
theorem dX9_judged_0 : decode cX9_judged 0 = .ok (.aload_n 0, 1) := by decide +kernel
theorem dX9_judged_1 : decode cX9_judged 1 = .ok (.getfield 136, 3) := by decide +kernel
theorem dX9_judged_4 : decode cX9_judged 4 = .ok (.iconst 1, 1) := by decide +kernel
theorem dX9_judged_5 : decode cX9_judged 5 = .ok (.isub, 1) := by decide +kernel
theorem dX9_judged_6 : decode cX9_judged 6 = .ok (.aload_n 0, 1) := by decide +kernel
theorem dX9_judged_7 : decode cX9_judged 7 = .ok (.getfield 142, 3) := by decide +kernel
theorem dX9_judged_10 : decode cX9_judged 10 = .ok (.isub, 1) := by decide +kernel
theorem dX9_judged_11 : decode cX9_judged 11 = .ok (.istore_n 1, 1) := by decide +kernel
theorem dX9_judged_12 : decode cX9_judged 12 = .ok (.aload_n 0, 1) := by decide +kernel
theorem dX9_judged_13 : decode cX9_judged 13 = .ok (.iload_n 1, 1) := by decide +kernel
theorem dX9_judged_14 : decode cX9_judged 14 = .ok (.invokevirtual 187, 3) := by decide +kernel
theorem dX9_judged_17 : decode cX9_judged 17 = .ok (.istore_n 2, 1) := by decide +kernel
theorem dX9_judged_18 : decode cX9_judged 18 = .ok (.iload_n 1, 1) := by decide +kernel
theorem dX9_judged_19 : decode cX9_judged 19 = .ok (.ifCond .ne 49, 3) := by decide +kernel
theorem dX9_judged_22 : decode cX9_judged 22 = .ok (.iload_n 2, 1) := by decide +kernel
theorem dX9_judged_23 : decode cX9_judged 23 = .ok (.iconst 0, 1) := by decide +kernel
theorem dX9_judged_24 : decode cX9_judged 24 = .ok (.bipush 9, 2) := by decide +kernel
theorem dX9_judged_26 : decode cX9_judged 26 = .ok (.invokestatic 89, 3) := by decide +kernel
theorem dX9_judged_29 : decode cX9_judged 29 = .ok (.ifCond .ne 7, 3) := by decide +kernel
theorem dX9_judged_32 : decode cX9_judged 32 = .ok (.iconst 2, 1) := by decide +kernel
theorem dX9_judged_33 : decode cX9_judged 33 = .ok (.goto 34, 3) := by decide +kernel
theorem dX9_judged_36 : decode cX9_judged 36 = .ok (.aload_n 0, 1) := by decide +kernel
theorem dX9_judged_37 : decode cX9_judged 37 = .ok (.getfield 145, 3) := by decide +kernel
theorem dX9_judged_40 : decode cX9_judged 40 = .ok (.sipush 200, 3) := by decide +kernel
theorem dX9_judged_43 : decode cX9_judged 43 = .ok (.if_icmp .eq 18, 3) := by decide +kernel
theorem dX9_judged_46 : decode cX9_judged 46 = .ok (.iload_n 2, 1) := by decide +kernel
theorem dX9_judged_47 : decode cX9_judged 47 = .ok (.bipush 6, 2) := by decide +kernel
theorem dX9_judged_49 : decode cX9_judged 49 = .ok (.if_icmp .ne 17, 3) := by decide +kernel
theorem dX9_judged_52 : decode cX9_judged 52 = .ok (.aload_n 0, 1) := by decide +kernel
theorem dX9_judged_53 : decode cX9_judged 53 = .ok (.getfield 148, 3) := by decide +kernel
theorem dX9_judged_56 : decode cX9_judged 56 = .ok (.bipush 60, 2) := by decide +kernel
theorem dX9_judged_58 : decode cX9_judged 58 = .ok (.if_icmp .ne 8, 3) := by decide +kernel
theorem dX9_judged_61 : decode cX9_judged 61 = .ok (.bipush 9, 2) := by decide +kernel
theorem dX9_judged_63 : decode cX9_judged 63 = .ok (.goto 4, 3) := by decide +kernel
theorem dX9_judged_66 : decode cX9_judged 66 = .ok (.iconst 0, 1) := by decide +kernel
theorem dX9_judged_67 : decode cX9_judged 67 = .ok (.ireturn, 1) := by decide +kernel
theorem dX9_judged_68 : decode cX9_judged 68 = .ok (.aload_n 0, 1) := by decide +kernel
theorem dX9_judged_69 : decode cX9_judged 69 = .ok (.iconst 0, 1) := by decide +kernel
theorem dX9_judged_70 : decode cX9_judged 70 = .ok (.invokevirtual 187, 3) := by decide +kernel
theorem dX9_judged_73 : decode cX9_judged 73 = .ok (.tableswitch 237 0 8 #[51, 63, 63, 69, 105, 142, 164, 202, 208], 51) := by decide +kernel
theorem dX9_judged_124 : decode cX9_judged 124 = .ok (.iload_n 2, 1) := by decide +kernel
theorem dX9_judged_125 : decode cX9_judged 125 = .ok (.iconst 0, 1) := by decide +kernel
theorem dX9_judged_126 : decode cX9_judged 126 = .ok (.aload_n 0, 1) := by decide +kernel
theorem dX9_judged_127 : decode cX9_judged 127 = .ok (.getfield 115, 3) := by decide +kernel
theorem dX9_judged_130 : decode cX9_judged 130 = .ok (.iconst 1, 1) := by decide +kernel
theorem dX9_judged_131 : decode cX9_judged 131 = .ok (.isub, 1) := by decide +kernel
theorem dX9_judged_132 : decode cX9_judged 132 = .ok (.invokestatic 190, 3) := by decide +kernel
theorem dX9_judged_135 : decode cX9_judged 135 = .ok (.ireturn, 1) := by decide +kernel
theorem dX9_judged_136 : decode cX9_judged 136 = .ok (.aload_n 0, 1) := by decide +kernel
theorem dX9_judged_137 : decode cX9_judged 137 = .ok (.iload_n 2, 1) := by decide +kernel
theorem dX9_judged_138 : decode cX9_judged 138 = .ok (.invokevirtual 194, 3) := by decide +kernel
theorem dX9_judged_141 : decode cX9_judged 141 = .ok (.ireturn, 1) := by decide +kernel
theorem dX9_judged_142 : decode cX9_judged 142 = .ok (.iload_n 1, 1) := by decide +kernel
theorem dX9_judged_143 : decode cX9_judged 143 = .ok (.iconst 1, 1) := by decide +kernel
theorem dX9_judged_144 : decode cX9_judged 144 = .ok (.if_icmp .ne 25, 3) := by decide +kernel
theorem dX9_judged_147 : decode cX9_judged 147 = .ok (.iload_n 2, 1) := by decide +kernel
theorem dX9_judged_148 : decode cX9_judged 148 = .ok (.iconst 0, 1) := by decide +kernel
theorem dX9_judged_149 : decode cX9_judged 149 = .ok (.aload_n 0, 1) := by decide +kernel
theorem dX9_judged_150 : decode cX9_judged 150 = .ok (.getfield 118, 3) := by decide +kernel
theorem dX9_judged_153 : decode cX9_judged 153 = .ok (.iconst 1, 1) := by decide +kernel
theorem dX9_judged_154 : decode cX9_judged 154 = .ok (.isub, 1) := by decide +kernel
theorem dX9_judged_155 : decode cX9_judged 155 = .ok (.invokestatic 89, 3) := by decide +kernel
theorem dX9_judged_158 : decode cX9_judged 158 = .ok (.ifCond .eq 7, 3) := by decide +kernel
theorem dX9_judged_161 : decode cX9_judged 161 = .ok (.iconst 0, 1) := by decide +kernel
theorem dX9_judged_162 : decode cX9_judged 162 = .ok (.goto 15, 3) := by decide +kernel
theorem dX9_judged_165 : decode cX9_judged 165 = .ok (.iconst 4, 1) := by decide +kernel
theorem dX9_judged_166 : decode cX9_judged 166 = .ok (.goto 11, 3) := by decide +kernel
theorem dX9_judged_169 : decode cX9_judged 169 = .ok (.iload_n 2, 1) := by decide +kernel
theorem dX9_judged_170 : decode cX9_judged 170 = .ok (.bipush (-100), 2) := by decide +kernel
theorem dX9_judged_172 : decode cX9_judged 172 = .ok (.bipush 100, 2) := by decide +kernel
theorem dX9_judged_174 : decode cX9_judged 174 = .ok (.invokestatic 190, 3) := by decide +kernel
theorem dX9_judged_177 : decode cX9_judged 177 = .ok (.ireturn, 1) := by decide +kernel
theorem dX9_judged_178 : decode cX9_judged 178 = .ok (.iload_n 1, 1) := by decide +kernel
theorem dX9_judged_179 : decode cX9_judged 179 = .ok (.iconst 1, 1) := by decide +kernel
theorem dX9_judged_180 : decode cX9_judged 180 = .ok (.if_icmp .ne 12, 3) := by decide +kernel
theorem dX9_judged_183 : decode cX9_judged 183 = .ok (.iload_n 2, 1) := by decide +kernel
theorem dX9_judged_184 : decode cX9_judged 184 = .ok (.iconst 1, 1) := by decide +kernel
theorem dX9_judged_185 : decode cX9_judged 185 = .ok (.iconst 4, 1) := by decide +kernel
theorem dX9_judged_186 : decode cX9_judged 186 = .ok (.invokestatic 190, 3) := by decide +kernel
theorem dX9_judged_189 : decode cX9_judged 189 = .ok (.goto 25, 3) := by decide +kernel
theorem dX9_judged_192 : decode cX9_judged 192 = .ok (.iload_n 1, 1) := by decide +kernel
theorem dX9_judged_193 : decode cX9_judged 193 = .ok (.iconst 2, 1) := by decide +kernel
theorem dX9_judged_194 : decode cX9_judged 194 = .ok (.irem, 1) := by decide +kernel
theorem dX9_judged_195 : decode cX9_judged 195 = .ok (.ifCond .ne 11, 3) := by decide +kernel
theorem dX9_judged_198 : decode cX9_judged 198 = .ok (.aload_n 0, 1) := by decide +kernel
theorem dX9_judged_199 : decode cX9_judged 199 = .ok (.iload_n 2, 1) := by decide +kernel
theorem dX9_judged_200 : decode cX9_judged 200 = .ok (.invokevirtual 197, 3) := by decide +kernel
theorem dX9_judged_203 : decode cX9_judged 203 = .ok (.goto 11, 3) := by decide +kernel
theorem dX9_judged_206 : decode cX9_judged 206 = .ok (.iload_n 2, 1) := by decide +kernel
theorem dX9_judged_207 : decode cX9_judged 207 = .ok (.iconst 1, 1) := by decide +kernel
theorem dX9_judged_208 : decode cX9_judged 208 = .ok (.sipush 1000, 3) := by decide +kernel
theorem dX9_judged_211 : decode cX9_judged 211 = .ok (.invokestatic 190, 3) := by decide +kernel
theorem dX9_judged_214 : decode cX9_judged 214 = .ok (.ireturn, 1) := by decide +kernel
theorem dX9_judged_215 : decode cX9_judged 215 = .ok (.iload_n 1, 1) := by decide +kernel
theorem dX9_judged_216 : decode cX9_judged 216 = .ok (.iconst 1, 1) := by decide +kernel
theorem dX9_judged_217 : decode cX9_judged 217 = .ok (.if_icmp .ne 11, 3) := by decide +kernel
theorem dX9_judged_220 : decode cX9_judged 220 = .ok (.aload_n 0, 1) := by decide +kernel
theorem dX9_judged_221 : decode cX9_judged 221 = .ok (.iload_n 2, 1) := by decide +kernel
theorem dX9_judged_222 : decode cX9_judged 222 = .ok (.invokevirtual 197, 3) := by decide +kernel
theorem dX9_judged_225 : decode cX9_judged 225 = .ok (.goto 11, 3) := by decide +kernel
theorem dX9_judged_228 : decode cX9_judged 228 = .ok (.iload_n 2, 1) := by decide +kernel
theorem dX9_judged_229 : decode cX9_judged 229 = .ok (.iconst 2, 1) := by decide +kernel
theorem dX9_judged_230 : decode cX9_judged 230 = .ok (.sipush 1000, 3) := by decide +kernel
theorem dX9_judged_233 : decode cX9_judged 233 = .ok (.invokestatic 190, 3) := by decide +kernel
theorem dX9_judged_236 : decode cX9_judged 236 = .ok (.ireturn, 1) := by decide +kernel
theorem dX9_judged_237 : decode cX9_judged 237 = .ok (.iload_n 1, 1) := by decide +kernel
theorem dX9_judged_238 : decode cX9_judged 238 = .ok (.iconst 1, 1) := by decide +kernel
theorem dX9_judged_239 : decode cX9_judged 239 = .ok (.if_icmp .ne 11, 3) := by decide +kernel
theorem dX9_judged_242 : decode cX9_judged 242 = .ok (.aload_n 0, 1) := by decide +kernel
theorem dX9_judged_243 : decode cX9_judged 243 = .ok (.iload_n 2, 1) := by decide +kernel
theorem dX9_judged_244 : decode cX9_judged 244 = .ok (.invokevirtual 194, 3) := by decide +kernel
theorem dX9_judged_247 : decode cX9_judged 247 = .ok (.goto 27, 3) := by decide +kernel
theorem dX9_judged_250 : decode cX9_judged 250 = .ok (.iload_n 1, 1) := by decide +kernel
theorem dX9_judged_251 : decode cX9_judged 251 = .ok (.iconst 2, 1) := by decide +kernel
theorem dX9_judged_252 : decode cX9_judged 252 = .ok (.if_icmp .ne 16, 3) := by decide +kernel
theorem dX9_judged_255 : decode cX9_judged 255 = .ok (.iload_n 2, 1) := by decide +kernel
theorem dX9_judged_256 : decode cX9_judged 256 = .ok (.sipush (-1000), 3) := by decide +kernel
theorem dX9_judged_259 : decode cX9_judged 259 = .ok (.sipush 1000, 3) := by decide +kernel
theorem dX9_judged_262 : decode cX9_judged 262 = .ok (.invokestatic 190, 3) := by decide +kernel
theorem dX9_judged_265 : decode cX9_judged 265 = .ok (.goto 9, 3) := by decide +kernel
theorem dX9_judged_268 : decode cX9_judged 268 = .ok (.iload_n 2, 1) := by decide +kernel
theorem dX9_judged_269 : decode cX9_judged 269 = .ok (.iconst 0, 1) := by decide +kernel
theorem dX9_judged_270 : decode cX9_judged 270 = .ok (.iconst 1, 1) := by decide +kernel
theorem dX9_judged_271 : decode cX9_judged 271 = .ok (.invokestatic 190, 3) := by decide +kernel
theorem dX9_judged_274 : decode cX9_judged 274 = .ok (.ireturn, 1) := by decide +kernel
theorem dX9_judged_275 : decode cX9_judged 275 = .ok (.aload_n 0, 1) := by decide +kernel
theorem dX9_judged_276 : decode cX9_judged 276 = .ok (.iload_n 2, 1) := by decide +kernel
theorem dX9_judged_277 : decode cX9_judged 277 = .ok (.invokevirtual 197, 3) := by decide +kernel
theorem dX9_judged_280 : decode cX9_judged 280 = .ok (.ireturn, 1) := by decide +kernel
theorem dX9_judged_281 : decode cX9_judged 281 = .ok (.iload_n 2, 1) := by decide +kernel
theorem dX9_judged_282 : decode cX9_judged 282 = .ok (.iconst 0, 1) := by decide +kernel
theorem dX9_judged_283 : decode cX9_judged 283 = .ok (.aload_n 0, 1) := by decide +kernel
theorem dX9_judged_284 : decode cX9_judged 284 = .ok (.getfield 127, 3) := by decide +kernel
theorem dX9_judged_287 : decode cX9_judged 287 = .ok (.iconst 1, 1) := by decide +kernel
theorem dX9_judged_288 : decode cX9_judged 288 = .ok (.isub, 1) := by decide +kernel
theorem dX9_judged_289 : decode cX9_judged 289 = .ok (.invokestatic 89, 3) := by decide +kernel
theorem dX9_judged_292 : decode cX9_judged 292 = .ok (.ifCond .eq 16, 3) := by decide +kernel
theorem dX9_judged_295 : decode cX9_judged 295 = .ok (.aload_n 0, 1) := by decide +kernel
theorem dX9_judged_296 : decode cX9_judged 296 = .ok (.iload_n 2, 1) := by decide +kernel
theorem dX9_judged_297 : decode cX9_judged 297 = .ok (.invokevirtual 153, 3) := by decide +kernel
theorem dX9_judged_300 : decode cX9_judged 300 = .ok (.iconst (-1), 1) := by decide +kernel
theorem dX9_judged_301 : decode cX9_judged 301 = .ok (.if_icmp .ne 7, 3) := by decide +kernel
theorem dX9_judged_304 : decode cX9_judged 304 = .ok (.iconst 0, 1) := by decide +kernel
theorem dX9_judged_305 : decode cX9_judged 305 = .ok (.goto 4, 3) := by decide +kernel
theorem dX9_judged_308 : decode cX9_judged 308 = .ok (.iconst 4, 1) := by decide +kernel
theorem dX9_judged_309 : decode cX9_judged 309 = .ok (.ireturn, 1) := by decide +kernel
theorem dX9_judged_310 : decode cX9_judged 310 = .ok (.iload_n 1, 1) := by decide +kernel
theorem dX9_judged_311 : decode cX9_judged 311 = .ok (.iconst 1, 1) := by decide +kernel
theorem dX9_judged_312 : decode cX9_judged 312 = .ok (.if_icmp .ne 11, 3) := by decide +kernel
theorem dX9_judged_315 : decode cX9_judged 315 = .ok (.aload_n 0, 1) := by decide +kernel
theorem dX9_judged_316 : decode cX9_judged 316 = .ok (.iload_n 2, 1) := by decide +kernel
theorem dX9_judged_317 : decode cX9_judged 317 = .ok (.invokevirtual 197, 3) := by decide +kernel
theorem dX9_judged_320 : decode cX9_judged 320 = .ok (.goto 8, 3) := by decide +kernel
theorem dX9_judged_323 : decode cX9_judged 323 = .ok (.aload_n 0, 1) := by decide +kernel
theorem dX9_judged_324 : decode cX9_judged 324 = .ok (.iload_n 2, 1) := by decide +kernel
theorem dX9_judged_325 : decode cX9_judged 325 = .ok (.invokevirtual 194, 3) := by decide +kernel
theorem dX9_judged_328 : decode cX9_judged 328 = .ok (.ireturn, 1) := by decide +kernel
theorem dX9_says_0 : decode cX9_says 0 = .ok (.aload_n 0, 1) := by decide +kernel
theorem dX9_says_1 : decode cX9_says 1 = .ok (.getfield 59, 3) := by decide +kernel
theorem dX9_says_4 : decode cX9_says 4 = .ok (.bipush 8, 2) := by decide +kernel
theorem dX9_says_6 : decode cX9_says 6 = .ok (.iload_n 1, 1) := by decide +kernel
theorem dX9_says_7 : decode cX9_says 7 = .ok (.imul, 1) := by decide +kernel
theorem dX9_says_8 : decode cX9_says 8 = .ok (.iload_n 2, 1) := by decide +kernel
theorem dX9_says_9 : decode cX9_says 9 = .ok (.iadd, 1) := by decide +kernel
theorem dX9_says_10 : decode cX9_says 10 = .ok (.lload_n 3, 1) := by decide +kernel
theorem dX9_says_11 : decode cX9_says 11 = .ok (.lastore, 1) := by decide +kernel
theorem dX9_says_12 : decode cX9_says 12 = .ok (.return_, 1) := by decide +kernel
theorem dX9_assumes_0 : decode cX9_assumes 0 = .ok (.iconst 0, 1) := by decide +kernel
theorem dX9_assumes_1 : decode cX9_assumes 1 = .ok (.istore 4, 2) := by decide +kernel
theorem dX9_assumes_3 : decode cX9_assumes 3 = .ok (.iload 4, 2) := by decide +kernel
theorem dX9_assumes_5 : decode cX9_assumes 5 = .ok (.iload_n 1, 1) := by decide +kernel
theorem dX9_assumes_6 : decode cX9_assumes 6 = .ok (.if_icmp .ge 65, 3) := by decide +kernel
theorem dX9_assumes_9 : decode cX9_assumes 9 = .ok (.aload_n 0, 1) := by decide +kernel
theorem dX9_assumes_10 : decode cX9_assumes 10 = .ok (.getfield 74, 3) := by decide +kernel
theorem dX9_assumes_13 : decode cX9_assumes 13 = .ok (.sipush 200, 3) := by decide +kernel
theorem dX9_assumes_16 : decode cX9_assumes 16 = .ok (.iload_n 1, 1) := by decide +kernel
theorem dX9_assumes_17 : decode cX9_assumes 17 = .ok (.imul, 1) := by decide +kernel
theorem dX9_assumes_18 : decode cX9_assumes 18 = .ok (.iload 4, 2) := by decide +kernel
theorem dX9_assumes_20 : decode cX9_assumes 20 = .ok (.iadd, 1) := by decide +kernel
theorem dX9_assumes_21 : decode cX9_assumes 21 = .ok (.aload_n 0, 1) := by decide +kernel
theorem dX9_assumes_22 : decode cX9_assumes 22 = .ok (.getfield 74, 3) := by decide +kernel
theorem dX9_assumes_25 : decode cX9_assumes 25 = .ok (.sipush 200, 3) := by decide +kernel
theorem dX9_assumes_28 : decode cX9_assumes 28 = .ok (.iload_n 1, 1) := by decide +kernel
theorem dX9_assumes_29 : decode cX9_assumes 29 = .ok (.imul, 1) := by decide +kernel
theorem dX9_assumes_30 : decode cX9_assumes 30 = .ok (.iload 4, 2) := by decide +kernel
theorem dX9_assumes_32 : decode cX9_assumes 32 = .ok (.iadd, 1) := by decide +kernel
theorem dX9_assumes_33 : decode cX9_assumes 33 = .ok (.baload, 1) := by decide +kernel
theorem dX9_assumes_34 : decode cX9_assumes 34 = .ok (.ifCond .ne 25, 3) := by decide +kernel
theorem dX9_assumes_37 : decode cX9_assumes 37 = .ok (.aload_n 0, 1) := by decide +kernel
theorem dX9_assumes_38 : decode cX9_assumes 38 = .ok (.getfield 74, 3) := by decide +kernel
theorem dX9_assumes_41 : decode cX9_assumes 41 = .ok (.sipush 200, 3) := by decide +kernel
theorem dX9_assumes_44 : decode cX9_assumes 44 = .ok (.iload_n 2, 1) := by decide +kernel
theorem dX9_assumes_45 : decode cX9_assumes 45 = .ok (.imul, 1) := by decide +kernel
theorem dX9_assumes_46 : decode cX9_assumes 46 = .ok (.iload 4, 2) := by decide +kernel
theorem dX9_assumes_48 : decode cX9_assumes 48 = .ok (.iadd, 1) := by decide +kernel
theorem dX9_assumes_49 : decode cX9_assumes 49 = .ok (.baload, 1) := by decide +kernel
theorem dX9_assumes_50 : decode cX9_assumes 50 = .ok (.ifCond .eq 13, 3) := by decide +kernel
theorem dX9_assumes_53 : decode cX9_assumes 53 = .ok (.iload 4, 2) := by decide +kernel
theorem dX9_assumes_55 : decode cX9_assumes 55 = .ok (.iload_n 3, 1) := by decide +kernel
theorem dX9_assumes_56 : decode cX9_assumes 56 = .ok (.if_icmp .eq 7, 3) := by decide +kernel
theorem dX9_assumes_59 : decode cX9_assumes 59 = .ok (.iconst 1, 1) := by decide +kernel
theorem dX9_assumes_60 : decode cX9_assumes 60 = .ok (.goto 4, 3) := by decide +kernel
theorem dX9_assumes_63 : decode cX9_assumes 63 = .ok (.iconst 0, 1) := by decide +kernel
theorem dX9_assumes_64 : decode cX9_assumes 64 = .ok (.bastore, 1) := by decide +kernel
theorem dX9_assumes_65 : decode cX9_assumes 65 = .ok (.iinc 4 1, 3) := by decide +kernel
theorem dX9_assumes_68 : decode cX9_assumes 68 = .ok (.goto (-65), 3) := by decide +kernel
theorem dX9_assumes_71 : decode cX9_assumes 71 = .ok (.aload_n 0, 1) := by decide +kernel
theorem dX9_assumes_72 : decode cX9_assumes 72 = .ok (.getfield 66, 3) := by decide +kernel
theorem dX9_assumes_75 : decode cX9_assumes 75 = .ok (.iload_n 2, 1) := by decide +kernel
theorem dX9_assumes_76 : decode cX9_assumes 76 = .ok (.baload, 1) := by decide +kernel
theorem dX9_assumes_77 : decode cX9_assumes 77 = .ok (.ifCond .eq 56, 3) := by decide +kernel
theorem dX9_assumes_80 : decode cX9_assumes 80 = .ok (.aload_n 0, 1) := by decide +kernel
theorem dX9_assumes_81 : decode cX9_assumes 81 = .ok (.getfield 70, 3) := by decide +kernel
theorem dX9_assumes_84 : decode cX9_assumes 84 = .ok (.iload_n 1, 1) := by decide +kernel
theorem dX9_assumes_85 : decode cX9_assumes 85 = .ok (.aload_n 0, 1) := by decide +kernel
theorem dX9_assumes_86 : decode cX9_assumes 86 = .ok (.getfield 66, 3) := by decide +kernel
theorem dX9_assumes_89 : decode cX9_assumes 89 = .ok (.iload_n 1, 1) := by decide +kernel
theorem dX9_assumes_90 : decode cX9_assumes 90 = .ok (.baload, 1) := by decide +kernel
theorem dX9_assumes_91 : decode cX9_assumes 91 = .ok (.ifCond .eq 28, 3) := by decide +kernel
theorem dX9_assumes_94 : decode cX9_assumes 94 = .ok (.aload_n 0, 1) := by decide +kernel
theorem dX9_assumes_95 : decode cX9_assumes 95 = .ok (.getfield 70, 3) := by decide +kernel
theorem dX9_assumes_98 : decode cX9_assumes 98 = .ok (.iload_n 1, 1) := by decide +kernel
theorem dX9_assumes_99 : decode cX9_assumes 99 = .ok (.laload, 1) := by decide +kernel
theorem dX9_assumes_100 : decode cX9_assumes 100 = .ok (.aload_n 0, 1) := by decide +kernel
theorem dX9_assumes_101 : decode cX9_assumes 101 = .ok (.getfield 70, 3) := by decide +kernel
theorem dX9_assumes_104 : decode cX9_assumes 104 = .ok (.iload_n 2, 1) := by decide +kernel
theorem dX9_assumes_105 : decode cX9_assumes 105 = .ok (.laload, 1) := by decide +kernel
theorem dX9_assumes_106 : decode cX9_assumes 106 = .ok (.lcmp, 1) := by decide +kernel
theorem dX9_assumes_107 : decode cX9_assumes 107 = .ok (.ifCond .ge 12, 3) := by decide +kernel
theorem dX9_assumes_110 : decode cX9_assumes 110 = .ok (.aload_n 0, 1) := by decide +kernel
theorem dX9_assumes_111 : decode cX9_assumes 111 = .ok (.getfield 70, 3) := by decide +kernel
theorem dX9_assumes_114 : decode cX9_assumes 114 = .ok (.iload_n 1, 1) := by decide +kernel
theorem dX9_assumes_115 : decode cX9_assumes 115 = .ok (.laload, 1) := by decide +kernel
theorem dX9_assumes_116 : decode cX9_assumes 116 = .ok (.goto 9, 3) := by decide +kernel
theorem dX9_assumes_119 : decode cX9_assumes 119 = .ok (.aload_n 0, 1) := by decide +kernel
theorem dX9_assumes_120 : decode cX9_assumes 120 = .ok (.getfield 70, 3) := by decide +kernel
theorem dX9_assumes_123 : decode cX9_assumes 123 = .ok (.iload_n 2, 1) := by decide +kernel
theorem dX9_assumes_124 : decode cX9_assumes 124 = .ok (.laload, 1) := by decide +kernel
theorem dX9_assumes_125 : decode cX9_assumes 125 = .ok (.lastore, 1) := by decide +kernel
theorem dX9_assumes_126 : decode cX9_assumes 126 = .ok (.aload_n 0, 1) := by decide +kernel
theorem dX9_assumes_127 : decode cX9_assumes 127 = .ok (.getfield 66, 3) := by decide +kernel
theorem dX9_assumes_130 : decode cX9_assumes 130 = .ok (.iload_n 1, 1) := by decide +kernel
theorem dX9_assumes_131 : decode cX9_assumes 131 = .ok (.iconst 1, 1) := by decide +kernel
theorem dX9_assumes_132 : decode cX9_assumes 132 = .ok (.bastore, 1) := by decide +kernel
theorem dX9_assumes_133 : decode cX9_assumes 133 = .ok (.return_, 1) := by decide +kernel
theorem dX9_works_0 : decode cX9_works 0 = .ok (.aload_n 0, 1) := by decide +kernel
theorem dX9_works_1 : decode cX9_works 1 = .ok (.getfield 145, 3) := by decide +kernel
theorem dX9_works_4 : decode cX9_works 4 = .ok (.istore_n 1, 1) := by decide +kernel
theorem dX9_works_5 : decode cX9_works 5 = .ok (.iconst 0, 1) := by decide +kernel
theorem dX9_works_6 : decode cX9_works 6 = .ok (.istore_n 2, 1) := by decide +kernel
theorem dX9_works_7 : decode cX9_works 7 = .ok (.iload_n 2, 1) := by decide +kernel
theorem dX9_works_8 : decode cX9_works 8 = .ok (.bipush 8, 2) := by decide +kernel
theorem dX9_works_10 : decode cX9_works 10 = .ok (.if_icmp .ge 21, 3) := by decide +kernel
theorem dX9_works_13 : decode cX9_works 13 = .ok (.aload_n 0, 1) := by decide +kernel
theorem dX9_works_14 : decode cX9_works 14 = .ok (.getfield 59, 3) := by decide +kernel
theorem dX9_works_17 : decode cX9_works 17 = .ok (.bipush 8, 2) := by decide +kernel
theorem dX9_works_19 : decode cX9_works 19 = .ok (.iload_n 1, 1) := by decide +kernel
theorem dX9_works_20 : decode cX9_works 20 = .ok (.imul, 1) := by decide +kernel
theorem dX9_works_21 : decode cX9_works 21 = .ok (.iload_n 2, 1) := by decide +kernel
theorem dX9_works_22 : decode cX9_works 22 = .ok (.iadd, 1) := by decide +kernel
theorem dX9_works_23 : decode cX9_works 23 = .ok (.lconst 0, 1) := by decide +kernel
theorem dX9_works_24 : decode cX9_works 24 = .ok (.lastore, 1) := by decide +kernel
theorem dX9_works_25 : decode cX9_works 25 = .ok (.iinc 2 1, 3) := by decide +kernel
theorem dX9_works_28 : decode cX9_works 28 = .ok (.goto (-21), 3) := by decide +kernel
theorem dX9_works_31 : decode cX9_works 31 = .ok (.iconst 0, 1) := by decide +kernel
theorem dX9_works_32 : decode cX9_works 32 = .ok (.istore_n 2, 1) := by decide +kernel
theorem dX9_works_33 : decode cX9_works 33 = .ok (.iload_n 2, 1) := by decide +kernel
theorem dX9_works_34 : decode cX9_works 34 = .ok (.sipush 200, 3) := by decide +kernel
theorem dX9_works_37 : decode cX9_works 37 = .ok (.if_icmp .ge 22, 3) := by decide +kernel
theorem dX9_works_40 : decode cX9_works 40 = .ok (.aload_n 0, 1) := by decide +kernel
theorem dX9_works_41 : decode cX9_works 41 = .ok (.getfield 74, 3) := by decide +kernel
theorem dX9_works_44 : decode cX9_works 44 = .ok (.sipush 200, 3) := by decide +kernel
theorem dX9_works_47 : decode cX9_works 47 = .ok (.iload_n 1, 1) := by decide +kernel
theorem dX9_works_48 : decode cX9_works 48 = .ok (.imul, 1) := by decide +kernel
theorem dX9_works_49 : decode cX9_works 49 = .ok (.iload_n 2, 1) := by decide +kernel
theorem dX9_works_50 : decode cX9_works 50 = .ok (.iadd, 1) := by decide +kernel
theorem dX9_works_51 : decode cX9_works 51 = .ok (.iconst 0, 1) := by decide +kernel
theorem dX9_works_52 : decode cX9_works 52 = .ok (.bastore, 1) := by decide +kernel
theorem dX9_works_53 : decode cX9_works 53 = .ok (.iinc 2 1, 3) := by decide +kernel
theorem dX9_works_56 : decode cX9_works 56 = .ok (.goto (-23), 3) := by decide +kernel
theorem dX9_works_59 : decode cX9_works 59 = .ok (.aload_n 0, 1) := by decide +kernel
theorem dX9_works_60 : decode cX9_works 60 = .ok (.getfield 63, 3) := by decide +kernel
theorem dX9_works_63 : decode cX9_works 63 = .ok (.iload_n 1, 1) := by decide +kernel
theorem dX9_works_64 : decode cX9_works 64 = .ok (.lconst 0, 1) := by decide +kernel
theorem dX9_works_65 : decode cX9_works 65 = .ok (.lastore, 1) := by decide +kernel
theorem dX9_works_66 : decode cX9_works 66 = .ok (.aload_n 0, 1) := by decide +kernel
theorem dX9_works_67 : decode cX9_works 67 = .ok (.getfield 66, 3) := by decide +kernel
theorem dX9_works_70 : decode cX9_works 70 = .ok (.iload_n 1, 1) := by decide +kernel
theorem dX9_works_71 : decode cX9_works 71 = .ok (.iconst 0, 1) := by decide +kernel
theorem dX9_works_72 : decode cX9_works 72 = .ok (.bastore, 1) := by decide +kernel
theorem dX9_works_73 : decode cX9_works 73 = .ok (.aload_n 0, 1) := by decide +kernel
theorem dX9_works_74 : decode cX9_works 74 = .ok (.getfield 70, 3) := by decide +kernel
theorem dX9_works_77 : decode cX9_works 77 = .ok (.iload_n 1, 1) := by decide +kernel
theorem dX9_works_78 : decode cX9_works 78 = .ok (.lconst 0, 1) := by decide +kernel
theorem dX9_works_79 : decode cX9_works 79 = .ok (.lastore, 1) := by decide +kernel
theorem dX9_works_80 : decode cX9_works 80 = .ok (.iconst 0, 1) := by decide +kernel
theorem dX9_works_81 : decode cX9_works 81 = .ok (.istore_n 2, 1) := by decide +kernel
theorem dX9_works_82 : decode cX9_works 82 = .ok (.aload_n 0, 1) := by decide +kernel
theorem dX9_works_83 : decode cX9_works 83 = .ok (.iconst 0, 1) := by decide +kernel
theorem dX9_works_84 : decode cX9_works 84 = .ok (.invokevirtual 187, 3) := by decide +kernel
theorem dX9_works_87 : decode cX9_works 87 = .ok (.tableswitch 475 0 8 #[49, 107, 138, 172, 180, 303, 312, 395, 404], 49) := by decide +kernel
theorem dX9_works_136 : decode cX9_works 136 = .ok (.iconst 0, 1) := by decide +kernel
theorem dX9_works_137 : decode cX9_works 137 = .ok (.istore_n 3, 1) := by decide +kernel
theorem dX9_works_138 : decode cX9_works 138 = .ok (.iload_n 3, 1) := by decide +kernel
theorem dX9_works_139 : decode cX9_works 139 = .ok (.aload_n 0, 1) := by decide +kernel
theorem dX9_works_140 : decode cX9_works 140 = .ok (.getfield 112, 3) := by decide +kernel
theorem dX9_works_143 : decode cX9_works 143 = .ok (.if_icmp .ge 31, 3) := by decide +kernel
theorem dX9_works_146 : decode cX9_works 146 = .ok (.aload_n 0, 1) := by decide +kernel
theorem dX9_works_147 : decode cX9_works 147 = .ok (.iload_n 1, 1) := by decide +kernel
theorem dX9_works_148 : decode cX9_works 148 = .ok (.iload_n 3, 1) := by decide +kernel
theorem dX9_works_149 : decode cX9_works 149 = .ok (.aload_n 0, 1) := by decide +kernel
theorem dX9_works_150 : decode cX9_works 150 = .ok (.getfield 22, 3) := by decide +kernel
theorem dX9_works_153 : decode cX9_works 153 = .ok (.bipush 8, 2) := by decide +kernel
theorem dX9_works_155 : decode cX9_works 155 = .ok (.aload_n 0, 1) := by decide +kernel
theorem dX9_works_156 : decode cX9_works 156 = .ok (.iconst 1, 1) := by decide +kernel
theorem dX9_works_157 : decode cX9_works 157 = .ok (.invokevirtual 187, 3) := by decide +kernel
theorem dX9_works_160 : decode cX9_works 160 = .ok (.imul, 1) := by decide +kernel
theorem dX9_works_161 : decode cX9_works 161 = .ok (.iload_n 3, 1) := by decide +kernel
theorem dX9_works_162 : decode cX9_works 162 = .ok (.iadd, 1) := by decide +kernel
theorem dX9_works_163 : decode cX9_works 163 = .ok (.iaload, 1) := by decide +kernel
theorem dX9_works_164 : decode cX9_works 164 = .ok (.i2l, 1) := by decide +kernel
theorem dX9_works_165 : decode cX9_works 165 = .ok (.invokevirtual 200, 3) := by decide +kernel
theorem dX9_works_168 : decode cX9_works 168 = .ok (.iinc 3 1, 3) := by decide +kernel
theorem dX9_works_171 : decode cX9_works 171 = .ok (.goto (-33), 3) := by decide +kernel
theorem dX9_works_174 : decode cX9_works 174 = .ok (.aload_n 0, 1) := by decide +kernel
theorem dX9_works_175 : decode cX9_works 175 = .ok (.getfield 63, 3) := by decide +kernel
theorem dX9_works_178 : decode cX9_works 178 = .ok (.iload_n 1, 1) := by decide +kernel
theorem dX9_works_179 : decode cX9_works 179 = .ok (.aload_n 0, 1) := by decide +kernel
theorem dX9_works_180 : decode cX9_works 180 = .ok (.getfield 25, 3) := by decide +kernel
theorem dX9_works_183 : decode cX9_works 183 = .ok (.aload_n 0, 1) := by decide +kernel
theorem dX9_works_184 : decode cX9_works 184 = .ok (.iconst 1, 1) := by decide +kernel
theorem dX9_works_185 : decode cX9_works 185 = .ok (.invokevirtual 187, 3) := by decide +kernel
theorem dX9_works_188 : decode cX9_works 188 = .ok (.iaload, 1) := by decide +kernel
theorem dX9_works_189 : decode cX9_works 189 = .ok (.i2l, 1) := by decide +kernel
theorem dX9_works_190 : decode cX9_works 190 = .ok (.lastore, 1) := by decide +kernel
theorem dX9_works_191 : decode cX9_works 191 = .ok (.goto 377, 3) := by decide +kernel
theorem dX9_works_194 : decode cX9_works 194 = .ok (.aload_n 0, 1) := by decide +kernel
theorem dX9_works_195 : decode cX9_works 195 = .ok (.iload_n 1, 1) := by decide +kernel
end
section
theorem dX9_works_196 : decode cX9_works 196 = .ok (.aload_n 0, 1) := by decide +kernel
theorem dX9_works_197 : decode cX9_works 197 = .ok (.iconst 1, 1) := by decide +kernel
theorem dX9_works_198 : decode cX9_works 198 = .ok (.invokevirtual 187, 3) := by decide +kernel
theorem dX9_works_201 : decode cX9_works 201 = .ok (.lconst 1, 1) := by decide +kernel
theorem dX9_works_202 : decode cX9_works 202 = .ok (.invokevirtual 200, 3) := by decide +kernel
theorem dX9_works_205 : decode cX9_works 205 = .ok (.aload_n 0, 1) := by decide +kernel
theorem dX9_works_206 : decode cX9_works 206 = .ok (.getfield 63, 3) := by decide +kernel
theorem dX9_works_209 : decode cX9_works 209 = .ok (.iload_n 1, 1) := by decide +kernel
theorem dX9_works_210 : decode cX9_works 210 = .ok (.aload_n 0, 1) := by decide +kernel
theorem dX9_works_211 : decode cX9_works 211 = .ok (.getfield 16, 3) := by decide +kernel
theorem dX9_works_214 : decode cX9_works 214 = .ok (.aload_n 0, 1) := by decide +kernel
theorem dX9_works_215 : decode cX9_works 215 = .ok (.iconst 1, 1) := by decide +kernel
theorem dX9_works_216 : decode cX9_works 216 = .ok (.invokevirtual 187, 3) := by decide +kernel
theorem dX9_works_219 : decode cX9_works 219 = .ok (.iaload, 1) := by decide +kernel
theorem dX9_works_220 : decode cX9_works 220 = .ok (.i2l, 1) := by decide +kernel
theorem dX9_works_221 : decode cX9_works 221 = .ok (.lastore, 1) := by decide +kernel
theorem dX9_works_222 : decode cX9_works 222 = .ok (.goto 346, 3) := by decide +kernel
theorem dX9_works_225 : decode cX9_works 225 = .ok (.aload_n 0, 1) := by decide +kernel
theorem dX9_works_226 : decode cX9_works 226 = .ok (.iload_n 1, 1) := by decide +kernel
theorem dX9_works_227 : decode cX9_works 227 = .ok (.aload_n 0, 1) := by decide +kernel
theorem dX9_works_228 : decode cX9_works 228 = .ok (.iconst 1, 1) := by decide +kernel
theorem dX9_works_229 : decode cX9_works 229 = .ok (.invokevirtual 187, 3) := by decide +kernel
theorem dX9_works_232 : decode cX9_works 232 = .ok (.ldc2_w 204, 3) := by decide +kernel
theorem dX9_works_235 : decode cX9_works 235 = .ok (.invokevirtual 200, 3) := by decide +kernel
theorem dX9_works_238 : decode cX9_works 238 = .ok (.aload_n 0, 1) := by decide +kernel
theorem dX9_works_239 : decode cX9_works 239 = .ok (.getfield 63, 3) := by decide +kernel
theorem dX9_works_242 : decode cX9_works 242 = .ok (.iload_n 1, 1) := by decide +kernel
theorem dX9_works_243 : decode cX9_works 243 = .ok (.aload_n 0, 1) := by decide +kernel
theorem dX9_works_244 : decode cX9_works 244 = .ok (.getfield 13, 3) := by decide +kernel
theorem dX9_works_247 : decode cX9_works 247 = .ok (.aload_n 0, 1) := by decide +kernel
theorem dX9_works_248 : decode cX9_works 248 = .ok (.iconst 1, 1) := by decide +kernel
theorem dX9_works_249 : decode cX9_works 249 = .ok (.invokevirtual 187, 3) := by decide +kernel
theorem dX9_works_252 : decode cX9_works 252 = .ok (.iaload, 1) := by decide +kernel
theorem dX9_works_253 : decode cX9_works 253 = .ok (.ineg, 1) := by decide +kernel
theorem dX9_works_254 : decode cX9_works 254 = .ok (.i2l, 1) := by decide +kernel
theorem dX9_works_255 : decode cX9_works 255 = .ok (.lastore, 1) := by decide +kernel
theorem dX9_works_256 : decode cX9_works 256 = .ok (.goto 312, 3) := by decide +kernel
theorem dX9_works_259 : decode cX9_works 259 = .ok (.aload_n 0, 1) := by decide +kernel
theorem dX9_works_260 : decode cX9_works 260 = .ok (.iload_n 1, 1) := by decide +kernel
theorem dX9_works_261 : decode cX9_works 261 = .ok (.invokevirtual 206, 3) := by decide +kernel
theorem dX9_works_264 : decode cX9_works 264 = .ok (.goto 304, 3) := by decide +kernel
theorem dX9_works_267 : decode cX9_works 267 = .ok (.iconst 0, 1) := by decide +kernel
theorem dX9_works_268 : decode cX9_works 268 = .ok (.istore_n 3, 1) := by decide +kernel
theorem dX9_works_269 : decode cX9_works 269 = .ok (.iload_n 3, 1) := by decide +kernel
theorem dX9_works_270 : decode cX9_works 270 = .ok (.aload_n 0, 1) := by decide +kernel
theorem dX9_works_271 : decode cX9_works 271 = .ok (.iconst 1, 1) := by decide +kernel
theorem dX9_works_272 : decode cX9_works 272 = .ok (.invokevirtual 187, 3) := by decide +kernel
theorem dX9_works_275 : decode cX9_works 275 = .ok (.if_icmp .ge 112, 3) := by decide +kernel
theorem dX9_works_278 : decode cX9_works 278 = .ok (.aload_n 0, 1) := by decide +kernel
theorem dX9_works_279 : decode cX9_works 279 = .ok (.iconst 2, 1) := by decide +kernel
theorem dX9_works_280 : decode cX9_works 280 = .ok (.iconst 2, 1) := by decide +kernel
theorem dX9_works_281 : decode cX9_works 281 = .ok (.iload_n 3, 1) := by decide +kernel
theorem dX9_works_282 : decode cX9_works 282 = .ok (.imul, 1) := by decide +kernel
theorem dX9_works_283 : decode cX9_works 283 = .ok (.iadd, 1) := by decide +kernel
theorem dX9_works_284 : decode cX9_works 284 = .ok (.invokevirtual 187, 3) := by decide +kernel
theorem dX9_works_287 : decode cX9_works 287 = .ok (.istore 4, 2) := by decide +kernel
theorem dX9_works_289 : decode cX9_works 289 = .ok (.iconst 0, 1) := by decide +kernel
theorem dX9_works_290 : decode cX9_works 290 = .ok (.istore 5, 2) := by decide +kernel
theorem dX9_works_292 : decode cX9_works 292 = .ok (.iload 5, 2) := by decide +kernel
theorem dX9_works_294 : decode cX9_works 294 = .ok (.aload_n 0, 1) := by decide +kernel
theorem dX9_works_295 : decode cX9_works 295 = .ok (.getfield 112, 3) := by decide +kernel
theorem dX9_works_298 : decode cX9_works 298 = .ok (.if_icmp .ge 48, 3) := by decide +kernel
theorem dX9_works_301 : decode cX9_works 301 = .ok (.aload_n 0, 1) := by decide +kernel
theorem dX9_works_302 : decode cX9_works 302 = .ok (.getfield 59, 3) := by decide +kernel
theorem dX9_works_305 : decode cX9_works 305 = .ok (.bipush 8, 2) := by decide +kernel
theorem dX9_works_307 : decode cX9_works 307 = .ok (.iload_n 1, 1) := by decide +kernel
theorem dX9_works_308 : decode cX9_works 308 = .ok (.imul, 1) := by decide +kernel
theorem dX9_works_309 : decode cX9_works 309 = .ok (.iload 5, 2) := by decide +kernel
theorem dX9_works_311 : decode cX9_works 311 = .ok (.iadd, 1) := by decide +kernel
theorem dX9_works_312 : decode cX9_works 312 = .ok (.dup2, 1) := by decide +kernel
theorem dX9_works_313 : decode cX9_works 313 = .ok (.laload, 1) := by decide +kernel
theorem dX9_works_314 : decode cX9_works 314 = .ok (.aload_n 0, 1) := by decide +kernel
theorem dX9_works_315 : decode cX9_works 315 = .ok (.getfield 59, 3) := by decide +kernel
theorem dX9_works_318 : decode cX9_works 318 = .ok (.bipush 8, 2) := by decide +kernel
theorem dX9_works_320 : decode cX9_works 320 = .ok (.iload 4, 2) := by decide +kernel
theorem dX9_works_322 : decode cX9_works 322 = .ok (.imul, 1) := by decide +kernel
theorem dX9_works_323 : decode cX9_works 323 = .ok (.iload 5, 2) := by decide +kernel
theorem dX9_works_325 : decode cX9_works 325 = .ok (.iadd, 1) := by decide +kernel
theorem dX9_works_326 : decode cX9_works 326 = .ok (.laload, 1) := by decide +kernel
theorem dX9_works_327 : decode cX9_works 327 = .ok (.aload_n 0, 1) := by decide +kernel
theorem dX9_works_328 : decode cX9_works 328 = .ok (.iconst 3, 1) := by decide +kernel
theorem dX9_works_329 : decode cX9_works 329 = .ok (.iconst 2, 1) := by decide +kernel
theorem dX9_works_330 : decode cX9_works 330 = .ok (.iload_n 3, 1) := by decide +kernel
theorem dX9_works_331 : decode cX9_works 331 = .ok (.imul, 1) := by decide +kernel
theorem dX9_works_332 : decode cX9_works 332 = .ok (.iadd, 1) := by decide +kernel
theorem dX9_works_333 : decode cX9_works 333 = .ok (.invokevirtual 187, 3) := by decide +kernel
theorem dX9_works_336 : decode cX9_works 336 = .ok (.i2l, 1) := by decide +kernel
theorem dX9_works_337 : decode cX9_works 337 = .ok (.lmul, 1) := by decide +kernel
theorem dX9_works_338 : decode cX9_works 338 = .ok (.ladd, 1) := by decide +kernel
theorem dX9_works_339 : decode cX9_works 339 = .ok (.lastore, 1) := by decide +kernel
theorem dX9_works_340 : decode cX9_works 340 = .ok (.iinc 5 1, 3) := by decide +kernel
theorem dX9_works_343 : decode cX9_works 343 = .ok (.goto (-51), 3) := by decide +kernel
theorem dX9_works_346 : decode cX9_works 346 = .ok (.aload_n 0, 1) := by decide +kernel
theorem dX9_works_347 : decode cX9_works 347 = .ok (.getfield 63, 3) := by decide +kernel
theorem dX9_works_350 : decode cX9_works 350 = .ok (.iload_n 1, 1) := by decide +kernel
theorem dX9_works_351 : decode cX9_works 351 = .ok (.dup2, 1) := by decide +kernel
theorem dX9_works_352 : decode cX9_works 352 = .ok (.laload, 1) := by decide +kernel
theorem dX9_works_353 : decode cX9_works 353 = .ok (.aload_n 0, 1) := by decide +kernel
theorem dX9_works_354 : decode cX9_works 354 = .ok (.getfield 63, 3) := by decide +kernel
theorem dX9_works_357 : decode cX9_works 357 = .ok (.iload 4, 2) := by decide +kernel
theorem dX9_works_359 : decode cX9_works 359 = .ok (.laload, 1) := by decide +kernel
theorem dX9_works_360 : decode cX9_works 360 = .ok (.aload_n 0, 1) := by decide +kernel
theorem dX9_works_361 : decode cX9_works 361 = .ok (.iconst 3, 1) := by decide +kernel
theorem dX9_works_362 : decode cX9_works 362 = .ok (.iconst 2, 1) := by decide +kernel
theorem dX9_works_363 : decode cX9_works 363 = .ok (.iload_n 3, 1) := by decide +kernel
theorem dX9_works_364 : decode cX9_works 364 = .ok (.imul, 1) := by decide +kernel
theorem dX9_works_365 : decode cX9_works 365 = .ok (.iadd, 1) := by decide +kernel
theorem dX9_works_366 : decode cX9_works 366 = .ok (.invokevirtual 187, 3) := by decide +kernel
theorem dX9_works_369 : decode cX9_works 369 = .ok (.i2l, 1) := by decide +kernel
theorem dX9_works_370 : decode cX9_works 370 = .ok (.lmul, 1) := by decide +kernel
theorem dX9_works_371 : decode cX9_works 371 = .ok (.ladd, 1) := by decide +kernel
theorem dX9_works_372 : decode cX9_works 372 = .ok (.lastore, 1) := by decide +kernel
theorem dX9_works_373 : decode cX9_works 373 = .ok (.aload_n 0, 1) := by decide +kernel
theorem dX9_works_374 : decode cX9_works 374 = .ok (.iload_n 1, 1) := by decide +kernel
theorem dX9_works_375 : decode cX9_works 375 = .ok (.iload 4, 2) := by decide +kernel
theorem dX9_works_377 : decode cX9_works 377 = .ok (.iconst (-1), 1) := by decide +kernel
theorem dX9_works_378 : decode cX9_works 378 = .ok (.invokevirtual 209, 3) := by decide +kernel
theorem dX9_works_381 : decode cX9_works 381 = .ok (.iinc 3 1, 3) := by decide +kernel
theorem dX9_works_384 : decode cX9_works 384 = .ok (.goto (-115), 3) := by decide +kernel
theorem dX9_works_387 : decode cX9_works 387 = .ok (.goto 181, 3) := by decide +kernel
theorem dX9_works_390 : decode cX9_works 390 = .ok (.aload_n 0, 1) := by decide +kernel
theorem dX9_works_391 : decode cX9_works 391 = .ok (.iload_n 1, 1) := by decide +kernel
theorem dX9_works_392 : decode cX9_works 392 = .ok (.invokevirtual 212, 3) := by decide +kernel
theorem dX9_works_395 : decode cX9_works 395 = .ok (.istore_n 2, 1) := by decide +kernel
theorem dX9_works_396 : decode cX9_works 396 = .ok (.goto 172, 3) := by decide +kernel
theorem dX9_works_399 : decode cX9_works 399 = .ok (.aload_n 0, 1) := by decide +kernel
theorem dX9_works_400 : decode cX9_works 400 = .ok (.iload_n 1, 1) := by decide +kernel
theorem dX9_works_401 : decode cX9_works 401 = .ok (.aload_n 0, 1) := by decide +kernel
theorem dX9_works_402 : decode cX9_works 402 = .ok (.iconst 1, 1) := by decide +kernel
theorem dX9_works_403 : decode cX9_works 403 = .ok (.invokevirtual 187, 3) := by decide +kernel
theorem dX9_works_406 : decode cX9_works 406 = .ok (.aload_n 0, 1) := by decide +kernel
theorem dX9_works_407 : decode cX9_works 407 = .ok (.iconst 3, 1) := by decide +kernel
theorem dX9_works_408 : decode cX9_works 408 = .ok (.invokevirtual 187, 3) := by decide +kernel
theorem dX9_works_411 : decode cX9_works 411 = .ok (.ifCond .ne 7, 3) := by decide +kernel
theorem dX9_works_414 : decode cX9_works 414 = .ok (.lconst 1, 1) := by decide +kernel
theorem dX9_works_415 : decode cX9_works 415 = .ok (.goto 6, 3) := by decide +kernel
theorem dX9_works_418 : decode cX9_works 418 = .ok (.ldc2_w 204, 3) := by decide +kernel
theorem dX9_works_421 : decode cX9_works 421 = .ok (.invokevirtual 200, 3) := by decide +kernel
theorem dX9_works_424 : decode cX9_works 424 = .ok (.aload_n 0, 1) := by decide +kernel
theorem dX9_works_425 : decode cX9_works 425 = .ok (.getfield 63, 3) := by decide +kernel
theorem dX9_works_428 : decode cX9_works 428 = .ok (.iload_n 1, 1) := by decide +kernel
theorem dX9_works_429 : decode cX9_works 429 = .ok (.aload_n 0, 1) := by decide +kernel
theorem dX9_works_430 : decode cX9_works 430 = .ok (.iconst 3, 1) := by decide +kernel
theorem dX9_works_431 : decode cX9_works 431 = .ok (.invokevirtual 187, 3) := by decide +kernel
theorem dX9_works_434 : decode cX9_works 434 = .ok (.ifCond .ne 12, 3) := by decide +kernel
theorem dX9_works_437 : decode cX9_works 437 = .ok (.aload_n 0, 1) := by decide +kernel
theorem dX9_works_438 : decode cX9_works 438 = .ok (.iconst 2, 1) := by decide +kernel
theorem dX9_works_439 : decode cX9_works 439 = .ok (.invokevirtual 187, 3) := by decide +kernel
theorem dX9_works_442 : decode cX9_works 442 = .ok (.i2l, 1) := by decide +kernel
theorem dX9_works_443 : decode cX9_works 443 = .ok (.goto 12, 3) := by decide +kernel
theorem dX9_works_446 : decode cX9_works 446 = .ok (.aload_n 0, 1) := by decide +kernel
theorem dX9_works_447 : decode cX9_works 447 = .ok (.iconst 2, 1) := by decide +kernel
theorem dX9_works_448 : decode cX9_works 448 = .ok (.invokevirtual 187, 3) := by decide +kernel
theorem dX9_works_451 : decode cX9_works 451 = .ok (.ineg, 1) := by decide +kernel
theorem dX9_works_452 : decode cX9_works 452 = .ok (.i2l, 1) := by decide +kernel
theorem dX9_works_453 : decode cX9_works 453 = .ok (.lconst 1, 1) := by decide +kernel
theorem dX9_works_454 : decode cX9_works 454 = .ok (.lsub, 1) := by decide +kernel
theorem dX9_works_455 : decode cX9_works 455 = .ok (.lastore, 1) := by decide +kernel
theorem dX9_works_456 : decode cX9_works 456 = .ok (.aload_n 0, 1) := by decide +kernel
theorem dX9_works_457 : decode cX9_works 457 = .ok (.getfield 74, 3) := by decide +kernel
theorem dX9_works_460 : decode cX9_works 460 = .ok (.sipush 200, 3) := by decide +kernel
theorem dX9_works_463 : decode cX9_works 463 = .ok (.iload_n 1, 1) := by decide +kernel
theorem dX9_works_464 : decode cX9_works 464 = .ok (.imul, 1) := by decide +kernel
theorem dX9_works_465 : decode cX9_works 465 = .ok (.iload_n 1, 1) := by decide +kernel
theorem dX9_works_466 : decode cX9_works 466 = .ok (.iadd, 1) := by decide +kernel
theorem dX9_works_467 : decode cX9_works 467 = .ok (.iconst 1, 1) := by decide +kernel
theorem dX9_works_468 : decode cX9_works 468 = .ok (.bastore, 1) := by decide +kernel
theorem dX9_works_469 : decode cX9_works 469 = .ok (.aload_n 0, 1) := by decide +kernel
theorem dX9_works_470 : decode cX9_works 470 = .ok (.dup, 1) := by decide +kernel
theorem dX9_works_471 : decode cX9_works 471 = .ok (.getfield 148, 3) := by decide +kernel
theorem dX9_works_474 : decode cX9_works 474 = .ok (.iconst 1, 1) := by decide +kernel
theorem dX9_works_475 : decode cX9_works 475 = .ok (.iadd, 1) := by decide +kernel
theorem dX9_works_476 : decode cX9_works 476 = .ok (.putfield 148, 3) := by decide +kernel
theorem dX9_works_479 : decode cX9_works 479 = .ok (.goto 89, 3) := by decide +kernel
theorem dX9_works_482 : decode cX9_works 482 = .ok (.aload_n 0, 1) := by decide +kernel
theorem dX9_works_483 : decode cX9_works 483 = .ok (.iload_n 1, 1) := by decide +kernel
theorem dX9_works_484 : decode cX9_works 484 = .ok (.invokevirtual 215, 3) := by decide +kernel
theorem dX9_works_487 : decode cX9_works 487 = .ok (.istore_n 2, 1) := by decide +kernel
theorem dX9_works_488 : decode cX9_works 488 = .ok (.goto 80, 3) := by decide +kernel
theorem dX9_works_491 : decode cX9_works 491 = .ok (.iconst 0, 1) := by decide +kernel
theorem dX9_works_492 : decode cX9_works 492 = .ok (.istore_n 3, 1) := by decide +kernel
theorem dX9_works_493 : decode cX9_works 493 = .ok (.iload_n 3, 1) := by decide +kernel
theorem dX9_works_494 : decode cX9_works 494 = .ok (.aload_n 0, 1) := by decide +kernel
theorem dX9_works_495 : decode cX9_works 495 = .ok (.getfield 112, 3) := by decide +kernel
theorem dX9_works_498 : decode cX9_works 498 = .ok (.if_icmp .ge 22, 3) := by decide +kernel
theorem dX9_works_501 : decode cX9_works 501 = .ok (.aload_n 0, 1) := by decide +kernel
theorem dX9_works_502 : decode cX9_works 502 = .ok (.iload_n 1, 1) := by decide +kernel
theorem dX9_works_503 : decode cX9_works 503 = .ok (.iload_n 3, 1) := by decide +kernel
theorem dX9_works_504 : decode cX9_works 504 = .ok (.aload_n 0, 1) := by decide +kernel
theorem dX9_works_505 : decode cX9_works 505 = .ok (.getfield 19, 3) := by decide +kernel
theorem dX9_works_508 : decode cX9_works 508 = .ok (.iload_n 3, 1) := by decide +kernel
theorem dX9_works_509 : decode cX9_works 509 = .ok (.iaload, 1) := by decide +kernel
theorem dX9_works_510 : decode cX9_works 510 = .ok (.i2l, 1) := by decide +kernel
theorem dX9_works_511 : decode cX9_works 511 = .ok (.invokevirtual 200, 3) := by decide +kernel
theorem dX9_works_514 : decode cX9_works 514 = .ok (.iinc 3 1, 3) := by decide +kernel
theorem dX9_works_517 : decode cX9_works 517 = .ok (.goto (-24), 3) := by decide +kernel
theorem dX9_works_520 : decode cX9_works 520 = .ok (.aload_n 0, 1) := by decide +kernel
theorem dX9_works_521 : decode cX9_works 521 = .ok (.getfield 63, 3) := by decide +kernel
theorem dX9_works_524 : decode cX9_works 524 = .ok (.iload_n 1, 1) := by decide +kernel
theorem dX9_works_525 : decode cX9_works 525 = .ok (.aload_n 0, 1) := by decide +kernel
theorem dX9_works_526 : decode cX9_works 526 = .ok (.aload_n 0, 1) := by decide +kernel
theorem dX9_works_527 : decode cX9_works 527 = .ok (.iconst 1, 1) := by decide +kernel
theorem dX9_works_528 : decode cX9_works 528 = .ok (.invokevirtual 187, 3) := by decide +kernel
theorem dX9_works_531 : decode cX9_works 531 = .ok (.invokevirtual 161, 3) := by decide +kernel
theorem dX9_works_534 : decode cX9_works 534 = .ok (.lconst 1, 1) := by decide +kernel
theorem dX9_works_535 : decode cX9_works 535 = .ok (.lsub, 1) := by decide +kernel
theorem dX9_works_536 : decode cX9_works 536 = .ok (.lastore, 1) := by decide +kernel
theorem dX9_works_537 : decode cX9_works 537 = .ok (.aload_n 0, 1) := by decide +kernel
theorem dX9_works_538 : decode cX9_works 538 = .ok (.getfield 66, 3) := by decide +kernel
theorem dX9_works_541 : decode cX9_works 541 = .ok (.iload_n 1, 1) := by decide +kernel
theorem dX9_works_542 : decode cX9_works 542 = .ok (.iconst 1, 1) := by decide +kernel
theorem dX9_works_543 : decode cX9_works 543 = .ok (.bastore, 1) := by decide +kernel
theorem dX9_works_544 : decode cX9_works 544 = .ok (.aload_n 0, 1) := by decide +kernel
theorem dX9_works_545 : decode cX9_works 545 = .ok (.getfield 70, 3) := by decide +kernel
theorem dX9_works_548 : decode cX9_works 548 = .ok (.iload_n 1, 1) := by decide +kernel
theorem dX9_works_549 : decode cX9_works 549 = .ok (.aload_n 0, 1) := by decide +kernel
theorem dX9_works_550 : decode cX9_works 550 = .ok (.aload_n 0, 1) := by decide +kernel
theorem dX9_works_551 : decode cX9_works 551 = .ok (.iconst 1, 1) := by decide +kernel
theorem dX9_works_552 : decode cX9_works 552 = .ok (.invokevirtual 187, 3) := by decide +kernel
theorem dX9_works_555 : decode cX9_works 555 = .ok (.invokevirtual 161, 3) := by decide +kernel
theorem dX9_works_558 : decode cX9_works 558 = .ok (.lastore, 1) := by decide +kernel
theorem dX9_works_559 : decode cX9_works 559 = .ok (.goto 9, 3) := by decide +kernel
theorem dX9_works_562 : decode cX9_works 562 = .ok (.aload_n 0, 1) := by decide +kernel
theorem dX9_works_563 : decode cX9_works 563 = .ok (.iload_n 1, 1) := by decide +kernel
theorem dX9_works_564 : decode cX9_works 564 = .ok (.invokevirtual 218, 3) := by decide +kernel
theorem dX9_works_567 : decode cX9_works 567 = .ok (.istore_n 2, 1) := by decide +kernel
theorem dX9_works_568 : decode cX9_works 568 = .ok (.iload_n 2, 1) := by decide +kernel
theorem dX9_works_569 : decode cX9_works 569 = .ok (.ifCond .eq 7, 3) := by decide +kernel
theorem dX9_works_572 : decode cX9_works 572 = .ok (.iload_n 2, 1) := by decide +kernel
theorem dX9_works_573 : decode cX9_works 573 = .ok (.goto 17, 3) := by decide +kernel
theorem dX9_works_576 : decode cX9_works 576 = .ok (.aload_n 0, 1) := by decide +kernel
theorem dX9_works_577 : decode cX9_works 577 = .ok (.iload_n 1, 1) := by decide +kernel
theorem dX9_works_578 : decode cX9_works 578 = .ok (.invokevirtual 221, 3) := by decide +kernel
theorem dX9_works_581 : decode cX9_works 581 = .ok (.ifCond .eq 8, 3) := by decide +kernel
theorem dX9_works_584 : decode cX9_works 584 = .ok (.bipush 8, 2) := by decide +kernel
theorem dX9_works_586 : decode cX9_works 586 = .ok (.goto 4, 3) := by decide +kernel
theorem dX9_works_589 : decode cX9_works 589 = .ok (.iconst 0, 1) := by decide +kernel
theorem dX9_works_590 : decode cX9_works 590 = .ok (.ireturn, 1) := by decide +kernel
theorem dX9_isGreat_0 : decode cX9_isGreat 0 = .ok (.aload_n 0, 1) := by decide +kernel
theorem dX9_isGreat_1 : decode cX9_isGreat 1 = .ok (.getfield 63, 3) := by decide +kernel
theorem dX9_isGreat_4 : decode cX9_isGreat 4 = .ok (.iload_n 1, 1) := by decide +kernel
theorem dX9_isGreat_5 : decode cX9_isGreat 5 = .ok (.laload, 1) := by decide +kernel
theorem dX9_isGreat_6 : decode cX9_isGreat 6 = .ok (.ldc2_w 225, 3) := by decide +kernel
theorem dX9_isGreat_9 : decode cX9_isGreat 9 = .ok (.lcmp, 1) := by decide +kernel
theorem dX9_isGreat_10 : decode cX9_isGreat 10 = .ok (.ifCond .lt 16, 3) := by decide +kernel
theorem dX9_isGreat_13 : decode cX9_isGreat 13 = .ok (.aload_n 0, 1) := by decide +kernel
theorem dX9_isGreat_14 : decode cX9_isGreat 14 = .ok (.getfield 63, 3) := by decide +kernel
theorem dX9_isGreat_17 : decode cX9_isGreat 17 = .ok (.iload_n 1, 1) := by decide +kernel
theorem dX9_isGreat_18 : decode cX9_isGreat 18 = .ok (.laload, 1) := by decide +kernel
theorem dX9_isGreat_19 : decode cX9_isGreat 19 = .ok (.ldc2_w 227, 3) := by decide +kernel
theorem dX9_isGreat_22 : decode cX9_isGreat 22 = .ok (.lcmp, 1) := by decide +kernel
theorem dX9_isGreat_23 : decode cX9_isGreat 23 = .ok (.ifCond .le 7, 3) := by decide +kernel
theorem dX9_isGreat_26 : decode cX9_isGreat 26 = .ok (.iconst 1, 1) := by decide +kernel
theorem dX9_isGreat_27 : decode cX9_isGreat 27 = .ok (.goto 4, 3) := by decide +kernel
theorem dX9_isGreat_30 : decode cX9_isGreat 30 = .ok (.iconst 0, 1) := by decide +kernel
theorem dX9_isGreat_31 : decode cX9_isGreat 31 = .ok (.istore_n 2, 1) := by decide +kernel
theorem dX9_isGreat_32 : decode cX9_isGreat 32 = .ok (.iconst 0, 1) := by decide +kernel
theorem dX9_isGreat_33 : decode cX9_isGreat 33 = .ok (.istore_n 3, 1) := by decide +kernel
theorem dX9_isGreat_34 : decode cX9_isGreat 34 = .ok (.iload_n 3, 1) := by decide +kernel
theorem dX9_isGreat_35 : decode cX9_isGreat 35 = .ok (.aload_n 0, 1) := by decide +kernel
theorem dX9_isGreat_36 : decode cX9_isGreat 36 = .ok (.getfield 112, 3) := by decide +kernel
theorem dX9_isGreat_39 : decode cX9_isGreat 39 = .ok (.if_icmp .ge 55, 3) := by decide +kernel
theorem dX9_isGreat_42 : decode cX9_isGreat 42 = .ok (.iload_n 2, 1) := by decide +kernel
theorem dX9_isGreat_43 : decode cX9_isGreat 43 = .ok (.ifCond .ne 39, 3) := by decide +kernel
theorem dX9_isGreat_46 : decode cX9_isGreat 46 = .ok (.aload_n 0, 1) := by decide +kernel
theorem dX9_isGreat_47 : decode cX9_isGreat 47 = .ok (.getfield 59, 3) := by decide +kernel
theorem dX9_isGreat_50 : decode cX9_isGreat 50 = .ok (.bipush 8, 2) := by decide +kernel
theorem dX9_isGreat_52 : decode cX9_isGreat 52 = .ok (.iload_n 1, 1) := by decide +kernel
theorem dX9_isGreat_53 : decode cX9_isGreat 53 = .ok (.imul, 1) := by decide +kernel
theorem dX9_isGreat_54 : decode cX9_isGreat 54 = .ok (.iload_n 3, 1) := by decide +kernel
theorem dX9_isGreat_55 : decode cX9_isGreat 55 = .ok (.iadd, 1) := by decide +kernel
theorem dX9_isGreat_56 : decode cX9_isGreat 56 = .ok (.laload, 1) := by decide +kernel
theorem dX9_isGreat_57 : decode cX9_isGreat 57 = .ok (.ldc2_w 225, 3) := by decide +kernel
theorem dX9_isGreat_60 : decode cX9_isGreat 60 = .ok (.lcmp, 1) := by decide +kernel
theorem dX9_isGreat_61 : decode cX9_isGreat 61 = .ok (.ifCond .lt 21, 3) := by decide +kernel
theorem dX9_isGreat_64 : decode cX9_isGreat 64 = .ok (.aload_n 0, 1) := by decide +kernel
theorem dX9_isGreat_65 : decode cX9_isGreat 65 = .ok (.getfield 59, 3) := by decide +kernel
theorem dX9_isGreat_68 : decode cX9_isGreat 68 = .ok (.bipush 8, 2) := by decide +kernel
theorem dX9_isGreat_70 : decode cX9_isGreat 70 = .ok (.iload_n 1, 1) := by decide +kernel
theorem dX9_isGreat_71 : decode cX9_isGreat 71 = .ok (.imul, 1) := by decide +kernel
theorem dX9_isGreat_72 : decode cX9_isGreat 72 = .ok (.iload_n 3, 1) := by decide +kernel
theorem dX9_isGreat_73 : decode cX9_isGreat 73 = .ok (.iadd, 1) := by decide +kernel
theorem dX9_isGreat_74 : decode cX9_isGreat 74 = .ok (.laload, 1) := by decide +kernel
theorem dX9_isGreat_75 : decode cX9_isGreat 75 = .ok (.ldc2_w 227, 3) := by decide +kernel
theorem dX9_isGreat_78 : decode cX9_isGreat 78 = .ok (.lcmp, 1) := by decide +kernel
theorem dX9_isGreat_79 : decode cX9_isGreat 79 = .ok (.ifCond .le 7, 3) := by decide +kernel
theorem dX9_isGreat_82 : decode cX9_isGreat 82 = .ok (.iconst 1, 1) := by decide +kernel
theorem dX9_isGreat_83 : decode cX9_isGreat 83 = .ok (.goto 4, 3) := by decide +kernel
theorem dX9_isGreat_86 : decode cX9_isGreat 86 = .ok (.iconst 0, 1) := by decide +kernel
theorem dX9_isGreat_87 : decode cX9_isGreat 87 = .ok (.istore_n 2, 1) := by decide +kernel
theorem dX9_isGreat_88 : decode cX9_isGreat 88 = .ok (.iinc 3 1, 3) := by decide +kernel
theorem dX9_isGreat_91 : decode cX9_isGreat 91 = .ok (.goto (-57), 3) := by decide +kernel
theorem dX9_isGreat_94 : decode cX9_isGreat 94 = .ok (.iload_n 2, 1) := by decide +kernel
theorem dX9_isGreat_95 : decode cX9_isGreat 95 = .ok (.ireturn, 1) := by decide +kernel
theorem dX9_table_0 : decode cX9_table 0 = .ok (.aload_n 0, 1) := by decide +kernel
theorem dX9_table_1 : decode cX9_table 1 = .ok (.iconst 1, 1) := by decide +kernel
theorem dX9_table_2 : decode cX9_table 2 = .ok (.invokevirtual 187, 3) := by decide +kernel
theorem dX9_table_5 : decode cX9_table 5 = .ok (.istore_n 2, 1) := by decide +kernel
theorem dX9_table_6 : decode cX9_table 6 = .ok (.aload_n 0, 1) := by decide +kernel
theorem dX9_table_7 : decode cX9_table 7 = .ok (.iload_n 1, 1) := by decide +kernel
theorem dX9_table_8 : decode cX9_table 8 = .ok (.aload_n 0, 1) := by decide +kernel
theorem dX9_table_9 : decode cX9_table 9 = .ok (.getfield 28, 3) := by decide +kernel
theorem dX9_table_12 : decode cX9_table 12 = .ok (.iload_n 2, 1) := by decide +kernel
theorem dX9_table_13 : decode cX9_table 13 = .ok (.iaload, 1) := by decide +kernel
theorem dX9_table_14 : decode cX9_table 14 = .ok (.aload_n 0, 1) := by decide +kernel
theorem dX9_table_15 : decode cX9_table 15 = .ok (.iconst 2, 1) := by decide +kernel
theorem dX9_table_16 : decode cX9_table 16 = .ok (.invokevirtual 187, 3) := by decide +kernel
theorem dX9_table_19 : decode cX9_table 19 = .ok (.i2l, 1) := by decide +kernel
theorem dX9_table_20 : decode cX9_table 20 = .ok (.invokevirtual 200, 3) := by decide +kernel
theorem dX9_table_23 : decode cX9_table 23 = .ok (.aload_n 0, 1) := by decide +kernel
theorem dX9_table_24 : decode cX9_table 24 = .ok (.iload_n 1, 1) := by decide +kernel
theorem dX9_table_25 : decode cX9_table 25 = .ok (.aload_n 0, 1) := by decide +kernel
theorem dX9_table_26 : decode cX9_table 26 = .ok (.getfield 31, 3) := by decide +kernel
theorem dX9_table_29 : decode cX9_table 29 = .ok (.iload_n 2, 1) := by decide +kernel
theorem dX9_table_30 : decode cX9_table 30 = .ok (.iaload, 1) := by decide +kernel
theorem dX9_table_31 : decode cX9_table 31 = .ok (.aload_n 0, 1) := by decide +kernel
theorem dX9_table_32 : decode cX9_table 32 = .ok (.iconst 3, 1) := by decide +kernel
theorem dX9_table_33 : decode cX9_table 33 = .ok (.invokevirtual 187, 3) := by decide +kernel
theorem dX9_table_36 : decode cX9_table 36 = .ok (.i2l, 1) := by decide +kernel
theorem dX9_table_37 : decode cX9_table 37 = .ok (.invokevirtual 200, 3) := by decide +kernel
theorem dX9_table_40 : decode cX9_table 40 = .ok (.iconst 0, 1) := by decide +kernel
theorem dX9_table_41 : decode cX9_table 41 = .ok (.istore_n 3, 1) := by decide +kernel
theorem dX9_table_42 : decode cX9_table 42 = .ok (.iload_n 3, 1) := by decide +kernel
theorem dX9_table_43 : decode cX9_table 43 = .ok (.aload_n 0, 1) := by decide +kernel
theorem dX9_table_44 : decode cX9_table 44 = .ok (.getfield 34, 3) := by decide +kernel
theorem dX9_table_47 : decode cX9_table 47 = .ok (.iload_n 2, 1) := by decide +kernel
theorem dX9_table_48 : decode cX9_table 48 = .ok (.iaload, 1) := by decide +kernel
theorem dX9_table_49 : decode cX9_table 49 = .ok (.if_icmp .ge 83, 3) := by decide +kernel
theorem dX9_table_52 : decode cX9_table 52 = .ok (.aload_n 0, 1) := by decide +kernel
theorem dX9_table_53 : decode cX9_table 53 = .ok (.iconst 2, 1) := by decide +kernel
theorem dX9_table_54 : decode cX9_table 54 = .ok (.invokevirtual 187, 3) := by decide +kernel
theorem dX9_table_57 : decode cX9_table 57 = .ok (.i2l, 1) := by decide +kernel
theorem dX9_table_58 : decode cX9_table 58 = .ok (.aload_n 0, 1) := by decide +kernel
theorem dX9_table_59 : decode cX9_table 59 = .ok (.getfield 37, 3) := by decide +kernel
theorem dX9_table_62 : decode cX9_table 62 = .ok (.bipush 20, 2) := by decide +kernel
theorem dX9_table_64 : decode cX9_table 64 = .ok (.iload_n 2, 1) := by decide +kernel
theorem dX9_table_65 : decode cX9_table 65 = .ok (.imul, 1) := by decide +kernel
theorem dX9_table_66 : decode cX9_table 66 = .ok (.iload_n 3, 1) := by decide +kernel
theorem dX9_table_67 : decode cX9_table 67 = .ok (.iadd, 1) := by decide +kernel
theorem dX9_table_68 : decode cX9_table 68 = .ok (.iaload, 1) := by decide +kernel
theorem dX9_table_69 : decode cX9_table 69 = .ok (.i2l, 1) := by decide +kernel
theorem dX9_table_70 : decode cX9_table 70 = .ok (.lmul, 1) := by decide +kernel
theorem dX9_table_71 : decode cX9_table 71 = .ok (.aload_n 0, 1) := by decide +kernel
theorem dX9_table_72 : decode cX9_table 72 = .ok (.iconst 3, 1) := by decide +kernel
theorem dX9_table_73 : decode cX9_table 73 = .ok (.invokevirtual 187, 3) := by decide +kernel
theorem dX9_table_76 : decode cX9_table 76 = .ok (.i2l, 1) := by decide +kernel
theorem dX9_table_77 : decode cX9_table 77 = .ok (.aload_n 0, 1) := by decide +kernel
theorem dX9_table_78 : decode cX9_table 78 = .ok (.getfield 40, 3) := by decide +kernel
theorem dX9_table_81 : decode cX9_table 81 = .ok (.bipush 20, 2) := by decide +kernel
theorem dX9_table_83 : decode cX9_table 83 = .ok (.iload_n 2, 1) := by decide +kernel
theorem dX9_table_84 : decode cX9_table 84 = .ok (.imul, 1) := by decide +kernel
theorem dX9_table_85 : decode cX9_table 85 = .ok (.iload_n 3, 1) := by decide +kernel
theorem dX9_table_86 : decode cX9_table 86 = .ok (.iadd, 1) := by decide +kernel
theorem dX9_table_87 : decode cX9_table 87 = .ok (.iaload, 1) := by decide +kernel
theorem dX9_table_88 : decode cX9_table 88 = .ok (.i2l, 1) := by decide +kernel
theorem dX9_table_89 : decode cX9_table 89 = .ok (.lmul, 1) := by decide +kernel
theorem dX9_table_90 : decode cX9_table 90 = .ok (.ladd, 1) := by decide +kernel
theorem dX9_table_91 : decode cX9_table 91 = .ok (.lstore 4, 2) := by decide +kernel
theorem dX9_table_93 : decode cX9_table 93 = .ok (.aload_n 0, 1) := by decide +kernel
theorem dX9_table_94 : decode cX9_table 94 = .ok (.getfield 63, 3) := by decide +kernel
theorem dX9_table_97 : decode cX9_table 97 = .ok (.iload_n 1, 1) := by decide +kernel
theorem dX9_table_98 : decode cX9_table 98 = .ok (.iload_n 3, 1) := by decide +kernel
theorem dX9_table_99 : decode cX9_table 99 = .ok (.ifCond .eq 15, 3) := by decide +kernel
theorem dX9_table_102 : decode cX9_table 102 = .ok (.lload 4, 2) := by decide +kernel
theorem dX9_table_104 : decode cX9_table 104 = .ok (.aload_n 0, 1) := by decide +kernel
theorem dX9_table_105 : decode cX9_table 105 = .ok (.getfield 63, 3) := by decide +kernel
theorem dX9_table_108 : decode cX9_table 108 = .ok (.iload_n 1, 1) := by decide +kernel
theorem dX9_table_109 : decode cX9_table 109 = .ok (.laload, 1) := by decide +kernel
theorem dX9_table_110 : decode cX9_table 110 = .ok (.lcmp, 1) := by decide +kernel
theorem dX9_table_111 : decode cX9_table 111 = .ok (.ifCond .le 8, 3) := by decide +kernel
theorem dX9_table_114 : decode cX9_table 114 = .ok (.lload 4, 2) := by decide +kernel
theorem dX9_table_116 : decode cX9_table 116 = .ok (.goto 9, 3) := by decide +kernel
theorem dX9_table_119 : decode cX9_table 119 = .ok (.aload_n 0, 1) := by decide +kernel
theorem dX9_table_120 : decode cX9_table 120 = .ok (.getfield 63, 3) := by decide +kernel
theorem dX9_table_123 : decode cX9_table 123 = .ok (.iload_n 1, 1) := by decide +kernel
theorem dX9_table_124 : decode cX9_table 124 = .ok (.laload, 1) := by decide +kernel
theorem dX9_table_125 : decode cX9_table 125 = .ok (.lastore, 1) := by decide +kernel
theorem dX9_table_126 : decode cX9_table 126 = .ok (.iinc 3 1, 3) := by decide +kernel
theorem dX9_table_129 : decode cX9_table 129 = .ok (.goto (-87), 3) := by decide +kernel
theorem dX9_table_132 : decode cX9_table 132 = .ok (.return_, 1) := by decide +kernel
theorem dX9_down_0 : decode cX9_down 0 = .ok (.lload_n 0, 1) := by decide +kernel
theorem dX9_down_1 : decode cX9_down 1 = .ok (.lload_n 2, 1) := by decide +kernel
theorem dX9_down_2 : decode cX9_down 2 = .ok (.ldiv, 1) := by decide +kernel
theorem dX9_down_3 : decode cX9_down 3 = .ok (.lstore 4, 2) := by decide +kernel
theorem dX9_down_5 : decode cX9_down 5 = .ok (.lload 4, 2) := by decide +kernel
theorem dX9_down_7 : decode cX9_down 7 = .ok (.lload_n 2, 1) := by decide +kernel
theorem dX9_down_8 : decode cX9_down 8 = .ok (.lmul, 1) := by decide +kernel
theorem dX9_down_9 : decode cX9_down 9 = .ok (.lload_n 0, 1) := by decide +kernel
theorem dX9_down_10 : decode cX9_down 10 = .ok (.lcmp, 1) := by decide +kernel
theorem dX9_down_11 : decode cX9_down 11 = .ok (.ifCond .le 10, 3) := by decide +kernel
theorem dX9_down_14 : decode cX9_down 14 = .ok (.lload 4, 2) := by decide +kernel
theorem dX9_down_16 : decode cX9_down 16 = .ok (.lconst 1, 1) := by decide +kernel
theorem dX9_down_17 : decode cX9_down 17 = .ok (.lsub, 1) := by decide +kernel
theorem dX9_down_18 : decode cX9_down 18 = .ok (.goto 5, 3) := by decide +kernel
theorem dX9_down_21 : decode cX9_down 21 = .ok (.lload 4, 2) := by decide +kernel
theorem dX9_down_23 : decode cX9_down 23 = .ok (.lreturn, 1) := by decide +kernel
theorem dX9_divides_0 : decode cX9_divides 0 = .ok (.aload_n 0, 1) := by decide +kernel
theorem dX9_divides_1 : decode cX9_divides 1 = .ok (.iconst 1, 1) := by decide +kernel
theorem dX9_divides_2 : decode cX9_divides 2 = .ok (.invokevirtual 187, 3) := by decide +kernel
theorem dX9_divides_5 : decode cX9_divides 5 = .ok (.istore_n 2, 1) := by decide +kernel
theorem dX9_divides_6 : decode cX9_divides 6 = .ok (.aload_n 0, 1) := by decide +kernel
theorem dX9_divides_7 : decode cX9_divides 7 = .ok (.iconst 2, 1) := by decide +kernel
theorem dX9_divides_8 : decode cX9_divides 8 = .ok (.invokevirtual 187, 3) := by decide +kernel
theorem dX9_divides_11 : decode cX9_divides 11 = .ok (.i2l, 1) := by decide +kernel
theorem dX9_divides_12 : decode cX9_divides 12 = .ok (.lstore_n 3, 1) := by decide +kernel
theorem dX9_divides_13 : decode cX9_divides 13 = .ok (.iconst 0, 1) := by decide +kernel
theorem dX9_divides_14 : decode cX9_divides 14 = .ok (.istore 5, 2) := by decide +kernel
theorem dX9_divides_16 : decode cX9_divides 16 = .ok (.iload 5, 2) := by decide +kernel
theorem dX9_divides_18 : decode cX9_divides 18 = .ok (.aload_n 0, 1) := by decide +kernel
theorem dX9_divides_19 : decode cX9_divides 19 = .ok (.getfield 112, 3) := by decide +kernel
theorem dX9_divides_22 : decode cX9_divides 22 = .ok (.if_icmp .ge 51, 3) := by decide +kernel
theorem dX9_divides_25 : decode cX9_divides 25 = .ok (.aload_n 0, 1) := by decide +kernel
theorem dX9_divides_26 : decode cX9_divides 26 = .ok (.getfield 59, 3) := by decide +kernel
theorem dX9_divides_29 : decode cX9_divides 29 = .ok (.bipush 8, 2) := by decide +kernel
theorem dX9_divides_31 : decode cX9_divides 31 = .ok (.iload_n 2, 1) := by decide +kernel
theorem dX9_divides_32 : decode cX9_divides 32 = .ok (.imul, 1) := by decide +kernel
theorem dX9_divides_33 : decode cX9_divides 33 = .ok (.iload 5, 2) := by decide +kernel
theorem dX9_divides_35 : decode cX9_divides 35 = .ok (.iadd, 1) := by decide +kernel
theorem dX9_divides_36 : decode cX9_divides 36 = .ok (.laload, 1) := by decide +kernel
theorem dX9_divides_37 : decode cX9_divides 37 = .ok (.lload_n 3, 1) := by decide +kernel
theorem dX9_divides_38 : decode cX9_divides 38 = .ok (.lrem, 1) := by decide +kernel
theorem dX9_divides_39 : decode cX9_divides 39 = .ok (.lconst 0, 1) := by decide +kernel
theorem dX9_divides_40 : decode cX9_divides 40 = .ok (.lcmp, 1) := by decide +kernel
theorem dX9_divides_41 : decode cX9_divides 41 = .ok (.ifCond .eq 5, 3) := by decide +kernel
theorem dX9_divides_44 : decode cX9_divides 44 = .ok (.iconst 5, 1) := by decide +kernel
theorem dX9_divides_45 : decode cX9_divides 45 = .ok (.ireturn, 1) := by decide +kernel
theorem dX9_divides_46 : decode cX9_divides 46 = .ok (.aload_n 0, 1) := by decide +kernel
theorem dX9_divides_47 : decode cX9_divides 47 = .ok (.iload_n 1, 1) := by decide +kernel
theorem dX9_divides_48 : decode cX9_divides 48 = .ok (.iload 5, 2) := by decide +kernel
theorem dX9_divides_50 : decode cX9_divides 50 = .ok (.aload_n 0, 1) := by decide +kernel
theorem dX9_divides_51 : decode cX9_divides 51 = .ok (.getfield 59, 3) := by decide +kernel
theorem dX9_divides_54 : decode cX9_divides 54 = .ok (.bipush 8, 2) := by decide +kernel
theorem dX9_divides_56 : decode cX9_divides 56 = .ok (.iload_n 2, 1) := by decide +kernel
theorem dX9_divides_57 : decode cX9_divides 57 = .ok (.imul, 1) := by decide +kernel
theorem dX9_divides_58 : decode cX9_divides 58 = .ok (.iload 5, 2) := by decide +kernel
theorem dX9_divides_60 : decode cX9_divides 60 = .ok (.iadd, 1) := by decide +kernel
theorem dX9_divides_61 : decode cX9_divides 61 = .ok (.laload, 1) := by decide +kernel
theorem dX9_divides_62 : decode cX9_divides 62 = .ok (.lload_n 3, 1) := by decide +kernel
theorem dX9_divides_63 : decode cX9_divides 63 = .ok (.ldiv, 1) := by decide +kernel
theorem dX9_divides_64 : decode cX9_divides 64 = .ok (.invokevirtual 200, 3) := by decide +kernel
theorem dX9_divides_67 : decode cX9_divides 67 = .ok (.iinc 5 1, 3) := by decide +kernel
theorem dX9_divides_70 : decode cX9_divides 70 = .ok (.goto (-54), 3) := by decide +kernel
theorem dX9_divides_73 : decode cX9_divides 73 = .ok (.aload_n 0, 1) := by decide +kernel
theorem dX9_divides_74 : decode cX9_divides 74 = .ok (.getfield 63, 3) := by decide +kernel
theorem dX9_divides_77 : decode cX9_divides 77 = .ok (.iload_n 1, 1) := by decide +kernel
theorem dX9_divides_78 : decode cX9_divides 78 = .ok (.aload_n 0, 1) := by decide +kernel
theorem dX9_divides_79 : decode cX9_divides 79 = .ok (.getfield 63, 3) := by decide +kernel
theorem dX9_divides_82 : decode cX9_divides 82 = .ok (.iload_n 2, 1) := by decide +kernel
theorem dX9_divides_83 : decode cX9_divides 83 = .ok (.laload, 1) := by decide +kernel
theorem dX9_divides_84 : decode cX9_divides 84 = .ok (.lload_n 3, 1) := by decide +kernel
theorem dX9_divides_85 : decode cX9_divides 85 = .ok (.invokestatic 229, 3) := by decide +kernel
theorem dX9_divides_88 : decode cX9_divides 88 = .ok (.lastore, 1) := by decide +kernel
theorem dX9_divides_89 : decode cX9_divides 89 = .ok (.aload_n 0, 1) := by decide +kernel
theorem dX9_divides_90 : decode cX9_divides 90 = .ok (.iload_n 1, 1) := by decide +kernel
theorem dX9_divides_91 : decode cX9_divides 91 = .ok (.iload_n 2, 1) := by decide +kernel
theorem dX9_divides_92 : decode cX9_divides 92 = .ok (.iconst (-1), 1) := by decide +kernel
theorem dX9_divides_93 : decode cX9_divides 93 = .ok (.invokevirtual 209, 3) := by decide +kernel
theorem dX9_divides_96 : decode cX9_divides 96 = .ok (.iconst 0, 1) := by decide +kernel
theorem dX9_divides_97 : decode cX9_divides 97 = .ok (.ireturn, 1) := by decide +kernel
theorem dX9_kind_0 : decode cX9_kind 0 = .ok (.aload_n 0, 1) := by decide +kernel
theorem dX9_kind_1 : decode cX9_kind 1 = .ok (.getfield 46, 3) := by decide +kernel
theorem dX9_kind_4 : decode cX9_kind 4 = .ok (.aload_n 0, 1) := by decide +kernel
theorem dX9_kind_5 : decode cX9_kind 5 = .ok (.getfield 56, 3) := by decide +kernel
theorem dX9_kind_8 : decode cX9_kind 8 = .ok (.iload_n 1, 1) := by decide +kernel
theorem dX9_kind_9 : decode cX9_kind 9 = .ok (.iaload, 1) := by decide +kernel
theorem dX9_kind_10 : decode cX9_kind 10 = .ok (.iaload, 1) := by decide +kernel
theorem dX9_kind_11 : decode cX9_kind 11 = .ok (.ireturn, 1) := by decide +kernel
theorem dX9_isImpossible_0 : decode cX9_isImpossible 0 = .ok (.aload_n 0, 1) := by decide +kernel
theorem dX9_isImpossible_1 : decode cX9_isImpossible 1 = .ok (.getfield 63, 3) := by decide +kernel
theorem dX9_isImpossible_4 : decode cX9_isImpossible 4 = .ok (.iload_n 1, 1) := by decide +kernel
theorem dX9_isImpossible_5 : decode cX9_isImpossible 5 = .ok (.laload, 1) := by decide +kernel
theorem dX9_isImpossible_6 : decode cX9_isImpossible 6 = .ok (.lconst 0, 1) := by decide +kernel
theorem dX9_isImpossible_7 : decode cX9_isImpossible 7 = .ok (.lcmp, 1) := by decide +kernel
theorem dX9_isImpossible_8 : decode cX9_isImpossible 8 = .ok (.ifCond .ge 7, 3) := by decide +kernel
theorem dX9_isImpossible_11 : decode cX9_isImpossible 11 = .ok (.iconst 1, 1) := by decide +kernel
theorem dX9_isImpossible_12 : decode cX9_isImpossible 12 = .ok (.goto 4, 3) := by decide +kernel
theorem dX9_isImpossible_15 : decode cX9_isImpossible 15 = .ok (.iconst 0, 1) := by decide +kernel
theorem dX9_isImpossible_16 : decode cX9_isImpossible 16 = .ok (.istore_n 2, 1) := by decide +kernel
theorem dX9_isImpossible_17 : decode cX9_isImpossible 17 = .ok (.iconst 0, 1) := by decide +kernel
theorem dX9_isImpossible_18 : decode cX9_isImpossible 18 = .ok (.istore_n 3, 1) := by decide +kernel
theorem dX9_isImpossible_19 : decode cX9_isImpossible 19 = .ok (.iload_n 3, 1) := by decide +kernel
theorem dX9_isImpossible_20 : decode cX9_isImpossible 20 = .ok (.aload_n 0, 1) := by decide +kernel
theorem dX9_isImpossible_21 : decode cX9_isImpossible 21 = .ok (.getfield 112, 3) := by decide +kernel
theorem dX9_isImpossible_24 : decode cX9_isImpossible 24 = .ok (.if_icmp .ge 35, 3) := by decide +kernel
theorem dX9_isImpossible_27 : decode cX9_isImpossible 27 = .ok (.iload_n 2, 1) := by decide +kernel
theorem dX9_isImpossible_28 : decode cX9_isImpossible 28 = .ok (.ifCond .eq 23, 3) := by decide +kernel
theorem dX9_isImpossible_31 : decode cX9_isImpossible 31 = .ok (.aload_n 0, 1) := by decide +kernel
theorem dX9_isImpossible_32 : decode cX9_isImpossible 32 = .ok (.getfield 59, 3) := by decide +kernel
theorem dX9_isImpossible_35 : decode cX9_isImpossible 35 = .ok (.bipush 8, 2) := by decide +kernel
theorem dX9_isImpossible_37 : decode cX9_isImpossible 37 = .ok (.iload_n 1, 1) := by decide +kernel
theorem dX9_isImpossible_38 : decode cX9_isImpossible 38 = .ok (.imul, 1) := by decide +kernel
theorem dX9_isImpossible_39 : decode cX9_isImpossible 39 = .ok (.iload_n 3, 1) := by decide +kernel
theorem dX9_isImpossible_40 : decode cX9_isImpossible 40 = .ok (.iadd, 1) := by decide +kernel
theorem dX9_isImpossible_41 : decode cX9_isImpossible 41 = .ok (.laload, 1) := by decide +kernel
theorem dX9_isImpossible_42 : decode cX9_isImpossible 42 = .ok (.lconst 0, 1) := by decide +kernel
theorem dX9_isImpossible_43 : decode cX9_isImpossible 43 = .ok (.lcmp, 1) := by decide +kernel
theorem dX9_isImpossible_44 : decode cX9_isImpossible 44 = .ok (.ifCond .ne 7, 3) := by decide +kernel
theorem dX9_isImpossible_47 : decode cX9_isImpossible 47 = .ok (.iconst 1, 1) := by decide +kernel
theorem dX9_isImpossible_48 : decode cX9_isImpossible 48 = .ok (.goto 4, 3) := by decide +kernel
theorem dX9_isImpossible_51 : decode cX9_isImpossible 51 = .ok (.iconst 0, 1) := by decide +kernel
theorem dX9_isImpossible_52 : decode cX9_isImpossible 52 = .ok (.istore_n 2, 1) := by decide +kernel
theorem dX9_isImpossible_53 : decode cX9_isImpossible 53 = .ok (.iinc 3 1, 3) := by decide +kernel
theorem dX9_isImpossible_56 : decode cX9_isImpossible 56 = .ok (.goto (-37), 3) := by decide +kernel
theorem dX9_isImpossible_59 : decode cX9_isImpossible 59 = .ok (.iload_n 2, 1) := by decide +kernel
theorem dX9_isImpossible_60 : decode cX9_isImpossible 60 = .ok (.ireturn, 1) := by decide +kernel
theorem dX9_joins_0 : decode cX9_joins 0 = .ok (.aload_n 0, 1) := by decide +kernel
theorem dX9_joins_1 : decode cX9_joins 1 = .ok (.iconst 1, 1) := by decide +kernel
theorem dX9_joins_2 : decode cX9_joins 2 = .ok (.invokevirtual 187, 3) := by decide +kernel
theorem dX9_joins_5 : decode cX9_joins 5 = .ok (.istore_n 2, 1) := by decide +kernel
theorem dX9_joins_6 : decode cX9_joins 6 = .ok (.aload_n 0, 1) := by decide +kernel
theorem dX9_joins_7 : decode cX9_joins 7 = .ok (.iconst 2, 1) := by decide +kernel
theorem dX9_joins_8 : decode cX9_joins 8 = .ok (.invokevirtual 187, 3) := by decide +kernel
theorem dX9_joins_11 : decode cX9_joins 11 = .ok (.istore_n 3, 1) := by decide +kernel
theorem dX9_joins_12 : decode cX9_joins 12 = .ok (.aload_n 0, 1) := by decide +kernel
theorem dX9_joins_13 : decode cX9_joins 13 = .ok (.iconst 3, 1) := by decide +kernel
theorem dX9_joins_14 : decode cX9_joins 14 = .ok (.invokevirtual 187, 3) := by decide +kernel
theorem dX9_joins_17 : decode cX9_joins 17 = .ok (.istore 4, 2) := by decide +kernel
theorem dX9_joins_19 : decode cX9_joins 19 = .ok (.aload_n 0, 1) := by decide +kernel
theorem dX9_joins_20 : decode cX9_joins 20 = .ok (.iconst 4, 1) := by decide +kernel
theorem dX9_joins_21 : decode cX9_joins 21 = .ok (.invokevirtual 187, 3) := by decide +kernel
theorem dX9_joins_24 : decode cX9_joins 24 = .ok (.istore 5, 2) := by decide +kernel
theorem dX9_joins_26 : decode cX9_joins 26 = .ok (.aload_n 0, 1) := by decide +kernel
theorem dX9_joins_27 : decode cX9_joins 27 = .ok (.iload 4, 2) := by decide +kernel
theorem dX9_joins_29 : decode cX9_joins 29 = .ok (.invokevirtual 233, 3) := by decide +kernel
theorem dX9_joins_32 : decode cX9_joins 32 = .ok (.bipush 6, 2) := by decide +kernel
theorem dX9_joins_34 : decode cX9_joins 34 = .ok (.if_icmp .ne 18, 3) := by decide +kernel
theorem dX9_joins_37 : decode cX9_joins 37 = .ok (.aload_n 0, 1) := by decide +kernel
theorem dX9_joins_38 : decode cX9_joins 38 = .ok (.iload 5, 2) := by decide +kernel
theorem dX9_joins_40 : decode cX9_joins 40 = .ok (.invokevirtual 233, 3) := by decide +kernel
theorem dX9_joins_43 : decode cX9_joins 43 = .ok (.bipush 6, 2) := by decide +kernel
theorem dX9_joins_45 : decode cX9_joins 45 = .ok (.if_icmp .ne 7, 3) := by decide +kernel
theorem dX9_joins_48 : decode cX9_joins 48 = .ok (.iconst 1, 1) := by decide +kernel
theorem dX9_joins_49 : decode cX9_joins 49 = .ok (.goto 4, 3) := by decide +kernel
theorem dX9_joins_52 : decode cX9_joins 52 = .ok (.iconst 0, 1) := by decide +kernel
theorem dX9_joins_53 : decode cX9_joins 53 = .ok (.istore 6, 2) := by decide +kernel
theorem dX9_joins_55 : decode cX9_joins 55 = .ok (.iload 6, 2) := by decide +kernel
theorem dX9_joins_57 : decode cX9_joins 57 = .ok (.ifCond .eq 69, 3) := by decide +kernel
theorem dX9_joins_60 : decode cX9_joins 60 = .ok (.aload_n 0, 1) := by decide +kernel
theorem dX9_joins_61 : decode cX9_joins 61 = .ok (.getfield 46, 3) := by decide +kernel
theorem dX9_joins_64 : decode cX9_joins 64 = .ok (.aload_n 0, 1) := by decide +kernel
theorem dX9_joins_65 : decode cX9_joins 65 = .ok (.getfield 56, 3) := by decide +kernel
theorem dX9_joins_68 : decode cX9_joins 68 = .ok (.iload 4, 2) := by decide +kernel
theorem dX9_joins_70 : decode cX9_joins 70 = .ok (.iaload, 1) := by decide +kernel
theorem dX9_joins_71 : decode cX9_joins 71 = .ok (.iconst 1, 1) := by decide +kernel
theorem dX9_joins_72 : decode cX9_joins 72 = .ok (.iadd, 1) := by decide +kernel
theorem dX9_joins_73 : decode cX9_joins 73 = .ok (.iaload, 1) := by decide +kernel
theorem dX9_joins_74 : decode cX9_joins 74 = .ok (.aload_n 0, 1) := by decide +kernel
theorem dX9_joins_75 : decode cX9_joins 75 = .ok (.getfield 46, 3) := by decide +kernel
theorem dX9_joins_78 : decode cX9_joins 78 = .ok (.aload_n 0, 1) := by decide +kernel
theorem dX9_joins_79 : decode cX9_joins 79 = .ok (.getfield 56, 3) := by decide +kernel
theorem dX9_joins_82 : decode cX9_joins 82 = .ok (.iload 5, 2) := by decide +kernel
theorem dX9_joins_84 : decode cX9_joins 84 = .ok (.iaload, 1) := by decide +kernel
theorem dX9_joins_85 : decode cX9_joins 85 = .ok (.iconst 1, 1) := by decide +kernel
theorem dX9_joins_86 : decode cX9_joins 86 = .ok (.iadd, 1) := by decide +kernel
theorem dX9_joins_87 : decode cX9_joins 87 = .ok (.iaload, 1) := by decide +kernel
theorem dX9_joins_88 : decode cX9_joins 88 = .ok (.if_icmp .ne 38, 3) := by decide +kernel
theorem dX9_joins_91 : decode cX9_joins 91 = .ok (.aload_n 0, 1) := by decide +kernel
theorem dX9_joins_92 : decode cX9_joins 92 = .ok (.getfield 46, 3) := by decide +kernel
theorem dX9_joins_95 : decode cX9_joins 95 = .ok (.aload_n 0, 1) := by decide +kernel
theorem dX9_joins_96 : decode cX9_joins 96 = .ok (.getfield 56, 3) := by decide +kernel
theorem dX9_joins_99 : decode cX9_joins 99 = .ok (.iload 4, 2) := by decide +kernel
theorem dX9_joins_101 : decode cX9_joins 101 = .ok (.iaload, 1) := by decide +kernel
theorem dX9_joins_102 : decode cX9_joins 102 = .ok (.iconst 2, 1) := by decide +kernel
theorem dX9_joins_103 : decode cX9_joins 103 = .ok (.iadd, 1) := by decide +kernel
theorem dX9_joins_104 : decode cX9_joins 104 = .ok (.iaload, 1) := by decide +kernel
theorem dX9_joins_105 : decode cX9_joins 105 = .ok (.aload_n 0, 1) := by decide +kernel
theorem dX9_joins_106 : decode cX9_joins 106 = .ok (.getfield 46, 3) := by decide +kernel
theorem dX9_joins_109 : decode cX9_joins 109 = .ok (.aload_n 0, 1) := by decide +kernel
theorem dX9_joins_110 : decode cX9_joins 110 = .ok (.getfield 56, 3) := by decide +kernel
theorem dX9_joins_113 : decode cX9_joins 113 = .ok (.iload 5, 2) := by decide +kernel
theorem dX9_joins_115 : decode cX9_joins 115 = .ok (.iaload, 1) := by decide +kernel
theorem dX9_joins_116 : decode cX9_joins 116 = .ok (.iconst 2, 1) := by decide +kernel
theorem dX9_joins_117 : decode cX9_joins 117 = .ok (.iadd, 1) := by decide +kernel
theorem dX9_joins_118 : decode cX9_joins 118 = .ok (.iaload, 1) := by decide +kernel
theorem dX9_joins_119 : decode cX9_joins 119 = .ok (.if_icmp .ne 7, 3) := by decide +kernel
theorem dX9_joins_122 : decode cX9_joins 122 = .ok (.iconst 1, 1) := by decide +kernel
theorem dX9_joins_123 : decode cX9_joins 123 = .ok (.goto 4, 3) := by decide +kernel
theorem dX9_joins_126 : decode cX9_joins 126 = .ok (.iconst 0, 1) := by decide +kernel
theorem dX9_joins_127 : decode cX9_joins 127 = .ok (.istore 6, 2) := by decide +kernel
theorem dX9_joins_129 : decode cX9_joins 129 = .ok (.iload 6, 2) := by decide +kernel
theorem dX9_joins_131 : decode cX9_joins 131 = .ok (.ifCond .eq 38, 3) := by decide +kernel
theorem dX9_joins_134 : decode cX9_joins 134 = .ok (.aload_n 0, 1) := by decide +kernel
theorem dX9_joins_135 : decode cX9_joins 135 = .ok (.getfield 46, 3) := by decide +kernel
theorem dX9_joins_138 : decode cX9_joins 138 = .ok (.aload_n 0, 1) := by decide +kernel
theorem dX9_joins_139 : decode cX9_joins 139 = .ok (.getfield 56, 3) := by decide +kernel
theorem dX9_joins_142 : decode cX9_joins 142 = .ok (.iload 4, 2) := by decide +kernel
theorem dX9_joins_144 : decode cX9_joins 144 = .ok (.iaload, 1) := by decide +kernel
theorem dX9_joins_145 : decode cX9_joins 145 = .ok (.iconst 3, 1) := by decide +kernel
theorem dX9_joins_146 : decode cX9_joins 146 = .ok (.iadd, 1) := by decide +kernel
theorem dX9_joins_147 : decode cX9_joins 147 = .ok (.iaload, 1) := by decide +kernel
theorem dX9_joins_148 : decode cX9_joins 148 = .ok (.ifCond .ne 21, 3) := by decide +kernel
theorem dX9_joins_151 : decode cX9_joins 151 = .ok (.aload_n 0, 1) := by decide +kernel
theorem dX9_joins_152 : decode cX9_joins 152 = .ok (.getfield 46, 3) := by decide +kernel
theorem dX9_joins_155 : decode cX9_joins 155 = .ok (.aload_n 0, 1) := by decide +kernel
theorem dX9_joins_156 : decode cX9_joins 156 = .ok (.getfield 56, 3) := by decide +kernel
theorem dX9_joins_159 : decode cX9_joins 159 = .ok (.iload 5, 2) := by decide +kernel
theorem dX9_joins_161 : decode cX9_joins 161 = .ok (.iaload, 1) := by decide +kernel
theorem dX9_joins_162 : decode cX9_joins 162 = .ok (.iconst 3, 1) := by decide +kernel
theorem dX9_joins_163 : decode cX9_joins 163 = .ok (.iadd, 1) := by decide +kernel
theorem dX9_joins_164 : decode cX9_joins 164 = .ok (.iaload, 1) := by decide +kernel
theorem dX9_joins_165 : decode cX9_joins 165 = .ok (.iconst 1, 1) := by decide +kernel
theorem dX9_joins_166 : decode cX9_joins 166 = .ok (.if_icmp .eq 6, 3) := by decide +kernel
theorem dX9_joins_169 : decode cX9_joins 169 = .ok (.bipush 6, 2) := by decide +kernel
theorem dX9_joins_171 : decode cX9_joins 171 = .ok (.ireturn, 1) := by decide +kernel
theorem dX9_joins_172 : decode cX9_joins 172 = .ok (.iconst 1, 1) := by decide +kernel
theorem dX9_joins_173 : decode cX9_joins 173 = .ok (.istore 7, 2) := by decide +kernel
theorem dX9_joins_175 : decode cX9_joins 175 = .ok (.iconst 0, 1) := by decide +kernel
theorem dX9_joins_176 : decode cX9_joins 176 = .ok (.istore 8, 2) := by decide +kernel
theorem dX9_joins_178 : decode cX9_joins 178 = .ok (.iload 8, 2) := by decide +kernel
theorem dX9_joins_180 : decode cX9_joins 180 = .ok (.aload_n 0, 1) := by decide +kernel
theorem dX9_joins_181 : decode cX9_joins 181 = .ok (.getfield 112, 3) := by decide +kernel
theorem dX9_joins_184 : decode cX9_joins 184 = .ok (.if_icmp .ge 49, 3) := by decide +kernel
theorem dX9_joins_187 : decode cX9_joins 187 = .ok (.iload 7, 2) := by decide +kernel
theorem dX9_joins_189 : decode cX9_joins 189 = .ok (.ifCond .eq 35, 3) := by decide +kernel
theorem dX9_joins_192 : decode cX9_joins 192 = .ok (.aload_n 0, 1) := by decide +kernel
theorem dX9_joins_193 : decode cX9_joins 193 = .ok (.getfield 59, 3) := by decide +kernel
theorem dX9_joins_196 : decode cX9_joins 196 = .ok (.bipush 8, 2) := by decide +kernel
theorem dX9_joins_198 : decode cX9_joins 198 = .ok (.iload_n 2, 1) := by decide +kernel
theorem dX9_joins_199 : decode cX9_joins 199 = .ok (.imul, 1) := by decide +kernel
theorem dX9_joins_200 : decode cX9_joins 200 = .ok (.iload 8, 2) := by decide +kernel
theorem dX9_joins_202 : decode cX9_joins 202 = .ok (.iadd, 1) := by decide +kernel
theorem dX9_joins_203 : decode cX9_joins 203 = .ok (.laload, 1) := by decide +kernel
theorem dX9_joins_204 : decode cX9_joins 204 = .ok (.aload_n 0, 1) := by decide +kernel
theorem dX9_joins_205 : decode cX9_joins 205 = .ok (.getfield 59, 3) := by decide +kernel
theorem dX9_joins_208 : decode cX9_joins 208 = .ok (.bipush 8, 2) := by decide +kernel
theorem dX9_joins_210 : decode cX9_joins 210 = .ok (.iload_n 3, 1) := by decide +kernel
theorem dX9_joins_211 : decode cX9_joins 211 = .ok (.imul, 1) := by decide +kernel
theorem dX9_joins_212 : decode cX9_joins 212 = .ok (.iload 8, 2) := by decide +kernel
theorem dX9_joins_214 : decode cX9_joins 214 = .ok (.iadd, 1) := by decide +kernel
theorem dX9_joins_215 : decode cX9_joins 215 = .ok (.laload, 1) := by decide +kernel
theorem dX9_joins_216 : decode cX9_joins 216 = .ok (.lcmp, 1) := by decide +kernel
theorem dX9_joins_217 : decode cX9_joins 217 = .ok (.ifCond .ne 7, 3) := by decide +kernel
theorem dX9_joins_220 : decode cX9_joins 220 = .ok (.iconst 1, 1) := by decide +kernel
theorem dX9_joins_221 : decode cX9_joins 221 = .ok (.goto 4, 3) := by decide +kernel
theorem dX9_joins_224 : decode cX9_joins 224 = .ok (.iconst 0, 1) := by decide +kernel
theorem dX9_joins_225 : decode cX9_joins 225 = .ok (.istore 7, 2) := by decide +kernel
theorem dX9_joins_227 : decode cX9_joins 227 = .ok (.iinc 8 1, 3) := by decide +kernel
theorem dX9_joins_230 : decode cX9_joins 230 = .ok (.goto (-52), 3) := by decide +kernel
theorem dX9_joins_233 : decode cX9_joins 233 = .ok (.iload 7, 2) := by decide +kernel
theorem dX9_joins_235 : decode cX9_joins 235 = .ok (.ifCond .ne 22, 3) := by decide +kernel
theorem dX9_joins_238 : decode cX9_joins 238 = .ok (.aload_n 0, 1) := by decide +kernel
theorem dX9_joins_239 : decode cX9_joins 239 = .ok (.iload_n 2, 1) := by decide +kernel
theorem dX9_joins_240 : decode cX9_joins 240 = .ok (.invokevirtual 236, 3) := by decide +kernel
theorem dX9_joins_243 : decode cX9_joins 243 = .ok (.ifCond .ne 14, 3) := by decide +kernel
theorem dX9_joins_246 : decode cX9_joins 246 = .ok (.aload_n 0, 1) := by decide +kernel
theorem dX9_joins_247 : decode cX9_joins 247 = .ok (.iload_n 3, 1) := by decide +kernel
theorem dX9_joins_248 : decode cX9_joins 248 = .ok (.invokevirtual 236, 3) := by decide +kernel
theorem dX9_joins_251 : decode cX9_joins 251 = .ok (.ifCond .ne 6, 3) := by decide +kernel
theorem dX9_joins_254 : decode cX9_joins 254 = .ok (.bipush 7, 2) := by decide +kernel
theorem dX9_joins_256 : decode cX9_joins 256 = .ok (.ireturn, 1) := by decide +kernel
theorem dX9_joins_257 : decode cX9_joins 257 = .ok (.iload 7, 2) := by decide +kernel
theorem dX9_joins_259 : decode cX9_joins 259 = .ok (.ifCond .eq 27, 3) := by decide +kernel
theorem dX9_joins_262 : decode cX9_joins 262 = .ok (.aload_n 0, 1) := by decide +kernel
theorem dX9_joins_263 : decode cX9_joins 263 = .ok (.getfield 63, 3) := by decide +kernel
theorem dX9_joins_266 : decode cX9_joins 266 = .ok (.iload_n 2, 1) := by decide +kernel
theorem dX9_joins_267 : decode cX9_joins 267 = .ok (.laload, 1) := by decide +kernel
theorem dX9_joins_268 : decode cX9_joins 268 = .ok (.aload_n 0, 1) := by decide +kernel
theorem dX9_joins_269 : decode cX9_joins 269 = .ok (.getfield 63, 3) := by decide +kernel
theorem dX9_joins_272 : decode cX9_joins 272 = .ok (.iload_n 3, 1) := by decide +kernel
theorem dX9_joins_273 : decode cX9_joins 273 = .ok (.laload, 1) := by decide +kernel
theorem dX9_joins_274 : decode cX9_joins 274 = .ok (.lcmp, 1) := by decide +kernel
theorem dX9_joins_275 : decode cX9_joins 275 = .ok (.ifCond .lt 7, 3) := by decide +kernel
theorem dX9_joins_278 : decode cX9_joins 278 = .ok (.iload_n 2, 1) := by decide +kernel
theorem dX9_joins_279 : decode cX9_joins 279 = .ok (.goto 20, 3) := by decide +kernel
theorem dX9_joins_282 : decode cX9_joins 282 = .ok (.iload_n 3, 1) := by decide +kernel
theorem dX9_joins_283 : decode cX9_joins 283 = .ok (.goto 16, 3) := by decide +kernel
theorem dX9_joins_286 : decode cX9_joins 286 = .ok (.aload_n 0, 1) := by decide +kernel
theorem dX9_joins_287 : decode cX9_joins 287 = .ok (.iload_n 2, 1) := by decide +kernel
theorem dX9_joins_288 : decode cX9_joins 288 = .ok (.invokevirtual 236, 3) := by decide +kernel
theorem dX9_joins_291 : decode cX9_joins 291 = .ok (.ifCond .eq 7, 3) := by decide +kernel
theorem dX9_joins_294 : decode cX9_joins 294 = .ok (.iload_n 3, 1) := by decide +kernel
theorem dX9_joins_295 : decode cX9_joins 295 = .ok (.goto 4, 3) := by decide +kernel
theorem dX9_joins_298 : decode cX9_joins 298 = .ok (.iload_n 2, 1) := by decide +kernel
theorem dX9_joins_299 : decode cX9_joins 299 = .ok (.istore 8, 2) := by decide +kernel
theorem dX9_joins_301 : decode cX9_joins 301 = .ok (.iconst 0, 1) := by decide +kernel
theorem dX9_joins_302 : decode cX9_joins 302 = .ok (.istore 9, 2) := by decide +kernel
theorem dX9_joins_304 : decode cX9_joins 304 = .ok (.iload 9, 2) := by decide +kernel
theorem dX9_joins_306 : decode cX9_joins 306 = .ok (.aload_n 0, 1) := by decide +kernel
theorem dX9_joins_307 : decode cX9_joins 307 = .ok (.getfield 112, 3) := by decide +kernel
theorem dX9_joins_310 : decode cX9_joins 310 = .ok (.if_icmp .ge 29, 3) := by decide +kernel
theorem dX9_joins_313 : decode cX9_joins 313 = .ok (.aload_n 0, 1) := by decide +kernel
theorem dX9_joins_314 : decode cX9_joins 314 = .ok (.iload_n 1, 1) := by decide +kernel
theorem dX9_joins_315 : decode cX9_joins 315 = .ok (.iload 9, 2) := by decide +kernel
theorem dX9_joins_317 : decode cX9_joins 317 = .ok (.aload_n 0, 1) := by decide +kernel
theorem dX9_joins_318 : decode cX9_joins 318 = .ok (.getfield 59, 3) := by decide +kernel
theorem dX9_joins_321 : decode cX9_joins 321 = .ok (.bipush 8, 2) := by decide +kernel
theorem dX9_joins_323 : decode cX9_joins 323 = .ok (.iload 8, 2) := by decide +kernel
theorem dX9_joins_325 : decode cX9_joins 325 = .ok (.imul, 1) := by decide +kernel
theorem dX9_joins_326 : decode cX9_joins 326 = .ok (.iload 9, 2) := by decide +kernel
theorem dX9_joins_328 : decode cX9_joins 328 = .ok (.iadd, 1) := by decide +kernel
theorem dX9_joins_329 : decode cX9_joins 329 = .ok (.laload, 1) := by decide +kernel
theorem dX9_joins_330 : decode cX9_joins 330 = .ok (.invokevirtual 200, 3) := by decide +kernel
theorem dX9_joins_333 : decode cX9_joins 333 = .ok (.iinc 9 1, 3) := by decide +kernel
theorem dX9_joins_336 : decode cX9_joins 336 = .ok (.goto (-32), 3) := by decide +kernel
theorem dX9_joins_339 : decode cX9_joins 339 = .ok (.aload_n 0, 1) := by decide +kernel
theorem dX9_joins_340 : decode cX9_joins 340 = .ok (.getfield 63, 3) := by decide +kernel
theorem dX9_joins_343 : decode cX9_joins 343 = .ok (.iload_n 1, 1) := by decide +kernel
theorem dX9_joins_344 : decode cX9_joins 344 = .ok (.aload_n 0, 1) := by decide +kernel
theorem dX9_joins_345 : decode cX9_joins 345 = .ok (.getfield 63, 3) := by decide +kernel
theorem dX9_joins_348 : decode cX9_joins 348 = .ok (.iload 8, 2) := by decide +kernel
theorem dX9_joins_350 : decode cX9_joins 350 = .ok (.laload, 1) := by decide +kernel
theorem dX9_joins_351 : decode cX9_joins 351 = .ok (.lastore, 1) := by decide +kernel
theorem dX9_joins_352 : decode cX9_joins 352 = .ok (.aload_n 0, 1) := by decide +kernel
theorem dX9_joins_353 : decode cX9_joins 353 = .ok (.iload_n 1, 1) := by decide +kernel
theorem dX9_joins_354 : decode cX9_joins 354 = .ok (.iload_n 2, 1) := by decide +kernel
theorem dX9_joins_355 : decode cX9_joins 355 = .ok (.iload 4, 2) := by decide +kernel
theorem dX9_joins_357 : decode cX9_joins 357 = .ok (.invokevirtual 209, 3) := by decide +kernel
theorem dX9_joins_360 : decode cX9_joins 360 = .ok (.aload_n 0, 1) := by decide +kernel
theorem dX9_joins_361 : decode cX9_joins 361 = .ok (.iload_n 1, 1) := by decide +kernel
theorem dX9_joins_362 : decode cX9_joins 362 = .ok (.iload_n 3, 1) := by decide +kernel
theorem dX9_joins_363 : decode cX9_joins 363 = .ok (.iload 5, 2) := by decide +kernel
theorem dX9_joins_365 : decode cX9_joins 365 = .ok (.invokevirtual 209, 3) := by decide +kernel
theorem dX9_joins_368 : decode cX9_joins 368 = .ok (.iconst 0, 1) := by decide +kernel
theorem dX9_joins_369 : decode cX9_joins 369 = .ok (.ireturn, 1) := by decide +kernel
theorem dX9_pushes_0 : decode cX9_pushes 0 = .ok (.aload_n 0, 1) := by decide +kernel
theorem dX9_pushes_1 : decode cX9_pushes 1 = .ok (.iconst 1, 1) := by decide +kernel
theorem dX9_pushes_2 : decode cX9_pushes 2 = .ok (.invokevirtual 187, 3) := by decide +kernel
theorem dX9_pushes_5 : decode cX9_pushes 5 = .ok (.istore_n 2, 1) := by decide +kernel
theorem dX9_pushes_6 : decode cX9_pushes 6 = .ok (.aload_n 0, 1) := by decide +kernel
theorem dX9_pushes_7 : decode cX9_pushes 7 = .ok (.iconst 2, 1) := by decide +kernel
theorem dX9_pushes_8 : decode cX9_pushes 8 = .ok (.invokevirtual 187, 3) := by decide +kernel
theorem dX9_pushes_11 : decode cX9_pushes 11 = .ok (.istore_n 3, 1) := by decide +kernel
theorem dX9_pushes_12 : decode cX9_pushes 12 = .ok (.aload_n 0, 1) := by decide +kernel
theorem dX9_pushes_13 : decode cX9_pushes 13 = .ok (.getfield 59, 3) := by decide +kernel
theorem dX9_pushes_16 : decode cX9_pushes 16 = .ok (.bipush 8, 2) := by decide +kernel
theorem dX9_pushes_18 : decode cX9_pushes 18 = .ok (.iload_n 2, 1) := by decide +kernel
theorem dX9_pushes_19 : decode cX9_pushes 19 = .ok (.imul, 1) := by decide +kernel
theorem dX9_pushes_20 : decode cX9_pushes 20 = .ok (.iload_n 3, 1) := by decide +kernel
theorem dX9_pushes_21 : decode cX9_pushes 21 = .ok (.iadd, 1) := by decide +kernel
theorem dX9_pushes_22 : decode cX9_pushes 22 = .ok (.laload, 1) := by decide +kernel
theorem dX9_pushes_23 : decode cX9_pushes 23 = .ok (.lstore 4, 2) := by decide +kernel
theorem dX9_pushes_25 : decode cX9_pushes 25 = .ok (.lload 4, 2) := by decide +kernel
theorem dX9_pushes_27 : decode cX9_pushes 27 = .ok (.lconst 0, 1) := by decide +kernel
theorem dX9_pushes_28 : decode cX9_pushes 28 = .ok (.lcmp, 1) := by decide +kernel
theorem dX9_pushes_29 : decode cX9_pushes 29 = .ok (.ifCond .ne 5, 3) := by decide +kernel
theorem dX9_pushes_32 : decode cX9_pushes 32 = .ok (.iconst 5, 1) := by decide +kernel
theorem dX9_pushes_33 : decode cX9_pushes 33 = .ok (.ireturn, 1) := by decide +kernel
theorem dX9_pushes_34 : decode cX9_pushes 34 = .ok (.aload_n 0, 1) := by decide +kernel
theorem dX9_pushes_35 : decode cX9_pushes 35 = .ok (.getfield 63, 3) := by decide +kernel
theorem dX9_pushes_38 : decode cX9_pushes 38 = .ok (.iload_n 2, 1) := by decide +kernel
theorem dX9_pushes_39 : decode cX9_pushes 39 = .ok (.laload, 1) := by decide +kernel
theorem dX9_pushes_40 : decode cX9_pushes 40 = .ok (.lstore 6, 2) := by decide +kernel
theorem dX9_pushes_42 : decode cX9_pushes 42 = .ok (.iconst 0, 1) := by decide +kernel
theorem dX9_pushes_43 : decode cX9_pushes 43 = .ok (.istore 8, 2) := by decide +kernel
theorem dX9_pushes_45 : decode cX9_pushes 45 = .ok (.iload 8, 2) := by decide +kernel
theorem dX9_pushes_47 : decode cX9_pushes 47 = .ok (.aload_n 0, 1) := by decide +kernel
theorem dX9_pushes_48 : decode cX9_pushes 48 = .ok (.getfield 112, 3) := by decide +kernel
theorem dX9_pushes_51 : decode cX9_pushes 51 = .ok (.if_icmp .ge 85, 3) := by decide +kernel
theorem dX9_pushes_54 : decode cX9_pushes 54 = .ok (.aload_n 0, 1) := by decide +kernel
theorem dX9_pushes_55 : decode cX9_pushes 55 = .ok (.getfield 59, 3) := by decide +kernel
theorem dX9_pushes_58 : decode cX9_pushes 58 = .ok (.bipush 8, 2) := by decide +kernel
theorem dX9_pushes_60 : decode cX9_pushes 60 = .ok (.iload_n 2, 1) := by decide +kernel
theorem dX9_pushes_61 : decode cX9_pushes 61 = .ok (.imul, 1) := by decide +kernel
theorem dX9_pushes_62 : decode cX9_pushes 62 = .ok (.iload 8, 2) := by decide +kernel
theorem dX9_pushes_64 : decode cX9_pushes 64 = .ok (.iadd, 1) := by decide +kernel
theorem dX9_pushes_65 : decode cX9_pushes 65 = .ok (.laload, 1) := by decide +kernel
theorem dX9_pushes_66 : decode cX9_pushes 66 = .ok (.lstore 9, 2) := by decide +kernel
theorem dX9_pushes_68 : decode cX9_pushes 68 = .ok (.iload 8, 2) := by decide +kernel
theorem dX9_pushes_70 : decode cX9_pushes 70 = .ok (.iload_n 3, 1) := by decide +kernel
theorem dX9_pushes_71 : decode cX9_pushes 71 = .ok (.if_icmp .eq 59, 3) := by decide +kernel
theorem dX9_pushes_74 : decode cX9_pushes 74 = .ok (.lload 6, 2) := by decide +kernel
theorem dX9_pushes_76 : decode cX9_pushes 76 = .ok (.lload 9, 2) := by decide +kernel
theorem dX9_pushes_78 : decode cX9_pushes 78 = .ok (.aload_n 0, 1) := by decide +kernel
theorem dX9_pushes_79 : decode cX9_pushes 79 = .ok (.getfield 13, 3) := by decide +kernel
theorem dX9_pushes_82 : decode cX9_pushes 82 = .ok (.iload 8, 2) := by decide +kernel
theorem dX9_pushes_84 : decode cX9_pushes 84 = .ok (.iaload, 1) := by decide +kernel
theorem dX9_pushes_85 : decode cX9_pushes 85 = .ok (.i2l, 1) := by decide +kernel
theorem dX9_pushes_86 : decode cX9_pushes 86 = .ok (.lmul, 1) := by decide +kernel
theorem dX9_pushes_87 : decode cX9_pushes 87 = .ok (.lload 9, 2) := by decide +kernel
theorem dX9_pushes_89 : decode cX9_pushes 89 = .ok (.aload_n 0, 1) := by decide +kernel
theorem dX9_pushes_90 : decode cX9_pushes 90 = .ok (.getfield 16, 3) := by decide +kernel
theorem dX9_pushes_93 : decode cX9_pushes 93 = .ok (.iload 8, 2) := by decide +kernel
theorem dX9_pushes_95 : decode cX9_pushes 95 = .ok (.iaload, 1) := by decide +kernel
theorem dX9_pushes_96 : decode cX9_pushes 96 = .ok (.i2l, 1) := by decide +kernel
theorem dX9_pushes_97 : decode cX9_pushes 97 = .ok (.lmul, 1) := by decide +kernel
theorem dX9_pushes_98 : decode cX9_pushes 98 = .ok (.lcmp, 1) := by decide +kernel
theorem dX9_pushes_99 : decode cX9_pushes 99 = .ok (.ifCond .ge 17, 3) := by decide +kernel
theorem dX9_pushes_102 : decode cX9_pushes 102 = .ok (.lload 9, 2) := by decide +kernel
theorem dX9_pushes_104 : decode cX9_pushes 104 = .ok (.aload_n 0, 1) := by decide +kernel
theorem dX9_pushes_105 : decode cX9_pushes 105 = .ok (.getfield 13, 3) := by decide +kernel
theorem dX9_pushes_108 : decode cX9_pushes 108 = .ok (.iload 8, 2) := by decide +kernel
theorem dX9_pushes_110 : decode cX9_pushes 110 = .ok (.iaload, 1) := by decide +kernel
theorem dX9_pushes_111 : decode cX9_pushes 111 = .ok (.i2l, 1) := by decide +kernel
theorem dX9_pushes_112 : decode cX9_pushes 112 = .ok (.lmul, 1) := by decide +kernel
theorem dX9_pushes_113 : decode cX9_pushes 113 = .ok (.goto 14, 3) := by decide +kernel
theorem dX9_pushes_116 : decode cX9_pushes 116 = .ok (.lload 9, 2) := by decide +kernel
theorem dX9_pushes_118 : decode cX9_pushes 118 = .ok (.aload_n 0, 1) := by decide +kernel
theorem dX9_pushes_119 : decode cX9_pushes 119 = .ok (.getfield 16, 3) := by decide +kernel
theorem dX9_pushes_122 : decode cX9_pushes 122 = .ok (.iload 8, 2) := by decide +kernel
theorem dX9_pushes_124 : decode cX9_pushes 124 = .ok (.iaload, 1) := by decide +kernel
theorem dX9_pushes_125 : decode cX9_pushes 125 = .ok (.i2l, 1) := by decide +kernel
theorem dX9_pushes_126 : decode cX9_pushes 126 = .ok (.lmul, 1) := by decide +kernel
theorem dX9_pushes_127 : decode cX9_pushes 127 = .ok (.lsub, 1) := by decide +kernel
theorem dX9_pushes_128 : decode cX9_pushes 128 = .ok (.lstore 6, 2) := by decide +kernel
theorem dX9_pushes_130 : decode cX9_pushes 130 = .ok (.iinc 8 1, 3) := by decide +kernel
theorem dX9_pushes_133 : decode cX9_pushes 133 = .ok (.goto (-88), 3) := by decide +kernel
theorem dX9_pushes_136 : decode cX9_pushes 136 = .ok (.aload_n 0, 1) := by decide +kernel
theorem dX9_pushes_137 : decode cX9_pushes 137 = .ok (.iload_n 1, 1) := by decide +kernel
theorem dX9_pushes_138 : decode cX9_pushes 138 = .ok (.iload_n 3, 1) := by decide +kernel
theorem dX9_pushes_139 : decode cX9_pushes 139 = .ok (.lload 4, 2) := by decide +kernel
theorem dX9_pushes_141 : decode cX9_pushes 141 = .ok (.lconst 0, 1) := by decide +kernel
theorem dX9_pushes_142 : decode cX9_pushes 142 = .ok (.lcmp, 1) := by decide +kernel
theorem dX9_pushes_143 : decode cX9_pushes 143 = .ok (.ifCond .le 7, 3) := by decide +kernel
theorem dX9_pushes_146 : decode cX9_pushes 146 = .ok (.lconst 1, 1) := by decide +kernel
theorem dX9_pushes_147 : decode cX9_pushes 147 = .ok (.goto 6, 3) := by decide +kernel
theorem dX9_pushes_150 : decode cX9_pushes 150 = .ok (.ldc2_w 204, 3) := by decide +kernel
theorem dX9_pushes_153 : decode cX9_pushes 153 = .ok (.invokevirtual 200, 3) := by decide +kernel
theorem dX9_pushes_156 : decode cX9_pushes 156 = .ok (.aload_n 0, 1) := by decide +kernel
theorem dX9_pushes_157 : decode cX9_pushes 157 = .ok (.getfield 63, 3) := by decide +kernel
theorem dX9_pushes_160 : decode cX9_pushes 160 = .ok (.iload_n 1, 1) := by decide +kernel
theorem dX9_pushes_161 : decode cX9_pushes 161 = .ok (.lload 6, 2) := by decide +kernel
theorem dX9_pushes_163 : decode cX9_pushes 163 = .ok (.lload 4, 2) := by decide +kernel
theorem dX9_pushes_165 : decode cX9_pushes 165 = .ok (.lconst 0, 1) := by decide +kernel
theorem dX9_pushes_166 : decode cX9_pushes 166 = .ok (.lcmp, 1) := by decide +kernel
theorem dX9_pushes_167 : decode cX9_pushes 167 = .ok (.ifCond .le 8, 3) := by decide +kernel
theorem dX9_pushes_170 : decode cX9_pushes 170 = .ok (.lload 4, 2) := by decide +kernel
theorem dX9_pushes_172 : decode cX9_pushes 172 = .ok (.goto 6, 3) := by decide +kernel
theorem dX9_pushes_175 : decode cX9_pushes 175 = .ok (.lload 4, 2) := by decide +kernel
theorem dX9_pushes_177 : decode cX9_pushes 177 = .ok (.lneg, 1) := by decide +kernel
theorem dX9_pushes_178 : decode cX9_pushes 178 = .ok (.invokestatic 229, 3) := by decide +kernel
theorem dX9_pushes_181 : decode cX9_pushes 181 = .ok (.lastore, 1) := by decide +kernel
theorem dX9_pushes_182 : decode cX9_pushes 182 = .ok (.aload_n 0, 1) := by decide +kernel
theorem dX9_pushes_183 : decode cX9_pushes 183 = .ok (.iload_n 1, 1) := by decide +kernel
theorem dX9_pushes_184 : decode cX9_pushes 184 = .ok (.iload_n 2, 1) := by decide +kernel
theorem dX9_pushes_185 : decode cX9_pushes 185 = .ok (.iconst (-1), 1) := by decide +kernel
theorem dX9_pushes_186 : decode cX9_pushes 186 = .ok (.invokevirtual 209, 3) := by decide +kernel
theorem dX9_pushes_189 : decode cX9_pushes 189 = .ok (.iconst 0, 1) := by decide +kernel
theorem dX9_pushes_190 : decode cX9_pushes 190 = .ok (.ireturn, 1) := by decide +kernel
theorem dX9_fault_0 : decode cX9_fault 0 = .ok (.aload_n 0, 1) := by decide +kernel
theorem dX9_fault_1 : decode cX9_fault 1 = .ok (.iconst 0, 1) := by decide +kernel
theorem dX9_fault_2 : decode cX9_fault 2 = .ok (.putfield 86, 3) := by decide +kernel
theorem dX9_fault_5 : decode cX9_fault 5 = .ok (.iload_n 1, 1) := by decide +kernel
theorem dX9_fault_6 : decode cX9_fault 6 = .ok (.ifCond .ne 10, 3) := by decide +kernel
theorem dX9_fault_9 : decode cX9_fault 9 = .ok (.aload_n 0, 1) := by decide +kernel
theorem dX9_fault_10 : decode cX9_fault 10 = .ok (.getfield 139, 3) := by decide +kernel
theorem dX9_fault_13 : decode cX9_fault 13 = .ok (.goto 29, 3) := by decide +kernel
theorem dX9_fault_16 : decode cX9_fault 16 = .ok (.iload_n 1, 1) := by decide +kernel
theorem dX9_fault_17 : decode cX9_fault 17 = .ok (.iconst 1, 1) := by decide +kernel
theorem dX9_fault_18 : decode cX9_fault 18 = .ok (.if_icmp .ne 10, 3) := by decide +kernel
theorem dX9_fault_21 : decode cX9_fault 21 = .ok (.aload_n 0, 1) := by decide +kernel
theorem dX9_fault_22 : decode cX9_fault 22 = .ok (.getfield 49, 3) := by decide +kernel
theorem dX9_fault_25 : decode cX9_fault 25 = .ok (.goto 17, 3) := by decide +kernel
theorem dX9_fault_28 : decode cX9_fault 28 = .ok (.iload_n 1, 1) := by decide +kernel
theorem dX9_fault_29 : decode cX9_fault 29 = .ok (.iconst 2, 1) := by decide +kernel
theorem dX9_fault_30 : decode cX9_fault 30 = .ok (.if_icmp .ne 10, 3) := by decide +kernel
theorem dX9_fault_33 : decode cX9_fault 33 = .ok (.aload_n 0, 1) := by decide +kernel
theorem dX9_fault_34 : decode cX9_fault 34 = .ok (.getfield 53, 3) := by decide +kernel
theorem dX9_fault_37 : decode cX9_fault 37 = .ok (.goto 5, 3) := by decide +kernel
theorem dX9_fault_40 : decode cX9_fault 40 = .ok (.bipush (-3), 2) := by decide +kernel
theorem dX9_fault_42 : decode cX9_fault 42 = .ok (.ireturn, 1) := by decide +kernel
theorem dX9_assumptions_0 : decode cX9_assumptions 0 = .ok (.iconst 0, 1) := by decide +kernel
theorem dX9_assumptions_1 : decode cX9_assumptions 1 = .ok (.istore_n 2, 1) := by decide +kernel
theorem dX9_assumptions_2 : decode cX9_assumptions 2 = .ok (.iconst 0, 1) := by decide +kernel
theorem dX9_assumptions_3 : decode cX9_assumptions 3 = .ok (.istore_n 3, 1) := by decide +kernel
theorem dX9_assumptions_4 : decode cX9_assumptions 4 = .ok (.iload_n 3, 1) := by decide +kernel
theorem dX9_assumptions_5 : decode cX9_assumptions 5 = .ok (.iload_n 1, 1) := by decide +kernel
theorem dX9_assumptions_6 : decode cX9_assumptions 6 = .ok (.if_icmp .gt 32, 3) := by decide +kernel
theorem dX9_assumptions_9 : decode cX9_assumptions 9 = .ok (.iload_n 2, 1) := by decide +kernel
theorem dX9_assumptions_10 : decode cX9_assumptions 10 = .ok (.aload_n 0, 1) := by decide +kernel
theorem dX9_assumptions_11 : decode cX9_assumptions 11 = .ok (.getfield 74, 3) := by decide +kernel
theorem dX9_assumptions_14 : decode cX9_assumptions 14 = .ok (.sipush 200, 3) := by decide +kernel
theorem dX9_assumptions_17 : decode cX9_assumptions 17 = .ok (.iload_n 1, 1) := by decide +kernel
theorem dX9_assumptions_18 : decode cX9_assumptions 18 = .ok (.imul, 1) := by decide +kernel
theorem dX9_assumptions_19 : decode cX9_assumptions 19 = .ok (.iload_n 3, 1) := by decide +kernel
theorem dX9_assumptions_20 : decode cX9_assumptions 20 = .ok (.iadd, 1) := by decide +kernel
theorem dX9_assumptions_21 : decode cX9_assumptions 21 = .ok (.baload, 1) := by decide +kernel
theorem dX9_assumptions_22 : decode cX9_assumptions 22 = .ok (.ifCond .eq 7, 3) := by decide +kernel
theorem dX9_assumptions_25 : decode cX9_assumptions 25 = .ok (.iconst 1, 1) := by decide +kernel
theorem dX9_assumptions_26 : decode cX9_assumptions 26 = .ok (.goto 4, 3) := by decide +kernel
theorem dX9_assumptions_29 : decode cX9_assumptions 29 = .ok (.iconst 0, 1) := by decide +kernel
theorem dX9_assumptions_30 : decode cX9_assumptions 30 = .ok (.iadd, 1) := by decide +kernel
theorem dX9_assumptions_31 : decode cX9_assumptions 31 = .ok (.istore_n 2, 1) := by decide +kernel
theorem dX9_assumptions_32 : decode cX9_assumptions 32 = .ok (.iinc 3 1, 3) := by decide +kernel
theorem dX9_assumptions_35 : decode cX9_assumptions 35 = .ok (.goto (-31), 3) := by decide +kernel
theorem dX9_assumptions_38 : decode cX9_assumptions 38 = .ok (.iload_n 2, 1) := by decide +kernel
theorem dX9_assumptions_39 : decode cX9_assumptions 39 = .ok (.ireturn, 1) := by decide +kernel
theorem dX9_need_0 : decode cX9_need 0 = .ok (.iconst 0, 1) := by decide +kernel
theorem dX9_need_1 : decode cX9_need 1 = .ok (.istore_n 2, 1) := by decide +kernel
theorem dX9_need_2 : decode cX9_need 2 = .ok (.iload_n 2, 1) := by decide +kernel
theorem dX9_need_3 : decode cX9_need 3 = .ok (.sipush 200, 3) := by decide +kernel
theorem dX9_need_6 : decode cX9_need 6 = .ok (.if_icmp .ge 25, 3) := by decide +kernel
theorem dX9_need_9 : decode cX9_need 9 = .ok (.aload_n 0, 1) := by decide +kernel
theorem dX9_need_10 : decode cX9_need 10 = .ok (.getfield 77, 3) := by decide +kernel
theorem dX9_need_13 : decode cX9_need 13 = .ok (.iload_n 2, 1) := by decide +kernel
theorem dX9_need_14 : decode cX9_need 14 = .ok (.iload_n 2, 1) := by decide +kernel
theorem dX9_need_15 : decode cX9_need 15 = .ok (.iload_n 1, 1) := by decide +kernel
theorem dX9_need_16 : decode cX9_need 16 = .ok (.if_icmp .ne 7, 3) := by decide +kernel
theorem dX9_need_19 : decode cX9_need 19 = .ok (.iconst 1, 1) := by decide +kernel
theorem dX9_need_20 : decode cX9_need 20 = .ok (.goto 4, 3) := by decide +kernel
theorem dX9_need_23 : decode cX9_need 23 = .ok (.iconst 0, 1) := by decide +kernel
theorem dX9_need_24 : decode cX9_need 24 = .ok (.bastore, 1) := by decide +kernel
theorem dX9_need_25 : decode cX9_need 25 = .ok (.iinc 2 1, 3) := by decide +kernel
theorem dX9_need_28 : decode cX9_need 28 = .ok (.goto (-26), 3) := by decide +kernel
theorem dX9_need_31 : decode cX9_need 31 = .ok (.iconst 0, 1) := by decide +kernel
theorem dX9_need_32 : decode cX9_need 32 = .ok (.istore_n 2, 1) := by decide +kernel
theorem dX9_need_33 : decode cX9_need 33 = .ok (.iload_n 1, 1) := by decide +kernel
theorem dX9_need_34 : decode cX9_need 34 = .ok (.istore_n 3, 1) := by decide +kernel
theorem dX9_need_35 : decode cX9_need 35 = .ok (.iload_n 3, 1) := by decide +kernel
theorem dX9_need_36 : decode cX9_need 36 = .ok (.ifCond .lt 159, 3) := by decide +kernel
theorem dX9_need_39 : decode cX9_need 39 = .ok (.aload_n 0, 1) := by decide +kernel
theorem dX9_need_40 : decode cX9_need 40 = .ok (.getfield 77, 3) := by decide +kernel
theorem dX9_need_43 : decode cX9_need 43 = .ok (.iload_n 3, 1) := by decide +kernel
theorem dX9_need_44 : decode cX9_need 44 = .ok (.baload, 1) := by decide +kernel
theorem dX9_need_45 : decode cX9_need 45 = .ok (.ifCond .eq 144, 3) := by decide +kernel
theorem dX9_need_48 : decode cX9_need 48 = .ok (.iinc 2 1, 3) := by decide +kernel
theorem dX9_need_51 : decode cX9_need 51 = .ok (.aload_n 0, 1) := by decide +kernel
theorem dX9_need_52 : decode cX9_need 52 = .ok (.getfield 56, 3) := by decide +kernel
theorem dX9_need_55 : decode cX9_need 55 = .ok (.iload_n 3, 1) := by decide +kernel
theorem dX9_need_56 : decode cX9_need 56 = .ok (.iaload, 1) := by decide +kernel
theorem dX9_need_57 : decode cX9_need 57 = .ok (.istore 4, 2) := by decide +kernel
theorem dX9_need_59 : decode cX9_need 59 = .ok (.aload_n 0, 1) := by decide +kernel
theorem dX9_need_60 : decode cX9_need 60 = .ok (.getfield 46, 3) := by decide +kernel
theorem dX9_need_63 : decode cX9_need 63 = .ok (.iload 4, 2) := by decide +kernel
theorem dX9_need_65 : decode cX9_need 65 = .ok (.iaload, 1) := by decide +kernel
theorem dX9_need_66 : decode cX9_need 66 = .ok (.istore 5, 2) := by decide +kernel
theorem dX9_need_68 : decode cX9_need 68 = .ok (.iload 5, 2) := by decide +kernel
theorem dX9_need_70 : decode cX9_need 70 = .ok (.iconst 4, 1) := by decide +kernel
theorem dX9_need_71 : decode cX9_need 71 = .ok (.if_icmp .ne 49, 3) := by decide +kernel
theorem dX9_need_74 : decode cX9_need 74 = .ok (.iconst 0, 1) := by decide +kernel
theorem dX9_need_75 : decode cX9_need 75 = .ok (.istore 6, 2) := by decide +kernel
theorem dX9_need_77 : decode cX9_need 77 = .ok (.iload 6, 2) := by decide +kernel
theorem dX9_need_79 : decode cX9_need 79 = .ok (.aload_n 0, 1) := by decide +kernel
theorem dX9_need_80 : decode cX9_need 80 = .ok (.getfield 46, 3) := by decide +kernel
theorem dX9_need_83 : decode cX9_need 83 = .ok (.iload 4, 2) := by decide +kernel
theorem dX9_need_85 : decode cX9_need 85 = .ok (.iconst 1, 1) := by decide +kernel
theorem dX9_need_86 : decode cX9_need 86 = .ok (.iadd, 1) := by decide +kernel
theorem dX9_need_87 : decode cX9_need 87 = .ok (.iaload, 1) := by decide +kernel
theorem dX9_need_88 : decode cX9_need 88 = .ok (.if_icmp .ge 29, 3) := by decide +kernel
theorem dX9_need_91 : decode cX9_need 91 = .ok (.aload_n 0, 1) := by decide +kernel
theorem dX9_need_92 : decode cX9_need 92 = .ok (.getfield 77, 3) := by decide +kernel
theorem dX9_need_95 : decode cX9_need 95 = .ok (.aload_n 0, 1) := by decide +kernel
theorem dX9_need_96 : decode cX9_need 96 = .ok (.getfield 46, 3) := by decide +kernel
theorem dX9_need_99 : decode cX9_need 99 = .ok (.iload 4, 2) := by decide +kernel
theorem dX9_need_101 : decode cX9_need 101 = .ok (.iconst 2, 1) := by decide +kernel
theorem dX9_need_102 : decode cX9_need 102 = .ok (.iadd, 1) := by decide +kernel
theorem dX9_need_103 : decode cX9_need 103 = .ok (.iconst 2, 1) := by decide +kernel
theorem dX9_need_104 : decode cX9_need 104 = .ok (.iload 6, 2) := by decide +kernel
theorem dX9_need_106 : decode cX9_need 106 = .ok (.imul, 1) := by decide +kernel
theorem dX9_need_107 : decode cX9_need 107 = .ok (.iadd, 1) := by decide +kernel
theorem dX9_need_108 : decode cX9_need 108 = .ok (.iaload, 1) := by decide +kernel
theorem dX9_need_109 : decode cX9_need 109 = .ok (.iconst 1, 1) := by decide +kernel
theorem dX9_need_110 : decode cX9_need 110 = .ok (.bastore, 1) := by decide +kernel
theorem dX9_need_111 : decode cX9_need 111 = .ok (.iinc 6 1, 3) := by decide +kernel
theorem dX9_need_114 : decode cX9_need 114 = .ok (.goto (-37), 3) := by decide +kernel
theorem dX9_need_117 : decode cX9_need 117 = .ok (.goto 72, 3) := by decide +kernel
theorem dX9_need_120 : decode cX9_need 120 = .ok (.iload 5, 2) := by decide +kernel
theorem dX9_need_122 : decode cX9_need 122 = .ok (.iconst 5, 1) := by decide +kernel
theorem dX9_need_123 : decode cX9_need 123 = .ok (.if_icmp .eq 10, 3) := by decide +kernel
theorem dX9_need_126 : decode cX9_need 126 = .ok (.iload 5, 2) := by decide +kernel
theorem dX9_need_128 : decode cX9_need 128 = .ok (.bipush 9, 2) := by decide +kernel
theorem dX9_need_130 : decode cX9_need 130 = .ok (.if_icmp .ne 21, 3) := by decide +kernel
theorem dX9_need_133 : decode cX9_need 133 = .ok (.aload_n 0, 1) := by decide +kernel
theorem dX9_need_134 : decode cX9_need 134 = .ok (.getfield 77, 3) := by decide +kernel
theorem dX9_need_137 : decode cX9_need 137 = .ok (.aload_n 0, 1) := by decide +kernel
theorem dX9_need_138 : decode cX9_need 138 = .ok (.getfield 46, 3) := by decide +kernel
theorem dX9_need_141 : decode cX9_need 141 = .ok (.iload 4, 2) := by decide +kernel
theorem dX9_need_143 : decode cX9_need 143 = .ok (.iconst 1, 1) := by decide +kernel
theorem dX9_need_144 : decode cX9_need 144 = .ok (.iadd, 1) := by decide +kernel
theorem dX9_need_145 : decode cX9_need 145 = .ok (.iaload, 1) := by decide +kernel
theorem dX9_need_146 : decode cX9_need 146 = .ok (.iconst 1, 1) := by decide +kernel
theorem dX9_need_147 : decode cX9_need 147 = .ok (.bastore, 1) := by decide +kernel
theorem dX9_need_148 : decode cX9_need 148 = .ok (.goto 41, 3) := by decide +kernel
theorem dX9_need_151 : decode cX9_need 151 = .ok (.iload 5, 2) := by decide +kernel
theorem dX9_need_153 : decode cX9_need 153 = .ok (.bipush 7, 2) := by decide +kernel
theorem dX9_need_155 : decode cX9_need 155 = .ok (.if_icmp .ne 34, 3) := by decide +kernel
theorem dX9_need_158 : decode cX9_need 158 = .ok (.iconst 1, 1) := by decide +kernel
theorem dX9_need_159 : decode cX9_need 159 = .ok (.istore 6, 2) := by decide +kernel
theorem dX9_need_161 : decode cX9_need 161 = .ok (.iload 6, 2) := by decide +kernel
theorem dX9_need_163 : decode cX9_need 163 = .ok (.iconst 4, 1) := by decide +kernel
theorem dX9_need_164 : decode cX9_need 164 = .ok (.if_icmp .gt 25, 3) := by decide +kernel
theorem dX9_need_167 : decode cX9_need 167 = .ok (.aload_n 0, 1) := by decide +kernel
theorem dX9_need_168 : decode cX9_need 168 = .ok (.getfield 77, 3) := by decide +kernel
theorem dX9_need_171 : decode cX9_need 171 = .ok (.aload_n 0, 1) := by decide +kernel
theorem dX9_need_172 : decode cX9_need 172 = .ok (.getfield 46, 3) := by decide +kernel
theorem dX9_need_175 : decode cX9_need 175 = .ok (.iload 4, 2) := by decide +kernel
theorem dX9_need_177 : decode cX9_need 177 = .ok (.iload 6, 2) := by decide +kernel
theorem dX9_need_179 : decode cX9_need 179 = .ok (.iadd, 1) := by decide +kernel
theorem dX9_need_180 : decode cX9_need 180 = .ok (.iaload, 1) := by decide +kernel
theorem dX9_need_181 : decode cX9_need 181 = .ok (.iconst 1, 1) := by decide +kernel
theorem dX9_need_182 : decode cX9_need 182 = .ok (.bastore, 1) := by decide +kernel
theorem dX9_need_183 : decode cX9_need 183 = .ok (.iinc 6 1, 3) := by decide +kernel
theorem dX9_need_186 : decode cX9_need 186 = .ok (.goto (-25), 3) := by decide +kernel
theorem dX9_need_189 : decode cX9_need 189 = .ok (.iinc 3 (-1), 3) := by decide +kernel
theorem dX9_need_192 : decode cX9_need 192 = .ok (.goto (-157), 3) := by decide +kernel
theorem dX9_need_195 : decode cX9_need 195 = .ok (.iload_n 2, 1) := by decide +kernel
theorem dX9_need_196 : decode cX9_need 196 = .ok (.ireturn, 1) := by decide +kernel
theorem dX9_row__0 : decode cX9_row_ 0 = .ok (.aload_n 0, 1) := by decide +kernel
theorem dX9_row__1 : decode cX9_row_ 1 = .ok (.iload_n 1, 1) := by decide +kernel
theorem dX9_row__2 : decode cX9_row_ 2 = .ok (.iconst 0, 1) := by decide +kernel
theorem dX9_row__3 : decode cX9_row_ 3 = .ok (.aload_n 0, 1) := by decide +kernel
theorem dX9_row__4 : decode cX9_row_ 4 = .ok (.getfield 145, 3) := by decide +kernel
theorem dX9_row__7 : decode cX9_row_ 7 = .ok (.iconst 1, 1) := by decide +kernel
theorem dX9_row__8 : decode cX9_row_ 8 = .ok (.isub, 1) := by decide +kernel
theorem dX9_row__9 : decode cX9_row_ 9 = .ok (.invokestatic 89, 3) := by decide +kernel
theorem dX9_row__12 : decode cX9_row_ 12 = .ok (.ifCond .eq 28, 3) := by decide +kernel
theorem dX9_row__15 : decode cX9_row_ 15 = .ok (.iload_n 2, 1) := by decide +kernel
theorem dX9_row__16 : decode cX9_row_ 16 = .ok (.iconst 0, 1) := by decide +kernel
theorem dX9_row__17 : decode cX9_row_ 17 = .ok (.aload_n 0, 1) := by decide +kernel
theorem dX9_row__18 : decode cX9_row_ 18 = .ok (.getfield 112, 3) := by decide +kernel
theorem dX9_row__21 : decode cX9_row_ 21 = .ok (.iconst 1, 1) := by decide +kernel
theorem dX9_row__22 : decode cX9_row_ 22 = .ok (.isub, 1) := by decide +kernel
theorem dX9_row__23 : decode cX9_row_ 23 = .ok (.invokestatic 89, 3) := by decide +kernel
theorem dX9_row__26 : decode cX9_row_ 26 = .ok (.ifCond .ne 18, 3) := by decide +kernel
theorem dX9_row__29 : decode cX9_row_ 29 = .ok (.iload_n 2, 1) := by decide +kernel
theorem dX9_row__30 : decode cX9_row_ 30 = .ok (.bipush 8, 2) := by decide +kernel
theorem dX9_row__32 : decode cX9_row_ 32 = .ok (.bipush 13, 2) := by decide +kernel
theorem dX9_row__34 : decode cX9_row_ 34 = .ok (.invokestatic 89, 3) := by decide +kernel
theorem dX9_row__37 : decode cX9_row_ 37 = .ok (.ifCond .ne 7, 3) := by decide +kernel
theorem dX9_row__40 : decode cX9_row_ 40 = .ok (.iconst 1, 1) := by decide +kernel
theorem dX9_row__41 : decode cX9_row_ 41 = .ok (.goto 4, 3) := by decide +kernel
theorem dX9_row__44 : decode cX9_row_ 44 = .ok (.iconst 0, 1) := by decide +kernel
theorem dX9_row__45 : decode cX9_row_ 45 = .ok (.invokevirtual 157, 3) := by decide +kernel
theorem dX9_row__48 : decode cX9_row_ 48 = .ok (.ifCond .eq 5, 3) := by decide +kernel
theorem dX9_row__51 : decode cX9_row_ 51 = .ok (.lconst 0, 1) := by decide +kernel
theorem dX9_row__52 : decode cX9_row_ 52 = .ok (.lreturn, 1) := by decide +kernel
theorem dX9_row__53 : decode cX9_row_ 53 = .ok (.iload_n 2, 1) := by decide +kernel
theorem dX9_row__54 : decode cX9_row_ 54 = .ok (.tableswitch 101 8 13 #[38, 45, 52, 67, 87, 94], 38) := by decide +kernel
theorem dX9_row__92 : decode cX9_row_ 92 = .ok (.aload_n 0, 1) := by decide +kernel
theorem dX9_row__93 : decode cX9_row_ 93 = .ok (.getfield 63, 3) := by decide +kernel
theorem dX9_row__96 : decode cX9_row_ 96 = .ok (.iload_n 1, 1) := by decide +kernel
theorem dX9_row__97 : decode cX9_row_ 97 = .ok (.laload, 1) := by decide +kernel
theorem dX9_row__98 : decode cX9_row_ 98 = .ok (.lreturn, 1) := by decide +kernel
theorem dX9_row__99 : decode cX9_row_ 99 = .ok (.aload_n 0, 1) := by decide +kernel
theorem dX9_row__100 : decode cX9_row_ 100 = .ok (.iload_n 1, 1) := by decide +kernel
theorem dX9_row__101 : decode cX9_row_ 101 = .ok (.invokevirtual 239, 3) := by decide +kernel
theorem dX9_row__104 : decode cX9_row_ 104 = .ok (.i2l, 1) := by decide +kernel
theorem dX9_row__105 : decode cX9_row_ 105 = .ok (.lreturn, 1) := by decide +kernel
theorem dX9_row__106 : decode cX9_row_ 106 = .ok (.aload_n 0, 1) := by decide +kernel
theorem dX9_row__107 : decode cX9_row_ 107 = .ok (.getfield 66, 3) := by decide +kernel
theorem dX9_row__110 : decode cX9_row_ 110 = .ok (.iload_n 1, 1) := by decide +kernel
theorem dX9_row__111 : decode cX9_row_ 111 = .ok (.baload, 1) := by decide +kernel
theorem dX9_row__112 : decode cX9_row_ 112 = .ok (.ifCond .eq 7, 3) := by decide +kernel
theorem dX9_row__115 : decode cX9_row_ 115 = .ok (.lconst 1, 1) := by decide +kernel
theorem dX9_row__116 : decode cX9_row_ 116 = .ok (.goto 4, 3) := by decide +kernel
theorem dX9_row__119 : decode cX9_row_ 119 = .ok (.lconst 0, 1) := by decide +kernel
theorem dX9_row__120 : decode cX9_row_ 120 = .ok (.lreturn, 1) := by decide +kernel
theorem dX9_row__121 : decode cX9_row_ 121 = .ok (.aload_n 0, 1) := by decide +kernel
theorem dX9_row__122 : decode cX9_row_ 122 = .ok (.getfield 66, 3) := by decide +kernel
theorem dX9_row__125 : decode cX9_row_ 125 = .ok (.iload_n 1, 1) := by decide +kernel
theorem dX9_row__126 : decode cX9_row_ 126 = .ok (.baload, 1) := by decide +kernel
theorem dX9_row__127 : decode cX9_row_ 127 = .ok (.ifCond .eq 12, 3) := by decide +kernel
theorem dX9_row__130 : decode cX9_row_ 130 = .ok (.aload_n 0, 1) := by decide +kernel
theorem dX9_row__131 : decode cX9_row_ 131 = .ok (.getfield 70, 3) := by decide +kernel
theorem dX9_row__134 : decode cX9_row_ 134 = .ok (.iload_n 1, 1) := by decide +kernel
theorem dX9_row__135 : decode cX9_row_ 135 = .ok (.laload, 1) := by decide +kernel
theorem dX9_row__136 : decode cX9_row_ 136 = .ok (.goto 4, 3) := by decide +kernel
theorem dX9_row__139 : decode cX9_row_ 139 = .ok (.lconst 0, 1) := by decide +kernel
theorem dX9_row__140 : decode cX9_row_ 140 = .ok (.lreturn, 1) := by decide +kernel
theorem dX9_row__141 : decode cX9_row_ 141 = .ok (.aload_n 0, 1) := by decide +kernel
theorem dX9_row__142 : decode cX9_row_ 142 = .ok (.iload_n 1, 1) := by decide +kernel
theorem dX9_row__143 : decode cX9_row_ 143 = .ok (.invokevirtual 233, 3) := by decide +kernel
theorem dX9_row__146 : decode cX9_row_ 146 = .ok (.i2l, 1) := by decide +kernel
theorem dX9_row__147 : decode cX9_row_ 147 = .ok (.lreturn, 1) := by decide +kernel
theorem dX9_row__148 : decode cX9_row_ 148 = .ok (.aload_n 0, 1) := by decide +kernel
theorem dX9_row__149 : decode cX9_row_ 149 = .ok (.iload_n 1, 1) := by decide +kernel
theorem dX9_row__150 : decode cX9_row_ 150 = .ok (.invokevirtual 242, 3) := by decide +kernel
theorem dX9_row__153 : decode cX9_row_ 153 = .ok (.i2l, 1) := by decide +kernel
theorem dX9_row__154 : decode cX9_row_ 154 = .ok (.lreturn, 1) := by decide +kernel
theorem dX9_row__155 : decode cX9_row_ 155 = .ok (.aload_n 0, 1) := by decide +kernel
theorem dX9_row__156 : decode cX9_row_ 156 = .ok (.getfield 59, 3) := by decide +kernel
theorem dX9_row__159 : decode cX9_row_ 159 = .ok (.bipush 8, 2) := by decide +kernel
theorem dX9_row__161 : decode cX9_row_ 161 = .ok (.iload_n 1, 1) := by decide +kernel
theorem dX9_row__162 : decode cX9_row_ 162 = .ok (.imul, 1) := by decide +kernel
theorem dX9_row__163 : decode cX9_row_ 163 = .ok (.iload_n 2, 1) := by decide +kernel
theorem dX9_row__164 : decode cX9_row_ 164 = .ok (.iadd, 1) := by decide +kernel
theorem dX9_row__165 : decode cX9_row_ 165 = .ok (.laload, 1) := by decide +kernel
theorem dX9_row__166 : decode cX9_row_ 166 = .ok (.lreturn, 1) := by decide +kernel
theorem dX9_assumes__0 : decode cX9_assumes_ 0 = .ok (.aload_n 0, 1) := by decide +kernel
theorem dX9_assumes__1 : decode cX9_assumes_ 1 = .ok (.iload_n 1, 1) := by decide +kernel
theorem dX9_assumes__2 : decode cX9_assumes_ 2 = .ok (.iconst 0, 1) := by decide +kernel
theorem dX9_assumes__3 : decode cX9_assumes_ 3 = .ok (.aload_n 0, 1) := by decide +kernel
theorem dX9_assumes__4 : decode cX9_assumes_ 4 = .ok (.getfield 145, 3) := by decide +kernel
theorem dX9_assumes__7 : decode cX9_assumes_ 7 = .ok (.iconst 1, 1) := by decide +kernel
theorem dX9_assumes__8 : decode cX9_assumes_ 8 = .ok (.isub, 1) := by decide +kernel
theorem dX9_assumes__9 : decode cX9_assumes_ 9 = .ok (.invokestatic 89, 3) := by decide +kernel
theorem dX9_assumes__12 : decode cX9_assumes_ 12 = .ok (.ifCond .ne 7, 3) := by decide +kernel
theorem dX9_assumes__15 : decode cX9_assumes_ 15 = .ok (.iconst 1, 1) := by decide +kernel
theorem dX9_assumes__16 : decode cX9_assumes_ 16 = .ok (.goto 4, 3) := by decide +kernel
theorem dX9_assumes__19 : decode cX9_assumes_ 19 = .ok (.iconst 0, 1) := by decide +kernel
theorem dX9_assumes__20 : decode cX9_assumes_ 20 = .ok (.invokevirtual 157, 3) := by decide +kernel
theorem dX9_assumes__23 : decode cX9_assumes_ 23 = .ok (.ifCond .eq 5, 3) := by decide +kernel
theorem dX9_assumes__26 : decode cX9_assumes_ 26 = .ok (.iconst 0, 1) := by decide +kernel
theorem dX9_assumes__27 : decode cX9_assumes_ 27 = .ok (.ireturn, 1) := by decide +kernel
theorem dX9_assumes__28 : decode cX9_assumes_ 28 = .ok (.iconst 0, 1) := by decide +kernel
theorem dX9_assumes__29 : decode cX9_assumes_ 29 = .ok (.istore_n 3, 1) := by decide +kernel
theorem dX9_assumes__30 : decode cX9_assumes_ 30 = .ok (.iconst 0, 1) := by decide +kernel
theorem dX9_assumes__31 : decode cX9_assumes_ 31 = .ok (.istore 4, 2) := by decide +kernel
theorem dX9_assumes__33 : decode cX9_assumes_ 33 = .ok (.iload 4, 2) := by decide +kernel
theorem dX9_assumes__35 : decode cX9_assumes_ 35 = .ok (.iload_n 1, 1) := by decide +kernel
theorem dX9_assumes__36 : decode cX9_assumes_ 36 = .ok (.if_icmp .gt 36, 3) := by decide +kernel
theorem dX9_assumes__39 : decode cX9_assumes_ 39 = .ok (.aload_n 0, 1) := by decide +kernel
theorem dX9_assumes__40 : decode cX9_assumes_ 40 = .ok (.getfield 74, 3) := by decide +kernel
theorem dX9_assumes__43 : decode cX9_assumes_ 43 = .ok (.sipush 200, 3) := by decide +kernel
theorem dX9_assumes__46 : decode cX9_assumes_ 46 = .ok (.iload_n 1, 1) := by decide +kernel
theorem dX9_assumes__47 : decode cX9_assumes_ 47 = .ok (.imul, 1) := by decide +kernel
theorem dX9_assumes__48 : decode cX9_assumes_ 48 = .ok (.iload 4, 2) := by decide +kernel
theorem dX9_assumes__50 : decode cX9_assumes_ 50 = .ok (.iadd, 1) := by decide +kernel
theorem dX9_assumes__51 : decode cX9_assumes_ 51 = .ok (.baload, 1) := by decide +kernel
theorem dX9_assumes__52 : decode cX9_assumes_ 52 = .ok (.ifCond .eq 14, 3) := by decide +kernel
theorem dX9_assumes__55 : decode cX9_assumes_ 55 = .ok (.iload_n 3, 1) := by decide +kernel
theorem dX9_assumes__56 : decode cX9_assumes_ 56 = .ok (.iload_n 2, 1) := by decide +kernel
theorem dX9_assumes__57 : decode cX9_assumes_ 57 = .ok (.if_icmp .ne 6, 3) := by decide +kernel
theorem dX9_assumes__60 : decode cX9_assumes_ 60 = .ok (.iload 4, 2) := by decide +kernel
theorem dX9_assumes__62 : decode cX9_assumes_ 62 = .ok (.ireturn, 1) := by decide +kernel
theorem dX9_assumes__63 : decode cX9_assumes_ 63 = .ok (.iinc 3 1, 3) := by decide +kernel
theorem dX9_assumes__66 : decode cX9_assumes_ 66 = .ok (.iinc 4 1, 3) := by decide +kernel
theorem dX9_assumes__69 : decode cX9_assumes_ 69 = .ok (.goto (-36), 3) := by decide +kernel
theorem dX9_assumes__72 : decode cX9_assumes_ 72 = .ok (.iconst (-1), 1) := by decide +kernel
theorem dX9_assumes__73 : decode cX9_assumes_ 73 = .ok (.ireturn, 1) := by decide +kernel
theorem dX9_sum_0 : decode cX9_sum 0 = .ok (.lconst 0, 1) := by decide +kernel
theorem dX9_sum_1 : decode cX9_sum 1 = .ok (.lstore_n 3, 1) := by decide +kernel
theorem dX9_sum_2 : decode cX9_sum 2 = .ok (.iconst 0, 1) := by decide +kernel
theorem dX9_sum_3 : decode cX9_sum 3 = .ok (.istore 5, 2) := by decide +kernel
theorem dX9_sum_5 : decode cX9_sum 5 = .ok (.iload 5, 2) := by decide +kernel
theorem dX9_sum_7 : decode cX9_sum 7 = .ok (.aload_n 0, 1) := by decide +kernel
theorem dX9_sum_8 : decode cX9_sum 8 = .ok (.getfield 112, 3) := by decide +kernel
theorem dX9_sum_11 : decode cX9_sum 11 = .ok (.if_icmp .ge 38, 3) := by decide +kernel
theorem dX9_sum_14 : decode cX9_sum 14 = .ok (.lload_n 3, 1) := by decide +kernel
theorem dX9_sum_15 : decode cX9_sum 15 = .ok (.aload_n 0, 1) := by decide +kernel
theorem dX9_sum_16 : decode cX9_sum 16 = .ok (.getfield 59, 3) := by decide +kernel
theorem dX9_sum_19 : decode cX9_sum 19 = .ok (.bipush 8, 2) := by decide +kernel
theorem dX9_sum_21 : decode cX9_sum 21 = .ok (.iload_n 1, 1) := by decide +kernel
theorem dX9_sum_22 : decode cX9_sum 22 = .ok (.imul, 1) := by decide +kernel
theorem dX9_sum_23 : decode cX9_sum 23 = .ok (.iload 5, 2) := by decide +kernel
theorem dX9_sum_25 : decode cX9_sum 25 = .ok (.iadd, 1) := by decide +kernel
theorem dX9_sum_26 : decode cX9_sum 26 = .ok (.laload, 1) := by decide +kernel
theorem dX9_sum_27 : decode cX9_sum 27 = .ok (.aload_n 0, 1) := by decide +kernel
theorem dX9_sum_28 : decode cX9_sum 28 = .ok (.getfield 43, 3) := by decide +kernel
theorem dX9_sum_31 : decode cX9_sum 31 = .ok (.bipush 8, 2) := by decide +kernel
theorem dX9_sum_33 : decode cX9_sum 33 = .ok (.iload_n 2, 1) := by decide +kernel
theorem dX9_sum_34 : decode cX9_sum 34 = .ok (.imul, 1) := by decide +kernel
theorem dX9_sum_35 : decode cX9_sum 35 = .ok (.iload 5, 2) := by decide +kernel
theorem dX9_sum_37 : decode cX9_sum 37 = .ok (.iadd, 1) := by decide +kernel
theorem dX9_sum_38 : decode cX9_sum 38 = .ok (.iaload, 1) := by decide +kernel
theorem dX9_sum_39 : decode cX9_sum 39 = .ok (.i2l, 1) := by decide +kernel
theorem dX9_sum_40 : decode cX9_sum 40 = .ok (.lmul, 1) := by decide +kernel
theorem dX9_sum_41 : decode cX9_sum 41 = .ok (.ladd, 1) := by decide +kernel
theorem dX9_sum_42 : decode cX9_sum 42 = .ok (.lstore_n 3, 1) := by decide +kernel
theorem dX9_sum_43 : decode cX9_sum 43 = .ok (.iinc 5 1, 3) := by decide +kernel
theorem dX9_sum_46 : decode cX9_sum 46 = .ok (.goto (-41), 3) := by decide +kernel
theorem dX9_sum_49 : decode cX9_sum 49 = .ok (.lload_n 3, 1) := by decide +kernel
theorem dX9_sum_50 : decode cX9_sum 50 = .ok (.lreturn, 1) := by decide +kernel
theorem dX9_holds_0 : decode cX9_holds 0 = .ok (.aload_n 0, 1) := by decide +kernel
theorem dX9_holds_1 : decode cX9_holds 1 = .ok (.iload_n 1, 1) := by decide +kernel
theorem dX9_holds_2 : decode cX9_holds 2 = .ok (.iconst 0, 1) := by decide +kernel
theorem dX9_holds_3 : decode cX9_holds 3 = .ok (.aload_n 0, 1) := by decide +kernel
theorem dX9_holds_4 : decode cX9_holds 4 = .ok (.getfield 145, 3) := by decide +kernel
theorem dX9_holds_7 : decode cX9_holds 7 = .ok (.iconst 1, 1) := by decide +kernel
theorem dX9_holds_8 : decode cX9_holds 8 = .ok (.isub, 1) := by decide +kernel
theorem dX9_holds_9 : decode cX9_holds 9 = .ok (.invokestatic 89, 3) := by decide +kernel
theorem dX9_holds_12 : decode cX9_holds 12 = .ok (.ifCond .eq 17, 3) := by decide +kernel
theorem dX9_holds_15 : decode cX9_holds 15 = .ok (.iload_n 2, 1) := by decide +kernel
theorem dX9_holds_16 : decode cX9_holds 16 = .ok (.iconst 0, 1) := by decide +kernel
theorem dX9_holds_17 : decode cX9_holds 17 = .ok (.aload_n 0, 1) := by decide +kernel
theorem dX9_holds_18 : decode cX9_holds 18 = .ok (.getfield 127, 3) := by decide +kernel
theorem dX9_holds_21 : decode cX9_holds 21 = .ok (.iconst 1, 1) := by decide +kernel
theorem dX9_holds_22 : decode cX9_holds 22 = .ok (.isub, 1) := by decide +kernel
theorem dX9_holds_23 : decode cX9_holds 23 = .ok (.invokestatic 89, 3) := by decide +kernel
theorem dX9_holds_26 : decode cX9_holds 26 = .ok (.ifCond .ne 7, 3) := by decide +kernel
theorem dX9_holds_29 : decode cX9_holds 29 = .ok (.iconst 1, 1) := by decide +kernel
theorem dX9_holds_30 : decode cX9_holds 30 = .ok (.goto 4, 3) := by decide +kernel
theorem dX9_holds_33 : decode cX9_holds 33 = .ok (.iconst 0, 1) := by decide +kernel
theorem dX9_holds_34 : decode cX9_holds 34 = .ok (.invokevirtual 157, 3) := by decide +kernel
theorem dX9_holds_37 : decode cX9_holds 37 = .ok (.ifCond .eq 5, 3) := by decide +kernel
theorem dX9_holds_40 : decode cX9_holds 40 = .ok (.iconst 0, 1) := by decide +kernel
theorem dX9_holds_41 : decode cX9_holds 41 = .ok (.ireturn, 1) := by decide +kernel
theorem dX9_holds_42 : decode cX9_holds 42 = .ok (.aload_n 0, 1) := by decide +kernel
theorem dX9_holds_43 : decode cX9_holds 43 = .ok (.getfield 66, 3) := by decide +kernel
theorem dX9_holds_46 : decode cX9_holds 46 = .ok (.iload_n 1, 1) := by decide +kernel
theorem dX9_holds_47 : decode cX9_holds 47 = .ok (.baload, 1) := by decide +kernel
theorem dX9_holds_48 : decode cX9_holds 48 = .ok (.ifCond .eq 18, 3) := by decide +kernel
theorem dX9_holds_51 : decode cX9_holds 51 = .ok (.aload_n 0, 1) := by decide +kernel
theorem dX9_holds_52 : decode cX9_holds 52 = .ok (.iload_n 2, 1) := by decide +kernel
theorem dX9_holds_53 : decode cX9_holds 53 = .ok (.invokevirtual 161, 3) := by decide +kernel
theorem dX9_holds_56 : decode cX9_holds 56 = .ok (.aload_n 0, 1) := by decide +kernel
theorem dX9_holds_57 : decode cX9_holds 57 = .ok (.getfield 70, 3) := by decide +kernel
theorem dX9_holds_60 : decode cX9_holds 60 = .ok (.iload_n 1, 1) := by decide +kernel
theorem dX9_holds_61 : decode cX9_holds 61 = .ok (.laload, 1) := by decide +kernel
theorem dX9_holds_62 : decode cX9_holds 62 = .ok (.lcmp, 1) := by decide +kernel
theorem dX9_holds_63 : decode cX9_holds 63 = .ok (.ifCond .ge 7, 3) := by decide +kernel
theorem dX9_holds_66 : decode cX9_holds 66 = .ok (.iconst 1, 1) := by decide +kernel
theorem dX9_holds_67 : decode cX9_holds 67 = .ok (.goto 4, 3) := by decide +kernel
theorem dX9_holds_70 : decode cX9_holds 70 = .ok (.iconst 0, 1) := by decide +kernel
theorem dX9_holds_71 : decode cX9_holds 71 = .ok (.istore_n 3, 1) := by decide +kernel
theorem dX9_holds_72 : decode cX9_holds 72 = .ok (.iconst 0, 1) := by decide +kernel
theorem dX9_holds_73 : decode cX9_holds 73 = .ok (.istore 4, 2) := by decide +kernel
theorem dX9_holds_75 : decode cX9_holds 75 = .ok (.iload 4, 2) := by decide +kernel
theorem dX9_holds_77 : decode cX9_holds 77 = .ok (.iload_n 1, 1) := by decide +kernel
theorem dX9_holds_78 : decode cX9_holds 78 = .ok (.if_icmp .gt 53, 3) := by decide +kernel
theorem dX9_holds_81 : decode cX9_holds 81 = .ok (.iload_n 3, 1) := by decide +kernel
theorem dX9_holds_82 : decode cX9_holds 82 = .ok (.ifCond .eq 41, 3) := by decide +kernel
theorem dX9_holds_85 : decode cX9_holds 85 = .ok (.aload_n 0, 1) := by decide +kernel
theorem dX9_holds_86 : decode cX9_holds 86 = .ok (.getfield 74, 3) := by decide +kernel
theorem dX9_holds_89 : decode cX9_holds 89 = .ok (.sipush 200, 3) := by decide +kernel
theorem dX9_holds_92 : decode cX9_holds 92 = .ok (.iload_n 1, 1) := by decide +kernel
theorem dX9_holds_93 : decode cX9_holds 93 = .ok (.imul, 1) := by decide +kernel
theorem dX9_holds_94 : decode cX9_holds 94 = .ok (.iload 4, 2) := by decide +kernel
theorem dX9_holds_96 : decode cX9_holds 96 = .ok (.iadd, 1) := by decide +kernel
theorem dX9_holds_97 : decode cX9_holds 97 = .ok (.baload, 1) := by decide +kernel
theorem dX9_holds_98 : decode cX9_holds 98 = .ok (.ifCond .eq 21, 3) := by decide +kernel
theorem dX9_holds_101 : decode cX9_holds 101 = .ok (.aload_n 0, 1) := by decide +kernel
theorem dX9_holds_102 : decode cX9_holds 102 = .ok (.iload 4, 2) := by decide +kernel
theorem dX9_holds_104 : decode cX9_holds 104 = .ok (.iload_n 2, 1) := by decide +kernel
theorem dX9_holds_105 : decode cX9_holds 105 = .ok (.invokevirtual 245, 3) := by decide +kernel
theorem dX9_holds_108 : decode cX9_holds 108 = .ok (.aload_n 0, 1) := by decide +kernel
theorem dX9_holds_109 : decode cX9_holds 109 = .ok (.getfield 63, 3) := by decide +kernel
theorem dX9_holds_112 : decode cX9_holds 112 = .ok (.iload 4, 2) := by decide +kernel
theorem dX9_holds_114 : decode cX9_holds 114 = .ok (.laload, 1) := by decide +kernel
theorem dX9_holds_115 : decode cX9_holds 115 = .ok (.lcmp, 1) := by decide +kernel
theorem dX9_holds_116 : decode cX9_holds 116 = .ok (.ifCond .gt 7, 3) := by decide +kernel
theorem dX9_holds_119 : decode cX9_holds 119 = .ok (.iconst 1, 1) := by decide +kernel
theorem dX9_holds_120 : decode cX9_holds 120 = .ok (.goto 4, 3) := by decide +kernel
theorem dX9_holds_123 : decode cX9_holds 123 = .ok (.iconst 0, 1) := by decide +kernel
theorem dX9_holds_124 : decode cX9_holds 124 = .ok (.istore_n 3, 1) := by decide +kernel
theorem dX9_holds_125 : decode cX9_holds 125 = .ok (.iinc 4 1, 3) := by decide +kernel
theorem dX9_holds_128 : decode cX9_holds 128 = .ok (.goto (-53), 3) := by decide +kernel
theorem dX9_holds_131 : decode cX9_holds 131 = .ok (.iload_n 3, 1) := by decide +kernel
theorem dX9_holds_132 : decode cX9_holds 132 = .ok (.ifCond .ne 7, 3) := by decide +kernel
theorem dX9_holds_135 : decode cX9_holds 135 = .ok (.iconst 2, 1) := by decide +kernel
theorem dX9_holds_136 : decode cX9_holds 136 = .ok (.goto 24, 3) := by decide +kernel
theorem dX9_holds_139 : decode cX9_holds 139 = .ok (.aload_n 0, 1) := by decide +kernel
theorem dX9_holds_140 : decode cX9_holds 140 = .ok (.iload_n 1, 1) := by decide +kernel
theorem dX9_holds_141 : decode cX9_holds 141 = .ok (.iload_n 2, 1) := by decide +kernel
theorem dX9_holds_142 : decode cX9_holds 142 = .ok (.invokevirtual 245, 3) := by decide +kernel
theorem dX9_holds_145 : decode cX9_holds 145 = .ok (.aload_n 0, 1) := by decide +kernel
theorem dX9_holds_146 : decode cX9_holds 146 = .ok (.getfield 63, 3) := by decide +kernel
theorem dX9_holds_149 : decode cX9_holds 149 = .ok (.iload_n 1, 1) := by decide +kernel
theorem dX9_holds_150 : decode cX9_holds 150 = .ok (.laload, 1) := by decide +kernel
theorem dX9_holds_151 : decode cX9_holds 151 = .ok (.lcmp, 1) := by decide +kernel
theorem dX9_holds_152 : decode cX9_holds 152 = .ok (.ifCond .gt 7, 3) := by decide +kernel
theorem dX9_holds_155 : decode cX9_holds 155 = .ok (.iconst 1, 1) := by decide +kernel
theorem dX9_holds_156 : decode cX9_holds 156 = .ok (.goto 4, 3) := by decide +kernel
theorem dX9_holds_159 : decode cX9_holds 159 = .ok (.iconst 0, 1) := by decide +kernel
theorem dX9_holds_160 : decode cX9_holds 160 = .ok (.ireturn, 1) := by decide +kernel
theorem dX9_proof_0 : decode cX9_proof 0 = .ok (.iconst 0, 1) := by decide +kernel
theorem dX9_proof_1 : decode cX9_proof 1 = .ok (.istore_n 2, 1) := by decide +kernel
theorem dX9_proof_2 : decode cX9_proof 2 = .ok (.iload_n 2, 1) := by decide +kernel
theorem dX9_proof_3 : decode cX9_proof 3 = .ok (.aload_n 0, 1) := by decide +kernel
theorem dX9_proof_4 : decode cX9_proof 4 = .ok (.getfield 145, 3) := by decide +kernel
theorem dX9_proof_7 : decode cX9_proof 7 = .ok (.if_icmp .ge 37, 3) := by decide +kernel
theorem dX9_proof_10 : decode cX9_proof 10 = .ok (.aload_n 0, 1) := by decide +kernel
theorem dX9_proof_11 : decode cX9_proof 11 = .ok (.iload_n 2, 1) := by decide +kernel
theorem dX9_proof_12 : decode cX9_proof 12 = .ok (.invokevirtual 236, 3) := by decide +kernel
theorem dX9_proof_15 : decode cX9_proof 15 = .ok (.ifCond .eq 23, 3) := by decide +kernel
theorem dX9_proof_18 : decode cX9_proof 18 = .ok (.aload_n 0, 1) := by decide +kernel
theorem dX9_proof_19 : decode cX9_proof 19 = .ok (.iload_n 2, 1) := by decide +kernel
theorem dX9_proof_20 : decode cX9_proof 20 = .ok (.invokevirtual 239, 3) := by decide +kernel
theorem dX9_proof_23 : decode cX9_proof 23 = .ok (.ifCond .ne 15, 3) := by decide +kernel
theorem dX9_proof_26 : decode cX9_proof 26 = .ok (.aload_n 0, 1) := by decide +kernel
theorem dX9_proof_27 : decode cX9_proof 27 = .ok (.getfield 66, 3) := by decide +kernel
theorem dX9_proof_30 : decode cX9_proof 30 = .ok (.iload_n 2, 1) := by decide +kernel
theorem dX9_proof_31 : decode cX9_proof 31 = .ok (.baload, 1) := by decide +kernel
theorem dX9_proof_32 : decode cX9_proof 32 = .ok (.iload_n 1, 1) := by decide +kernel
theorem dX9_proof_33 : decode cX9_proof 33 = .ok (.if_icmp .ne 5, 3) := by decide +kernel
theorem dX9_proof_36 : decode cX9_proof 36 = .ok (.iload_n 2, 1) := by decide +kernel
theorem dX9_proof_37 : decode cX9_proof 37 = .ok (.ireturn, 1) := by decide +kernel
theorem dX9_proof_38 : decode cX9_proof 38 = .ok (.iinc 2 1, 3) := by decide +kernel
theorem dX9_proof_41 : decode cX9_proof 41 = .ok (.goto (-39), 3) := by decide +kernel
theorem dX9_proof_44 : decode cX9_proof 44 = .ok (.iconst (-1), 1) := by decide +kernel
theorem dX9_proof_45 : decode cX9_proof 45 = .ok (.ireturn, 1) := by decide +kernel
theorem dX9_proved_0 : decode cX9_proved 0 = .ok (.aload_n 0, 1) := by decide +kernel
theorem dX9_proved_1 : decode cX9_proved 1 = .ok (.iconst 0, 1) := by decide +kernel
theorem dX9_proved_2 : decode cX9_proved 2 = .ok (.putfield 86, 3) := by decide +kernel
theorem dX9_proved_5 : decode cX9_proved 5 = .ok (.aload_n 0, 1) := by decide +kernel
theorem dX9_proved_6 : decode cX9_proved 6 = .ok (.iconst 0, 1) := by decide +kernel
theorem dX9_proved_7 : decode cX9_proved 7 = .ok (.invokevirtual 249, 3) := by decide +kernel
theorem dX9_proved_10 : decode cX9_proved 10 = .ok (.iconst (-1), 1) := by decide +kernel
theorem dX9_proved_11 : decode cX9_proved 11 = .ok (.if_icmp .eq 7, 3) := by decide +kernel
theorem dX9_proved_14 : decode cX9_proved 14 = .ok (.iconst 1, 1) := by decide +kernel
theorem dX9_proved_15 : decode cX9_proved 15 = .ok (.goto 17, 3) := by decide +kernel
theorem dX9_proved_18 : decode cX9_proved 18 = .ok (.aload_n 0, 1) := by decide +kernel
theorem dX9_proved_19 : decode cX9_proved 19 = .ok (.iconst 1, 1) := by decide +kernel
theorem dX9_proved_20 : decode cX9_proved 20 = .ok (.invokevirtual 249, 3) := by decide +kernel
theorem dX9_proved_23 : decode cX9_proved 23 = .ok (.iconst (-1), 1) := by decide +kernel
theorem dX9_proved_24 : decode cX9_proved 24 = .ok (.if_icmp .eq 7, 3) := by decide +kernel
theorem dX9_proved_27 : decode cX9_proved 27 = .ok (.iconst 2, 1) := by decide +kernel
theorem dX9_proved_28 : decode cX9_proved 28 = .ok (.goto 4, 3) := by decide +kernel
theorem dX9_proved_31 : decode cX9_proved 31 = .ok (.iconst 0, 1) := by decide +kernel
theorem dX9_proved_32 : decode cX9_proved 32 = .ok (.ireturn, 1) := by decide +kernel
theorem dX9_best_0 : decode cX9_best 0 = .ok (.aload_n 0, 1) := by decide +kernel
theorem dX9_best_1 : decode cX9_best 1 = .ok (.aload_n 0, 1) := by decide +kernel
theorem dX9_best_2 : decode cX9_best 2 = .ok (.iconst 0, 1) := by decide +kernel
theorem dX9_best_3 : decode cX9_best 3 = .ok (.invokevirtual 249, 3) := by decide +kernel
theorem dX9_best_6 : decode cX9_best 6 = .ok (.iconst (-1), 1) := by decide +kernel
theorem dX9_best_7 : decode cX9_best 7 = .ok (.if_icmp .ne 12, 3) := by decide +kernel
theorem dX9_best_10 : decode cX9_best 10 = .ok (.aload_n 0, 1) := by decide +kernel
theorem dX9_best_11 : decode cX9_best 11 = .ok (.iconst 1, 1) := by decide +kernel
theorem dX9_best_12 : decode cX9_best 12 = .ok (.invokevirtual 249, 3) := by decide +kernel
theorem dX9_best_15 : decode cX9_best 15 = .ok (.iconst (-1), 1) := by decide +kernel
theorem dX9_best_16 : decode cX9_best 16 = .ok (.if_icmp .ne 7, 3) := by decide +kernel
theorem dX9_best_19 : decode cX9_best 19 = .ok (.iconst 1, 1) := by decide +kernel
theorem dX9_best_20 : decode cX9_best 20 = .ok (.goto 4, 3) := by decide +kernel
theorem dX9_best_23 : decode cX9_best 23 = .ok (.iconst 0, 1) := by decide +kernel
theorem dX9_best_24 : decode cX9_best 24 = .ok (.invokevirtual 157, 3) := by decide +kernel
theorem dX9_best_27 : decode cX9_best 27 = .ok (.ifCond .eq 7, 3) := by decide +kernel
theorem dX9_best_30 : decode cX9_best 30 = .ok (.lconst 0, 1) := by decide +kernel
theorem dX9_best_31 : decode cX9_best 31 = .ok (.goto 13, 3) := by decide +kernel
theorem dX9_best_34 : decode cX9_best 34 = .ok (.aload_n 0, 1) := by decide +kernel
theorem dX9_best_35 : decode cX9_best 35 = .ok (.getfield 70, 3) := by decide +kernel
theorem dX9_best_38 : decode cX9_best 38 = .ok (.aload_n 0, 1) := by decide +kernel
theorem dX9_best_39 : decode cX9_best 39 = .ok (.iconst 1, 1) := by decide +kernel
theorem dX9_best_40 : decode cX9_best 40 = .ok (.invokevirtual 249, 3) := by decide +kernel
theorem dX9_best_43 : decode cX9_best 43 = .ok (.laload, 1) := by decide +kernel
theorem dX9_best_44 : decode cX9_best 44 = .ok (.lreturn, 1) := by decide +kernel
theorem dX9_times_0 : decode cX9_times 0 = .ok (.lconst 0, 1) := by decide +kernel
theorem dX9_times_1 : decode cX9_times 1 = .ok (.lstore_n 2, 1) := by decide +kernel
theorem dX9_times_2 : decode cX9_times 2 = .ok (.iconst 0, 1) := by decide +kernel
theorem dX9_times_3 : decode cX9_times 3 = .ok (.istore 4, 2) := by decide +kernel
theorem dX9_times_5 : decode cX9_times 5 = .ok (.iload 4, 2) := by decide +kernel
theorem dX9_times_7 : decode cX9_times 7 = .ok (.aload_n 0, 1) := by decide +kernel
theorem dX9_times_8 : decode cX9_times 8 = .ok (.getfield 112, 3) := by decide +kernel
theorem dX9_times_11 : decode cX9_times 11 = .ok (.if_icmp .ge 48, 3) := by decide +kernel
theorem dX9_times_14 : decode cX9_times 14 = .ok (.aload_n 0, 1) := by decide +kernel
theorem dX9_times_15 : decode cX9_times 15 = .ok (.getfield 19, 3) := by decide +kernel
theorem dX9_times_18 : decode cX9_times 18 = .ok (.iload 4, 2) := by decide +kernel
theorem dX9_times_20 : decode cX9_times 20 = .ok (.iaload, 1) := by decide +kernel
theorem dX9_times_21 : decode cX9_times 21 = .ok (.ifCond .eq 32, 3) := by decide +kernel
theorem dX9_times_24 : decode cX9_times 24 = .ok (.lload_n 2, 1) := by decide +kernel
theorem dX9_times_25 : decode cX9_times 25 = .ok (.lconst 0, 1) := by decide +kernel
theorem dX9_times_26 : decode cX9_times 26 = .ok (.lcmp, 1) := by decide +kernel
theorem dX9_times_27 : decode cX9_times 27 = .ok (.ifCond .ne 26, 3) := by decide +kernel
theorem dX9_times_30 : decode cX9_times 30 = .ok (.aload_n 0, 1) := by decide +kernel
theorem dX9_times_31 : decode cX9_times 31 = .ok (.getfield 59, 3) := by decide +kernel
theorem dX9_times_34 : decode cX9_times 34 = .ok (.bipush 8, 2) := by decide +kernel
theorem dX9_times_36 : decode cX9_times 36 = .ok (.iload_n 1, 1) := by decide +kernel
theorem dX9_times_37 : decode cX9_times 37 = .ok (.imul, 1) := by decide +kernel
theorem dX9_times_38 : decode cX9_times 38 = .ok (.iload 4, 2) := by decide +kernel
theorem dX9_times_40 : decode cX9_times 40 = .ok (.iadd, 1) := by decide +kernel
theorem dX9_times_41 : decode cX9_times 41 = .ok (.laload, 1) := by decide +kernel
theorem dX9_times_42 : decode cX9_times 42 = .ok (.lneg, 1) := by decide +kernel
theorem dX9_times_43 : decode cX9_times 43 = .ok (.aload_n 0, 1) := by decide +kernel
theorem dX9_times_44 : decode cX9_times 44 = .ok (.getfield 19, 3) := by decide +kernel
theorem dX9_times_47 : decode cX9_times 47 = .ok (.iload 4, 2) := by decide +kernel
theorem dX9_times_49 : decode cX9_times 49 = .ok (.iaload, 1) := by decide +kernel
theorem dX9_times_50 : decode cX9_times 50 = .ok (.i2l, 1) := by decide +kernel
theorem dX9_times_51 : decode cX9_times 51 = .ok (.ldiv, 1) := by decide +kernel
theorem dX9_times_52 : decode cX9_times 52 = .ok (.lstore_n 2, 1) := by decide +kernel
theorem dX9_times_53 : decode cX9_times 53 = .ok (.iinc 4 1, 3) := by decide +kernel
theorem dX9_times_56 : decode cX9_times 56 = .ok (.goto (-51), 3) := by decide +kernel
theorem dX9_times_59 : decode cX9_times 59 = .ok (.lload_n 2, 1) := by decide +kernel
theorem dX9_times_60 : decode cX9_times 60 = .ok (.lconst 1, 1) := by decide +kernel
theorem dX9_times_61 : decode cX9_times 61 = .ok (.lcmp, 1) := by decide +kernel
theorem dX9_times_62 : decode cX9_times 62 = .ok (.ifCond .ge 5, 3) := by decide +kernel
theorem dX9_times_65 : decode cX9_times 65 = .ok (.lconst 0, 1) := by decide +kernel
theorem dX9_times_66 : decode cX9_times 66 = .ok (.lreturn, 1) := by decide +kernel
theorem dX9_times_67 : decode cX9_times 67 = .ok (.iconst 0, 1) := by decide +kernel
theorem dX9_times_68 : decode cX9_times 68 = .ok (.istore 4, 2) := by decide +kernel
theorem dX9_times_70 : decode cX9_times 70 = .ok (.iload 4, 2) := by decide +kernel
theorem dX9_times_72 : decode cX9_times 72 = .ok (.aload_n 0, 1) := by decide +kernel
theorem dX9_times_73 : decode cX9_times 73 = .ok (.getfield 112, 3) := by decide +kernel
theorem dX9_times_76 : decode cX9_times 76 = .ok (.if_icmp .ge 38, 3) := by decide +kernel
theorem dX9_times_79 : decode cX9_times 79 = .ok (.aload_n 0, 1) := by decide +kernel
theorem dX9_times_80 : decode cX9_times 80 = .ok (.getfield 59, 3) := by decide +kernel
theorem dX9_times_83 : decode cX9_times 83 = .ok (.bipush 8, 2) := by decide +kernel
theorem dX9_times_85 : decode cX9_times 85 = .ok (.iload_n 1, 1) := by decide +kernel
theorem dX9_times_86 : decode cX9_times 86 = .ok (.imul, 1) := by decide +kernel
theorem dX9_times_87 : decode cX9_times 87 = .ok (.iload 4, 2) := by decide +kernel
theorem dX9_times_89 : decode cX9_times 89 = .ok (.iadd, 1) := by decide +kernel
theorem dX9_times_90 : decode cX9_times 90 = .ok (.laload, 1) := by decide +kernel
theorem dX9_times_91 : decode cX9_times 91 = .ok (.lload_n 2, 1) := by decide +kernel
theorem dX9_times_92 : decode cX9_times 92 = .ok (.lneg, 1) := by decide +kernel
theorem dX9_times_93 : decode cX9_times 93 = .ok (.aload_n 0, 1) := by decide +kernel
theorem dX9_times_94 : decode cX9_times 94 = .ok (.getfield 19, 3) := by decide +kernel
theorem dX9_times_97 : decode cX9_times 97 = .ok (.iload 4, 2) := by decide +kernel
theorem dX9_times_99 : decode cX9_times 99 = .ok (.iaload, 1) := by decide +kernel
theorem dX9_times_100 : decode cX9_times 100 = .ok (.i2l, 1) := by decide +kernel
theorem dX9_times_101 : decode cX9_times 101 = .ok (.lmul, 1) := by decide +kernel
theorem dX9_times_102 : decode cX9_times 102 = .ok (.lcmp, 1) := by decide +kernel
theorem dX9_times_103 : decode cX9_times 103 = .ok (.ifCond .eq 5, 3) := by decide +kernel
theorem dX9_times_106 : decode cX9_times 106 = .ok (.lconst 0, 1) := by decide +kernel
theorem dX9_times_107 : decode cX9_times 107 = .ok (.lreturn, 1) := by decide +kernel
theorem dX9_times_108 : decode cX9_times 108 = .ok (.iinc 4 1, 3) := by decide +kernel
theorem dX9_times_111 : decode cX9_times 111 = .ok (.goto (-41), 3) := by decide +kernel
theorem dX9_times_114 : decode cX9_times 114 = .ok (.lload_n 2, 1) := by decide +kernel
theorem dX9_times_115 : decode cX9_times 115 = .ok (.lreturn, 1) := by decide +kernel
theorem dX9_least_0 : decode cX9_least 0 = .ok (.iconst 0, 1) := by decide +kernel
theorem dX9_least_1 : decode cX9_least 1 = .ok (.istore_n 1, 1) := by decide +kernel
theorem dX9_least_2 : decode cX9_least 2 = .ok (.lconst 0, 1) := by decide +kernel
theorem dX9_least_3 : decode cX9_least 3 = .ok (.lstore_n 2, 1) := by decide +kernel
theorem dX9_least_4 : decode cX9_least 4 = .ok (.iconst 0, 1) := by decide +kernel
theorem dX9_least_5 : decode cX9_least 5 = .ok (.istore 4, 2) := by decide +kernel
theorem dX9_least_7 : decode cX9_least 7 = .ok (.iload 4, 2) := by decide +kernel
theorem dX9_least_9 : decode cX9_least 9 = .ok (.aload_n 0, 1) := by decide +kernel
theorem dX9_least_10 : decode cX9_least 10 = .ok (.getfield 145, 3) := by decide +kernel
theorem dX9_least_13 : decode cX9_least 13 = .ok (.if_icmp .ge 82, 3) := by decide +kernel
theorem dX9_least_16 : decode cX9_least 16 = .ok (.aload_n 0, 1) := by decide +kernel
theorem dX9_least_17 : decode cX9_least 17 = .ok (.iload 4, 2) := by decide +kernel
theorem dX9_least_19 : decode cX9_least 19 = .ok (.invokevirtual 239, 3) := by decide +kernel
theorem dX9_least_22 : decode cX9_least 22 = .ok (.ifCond .ne 22, 3) := by decide +kernel
theorem dX9_least_25 : decode cX9_least 25 = .ok (.aload_n 0, 1) := by decide +kernel
theorem dX9_least_26 : decode cX9_least 26 = .ok (.getfield 66, 3) := by decide +kernel
theorem dX9_least_29 : decode cX9_least 29 = .ok (.iload 4, 2) := by decide +kernel
theorem dX9_least_31 : decode cX9_least 31 = .ok (.baload, 1) := by decide +kernel
theorem dX9_least_32 : decode cX9_least 32 = .ok (.ifCond .ne 12, 3) := by decide +kernel
theorem dX9_least_35 : decode cX9_least 35 = .ok (.aload_n 0, 1) := by decide +kernel
theorem dX9_least_36 : decode cX9_least 36 = .ok (.iload 4, 2) := by decide +kernel
theorem dX9_least_38 : decode cX9_least 38 = .ok (.invokevirtual 253, 3) := by decide +kernel
theorem dX9_least_41 : decode cX9_least 41 = .ok (.goto 4, 3) := by decide +kernel
theorem dX9_least_44 : decode cX9_least 44 = .ok (.lconst 0, 1) := by decide +kernel
theorem dX9_least_45 : decode cX9_least 45 = .ok (.lstore 5, 2) := by decide +kernel
theorem dX9_least_47 : decode cX9_least 47 = .ok (.lload 5, 2) := by decide +kernel
theorem dX9_least_49 : decode cX9_least 49 = .ok (.lconst 0, 1) := by decide +kernel
theorem dX9_least_50 : decode cX9_least 50 = .ok (.lcmp, 1) := by decide +kernel
theorem dX9_least_51 : decode cX9_least 51 = .ok (.ifCond .le 38, 3) := by decide +kernel
theorem dX9_least_54 : decode cX9_least 54 = .ok (.aload_n 0, 1) := by decide +kernel
theorem dX9_least_55 : decode cX9_least 55 = .ok (.getfield 63, 3) := by decide +kernel
theorem dX9_least_58 : decode cX9_least 58 = .ok (.iload 4, 2) := by decide +kernel
theorem dX9_least_60 : decode cX9_least 60 = .ok (.laload, 1) := by decide +kernel
theorem dX9_least_61 : decode cX9_least 61 = .ok (.lload 5, 2) := by decide +kernel
theorem dX9_least_63 : decode cX9_least 63 = .ok (.invokestatic 229, 3) := by decide +kernel
theorem dX9_least_66 : decode cX9_least 66 = .ok (.lneg, 1) := by decide +kernel
theorem dX9_least_67 : decode cX9_least 67 = .ok (.lstore 7, 2) := by decide +kernel
theorem dX9_least_69 : decode cX9_least 69 = .ok (.iload_n 1, 1) := by decide +kernel
theorem dX9_least_70 : decode cX9_least 70 = .ok (.ifCond .eq 10, 3) := by decide +kernel
theorem dX9_least_73 : decode cX9_least 73 = .ok (.lload 7, 2) := by decide +kernel
theorem dX9_least_75 : decode cX9_least 75 = .ok (.lload_n 2, 1) := by decide +kernel
theorem dX9_least_76 : decode cX9_least 76 = .ok (.lcmp, 1) := by decide +kernel
theorem dX9_least_77 : decode cX9_least 77 = .ok (.ifCond .le 8, 3) := by decide +kernel
theorem dX9_least_80 : decode cX9_least 80 = .ok (.lload 7, 2) := by decide +kernel
theorem dX9_least_82 : decode cX9_least 82 = .ok (.goto 4, 3) := by decide +kernel
theorem dX9_least_85 : decode cX9_least 85 = .ok (.lload_n 2, 1) := by decide +kernel
theorem dX9_least_86 : decode cX9_least 86 = .ok (.lstore_n 2, 1) := by decide +kernel
theorem dX9_least_87 : decode cX9_least 87 = .ok (.iconst 1, 1) := by decide +kernel
theorem dX9_least_88 : decode cX9_least 88 = .ok (.istore_n 1, 1) := by decide +kernel
theorem dX9_least_89 : decode cX9_least 89 = .ok (.iinc 4 1, 3) := by decide +kernel
theorem dX9_least_92 : decode cX9_least 92 = .ok (.goto (-85), 3) := by decide +kernel
theorem dX9_least_95 : decode cX9_least 95 = .ok (.aload_n 0, 1) := by decide +kernel
theorem dX9_least_96 : decode cX9_least 96 = .ok (.iload_n 1, 1) := by decide +kernel
theorem dX9_least_97 : decode cX9_least 97 = .ok (.ifCond .ne 7, 3) := by decide +kernel
theorem dX9_least_100 : decode cX9_least 100 = .ok (.iconst 1, 1) := by decide +kernel
theorem dX9_least_101 : decode cX9_least 101 = .ok (.goto 4, 3) := by decide +kernel
theorem dX9_least_104 : decode cX9_least 104 = .ok (.iconst 0, 1) := by decide +kernel
theorem dX9_least_105 : decode cX9_least 105 = .ok (.invokevirtual 157, 3) := by decide +kernel
theorem dX9_least_108 : decode cX9_least 108 = .ok (.ifCond .eq 7, 3) := by decide +kernel
theorem dX9_least_111 : decode cX9_least 111 = .ok (.lconst 0, 1) := by decide +kernel
theorem dX9_least_112 : decode cX9_least 112 = .ok (.goto 4, 3) := by decide +kernel
theorem dX9_least_115 : decode cX9_least 115 = .ok (.lload_n 2, 1) := by decide +kernel
theorem dX9_least_116 : decode cX9_least 116 = .ok (.lreturn, 1) := by decide +kernel
theorem dX9_trim_0 : decode cX9_trim 0 = .ok (.aload_n 0, 1) := by decide +kernel
theorem dX9_trim_1 : decode cX9_trim 1 = .ok (.iload_n 1, 1) := by decide +kernel
theorem dX9_trim_2 : decode cX9_trim 2 = .ok (.iconst 0, 1) := by decide +kernel
theorem dX9_trim_3 : decode cX9_trim 3 = .ok (.aload_n 0, 1) := by decide +kernel
theorem dX9_trim_4 : decode cX9_trim 4 = .ok (.getfield 145, 3) := by decide +kernel
theorem dX9_trim_7 : decode cX9_trim 7 = .ok (.iconst 1, 1) := by decide +kernel
theorem dX9_trim_8 : decode cX9_trim 8 = .ok (.isub, 1) := by decide +kernel
theorem dX9_trim_9 : decode cX9_trim 9 = .ok (.invokestatic 89, 3) := by decide +kernel
theorem dX9_trim_12 : decode cX9_trim 12 = .ok (.ifCond .ne 7, 3) := by decide +kernel
theorem dX9_trim_15 : decode cX9_trim 15 = .ok (.iconst 1, 1) := by decide +kernel
theorem dX9_trim_16 : decode cX9_trim 16 = .ok (.goto 4, 3) := by decide +kernel
theorem dX9_trim_19 : decode cX9_trim 19 = .ok (.iconst 0, 1) := by decide +kernel
theorem dX9_trim_20 : decode cX9_trim 20 = .ok (.invokevirtual 157, 3) := by decide +kernel
theorem dX9_trim_23 : decode cX9_trim 23 = .ok (.ifCond .eq 5, 3) := by decide +kernel
theorem dX9_trim_26 : decode cX9_trim 26 = .ok (.iconst 0, 1) := by decide +kernel
theorem dX9_trim_27 : decode cX9_trim 27 = .ok (.ireturn, 1) := by decide +kernel
theorem dX9_trim_28 : decode cX9_trim 28 = .ok (.aload_n 0, 1) := by decide +kernel
theorem dX9_trim_29 : decode cX9_trim 29 = .ok (.iload_n 1, 1) := by decide +kernel
theorem dX9_trim_30 : decode cX9_trim 30 = .ok (.invokevirtual 242, 3) := by decide +kernel
theorem dX9_trim_33 : decode cX9_trim 33 = .ok (.istore_n 2, 1) := by decide +kernel
theorem dX9_trim_34 : decode cX9_trim 34 = .ok (.iconst 1, 1) := by decide +kernel
theorem dX9_trim_35 : decode cX9_trim 35 = .ok (.istore_n 3, 1) := by decide +kernel
theorem dX9_trim_36 : decode cX9_trim 36 = .ok (.iconst 0, 1) := by decide +kernel
theorem dX9_trim_37 : decode cX9_trim 37 = .ok (.istore 4, 2) := by decide +kernel
theorem dX9_trim_39 : decode cX9_trim 39 = .ok (.aload_n 0, 1) := by decide +kernel
theorem dX9_trim_40 : decode cX9_trim 40 = .ok (.getfield 83, 3) := by decide +kernel
theorem dX9_trim_43 : decode cX9_trim 43 = .ok (.iconst 0, 1) := by decide +kernel
theorem dX9_trim_44 : decode cX9_trim 44 = .ok (.aload_n 0, 1) := by decide +kernel
theorem dX9_trim_45 : decode cX9_trim 45 = .ok (.getfield 124, 3) := by decide +kernel
theorem dX9_trim_48 : decode cX9_trim 48 = .ok (.iastore, 1) := by decide +kernel
theorem dX9_trim_49 : decode cX9_trim 49 = .ok (.iconst 0, 1) := by decide +kernel
theorem dX9_trim_50 : decode cX9_trim 50 = .ok (.istore 5, 2) := by decide +kernel
theorem dX9_trim_52 : decode cX9_trim 52 = .ok (.iload 5, 2) := by decide +kernel
theorem dX9_trim_54 : decode cX9_trim 54 = .ok (.iload_n 1, 1) := by decide +kernel
theorem dX9_trim_55 : decode cX9_trim 55 = .ok (.if_icmp .gt 168, 3) := by decide +kernel
theorem dX9_trim_58 : decode cX9_trim 58 = .ok (.aload_n 0, 1) := by decide +kernel
theorem dX9_trim_59 : decode cX9_trim 59 = .ok (.getfield 77, 3) := by decide +kernel
theorem dX9_trim_62 : decode cX9_trim 62 = .ok (.iload 5, 2) := by decide +kernel
theorem dX9_trim_64 : decode cX9_trim 64 = .ok (.baload, 1) := by decide +kernel
theorem dX9_trim_65 : decode cX9_trim 65 = .ok (.ifCond .eq 152, 3) := by decide +kernel
theorem dX9_trim_68 : decode cX9_trim 68 = .ok (.aload_n 0, 1) := by decide +kernel
theorem dX9_trim_69 : decode cX9_trim 69 = .ok (.getfield 80, 3) := by decide +kernel
theorem dX9_trim_72 : decode cX9_trim 72 = .ok (.iload 5, 2) := by decide +kernel
theorem dX9_trim_74 : decode cX9_trim 74 = .ok (.iload 4, 2) := by decide +kernel
theorem dX9_trim_76 : decode cX9_trim 76 = .ok (.iastore, 1) := by decide +kernel
theorem dX9_trim_77 : decode cX9_trim 77 = .ok (.aload_n 0, 1) := by decide +kernel
theorem dX9_trim_78 : decode cX9_trim 78 = .ok (.getfield 56, 3) := by decide +kernel
theorem dX9_trim_81 : decode cX9_trim 81 = .ok (.iload 5, 2) := by decide +kernel
theorem dX9_trim_83 : decode cX9_trim 83 = .ok (.iaload, 1) := by decide +kernel
theorem dX9_trim_84 : decode cX9_trim 84 = .ok (.istore 6, 2) := by decide +kernel
theorem dX9_trim_86 : decode cX9_trim 86 = .ok (.aload_n 0, 1) := by decide +kernel
theorem dX9_trim_87 : decode cX9_trim 87 = .ok (.iload 6, 2) := by decide +kernel
theorem dX9_trim_89 : decode cX9_trim 89 = .ok (.invokevirtual 184, 3) := by decide +kernel
theorem dX9_trim_92 : decode cX9_trim 92 = .ok (.istore 7, 2) := by decide +kernel
theorem dX9_trim_94 : decode cX9_trim 94 = .ok (.iconst 0, 1) := by decide +kernel
theorem dX9_trim_95 : decode cX9_trim 95 = .ok (.istore 8, 2) := by decide +kernel
theorem dX9_trim_97 : decode cX9_trim 97 = .ok (.iload 8, 2) := by decide +kernel
theorem dX9_trim_99 : decode cX9_trim 99 = .ok (.iload 7, 2) := by decide +kernel
theorem dX9_trim_101 : decode cX9_trim 101 = .ok (.if_icmp .ge 113, 3) := by decide +kernel
theorem dX9_trim_104 : decode cX9_trim 104 = .ok (.aload_n 0, 1) := by decide +kernel
theorem dX9_trim_105 : decode cX9_trim 105 = .ok (.getfield 46, 3) := by decide +kernel
theorem dX9_trim_108 : decode cX9_trim 108 = .ok (.iload 6, 2) := by decide +kernel
theorem dX9_trim_110 : decode cX9_trim 110 = .ok (.iload 8, 2) := by decide +kernel
theorem dX9_trim_112 : decode cX9_trim 112 = .ok (.iadd, 1) := by decide +kernel
theorem dX9_trim_113 : decode cX9_trim 113 = .ok (.iaload, 1) := by decide +kernel
theorem dX9_trim_114 : decode cX9_trim 114 = .ok (.istore 9, 2) := by decide +kernel
theorem dX9_trim_116 : decode cX9_trim 116 = .ok (.aload_n 0, 1) := by decide +kernel
theorem dX9_trim_117 : decode cX9_trim 117 = .ok (.getfield 46, 3) := by decide +kernel
theorem dX9_trim_120 : decode cX9_trim 120 = .ok (.iload 6, 2) := by decide +kernel
theorem dX9_trim_122 : decode cX9_trim 122 = .ok (.iaload, 1) := by decide +kernel
theorem dX9_trim_123 : decode cX9_trim 123 = .ok (.istore 10, 2) := by decide +kernel
theorem dX9_trim_125 : decode cX9_trim 125 = .ok (.iload 10, 2) := by decide +kernel
theorem dX9_trim_127 : decode cX9_trim 127 = .ok (.iconst 4, 1) := by decide +kernel
theorem dX9_trim_128 : decode cX9_trim 128 = .ok (.if_icmp .ne 16, 3) := by decide +kernel
theorem dX9_trim_131 : decode cX9_trim 131 = .ok (.iload 8, 2) := by decide +kernel
theorem dX9_trim_133 : decode cX9_trim 133 = .ok (.iconst 2, 1) := by decide +kernel
theorem dX9_trim_134 : decode cX9_trim 134 = .ok (.if_icmp .lt 10, 3) := by decide +kernel
theorem dX9_trim_137 : decode cX9_trim 137 = .ok (.iload 8, 2) := by decide +kernel
theorem dX9_trim_139 : decode cX9_trim 139 = .ok (.iconst 2, 1) := by decide +kernel
theorem dX9_trim_140 : decode cX9_trim 140 = .ok (.irem, 1) := by decide +kernel
theorem dX9_trim_141 : decode cX9_trim 141 = .ok (.ifCond .eq 34, 3) := by decide +kernel
theorem dX9_trim_144 : decode cX9_trim 144 = .ok (.iload 10, 2) := by decide +kernel
theorem dX9_trim_146 : decode cX9_trim 146 = .ok (.iconst 5, 1) := by decide +kernel
theorem dX9_trim_147 : decode cX9_trim 147 = .ok (.if_icmp .eq 10, 3) := by decide +kernel
theorem dX9_trim_150 : decode cX9_trim 150 = .ok (.iload 10, 2) := by decide +kernel
theorem dX9_trim_152 : decode cX9_trim 152 = .ok (.bipush 9, 2) := by decide +kernel
theorem dX9_trim_154 : decode cX9_trim 154 = .ok (.if_icmp .ne 9, 3) := by decide +kernel
theorem dX9_trim_157 : decode cX9_trim 157 = .ok (.iload 8, 2) := by decide +kernel
theorem dX9_trim_159 : decode cX9_trim 159 = .ok (.iconst 1, 1) := by decide +kernel
theorem dX9_trim_160 : decode cX9_trim 160 = .ok (.if_icmp .eq 15, 3) := by decide +kernel
theorem dX9_trim_163 : decode cX9_trim 163 = .ok (.iload 10, 2) := by decide +kernel
theorem dX9_trim_165 : decode cX9_trim 165 = .ok (.bipush 7, 2) := by decide +kernel
theorem dX9_trim_167 : decode cX9_trim 167 = .ok (.if_icmp .ne 12, 3) := by decide +kernel
theorem dX9_trim_170 : decode cX9_trim 170 = .ok (.iload 8, 2) := by decide +kernel
theorem dX9_trim_172 : decode cX9_trim 172 = .ok (.ifCond .le 7, 3) := by decide +kernel
theorem dX9_trim_175 : decode cX9_trim 175 = .ok (.iconst 1, 1) := by decide +kernel
theorem dX9_trim_176 : decode cX9_trim 176 = .ok (.goto 4, 3) := by decide +kernel
theorem dX9_trim_179 : decode cX9_trim 179 = .ok (.iconst 0, 1) := by decide +kernel
theorem dX9_trim_180 : decode cX9_trim 180 = .ok (.istore 11, 2) := by decide +kernel
theorem dX9_trim_182 : decode cX9_trim 182 = .ok (.aload_n 0, 1) := by decide +kernel
theorem dX9_trim_183 : decode cX9_trim 183 = .ok (.getfield 83, 3) := by decide +kernel
theorem dX9_trim_186 : decode cX9_trim 186 = .ok (.iload_n 3, 1) := by decide +kernel
theorem dX9_trim_187 : decode cX9_trim 187 = .ok (.iload 11, 2) := by decide +kernel
theorem dX9_trim_189 : decode cX9_trim 189 = .ok (.ifCond .eq 13, 3) := by decide +kernel
theorem dX9_trim_192 : decode cX9_trim 192 = .ok (.aload_n 0, 1) := by decide +kernel
theorem dX9_trim_193 : decode cX9_trim 193 = .ok (.getfield 80, 3) := by decide +kernel
theorem dX9_trim_196 : decode cX9_trim 196 = .ok (.iload 9, 2) := by decide +kernel
theorem dX9_trim_198 : decode cX9_trim 198 = .ok (.iaload, 1) := by decide +kernel
theorem dX9_trim_199 : decode cX9_trim 199 = .ok (.goto 5, 3) := by decide +kernel
theorem dX9_trim_202 : decode cX9_trim 202 = .ok (.iload 9, 2) := by decide +kernel
theorem dX9_trim_204 : decode cX9_trim 204 = .ok (.iastore, 1) := by decide +kernel
theorem dX9_trim_205 : decode cX9_trim 205 = .ok (.iinc 3 1, 3) := by decide +kernel
theorem dX9_trim_208 : decode cX9_trim 208 = .ok (.iinc 8 1, 3) := by decide +kernel
theorem dX9_trim_211 : decode cX9_trim 211 = .ok (.goto (-114), 3) := by decide +kernel
theorem dX9_trim_214 : decode cX9_trim 214 = .ok (.iinc 4 1, 3) := by decide +kernel
theorem dX9_trim_217 : decode cX9_trim 217 = .ok (.iinc 5 1, 3) := by decide +kernel
theorem dX9_trim_220 : decode cX9_trim 220 = .ok (.goto (-168), 3) := by decide +kernel
theorem dX9_trim_223 : decode cX9_trim 223 = .ok (.aload_n 0, 1) := by decide +kernel
theorem dX9_trim_224 : decode cX9_trim 224 = .ok (.invokevirtual 130, 3) := by decide +kernel
theorem dX9_trim_227 : decode cX9_trim 227 = .ok (.aload_n 0, 1) := by decide +kernel
theorem dX9_trim_228 : decode cX9_trim 228 = .ok (.iconst 1, 1) := by decide +kernel
theorem dX9_trim_229 : decode cX9_trim 229 = .ok (.putfield 133, 3) := by decide +kernel
theorem dX9_trim_232 : decode cX9_trim 232 = .ok (.iconst 0, 1) := by decide +kernel
theorem dX9_trim_233 : decode cX9_trim 233 = .ok (.istore 5, 2) := by decide +kernel
theorem dX9_trim_235 : decode cX9_trim 235 = .ok (.iload 5, 2) := by decide +kernel
theorem dX9_trim_237 : decode cX9_trim 237 = .ok (.iload_n 3, 1) := by decide +kernel
theorem dX9_trim_238 : decode cX9_trim 238 = .ok (.if_icmp .ge 20, 3) := by decide +kernel
theorem dX9_trim_241 : decode cX9_trim 241 = .ok (.aload_n 0, 1) := by decide +kernel
theorem dX9_trim_242 : decode cX9_trim 242 = .ok (.aload_n 0, 1) := by decide +kernel
theorem dX9_trim_243 : decode cX9_trim 243 = .ok (.getfield 83, 3) := by decide +kernel
theorem dX9_trim_246 : decode cX9_trim 246 = .ok (.iload 5, 2) := by decide +kernel
theorem dX9_trim_248 : decode cX9_trim 248 = .ok (.iaload, 1) := by decide +kernel
theorem dX9_trim_249 : decode cX9_trim 249 = .ok (.invokevirtual 165, 3) := by decide +kernel
theorem dX9_trim_252 : decode cX9_trim 252 = .ok (.iinc 5 1, 3) := by decide +kernel
theorem dX9_trim_255 : decode cX9_trim 255 = .ok (.goto (-20), 3) := by decide +kernel
theorem dX9_trim_258 : decode cX9_trim 258 = .ok (.iload_n 2, 1) := by decide +kernel
theorem dX9_trim_259 : decode cX9_trim 259 = .ok (.ireturn, 1) := by decide +kernel
theorem dX9_number_0 : decode cX9_number 0 = .ok (.aload_n 0, 1) := by decide +kernel
theorem dX9_number_1 : decode cX9_number 1 = .ok (.iload_n 1, 1) := by decide +kernel
theorem dX9_number_2 : decode cX9_number 2 = .ok (.iconst 0, 1) := by decide +kernel
theorem dX9_number_3 : decode cX9_number 3 = .ok (.aload_n 0, 1) := by decide +kernel
theorem dX9_number_4 : decode cX9_number 4 = .ok (.getfield 136, 3) := by decide +kernel
theorem dX9_number_7 : decode cX9_number 7 = .ok (.iconst 1, 1) := by decide +kernel
theorem dX9_number_8 : decode cX9_number 8 = .ok (.isub, 1) := by decide +kernel
theorem dX9_number_9 : decode cX9_number 9 = .ok (.invokestatic 89, 3) := by decide +kernel
theorem dX9_number_12 : decode cX9_number 12 = .ok (.ifCond .ne 7, 3) := by decide +kernel
theorem dX9_number_15 : decode cX9_number 15 = .ok (.iconst 1, 1) := by decide +kernel
theorem dX9_number_16 : decode cX9_number 16 = .ok (.goto 4, 3) := by decide +kernel
theorem dX9_number_19 : decode cX9_number 19 = .ok (.iconst 0, 1) := by decide +kernel
theorem dX9_number_20 : decode cX9_number 20 = .ok (.invokevirtual 157, 3) := by decide +kernel
theorem dX9_number_23 : decode cX9_number 23 = .ok (.ifCond .eq 7, 3) := by decide +kernel
theorem dX9_number_26 : decode cX9_number 26 = .ok (.iconst 0, 1) := by decide +kernel
theorem dX9_number_27 : decode cX9_number 27 = .ok (.goto 9, 3) := by decide +kernel
theorem dX9_number_30 : decode cX9_number 30 = .ok (.aload_n 0, 1) := by decide +kernel
theorem dX9_number_31 : decode cX9_number 31 = .ok (.getfield 46, 3) := by decide +kernel
theorem dX9_number_34 : decode cX9_number 34 = .ok (.iload_n 1, 1) := by decide +kernel
theorem dX9_number_35 : decode cX9_number 35 = .ok (.iaload, 1) := by decide +kernel
theorem dX9_number_36 : decode cX9_number 36 = .ok (.ireturn, 1) := by decide +kernel
theorem dX9_told_0 : decode cX9_told 0 = .ok (.aload_n 0, 1) := by decide +kernel
theorem dX9_told_1 : decode cX9_told 1 = .ok (.iconst 0, 1) := by decide +kernel
theorem dX9_told_2 : decode cX9_told 2 = .ok (.putfield 86, 3) := by decide +kernel
theorem dX9_told_5 : decode cX9_told 5 = .ok (.iload_n 1, 1) := by decide +kernel
theorem dX9_told_6 : decode cX9_told 6 = .ok (.tableswitch 86 0 7 #[46, 51, 56, 61, 66, 71, 76, 81], 46) := by decide +kernel
theorem dX9_told_52 : decode cX9_told 52 = .ok (.aload_n 0, 1) := by decide +kernel
theorem dX9_told_53 : decode cX9_told 53 = .ok (.getfield 93, 3) := by decide +kernel
theorem dX9_told_56 : decode cX9_told 56 = .ok (.ireturn, 1) := by decide +kernel
theorem dX9_told_57 : decode cX9_told 57 = .ok (.aload_n 0, 1) := by decide +kernel
theorem dX9_told_58 : decode cX9_told 58 = .ok (.getfield 112, 3) := by decide +kernel
theorem dX9_told_61 : decode cX9_told 61 = .ok (.ireturn, 1) := by decide +kernel
theorem dX9_told_62 : decode cX9_told 62 = .ok (.aload_n 0, 1) := by decide +kernel
theorem dX9_told_63 : decode cX9_told 63 = .ok (.getfield 115, 3) := by decide +kernel
theorem dX9_told_66 : decode cX9_told 66 = .ok (.ireturn, 1) := by decide +kernel
theorem dX9_told_67 : decode cX9_told 67 = .ok (.aload_n 0, 1) := by decide +kernel
theorem dX9_told_68 : decode cX9_told 68 = .ok (.getfield 118, 3) := by decide +kernel
theorem dX9_told_71 : decode cX9_told 71 = .ok (.ireturn, 1) := by decide +kernel
theorem dX9_told_72 : decode cX9_told 72 = .ok (.aload_n 0, 1) := by decide +kernel
theorem dX9_told_73 : decode cX9_told 73 = .ok (.getfield 127, 3) := by decide +kernel
theorem dX9_told_76 : decode cX9_told 76 = .ok (.ireturn, 1) := by decide +kernel
theorem dX9_told_77 : decode cX9_told 77 = .ok (.aload_n 0, 1) := by decide +kernel
theorem dX9_told_78 : decode cX9_told 78 = .ok (.getfield 145, 3) := by decide +kernel
theorem dX9_told_81 : decode cX9_told 81 = .ok (.ireturn, 1) := by decide +kernel
theorem dX9_told_82 : decode cX9_told 82 = .ok (.aload_n 0, 1) := by decide +kernel
theorem dX9_told_83 : decode cX9_told 83 = .ok (.getfield 148, 3) := by decide +kernel
theorem dX9_told_86 : decode cX9_told 86 = .ok (.ireturn, 1) := by decide +kernel
theorem dX9_told_87 : decode cX9_told 87 = .ok (.aload_n 0, 1) := by decide +kernel
theorem dX9_told_88 : decode cX9_told 88 = .ok (.getfield 136, 3) := by decide +kernel
theorem dX9_told_91 : decode cX9_told 91 = .ok (.ireturn, 1) := by decide +kernel
theorem dX9_told_92 : decode cX9_told 92 = .ok (.bipush (-3), 2) := by decide +kernel
theorem dX9_told_94 : decode cX9_told 94 = .ok (.ireturn, 1) := by decide +kernel
theorem dJ13_bitCount_95d88_0 : decode cJ13_bitCount_95d88 0 = .ok (.lload_n 0, 1) := by decide +kernel
theorem dJ13_bitCount_95d88_1 : decode cJ13_bitCount_95d88 1 = .ok (.lload_n 0, 1) := by decide +kernel
theorem dJ13_bitCount_95d88_2 : decode cJ13_bitCount_95d88 2 = .ok (.iconst 1, 1) := by decide +kernel
theorem dJ13_bitCount_95d88_3 : decode cJ13_bitCount_95d88 3 = .ok (.lushr, 1) := by decide +kernel
theorem dJ13_bitCount_95d88_4 : decode cJ13_bitCount_95d88 4 = .ok (.ldc2_w 314, 3) := by decide +kernel
theorem dJ13_bitCount_95d88_7 : decode cJ13_bitCount_95d88 7 = .ok (.land, 1) := by decide +kernel
theorem dJ13_bitCount_95d88_8 : decode cJ13_bitCount_95d88 8 = .ok (.lsub, 1) := by decide +kernel
theorem dJ13_bitCount_95d88_9 : decode cJ13_bitCount_95d88 9 = .ok (.lstore_n 0, 1) := by decide +kernel
theorem dJ13_bitCount_95d88_10 : decode cJ13_bitCount_95d88 10 = .ok (.lload_n 0, 1) := by decide +kernel
theorem dJ13_bitCount_95d88_11 : decode cJ13_bitCount_95d88 11 = .ok (.ldc2_w 316, 3) := by decide +kernel
theorem dJ13_bitCount_95d88_14 : decode cJ13_bitCount_95d88 14 = .ok (.land, 1) := by decide +kernel
theorem dJ13_bitCount_95d88_15 : decode cJ13_bitCount_95d88 15 = .ok (.lload_n 0, 1) := by decide +kernel
theorem dJ13_bitCount_95d88_16 : decode cJ13_bitCount_95d88 16 = .ok (.iconst 2, 1) := by decide +kernel
theorem dJ13_bitCount_95d88_17 : decode cJ13_bitCount_95d88 17 = .ok (.lushr, 1) := by decide +kernel
theorem dJ13_bitCount_95d88_18 : decode cJ13_bitCount_95d88 18 = .ok (.ldc2_w 316, 3) := by decide +kernel
theorem dJ13_bitCount_95d88_21 : decode cJ13_bitCount_95d88 21 = .ok (.land, 1) := by decide +kernel
theorem dJ13_bitCount_95d88_22 : decode cJ13_bitCount_95d88 22 = .ok (.ladd, 1) := by decide +kernel
theorem dJ13_bitCount_95d88_23 : decode cJ13_bitCount_95d88 23 = .ok (.lstore_n 0, 1) := by decide +kernel
theorem dJ13_bitCount_95d88_24 : decode cJ13_bitCount_95d88 24 = .ok (.lload_n 0, 1) := by decide +kernel
theorem dJ13_bitCount_95d88_25 : decode cJ13_bitCount_95d88 25 = .ok (.lload_n 0, 1) := by decide +kernel
theorem dJ13_bitCount_95d88_26 : decode cJ13_bitCount_95d88 26 = .ok (.iconst 4, 1) := by decide +kernel
theorem dJ13_bitCount_95d88_27 : decode cJ13_bitCount_95d88 27 = .ok (.lushr, 1) := by decide +kernel
theorem dJ13_bitCount_95d88_28 : decode cJ13_bitCount_95d88 28 = .ok (.ladd, 1) := by decide +kernel
theorem dJ13_bitCount_95d88_29 : decode cJ13_bitCount_95d88 29 = .ok (.ldc2_w 318, 3) := by decide +kernel
theorem dJ13_bitCount_95d88_32 : decode cJ13_bitCount_95d88 32 = .ok (.land, 1) := by decide +kernel
theorem dJ13_bitCount_95d88_33 : decode cJ13_bitCount_95d88 33 = .ok (.lstore_n 0, 1) := by decide +kernel
theorem dJ13_bitCount_95d88_34 : decode cJ13_bitCount_95d88 34 = .ok (.lload_n 0, 1) := by decide +kernel
theorem dJ13_bitCount_95d88_35 : decode cJ13_bitCount_95d88 35 = .ok (.lload_n 0, 1) := by decide +kernel
theorem dJ13_bitCount_95d88_36 : decode cJ13_bitCount_95d88 36 = .ok (.bipush 8, 2) := by decide +kernel
theorem dJ13_bitCount_95d88_38 : decode cJ13_bitCount_95d88 38 = .ok (.lushr, 1) := by decide +kernel
theorem dJ13_bitCount_95d88_39 : decode cJ13_bitCount_95d88 39 = .ok (.ladd, 1) := by decide +kernel
theorem dJ13_bitCount_95d88_40 : decode cJ13_bitCount_95d88 40 = .ok (.lstore_n 0, 1) := by decide +kernel
theorem dJ13_bitCount_95d88_41 : decode cJ13_bitCount_95d88 41 = .ok (.lload_n 0, 1) := by decide +kernel
theorem dJ13_bitCount_95d88_42 : decode cJ13_bitCount_95d88 42 = .ok (.lload_n 0, 1) := by decide +kernel
theorem dJ13_bitCount_95d88_43 : decode cJ13_bitCount_95d88 43 = .ok (.bipush 16, 2) := by decide +kernel
theorem dJ13_bitCount_95d88_45 : decode cJ13_bitCount_95d88 45 = .ok (.lushr, 1) := by decide +kernel
theorem dJ13_bitCount_95d88_46 : decode cJ13_bitCount_95d88 46 = .ok (.ladd, 1) := by decide +kernel
theorem dJ13_bitCount_95d88_47 : decode cJ13_bitCount_95d88 47 = .ok (.lstore_n 0, 1) := by decide +kernel
theorem dJ13_bitCount_95d88_48 : decode cJ13_bitCount_95d88 48 = .ok (.lload_n 0, 1) := by decide +kernel
theorem dJ13_bitCount_95d88_49 : decode cJ13_bitCount_95d88 49 = .ok (.lload_n 0, 1) := by decide +kernel
theorem dJ13_bitCount_95d88_50 : decode cJ13_bitCount_95d88 50 = .ok (.bipush 32, 2) := by decide +kernel
theorem dJ13_bitCount_95d88_52 : decode cJ13_bitCount_95d88 52 = .ok (.lushr, 1) := by decide +kernel
theorem dJ13_bitCount_95d88_53 : decode cJ13_bitCount_95d88 53 = .ok (.ladd, 1) := by decide +kernel
theorem dJ13_bitCount_95d88_54 : decode cJ13_bitCount_95d88 54 = .ok (.lstore_n 0, 1) := by decide +kernel
theorem dJ13_bitCount_95d88_55 : decode cJ13_bitCount_95d88 55 = .ok (.lload_n 0, 1) := by decide +kernel
theorem dJ13_bitCount_95d88_56 : decode cJ13_bitCount_95d88 56 = .ok (.l2i, 1) := by decide +kernel
theorem dJ13_bitCount_95d88_57 : decode cJ13_bitCount_95d88 57 = .ok (.bipush 127, 2) := by decide +kernel
theorem dJ13_bitCount_95d88_59 : decode cJ13_bitCount_95d88 59 = .ok (.iand, 1) := by decide +kernel
theorem dJ13_bitCount_95d88_60 : decode cJ13_bitCount_95d88 60 = .ok (.ireturn, 1) := by decide +kernel
theorem dJ9_floorDiv_f86c9_0 : decode cJ9_floorDiv_f86c9 0 = .ok (.lload_n 0, 1) := by decide +kernel
theorem dJ9_floorDiv_f86c9_1 : decode cJ9_floorDiv_f86c9 1 = .ok (.lload_n 2, 1) := by decide +kernel
theorem dJ9_floorDiv_f86c9_2 : decode cJ9_floorDiv_f86c9 2 = .ok (.ldiv, 1) := by decide +kernel
theorem dJ9_floorDiv_f86c9_3 : decode cJ9_floorDiv_f86c9 3 = .ok (.lstore 4, 2) := by decide +kernel
theorem dJ9_floorDiv_f86c9_5 : decode cJ9_floorDiv_f86c9 5 = .ok (.lload_n 0, 1) := by decide +kernel
theorem dJ9_floorDiv_f86c9_6 : decode cJ9_floorDiv_f86c9 6 = .ok (.lload_n 2, 1) := by decide +kernel
theorem dJ9_floorDiv_f86c9_7 : decode cJ9_floorDiv_f86c9 7 = .ok (.lxor, 1) := by decide +kernel
theorem dJ9_floorDiv_f86c9_8 : decode cJ9_floorDiv_f86c9 8 = .ok (.lconst 0, 1) := by decide +kernel
theorem dJ9_floorDiv_f86c9_9 : decode cJ9_floorDiv_f86c9 9 = .ok (.lcmp, 1) := by decide +kernel
theorem dJ9_floorDiv_f86c9_10 : decode cJ9_floorDiv_f86c9 10 = .ok (.ifCond .ge 17, 3) := by decide +kernel
theorem dJ9_floorDiv_f86c9_13 : decode cJ9_floorDiv_f86c9 13 = .ok (.lload 4, 2) := by decide +kernel
theorem dJ9_floorDiv_f86c9_15 : decode cJ9_floorDiv_f86c9 15 = .ok (.lload_n 2, 1) := by decide +kernel
theorem dJ9_floorDiv_f86c9_16 : decode cJ9_floorDiv_f86c9 16 = .ok (.lmul, 1) := by decide +kernel
theorem dJ9_floorDiv_f86c9_17 : decode cJ9_floorDiv_f86c9 17 = .ok (.lload_n 0, 1) := by decide +kernel
theorem dJ9_floorDiv_f86c9_18 : decode cJ9_floorDiv_f86c9 18 = .ok (.lcmp, 1) := by decide +kernel
theorem dJ9_floorDiv_f86c9_19 : decode cJ9_floorDiv_f86c9 19 = .ok (.ifCond .eq 8, 3) := by decide +kernel
theorem dJ9_floorDiv_f86c9_22 : decode cJ9_floorDiv_f86c9 22 = .ok (.lload 4, 2) := by decide +kernel
theorem dJ9_floorDiv_f86c9_24 : decode cJ9_floorDiv_f86c9 24 = .ok (.lconst 1, 1) := by decide +kernel
theorem dJ9_floorDiv_f86c9_25 : decode cJ9_floorDiv_f86c9 25 = .ok (.lsub, 1) := by decide +kernel
theorem dJ9_floorDiv_f86c9_26 : decode cJ9_floorDiv_f86c9 26 = .ok (.lreturn, 1) := by decide +kernel
theorem dJ9_floorDiv_f86c9_27 : decode cJ9_floorDiv_f86c9 27 = .ok (.lload 4, 2) := by decide +kernel
theorem dJ9_floorDiv_f86c9_29 : decode cJ9_floorDiv_f86c9 29 = .ok (.lreturn, 1) := by decide +kernel
theorem dJ9_max_f86c9_0 : decode cJ9_max_f86c9 0 = .ok (.lload_n 0, 1) := by decide +kernel
theorem dJ9_max_f86c9_1 : decode cJ9_max_f86c9 1 = .ok (.lload_n 2, 1) := by decide +kernel
theorem dJ9_max_f86c9_2 : decode cJ9_max_f86c9 2 = .ok (.lcmp, 1) := by decide +kernel
theorem dJ9_max_f86c9_3 : decode cJ9_max_f86c9 3 = .ok (.ifCond .lt 7, 3) := by decide +kernel
theorem dJ9_max_f86c9_6 : decode cJ9_max_f86c9 6 = .ok (.lload_n 0, 1) := by decide +kernel
theorem dJ9_max_f86c9_7 : decode cJ9_max_f86c9 7 = .ok (.goto 4, 3) := by decide +kernel
theorem dJ9_max_f86c9_10 : decode cJ9_max_f86c9 10 = .ok (.lload_n 2, 1) := by decide +kernel
theorem dJ9_max_f86c9_11 : decode cJ9_max_f86c9 11 = .ok (.lreturn, 1) := by decide +kernel
theorem dJ9_min_f86c9_0 : decode cJ9_min_f86c9 0 = .ok (.lload_n 0, 1) := by decide +kernel
theorem dJ9_min_f86c9_1 : decode cJ9_min_f86c9 1 = .ok (.lload_n 2, 1) := by decide +kernel
theorem dJ9_min_f86c9_2 : decode cJ9_min_f86c9 2 = .ok (.lcmp, 1) := by decide +kernel
theorem dJ9_min_f86c9_3 : decode cJ9_min_f86c9 3 = .ok (.ifCond .gt 7, 3) := by decide +kernel
theorem dJ9_min_f86c9_6 : decode cJ9_min_f86c9 6 = .ok (.lload_n 0, 1) := by decide +kernel
theorem dJ9_min_f86c9_7 : decode cJ9_min_f86c9 7 = .ok (.goto 4, 3) := by decide +kernel
theorem dJ9_min_f86c9_10 : decode cJ9_min_f86c9 10 = .ok (.lload_n 2, 1) := by decide +kernel
theorem dJ9_min_f86c9_11 : decode cJ9_min_f86c9 11 = .ok (.lreturn, 1) := by decide +kernel
theorem dL_cost_0 : decode cL_cost 0 = .ok (.aload_n 2, 1) := by decide +kernel
theorem dL_cost_1 : decode cL_cost 1 = .ok (.iconst 0, 1) := by decide +kernel
theorem dL_cost_2 : decode cL_cost 2 = .ok (.aload_n 0, 1) := by decide +kernel
theorem dL_cost_3 : decode cL_cost 3 = .ok (.iload_n 1, 1) := by decide +kernel
theorem dL_cost_4 : decode cL_cost 4 = .ok (.invokevirtual 7, 3) := by decide +kernel
theorem dL_cost_7 : decode cL_cost 7 = .ok (.lastore, 1) := by decide +kernel
theorem dL_cost_8 : decode cL_cost 8 = .ok (.goto 6, 3) := by decide +kernel
theorem dL_cost_11 : decode cL_cost 11 = .ok (.astore_n 3, 1) := by decide +kernel
theorem dL_cost_12 : decode cL_cost 12 = .ok (.iconst 1, 1) := by decide +kernel
theorem dL_cost_13 : decode cL_cost 13 = .ok (.ireturn, 1) := by decide +kernel
theorem dL_cost_14 : decode cL_cost 14 = .ok (.iconst 0, 1) := by decide +kernel
theorem dL_cost_15 : decode cL_cost 15 = .ok (.ireturn, 1) := by decide +kernel
theorem dL_row_0 : decode cL_row 0 = .ok (.aload_n 3, 1) := by decide +kernel
theorem dL_row_1 : decode cL_row 1 = .ok (.iconst 0, 1) := by decide +kernel
theorem dL_row_2 : decode cL_row 2 = .ok (.aload_n 0, 1) := by decide +kernel
theorem dL_row_3 : decode cL_row 3 = .ok (.iload_n 1, 1) := by decide +kernel
theorem dL_row_4 : decode cL_row 4 = .ok (.iload_n 2, 1) := by decide +kernel
theorem dL_row_5 : decode cL_row 5 = .ok (.invokevirtual 15, 3) := by decide +kernel
theorem dL_row_8 : decode cL_row 8 = .ok (.lastore, 1) := by decide +kernel
theorem dL_row_9 : decode cL_row 9 = .ok (.goto 7, 3) := by decide +kernel
theorem dL_row_12 : decode cL_row 12 = .ok (.astore 4, 2) := by decide +kernel
theorem dL_row_14 : decode cL_row 14 = .ok (.iconst 1, 1) := by decide +kernel
theorem dL_row_15 : decode cL_row 15 = .ok (.ireturn, 1) := by decide +kernel
theorem dL_row_16 : decode cL_row 16 = .ok (.iconst 0, 1) := by decide +kernel
theorem dL_row_17 : decode cL_row 17 = .ok (.ireturn, 1) := by decide +kernel
theorem dL_assumes_0 : decode cL_assumes 0 = .ok (.aload_n 3, 1) := by decide +kernel
theorem dL_assumes_1 : decode cL_assumes 1 = .ok (.iconst 0, 1) := by decide +kernel
theorem dL_assumes_2 : decode cL_assumes 2 = .ok (.aload_n 0, 1) := by decide +kernel
theorem dL_assumes_3 : decode cL_assumes 3 = .ok (.iload_n 1, 1) := by decide +kernel
theorem dL_assumes_4 : decode cL_assumes 4 = .ok (.iload_n 2, 1) := by decide +kernel
theorem dL_assumes_5 : decode cL_assumes 5 = .ok (.invokevirtual 19, 3) := by decide +kernel
theorem dL_assumes_8 : decode cL_assumes 8 = .ok (.i2l, 1) := by decide +kernel
theorem dL_assumes_9 : decode cL_assumes 9 = .ok (.lastore, 1) := by decide +kernel
theorem dL_assumes_10 : decode cL_assumes 10 = .ok (.goto 7, 3) := by decide +kernel
theorem dL_assumes_13 : decode cL_assumes 13 = .ok (.astore 4, 2) := by decide +kernel
theorem dL_assumes_15 : decode cL_assumes 15 = .ok (.iconst 1, 1) := by decide +kernel
theorem dL_assumes_16 : decode cL_assumes 16 = .ok (.ireturn, 1) := by decide +kernel
theorem dL_assumes_17 : decode cL_assumes 17 = .ok (.iconst 0, 1) := by decide +kernel
theorem dL_assumes_18 : decode cL_assumes 18 = .ok (.ireturn, 1) := by decide +kernel
theorem dL_holds_0 : decode cL_holds 0 = .ok (.aload_n 3, 1) := by decide +kernel
theorem dL_holds_1 : decode cL_holds 1 = .ok (.iconst 0, 1) := by decide +kernel
theorem dL_holds_2 : decode cL_holds 2 = .ok (.aload_n 0, 1) := by decide +kernel
theorem dL_holds_3 : decode cL_holds 3 = .ok (.iload_n 1, 1) := by decide +kernel
theorem dL_holds_4 : decode cL_holds 4 = .ok (.iload_n 2, 1) := by decide +kernel
theorem dL_holds_5 : decode cL_holds 5 = .ok (.invokevirtual 23, 3) := by decide +kernel
theorem dL_holds_8 : decode cL_holds 8 = .ok (.i2l, 1) := by decide +kernel
theorem dL_holds_9 : decode cL_holds 9 = .ok (.lastore, 1) := by decide +kernel
theorem dL_holds_10 : decode cL_holds 10 = .ok (.goto 7, 3) := by decide +kernel
theorem dL_holds_13 : decode cL_holds 13 = .ok (.astore 4, 2) := by decide +kernel
theorem dL_holds_15 : decode cL_holds 15 = .ok (.iconst 1, 1) := by decide +kernel
theorem dL_holds_16 : decode cL_holds 16 = .ok (.ireturn, 1) := by decide +kernel
theorem dL_holds_17 : decode cL_holds 17 = .ok (.iconst 0, 1) := by decide +kernel
theorem dL_holds_18 : decode cL_holds 18 = .ok (.ireturn, 1) := by decide +kernel
theorem dL_best_0 : decode cL_best 0 = .ok (.aload_n 1, 1) := by decide +kernel
theorem dL_best_1 : decode cL_best 1 = .ok (.iconst 0, 1) := by decide +kernel
theorem dL_best_2 : decode cL_best 2 = .ok (.aload_n 0, 1) := by decide +kernel
theorem dL_best_3 : decode cL_best 3 = .ok (.invokevirtual 26, 3) := by decide +kernel
theorem dL_best_6 : decode cL_best 6 = .ok (.lastore, 1) := by decide +kernel
theorem dL_best_7 : decode cL_best 7 = .ok (.goto 6, 3) := by decide +kernel
theorem dL_best_10 : decode cL_best 10 = .ok (.astore_n 2, 1) := by decide +kernel
theorem dL_best_11 : decode cL_best 11 = .ok (.iconst 1, 1) := by decide +kernel
theorem dL_best_12 : decode cL_best 12 = .ok (.ireturn, 1) := by decide +kernel
theorem dL_best_13 : decode cL_best 13 = .ok (.iconst 0, 1) := by decide +kernel
theorem dL_best_14 : decode cL_best 14 = .ok (.ireturn, 1) := by decide +kernel
theorem dL_least_0 : decode cL_least 0 = .ok (.aload_n 1, 1) := by decide +kernel
theorem dL_least_1 : decode cL_least 1 = .ok (.iconst 0, 1) := by decide +kernel
theorem dL_least_2 : decode cL_least 2 = .ok (.aload_n 0, 1) := by decide +kernel
theorem dL_least_3 : decode cL_least 3 = .ok (.invokevirtual 32, 3) := by decide +kernel
theorem dL_least_6 : decode cL_least 6 = .ok (.lastore, 1) := by decide +kernel
theorem dL_least_7 : decode cL_least 7 = .ok (.goto 6, 3) := by decide +kernel
theorem dL_least_10 : decode cL_least 10 = .ok (.astore_n 2, 1) := by decide +kernel
theorem dL_least_11 : decode cL_least 11 = .ok (.iconst 1, 1) := by decide +kernel
theorem dL_least_12 : decode cL_least 12 = .ok (.ireturn, 1) := by decide +kernel
theorem dL_least_13 : decode cL_least 13 = .ok (.iconst 0, 1) := by decide +kernel
theorem dL_least_14 : decode cL_least 14 = .ok (.ireturn, 1) := by decide +kernel
theorem dL_trim_0 : decode cL_trim 0 = .ok (.aload_n 2, 1) := by decide +kernel
theorem dL_trim_1 : decode cL_trim 1 = .ok (.iconst 0, 1) := by decide +kernel
theorem dL_trim_2 : decode cL_trim 2 = .ok (.aload_n 0, 1) := by decide +kernel
theorem dL_trim_3 : decode cL_trim 3 = .ok (.iload_n 1, 1) := by decide +kernel
theorem dL_trim_4 : decode cL_trim 4 = .ok (.invokevirtual 35, 3) := by decide +kernel
theorem dL_trim_7 : decode cL_trim 7 = .ok (.i2l, 1) := by decide +kernel
theorem dL_trim_8 : decode cL_trim 8 = .ok (.lastore, 1) := by decide +kernel
theorem dL_trim_9 : decode cL_trim 9 = .ok (.goto 6, 3) := by decide +kernel
theorem dL_trim_12 : decode cL_trim 12 = .ok (.astore_n 3, 1) := by decide +kernel
theorem dL_trim_13 : decode cL_trim 13 = .ok (.iconst 1, 1) := by decide +kernel
theorem dL_trim_14 : decode cL_trim 14 = .ok (.ireturn, 1) := by decide +kernel
theorem dL_trim_15 : decode cL_trim 15 = .ok (.iconst 0, 1) := by decide +kernel
theorem dL_trim_16 : decode cL_trim 16 = .ok (.ireturn, 1) := by decide +kernel
theorem dL_number_0 : decode cL_number 0 = .ok (.aload_n 2, 1) := by decide +kernel
theorem dL_number_1 : decode cL_number 1 = .ok (.iconst 0, 1) := by decide +kernel
theorem dL_number_2 : decode cL_number 2 = .ok (.aload_n 0, 1) := by decide +kernel
theorem dL_number_3 : decode cL_number 3 = .ok (.iload_n 1, 1) := by decide +kernel
theorem dL_number_4 : decode cL_number 4 = .ok (.invokevirtual 39, 3) := by decide +kernel
theorem dL_number_7 : decode cL_number 7 = .ok (.i2l, 1) := by decide +kernel
theorem dL_number_8 : decode cL_number 8 = .ok (.lastore, 1) := by decide +kernel
theorem dL_number_9 : decode cL_number 9 = .ok (.goto 6, 3) := by decide +kernel
theorem dL_number_12 : decode cL_number 12 = .ok (.astore_n 3, 1) := by decide +kernel
theorem dL_number_13 : decode cL_number 13 = .ok (.iconst 1, 1) := by decide +kernel
theorem dL_number_14 : decode cL_number 14 = .ok (.ireturn, 1) := by decide +kernel
theorem dL_number_15 : decode cL_number 15 = .ok (.iconst 0, 1) := by decide +kernel
theorem dL_number_16 : decode cL_number 16 = .ok (.ireturn, 1) := by decide +kernel
theorem dL_law_0 : decode cL_law 0 = .ok (.new 8, 3) := by decide +kernel
theorem dL_law_3 : decode cL_law 3 = .ok (.dup, 1) := by decide +kernel
theorem dL_law_4 : decode cL_law 4 = .ok (.invokespecial 42, 3) := by decide +kernel
theorem dL_law_7 : decode cL_law 7 = .ok (.astore_n 1, 1) := by decide +kernel
theorem dL_law_8 : decode cL_law 8 = .ok (.new 43, 3) := by decide +kernel
theorem dL_law_11 : decode cL_law 11 = .ok (.dup, 1) := by decide +kernel
theorem dL_law_12 : decode cL_law 12 = .ok (.invokespecial 45, 3) := by decide +kernel
theorem dL_law_15 : decode cL_law 15 = .ok (.astore_n 2, 1) := by decide +kernel
theorem dL_law_16 : decode cL_law 16 = .ok (.iconst 1, 1) := by decide +kernel
theorem dL_law_17 : decode cL_law 17 = .ok (.newarray .long, 2) := by decide +kernel
theorem dL_law_19 : decode cL_law 19 = .ok (.astore_n 3, 1) := by decide +kernel
theorem dL_law_20 : decode cL_law 20 = .ok (.iconst 0, 1) := by decide +kernel
theorem dL_law_21 : decode cL_law 21 = .ok (.istore 4, 2) := by decide +kernel
theorem dL_law_23 : decode cL_law 23 = .ok (.iload 4, 2) := by decide +kernel
theorem dL_law_25 : decode cL_law 25 = .ok (.aload_n 0, 1) := by decide +kernel
theorem dL_law_26 : decode cL_law 26 = .ok (.arraylength, 1) := by decide +kernel
theorem dL_law_27 : decode cL_law 27 = .ok (.bipush 6, 2) := by decide +kernel
theorem dL_law_29 : decode cL_law 29 = .ok (.isub, 1) := by decide +kernel
theorem dL_law_30 : decode cL_law 30 = .ok (.if_icmp .gt 803, 3) := by decide +kernel
theorem dL_law_33 : decode cL_law 33 = .ok (.aload_n 0, 1) := by decide +kernel
theorem dL_law_34 : decode cL_law 34 = .ok (.iload 4, 2) := by decide +kernel
theorem dL_law_36 : decode cL_law 36 = .ok (.iaload, 1) := by decide +kernel
theorem dL_law_37 : decode cL_law 37 = .ok (.bipush 31, 2) := by decide +kernel
theorem dL_law_39 : decode cL_law 39 = .ok (.iand, 1) := by decide +kernel
theorem dL_law_40 : decode cL_law 40 = .ok (.tableswitch 787 0 18 #[92, 165, 178, 191, 204, 229, 284, 297, 310, 323, 348, 415, 483, 551, 564, 607, 650, 706, 762], 92) := by decide +kernel
theorem dL_law_132 : decode cL_law 132 = .ok (.aload_n 1, 1) := by decide +kernel
theorem dL_law_133 : decode cL_law 133 = .ok (.aload_n 0, 1) := by decide +kernel
theorem dL_law_134 : decode cL_law 134 = .ok (.iload 4, 2) := by decide +kernel
theorem dL_law_136 : decode cL_law 136 = .ok (.iconst 1, 1) := by decide +kernel
theorem dL_law_137 : decode cL_law 137 = .ok (.iadd, 1) := by decide +kernel
theorem dL_law_138 : decode cL_law 138 = .ok (.iaload, 1) := by decide +kernel
theorem dL_law_139 : decode cL_law 139 = .ok (.aload_n 0, 1) := by decide +kernel
theorem dL_law_140 : decode cL_law 140 = .ok (.iload 4, 2) := by decide +kernel
theorem dL_law_142 : decode cL_law 142 = .ok (.iconst 2, 1) := by decide +kernel
theorem dL_law_143 : decode cL_law 143 = .ok (.iadd, 1) := by decide +kernel
theorem dL_law_144 : decode cL_law 144 = .ok (.iaload, 1) := by decide +kernel
theorem dL_law_145 : decode cL_law 145 = .ok (.aload_n 0, 1) := by decide +kernel
theorem dL_law_146 : decode cL_law 146 = .ok (.iload 4, 2) := by decide +kernel
theorem dL_law_148 : decode cL_law 148 = .ok (.iconst 3, 1) := by decide +kernel
theorem dL_law_149 : decode cL_law 149 = .ok (.iadd, 1) := by decide +kernel
theorem dL_law_150 : decode cL_law 150 = .ok (.iaload, 1) := by decide +kernel
theorem dL_law_151 : decode cL_law 151 = .ok (.aload_n 0, 1) := by decide +kernel
theorem dL_law_152 : decode cL_law 152 = .ok (.iload 4, 2) := by decide +kernel
theorem dL_law_154 : decode cL_law 154 = .ok (.iconst 4, 1) := by decide +kernel
theorem dL_law_155 : decode cL_law 155 = .ok (.iadd, 1) := by decide +kernel
theorem dL_law_156 : decode cL_law 156 = .ok (.iaload, 1) := by decide +kernel
theorem dL_law_157 : decode cL_law 157 = .ok (.aload_n 0, 1) := by decide +kernel
theorem dL_law_158 : decode cL_law 158 = .ok (.iload 4, 2) := by decide +kernel
theorem dL_law_160 : decode cL_law 160 = .ok (.iconst 5, 1) := by decide +kernel
theorem dL_law_161 : decode cL_law 161 = .ok (.iadd, 1) := by decide +kernel
theorem dL_law_162 : decode cL_law 162 = .ok (.iaload, 1) := by decide +kernel
theorem dL_law_163 : decode cL_law 163 = .ok (.invokevirtual 46, 3) := by decide +kernel
theorem dL_law_166 : decode cL_law 166 = .ok (.aload_n 2, 1) := by decide +kernel
theorem dL_law_167 : decode cL_law 167 = .ok (.aload_n 0, 1) := by decide +kernel
theorem dL_law_168 : decode cL_law 168 = .ok (.iload 4, 2) := by decide +kernel
theorem dL_law_170 : decode cL_law 170 = .ok (.iconst 1, 1) := by decide +kernel
theorem dL_law_171 : decode cL_law 171 = .ok (.iadd, 1) := by decide +kernel
theorem dL_law_172 : decode cL_law 172 = .ok (.iaload, 1) := by decide +kernel
theorem dL_law_173 : decode cL_law 173 = .ok (.aload_n 0, 1) := by decide +kernel
theorem dL_law_174 : decode cL_law 174 = .ok (.iload 4, 2) := by decide +kernel
theorem dL_law_176 : decode cL_law 176 = .ok (.iconst 2, 1) := by decide +kernel
theorem dL_law_177 : decode cL_law 177 = .ok (.iadd, 1) := by decide +kernel
theorem dL_law_178 : decode cL_law 178 = .ok (.iaload, 1) := by decide +kernel
theorem dL_law_179 : decode cL_law 179 = .ok (.aload_n 0, 1) := by decide +kernel
theorem dL_law_180 : decode cL_law 180 = .ok (.iload 4, 2) := by decide +kernel
theorem dL_law_182 : decode cL_law 182 = .ok (.iconst 3, 1) := by decide +kernel
theorem dL_law_183 : decode cL_law 183 = .ok (.iadd, 1) := by decide +kernel
theorem dL_law_184 : decode cL_law 184 = .ok (.iaload, 1) := by decide +kernel
theorem dL_law_185 : decode cL_law 185 = .ok (.aload_n 0, 1) := by decide +kernel
theorem dL_law_186 : decode cL_law 186 = .ok (.iload 4, 2) := by decide +kernel
theorem dL_law_188 : decode cL_law 188 = .ok (.iconst 4, 1) := by decide +kernel
theorem dL_law_189 : decode cL_law 189 = .ok (.iadd, 1) := by decide +kernel
theorem dL_law_190 : decode cL_law 190 = .ok (.iaload, 1) := by decide +kernel
theorem dL_law_191 : decode cL_law 191 = .ok (.aload_n 0, 1) := by decide +kernel
theorem dL_law_192 : decode cL_law 192 = .ok (.iload 4, 2) := by decide +kernel
theorem dL_law_194 : decode cL_law 194 = .ok (.iconst 5, 1) := by decide +kernel
theorem dL_law_195 : decode cL_law 195 = .ok (.iadd, 1) := by decide +kernel
theorem dL_law_196 : decode cL_law 196 = .ok (.iaload, 1) := by decide +kernel
theorem dL_law_197 : decode cL_law 197 = .ok (.invokevirtual 50, 3) := by decide +kernel
theorem dL_law_200 : decode cL_law 200 = .ok (.if_icmp .eq 627, 3) := by decide +kernel
theorem dL_law_203 : decode cL_law 203 = .ok (.iconst 0, 1) := by decide +kernel
theorem dL_law_204 : decode cL_law 204 = .ok (.ireturn, 1) := by decide +kernel
theorem dL_law_205 : decode cL_law 205 = .ok (.aload_n 1, 1) := by decide +kernel
theorem dL_law_206 : decode cL_law 206 = .ok (.invokevirtual 51, 3) := by decide +kernel
theorem dL_law_209 : decode cL_law 209 = .ok (.aload_n 2, 1) := by decide +kernel
theorem dL_law_210 : decode cL_law 210 = .ok (.invokevirtual 55, 3) := by decide +kernel
theorem dL_law_213 : decode cL_law 213 = .ok (.if_icmp .eq 614, 3) := by decide +kernel
theorem dL_law_216 : decode cL_law 216 = .ok (.iconst 0, 1) := by decide +kernel
theorem dL_law_217 : decode cL_law 217 = .ok (.ireturn, 1) := by decide +kernel
theorem dL_law_218 : decode cL_law 218 = .ok (.aload_n 1, 1) := by decide +kernel
theorem dL_law_219 : decode cL_law 219 = .ok (.invokevirtual 56, 3) := by decide +kernel
theorem dL_law_222 : decode cL_law 222 = .ok (.aload_n 2, 1) := by decide +kernel
theorem dL_law_223 : decode cL_law 223 = .ok (.invokevirtual 59, 3) := by decide +kernel
theorem dL_law_226 : decode cL_law 226 = .ok (.if_icmp .eq 601, 3) := by decide +kernel
theorem dL_law_229 : decode cL_law 229 = .ok (.iconst 0, 1) := by decide +kernel
theorem dL_law_230 : decode cL_law 230 = .ok (.ireturn, 1) := by decide +kernel
theorem dL_law_231 : decode cL_law 231 = .ok (.aload_n 1, 1) := by decide +kernel
theorem dL_law_232 : decode cL_law 232 = .ok (.invokevirtual 60, 3) := by decide +kernel
theorem dL_law_235 : decode cL_law 235 = .ok (.aload_n 2, 1) := by decide +kernel
theorem dL_law_236 : decode cL_law 236 = .ok (.invokevirtual 63, 3) := by decide +kernel
theorem dL_law_239 : decode cL_law 239 = .ok (.if_icmp .eq 588, 3) := by decide +kernel
theorem dL_law_242 : decode cL_law 242 = .ok (.iconst 0, 1) := by decide +kernel
theorem dL_law_243 : decode cL_law 243 = .ok (.ireturn, 1) := by decide +kernel
theorem dL_law_244 : decode cL_law 244 = .ok (.aload_n 1, 1) := by decide +kernel
theorem dL_law_245 : decode cL_law 245 = .ok (.aload_n 0, 1) := by decide +kernel
theorem dL_law_246 : decode cL_law 246 = .ok (.iload 4, 2) := by decide +kernel
theorem dL_law_248 : decode cL_law 248 = .ok (.iconst 1, 1) := by decide +kernel
theorem dL_law_249 : decode cL_law 249 = .ok (.iadd, 1) := by decide +kernel
theorem dL_law_250 : decode cL_law 250 = .ok (.iaload, 1) := by decide +kernel
theorem dL_law_251 : decode cL_law 251 = .ok (.invokevirtual 64, 3) := by decide +kernel
theorem dL_law_254 : decode cL_law 254 = .ok (.aload_n 2, 1) := by decide +kernel
theorem dL_law_255 : decode cL_law 255 = .ok (.aload_n 0, 1) := by decide +kernel
theorem dL_law_256 : decode cL_law 256 = .ok (.iload 4, 2) := by decide +kernel
theorem dL_law_258 : decode cL_law 258 = .ok (.iconst 1, 1) := by decide +kernel
theorem dL_law_259 : decode cL_law 259 = .ok (.iadd, 1) := by decide +kernel
theorem dL_law_260 : decode cL_law 260 = .ok (.iaload, 1) := by decide +kernel
theorem dL_law_261 : decode cL_law 261 = .ok (.invokevirtual 67, 3) := by decide +kernel
theorem dL_law_264 : decode cL_law 264 = .ok (.if_icmp .eq 563, 3) := by decide +kernel
theorem dL_law_267 : decode cL_law 267 = .ok (.iconst 0, 1) := by decide +kernel
theorem dL_law_268 : decode cL_law 268 = .ok (.ireturn, 1) := by decide +kernel
theorem dL_law_269 : decode cL_law 269 = .ok (.aload_n 1, 1) := by decide +kernel
theorem dL_law_270 : decode cL_law 270 = .ok (.aload_n 0, 1) := by decide +kernel
theorem dL_law_271 : decode cL_law 271 = .ok (.iload 4, 2) := by decide +kernel
theorem dL_law_273 : decode cL_law 273 = .ok (.iconst 1, 1) := by decide +kernel
theorem dL_law_274 : decode cL_law 274 = .ok (.iadd, 1) := by decide +kernel
theorem dL_law_275 : decode cL_law 275 = .ok (.iaload, 1) := by decide +kernel
theorem dL_law_276 : decode cL_law 276 = .ok (.aload_n 3, 1) := by decide +kernel
theorem dL_law_277 : decode cL_law 277 = .ok (.invokestatic 68, 3) := by decide +kernel
theorem dL_law_280 : decode cL_law 280 = .ok (.istore 5, 2) := by decide +kernel
theorem dL_law_282 : decode cL_law 282 = .ok (.aload_n 2, 1) := by decide +kernel
theorem dL_law_283 : decode cL_law 283 = .ok (.aload_n 0, 1) := by decide +kernel
theorem dL_law_284 : decode cL_law 284 = .ok (.iload 4, 2) := by decide +kernel
theorem dL_law_286 : decode cL_law 286 = .ok (.iconst 1, 1) := by decide +kernel
theorem dL_law_287 : decode cL_law 287 = .ok (.iadd, 1) := by decide +kernel
theorem dL_law_288 : decode cL_law 288 = .ok (.iaload, 1) := by decide +kernel
theorem dL_law_289 : decode cL_law 289 = .ok (.invokevirtual 73, 3) := by decide +kernel
theorem dL_law_292 : decode cL_law 292 = .ok (.lstore 6, 2) := by decide +kernel
theorem dL_law_294 : decode cL_law 294 = .ok (.aload_n 2, 1) := by decide +kernel
theorem dL_law_295 : decode cL_law 295 = .ok (.invokevirtual 74, 3) := by decide +kernel
theorem dL_law_298 : decode cL_law 298 = .ok (.iload 5, 2) := by decide +kernel
theorem dL_law_300 : decode cL_law 300 = .ok (.if_icmp .eq 5, 3) := by decide +kernel
theorem dL_law_303 : decode cL_law 303 = .ok (.iconst 0, 1) := by decide +kernel
theorem dL_law_304 : decode cL_law 304 = .ok (.ireturn, 1) := by decide +kernel
theorem dL_law_305 : decode cL_law 305 = .ok (.iload 5, 2) := by decide +kernel
theorem dL_law_307 : decode cL_law 307 = .ok (.ifCond .ne 14, 3) := by decide +kernel
theorem dL_law_310 : decode cL_law 310 = .ok (.aload_n 3, 1) := by decide +kernel
theorem dL_law_311 : decode cL_law 311 = .ok (.iconst 0, 1) := by decide +kernel
theorem dL_law_312 : decode cL_law 312 = .ok (.laload, 1) := by decide +kernel
theorem dL_law_313 : decode cL_law 313 = .ok (.lload 6, 2) := by decide +kernel
theorem dL_law_315 : decode cL_law 315 = .ok (.lcmp, 1) := by decide +kernel
theorem dL_law_316 : decode cL_law 316 = .ok (.ifCond .eq 5, 3) := by decide +kernel
theorem dL_law_319 : decode cL_law 319 = .ok (.iconst 0, 1) := by decide +kernel
theorem dL_law_320 : decode cL_law 320 = .ok (.ireturn, 1) := by decide +kernel
theorem dL_law_321 : decode cL_law 321 = .ok (.goto 506, 3) := by decide +kernel
theorem dL_law_324 : decode cL_law 324 = .ok (.aload_n 1, 1) := by decide +kernel
theorem dL_law_325 : decode cL_law 325 = .ok (.invokevirtual 77, 3) := by decide +kernel
theorem dL_law_328 : decode cL_law 328 = .ok (.aload_n 2, 1) := by decide +kernel
theorem dL_law_329 : decode cL_law 329 = .ok (.invokevirtual 80, 3) := by decide +kernel
theorem dL_law_332 : decode cL_law 332 = .ok (.if_icmp .eq 495, 3) := by decide +kernel
theorem dL_law_335 : decode cL_law 335 = .ok (.iconst 0, 1) := by decide +kernel
theorem dL_law_336 : decode cL_law 336 = .ok (.ireturn, 1) := by decide +kernel
theorem dL_law_337 : decode cL_law 337 = .ok (.aload_n 1, 1) := by decide +kernel
theorem dL_law_338 : decode cL_law 338 = .ok (.invokevirtual 81, 3) := by decide +kernel
theorem dL_law_341 : decode cL_law 341 = .ok (.aload_n 2, 1) := by decide +kernel
theorem dL_law_342 : decode cL_law 342 = .ok (.invokevirtual 84, 3) := by decide +kernel
theorem dL_law_345 : decode cL_law 345 = .ok (.if_icmp .eq 482, 3) := by decide +kernel
theorem dL_law_348 : decode cL_law 348 = .ok (.iconst 0, 1) := by decide +kernel
theorem dL_law_349 : decode cL_law 349 = .ok (.ireturn, 1) := by decide +kernel
theorem dL_law_350 : decode cL_law 350 = .ok (.aload_n 1, 1) := by decide +kernel
theorem dL_law_351 : decode cL_law 351 = .ok (.invokevirtual 85, 3) := by decide +kernel
theorem dL_law_354 : decode cL_law 354 = .ok (.aload_n 2, 1) := by decide +kernel
theorem dL_law_355 : decode cL_law 355 = .ok (.invokevirtual 88, 3) := by decide +kernel
theorem dL_law_358 : decode cL_law 358 = .ok (.if_icmp .eq 469, 3) := by decide +kernel
theorem dL_law_361 : decode cL_law 361 = .ok (.iconst 0, 1) := by decide +kernel
theorem dL_law_362 : decode cL_law 362 = .ok (.ireturn, 1) := by decide +kernel
theorem dL_law_363 : decode cL_law 363 = .ok (.aload_n 1, 1) := by decide +kernel
theorem dL_law_364 : decode cL_law 364 = .ok (.aload_n 0, 1) := by decide +kernel
theorem dL_law_365 : decode cL_law 365 = .ok (.iload 4, 2) := by decide +kernel
theorem dL_law_367 : decode cL_law 367 = .ok (.iconst 1, 1) := by decide +kernel
theorem dL_law_368 : decode cL_law 368 = .ok (.iadd, 1) := by decide +kernel
theorem dL_law_369 : decode cL_law 369 = .ok (.iaload, 1) := by decide +kernel
theorem dL_law_370 : decode cL_law 370 = .ok (.invokevirtual 89, 3) := by decide +kernel
theorem dL_law_373 : decode cL_law 373 = .ok (.aload_n 2, 1) := by decide +kernel
theorem dL_law_374 : decode cL_law 374 = .ok (.aload_n 0, 1) := by decide +kernel
theorem dL_law_375 : decode cL_law 375 = .ok (.iload 4, 2) := by decide +kernel
theorem dL_law_377 : decode cL_law 377 = .ok (.iconst 1, 1) := by decide +kernel
theorem dL_law_378 : decode cL_law 378 = .ok (.iadd, 1) := by decide +kernel
theorem dL_law_379 : decode cL_law 379 = .ok (.iaload, 1) := by decide +kernel
theorem dL_law_380 : decode cL_law 380 = .ok (.invokevirtual 92, 3) := by decide +kernel
theorem dL_law_383 : decode cL_law 383 = .ok (.if_icmp .eq 444, 3) := by decide +kernel
theorem dL_law_386 : decode cL_law 386 = .ok (.iconst 0, 1) := by decide +kernel
theorem dL_law_387 : decode cL_law 387 = .ok (.ireturn, 1) := by decide +kernel
theorem dL_law_388 : decode cL_law 388 = .ok (.aload_n 1, 1) := by decide +kernel
theorem dL_law_389 : decode cL_law 389 = .ok (.aload_n 0, 1) := by decide +kernel
theorem dL_law_390 : decode cL_law 390 = .ok (.iload 4, 2) := by decide +kernel
theorem dL_law_392 : decode cL_law 392 = .ok (.iconst 1, 1) := by decide +kernel
theorem dL_law_393 : decode cL_law 393 = .ok (.iadd, 1) := by decide +kernel
theorem dL_law_394 : decode cL_law 394 = .ok (.iaload, 1) := by decide +kernel
theorem dL_law_395 : decode cL_law 395 = .ok (.aload_n 0, 1) := by decide +kernel
theorem dL_law_396 : decode cL_law 396 = .ok (.iload 4, 2) := by decide +kernel
theorem dL_law_398 : decode cL_law 398 = .ok (.iconst 2, 1) := by decide +kernel
theorem dL_law_399 : decode cL_law 399 = .ok (.iadd, 1) := by decide +kernel
theorem dL_law_400 : decode cL_law 400 = .ok (.iaload, 1) := by decide +kernel
theorem dL_law_401 : decode cL_law 401 = .ok (.aload_n 3, 1) := by decide +kernel
theorem dL_law_402 : decode cL_law 402 = .ok (.invokestatic 93, 3) := by decide +kernel
theorem dL_law_405 : decode cL_law 405 = .ok (.istore 5, 2) := by decide +kernel
theorem dL_law_407 : decode cL_law 407 = .ok (.aload_n 2, 1) := by decide +kernel
theorem dL_law_408 : decode cL_law 408 = .ok (.aload_n 0, 1) := by decide +kernel
theorem dL_law_409 : decode cL_law 409 = .ok (.iload 4, 2) := by decide +kernel
theorem dL_law_411 : decode cL_law 411 = .ok (.iconst 1, 1) := by decide +kernel
theorem dL_law_412 : decode cL_law 412 = .ok (.iadd, 1) := by decide +kernel
theorem dL_law_413 : decode cL_law 413 = .ok (.iaload, 1) := by decide +kernel
theorem dL_law_414 : decode cL_law 414 = .ok (.aload_n 0, 1) := by decide +kernel
theorem dL_law_415 : decode cL_law 415 = .ok (.iload 4, 2) := by decide +kernel
theorem dL_law_417 : decode cL_law 417 = .ok (.iconst 2, 1) := by decide +kernel
theorem dL_law_418 : decode cL_law 418 = .ok (.iadd, 1) := by decide +kernel
theorem dL_law_419 : decode cL_law 419 = .ok (.iaload, 1) := by decide +kernel
theorem dL_law_420 : decode cL_law 420 = .ok (.invokevirtual 96, 3) := by decide +kernel
theorem dL_law_423 : decode cL_law 423 = .ok (.lstore 6, 2) := by decide +kernel
theorem dL_law_425 : decode cL_law 425 = .ok (.aload_n 2, 1) := by decide +kernel
theorem dL_law_426 : decode cL_law 426 = .ok (.invokevirtual 74, 3) := by decide +kernel
theorem dL_law_429 : decode cL_law 429 = .ok (.iload 5, 2) := by decide +kernel
theorem dL_law_431 : decode cL_law 431 = .ok (.if_icmp .eq 5, 3) := by decide +kernel
theorem dL_law_434 : decode cL_law 434 = .ok (.iconst 0, 1) := by decide +kernel
theorem dL_law_435 : decode cL_law 435 = .ok (.ireturn, 1) := by decide +kernel
theorem dL_law_436 : decode cL_law 436 = .ok (.iload 5, 2) := by decide +kernel
theorem dL_law_438 : decode cL_law 438 = .ok (.ifCond .ne 14, 3) := by decide +kernel
theorem dL_law_441 : decode cL_law 441 = .ok (.aload_n 3, 1) := by decide +kernel
theorem dL_law_442 : decode cL_law 442 = .ok (.iconst 0, 1) := by decide +kernel
theorem dL_law_443 : decode cL_law 443 = .ok (.laload, 1) := by decide +kernel
theorem dL_law_444 : decode cL_law 444 = .ok (.lload 6, 2) := by decide +kernel
theorem dL_law_446 : decode cL_law 446 = .ok (.lcmp, 1) := by decide +kernel
theorem dL_law_447 : decode cL_law 447 = .ok (.ifCond .eq 5, 3) := by decide +kernel
theorem dL_law_450 : decode cL_law 450 = .ok (.iconst 0, 1) := by decide +kernel
theorem dL_law_451 : decode cL_law 451 = .ok (.ireturn, 1) := by decide +kernel
theorem dL_law_452 : decode cL_law 452 = .ok (.goto 375, 3) := by decide +kernel
theorem dL_law_455 : decode cL_law 455 = .ok (.aload_n 1, 1) := by decide +kernel
theorem dL_law_456 : decode cL_law 456 = .ok (.aload_n 0, 1) := by decide +kernel
theorem dL_law_457 : decode cL_law 457 = .ok (.iload 4, 2) := by decide +kernel
theorem dL_law_459 : decode cL_law 459 = .ok (.iconst 1, 1) := by decide +kernel
theorem dL_law_460 : decode cL_law 460 = .ok (.iadd, 1) := by decide +kernel
theorem dL_law_461 : decode cL_law 461 = .ok (.iaload, 1) := by decide +kernel
theorem dL_law_462 : decode cL_law 462 = .ok (.aload_n 0, 1) := by decide +kernel
theorem dL_law_463 : decode cL_law 463 = .ok (.iload 4, 2) := by decide +kernel
theorem dL_law_465 : decode cL_law 465 = .ok (.iconst 2, 1) := by decide +kernel
theorem dL_law_466 : decode cL_law 466 = .ok (.iadd, 1) := by decide +kernel
theorem dL_law_467 : decode cL_law 467 = .ok (.iaload, 1) := by decide +kernel
theorem dL_law_468 : decode cL_law 468 = .ok (.aload_n 3, 1) := by decide +kernel
theorem dL_law_469 : decode cL_law 469 = .ok (.invokestatic 97, 3) := by decide +kernel
theorem dL_law_472 : decode cL_law 472 = .ok (.istore 5, 2) := by decide +kernel
theorem dL_law_474 : decode cL_law 474 = .ok (.aload_n 2, 1) := by decide +kernel
theorem dL_law_475 : decode cL_law 475 = .ok (.aload_n 0, 1) := by decide +kernel
theorem dL_law_476 : decode cL_law 476 = .ok (.iload 4, 2) := by decide +kernel
theorem dL_law_478 : decode cL_law 478 = .ok (.iconst 1, 1) := by decide +kernel
theorem dL_law_479 : decode cL_law 479 = .ok (.iadd, 1) := by decide +kernel
theorem dL_law_480 : decode cL_law 480 = .ok (.iaload, 1) := by decide +kernel
theorem dL_law_481 : decode cL_law 481 = .ok (.aload_n 0, 1) := by decide +kernel
theorem dL_law_482 : decode cL_law 482 = .ok (.iload 4, 2) := by decide +kernel
theorem dL_law_484 : decode cL_law 484 = .ok (.iconst 2, 1) := by decide +kernel
theorem dL_law_485 : decode cL_law 485 = .ok (.iadd, 1) := by decide +kernel
theorem dL_law_486 : decode cL_law 486 = .ok (.iaload, 1) := by decide +kernel
theorem dL_law_487 : decode cL_law 487 = .ok (.invokevirtual 99, 3) := by decide +kernel
theorem dL_law_490 : decode cL_law 490 = .ok (.istore 6, 2) := by decide +kernel
theorem dL_law_492 : decode cL_law 492 = .ok (.aload_n 2, 1) := by decide +kernel
theorem dL_law_493 : decode cL_law 493 = .ok (.invokevirtual 74, 3) := by decide +kernel
theorem dL_law_496 : decode cL_law 496 = .ok (.iload 5, 2) := by decide +kernel
theorem dL_law_498 : decode cL_law 498 = .ok (.if_icmp .eq 5, 3) := by decide +kernel
theorem dL_law_501 : decode cL_law 501 = .ok (.iconst 0, 1) := by decide +kernel
theorem dL_law_502 : decode cL_law 502 = .ok (.ireturn, 1) := by decide +kernel
theorem dL_law_503 : decode cL_law 503 = .ok (.iload 5, 2) := by decide +kernel
theorem dL_law_505 : decode cL_law 505 = .ok (.ifCond .ne 15, 3) := by decide +kernel
theorem dL_law_508 : decode cL_law 508 = .ok (.aload_n 3, 1) := by decide +kernel
theorem dL_law_509 : decode cL_law 509 = .ok (.iconst 0, 1) := by decide +kernel
theorem dL_law_510 : decode cL_law 510 = .ok (.laload, 1) := by decide +kernel
theorem dL_law_511 : decode cL_law 511 = .ok (.iload 6, 2) := by decide +kernel
theorem dL_law_513 : decode cL_law 513 = .ok (.i2l, 1) := by decide +kernel
theorem dL_law_514 : decode cL_law 514 = .ok (.lcmp, 1) := by decide +kernel
theorem dL_law_515 : decode cL_law 515 = .ok (.ifCond .eq 5, 3) := by decide +kernel
theorem dL_law_518 : decode cL_law 518 = .ok (.iconst 0, 1) := by decide +kernel
theorem dL_law_519 : decode cL_law 519 = .ok (.ireturn, 1) := by decide +kernel
theorem dL_law_520 : decode cL_law 520 = .ok (.goto 307, 3) := by decide +kernel
theorem dL_law_523 : decode cL_law 523 = .ok (.aload_n 1, 1) := by decide +kernel
theorem dL_law_524 : decode cL_law 524 = .ok (.aload_n 0, 1) := by decide +kernel
theorem dL_law_525 : decode cL_law 525 = .ok (.iload 4, 2) := by decide +kernel
theorem dL_law_527 : decode cL_law 527 = .ok (.iconst 1, 1) := by decide +kernel
theorem dL_law_528 : decode cL_law 528 = .ok (.iadd, 1) := by decide +kernel
theorem dL_law_529 : decode cL_law 529 = .ok (.iaload, 1) := by decide +kernel
theorem dL_law_530 : decode cL_law 530 = .ok (.aload_n 0, 1) := by decide +kernel
theorem dL_law_531 : decode cL_law 531 = .ok (.iload 4, 2) := by decide +kernel
theorem dL_law_533 : decode cL_law 533 = .ok (.iconst 2, 1) := by decide +kernel
theorem dL_law_534 : decode cL_law 534 = .ok (.iadd, 1) := by decide +kernel
theorem dL_law_535 : decode cL_law 535 = .ok (.iaload, 1) := by decide +kernel
theorem dL_law_536 : decode cL_law 536 = .ok (.aload_n 3, 1) := by decide +kernel
theorem dL_law_537 : decode cL_law 537 = .ok (.invokestatic 100, 3) := by decide +kernel
theorem dL_law_540 : decode cL_law 540 = .ok (.istore 5, 2) := by decide +kernel
theorem dL_law_542 : decode cL_law 542 = .ok (.aload_n 2, 1) := by decide +kernel
theorem dL_law_543 : decode cL_law 543 = .ok (.aload_n 0, 1) := by decide +kernel
theorem dL_law_544 : decode cL_law 544 = .ok (.iload 4, 2) := by decide +kernel
theorem dL_law_546 : decode cL_law 546 = .ok (.iconst 1, 1) := by decide +kernel
theorem dL_law_547 : decode cL_law 547 = .ok (.iadd, 1) := by decide +kernel
theorem dL_law_548 : decode cL_law 548 = .ok (.iaload, 1) := by decide +kernel
theorem dL_law_549 : decode cL_law 549 = .ok (.aload_n 0, 1) := by decide +kernel
theorem dL_law_550 : decode cL_law 550 = .ok (.iload 4, 2) := by decide +kernel
theorem dL_law_552 : decode cL_law 552 = .ok (.iconst 2, 1) := by decide +kernel
theorem dL_law_553 : decode cL_law 553 = .ok (.iadd, 1) := by decide +kernel
theorem dL_law_554 : decode cL_law 554 = .ok (.iaload, 1) := by decide +kernel
theorem dL_law_555 : decode cL_law 555 = .ok (.invokevirtual 102, 3) := by decide +kernel
theorem dL_law_558 : decode cL_law 558 = .ok (.istore 6, 2) := by decide +kernel
theorem dL_law_560 : decode cL_law 560 = .ok (.aload_n 2, 1) := by decide +kernel
theorem dL_law_561 : decode cL_law 561 = .ok (.invokevirtual 74, 3) := by decide +kernel
theorem dL_law_564 : decode cL_law 564 = .ok (.iload 5, 2) := by decide +kernel
theorem dL_law_566 : decode cL_law 566 = .ok (.if_icmp .eq 5, 3) := by decide +kernel
theorem dL_law_569 : decode cL_law 569 = .ok (.iconst 0, 1) := by decide +kernel
theorem dL_law_570 : decode cL_law 570 = .ok (.ireturn, 1) := by decide +kernel
theorem dL_law_571 : decode cL_law 571 = .ok (.iload 5, 2) := by decide +kernel
theorem dL_law_573 : decode cL_law 573 = .ok (.ifCond .ne 15, 3) := by decide +kernel
theorem dL_law_576 : decode cL_law 576 = .ok (.aload_n 3, 1) := by decide +kernel
theorem dL_law_577 : decode cL_law 577 = .ok (.iconst 0, 1) := by decide +kernel
theorem dL_law_578 : decode cL_law 578 = .ok (.laload, 1) := by decide +kernel
theorem dL_law_579 : decode cL_law 579 = .ok (.iload 6, 2) := by decide +kernel
theorem dL_law_581 : decode cL_law 581 = .ok (.i2l, 1) := by decide +kernel
theorem dL_law_582 : decode cL_law 582 = .ok (.lcmp, 1) := by decide +kernel
theorem dL_law_583 : decode cL_law 583 = .ok (.ifCond .eq 5, 3) := by decide +kernel
theorem dL_law_586 : decode cL_law 586 = .ok (.iconst 0, 1) := by decide +kernel
theorem dL_law_587 : decode cL_law 587 = .ok (.ireturn, 1) := by decide +kernel
theorem dL_law_588 : decode cL_law 588 = .ok (.goto 239, 3) := by decide +kernel
theorem dL_law_591 : decode cL_law 591 = .ok (.aload_n 1, 1) := by decide +kernel
theorem dL_law_592 : decode cL_law 592 = .ok (.invokevirtual 103, 3) := by decide +kernel
theorem dL_law_595 : decode cL_law 595 = .ok (.aload_n 2, 1) := by decide +kernel
theorem dL_law_596 : decode cL_law 596 = .ok (.invokevirtual 106, 3) := by decide +kernel
theorem dL_law_599 : decode cL_law 599 = .ok (.if_icmp .eq 228, 3) := by decide +kernel
theorem dL_law_602 : decode cL_law 602 = .ok (.iconst 0, 1) := by decide +kernel
theorem dL_law_603 : decode cL_law 603 = .ok (.ireturn, 1) := by decide +kernel
theorem dL_law_604 : decode cL_law 604 = .ok (.aload_n 1, 1) := by decide +kernel
theorem dL_law_605 : decode cL_law 605 = .ok (.aload_n 3, 1) := by decide +kernel
theorem dL_law_606 : decode cL_law 606 = .ok (.invokestatic 107, 3) := by decide +kernel
theorem dL_law_609 : decode cL_law 609 = .ok (.istore 5, 2) := by decide +kernel
theorem dL_law_611 : decode cL_law 611 = .ok (.aload_n 2, 1) := by decide +kernel
theorem dL_law_612 : decode cL_law 612 = .ok (.invokevirtual 110, 3) := by decide +kernel
theorem dL_law_615 : decode cL_law 615 = .ok (.lstore 6, 2) := by decide +kernel
theorem dL_law_617 : decode cL_law 617 = .ok (.aload_n 2, 1) := by decide +kernel
theorem dL_law_618 : decode cL_law 618 = .ok (.invokevirtual 74, 3) := by decide +kernel
theorem dL_law_621 : decode cL_law 621 = .ok (.iload 5, 2) := by decide +kernel
theorem dL_law_623 : decode cL_law 623 = .ok (.if_icmp .eq 5, 3) := by decide +kernel
theorem dL_law_626 : decode cL_law 626 = .ok (.iconst 0, 1) := by decide +kernel
theorem dL_law_627 : decode cL_law 627 = .ok (.ireturn, 1) := by decide +kernel
theorem dL_law_628 : decode cL_law 628 = .ok (.iload 5, 2) := by decide +kernel
theorem dL_law_630 : decode cL_law 630 = .ok (.ifCond .ne 14, 3) := by decide +kernel
theorem dL_law_633 : decode cL_law 633 = .ok (.aload_n 3, 1) := by decide +kernel
theorem dL_law_634 : decode cL_law 634 = .ok (.iconst 0, 1) := by decide +kernel
theorem dL_law_635 : decode cL_law 635 = .ok (.laload, 1) := by decide +kernel
theorem dL_law_636 : decode cL_law 636 = .ok (.lload 6, 2) := by decide +kernel
theorem dL_law_638 : decode cL_law 638 = .ok (.lcmp, 1) := by decide +kernel
theorem dL_law_639 : decode cL_law 639 = .ok (.ifCond .eq 5, 3) := by decide +kernel
theorem dL_law_642 : decode cL_law 642 = .ok (.iconst 0, 1) := by decide +kernel
theorem dL_law_643 : decode cL_law 643 = .ok (.ireturn, 1) := by decide +kernel
theorem dL_law_644 : decode cL_law 644 = .ok (.goto 183, 3) := by decide +kernel
theorem dL_law_647 : decode cL_law 647 = .ok (.aload_n 1, 1) := by decide +kernel
theorem dL_law_648 : decode cL_law 648 = .ok (.aload_n 3, 1) := by decide +kernel
theorem dL_law_649 : decode cL_law 649 = .ok (.invokestatic 111, 3) := by decide +kernel
theorem dL_law_652 : decode cL_law 652 = .ok (.istore 5, 2) := by decide +kernel
theorem dL_law_654 : decode cL_law 654 = .ok (.aload_n 2, 1) := by decide +kernel
theorem dL_law_655 : decode cL_law 655 = .ok (.invokevirtual 113, 3) := by decide +kernel
theorem dL_law_658 : decode cL_law 658 = .ok (.lstore 6, 2) := by decide +kernel
theorem dL_law_660 : decode cL_law 660 = .ok (.aload_n 2, 1) := by decide +kernel
theorem dL_law_661 : decode cL_law 661 = .ok (.invokevirtual 74, 3) := by decide +kernel
theorem dL_law_664 : decode cL_law 664 = .ok (.iload 5, 2) := by decide +kernel
theorem dL_law_666 : decode cL_law 666 = .ok (.if_icmp .eq 5, 3) := by decide +kernel
theorem dL_law_669 : decode cL_law 669 = .ok (.iconst 0, 1) := by decide +kernel
theorem dL_law_670 : decode cL_law 670 = .ok (.ireturn, 1) := by decide +kernel
theorem dL_law_671 : decode cL_law 671 = .ok (.iload 5, 2) := by decide +kernel
theorem dL_law_673 : decode cL_law 673 = .ok (.ifCond .ne 14, 3) := by decide +kernel
theorem dL_law_676 : decode cL_law 676 = .ok (.aload_n 3, 1) := by decide +kernel
theorem dL_law_677 : decode cL_law 677 = .ok (.iconst 0, 1) := by decide +kernel
theorem dL_law_678 : decode cL_law 678 = .ok (.laload, 1) := by decide +kernel
theorem dL_law_679 : decode cL_law 679 = .ok (.lload 6, 2) := by decide +kernel
theorem dL_law_681 : decode cL_law 681 = .ok (.lcmp, 1) := by decide +kernel
theorem dL_law_682 : decode cL_law 682 = .ok (.ifCond .eq 5, 3) := by decide +kernel
theorem dL_law_685 : decode cL_law 685 = .ok (.iconst 0, 1) := by decide +kernel
theorem dL_law_686 : decode cL_law 686 = .ok (.ireturn, 1) := by decide +kernel
theorem dL_law_687 : decode cL_law 687 = .ok (.goto 140, 3) := by decide +kernel
theorem dL_law_690 : decode cL_law 690 = .ok (.aload_n 1, 1) := by decide +kernel
theorem dL_law_691 : decode cL_law 691 = .ok (.aload_n 0, 1) := by decide +kernel
theorem dL_law_692 : decode cL_law 692 = .ok (.iload 4, 2) := by decide +kernel
theorem dL_law_694 : decode cL_law 694 = .ok (.iconst 1, 1) := by decide +kernel
theorem dL_law_695 : decode cL_law 695 = .ok (.iadd, 1) := by decide +kernel
theorem dL_law_696 : decode cL_law 696 = .ok (.iaload, 1) := by decide +kernel
theorem dL_law_697 : decode cL_law 697 = .ok (.aload_n 3, 1) := by decide +kernel
theorem dL_law_698 : decode cL_law 698 = .ok (.invokestatic 114, 3) := by decide +kernel
theorem dL_law_701 : decode cL_law 701 = .ok (.istore 5, 2) := by decide +kernel
theorem dL_law_703 : decode cL_law 703 = .ok (.aload_n 2, 1) := by decide +kernel
theorem dL_law_704 : decode cL_law 704 = .ok (.aload_n 0, 1) := by decide +kernel
theorem dL_law_705 : decode cL_law 705 = .ok (.iload 4, 2) := by decide +kernel
theorem dL_law_707 : decode cL_law 707 = .ok (.iconst 1, 1) := by decide +kernel
theorem dL_law_708 : decode cL_law 708 = .ok (.iadd, 1) := by decide +kernel
theorem dL_law_709 : decode cL_law 709 = .ok (.iaload, 1) := by decide +kernel
theorem dL_law_710 : decode cL_law 710 = .ok (.invokevirtual 116, 3) := by decide +kernel
theorem dL_law_713 : decode cL_law 713 = .ok (.istore 6, 2) := by decide +kernel
theorem dL_law_715 : decode cL_law 715 = .ok (.aload_n 2, 1) := by decide +kernel
theorem dL_law_716 : decode cL_law 716 = .ok (.invokevirtual 74, 3) := by decide +kernel
theorem dL_law_719 : decode cL_law 719 = .ok (.iload 5, 2) := by decide +kernel
theorem dL_law_721 : decode cL_law 721 = .ok (.if_icmp .eq 5, 3) := by decide +kernel
theorem dL_law_724 : decode cL_law 724 = .ok (.iconst 0, 1) := by decide +kernel
theorem dL_law_725 : decode cL_law 725 = .ok (.ireturn, 1) := by decide +kernel
theorem dL_law_726 : decode cL_law 726 = .ok (.iload 5, 2) := by decide +kernel
theorem dL_law_728 : decode cL_law 728 = .ok (.ifCond .ne 15, 3) := by decide +kernel
theorem dL_law_731 : decode cL_law 731 = .ok (.aload_n 3, 1) := by decide +kernel
theorem dL_law_732 : decode cL_law 732 = .ok (.iconst 0, 1) := by decide +kernel
theorem dL_law_733 : decode cL_law 733 = .ok (.laload, 1) := by decide +kernel
theorem dL_law_734 : decode cL_law 734 = .ok (.iload 6, 2) := by decide +kernel
theorem dL_law_736 : decode cL_law 736 = .ok (.i2l, 1) := by decide +kernel
theorem dL_law_737 : decode cL_law 737 = .ok (.lcmp, 1) := by decide +kernel
theorem dL_law_738 : decode cL_law 738 = .ok (.ifCond .eq 5, 3) := by decide +kernel
theorem dL_law_741 : decode cL_law 741 = .ok (.iconst 0, 1) := by decide +kernel
theorem dL_law_742 : decode cL_law 742 = .ok (.ireturn, 1) := by decide +kernel
theorem dL_law_743 : decode cL_law 743 = .ok (.goto 84, 3) := by decide +kernel
theorem dL_law_746 : decode cL_law 746 = .ok (.aload_n 1, 1) := by decide +kernel
theorem dL_law_747 : decode cL_law 747 = .ok (.aload_n 0, 1) := by decide +kernel
theorem dL_law_748 : decode cL_law 748 = .ok (.iload 4, 2) := by decide +kernel
theorem dL_law_750 : decode cL_law 750 = .ok (.iconst 1, 1) := by decide +kernel
theorem dL_law_751 : decode cL_law 751 = .ok (.iadd, 1) := by decide +kernel
theorem dL_law_752 : decode cL_law 752 = .ok (.iaload, 1) := by decide +kernel
theorem dL_law_753 : decode cL_law 753 = .ok (.aload_n 3, 1) := by decide +kernel
theorem dL_law_754 : decode cL_law 754 = .ok (.invokestatic 117, 3) := by decide +kernel
theorem dL_law_757 : decode cL_law 757 = .ok (.istore 5, 2) := by decide +kernel
theorem dL_law_759 : decode cL_law 759 = .ok (.aload_n 2, 1) := by decide +kernel
theorem dL_law_760 : decode cL_law 760 = .ok (.aload_n 0, 1) := by decide +kernel
theorem dL_law_761 : decode cL_law 761 = .ok (.iload 4, 2) := by decide +kernel
theorem dL_law_763 : decode cL_law 763 = .ok (.iconst 1, 1) := by decide +kernel
theorem dL_law_764 : decode cL_law 764 = .ok (.iadd, 1) := by decide +kernel
theorem dL_law_765 : decode cL_law 765 = .ok (.iaload, 1) := by decide +kernel
theorem dL_law_766 : decode cL_law 766 = .ok (.invokevirtual 119, 3) := by decide +kernel
theorem dL_law_769 : decode cL_law 769 = .ok (.istore 6, 2) := by decide +kernel
theorem dL_law_771 : decode cL_law 771 = .ok (.aload_n 2, 1) := by decide +kernel
theorem dL_law_772 : decode cL_law 772 = .ok (.invokevirtual 74, 3) := by decide +kernel
theorem dL_law_775 : decode cL_law 775 = .ok (.iload 5, 2) := by decide +kernel
theorem dL_law_777 : decode cL_law 777 = .ok (.if_icmp .eq 5, 3) := by decide +kernel
theorem dL_law_780 : decode cL_law 780 = .ok (.iconst 0, 1) := by decide +kernel
theorem dL_law_781 : decode cL_law 781 = .ok (.ireturn, 1) := by decide +kernel
theorem dL_law_782 : decode cL_law 782 = .ok (.iload 5, 2) := by decide +kernel
theorem dL_law_784 : decode cL_law 784 = .ok (.ifCond .ne 15, 3) := by decide +kernel
theorem dL_law_787 : decode cL_law 787 = .ok (.aload_n 3, 1) := by decide +kernel
theorem dL_law_788 : decode cL_law 788 = .ok (.iconst 0, 1) := by decide +kernel
theorem dL_law_789 : decode cL_law 789 = .ok (.laload, 1) := by decide +kernel
theorem dL_law_790 : decode cL_law 790 = .ok (.iload 6, 2) := by decide +kernel
theorem dL_law_792 : decode cL_law 792 = .ok (.i2l, 1) := by decide +kernel
theorem dL_law_793 : decode cL_law 793 = .ok (.lcmp, 1) := by decide +kernel
theorem dL_law_794 : decode cL_law 794 = .ok (.ifCond .eq 5, 3) := by decide +kernel
theorem dL_law_797 : decode cL_law 797 = .ok (.iconst 0, 1) := by decide +kernel
theorem dL_law_798 : decode cL_law 798 = .ok (.ireturn, 1) := by decide +kernel
theorem dL_law_799 : decode cL_law 799 = .ok (.goto 28, 3) := by decide +kernel
theorem dL_law_802 : decode cL_law 802 = .ok (.aload_n 1, 1) := by decide +kernel
theorem dL_law_803 : decode cL_law 803 = .ok (.aload_n 0, 1) := by decide +kernel
theorem dL_law_804 : decode cL_law 804 = .ok (.iload 4, 2) := by decide +kernel
theorem dL_law_806 : decode cL_law 806 = .ok (.iconst 1, 1) := by decide +kernel
theorem dL_law_807 : decode cL_law 807 = .ok (.iadd, 1) := by decide +kernel
theorem dL_law_808 : decode cL_law 808 = .ok (.iaload, 1) := by decide +kernel
theorem dL_law_809 : decode cL_law 809 = .ok (.invokevirtual 120, 3) := by decide +kernel
theorem dL_law_812 : decode cL_law 812 = .ok (.aload_n 2, 1) := by decide +kernel
theorem dL_law_813 : decode cL_law 813 = .ok (.aload_n 0, 1) := by decide +kernel
theorem dL_law_814 : decode cL_law 814 = .ok (.iload 4, 2) := by decide +kernel
theorem dL_law_816 : decode cL_law 816 = .ok (.iconst 1, 1) := by decide +kernel
theorem dL_law_817 : decode cL_law 817 = .ok (.iadd, 1) := by decide +kernel
theorem dL_law_818 : decode cL_law 818 = .ok (.iaload, 1) := by decide +kernel
theorem dL_law_819 : decode cL_law 819 = .ok (.invokevirtual 123, 3) := by decide +kernel
theorem dL_law_822 : decode cL_law 822 = .ok (.if_icmp .eq 5, 3) := by decide +kernel
theorem dL_law_825 : decode cL_law 825 = .ok (.iconst 0, 1) := by decide +kernel
theorem dL_law_826 : decode cL_law 826 = .ok (.ireturn, 1) := by decide +kernel
theorem dL_law_827 : decode cL_law 827 = .ok (.iinc 4 6, 3) := by decide +kernel
theorem dL_law_830 : decode cL_law 830 = .ok (.goto (-807), 3) := by decide +kernel
theorem dL_law_833 : decode cL_law 833 = .ok (.iconst 1, 1) := by decide +kernel
theorem dL_law_834 : decode cL_law 834 = .ok (.ireturn, 1) := by decide +kernel
end
section
theorem wi_L : Cond.initialized RL ∈ lw_tbl := List.mem_of_getElem? (i := 45) (by decide +kernel)
theorem wi_X8 : Cond.initialized RX8 ∈ lw_tbl := List.mem_of_getElem? (i := 46) (by decide +kernel)
theorem wi_X7 : Cond.initialized RX7 ∈ lw_tbl := List.mem_of_getElem? (i := 47) (by decide +kernel)
theorem wi_X4 : Cond.initialized RX4 ∈ lw_tbl := List.mem_of_getElem? (i := 48) (by decide +kernel)
theorem wi_X0 : Cond.initialized RX0 ∈ lw_tbl := List.mem_of_getElem? (i := 49) (by decide +kernel)
theorem wi_X6 : Cond.initialized RX6 ∈ lw_tbl := List.mem_of_getElem? (i := 50) (by decide +kernel)
theorem wi_X5 : Cond.initialized RX5 ∈ lw_tbl := List.mem_of_getElem? (i := 51) (by decide +kernel)
theorem wi_X1 : Cond.initialized RX1 ∈ lw_tbl := List.mem_of_getElem? (i := 52) (by decide +kernel)
theorem wi_X2 : Cond.initialized RX2 ∈ lw_tbl := List.mem_of_getElem? (i := 53) (by decide +kernel)
theorem wi_X9 : Cond.initialized RX9 ∈ lw_tbl := List.mem_of_getElem? (i := 54) (by decide +kernel)
theorem wi_X3 : Cond.initialized RX3 ∈ lw_tbl := List.mem_of_getElem? (i := 55) (by decide +kernel)
theorem wi_J9 : Cond.initialized RJ9 ∈ lw_tbl := List.mem_of_getElem? (i := 60) (by decide +kernel)
theorem wi_J13 : Cond.initialized RJ13 ∈ lw_tbl := List.mem_of_getElem? (i := 61) (by decide +kernel)
theorem wl_L_42 : Cond.methodLink RL 42 yX8_init ∈ lw_tbl := List.mem_of_getElem? (i := 65) (by decide +kernel)
theorem wl_X8_11 : Cond.methodLink RX8 11 yX7_init ∈ lw_tbl := List.mem_of_getElem? (i := 73) (by decide +kernel)
theorem wf_X7_9 : Cond.fieldLink RX7 9 "PlanCertificates$Tape" "numbers" "[I" ∈ lw_tbl := List.mem_of_getElem? (i := 77) (by decide +kernel)
theorem wf_X7_15 : Cond.fieldLink RX7 15 "PlanCertificates$Tape" "size" "I" ∈ lw_tbl := List.mem_of_getElem? (i := 78) (by decide +kernel)
theorem wf_X8_50 : Cond.fieldLink RX8 50 "PlanCertificates$Tape" "size" "I" ∈ lw_tbl := List.mem_of_getElem? (i := 79) (by decide +kernel)
theorem wf_X8_61 : Cond.fieldLink RX8 61 "PlanCertificates$Tape" "place" "I" ∈ lw_tbl := List.mem_of_getElem? (i := 80) (by decide +kernel)
theorem wf_X7_19 : Cond.fieldLink RX7 19 "PlanCertificates$Tape" "place" "I" ∈ lw_tbl := List.mem_of_getElem? (i := 81) (by decide +kernel)
theorem wf_X7_22 : Cond.fieldLink RX7 22 "PlanCertificates$Tape" "good" "Z" ∈ lw_tbl := List.mem_of_getElem? (i := 82) (by decide +kernel)
theorem wl_X8_20 : Cond.methodLink RX8 20 yX4_init ∈ lw_tbl := List.mem_of_getElem? (i := 95) (by decide +kernel)
theorem wf_X4_11 : Cond.fieldLink RX4 11 "PlanCertificates$Plans" "numbers" "[[I" ∈ lw_tbl := List.mem_of_getElem? (i := 101) (by decide +kernel)
theorem wf_X4_16 : Cond.fieldLink RX4 16 "PlanCertificates$Plans" "noPlan" "[I" ∈ lw_tbl := List.mem_of_getElem? (i := 102) (by decide +kernel)
theorem wf_X4_20 : Cond.fieldLink RX4 20 "PlanCertificates$Plans" "count" "I" ∈ lw_tbl := List.mem_of_getElem? (i := 103) (by decide +kernel)
theorem wf_X8_228 : Cond.fieldLink RX8 228 "PlanCertificates$Plans" "count" "I" ∈ lw_tbl := List.mem_of_getElem? (i := 104) (by decide +kernel)
theorem wl_X8_27 : Cond.methodLink RX8 27 yX0_init ∈ lw_tbl := List.mem_of_getElem? (i := 114) (by decide +kernel)
theorem wl_X0_24 : Cond.methodLink RX0 24 yX6_init ∈ lw_tbl := List.mem_of_getElem? (i := 120) (by decide +kernel)
theorem wl_X6_17 : Cond.methodLink RX6 17 yX5_init ∈ lw_tbl := List.mem_of_getElem? (i := 127) (by decide +kernel)
theorem wf_X5_9 : Cond.fieldLink RX5 9 "PlanCertificates$Row" "factors" "[J" ∈ lw_tbl := List.mem_of_getElem? (i := 131) (by decide +kernel)
theorem wf_X5_15 : Cond.fieldLink RX5 15 "PlanCertificates$Row" "right" "J" ∈ lw_tbl := List.mem_of_getElem? (i := 132) (by decide +kernel)
theorem wf_X2_117 : Cond.fieldLink RX2 117 "PlanCertificates$Row" "right" "J" ∈ lw_tbl := List.mem_of_getElem? (i := 133) (by decide +kernel)
theorem wf_X1_154 : Cond.fieldLink RX1 154 "PlanCertificates$Row" "right" "J" ∈ lw_tbl := List.mem_of_getElem? (i := 134) (by decide +kernel)
theorem wf_X8_155 : Cond.fieldLink RX8 155 "PlanCertificates$Row" "right" "J" ∈ lw_tbl := List.mem_of_getElem? (i := 135) (by decide +kernel)
theorem wf_X5_19 : Cond.fieldLink RX5 19 "PlanCertificates$Row" "assumptions" "J" ∈ lw_tbl := List.mem_of_getElem? (i := 136) (by decide +kernel)
theorem wf_X6_50 : Cond.fieldLink RX6 50 "PlanCertificates$Row" "assumptions" "J" ∈ lw_tbl := List.mem_of_getElem? (i := 137) (by decide +kernel)
theorem wf_X8_159 : Cond.fieldLink RX8 159 "PlanCertificates$Row" "assumptions" "J" ∈ lw_tbl := List.mem_of_getElem? (i := 138) (by decide +kernel)
theorem wf_X1_183 : Cond.fieldLink RX1 183 "PlanCertificates$Row" "assumptions" "J" ∈ lw_tbl := List.mem_of_getElem? (i := 139) (by decide +kernel)
theorem wf_X5_22 : Cond.fieldLink RX5 22 "PlanCertificates$Row" "limited" "Z" ∈ lw_tbl := List.mem_of_getElem? (i := 140) (by decide +kernel)
theorem wf_X6_62 : Cond.fieldLink RX6 62 "PlanCertificates$Row" "limited" "Z" ∈ lw_tbl := List.mem_of_getElem? (i := 141) (by decide +kernel)
theorem wf_X8_166 : Cond.fieldLink RX8 166 "PlanCertificates$Row" "limited" "Z" ∈ lw_tbl := List.mem_of_getElem? (i := 142) (by decide +kernel)
theorem wf_X5_26 : Cond.fieldLink RX5 26 "PlanCertificates$Row" "limit" "J" ∈ lw_tbl := List.mem_of_getElem? (i := 143) (by decide +kernel)
theorem wf_X8_169 : Cond.fieldLink RX8 169 "PlanCertificates$Row" "limit" "J" ∈ lw_tbl := List.mem_of_getElem? (i := 144) (by decide +kernel)
theorem wf_X6_44 : Cond.fieldLink RX6 44 "PlanCertificates$Row" "kind" "I" ∈ lw_tbl := List.mem_of_getElem? (i := 145) (by decide +kernel)
theorem wf_X0_127 : Cond.fieldLink RX0 127 "PlanCertificates$Row" "kind" "I" ∈ lw_tbl := List.mem_of_getElem? (i := 146) (by decide +kernel)
theorem wf_X1_80 : Cond.fieldLink RX1 80 "PlanCertificates$Row" "kind" "I" ∈ lw_tbl := List.mem_of_getElem? (i := 147) (by decide +kernel)
theorem wf_X8_172 : Cond.fieldLink RX8 172 "PlanCertificates$Row" "kind" "I" ∈ lw_tbl := List.mem_of_getElem? (i := 148) (by decide +kernel)
theorem wf_X5_45 : Cond.fieldLink RX5 45 "PlanCertificates$Row" "kind" "I" ∈ lw_tbl := List.mem_of_getElem? (i := 149) (by decide +kernel)
theorem wf_X0_97 : Cond.fieldLink RX0 97 "PlanCertificates$Row" "start" "I" ∈ lw_tbl := List.mem_of_getElem? (i := 150) (by decide +kernel)
theorem wf_X0_120 : Cond.fieldLink RX0 120 "PlanCertificates$Row" "length" "I" ∈ lw_tbl := List.mem_of_getElem? (i := 151) (by decide +kernel)
theorem wf_X1_85 : Cond.fieldLink RX1 85 "PlanCertificates$Row" "length" "I" ∈ lw_tbl := List.mem_of_getElem? (i := 152) (by decide +kernel)
theorem wf_X1_164 : Cond.fieldLink RX1 164 "PlanCertificates$Row" "variable" "I" ∈ lw_tbl := List.mem_of_getElem? (i := 153) (by decide +kernel)
theorem wf_X1_167 : Cond.fieldLink RX1 167 "PlanCertificates$Row" "bound" "I" ∈ lw_tbl := List.mem_of_getElem? (i := 154) (by decide +kernel)
theorem wf_X5_49 : Cond.fieldLink RX5 49 "PlanCertificates$Row" "side" "I" ∈ lw_tbl := List.mem_of_getElem? (i := 155) (by decide +kernel)
theorem wf_X1_170 : Cond.fieldLink RX1 170 "PlanCertificates$Row" "side" "I" ∈ lw_tbl := List.mem_of_getElem? (i := 156) (by decide +kernel)
theorem wf_X6_11 : Cond.fieldLink RX6 11 "PlanCertificates$Rows" "rows" "[LPlanCertificates$Row;" ∈ lw_tbl := List.mem_of_getElem? (i := 181) (by decide +kernel)
theorem wf_X6_18 : Cond.fieldLink RX6 18 "PlanCertificates$Rows" "noRow" "LPlanCertificates$Row;" ∈ lw_tbl := List.mem_of_getElem? (i := 182) (by decide +kernel)
theorem wf_X6_22 : Cond.fieldLink RX6 22 "PlanCertificates$Rows" "branches" "[I" ∈ lw_tbl := List.mem_of_getElem? (i := 183) (by decide +kernel)
theorem wf_X6_26 : Cond.fieldLink RX6 26 "PlanCertificates$Rows" "count" "I" ∈ lw_tbl := List.mem_of_getElem? (i := 184) (by decide +kernel)
theorem wf_X0_72 : Cond.fieldLink RX0 72 "PlanCertificates$Rows" "count" "I" ∈ lw_tbl := List.mem_of_getElem? (i := 185) (by decide +kernel)
theorem wf_X8_132 : Cond.fieldLink RX8 132 "PlanCertificates$Rows" "count" "I" ∈ lw_tbl := List.mem_of_getElem? (i := 186) (by decide +kernel)
theorem wf_X6_30 : Cond.fieldLink RX6 30 "PlanCertificates$Rows" "branchCount" "I" ∈ lw_tbl := List.mem_of_getElem? (i := 187) (by decide +kernel)
theorem wf_X8_229 : Cond.fieldLink RX8 229 "PlanCertificates$Rows" "branchCount" "I" ∈ lw_tbl := List.mem_of_getElem? (i := 188) (by decide +kernel)
theorem wl_X0_31 : Cond.methodLink RX0 31 yX1_init ∈ lw_tbl := List.mem_of_getElem? (i := 202) (by decide +kernel)
theorem wf_X1_9 : Cond.fieldLink RX1 9 "PlanCertificates$Draft" "parts" "[I" ∈ lw_tbl := List.mem_of_getElem? (i := 206) (by decide +kernel)
theorem wf_X1_15 : Cond.fieldLink RX1 15 "PlanCertificates$Draft" "count" "I" ∈ lw_tbl := List.mem_of_getElem? (i := 207) (by decide +kernel)
theorem wf_X0_96 : Cond.fieldLink RX0 96 "PlanCertificates$Draft" "count" "I" ∈ lw_tbl := List.mem_of_getElem? (i := 208) (by decide +kernel)
theorem wf_X0_9 : Cond.fieldLink RX0 9 "PlanCertificates$Certificate" "numbers" "[I" ∈ lw_tbl := List.mem_of_getElem? (i := 214) (by decide +kernel)
theorem wf_X0_50 : Cond.fieldLink RX0 50 "PlanCertificates$Certificate" "size" "I" ∈ lw_tbl := List.mem_of_getElem? (i := 215) (by decide +kernel)
theorem wf_X8_111 : Cond.fieldLink RX8 111 "PlanCertificates$Certificate" "size" "I" ∈ lw_tbl := List.mem_of_getElem? (i := 216) (by decide +kernel)
theorem wf_X0_46 : Cond.fieldLink RX0 46 "PlanCertificates$Certificate" "begun" "Z" ∈ lw_tbl := List.mem_of_getElem? (i := 217) (by decide +kernel)
theorem wf_X8_115 : Cond.fieldLink RX8 115 "PlanCertificates$Certificate" "begun" "Z" ∈ lw_tbl := List.mem_of_getElem? (i := 218) (by decide +kernel)
theorem wf_X0_53 : Cond.fieldLink RX0 53 "PlanCertificates$Certificate" "faultKind" "I" ∈ lw_tbl := List.mem_of_getElem? (i := 219) (by decide +kernel)
theorem wf_X8_125 : Cond.fieldLink RX8 125 "PlanCertificates$Certificate" "faultKind" "I" ∈ lw_tbl := List.mem_of_getElem? (i := 220) (by decide +kernel)
theorem wf_X0_15 : Cond.fieldLink RX0 15 "PlanCertificates$Certificate" "faultRow" "I" ∈ lw_tbl := List.mem_of_getElem? (i := 221) (by decide +kernel)
theorem wf_X8_137 : Cond.fieldLink RX8 137 "PlanCertificates$Certificate" "faultRow" "I" ∈ lw_tbl := List.mem_of_getElem? (i := 222) (by decide +kernel)
theorem wf_X0_19 : Cond.fieldLink RX0 19 "PlanCertificates$Certificate" "faultPlace" "I" ∈ lw_tbl := List.mem_of_getElem? (i := 223) (by decide +kernel)
theorem wf_X8_140 : Cond.fieldLink RX8 140 "PlanCertificates$Certificate" "faultPlace" "I" ∈ lw_tbl := List.mem_of_getElem? (i := 224) (by decide +kernel)
theorem wf_X0_25 : Cond.fieldLink RX0 25 "PlanCertificates$Certificate" "rows" "LPlanCertificates$Rows;" ∈ lw_tbl := List.mem_of_getElem? (i := 225) (by decide +kernel)
theorem wf_X8_128 : Cond.fieldLink RX8 128 "PlanCertificates$Certificate" "rows" "LPlanCertificates$Rows;" ∈ lw_tbl := List.mem_of_getElem? (i := 226) (by decide +kernel)
theorem wf_X0_32 : Cond.fieldLink RX0 32 "PlanCertificates$Certificate" "draft" "LPlanCertificates$Draft;" ∈ lw_tbl := List.mem_of_getElem? (i := 227) (by decide +kernel)
theorem wf_X0_36 : Cond.fieldLink RX0 36 "PlanCertificates$Certificate" "needed" "[Z" ∈ lw_tbl := List.mem_of_getElem? (i := 228) (by decide +kernel)
theorem wf_X0_40 : Cond.fieldLink RX0 40 "PlanCertificates$Certificate" "newNumbers" "[I" ∈ lw_tbl := List.mem_of_getElem? (i := 229) (by decide +kernel)
theorem wl_X8_34 : Cond.methodLink RX8 34 yX2_init ∈ lw_tbl := List.mem_of_getElem? (i := 254) (by decide +kernel)
theorem wf_X2_53 : Cond.fieldLink RX2 53 "PlanCertificates$Model" "variables" "I" ∈ lw_tbl := List.mem_of_getElem? (i := 259) (by decide +kernel)
theorem wf_X8_76 : Cond.fieldLink RX8 76 "PlanCertificates$Model" "variables" "I" ∈ lw_tbl := List.mem_of_getElem? (i := 260) (by decide +kernel)
theorem wf_X2_61 : Cond.fieldLink RX2 61 "PlanCertificates$Model" "rules" "I" ∈ lw_tbl := List.mem_of_getElem? (i := 261) (by decide +kernel)
theorem wf_X8_222 : Cond.fieldLink RX8 222 "PlanCertificates$Model" "rules" "I" ∈ lw_tbl := List.mem_of_getElem? (i := 262) (by decide +kernel)
theorem wf_X2_66 : Cond.fieldLink RX2 66 "PlanCertificates$Model" "tables" "I" ∈ lw_tbl := List.mem_of_getElem? (i := 263) (by decide +kernel)
theorem wf_X8_225 : Cond.fieldLink RX8 225 "PlanCertificates$Model" "tables" "I" ∈ lw_tbl := List.mem_of_getElem? (i := 264) (by decide +kernel)
theorem wf_X2_76 : Cond.fieldLink RX2 76 "PlanCertificates$Model" "digest" "I" ∈ lw_tbl := List.mem_of_getElem? (i := 265) (by decide +kernel)
theorem wf_X0_75 : Cond.fieldLink RX0 75 "PlanCertificates$Model" "digest" "I" ∈ lw_tbl := List.mem_of_getElem? (i := 266) (by decide +kernel)
theorem wf_X8_108 : Cond.fieldLink RX8 108 "PlanCertificates$Model" "digest" "I" ∈ lw_tbl := List.mem_of_getElem? (i := 267) (by decide +kernel)
theorem wf_X2_9 : Cond.fieldLink RX2 9 "PlanCertificates$Model" "low" "[I" ∈ lw_tbl := List.mem_of_getElem? (i := 268) (by decide +kernel)
theorem wf_X2_15 : Cond.fieldLink RX2 15 "PlanCertificates$Model" "high" "[I" ∈ lw_tbl := List.mem_of_getElem? (i := 269) (by decide +kernel)
theorem wf_X2_18 : Cond.fieldLink RX2 18 "PlanCertificates$Model" "cost" "[I" ∈ lw_tbl := List.mem_of_getElem? (i := 270) (by decide +kernel)
theorem wf_X8_203 : Cond.fieldLink RX8 203 "PlanCertificates$Model" "cost" "[I" ∈ lw_tbl := List.mem_of_getElem? (i := 271) (by decide +kernel)
theorem wf_X2_23 : Cond.fieldLink RX2 23 "PlanCertificates$Model" "factors" "[[I" ∈ lw_tbl := List.mem_of_getElem? (i := 272) (by decide +kernel)
theorem wf_X2_26 : Cond.fieldLink RX2 26 "PlanCertificates$Model" "right" "[I" ∈ lw_tbl := List.mem_of_getElem? (i := 273) (by decide +kernel)
theorem wf_X2_29 : Cond.fieldLink RX2 29 "PlanCertificates$Model" "first" "[I" ∈ lw_tbl := List.mem_of_getElem? (i := 274) (by decide +kernel)
theorem wf_X2_32 : Cond.fieldLink RX2 32 "PlanCertificates$Model" "second" "[I" ∈ lw_tbl := List.mem_of_getElem? (i := 275) (by decide +kernel)
theorem wf_X2_35 : Cond.fieldLink RX2 35 "PlanCertificates$Model" "pairs" "[I" ∈ lw_tbl := List.mem_of_getElem? (i := 276) (by decide +kernel)
theorem wf_X2_38 : Cond.fieldLink RX2 38 "PlanCertificates$Model" "firstOfPair" "[[I" ∈ lw_tbl := List.mem_of_getElem? (i := 277) (by decide +kernel)
theorem wf_X2_41 : Cond.fieldLink RX2 41 "PlanCertificates$Model" "secondOfPair" "[[I" ∈ lw_tbl := List.mem_of_getElem? (i := 278) (by decide +kernel)
theorem wf_X8_12 : Cond.fieldLink RX8 12 "PlanCertificates" "tape" "LPlanCertificates$Tape;" ∈ lw_tbl := List.mem_of_getElem? (i := 308) (by decide +kernel)
theorem wf_X8_21 : Cond.fieldLink RX8 21 "PlanCertificates" "plans" "LPlanCertificates$Plans;" ∈ lw_tbl := List.mem_of_getElem? (i := 309) (by decide +kernel)
theorem wf_X8_28 : Cond.fieldLink RX8 28 "PlanCertificates" "certificate" "LPlanCertificates$Certificate;" ∈ lw_tbl := List.mem_of_getElem? (i := 310) (by decide +kernel)
theorem wf_X8_64 : Cond.fieldLink RX8 64 "PlanCertificates" "hasModel" "Z" ∈ lw_tbl := List.mem_of_getElem? (i := 311) (by decide +kernel)
theorem wf_X8_35 : Cond.fieldLink RX8 35 "PlanCertificates" "current" "LPlanCertificates$Model;" ∈ lw_tbl := List.mem_of_getElem? (i := 312) (by decide +kernel)
theorem wf_X8_39 : Cond.fieldLink RX8 39 "PlanCertificates" "spare" "LPlanCertificates$Model;" ∈ lw_tbl := List.mem_of_getElem? (i := 313) (by decide +kernel)
theorem wl_L_46 : Cond.methodLink RL 46 yX8_put ∈ lw_tbl := List.mem_of_getElem? (i := 327) (by decide +kernel)
theorem wl_X8_42 : Cond.methodLink RX8 42 yX7_hasRoomFor ∈ lw_tbl := List.mem_of_getElem? (i := 331) (by decide +kernel)
theorem wl_X8_46 : Cond.methodLink RX8 46 yX7_append ∈ lw_tbl := List.mem_of_getElem? (i := 335) (by decide +kernel)
theorem wl_L_51 : Cond.methodLink RL 51 yX8_drop ∈ lw_tbl := List.mem_of_getElem? (i := 339) (by decide +kernel)
theorem wl_X8_54 : Cond.methodLink RX8 54 yX7_clear ∈ lw_tbl := List.mem_of_getElem? (i := 343) (by decide +kernel)
theorem wl_L_56 : Cond.methodLink RL 56 yX8_model ∈ lw_tbl := List.mem_of_getElem? (i := 347) (by decide +kernel)
theorem wl_X8_57 : Cond.methodLink RX8 57 yX2_fillFrom ∈ lw_tbl := List.mem_of_getElem? (i := 351) (by decide +kernel)
theorem wl_X2_44 : Cond.methodLink RX2 44 yX7_rewind ∈ lw_tbl := List.mem_of_getElem? (i := 355) (by decide +kernel)
theorem wl_X2_49 : Cond.methodLink RX2 49 yX7_next ∈ lw_tbl := List.mem_of_getElem? (i := 359) (by decide +kernel)
theorem wl_X7_26 : Cond.methodLink RX7 26 yX7_at ∈ lw_tbl := List.mem_of_getElem? (i := 363) (by decide +kernel)
theorem wl_X7_30 : Cond.methodLink RX7 30 yX3_isWithin ∈ lw_tbl := List.mem_of_getElem? (i := 367) (by decide +kernel)
theorem wl_X2_57 : Cond.methodLink RX2 57 yX2_fillVariable ∈ lw_tbl := List.mem_of_getElem? (i := 370) (by decide +kernel)
theorem wk_X2_64 : Cond.constant RX2 64 (-100000) ∈ lw_tbl := List.mem_of_getElem? (i := 374) (by decide +kernel)
theorem wk_X2_65 : Cond.constant RX2 65 (100000) ∈ lw_tbl := List.mem_of_getElem? (i := 375) (by decide +kernel)
theorem wl_X2_69 : Cond.methodLink RX2 69 yX2_fillTable ∈ lw_tbl := List.mem_of_getElem? (i := 376) (by decide +kernel)
theorem wl_X2_83 : Cond.methodLink RX2 83 yX7_nextBut ∈ lw_tbl := List.mem_of_getElem? (i := 380) (by decide +kernel)
theorem wl_X7_36 : Cond.methodLink RX7 36 yX7_next ∈ lw_tbl := List.mem_of_getElem? (i := 384) (by decide +kernel)
theorem wl_X2_72 : Cond.methodLink RX2 72 yX7_digestOfAll ∈ lw_tbl := List.mem_of_getElem? (i := 385) (by decide +kernel)
theorem wl_X2_79 : Cond.methodLink RX2 79 yX7_isReadWhole ∈ lw_tbl := List.mem_of_getElem? (i := 389) (by decide +kernel)
theorem wl_X8_68 : Cond.methodLink RX8 68 yX4_clear ∈ lw_tbl := List.mem_of_getElem? (i := 393) (by decide +kernel)
theorem wl_X8_69 : Cond.methodLink RX8 69 yX0_end ∈ lw_tbl := List.mem_of_getElem? (i := 397) (by decide +kernel)
theorem wl_X0_56 : Cond.methodLink RX0 56 yX6_clear ∈ lw_tbl := List.mem_of_getElem? (i := 401) (by decide +kernel)
theorem wl_X0_59 : Cond.methodLink RX0 59 yX1_clear ∈ lw_tbl := List.mem_of_getElem? (i := 405) (by decide +kernel)
theorem wl_L_60 : Cond.methodLink RL 60 yX8_plan ∈ lw_tbl := List.mem_of_getElem? (i := 409) (by decide +kernel)
theorem wl_X8_72 : Cond.methodLink RX8 72 yX8_tellPlan ∈ lw_tbl := List.mem_of_getElem? (i := 413) (by decide +kernel)
theorem wl_X8_79 : Cond.methodLink RX8 79 yX7_isPlanOf ∈ lw_tbl := List.mem_of_getElem? (i := 417) (by decide +kernel)
theorem wl_X7_40 : Cond.methodLink RX7 40 yX7_rewind ∈ lw_tbl := List.mem_of_getElem? (i := 421) (by decide +kernel)
theorem wk_X7_43 : Cond.constant RX7 43 (-1000000) ∈ lw_tbl := List.mem_of_getElem? (i := 422) (by decide +kernel)
theorem wk_X7_44 : Cond.constant RX7 44 (1000000) ∈ lw_tbl := List.mem_of_getElem? (i := 423) (by decide +kernel)
theorem wl_X7_45 : Cond.methodLink RX7 45 yX7_isReadWhole ∈ lw_tbl := List.mem_of_getElem? (i := 424) (by decide +kernel)
theorem wl_X8_82 : Cond.methodLink RX8 82 yX4_add ∈ lw_tbl := List.mem_of_getElem? (i := 425) (by decide +kernel)
theorem wl_X4_28 : Cond.methodLink RX4 28 yX7_at ∈ lw_tbl := List.mem_of_getElem? (i := 429) (by decide +kernel)
theorem wl_L_64 : Cond.methodLink RL 64 yX8_breaks ∈ lw_tbl := List.mem_of_getElem? (i := 430) (by decide +kernel)
theorem wl_X8_86 : Cond.methodLink RX8 86 yX4_has ∈ lw_tbl := List.mem_of_getElem? (i := 434) (by decide +kernel)
theorem wl_X8_89 : Cond.methodLink RX8 89 yX4_at ∈ lw_tbl := List.mem_of_getElem? (i := 438) (by decide +kernel)
theorem wl_X4_24 : Cond.methodLink RX4 24 yX4_has ∈ lw_tbl := List.mem_of_getElem? (i := 442) (by decide +kernel)
theorem wl_X8_93 : Cond.methodLink RX8 93 yX2_firstBroken ∈ lw_tbl := List.mem_of_getElem? (i := 443) (by decide +kernel)
theorem wl_X2_97 : Cond.methodLink RX2 97 yX3_at ∈ lw_tbl := List.mem_of_getElem? (i := 447) (by decide +kernel)
theorem wl_X2_101 : Cond.methodLink RX2 101 yX3_isWithin ∈ lw_tbl := List.mem_of_getElem? (i := 450) (by decide +kernel)
theorem wl_X2_91 : Cond.methodLink RX2 91 yX3_sumOf ∈ lw_tbl := List.mem_of_getElem? (i := 451) (by decide +kernel)
theorem wl_X2_105 : Cond.methodLink RX2 105 yX2_hasPair ∈ lw_tbl := List.mem_of_getElem? (i := 454) (by decide +kernel)
theorem wl_L_77 : Cond.methodLink RL 77 yX8_digest ∈ lw_tbl := List.mem_of_getElem? (i := 458) (by decide +kernel)
theorem wl_L_81 : Cond.methodLink RL 81 yX8_begin ∈ lw_tbl := List.mem_of_getElem? (i := 462) (by decide +kernel)
theorem wl_X8_112 : Cond.methodLink RX8 112 yX0_start ∈ lw_tbl := List.mem_of_getElem? (i := 466) (by decide +kernel)
theorem wl_X0_43 : Cond.methodLink RX0 43 yX0_end ∈ lw_tbl := List.mem_of_getElem? (i := 470) (by decide +kernel)
theorem wl_L_85 : Cond.methodLink RL 85 yX8_read ∈ lw_tbl := List.mem_of_getElem? (i := 471) (by decide +kernel)
theorem wl_X8_118 : Cond.methodLink RX8 118 yX7_at ∈ lw_tbl := List.mem_of_getElem? (i := 475) (by decide +kernel)
theorem wl_X8_121 : Cond.methodLink RX8 121 yX0_take ∈ lw_tbl := List.mem_of_getElem? (i := 476) (by decide +kernel)
theorem wl_X0_60 : Cond.methodLink RX0 60 yX0_setNumber ∈ lw_tbl := List.mem_of_getElem? (i := 480) (by decide +kernel)
theorem wl_X0_64 : Cond.methodLink RX0 64 yX0_faultOfDigest ∈ lw_tbl := List.mem_of_getElem? (i := 484) (by decide +kernel)
theorem wl_X0_68 : Cond.methodLink RX0 68 yX0_judge ∈ lw_tbl := List.mem_of_getElem? (i := 487) (by decide +kernel)
theorem wl_X0_80 : Cond.methodLink RX0 80 yX1_faultOf ∈ lw_tbl := List.mem_of_getElem? (i := 491) (by decide +kernel)
theorem wl_X1_23 : Cond.methodLink RX1 23 yX1_meaningAt ∈ lw_tbl := List.mem_of_getElem? (i := 495) (by decide +kernel)
theorem wl_X1_27 : Cond.methodLink RX1 27 yX1_faultOfKind ∈ lw_tbl := List.mem_of_getElem? (i := 498) (by decide +kernel)
theorem wl_X1_56 : Cond.methodLink RX1 56 yX3_isWithin ∈ lw_tbl := List.mem_of_getElem? (i := 501) (by decide +kernel)
theorem wl_X1_62 : Cond.methodLink RX1 62 yX6_areFull ∈ lw_tbl := List.mem_of_getElem? (i := 502) (by decide +kernel)
theorem wl_X1_66 : Cond.methodLink RX1 66 yX6_areBranchesFull ∈ lw_tbl := List.mem_of_getElem? (i := 506) (by decide +kernel)
theorem wl_X1_31 : Cond.methodLink RX1 31 yX6_has ∈ lw_tbl := List.mem_of_getElem? (i := 510) (by decide +kernel)
theorem wl_X1_37 : Cond.methodLink RX1 37 yX2_hasTable ∈ lw_tbl := List.mem_of_getElem? (i := 514) (by decide +kernel)
theorem wl_X1_42 : Cond.methodLink RX1 42 yX1_isGoodPlan ∈ lw_tbl := List.mem_of_getElem? (i := 518) (by decide +kernel)
theorem wl_X1_69 : Cond.methodLink RX1 69 yX4_has ∈ lw_tbl := List.mem_of_getElem? (i := 521) (by decide +kernel)
theorem wl_X1_72 : Cond.methodLink RX1 72 yX4_at ∈ lw_tbl := List.mem_of_getElem? (i := 522) (by decide +kernel)
theorem wl_X1_76 : Cond.methodLink RX1 76 yX2_firstBroken ∈ lw_tbl := List.mem_of_getElem? (i := 523) (by decide +kernel)
theorem wl_X1_46 : Cond.methodLink RX1 46 yX2_hasRule ∈ lw_tbl := List.mem_of_getElem? (i := 524) (by decide +kernel)
theorem wl_X1_49 : Cond.methodLink RX1 49 yX2_hasVariable ∈ lw_tbl := List.mem_of_getElem? (i := 528) (by decide +kernel)
theorem wl_X1_52 : Cond.methodLink RX1 52 yX1_faultBeyond ∈ lw_tbl := List.mem_of_getElem? (i := 532) (by decide +kernel)
theorem wl_X0_84 : Cond.methodLink RX0 84 yX1_add ∈ lw_tbl := List.mem_of_getElem? (i := 535) (by decide +kernel)
theorem wl_X0_88 : Cond.methodLink RX0 88 yX1_isWhole ∈ lw_tbl := List.mem_of_getElem? (i := 539) (by decide +kernel)
theorem wl_X1_19 : Cond.methodLink RX1 19 yX1_wholeLength ∈ lw_tbl := List.mem_of_getElem? (i := 543) (by decide +kernel)
theorem wl_X0_92 : Cond.methodLink RX0 92 yX6_fresh ∈ lw_tbl := List.mem_of_getElem? (i := 547) (by decide +kernel)
theorem wl_X6_37 : Cond.methodLink RX6 37 yX5_clear ∈ lw_tbl := List.mem_of_getElem? (i := 551) (by decide +kernel)
theorem wl_X0_102 : Cond.methodLink RX0 102 yX1_make ∈ lw_tbl := List.mem_of_getElem? (i := 555) (by decide +kernel)
theorem wl_X1_88 : Cond.methodLink RX1 88 yX2_copyRule ∈ lw_tbl := List.mem_of_getElem? (i := 559) (by decide +kernel)
theorem wl_X2_108 : Cond.methodLink RX2 108 yX2_hasRule ∈ lw_tbl := List.mem_of_getElem? (i := 563) (by decide +kernel)
theorem wl_X2_111 : Cond.methodLink RX2 111 yX5_setFactor ∈ lw_tbl := List.mem_of_getElem? (i := 564) (by decide +kernel)
theorem wl_X1_92 : Cond.methodLink RX1 92 yX2_highOf ∈ lw_tbl := List.mem_of_getElem? (i := 568) (by decide +kernel)
theorem wl_X2_87 : Cond.methodLink RX2 87 yX2_hasVariable ∈ lw_tbl := List.mem_of_getElem? (i := 572) (by decide +kernel)
theorem wl_X1_96 : Cond.methodLink RX1 96 yX5_setSingle ∈ lw_tbl := List.mem_of_getElem? (i := 573) (by decide +kernel)
theorem wl_X5_29 : Cond.methodLink RX5 29 yX5_setFactor ∈ lw_tbl := List.mem_of_getElem? (i := 577) (by decide +kernel)
theorem wk_X1_100 : Cond.constantLong RX1 100 (-1) ∈ lw_tbl := List.mem_of_getElem? (i := 578) (by decide +kernel)
theorem wl_X1_102 : Cond.methodLink RX1 102 yX2_lowOf ∈ lw_tbl := List.mem_of_getElem? (i := 579) (by decide +kernel)
theorem wl_X1_105 : Cond.methodLink RX1 105 yX2_copyTable ∈ lw_tbl := List.mem_of_getElem? (i := 583) (by decide +kernel)
theorem wl_X2_120 : Cond.methodLink RX2 120 yX2_hasTable ∈ lw_tbl := List.mem_of_getElem? (i := 587) (by decide +kernel)
theorem wl_X1_109 : Cond.methodLink RX1 109 yX1_fillSum ∈ lw_tbl := List.mem_of_getElem? (i := 588) (by decide +kernel)
theorem wl_X1_113 : Cond.methodLink RX1 113 yX6_at ∈ lw_tbl := List.mem_of_getElem? (i := 592) (by decide +kernel)
theorem wl_X6_33 : Cond.methodLink RX6 33 yX6_has ∈ lw_tbl := List.mem_of_getElem? (i := 596) (by decide +kernel)
theorem wl_X1_135 : Cond.methodLink RX1 135 yX5_addTimes ∈ lw_tbl := List.mem_of_getElem? (i := 597) (by decide +kernel)
theorem wl_X1_139 : Cond.methodLink RX1 139 yX5_inheritAssumptions ∈ lw_tbl := List.mem_of_getElem? (i := 601) (by decide +kernel)
theorem wl_X1_143 : Cond.methodLink RX1 143 yX5_inheritLimit ∈ lw_tbl := List.mem_of_getElem? (i := 605) (by decide +kernel)
theorem wl_X5_33 : Cond.methodLink RX5 33 yX5_setLimit ∈ lw_tbl := List.mem_of_getElem? (i := 609) (by decide +kernel)
theorem wl_X1_116 : Cond.methodLink RX1 116 yX1_fillDivided ∈ lw_tbl := List.mem_of_getElem? (i := 613) (by decide +kernel)
theorem wl_X1_146 : Cond.methodLink RX1 146 yX5_factorOf ∈ lw_tbl := List.mem_of_getElem? (i := 616) (by decide +kernel)
theorem wl_X1_150 : Cond.methodLink RX1 150 yX5_setFactor ∈ lw_tbl := List.mem_of_getElem? (i := 620) (by decide +kernel)
theorem wl_X1_158 : Cond.methodLink RX1 158 yJ9_floorDiv_f86c9 ∈ lw_tbl := List.mem_of_getElem? (i := 621) (by decide +kernel)
theorem wl_X1_120 : Cond.methodLink RX1 120 yX1_fillBranch ∈ lw_tbl := List.mem_of_getElem? (i := 624) (by decide +kernel)
theorem wl_X1_124 : Cond.methodLink RX1 124 yX1_fillJoined ∈ lw_tbl := List.mem_of_getElem? (i := 628) (by decide +kernel)
theorem wl_X1_173 : Cond.methodLink RX1 173 yX5_isBranch ∈ lw_tbl := List.mem_of_getElem? (i := 632) (by decide +kernel)
theorem wl_X1_176 : Cond.methodLink RX1 176 yX5_hasFactorsOf ∈ lw_tbl := List.mem_of_getElem? (i := 636) (by decide +kernel)
theorem wl_X1_180 : Cond.methodLink RX1 180 yX5_isImpossible ∈ lw_tbl := List.mem_of_getElem? (i := 640) (by decide +kernel)
theorem wl_X5_37 : Cond.methodLink RX5 37 yX5_isMadeOfZeros ∈ lw_tbl := List.mem_of_getElem? (i := 644) (by decide +kernel)
theorem wl_X1_127 : Cond.methodLink RX1 127 yX1_fillBetter ∈ lw_tbl := List.mem_of_getElem? (i := 648) (by decide +kernel)
theorem wl_X1_186 : Cond.methodLink RX1 186 yX2_costOf ∈ lw_tbl := List.mem_of_getElem? (i := 652) (by decide +kernel)
theorem wl_X1_190 : Cond.methodLink RX1 190 yX2_copyCosts ∈ lw_tbl := List.mem_of_getElem? (i := 656) (by decide +kernel)
theorem wl_X1_193 : Cond.methodLink RX1 193 yX5_setLimit ∈ lw_tbl := List.mem_of_getElem? (i := 660) (by decide +kernel)
theorem wl_X1_131 : Cond.methodLink RX1 131 yX1_fillPushed ∈ lw_tbl := List.mem_of_getElem? (i := 661) (by decide +kernel)
theorem wl_X1_197 : Cond.methodLink RX1 197 yJ9_min_f86c9 ∈ lw_tbl := List.mem_of_getElem? (i := 664) (by decide +kernel)
theorem wl_X0_106 : Cond.methodLink RX0 106 yX5_isTooGreat ∈ lw_tbl := List.mem_of_getElem? (i := 667) (by decide +kernel)
theorem wk_X5_41 : Cond.constantLong RX5 41 (-1000000000000) ∈ lw_tbl := List.mem_of_getElem? (i := 671) (by decide +kernel)
theorem wk_X5_43 : Cond.constantLong RX5 43 (1000000000000) ∈ lw_tbl := List.mem_of_getElem? (i := 672) (by decide +kernel)
theorem wl_X0_109 : Cond.methodLink RX0 109 yX6_keepFresh ∈ lw_tbl := List.mem_of_getElem? (i := 673) (by decide +kernel)
theorem wl_X6_40 : Cond.methodLink RX6 40 yX6_areFull ∈ lw_tbl := List.mem_of_getElem? (i := 677) (by decide +kernel)
theorem wl_X6_47 : Cond.methodLink RX6 47 yX6_areBranchesFull ∈ lw_tbl := List.mem_of_getElem? (i := 678) (by decide +kernel)
theorem wl_L_89 : Cond.methodLink RL 89 yX8_fault ∈ lw_tbl := List.mem_of_getElem? (i := 679) (by decide +kernel)
theorem wl_L_103 : Cond.methodLink RL 103 yX8_proved ∈ lw_tbl := List.mem_of_getElem? (i := 683) (by decide +kernel)
theorem wl_X8_192 : Cond.methodLink RX8 192 yX6_firstProof ∈ lw_tbl := List.mem_of_getElem? (i := 687) (by decide +kernel)
theorem wl_X6_66 : Cond.methodLink RX6 66 yX5_isImpossible ∈ lw_tbl := List.mem_of_getElem? (i := 691) (by decide +kernel)
theorem wl_L_120 : Cond.methodLink RL 120 yX8_told ∈ lw_tbl := List.mem_of_getElem? (i := 692) (by decide +kernel)
theorem wl_L_68 : Cond.methodLink RL 68 yL_cost ∈ lw_tbl := List.mem_of_getElem? (i := 696) (by decide +kernel)
theorem wl_L_7 : Cond.methodLink RL 7 yX8_cost ∈ lw_tbl := List.mem_of_getElem? (i := 700) (by decide +kernel)
theorem wl_X8_104 : Cond.methodLink RX8 104 yX2_costOf ∈ lw_tbl := List.mem_of_getElem? (i := 771) (by decide +kernel)
theorem wl_L_93 : Cond.methodLink RL 93 yL_row ∈ lw_tbl := List.mem_of_getElem? (i := 772) (by decide +kernel)
theorem wl_L_15 : Cond.methodLink RL 15 yX8_row ∈ lw_tbl := List.mem_of_getElem? (i := 775) (by decide +kernel)
theorem wl_X8_143 : Cond.methodLink RX8 143 yX8_demandRow ∈ lw_tbl := List.mem_of_getElem? (i := 779) (by decide +kernel)
theorem wl_X8_232 : Cond.methodLink RX8 232 yX6_has ∈ lw_tbl := List.mem_of_getElem? (i := 783) (by decide +kernel)
theorem wl_X8_146 : Cond.methodLink RX8 146 yX6_at ∈ lw_tbl := List.mem_of_getElem? (i := 785) (by decide +kernel)
theorem wl_X8_149 : Cond.methodLink RX8 149 yX5_factorOf ∈ lw_tbl := List.mem_of_getElem? (i := 786) (by decide +kernel)
theorem wl_X8_162 : Cond.methodLink RX8 162 yJ13_bitCount_95d88 ∈ lw_tbl := List.mem_of_getElem? (i := 787) (by decide +kernel)
theorem wk_J13_314 : Cond.constantLong RJ13 314 (6148914691236517205) ∈ lw_tbl := List.mem_of_getElem? (i := 790) (by decide +kernel)
theorem wk_J13_316 : Cond.constantLong RJ13 316 (3689348814741910323) ∈ lw_tbl := List.mem_of_getElem? (i := 791) (by decide +kernel)
theorem wk_J13_318 : Cond.constantLong RJ13 318 (1085102592571150095) ∈ lw_tbl := List.mem_of_getElem? (i := 792) (by decide +kernel)
theorem wl_X8_175 : Cond.methodLink RX8 175 yX0_markNeeded ∈ lw_tbl := List.mem_of_getElem? (i := 793) (by decide +kernel)
theorem wl_X0_112 : Cond.methodLink RX0 112 yX6_at ∈ lw_tbl := List.mem_of_getElem? (i := 797) (by decide +kernel)
theorem wl_X0_116 : Cond.methodLink RX0 116 yX0_markSources ∈ lw_tbl := List.mem_of_getElem? (i := 798) (by decide +kernel)
theorem wl_X0_123 : Cond.methodLink RX0 123 yX0_numberAt ∈ lw_tbl := List.mem_of_getElem? (i := 802) (by decide +kernel)
theorem wl_X0_130 : Cond.methodLink RX0 130 yX1_meaningAt ∈ lw_tbl := List.mem_of_getElem? (i := 806) (by decide +kernel)
theorem wl_X0_134 : Cond.methodLink RX0 134 yX6_has ∈ lw_tbl := List.mem_of_getElem? (i := 807) (by decide +kernel)
theorem wl_L_97 : Cond.methodLink RL 97 yL_assumes ∈ lw_tbl := List.mem_of_getElem? (i := 809) (by decide +kernel)
theorem wl_L_19 : Cond.methodLink RL 19 yX8_assumes ∈ lw_tbl := List.mem_of_getElem? (i := 812) (by decide +kernel)
theorem wl_X8_180 : Cond.methodLink RX8 180 yX6_assumption ∈ lw_tbl := List.mem_of_getElem? (i := 816) (by decide +kernel)
theorem wl_X6_54 : Cond.methodLink RX6 54 yX6_at ∈ lw_tbl := List.mem_of_getElem? (i := 820) (by decide +kernel)
theorem wl_L_100 : Cond.methodLink RL 100 yL_holds ∈ lw_tbl := List.mem_of_getElem? (i := 821) (by decide +kernel)
theorem wl_L_23 : Cond.methodLink RL 23 yX8_holds ∈ lw_tbl := List.mem_of_getElem? (i := 824) (by decide +kernel)
theorem wl_X8_184 : Cond.methodLink RX8 184 yX6_keepsAssumptions ∈ lw_tbl := List.mem_of_getElem? (i := 828) (by decide +kernel)
theorem wl_X6_58 : Cond.methodLink RX6 58 yX5_isKeptBy ∈ lw_tbl := List.mem_of_getElem? (i := 832) (by decide +kernel)
theorem wl_X5_52 : Cond.methodLink RX5 52 yX3_at ∈ lw_tbl := List.mem_of_getElem? (i := 836) (by decide +kernel)
theorem wl_X8_188 : Cond.methodLink RX8 188 yX5_isKeptBy ∈ lw_tbl := List.mem_of_getElem? (i := 837) (by decide +kernel)
theorem wl_L_107 : Cond.methodLink RL 107 yL_best ∈ lw_tbl := List.mem_of_getElem? (i := 838) (by decide +kernel)
theorem wl_L_26 : Cond.methodLink RL 26 yX8_best ∈ lw_tbl := List.mem_of_getElem? (i := 842) (by decide +kernel)
theorem wl_L_111 : Cond.methodLink RL 111 yL_least ∈ lw_tbl := List.mem_of_getElem? (i := 863) (by decide +kernel)
theorem wl_L_32 : Cond.methodLink RL 32 yX8_least ∈ lw_tbl := List.mem_of_getElem? (i := 866) (by decide +kernel)
theorem wl_X8_207 : Cond.methodLink RX8 207 yX6_greatestBound ∈ lw_tbl := List.mem_of_getElem? (i := 870) (by decide +kernel)
theorem wk_X6_69 : Cond.constantLong RX6 69 (-9223372036854775808) ∈ lw_tbl := List.mem_of_getElem? (i := 874) (by decide +kernel)
theorem wl_X6_71 : Cond.methodLink RX6 71 yX5_boundOfCost ∈ lw_tbl := List.mem_of_getElem? (i := 875) (by decide +kernel)
theorem wk_X5_58 : Cond.constantLong RX5 58 (-9223372036854775808) ∈ lw_tbl := List.mem_of_getElem? (i := 879) (by decide +kernel)
theorem wl_X5_60 : Cond.methodLink RX5 60 yX5_timesLessCosts ∈ lw_tbl := List.mem_of_getElem? (i := 880) (by decide +kernel)
theorem wl_X5_64 : Cond.methodLink RX5 64 yJ9_floorDiv_f86c9 ∈ lw_tbl := List.mem_of_getElem? (i := 884) (by decide +kernel)
theorem wl_X6_75 : Cond.methodLink RX6 75 yJ9_max_f86c9 ∈ lw_tbl := List.mem_of_getElem? (i := 885) (by decide +kernel)
theorem wk_X8_210 : Cond.constantLong RX8 210 (-9223372036854775808) ∈ lw_tbl := List.mem_of_getElem? (i := 888) (by decide +kernel)
theorem wl_L_114 : Cond.methodLink RL 114 yL_trim ∈ lw_tbl := List.mem_of_getElem? (i := 890) (by decide +kernel)
theorem wl_L_35 : Cond.methodLink RL 35 yX8_trim ∈ lw_tbl := List.mem_of_getElem? (i := 893) (by decide +kernel)
theorem wl_X8_214 : Cond.methodLink RX8 214 yX0_closeGaps ∈ lw_tbl := List.mem_of_getElem? (i := 897) (by decide +kernel)
theorem wl_X0_138 : Cond.methodLink RX0 138 yX0_markNeeded ∈ lw_tbl := List.mem_of_getElem? (i := 901) (by decide +kernel)
theorem wl_X0_141 : Cond.methodLink RX0 141 yX0_moveNumbers ∈ lw_tbl := List.mem_of_getElem? (i := 902) (by decide +kernel)
theorem wl_X8_217 : Cond.methodLink RX8 217 yX0_numberAt ∈ lw_tbl := List.mem_of_getElem? (i := 906) (by decide +kernel)
theorem wl_L_117 : Cond.methodLink RL 117 yL_number ∈ lw_tbl := List.mem_of_getElem? (i := 907) (by decide +kernel)
theorem wl_L_39 : Cond.methodLink RL 39 yX8_number ∈ lw_tbl := List.mem_of_getElem? (i := 910) (by decide +kernel)
theorem wl_L_45 : Cond.methodLink RL 45 yX9_init ∈ lw_tbl := List.mem_of_getElem? (i := 917) (by decide +kernel)
theorem wk_X9_73 : Cond.constant RX9 73 (40000) ∈ lw_tbl := List.mem_of_getElem? (i := 921) (by decide +kernel)
theorem wf_X9_86 : Cond.fieldLink RX9 86 "PlanCertificatesModel" "thrown" "I" ∈ lw_tbl := List.mem_of_getElem? (i := 922) (by decide +kernel)
theorem wf_X9_7 : Cond.fieldLink RX9 7 "PlanCertificatesModel" "tape" "[I" ∈ lw_tbl := List.mem_of_getElem? (i := 923) (by decide +kernel)
theorem wf_X9_93 : Cond.fieldLink RX9 93 "PlanCertificatesModel" "taped" "I" ∈ lw_tbl := List.mem_of_getElem? (i := 924) (by decide +kernel)
theorem wf_X9_112 : Cond.fieldLink RX9 112 "PlanCertificatesModel" "variables" "I" ∈ lw_tbl := List.mem_of_getElem? (i := 925) (by decide +kernel)
theorem wf_X9_13 : Cond.fieldLink RX9 13 "PlanCertificatesModel" "low" "[I" ∈ lw_tbl := List.mem_of_getElem? (i := 926) (by decide +kernel)
theorem wf_X9_16 : Cond.fieldLink RX9 16 "PlanCertificatesModel" "high" "[I" ∈ lw_tbl := List.mem_of_getElem? (i := 927) (by decide +kernel)
theorem wf_X9_19 : Cond.fieldLink RX9 19 "PlanCertificatesModel" "cost" "[I" ∈ lw_tbl := List.mem_of_getElem? (i := 928) (by decide +kernel)
theorem wf_X9_115 : Cond.fieldLink RX9 115 "PlanCertificatesModel" "rules" "I" ∈ lw_tbl := List.mem_of_getElem? (i := 929) (by decide +kernel)
theorem wf_X9_22 : Cond.fieldLink RX9 22 "PlanCertificatesModel" "ruleFactor" "[I" ∈ lw_tbl := List.mem_of_getElem? (i := 930) (by decide +kernel)
theorem wf_X9_25 : Cond.fieldLink RX9 25 "PlanCertificatesModel" "ruleRight" "[I" ∈ lw_tbl := List.mem_of_getElem? (i := 931) (by decide +kernel)
theorem wf_X9_118 : Cond.fieldLink RX9 118 "PlanCertificatesModel" "tables" "I" ∈ lw_tbl := List.mem_of_getElem? (i := 932) (by decide +kernel)
theorem wf_X9_28 : Cond.fieldLink RX9 28 "PlanCertificatesModel" "first" "[I" ∈ lw_tbl := List.mem_of_getElem? (i := 933) (by decide +kernel)
theorem wf_X9_31 : Cond.fieldLink RX9 31 "PlanCertificatesModel" "second" "[I" ∈ lw_tbl := List.mem_of_getElem? (i := 934) (by decide +kernel)
theorem wf_X9_34 : Cond.fieldLink RX9 34 "PlanCertificatesModel" "pairs" "[I" ∈ lw_tbl := List.mem_of_getElem? (i := 935) (by decide +kernel)
theorem wf_X9_37 : Cond.fieldLink RX9 37 "PlanCertificatesModel" "pairOne" "[I" ∈ lw_tbl := List.mem_of_getElem? (i := 936) (by decide +kernel)
theorem wf_X9_40 : Cond.fieldLink RX9 40 "PlanCertificatesModel" "pairTwo" "[I" ∈ lw_tbl := List.mem_of_getElem? (i := 937) (by decide +kernel)
theorem wf_X9_124 : Cond.fieldLink RX9 124 "PlanCertificatesModel" "digest" "I" ∈ lw_tbl := List.mem_of_getElem? (i := 938) (by decide +kernel)
theorem wf_X9_127 : Cond.fieldLink RX9 127 "PlanCertificatesModel" "plans" "I" ∈ lw_tbl := List.mem_of_getElem? (i := 939) (by decide +kernel)
theorem wf_X9_43 : Cond.fieldLink RX9 43 "PlanCertificatesModel" "planned" "[I" ∈ lw_tbl := List.mem_of_getElem? (i := 940) (by decide +kernel)
theorem wf_X9_133 : Cond.fieldLink RX9 133 "PlanCertificatesModel" "begun" "Z" ∈ lw_tbl := List.mem_of_getElem? (i := 941) (by decide +kernel)
theorem wf_X9_136 : Cond.fieldLink RX9 136 "PlanCertificatesModel" "numbers" "I" ∈ lw_tbl := List.mem_of_getElem? (i := 942) (by decide +kernel)
theorem wf_X9_46 : Cond.fieldLink RX9 46 "PlanCertificatesModel" "number" "[I" ∈ lw_tbl := List.mem_of_getElem? (i := 943) (by decide +kernel)
theorem wf_X9_139 : Cond.fieldLink RX9 139 "PlanCertificatesModel" "fault" "I" ∈ lw_tbl := List.mem_of_getElem? (i := 944) (by decide +kernel)
theorem wf_X9_49 : Cond.fieldLink RX9 49 "PlanCertificatesModel" "faultRow" "I" ∈ lw_tbl := List.mem_of_getElem? (i := 945) (by decide +kernel)
theorem wf_X9_53 : Cond.fieldLink RX9 53 "PlanCertificatesModel" "faultAt" "I" ∈ lw_tbl := List.mem_of_getElem? (i := 946) (by decide +kernel)
theorem wf_X9_142 : Cond.fieldLink RX9 142 "PlanCertificatesModel" "from" "I" ∈ lw_tbl := List.mem_of_getElem? (i := 947) (by decide +kernel)
theorem wf_X9_145 : Cond.fieldLink RX9 145 "PlanCertificatesModel" "rows" "I" ∈ lw_tbl := List.mem_of_getElem? (i := 948) (by decide +kernel)
theorem wf_X9_148 : Cond.fieldLink RX9 148 "PlanCertificatesModel" "branches" "I" ∈ lw_tbl := List.mem_of_getElem? (i := 949) (by decide +kernel)
theorem wf_X9_56 : Cond.fieldLink RX9 56 "PlanCertificatesModel" "rowFrom" "[I" ∈ lw_tbl := List.mem_of_getElem? (i := 950) (by decide +kernel)
theorem wf_X9_59 : Cond.fieldLink RX9 59 "PlanCertificatesModel" "factor" "[J" ∈ lw_tbl := List.mem_of_getElem? (i := 951) (by decide +kernel)
theorem wf_X9_63 : Cond.fieldLink RX9 63 "PlanCertificatesModel" "right" "[J" ∈ lw_tbl := List.mem_of_getElem? (i := 952) (by decide +kernel)
theorem wf_X9_66 : Cond.fieldLink RX9 66 "PlanCertificatesModel" "hasLimit" "[Z" ∈ lw_tbl := List.mem_of_getElem? (i := 953) (by decide +kernel)
theorem wf_X9_70 : Cond.fieldLink RX9 70 "PlanCertificatesModel" "limit" "[J" ∈ lw_tbl := List.mem_of_getElem? (i := 954) (by decide +kernel)
theorem wf_X9_74 : Cond.fieldLink RX9 74 "PlanCertificatesModel" "assumed" "[Z" ∈ lw_tbl := List.mem_of_getElem? (i := 955) (by decide +kernel)
theorem wf_X9_77 : Cond.fieldLink RX9 77 "PlanCertificatesModel" "needed" "[Z" ∈ lw_tbl := List.mem_of_getElem? (i := 956) (by decide +kernel)
theorem wf_X9_80 : Cond.fieldLink RX9 80 "PlanCertificatesModel" "renamed" "[I" ∈ lw_tbl := List.mem_of_getElem? (i := 957) (by decide +kernel)
theorem wf_X9_83 : Cond.fieldLink RX9 83 "PlanCertificatesModel" "kept" "[I" ∈ lw_tbl := List.mem_of_getElem? (i := 958) (by decide +kernel)
theorem wf_X9_100 : Cond.fieldLink RX9 100 "PlanCertificatesModel" "at" "I" ∈ lw_tbl := List.mem_of_getElem? (i := 959) (by decide +kernel)
theorem wf_X9_96 : Cond.fieldLink RX9 96 "PlanCertificatesModel" "bad" "Z" ∈ lw_tbl := List.mem_of_getElem? (i := 960) (by decide +kernel)
theorem wf_X9_107 : Cond.fieldLink RX9 107 "PlanCertificatesModel" "keeps" "Z" ∈ lw_tbl := List.mem_of_getElem? (i := 961) (by decide +kernel)
theorem wl_L_74 : Cond.methodLink RL 74 yX9_thrown ∈ lw_tbl := List.mem_of_getElem? (i := 1043) (by decide +kernel)
theorem wl_L_50 : Cond.methodLink RL 50 yX9_put ∈ lw_tbl := List.mem_of_getElem? (i := 1047) (by decide +kernel)
theorem wl_X9_89 : Cond.methodLink RX9 89 yX9_in ∈ lw_tbl := List.mem_of_getElem? (i := 1051) (by decide +kernel)
theorem wl_L_55 : Cond.methodLink RL 55 yX9_drop ∈ lw_tbl := List.mem_of_getElem? (i := 1054) (by decide +kernel)
theorem wl_L_59 : Cond.methodLink RL 59 yX9_model ∈ lw_tbl := List.mem_of_getElem? (i := 1058) (by decide +kernel)
theorem wl_X9_121 : Cond.methodLink RX9 121 yX9_go ∈ lw_tbl := List.mem_of_getElem? (i := 1062) (by decide +kernel)
theorem wl_X9_103 : Cond.methodLink RX9 103 yX9_next ∈ lw_tbl := List.mem_of_getElem? (i := 1066) (by decide +kernel)
theorem wk_X9_110 : Cond.constant RX9 110 (-100000) ∈ lw_tbl := List.mem_of_getElem? (i := 1070) (by decide +kernel)
theorem wk_X9_111 : Cond.constant RX9 111 (100000) ∈ lw_tbl := List.mem_of_getElem? (i := 1071) (by decide +kernel)
theorem wl_X9_130 : Cond.methodLink RX9 130 yX9_forget ∈ lw_tbl := List.mem_of_getElem? (i := 1072) (by decide +kernel)
theorem wl_L_63 : Cond.methodLink RL 63 yX9_plan ∈ lw_tbl := List.mem_of_getElem? (i := 1076) (by decide +kernel)
theorem wk_X9_151 : Cond.constant RX9 151 (-1000000) ∈ lw_tbl := List.mem_of_getElem? (i := 1080) (by decide +kernel)
theorem wk_X9_152 : Cond.constant RX9 152 (1000000) ∈ lw_tbl := List.mem_of_getElem? (i := 1081) (by decide +kernel)
theorem wl_L_67 : Cond.methodLink RL 67 yX9_breaks ∈ lw_tbl := List.mem_of_getElem? (i := 1082) (by decide +kernel)
theorem wl_X9_153 : Cond.methodLink RX9 153 yX9_broken ∈ lw_tbl := List.mem_of_getElem? (i := 1086) (by decide +kernel)
theorem wl_L_73 : Cond.methodLink RL 73 yX9_cost ∈ lw_tbl := List.mem_of_getElem? (i := 1090) (by decide +kernel)
theorem wl_X9_157 : Cond.methodLink RX9 157 yX9_refuses ∈ lw_tbl := List.mem_of_getElem? (i := 1094) (by decide +kernel)
theorem wl_X9_161 : Cond.methodLink RX9 161 yX9_costOf ∈ lw_tbl := List.mem_of_getElem? (i := 1098) (by decide +kernel)
theorem wl_L_80 : Cond.methodLink RL 80 yX9_digest ∈ lw_tbl := List.mem_of_getElem? (i := 1102) (by decide +kernel)
theorem wl_L_84 : Cond.methodLink RL 84 yX9_begin ∈ lw_tbl := List.mem_of_getElem? (i := 1106) (by decide +kernel)
theorem wl_L_88 : Cond.methodLink RL 88 yX9_read ∈ lw_tbl := List.mem_of_getElem? (i := 1110) (by decide +kernel)
theorem wl_X9_165 : Cond.methodLink RX9 165 yX9_take ∈ lw_tbl := List.mem_of_getElem? (i := 1114) (by decide +kernel)
theorem wl_X9_169 : Cond.methodLink RX9 169 yX9_fails ∈ lw_tbl := List.mem_of_getElem? (i := 1118) (by decide +kernel)
theorem wl_X9_173 : Cond.methodLink RX9 173 yX9_judged ∈ lw_tbl := List.mem_of_getElem? (i := 1122) (by decide +kernel)
theorem wl_X9_187 : Cond.methodLink RX9 187 yX9_of ∈ lw_tbl := List.mem_of_getElem? (i := 1126) (by decide +kernel)
theorem wl_X9_190 : Cond.methodLink RX9 190 yX9_bounds ∈ lw_tbl := List.mem_of_getElem? (i := 1130) (by decide +kernel)
theorem wl_X9_194 : Cond.methodLink RX9 194 yX9_variable ∈ lw_tbl := List.mem_of_getElem? (i := 1133) (by decide +kernel)
theorem wl_X9_197 : Cond.methodLink RX9 197 yX9_row ∈ lw_tbl := List.mem_of_getElem? (i := 1137) (by decide +kernel)
theorem wl_X9_177 : Cond.methodLink RX9 177 yX9_isWhole ∈ lw_tbl := List.mem_of_getElem? (i := 1141) (by decide +kernel)
theorem wl_X9_184 : Cond.methodLink RX9 184 yX9_length ∈ lw_tbl := List.mem_of_getElem? (i := 1145) (by decide +kernel)
theorem wl_X9_181 : Cond.methodLink RX9 181 yX9_works ∈ lw_tbl := List.mem_of_getElem? (i := 1149) (by decide +kernel)
theorem wl_X9_200 : Cond.methodLink RX9 200 yX9_says ∈ lw_tbl := List.mem_of_getElem? (i := 1153) (by decide +kernel)
theorem wk_X9_204 : Cond.constantLong RX9 204 (-1) ∈ lw_tbl := List.mem_of_getElem? (i := 1157) (by decide +kernel)
theorem wl_X9_206 : Cond.methodLink RX9 206 yX9_table ∈ lw_tbl := List.mem_of_getElem? (i := 1158) (by decide +kernel)
theorem wl_X9_209 : Cond.methodLink RX9 209 yX9_assumes ∈ lw_tbl := List.mem_of_getElem? (i := 1162) (by decide +kernel)
theorem wl_X9_212 : Cond.methodLink RX9 212 yX9_divides ∈ lw_tbl := List.mem_of_getElem? (i := 1166) (by decide +kernel)
theorem wl_X9_229 : Cond.methodLink RX9 229 yX9_down ∈ lw_tbl := List.mem_of_getElem? (i := 1170) (by decide +kernel)
theorem wl_X9_215 : Cond.methodLink RX9 215 yX9_joins ∈ lw_tbl := List.mem_of_getElem? (i := 1173) (by decide +kernel)
theorem wl_X9_233 : Cond.methodLink RX9 233 yX9_kind ∈ lw_tbl := List.mem_of_getElem? (i := 1177) (by decide +kernel)
theorem wl_X9_236 : Cond.methodLink RX9 236 yX9_isImpossible ∈ lw_tbl := List.mem_of_getElem? (i := 1181) (by decide +kernel)
theorem wl_X9_218 : Cond.methodLink RX9 218 yX9_pushes ∈ lw_tbl := List.mem_of_getElem? (i := 1185) (by decide +kernel)
theorem wl_X9_221 : Cond.methodLink RX9 221 yX9_isGreat ∈ lw_tbl := List.mem_of_getElem? (i := 1189) (by decide +kernel)
theorem wk_X9_225 : Cond.constantLong RX9 225 (-1000000000000) ∈ lw_tbl := List.mem_of_getElem? (i := 1193) (by decide +kernel)
theorem wk_X9_227 : Cond.constantLong RX9 227 (1000000000000) ∈ lw_tbl := List.mem_of_getElem? (i := 1194) (by decide +kernel)
theorem wl_L_92 : Cond.methodLink RL 92 yX9_fault ∈ lw_tbl := List.mem_of_getElem? (i := 1195) (by decide +kernel)
theorem wl_L_96 : Cond.methodLink RL 96 yX9_row_ ∈ lw_tbl := List.mem_of_getElem? (i := 1199) (by decide +kernel)
theorem wl_X9_239 : Cond.methodLink RX9 239 yX9_assumptions ∈ lw_tbl := List.mem_of_getElem? (i := 1203) (by decide +kernel)
theorem wl_X9_242 : Cond.methodLink RX9 242 yX9_need ∈ lw_tbl := List.mem_of_getElem? (i := 1207) (by decide +kernel)
theorem wl_L_99 : Cond.methodLink RL 99 yX9_assumes_ ∈ lw_tbl := List.mem_of_getElem? (i := 1211) (by decide +kernel)
theorem wl_L_102 : Cond.methodLink RL 102 yX9_holds ∈ lw_tbl := List.mem_of_getElem? (i := 1215) (by decide +kernel)
theorem wl_X9_245 : Cond.methodLink RX9 245 yX9_sum ∈ lw_tbl := List.mem_of_getElem? (i := 1219) (by decide +kernel)
theorem wl_L_106 : Cond.methodLink RL 106 yX9_proved ∈ lw_tbl := List.mem_of_getElem? (i := 1223) (by decide +kernel)
theorem wl_X9_249 : Cond.methodLink RX9 249 yX9_proof ∈ lw_tbl := List.mem_of_getElem? (i := 1227) (by decide +kernel)
theorem wl_L_110 : Cond.methodLink RL 110 yX9_best ∈ lw_tbl := List.mem_of_getElem? (i := 1231) (by decide +kernel)
theorem wl_L_113 : Cond.methodLink RL 113 yX9_least ∈ lw_tbl := List.mem_of_getElem? (i := 1235) (by decide +kernel)
theorem wl_X9_253 : Cond.methodLink RX9 253 yX9_times ∈ lw_tbl := List.mem_of_getElem? (i := 1239) (by decide +kernel)
theorem wl_L_116 : Cond.methodLink RL 116 yX9_trim ∈ lw_tbl := List.mem_of_getElem? (i := 1243) (by decide +kernel)
theorem wl_L_119 : Cond.methodLink RL 119 yX9_number ∈ lw_tbl := List.mem_of_getElem? (i := 1247) (by decide +kernel)
theorem wl_L_123 : Cond.methodLink RL 123 yX9_told ∈ lw_tbl := List.mem_of_getElem? (i := 1251) (by decide +kernel)
theorem wc_J13_bitCount_95d88 : Cond.code yJ13_bitCount_95d88 cJ13_bitCount_95d88 2 (Option.some Jvm.ClassFile.FieldType.int) ∈ lw_tbl := List.mem_of_getElem? (i := 789) (by decide +kernel)
theorem wt_J13_bitCount_95d88 : Cond.static yJ13_bitCount_95d88 ∈ lw_tbl := List.mem_of_getElem? (i := 788) (by decide +kernel)
theorem wc_J9_floorDiv_f86c9 : Cond.code yJ9_floorDiv_f86c9 cJ9_floorDiv_f86c9 6 (Option.some Jvm.ClassFile.FieldType.long) ∈ lw_tbl := List.mem_of_getElem? (i := 623) (by decide +kernel)
theorem wt_J9_floorDiv_f86c9 : Cond.static yJ9_floorDiv_f86c9 ∈ lw_tbl := List.mem_of_getElem? (i := 622) (by decide +kernel)
theorem wc_J9_max_f86c9 : Cond.code yJ9_max_f86c9 cJ9_max_f86c9 4 (Option.some Jvm.ClassFile.FieldType.long) ∈ lw_tbl := List.mem_of_getElem? (i := 887) (by decide +kernel)
theorem wt_J9_max_f86c9 : Cond.static yJ9_max_f86c9 ∈ lw_tbl := List.mem_of_getElem? (i := 886) (by decide +kernel)
theorem wc_J9_min_f86c9 : Cond.code yJ9_min_f86c9 cJ9_min_f86c9 4 (Option.some Jvm.ClassFile.FieldType.long) ∈ lw_tbl := List.mem_of_getElem? (i := 666) (by decide +kernel)
theorem wt_J9_min_f86c9 : Cond.static yJ9_min_f86c9 ∈ lw_tbl := List.mem_of_getElem? (i := 665) (by decide +kernel)
theorem wc_X0_closeGaps : Cond.code yX0_closeGaps cX0_closeGaps 5 (Option.some Jvm.ClassFile.FieldType.int) ∈ lw_tbl := List.mem_of_getElem? (i := 900) (by decide +kernel)
theorem wn_X0_closeGaps : Cond.instanceMethod yX0_closeGaps ∈ lw_tbl := List.mem_of_getElem? (i := 898) (by decide +kernel)
theorem we_X0_closeGaps : Cond.selects RX0 yX0_closeGaps yX0_closeGaps ∈ lw_tbl := List.mem_of_getElem? (i := 899) (by decide +kernel)
theorem wc_X0_end : Cond.code yX0_end cX0_end 1 (Option.none : Option Jvm.ClassFile.FieldType) ∈ lw_tbl := List.mem_of_getElem? (i := 400) (by decide +kernel)
theorem wn_X0_end : Cond.instanceMethod yX0_end ∈ lw_tbl := List.mem_of_getElem? (i := 398) (by decide +kernel)
theorem we_X0_end : Cond.selects RX0 yX0_end yX0_end ∈ lw_tbl := List.mem_of_getElem? (i := 399) (by decide +kernel)
theorem wc_X0_faultOfDigest : Cond.code yX0_faultOfDigest cX0_faultOfDigest 2 (Option.some Jvm.ClassFile.FieldType.int) ∈ lw_tbl := List.mem_of_getElem? (i := 486) (by decide +kernel)
theorem wt_X0_faultOfDigest : Cond.static yX0_faultOfDigest ∈ lw_tbl := List.mem_of_getElem? (i := 485) (by decide +kernel)
theorem wc_X0_init : Cond.code yX0_init cX0_init 1 (Option.none : Option Jvm.ClassFile.FieldType) ∈ lw_tbl := List.mem_of_getElem? (i := 116) (by decide +kernel)
theorem wn_X0_init : Cond.instanceMethod yX0_init ∈ lw_tbl := List.mem_of_getElem? (i := 115) (by decide +kernel)
theorem wc_X0_judge : Cond.code yX0_judge cX0_judge 6 (Option.some Jvm.ClassFile.FieldType.int) ∈ lw_tbl := List.mem_of_getElem? (i := 490) (by decide +kernel)
theorem wn_X0_judge : Cond.instanceMethod yX0_judge ∈ lw_tbl := List.mem_of_getElem? (i := 489) (by decide +kernel)
theorem we_X0_judge : Cond.selects RX0 yX0_judge yX0_judge ∈ lw_tbl := List.mem_of_getElem? (i := 5) (by decide +kernel)
theorem wc_X0_markNeeded : Cond.code yX0_markNeeded cX0_markNeeded 4 (Option.some Jvm.ClassFile.FieldType.int) ∈ lw_tbl := List.mem_of_getElem? (i := 796) (by decide +kernel)
theorem wn_X0_markNeeded : Cond.instanceMethod yX0_markNeeded ∈ lw_tbl := List.mem_of_getElem? (i := 794) (by decide +kernel)
theorem we_X0_markNeeded : Cond.selects RX0 yX0_markNeeded yX0_markNeeded ∈ lw_tbl := List.mem_of_getElem? (i := 795) (by decide +kernel)
theorem wc_X0_markSources : Cond.code yX0_markSources cX0_markSources 4 (Option.none : Option Jvm.ClassFile.FieldType) ∈ lw_tbl := List.mem_of_getElem? (i := 801) (by decide +kernel)
theorem wn_X0_markSources : Cond.instanceMethod yX0_markSources ∈ lw_tbl := List.mem_of_getElem? (i := 800) (by decide +kernel)
theorem we_X0_markSources : Cond.selects RX0 yX0_markSources yX0_markSources ∈ lw_tbl := List.mem_of_getElem? (i := 13) (by decide +kernel)
theorem wc_X0_moveNumbers : Cond.code yX0_moveNumbers cX0_moveNumbers 5 (Option.some Jvm.ClassFile.FieldType.int) ∈ lw_tbl := List.mem_of_getElem? (i := 905) (by decide +kernel)
theorem wn_X0_moveNumbers : Cond.instanceMethod yX0_moveNumbers ∈ lw_tbl := List.mem_of_getElem? (i := 904) (by decide +kernel)
theorem we_X0_moveNumbers : Cond.selects RX0 yX0_moveNumbers yX0_moveNumbers ∈ lw_tbl := List.mem_of_getElem? (i := 15) (by decide +kernel)
theorem wc_X0_numberAt : Cond.code yX0_numberAt cX0_numberAt 2 (Option.some Jvm.ClassFile.FieldType.int) ∈ lw_tbl := List.mem_of_getElem? (i := 805) (by decide +kernel)
theorem wn_X0_numberAt : Cond.instanceMethod yX0_numberAt ∈ lw_tbl := List.mem_of_getElem? (i := 803) (by decide +kernel)
theorem we_X0_numberAt : Cond.selects RX0 yX0_numberAt yX0_numberAt ∈ lw_tbl := List.mem_of_getElem? (i := 804) (by decide +kernel)
theorem wc_X0_setNumber : Cond.code yX0_setNumber cX0_setNumber 3 (Option.none : Option Jvm.ClassFile.FieldType) ∈ lw_tbl := List.mem_of_getElem? (i := 483) (by decide +kernel)
theorem wn_X0_setNumber : Cond.instanceMethod yX0_setNumber ∈ lw_tbl := List.mem_of_getElem? (i := 482) (by decide +kernel)
theorem we_X0_setNumber : Cond.selects RX0 yX0_setNumber yX0_setNumber ∈ lw_tbl := List.mem_of_getElem? (i := 4) (by decide +kernel)
theorem wc_X0_start : Cond.code yX0_start cX0_start 1 (Option.none : Option Jvm.ClassFile.FieldType) ∈ lw_tbl := List.mem_of_getElem? (i := 469) (by decide +kernel)
theorem wn_X0_start : Cond.instanceMethod yX0_start ∈ lw_tbl := List.mem_of_getElem? (i := 467) (by decide +kernel)
theorem we_X0_start : Cond.selects RX0 yX0_start yX0_start ∈ lw_tbl := List.mem_of_getElem? (i := 468) (by decide +kernel)
theorem wc_X0_take : Cond.code yX0_take cX0_take 6 (Option.none : Option Jvm.ClassFile.FieldType) ∈ lw_tbl := List.mem_of_getElem? (i := 479) (by decide +kernel)
theorem wn_X0_take : Cond.instanceMethod yX0_take ∈ lw_tbl := List.mem_of_getElem? (i := 477) (by decide +kernel)
theorem we_X0_take : Cond.selects RX0 yX0_take yX0_take ∈ lw_tbl := List.mem_of_getElem? (i := 478) (by decide +kernel)
theorem wc_X1_add : Cond.code yX1_add cX1_add 2 (Option.none : Option Jvm.ClassFile.FieldType) ∈ lw_tbl := List.mem_of_getElem? (i := 538) (by decide +kernel)
theorem wn_X1_add : Cond.instanceMethod yX1_add ∈ lw_tbl := List.mem_of_getElem? (i := 536) (by decide +kernel)
theorem we_X1_add : Cond.selects RX1 yX1_add yX1_add ∈ lw_tbl := List.mem_of_getElem? (i := 537) (by decide +kernel)
theorem wc_X1_clear : Cond.code yX1_clear cX1_clear 1 (Option.none : Option Jvm.ClassFile.FieldType) ∈ lw_tbl := List.mem_of_getElem? (i := 408) (by decide +kernel)
theorem wn_X1_clear : Cond.instanceMethod yX1_clear ∈ lw_tbl := List.mem_of_getElem? (i := 406) (by decide +kernel)
theorem we_X1_clear : Cond.selects RX1 yX1_clear yX1_clear ∈ lw_tbl := List.mem_of_getElem? (i := 407) (by decide +kernel)
theorem wc_X1_faultBeyond : Cond.code yX1_faultBeyond cX1_faultBeyond 3 (Option.some Jvm.ClassFile.FieldType.int) ∈ lw_tbl := List.mem_of_getElem? (i := 534) (by decide +kernel)
theorem wt_X1_faultBeyond : Cond.static yX1_faultBeyond ∈ lw_tbl := List.mem_of_getElem? (i := 533) (by decide +kernel)
theorem wc_X1_faultOf : Cond.code yX1_faultOf cX1_faultOf 5 (Option.some Jvm.ClassFile.FieldType.int) ∈ lw_tbl := List.mem_of_getElem? (i := 494) (by decide +kernel)
theorem wn_X1_faultOf : Cond.instanceMethod yX1_faultOf ∈ lw_tbl := List.mem_of_getElem? (i := 492) (by decide +kernel)
theorem we_X1_faultOf : Cond.selects RX1 yX1_faultOf yX1_faultOf ∈ lw_tbl := List.mem_of_getElem? (i := 493) (by decide +kernel)
theorem wc_X1_faultOfKind : Cond.code yX1_faultOfKind cX1_faultOfKind 2 (Option.some Jvm.ClassFile.FieldType.int) ∈ lw_tbl := List.mem_of_getElem? (i := 500) (by decide +kernel)
theorem wt_X1_faultOfKind : Cond.static yX1_faultOfKind ∈ lw_tbl := List.mem_of_getElem? (i := 499) (by decide +kernel)
theorem wc_X1_fillBetter : Cond.code yX1_fillBetter cX1_fillBetter 6 (Option.some Jvm.ClassFile.FieldType.int) ∈ lw_tbl := List.mem_of_getElem? (i := 651) (by decide +kernel)
theorem wn_X1_fillBetter : Cond.instanceMethod yX1_fillBetter ∈ lw_tbl := List.mem_of_getElem? (i := 650) (by decide +kernel)
theorem we_X1_fillBetter : Cond.selects RX1 yX1_fillBetter yX1_fillBetter ∈ lw_tbl := List.mem_of_getElem? (i := 10) (by decide +kernel)
theorem wc_X1_fillBranch : Cond.code yX1_fillBranch cX1_fillBranch 2 (Option.some Jvm.ClassFile.FieldType.int) ∈ lw_tbl := List.mem_of_getElem? (i := 627) (by decide +kernel)
theorem wn_X1_fillBranch : Cond.instanceMethod yX1_fillBranch ∈ lw_tbl := List.mem_of_getElem? (i := 626) (by decide +kernel)
theorem we_X1_fillBranch : Cond.selects RX1 yX1_fillBranch yX1_fillBranch ∈ lw_tbl := List.mem_of_getElem? (i := 8) (by decide +kernel)
theorem wc_X1_fillDivided : Cond.code yX1_fillDivided cX1_fillDivided 4 (Option.some Jvm.ClassFile.FieldType.int) ∈ lw_tbl := List.mem_of_getElem? (i := 615) (by decide +kernel)
theorem wt_X1_fillDivided : Cond.static yX1_fillDivided ∈ lw_tbl := List.mem_of_getElem? (i := 614) (by decide +kernel)
theorem wc_X1_fillJoined : Cond.code yX1_fillJoined cX1_fillJoined 7 (Option.some Jvm.ClassFile.FieldType.int) ∈ lw_tbl := List.mem_of_getElem? (i := 631) (by decide +kernel)
theorem wn_X1_fillJoined : Cond.instanceMethod yX1_fillJoined ∈ lw_tbl := List.mem_of_getElem? (i := 630) (by decide +kernel)
theorem we_X1_fillJoined : Cond.selects RX1 yX1_fillJoined yX1_fillJoined ∈ lw_tbl := List.mem_of_getElem? (i := 9) (by decide +kernel)
theorem wc_X1_fillPushed : Cond.code yX1_fillPushed cX1_fillPushed 13 (Option.some Jvm.ClassFile.FieldType.int) ∈ lw_tbl := List.mem_of_getElem? (i := 663) (by decide +kernel)
theorem wt_X1_fillPushed : Cond.static yX1_fillPushed ∈ lw_tbl := List.mem_of_getElem? (i := 662) (by decide +kernel)
theorem wc_X1_fillSum : Cond.code yX1_fillSum cX1_fillSum 5 (Option.some Jvm.ClassFile.FieldType.int) ∈ lw_tbl := List.mem_of_getElem? (i := 591) (by decide +kernel)
theorem wn_X1_fillSum : Cond.instanceMethod yX1_fillSum ∈ lw_tbl := List.mem_of_getElem? (i := 590) (by decide +kernel)
theorem we_X1_fillSum : Cond.selects RX1 yX1_fillSum yX1_fillSum ∈ lw_tbl := List.mem_of_getElem? (i := 7) (by decide +kernel)
theorem wc_X1_init : Cond.code yX1_init cX1_init 1 (Option.none : Option Jvm.ClassFile.FieldType) ∈ lw_tbl := List.mem_of_getElem? (i := 204) (by decide +kernel)
theorem wn_X1_init : Cond.instanceMethod yX1_init ∈ lw_tbl := List.mem_of_getElem? (i := 203) (by decide +kernel)
theorem wc_X1_isGoodPlan : Cond.code yX1_isGoodPlan cX1_isGoodPlan 3 (Option.some Jvm.ClassFile.FieldType.boolean) ∈ lw_tbl := List.mem_of_getElem? (i := 520) (by decide +kernel)
theorem wt_X1_isGoodPlan : Cond.static yX1_isGoodPlan ∈ lw_tbl := List.mem_of_getElem? (i := 519) (by decide +kernel)
theorem wc_X1_isWhole : Cond.code yX1_isWhole cX1_isWhole 1 (Option.some Jvm.ClassFile.FieldType.boolean) ∈ lw_tbl := List.mem_of_getElem? (i := 542) (by decide +kernel)
theorem wn_X1_isWhole : Cond.instanceMethod yX1_isWhole ∈ lw_tbl := List.mem_of_getElem? (i := 540) (by decide +kernel)
theorem we_X1_isWhole : Cond.selects RX1 yX1_isWhole yX1_isWhole ∈ lw_tbl := List.mem_of_getElem? (i := 541) (by decide +kernel)
theorem wc_X1_make : Cond.code yX1_make cX1_make 5 (Option.some Jvm.ClassFile.FieldType.int) ∈ lw_tbl := List.mem_of_getElem? (i := 558) (by decide +kernel)
theorem wn_X1_make : Cond.instanceMethod yX1_make ∈ lw_tbl := List.mem_of_getElem? (i := 556) (by decide +kernel)
theorem we_X1_make : Cond.selects RX1 yX1_make yX1_make ∈ lw_tbl := List.mem_of_getElem? (i := 557) (by decide +kernel)
theorem wc_X1_meaningAt : Cond.code yX1_meaningAt cX1_meaningAt 2 (Option.some Jvm.ClassFile.FieldType.int) ∈ lw_tbl := List.mem_of_getElem? (i := 497) (by decide +kernel)
theorem wt_X1_meaningAt : Cond.static yX1_meaningAt ∈ lw_tbl := List.mem_of_getElem? (i := 496) (by decide +kernel)
theorem wc_X1_wholeLength : Cond.code yX1_wholeLength cX1_wholeLength 1 (Option.some Jvm.ClassFile.FieldType.int) ∈ lw_tbl := List.mem_of_getElem? (i := 546) (by decide +kernel)
theorem wn_X1_wholeLength : Cond.instanceMethod yX1_wholeLength ∈ lw_tbl := List.mem_of_getElem? (i := 545) (by decide +kernel)
theorem we_X1_wholeLength : Cond.selects RX1 yX1_wholeLength yX1_wholeLength ∈ lw_tbl := List.mem_of_getElem? (i := 6) (by decide +kernel)
theorem wc_X2_copyCosts : Cond.code yX2_copyCosts cX2_copyCosts 3 (Option.none : Option Jvm.ClassFile.FieldType) ∈ lw_tbl := List.mem_of_getElem? (i := 659) (by decide +kernel)
theorem wn_X2_copyCosts : Cond.instanceMethod yX2_copyCosts ∈ lw_tbl := List.mem_of_getElem? (i := 657) (by decide +kernel)
theorem we_X2_copyCosts : Cond.selects RX2 yX2_copyCosts yX2_copyCosts ∈ lw_tbl := List.mem_of_getElem? (i := 658) (by decide +kernel)
theorem wc_X2_copyRule : Cond.code yX2_copyRule cX2_copyRule 4 (Option.none : Option Jvm.ClassFile.FieldType) ∈ lw_tbl := List.mem_of_getElem? (i := 562) (by decide +kernel)
theorem wn_X2_copyRule : Cond.instanceMethod yX2_copyRule ∈ lw_tbl := List.mem_of_getElem? (i := 560) (by decide +kernel)
theorem we_X2_copyRule : Cond.selects RX2 yX2_copyRule yX2_copyRule ∈ lw_tbl := List.mem_of_getElem? (i := 561) (by decide +kernel)
theorem wc_X2_copyTable : Cond.code yX2_copyTable cX2_copyTable 8 (Option.none : Option Jvm.ClassFile.FieldType) ∈ lw_tbl := List.mem_of_getElem? (i := 586) (by decide +kernel)
theorem wn_X2_copyTable : Cond.instanceMethod yX2_copyTable ∈ lw_tbl := List.mem_of_getElem? (i := 584) (by decide +kernel)
theorem we_X2_copyTable : Cond.selects RX2 yX2_copyTable yX2_copyTable ∈ lw_tbl := List.mem_of_getElem? (i := 585) (by decide +kernel)
theorem wc_X2_costOf : Cond.code yX2_costOf cX2_costOf 2 (Option.some Jvm.ClassFile.FieldType.long) ∈ lw_tbl := List.mem_of_getElem? (i := 655) (by decide +kernel)
theorem wn_X2_costOf : Cond.instanceMethod yX2_costOf ∈ lw_tbl := List.mem_of_getElem? (i := 653) (by decide +kernel)
theorem we_X2_costOf : Cond.selects RX2 yX2_costOf yX2_costOf ∈ lw_tbl := List.mem_of_getElem? (i := 654) (by decide +kernel)
theorem wc_X2_fillFrom : Cond.code yX2_fillFrom cX2_fillFrom 4 (Option.some Jvm.ClassFile.FieldType.boolean) ∈ lw_tbl := List.mem_of_getElem? (i := 354) (by decide +kernel)
theorem wn_X2_fillFrom : Cond.instanceMethod yX2_fillFrom ∈ lw_tbl := List.mem_of_getElem? (i := 352) (by decide +kernel)
theorem we_X2_fillFrom : Cond.selects RX2 yX2_fillFrom yX2_fillFrom ∈ lw_tbl := List.mem_of_getElem? (i := 353) (by decide +kernel)
theorem wc_X2_fillTable : Cond.code yX2_fillTable cX2_fillTable 4 (Option.none : Option Jvm.ClassFile.FieldType) ∈ lw_tbl := List.mem_of_getElem? (i := 379) (by decide +kernel)
theorem wn_X2_fillTable : Cond.instanceMethod yX2_fillTable ∈ lw_tbl := List.mem_of_getElem? (i := 378) (by decide +kernel)
theorem we_X2_fillTable : Cond.selects RX2 yX2_fillTable yX2_fillTable ∈ lw_tbl := List.mem_of_getElem? (i := 1) (by decide +kernel)
theorem wc_X2_fillVariable : Cond.code yX2_fillVariable cX2_fillVariable 4 (Option.none : Option Jvm.ClassFile.FieldType) ∈ lw_tbl := List.mem_of_getElem? (i := 373) (by decide +kernel)
theorem wn_X2_fillVariable : Cond.instanceMethod yX2_fillVariable ∈ lw_tbl := List.mem_of_getElem? (i := 372) (by decide +kernel)
theorem we_X2_fillVariable : Cond.selects RX2 yX2_fillVariable yX2_fillVariable ∈ lw_tbl := List.mem_of_getElem? (i := 0) (by decide +kernel)
theorem wc_X2_firstBroken : Cond.code yX2_firstBroken cX2_firstBroken 3 (Option.some Jvm.ClassFile.FieldType.int) ∈ lw_tbl := List.mem_of_getElem? (i := 446) (by decide +kernel)
theorem wn_X2_firstBroken : Cond.instanceMethod yX2_firstBroken ∈ lw_tbl := List.mem_of_getElem? (i := 444) (by decide +kernel)
theorem we_X2_firstBroken : Cond.selects RX2 yX2_firstBroken yX2_firstBroken ∈ lw_tbl := List.mem_of_getElem? (i := 445) (by decide +kernel)
theorem wc_X2_hasPair : Cond.code yX2_hasPair cX2_hasPair 5 (Option.some Jvm.ClassFile.FieldType.boolean) ∈ lw_tbl := List.mem_of_getElem? (i := 457) (by decide +kernel)
theorem wn_X2_hasPair : Cond.instanceMethod yX2_hasPair ∈ lw_tbl := List.mem_of_getElem? (i := 456) (by decide +kernel)
theorem we_X2_hasPair : Cond.selects RX2 yX2_hasPair yX2_hasPair ∈ lw_tbl := List.mem_of_getElem? (i := 3) (by decide +kernel)
theorem wc_X2_hasRule : Cond.code yX2_hasRule cX2_hasRule 2 (Option.some Jvm.ClassFile.FieldType.boolean) ∈ lw_tbl := List.mem_of_getElem? (i := 527) (by decide +kernel)
theorem wn_X2_hasRule : Cond.instanceMethod yX2_hasRule ∈ lw_tbl := List.mem_of_getElem? (i := 525) (by decide +kernel)
theorem we_X2_hasRule : Cond.selects RX2 yX2_hasRule yX2_hasRule ∈ lw_tbl := List.mem_of_getElem? (i := 526) (by decide +kernel)
theorem wc_X2_hasTable : Cond.code yX2_hasTable cX2_hasTable 2 (Option.some Jvm.ClassFile.FieldType.boolean) ∈ lw_tbl := List.mem_of_getElem? (i := 517) (by decide +kernel)
theorem wn_X2_hasTable : Cond.instanceMethod yX2_hasTable ∈ lw_tbl := List.mem_of_getElem? (i := 515) (by decide +kernel)
theorem we_X2_hasTable : Cond.selects RX2 yX2_hasTable yX2_hasTable ∈ lw_tbl := List.mem_of_getElem? (i := 516) (by decide +kernel)
theorem wc_X2_hasVariable : Cond.code yX2_hasVariable cX2_hasVariable 2 (Option.some Jvm.ClassFile.FieldType.boolean) ∈ lw_tbl := List.mem_of_getElem? (i := 531) (by decide +kernel)
theorem wn_X2_hasVariable : Cond.instanceMethod yX2_hasVariable ∈ lw_tbl := List.mem_of_getElem? (i := 529) (by decide +kernel)
theorem we_X2_hasVariable : Cond.selects RX2 yX2_hasVariable yX2_hasVariable ∈ lw_tbl := List.mem_of_getElem? (i := 530) (by decide +kernel)
theorem wc_X2_highOf : Cond.code yX2_highOf cX2_highOf 2 (Option.some Jvm.ClassFile.FieldType.int) ∈ lw_tbl := List.mem_of_getElem? (i := 571) (by decide +kernel)
theorem wn_X2_highOf : Cond.instanceMethod yX2_highOf ∈ lw_tbl := List.mem_of_getElem? (i := 569) (by decide +kernel)
theorem we_X2_highOf : Cond.selects RX2 yX2_highOf yX2_highOf ∈ lw_tbl := List.mem_of_getElem? (i := 570) (by decide +kernel)
theorem wc_X2_init : Cond.code yX2_init cX2_init 1 (Option.none : Option Jvm.ClassFile.FieldType) ∈ lw_tbl := List.mem_of_getElem? (i := 256) (by decide +kernel)
theorem wn_X2_init : Cond.instanceMethod yX2_init ∈ lw_tbl := List.mem_of_getElem? (i := 255) (by decide +kernel)
theorem wc_X2_lowOf : Cond.code yX2_lowOf cX2_lowOf 2 (Option.some Jvm.ClassFile.FieldType.int) ∈ lw_tbl := List.mem_of_getElem? (i := 582) (by decide +kernel)
theorem wn_X2_lowOf : Cond.instanceMethod yX2_lowOf ∈ lw_tbl := List.mem_of_getElem? (i := 580) (by decide +kernel)
theorem we_X2_lowOf : Cond.selects RX2 yX2_lowOf yX2_lowOf ∈ lw_tbl := List.mem_of_getElem? (i := 581) (by decide +kernel)
theorem wc_X3_at : Cond.code yX3_at cX3_at 2 (Option.some Jvm.ClassFile.FieldType.int) ∈ lw_tbl := List.mem_of_getElem? (i := 449) (by decide +kernel)
theorem wt_X3_at : Cond.static yX3_at ∈ lw_tbl := List.mem_of_getElem? (i := 448) (by decide +kernel)
theorem wc_X3_isWithin : Cond.code yX3_isWithin cX3_isWithin 3 (Option.some Jvm.ClassFile.FieldType.boolean) ∈ lw_tbl := List.mem_of_getElem? (i := 369) (by decide +kernel)
theorem wt_X3_isWithin : Cond.static yX3_isWithin ∈ lw_tbl := List.mem_of_getElem? (i := 368) (by decide +kernel)
theorem wc_X3_sumOf : Cond.code yX3_sumOf cX3_sumOf 5 (Option.some Jvm.ClassFile.FieldType.long) ∈ lw_tbl := List.mem_of_getElem? (i := 453) (by decide +kernel)
theorem wt_X3_sumOf : Cond.static yX3_sumOf ∈ lw_tbl := List.mem_of_getElem? (i := 452) (by decide +kernel)
theorem wc_X4_add : Cond.code yX4_add cX4_add 4 (Option.some Jvm.ClassFile.FieldType.int) ∈ lw_tbl := List.mem_of_getElem? (i := 428) (by decide +kernel)
theorem wn_X4_add : Cond.instanceMethod yX4_add ∈ lw_tbl := List.mem_of_getElem? (i := 426) (by decide +kernel)
theorem we_X4_add : Cond.selects RX4 yX4_add yX4_add ∈ lw_tbl := List.mem_of_getElem? (i := 427) (by decide +kernel)
theorem wc_X4_at : Cond.code yX4_at cX4_at 2 (Option.some (Jvm.ClassFile.FieldType.array Jvm.ClassFile.FieldType.int)) ∈ lw_tbl := List.mem_of_getElem? (i := 441) (by decide +kernel)
theorem wn_X4_at : Cond.instanceMethod yX4_at ∈ lw_tbl := List.mem_of_getElem? (i := 439) (by decide +kernel)
theorem we_X4_at : Cond.selects RX4 yX4_at yX4_at ∈ lw_tbl := List.mem_of_getElem? (i := 440) (by decide +kernel)
theorem wc_X4_clear : Cond.code yX4_clear cX4_clear 1 (Option.none : Option Jvm.ClassFile.FieldType) ∈ lw_tbl := List.mem_of_getElem? (i := 396) (by decide +kernel)
theorem wn_X4_clear : Cond.instanceMethod yX4_clear ∈ lw_tbl := List.mem_of_getElem? (i := 394) (by decide +kernel)
theorem we_X4_clear : Cond.selects RX4 yX4_clear yX4_clear ∈ lw_tbl := List.mem_of_getElem? (i := 395) (by decide +kernel)
theorem wc_X4_has : Cond.code yX4_has cX4_has 2 (Option.some Jvm.ClassFile.FieldType.boolean) ∈ lw_tbl := List.mem_of_getElem? (i := 437) (by decide +kernel)
theorem wn_X4_has : Cond.instanceMethod yX4_has ∈ lw_tbl := List.mem_of_getElem? (i := 435) (by decide +kernel)
theorem we_X4_has : Cond.selects RX4 yX4_has yX4_has ∈ lw_tbl := List.mem_of_getElem? (i := 436) (by decide +kernel)
theorem wc_X4_init : Cond.code yX4_init cX4_init 1 (Option.none : Option Jvm.ClassFile.FieldType) ∈ lw_tbl := List.mem_of_getElem? (i := 97) (by decide +kernel)
theorem wn_X4_init : Cond.instanceMethod yX4_init ∈ lw_tbl := List.mem_of_getElem? (i := 96) (by decide +kernel)
theorem wc_X5_addTimes : Cond.code yX5_addTimes cX5_addTimes 5 (Option.none : Option Jvm.ClassFile.FieldType) ∈ lw_tbl := List.mem_of_getElem? (i := 600) (by decide +kernel)
theorem wn_X5_addTimes : Cond.instanceMethod yX5_addTimes ∈ lw_tbl := List.mem_of_getElem? (i := 598) (by decide +kernel)
theorem we_X5_addTimes : Cond.selects RX5 yX5_addTimes yX5_addTimes ∈ lw_tbl := List.mem_of_getElem? (i := 599) (by decide +kernel)
theorem wc_X5_boundOfCost : Cond.code yX5_boundOfCost cX5_boundOfCost 4 (Option.some Jvm.ClassFile.FieldType.long) ∈ lw_tbl := List.mem_of_getElem? (i := 878) (by decide +kernel)
theorem wn_X5_boundOfCost : Cond.instanceMethod yX5_boundOfCost ∈ lw_tbl := List.mem_of_getElem? (i := 876) (by decide +kernel)
theorem we_X5_boundOfCost : Cond.selects RX5 yX5_boundOfCost yX5_boundOfCost ∈ lw_tbl := List.mem_of_getElem? (i := 877) (by decide +kernel)
theorem wc_X5_clear : Cond.code yX5_clear cX5_clear 2 (Option.none : Option Jvm.ClassFile.FieldType) ∈ lw_tbl := List.mem_of_getElem? (i := 554) (by decide +kernel)
theorem wn_X5_clear : Cond.instanceMethod yX5_clear ∈ lw_tbl := List.mem_of_getElem? (i := 552) (by decide +kernel)
theorem we_X5_clear : Cond.selects RX5 yX5_clear yX5_clear ∈ lw_tbl := List.mem_of_getElem? (i := 553) (by decide +kernel)
theorem wc_X5_factorOf : Cond.code yX5_factorOf cX5_factorOf 2 (Option.some Jvm.ClassFile.FieldType.long) ∈ lw_tbl := List.mem_of_getElem? (i := 619) (by decide +kernel)
theorem wn_X5_factorOf : Cond.instanceMethod yX5_factorOf ∈ lw_tbl := List.mem_of_getElem? (i := 617) (by decide +kernel)
theorem we_X5_factorOf : Cond.selects RX5 yX5_factorOf yX5_factorOf ∈ lw_tbl := List.mem_of_getElem? (i := 618) (by decide +kernel)
theorem wc_X5_hasFactorsOf : Cond.code yX5_hasFactorsOf cX5_hasFactorsOf 3 (Option.some Jvm.ClassFile.FieldType.boolean) ∈ lw_tbl := List.mem_of_getElem? (i := 639) (by decide +kernel)
theorem wn_X5_hasFactorsOf : Cond.instanceMethod yX5_hasFactorsOf ∈ lw_tbl := List.mem_of_getElem? (i := 637) (by decide +kernel)
theorem we_X5_hasFactorsOf : Cond.selects RX5 yX5_hasFactorsOf yX5_hasFactorsOf ∈ lw_tbl := List.mem_of_getElem? (i := 638) (by decide +kernel)
theorem wc_X5_inheritAssumptions : Cond.code yX5_inheritAssumptions cX5_inheritAssumptions 2 (Option.none : Option Jvm.ClassFile.FieldType) ∈ lw_tbl := List.mem_of_getElem? (i := 604) (by decide +kernel)
theorem wn_X5_inheritAssumptions : Cond.instanceMethod yX5_inheritAssumptions ∈ lw_tbl := List.mem_of_getElem? (i := 602) (by decide +kernel)
theorem we_X5_inheritAssumptions : Cond.selects RX5 yX5_inheritAssumptions yX5_inheritAssumptions ∈ lw_tbl := List.mem_of_getElem? (i := 603) (by decide +kernel)
theorem wc_X5_inheritLimit : Cond.code yX5_inheritLimit cX5_inheritLimit 2 (Option.none : Option Jvm.ClassFile.FieldType) ∈ lw_tbl := List.mem_of_getElem? (i := 608) (by decide +kernel)
theorem wn_X5_inheritLimit : Cond.instanceMethod yX5_inheritLimit ∈ lw_tbl := List.mem_of_getElem? (i := 606) (by decide +kernel)
theorem we_X5_inheritLimit : Cond.selects RX5 yX5_inheritLimit yX5_inheritLimit ∈ lw_tbl := List.mem_of_getElem? (i := 607) (by decide +kernel)
theorem wc_X5_init : Cond.code yX5_init cX5_init 1 (Option.none : Option Jvm.ClassFile.FieldType) ∈ lw_tbl := List.mem_of_getElem? (i := 129) (by decide +kernel)
theorem wn_X5_init : Cond.instanceMethod yX5_init ∈ lw_tbl := List.mem_of_getElem? (i := 128) (by decide +kernel)
theorem wc_X5_isBranch : Cond.code yX5_isBranch cX5_isBranch 2 (Option.some Jvm.ClassFile.FieldType.boolean) ∈ lw_tbl := List.mem_of_getElem? (i := 635) (by decide +kernel)
theorem wn_X5_isBranch : Cond.instanceMethod yX5_isBranch ∈ lw_tbl := List.mem_of_getElem? (i := 633) (by decide +kernel)
theorem we_X5_isBranch : Cond.selects RX5 yX5_isBranch yX5_isBranch ∈ lw_tbl := List.mem_of_getElem? (i := 634) (by decide +kernel)
theorem wc_X5_isImpossible : Cond.code yX5_isImpossible cX5_isImpossible 1 (Option.some Jvm.ClassFile.FieldType.boolean) ∈ lw_tbl := List.mem_of_getElem? (i := 643) (by decide +kernel)
theorem wn_X5_isImpossible : Cond.instanceMethod yX5_isImpossible ∈ lw_tbl := List.mem_of_getElem? (i := 641) (by decide +kernel)
theorem we_X5_isImpossible : Cond.selects RX5 yX5_isImpossible yX5_isImpossible ∈ lw_tbl := List.mem_of_getElem? (i := 642) (by decide +kernel)
theorem wc_X5_isKeptBy : Cond.code yX5_isKeptBy cX5_isKeptBy 5 (Option.some Jvm.ClassFile.FieldType.boolean) ∈ lw_tbl := List.mem_of_getElem? (i := 835) (by decide +kernel)
theorem wn_X5_isKeptBy : Cond.instanceMethod yX5_isKeptBy ∈ lw_tbl := List.mem_of_getElem? (i := 833) (by decide +kernel)
theorem we_X5_isKeptBy : Cond.selects RX5 yX5_isKeptBy yX5_isKeptBy ∈ lw_tbl := List.mem_of_getElem? (i := 834) (by decide +kernel)
theorem wc_X5_isMadeOfZeros : Cond.code yX5_isMadeOfZeros cX5_isMadeOfZeros 2 (Option.some Jvm.ClassFile.FieldType.boolean) ∈ lw_tbl := List.mem_of_getElem? (i := 647) (by decide +kernel)
theorem wn_X5_isMadeOfZeros : Cond.instanceMethod yX5_isMadeOfZeros ∈ lw_tbl := List.mem_of_getElem? (i := 645) (by decide +kernel)
theorem we_X5_isMadeOfZeros : Cond.selects RX5 yX5_isMadeOfZeros yX5_isMadeOfZeros ∈ lw_tbl := List.mem_of_getElem? (i := 646) (by decide +kernel)
theorem wc_X5_isTooGreat : Cond.code yX5_isTooGreat cX5_isTooGreat 2 (Option.some Jvm.ClassFile.FieldType.boolean) ∈ lw_tbl := List.mem_of_getElem? (i := 670) (by decide +kernel)
theorem wn_X5_isTooGreat : Cond.instanceMethod yX5_isTooGreat ∈ lw_tbl := List.mem_of_getElem? (i := 668) (by decide +kernel)
theorem we_X5_isTooGreat : Cond.selects RX5 yX5_isTooGreat yX5_isTooGreat ∈ lw_tbl := List.mem_of_getElem? (i := 669) (by decide +kernel)
theorem wc_X5_setFactor : Cond.code yX5_setFactor cX5_setFactor 4 (Option.none : Option Jvm.ClassFile.FieldType) ∈ lw_tbl := List.mem_of_getElem? (i := 567) (by decide +kernel)
theorem wn_X5_setFactor : Cond.instanceMethod yX5_setFactor ∈ lw_tbl := List.mem_of_getElem? (i := 565) (by decide +kernel)
theorem we_X5_setFactor : Cond.selects RX5 yX5_setFactor yX5_setFactor ∈ lw_tbl := List.mem_of_getElem? (i := 566) (by decide +kernel)
theorem wc_X5_setLimit : Cond.code yX5_setLimit cX5_setLimit 3 (Option.none : Option Jvm.ClassFile.FieldType) ∈ lw_tbl := List.mem_of_getElem? (i := 612) (by decide +kernel)
theorem wn_X5_setLimit : Cond.instanceMethod yX5_setLimit ∈ lw_tbl := List.mem_of_getElem? (i := 610) (by decide +kernel)
theorem we_X5_setLimit : Cond.selects RX5 yX5_setLimit yX5_setLimit ∈ lw_tbl := List.mem_of_getElem? (i := 611) (by decide +kernel)
theorem wc_X5_setSingle : Cond.code yX5_setSingle cX5_setSingle 6 (Option.none : Option Jvm.ClassFile.FieldType) ∈ lw_tbl := List.mem_of_getElem? (i := 576) (by decide +kernel)
theorem wn_X5_setSingle : Cond.instanceMethod yX5_setSingle ∈ lw_tbl := List.mem_of_getElem? (i := 574) (by decide +kernel)
theorem we_X5_setSingle : Cond.selects RX5 yX5_setSingle yX5_setSingle ∈ lw_tbl := List.mem_of_getElem? (i := 575) (by decide +kernel)
theorem wc_X5_timesLessCosts : Cond.code yX5_timesLessCosts cX5_timesLessCosts 6 (Option.some Jvm.ClassFile.FieldType.long) ∈ lw_tbl := List.mem_of_getElem? (i := 883) (by decide +kernel)
theorem wn_X5_timesLessCosts : Cond.instanceMethod yX5_timesLessCosts ∈ lw_tbl := List.mem_of_getElem? (i := 882) (by decide +kernel)
theorem we_X5_timesLessCosts : Cond.selects RX5 yX5_timesLessCosts yX5_timesLessCosts ∈ lw_tbl := List.mem_of_getElem? (i := 14) (by decide +kernel)
theorem wc_X6_areBranchesFull : Cond.code yX6_areBranchesFull cX6_areBranchesFull 1 (Option.some Jvm.ClassFile.FieldType.boolean) ∈ lw_tbl := List.mem_of_getElem? (i := 509) (by decide +kernel)
theorem wn_X6_areBranchesFull : Cond.instanceMethod yX6_areBranchesFull ∈ lw_tbl := List.mem_of_getElem? (i := 507) (by decide +kernel)
theorem we_X6_areBranchesFull : Cond.selects RX6 yX6_areBranchesFull yX6_areBranchesFull ∈ lw_tbl := List.mem_of_getElem? (i := 508) (by decide +kernel)
theorem wc_X6_areFull : Cond.code yX6_areFull cX6_areFull 1 (Option.some Jvm.ClassFile.FieldType.boolean) ∈ lw_tbl := List.mem_of_getElem? (i := 505) (by decide +kernel)
theorem wn_X6_areFull : Cond.instanceMethod yX6_areFull ∈ lw_tbl := List.mem_of_getElem? (i := 503) (by decide +kernel)
theorem we_X6_areFull : Cond.selects RX6 yX6_areFull yX6_areFull ∈ lw_tbl := List.mem_of_getElem? (i := 504) (by decide +kernel)
theorem wc_X6_assumption : Cond.code yX6_assumption cX6_assumption 7 (Option.some Jvm.ClassFile.FieldType.int) ∈ lw_tbl := List.mem_of_getElem? (i := 819) (by decide +kernel)
theorem wn_X6_assumption : Cond.instanceMethod yX6_assumption ∈ lw_tbl := List.mem_of_getElem? (i := 817) (by decide +kernel)
theorem we_X6_assumption : Cond.selects RX6 yX6_assumption yX6_assumption ∈ lw_tbl := List.mem_of_getElem? (i := 818) (by decide +kernel)
theorem wc_X6_at : Cond.code yX6_at cX6_at 2 (Option.some (Jvm.ClassFile.FieldType.object "PlanCertificates$Row")) ∈ lw_tbl := List.mem_of_getElem? (i := 595) (by decide +kernel)
theorem wn_X6_at : Cond.instanceMethod yX6_at ∈ lw_tbl := List.mem_of_getElem? (i := 593) (by decide +kernel)
theorem we_X6_at : Cond.selects RX6 yX6_at yX6_at ∈ lw_tbl := List.mem_of_getElem? (i := 594) (by decide +kernel)
theorem wc_X6_clear : Cond.code yX6_clear cX6_clear 1 (Option.none : Option Jvm.ClassFile.FieldType) ∈ lw_tbl := List.mem_of_getElem? (i := 404) (by decide +kernel)
theorem wn_X6_clear : Cond.instanceMethod yX6_clear ∈ lw_tbl := List.mem_of_getElem? (i := 402) (by decide +kernel)
theorem we_X6_clear : Cond.selects RX6 yX6_clear yX6_clear ∈ lw_tbl := List.mem_of_getElem? (i := 403) (by decide +kernel)
theorem wc_X6_firstProof : Cond.code yX6_firstProof cX6_firstProof 4 (Option.some Jvm.ClassFile.FieldType.int) ∈ lw_tbl := List.mem_of_getElem? (i := 690) (by decide +kernel)
theorem wn_X6_firstProof : Cond.instanceMethod yX6_firstProof ∈ lw_tbl := List.mem_of_getElem? (i := 688) (by decide +kernel)
theorem we_X6_firstProof : Cond.selects RX6 yX6_firstProof yX6_firstProof ∈ lw_tbl := List.mem_of_getElem? (i := 689) (by decide +kernel)
theorem wc_X6_fresh : Cond.code yX6_fresh cX6_fresh 2 (Option.some (Jvm.ClassFile.FieldType.object "PlanCertificates$Row")) ∈ lw_tbl := List.mem_of_getElem? (i := 550) (by decide +kernel)
theorem wn_X6_fresh : Cond.instanceMethod yX6_fresh ∈ lw_tbl := List.mem_of_getElem? (i := 548) (by decide +kernel)
theorem we_X6_fresh : Cond.selects RX6 yX6_fresh yX6_fresh ∈ lw_tbl := List.mem_of_getElem? (i := 549) (by decide +kernel)
theorem wc_X6_greatestBound : Cond.code yX6_greatestBound cX6_greatestBound 5 (Option.some Jvm.ClassFile.FieldType.long) ∈ lw_tbl := List.mem_of_getElem? (i := 873) (by decide +kernel)
theorem wn_X6_greatestBound : Cond.instanceMethod yX6_greatestBound ∈ lw_tbl := List.mem_of_getElem? (i := 871) (by decide +kernel)
theorem we_X6_greatestBound : Cond.selects RX6 yX6_greatestBound yX6_greatestBound ∈ lw_tbl := List.mem_of_getElem? (i := 872) (by decide +kernel)
theorem wc_X6_has : Cond.code yX6_has cX6_has 2 (Option.some Jvm.ClassFile.FieldType.boolean) ∈ lw_tbl := List.mem_of_getElem? (i := 513) (by decide +kernel)
theorem wn_X6_has : Cond.instanceMethod yX6_has ∈ lw_tbl := List.mem_of_getElem? (i := 511) (by decide +kernel)
theorem we_X6_has : Cond.selects RX6 yX6_has yX6_has ∈ lw_tbl := List.mem_of_getElem? (i := 512) (by decide +kernel)
theorem wc_X6_init : Cond.code yX6_init cX6_init 2 (Option.none : Option Jvm.ClassFile.FieldType) ∈ lw_tbl := List.mem_of_getElem? (i := 122) (by decide +kernel)
theorem wn_X6_init : Cond.instanceMethod yX6_init ∈ lw_tbl := List.mem_of_getElem? (i := 121) (by decide +kernel)
theorem wc_X6_keepFresh : Cond.code yX6_keepFresh cX6_keepFresh 1 (Option.none : Option Jvm.ClassFile.FieldType) ∈ lw_tbl := List.mem_of_getElem? (i := 676) (by decide +kernel)
theorem wn_X6_keepFresh : Cond.instanceMethod yX6_keepFresh ∈ lw_tbl := List.mem_of_getElem? (i := 674) (by decide +kernel)
theorem we_X6_keepFresh : Cond.selects RX6 yX6_keepFresh yX6_keepFresh ∈ lw_tbl := List.mem_of_getElem? (i := 675) (by decide +kernel)
theorem wc_X6_keepsAssumptions : Cond.code yX6_keepsAssumptions cX6_keepsAssumptions 4 (Option.some Jvm.ClassFile.FieldType.boolean) ∈ lw_tbl := List.mem_of_getElem? (i := 831) (by decide +kernel)
theorem wn_X6_keepsAssumptions : Cond.instanceMethod yX6_keepsAssumptions ∈ lw_tbl := List.mem_of_getElem? (i := 829) (by decide +kernel)
theorem we_X6_keepsAssumptions : Cond.selects RX6 yX6_keepsAssumptions yX6_keepsAssumptions ∈ lw_tbl := List.mem_of_getElem? (i := 830) (by decide +kernel)
theorem wc_X7_append : Cond.code yX7_append cX7_append 2 (Option.none : Option Jvm.ClassFile.FieldType) ∈ lw_tbl := List.mem_of_getElem? (i := 338) (by decide +kernel)
theorem wn_X7_append : Cond.instanceMethod yX7_append ∈ lw_tbl := List.mem_of_getElem? (i := 336) (by decide +kernel)
theorem we_X7_append : Cond.selects RX7 yX7_append yX7_append ∈ lw_tbl := List.mem_of_getElem? (i := 337) (by decide +kernel)
theorem wc_X7_at : Cond.code yX7_at cX7_at 2 (Option.some Jvm.ClassFile.FieldType.int) ∈ lw_tbl := List.mem_of_getElem? (i := 366) (by decide +kernel)
theorem wn_X7_at : Cond.instanceMethod yX7_at ∈ lw_tbl := List.mem_of_getElem? (i := 364) (by decide +kernel)
theorem we_X7_at : Cond.selects RX7 yX7_at yX7_at ∈ lw_tbl := List.mem_of_getElem? (i := 365) (by decide +kernel)
theorem wc_X7_clear : Cond.code yX7_clear cX7_clear 1 (Option.none : Option Jvm.ClassFile.FieldType) ∈ lw_tbl := List.mem_of_getElem? (i := 346) (by decide +kernel)
theorem wn_X7_clear : Cond.instanceMethod yX7_clear ∈ lw_tbl := List.mem_of_getElem? (i := 344) (by decide +kernel)
theorem we_X7_clear : Cond.selects RX7 yX7_clear yX7_clear ∈ lw_tbl := List.mem_of_getElem? (i := 345) (by decide +kernel)
theorem wc_X7_digestOfAll : Cond.code yX7_digestOfAll cX7_digestOfAll 3 (Option.some Jvm.ClassFile.FieldType.int) ∈ lw_tbl := List.mem_of_getElem? (i := 388) (by decide +kernel)
theorem wn_X7_digestOfAll : Cond.instanceMethod yX7_digestOfAll ∈ lw_tbl := List.mem_of_getElem? (i := 386) (by decide +kernel)
theorem we_X7_digestOfAll : Cond.selects RX7 yX7_digestOfAll yX7_digestOfAll ∈ lw_tbl := List.mem_of_getElem? (i := 387) (by decide +kernel)
theorem wc_X7_hasRoomFor : Cond.code yX7_hasRoomFor cX7_hasRoomFor 2 (Option.some Jvm.ClassFile.FieldType.boolean) ∈ lw_tbl := List.mem_of_getElem? (i := 334) (by decide +kernel)
theorem wn_X7_hasRoomFor : Cond.instanceMethod yX7_hasRoomFor ∈ lw_tbl := List.mem_of_getElem? (i := 332) (by decide +kernel)
theorem we_X7_hasRoomFor : Cond.selects RX7 yX7_hasRoomFor yX7_hasRoomFor ∈ lw_tbl := List.mem_of_getElem? (i := 333) (by decide +kernel)
theorem wc_X7_init : Cond.code yX7_init cX7_init 1 (Option.none : Option Jvm.ClassFile.FieldType) ∈ lw_tbl := List.mem_of_getElem? (i := 75) (by decide +kernel)
theorem wn_X7_init : Cond.instanceMethod yX7_init ∈ lw_tbl := List.mem_of_getElem? (i := 74) (by decide +kernel)
theorem wc_X7_isPlanOf : Cond.code yX7_isPlanOf cX7_isPlanOf 3 (Option.some Jvm.ClassFile.FieldType.boolean) ∈ lw_tbl := List.mem_of_getElem? (i := 420) (by decide +kernel)
theorem wn_X7_isPlanOf : Cond.instanceMethod yX7_isPlanOf ∈ lw_tbl := List.mem_of_getElem? (i := 418) (by decide +kernel)
theorem we_X7_isPlanOf : Cond.selects RX7 yX7_isPlanOf yX7_isPlanOf ∈ lw_tbl := List.mem_of_getElem? (i := 419) (by decide +kernel)
theorem wc_X7_isReadWhole : Cond.code yX7_isReadWhole cX7_isReadWhole 1 (Option.some Jvm.ClassFile.FieldType.boolean) ∈ lw_tbl := List.mem_of_getElem? (i := 392) (by decide +kernel)
theorem wn_X7_isReadWhole : Cond.instanceMethod yX7_isReadWhole ∈ lw_tbl := List.mem_of_getElem? (i := 390) (by decide +kernel)
theorem we_X7_isReadWhole : Cond.selects RX7 yX7_isReadWhole yX7_isReadWhole ∈ lw_tbl := List.mem_of_getElem? (i := 391) (by decide +kernel)
theorem wc_X7_next : Cond.code yX7_next cX7_next 4 (Option.some Jvm.ClassFile.FieldType.int) ∈ lw_tbl := List.mem_of_getElem? (i := 362) (by decide +kernel)
theorem wn_X7_next : Cond.instanceMethod yX7_next ∈ lw_tbl := List.mem_of_getElem? (i := 360) (by decide +kernel)
theorem we_X7_next : Cond.selects RX7 yX7_next yX7_next ∈ lw_tbl := List.mem_of_getElem? (i := 361) (by decide +kernel)
theorem wc_X7_nextBut : Cond.code yX7_nextBut cX7_nextBut 4 (Option.some Jvm.ClassFile.FieldType.int) ∈ lw_tbl := List.mem_of_getElem? (i := 383) (by decide +kernel)
theorem wn_X7_nextBut : Cond.instanceMethod yX7_nextBut ∈ lw_tbl := List.mem_of_getElem? (i := 381) (by decide +kernel)
theorem we_X7_nextBut : Cond.selects RX7 yX7_nextBut yX7_nextBut ∈ lw_tbl := List.mem_of_getElem? (i := 382) (by decide +kernel)
theorem wc_X7_rewind : Cond.code yX7_rewind cX7_rewind 1 (Option.none : Option Jvm.ClassFile.FieldType) ∈ lw_tbl := List.mem_of_getElem? (i := 358) (by decide +kernel)
theorem wn_X7_rewind : Cond.instanceMethod yX7_rewind ∈ lw_tbl := List.mem_of_getElem? (i := 356) (by decide +kernel)
theorem we_X7_rewind : Cond.selects RX7 yX7_rewind yX7_rewind ∈ lw_tbl := List.mem_of_getElem? (i := 357) (by decide +kernel)
theorem wc_X8_assumes : Cond.code yX8_assumes cX8_assumes 3 (Option.some Jvm.ClassFile.FieldType.int) ∈ lw_tbl := List.mem_of_getElem? (i := 815) (by decide +kernel)
theorem wn_X8_assumes : Cond.instanceMethod yX8_assumes ∈ lw_tbl := List.mem_of_getElem? (i := 813) (by decide +kernel)
theorem we_X8_assumes : Cond.selects RX8 yX8_assumes yX8_assumes ∈ lw_tbl := List.mem_of_getElem? (i := 814) (by decide +kernel)
theorem wc_X8_begin : Cond.code yX8_begin cX8_begin 2 (Option.some Jvm.ClassFile.FieldType.int) ∈ lw_tbl := List.mem_of_getElem? (i := 465) (by decide +kernel)
theorem wn_X8_begin : Cond.instanceMethod yX8_begin ∈ lw_tbl := List.mem_of_getElem? (i := 463) (by decide +kernel)
theorem we_X8_begin : Cond.selects RX8 yX8_begin yX8_begin ∈ lw_tbl := List.mem_of_getElem? (i := 464) (by decide +kernel)
theorem wc_X8_best : Cond.code yX8_best cX8_best 2 (Option.some Jvm.ClassFile.FieldType.long) ∈ lw_tbl := List.mem_of_getElem? (i := 845) (by decide +kernel)
theorem wn_X8_best : Cond.instanceMethod yX8_best ∈ lw_tbl := List.mem_of_getElem? (i := 843) (by decide +kernel)
theorem we_X8_best : Cond.selects RX8 yX8_best yX8_best ∈ lw_tbl := List.mem_of_getElem? (i := 844) (by decide +kernel)
theorem wc_X8_breaks : Cond.code yX8_breaks cX8_breaks 2 (Option.some Jvm.ClassFile.FieldType.int) ∈ lw_tbl := List.mem_of_getElem? (i := 433) (by decide +kernel)
theorem wn_X8_breaks : Cond.instanceMethod yX8_breaks ∈ lw_tbl := List.mem_of_getElem? (i := 431) (by decide +kernel)
theorem we_X8_breaks : Cond.selects RX8 yX8_breaks yX8_breaks ∈ lw_tbl := List.mem_of_getElem? (i := 432) (by decide +kernel)
theorem wc_X8_cost : Cond.code yX8_cost cX8_cost 2 (Option.some Jvm.ClassFile.FieldType.long) ∈ lw_tbl := List.mem_of_getElem? (i := 703) (by decide +kernel)
theorem wn_X8_cost : Cond.instanceMethod yX8_cost ∈ lw_tbl := List.mem_of_getElem? (i := 701) (by decide +kernel)
theorem we_X8_cost : Cond.selects RX8 yX8_cost yX8_cost ∈ lw_tbl := List.mem_of_getElem? (i := 702) (by decide +kernel)
theorem wc_X8_demandRow : Cond.code yX8_demandRow cX8_demandRow 2 (Option.none : Option Jvm.ClassFile.FieldType) ∈ lw_tbl := List.mem_of_getElem? (i := 782) (by decide +kernel)
theorem wn_X8_demandRow : Cond.instanceMethod yX8_demandRow ∈ lw_tbl := List.mem_of_getElem? (i := 781) (by decide +kernel)
theorem we_X8_demandRow : Cond.selects RX8 yX8_demandRow yX8_demandRow ∈ lw_tbl := List.mem_of_getElem? (i := 12) (by decide +kernel)
theorem wc_X8_digest : Cond.code yX8_digest cX8_digest 1 (Option.some Jvm.ClassFile.FieldType.int) ∈ lw_tbl := List.mem_of_getElem? (i := 461) (by decide +kernel)
theorem wn_X8_digest : Cond.instanceMethod yX8_digest ∈ lw_tbl := List.mem_of_getElem? (i := 459) (by decide +kernel)
theorem we_X8_digest : Cond.selects RX8 yX8_digest yX8_digest ∈ lw_tbl := List.mem_of_getElem? (i := 460) (by decide +kernel)
theorem wc_X8_drop : Cond.code yX8_drop cX8_drop 2 (Option.some Jvm.ClassFile.FieldType.int) ∈ lw_tbl := List.mem_of_getElem? (i := 342) (by decide +kernel)
theorem wn_X8_drop : Cond.instanceMethod yX8_drop ∈ lw_tbl := List.mem_of_getElem? (i := 340) (by decide +kernel)
theorem we_X8_drop : Cond.selects RX8 yX8_drop yX8_drop ∈ lw_tbl := List.mem_of_getElem? (i := 341) (by decide +kernel)
theorem wc_X8_fault : Cond.code yX8_fault cX8_fault 2 (Option.some Jvm.ClassFile.FieldType.int) ∈ lw_tbl := List.mem_of_getElem? (i := 682) (by decide +kernel)
theorem wn_X8_fault : Cond.instanceMethod yX8_fault ∈ lw_tbl := List.mem_of_getElem? (i := 680) (by decide +kernel)
theorem we_X8_fault : Cond.selects RX8 yX8_fault yX8_fault ∈ lw_tbl := List.mem_of_getElem? (i := 681) (by decide +kernel)
theorem wc_X8_holds : Cond.code yX8_holds cX8_holds 5 (Option.some Jvm.ClassFile.FieldType.int) ∈ lw_tbl := List.mem_of_getElem? (i := 827) (by decide +kernel)
theorem wn_X8_holds : Cond.instanceMethod yX8_holds ∈ lw_tbl := List.mem_of_getElem? (i := 825) (by decide +kernel)
theorem we_X8_holds : Cond.selects RX8 yX8_holds yX8_holds ∈ lw_tbl := List.mem_of_getElem? (i := 826) (by decide +kernel)
theorem wc_X8_init : Cond.code yX8_init cX8_init 1 (Option.none : Option Jvm.ClassFile.FieldType) ∈ lw_tbl := List.mem_of_getElem? (i := 67) (by decide +kernel)
theorem wn_X8_init : Cond.instanceMethod yX8_init ∈ lw_tbl := List.mem_of_getElem? (i := 66) (by decide +kernel)
theorem wc_X8_least : Cond.code yX8_least cX8_least 3 (Option.some Jvm.ClassFile.FieldType.long) ∈ lw_tbl := List.mem_of_getElem? (i := 869) (by decide +kernel)
theorem wn_X8_least : Cond.instanceMethod yX8_least ∈ lw_tbl := List.mem_of_getElem? (i := 867) (by decide +kernel)
theorem we_X8_least : Cond.selects RX8 yX8_least yX8_least ∈ lw_tbl := List.mem_of_getElem? (i := 868) (by decide +kernel)
theorem wc_X8_model : Cond.code yX8_model cX8_model 4 (Option.some Jvm.ClassFile.FieldType.int) ∈ lw_tbl := List.mem_of_getElem? (i := 350) (by decide +kernel)
theorem wn_X8_model : Cond.instanceMethod yX8_model ∈ lw_tbl := List.mem_of_getElem? (i := 348) (by decide +kernel)
theorem we_X8_model : Cond.selects RX8 yX8_model yX8_model ∈ lw_tbl := List.mem_of_getElem? (i := 349) (by decide +kernel)
theorem wc_X8_number : Cond.code yX8_number cX8_number 2 (Option.some Jvm.ClassFile.FieldType.int) ∈ lw_tbl := List.mem_of_getElem? (i := 913) (by decide +kernel)
theorem wn_X8_number : Cond.instanceMethod yX8_number ∈ lw_tbl := List.mem_of_getElem? (i := 911) (by decide +kernel)
theorem we_X8_number : Cond.selects RX8 yX8_number yX8_number ∈ lw_tbl := List.mem_of_getElem? (i := 912) (by decide +kernel)
theorem wc_X8_plan : Cond.code yX8_plan cX8_plan 2 (Option.some Jvm.ClassFile.FieldType.int) ∈ lw_tbl := List.mem_of_getElem? (i := 412) (by decide +kernel)
theorem wn_X8_plan : Cond.instanceMethod yX8_plan ∈ lw_tbl := List.mem_of_getElem? (i := 410) (by decide +kernel)
theorem we_X8_plan : Cond.selects RX8 yX8_plan yX8_plan ∈ lw_tbl := List.mem_of_getElem? (i := 411) (by decide +kernel)
theorem wc_X8_proved : Cond.code yX8_proved cX8_proved 1 (Option.some Jvm.ClassFile.FieldType.int) ∈ lw_tbl := List.mem_of_getElem? (i := 686) (by decide +kernel)
theorem wn_X8_proved : Cond.instanceMethod yX8_proved ∈ lw_tbl := List.mem_of_getElem? (i := 684) (by decide +kernel)
theorem we_X8_proved : Cond.selects RX8 yX8_proved yX8_proved ∈ lw_tbl := List.mem_of_getElem? (i := 685) (by decide +kernel)
theorem wc_X8_put : Cond.code yX8_put cX8_put 6 (Option.some Jvm.ClassFile.FieldType.int) ∈ lw_tbl := List.mem_of_getElem? (i := 330) (by decide +kernel)
theorem wn_X8_put : Cond.instanceMethod yX8_put ∈ lw_tbl := List.mem_of_getElem? (i := 328) (by decide +kernel)
theorem we_X8_put : Cond.selects RX8 yX8_put yX8_put ∈ lw_tbl := List.mem_of_getElem? (i := 329) (by decide +kernel)
theorem wc_X8_read : Cond.code yX8_read cX8_read 2 (Option.some Jvm.ClassFile.FieldType.int) ∈ lw_tbl := List.mem_of_getElem? (i := 474) (by decide +kernel)
theorem wn_X8_read : Cond.instanceMethod yX8_read ∈ lw_tbl := List.mem_of_getElem? (i := 472) (by decide +kernel)
theorem we_X8_read : Cond.selects RX8 yX8_read yX8_read ∈ lw_tbl := List.mem_of_getElem? (i := 473) (by decide +kernel)
theorem wc_X8_row : Cond.code yX8_row cX8_row 4 (Option.some Jvm.ClassFile.FieldType.long) ∈ lw_tbl := List.mem_of_getElem? (i := 778) (by decide +kernel)
theorem wn_X8_row : Cond.instanceMethod yX8_row ∈ lw_tbl := List.mem_of_getElem? (i := 776) (by decide +kernel)
theorem we_X8_row : Cond.selects RX8 yX8_row yX8_row ∈ lw_tbl := List.mem_of_getElem? (i := 777) (by decide +kernel)
theorem wc_X8_tellPlan : Cond.code yX8_tellPlan cX8_tellPlan 1 (Option.some Jvm.ClassFile.FieldType.int) ∈ lw_tbl := List.mem_of_getElem? (i := 416) (by decide +kernel)
theorem wn_X8_tellPlan : Cond.instanceMethod yX8_tellPlan ∈ lw_tbl := List.mem_of_getElem? (i := 415) (by decide +kernel)
theorem we_X8_tellPlan : Cond.selects RX8 yX8_tellPlan yX8_tellPlan ∈ lw_tbl := List.mem_of_getElem? (i := 2) (by decide +kernel)
theorem wc_X8_told : Cond.code yX8_told cX8_told 2 (Option.some Jvm.ClassFile.FieldType.int) ∈ lw_tbl := List.mem_of_getElem? (i := 695) (by decide +kernel)
theorem wn_X8_told : Cond.instanceMethod yX8_told ∈ lw_tbl := List.mem_of_getElem? (i := 693) (by decide +kernel)
theorem we_X8_told : Cond.selects RX8 yX8_told yX8_told ∈ lw_tbl := List.mem_of_getElem? (i := 694) (by decide +kernel)
theorem wc_X8_trim : Cond.code yX8_trim cX8_trim 4 (Option.some Jvm.ClassFile.FieldType.int) ∈ lw_tbl := List.mem_of_getElem? (i := 896) (by decide +kernel)
theorem wn_X8_trim : Cond.instanceMethod yX8_trim ∈ lw_tbl := List.mem_of_getElem? (i := 894) (by decide +kernel)
theorem we_X8_trim : Cond.selects RX8 yX8_trim yX8_trim ∈ lw_tbl := List.mem_of_getElem? (i := 895) (by decide +kernel)
theorem wc_X9_assumes : Cond.code yX9_assumes cX9_assumes 5 (Option.none : Option Jvm.ClassFile.FieldType) ∈ lw_tbl := List.mem_of_getElem? (i := 1165) (by decide +kernel)
theorem wn_X9_assumes : Cond.instanceMethod yX9_assumes ∈ lw_tbl := List.mem_of_getElem? (i := 1164) (by decide +kernel)
theorem we_X9_assumes : Cond.selects RX9 yX9_assumes yX9_assumes ∈ lw_tbl := List.mem_of_getElem? (i := 33) (by decide +kernel)
theorem wc_X9_assumes_ : Cond.code yX9_assumes_ cX9_assumes_ 5 (Option.some Jvm.ClassFile.FieldType.int) ∈ lw_tbl := List.mem_of_getElem? (i := 1214) (by decide +kernel)
theorem wn_X9_assumes_ : Cond.instanceMethod yX9_assumes_ ∈ lw_tbl := List.mem_of_getElem? (i := 1212) (by decide +kernel)
theorem we_X9_assumes_ : Cond.selects RX9 yX9_assumes_ yX9_assumes_ ∈ lw_tbl := List.mem_of_getElem? (i := 1213) (by decide +kernel)
theorem wc_X9_assumptions : Cond.code yX9_assumptions cX9_assumptions 4 (Option.some Jvm.ClassFile.FieldType.int) ∈ lw_tbl := List.mem_of_getElem? (i := 1206) (by decide +kernel)
theorem wn_X9_assumptions : Cond.instanceMethod yX9_assumptions ∈ lw_tbl := List.mem_of_getElem? (i := 1205) (by decide +kernel)
theorem we_X9_assumptions : Cond.selects RX9 yX9_assumptions yX9_assumptions ∈ lw_tbl := List.mem_of_getElem? (i := 40) (by decide +kernel)
theorem wc_X9_begin : Cond.code yX9_begin cX9_begin 2 (Option.some Jvm.ClassFile.FieldType.int) ∈ lw_tbl := List.mem_of_getElem? (i := 1109) (by decide +kernel)
theorem wn_X9_begin : Cond.instanceMethod yX9_begin ∈ lw_tbl := List.mem_of_getElem? (i := 1107) (by decide +kernel)
theorem we_X9_begin : Cond.selects RX9 yX9_begin yX9_begin ∈ lw_tbl := List.mem_of_getElem? (i := 1108) (by decide +kernel)
theorem wc_X9_best : Cond.code yX9_best cX9_best 1 (Option.some Jvm.ClassFile.FieldType.long) ∈ lw_tbl := List.mem_of_getElem? (i := 1234) (by decide +kernel)
theorem wn_X9_best : Cond.instanceMethod yX9_best ∈ lw_tbl := List.mem_of_getElem? (i := 1232) (by decide +kernel)
theorem we_X9_best : Cond.selects RX9 yX9_best yX9_best ∈ lw_tbl := List.mem_of_getElem? (i := 1233) (by decide +kernel)
theorem wc_X9_bounds : Cond.code yX9_bounds cX9_bounds 3 (Option.some Jvm.ClassFile.FieldType.int) ∈ lw_tbl := List.mem_of_getElem? (i := 1132) (by decide +kernel)
theorem wt_X9_bounds : Cond.static yX9_bounds ∈ lw_tbl := List.mem_of_getElem? (i := 1131) (by decide +kernel)
theorem wc_X9_breaks : Cond.code yX9_breaks cX9_breaks 2 (Option.some Jvm.ClassFile.FieldType.int) ∈ lw_tbl := List.mem_of_getElem? (i := 1085) (by decide +kernel)
theorem wn_X9_breaks : Cond.instanceMethod yX9_breaks ∈ lw_tbl := List.mem_of_getElem? (i := 1083) (by decide +kernel)
theorem we_X9_breaks : Cond.selects RX9 yX9_breaks yX9_breaks ∈ lw_tbl := List.mem_of_getElem? (i := 1084) (by decide +kernel)
theorem wc_X9_broken : Cond.code yX9_broken cX9_broken 6 (Option.some Jvm.ClassFile.FieldType.int) ∈ lw_tbl := List.mem_of_getElem? (i := 1089) (by decide +kernel)
theorem wn_X9_broken : Cond.instanceMethod yX9_broken ∈ lw_tbl := List.mem_of_getElem? (i := 1088) (by decide +kernel)
theorem we_X9_broken : Cond.selects RX9 yX9_broken yX9_broken ∈ lw_tbl := List.mem_of_getElem? (i := 19) (by decide +kernel)
theorem wc_X9_cost : Cond.code yX9_cost cX9_cost 2 (Option.some Jvm.ClassFile.FieldType.long) ∈ lw_tbl := List.mem_of_getElem? (i := 1093) (by decide +kernel)
theorem wn_X9_cost : Cond.instanceMethod yX9_cost ∈ lw_tbl := List.mem_of_getElem? (i := 1091) (by decide +kernel)
theorem we_X9_cost : Cond.selects RX9 yX9_cost yX9_cost ∈ lw_tbl := List.mem_of_getElem? (i := 1092) (by decide +kernel)
theorem wc_X9_costOf : Cond.code yX9_costOf cX9_costOf 5 (Option.some Jvm.ClassFile.FieldType.long) ∈ lw_tbl := List.mem_of_getElem? (i := 1101) (by decide +kernel)
theorem wn_X9_costOf : Cond.instanceMethod yX9_costOf ∈ lw_tbl := List.mem_of_getElem? (i := 1100) (by decide +kernel)
theorem we_X9_costOf : Cond.selects RX9 yX9_costOf yX9_costOf ∈ lw_tbl := List.mem_of_getElem? (i := 21) (by decide +kernel)
theorem wc_X9_digest : Cond.code yX9_digest cX9_digest 1 (Option.some Jvm.ClassFile.FieldType.int) ∈ lw_tbl := List.mem_of_getElem? (i := 1105) (by decide +kernel)
theorem wn_X9_digest : Cond.instanceMethod yX9_digest ∈ lw_tbl := List.mem_of_getElem? (i := 1103) (by decide +kernel)
theorem we_X9_digest : Cond.selects RX9 yX9_digest yX9_digest ∈ lw_tbl := List.mem_of_getElem? (i := 1104) (by decide +kernel)
theorem wc_X9_divides : Cond.code yX9_divides cX9_divides 6 (Option.some Jvm.ClassFile.FieldType.int) ∈ lw_tbl := List.mem_of_getElem? (i := 1169) (by decide +kernel)
theorem wn_X9_divides : Cond.instanceMethod yX9_divides ∈ lw_tbl := List.mem_of_getElem? (i := 1168) (by decide +kernel)
theorem we_X9_divides : Cond.selects RX9 yX9_divides yX9_divides ∈ lw_tbl := List.mem_of_getElem? (i := 34) (by decide +kernel)
theorem wc_X9_down : Cond.code yX9_down cX9_down 6 (Option.some Jvm.ClassFile.FieldType.long) ∈ lw_tbl := List.mem_of_getElem? (i := 1172) (by decide +kernel)
theorem wt_X9_down : Cond.static yX9_down ∈ lw_tbl := List.mem_of_getElem? (i := 1171) (by decide +kernel)
theorem wc_X9_drop : Cond.code yX9_drop cX9_drop 2 (Option.some Jvm.ClassFile.FieldType.int) ∈ lw_tbl := List.mem_of_getElem? (i := 1057) (by decide +kernel)
theorem wn_X9_drop : Cond.instanceMethod yX9_drop ∈ lw_tbl := List.mem_of_getElem? (i := 1055) (by decide +kernel)
theorem we_X9_drop : Cond.selects RX9 yX9_drop yX9_drop ∈ lw_tbl := List.mem_of_getElem? (i := 1056) (by decide +kernel)
theorem wc_X9_fails : Cond.code yX9_fails cX9_fails 4 (Option.none : Option Jvm.ClassFile.FieldType) ∈ lw_tbl := List.mem_of_getElem? (i := 1121) (by decide +kernel)
theorem wn_X9_fails : Cond.instanceMethod yX9_fails ∈ lw_tbl := List.mem_of_getElem? (i := 1120) (by decide +kernel)
theorem we_X9_fails : Cond.selects RX9 yX9_fails yX9_fails ∈ lw_tbl := List.mem_of_getElem? (i := 23) (by decide +kernel)
theorem wc_X9_fault : Cond.code yX9_fault cX9_fault 2 (Option.some Jvm.ClassFile.FieldType.int) ∈ lw_tbl := List.mem_of_getElem? (i := 1198) (by decide +kernel)
theorem wn_X9_fault : Cond.instanceMethod yX9_fault ∈ lw_tbl := List.mem_of_getElem? (i := 1196) (by decide +kernel)
theorem we_X9_fault : Cond.selects RX9 yX9_fault yX9_fault ∈ lw_tbl := List.mem_of_getElem? (i := 1197) (by decide +kernel)
theorem wc_X9_forget : Cond.code yX9_forget cX9_forget 1 (Option.none : Option Jvm.ClassFile.FieldType) ∈ lw_tbl := List.mem_of_getElem? (i := 1075) (by decide +kernel)
theorem wn_X9_forget : Cond.instanceMethod yX9_forget ∈ lw_tbl := List.mem_of_getElem? (i := 1074) (by decide +kernel)
theorem we_X9_forget : Cond.selects RX9 yX9_forget yX9_forget ∈ lw_tbl := List.mem_of_getElem? (i := 18) (by decide +kernel)
theorem wc_X9_go : Cond.code yX9_go cX9_go 11 (Option.none : Option Jvm.ClassFile.FieldType) ∈ lw_tbl := List.mem_of_getElem? (i := 1065) (by decide +kernel)
theorem wn_X9_go : Cond.instanceMethod yX9_go ∈ lw_tbl := List.mem_of_getElem? (i := 1064) (by decide +kernel)
theorem we_X9_go : Cond.selects RX9 yX9_go yX9_go ∈ lw_tbl := List.mem_of_getElem? (i := 16) (by decide +kernel)
theorem wc_X9_holds : Cond.code yX9_holds cX9_holds 5 (Option.some Jvm.ClassFile.FieldType.int) ∈ lw_tbl := List.mem_of_getElem? (i := 1218) (by decide +kernel)
theorem wn_X9_holds : Cond.instanceMethod yX9_holds ∈ lw_tbl := List.mem_of_getElem? (i := 1216) (by decide +kernel)
theorem we_X9_holds : Cond.selects RX9 yX9_holds yX9_holds ∈ lw_tbl := List.mem_of_getElem? (i := 1217) (by decide +kernel)
theorem wc_X9_in : Cond.code yX9_in cX9_in 3 (Option.some Jvm.ClassFile.FieldType.boolean) ∈ lw_tbl := List.mem_of_getElem? (i := 1053) (by decide +kernel)
theorem wt_X9_in : Cond.static yX9_in ∈ lw_tbl := List.mem_of_getElem? (i := 1052) (by decide +kernel)
theorem wc_X9_init : Cond.code yX9_init cX9_init 1 (Option.none : Option Jvm.ClassFile.FieldType) ∈ lw_tbl := List.mem_of_getElem? (i := 919) (by decide +kernel)
theorem wn_X9_init : Cond.instanceMethod yX9_init ∈ lw_tbl := List.mem_of_getElem? (i := 918) (by decide +kernel)
theorem wc_X9_isGreat : Cond.code yX9_isGreat cX9_isGreat 4 (Option.some Jvm.ClassFile.FieldType.boolean) ∈ lw_tbl := List.mem_of_getElem? (i := 1192) (by decide +kernel)
theorem wn_X9_isGreat : Cond.instanceMethod yX9_isGreat ∈ lw_tbl := List.mem_of_getElem? (i := 1191) (by decide +kernel)
theorem we_X9_isGreat : Cond.selects RX9 yX9_isGreat yX9_isGreat ∈ lw_tbl := List.mem_of_getElem? (i := 39) (by decide +kernel)
theorem wc_X9_isImpossible : Cond.code yX9_isImpossible cX9_isImpossible 4 (Option.some Jvm.ClassFile.FieldType.boolean) ∈ lw_tbl := List.mem_of_getElem? (i := 1184) (by decide +kernel)
theorem wn_X9_isImpossible : Cond.instanceMethod yX9_isImpossible ∈ lw_tbl := List.mem_of_getElem? (i := 1183) (by decide +kernel)
theorem we_X9_isImpossible : Cond.selects RX9 yX9_isImpossible yX9_isImpossible ∈ lw_tbl := List.mem_of_getElem? (i := 37) (by decide +kernel)
theorem wc_X9_isWhole : Cond.code yX9_isWhole cX9_isWhole 2 (Option.some Jvm.ClassFile.FieldType.boolean) ∈ lw_tbl := List.mem_of_getElem? (i := 1144) (by decide +kernel)
theorem wn_X9_isWhole : Cond.instanceMethod yX9_isWhole ∈ lw_tbl := List.mem_of_getElem? (i := 1143) (by decide +kernel)
theorem we_X9_isWhole : Cond.selects RX9 yX9_isWhole yX9_isWhole ∈ lw_tbl := List.mem_of_getElem? (i := 28) (by decide +kernel)
theorem wc_X9_joins : Cond.code yX9_joins cX9_joins 10 (Option.some Jvm.ClassFile.FieldType.int) ∈ lw_tbl := List.mem_of_getElem? (i := 1176) (by decide +kernel)
theorem wn_X9_joins : Cond.instanceMethod yX9_joins ∈ lw_tbl := List.mem_of_getElem? (i := 1175) (by decide +kernel)
theorem we_X9_joins : Cond.selects RX9 yX9_joins yX9_joins ∈ lw_tbl := List.mem_of_getElem? (i := 35) (by decide +kernel)
theorem wc_X9_judged : Cond.code yX9_judged cX9_judged 3 (Option.some Jvm.ClassFile.FieldType.int) ∈ lw_tbl := List.mem_of_getElem? (i := 1125) (by decide +kernel)
theorem wn_X9_judged : Cond.instanceMethod yX9_judged ∈ lw_tbl := List.mem_of_getElem? (i := 1124) (by decide +kernel)
theorem we_X9_judged : Cond.selects RX9 yX9_judged yX9_judged ∈ lw_tbl := List.mem_of_getElem? (i := 24) (by decide +kernel)
theorem wc_X9_kind : Cond.code yX9_kind cX9_kind 2 (Option.some Jvm.ClassFile.FieldType.int) ∈ lw_tbl := List.mem_of_getElem? (i := 1180) (by decide +kernel)
theorem wn_X9_kind : Cond.instanceMethod yX9_kind ∈ lw_tbl := List.mem_of_getElem? (i := 1179) (by decide +kernel)
theorem we_X9_kind : Cond.selects RX9 yX9_kind yX9_kind ∈ lw_tbl := List.mem_of_getElem? (i := 36) (by decide +kernel)
theorem wc_X9_least : Cond.code yX9_least cX9_least 9 (Option.some Jvm.ClassFile.FieldType.long) ∈ lw_tbl := List.mem_of_getElem? (i := 1238) (by decide +kernel)
theorem wn_X9_least : Cond.instanceMethod yX9_least ∈ lw_tbl := List.mem_of_getElem? (i := 1236) (by decide +kernel)
theorem we_X9_least : Cond.selects RX9 yX9_least yX9_least ∈ lw_tbl := List.mem_of_getElem? (i := 1237) (by decide +kernel)
theorem wc_X9_length : Cond.code yX9_length cX9_length 3 (Option.some Jvm.ClassFile.FieldType.int) ∈ lw_tbl := List.mem_of_getElem? (i := 1148) (by decide +kernel)
theorem wn_X9_length : Cond.instanceMethod yX9_length ∈ lw_tbl := List.mem_of_getElem? (i := 1147) (by decide +kernel)
theorem we_X9_length : Cond.selects RX9 yX9_length yX9_length ∈ lw_tbl := List.mem_of_getElem? (i := 29) (by decide +kernel)
theorem wc_X9_model : Cond.code yX9_model cX9_model 2 (Option.some Jvm.ClassFile.FieldType.int) ∈ lw_tbl := List.mem_of_getElem? (i := 1061) (by decide +kernel)
theorem wn_X9_model : Cond.instanceMethod yX9_model ∈ lw_tbl := List.mem_of_getElem? (i := 1059) (by decide +kernel)
theorem we_X9_model : Cond.selects RX9 yX9_model yX9_model ∈ lw_tbl := List.mem_of_getElem? (i := 1060) (by decide +kernel)
theorem wc_X9_need : Cond.code yX9_need cX9_need 7 (Option.some Jvm.ClassFile.FieldType.int) ∈ lw_tbl := List.mem_of_getElem? (i := 1210) (by decide +kernel)
theorem wn_X9_need : Cond.instanceMethod yX9_need ∈ lw_tbl := List.mem_of_getElem? (i := 1209) (by decide +kernel)
theorem we_X9_need : Cond.selects RX9 yX9_need yX9_need ∈ lw_tbl := List.mem_of_getElem? (i := 41) (by decide +kernel)
theorem wc_X9_next : Cond.code yX9_next cX9_next 3 (Option.some Jvm.ClassFile.FieldType.int) ∈ lw_tbl := List.mem_of_getElem? (i := 1069) (by decide +kernel)
theorem wn_X9_next : Cond.instanceMethod yX9_next ∈ lw_tbl := List.mem_of_getElem? (i := 1068) (by decide +kernel)
theorem we_X9_next : Cond.selects RX9 yX9_next yX9_next ∈ lw_tbl := List.mem_of_getElem? (i := 17) (by decide +kernel)
theorem wc_X9_number : Cond.code yX9_number cX9_number 2 (Option.some Jvm.ClassFile.FieldType.int) ∈ lw_tbl := List.mem_of_getElem? (i := 1250) (by decide +kernel)
theorem wn_X9_number : Cond.instanceMethod yX9_number ∈ lw_tbl := List.mem_of_getElem? (i := 1248) (by decide +kernel)
theorem we_X9_number : Cond.selects RX9 yX9_number yX9_number ∈ lw_tbl := List.mem_of_getElem? (i := 1249) (by decide +kernel)
theorem wc_X9_of : Cond.code yX9_of cX9_of 2 (Option.some Jvm.ClassFile.FieldType.int) ∈ lw_tbl := List.mem_of_getElem? (i := 1129) (by decide +kernel)
theorem wn_X9_of : Cond.instanceMethod yX9_of ∈ lw_tbl := List.mem_of_getElem? (i := 1128) (by decide +kernel)
theorem we_X9_of : Cond.selects RX9 yX9_of yX9_of ∈ lw_tbl := List.mem_of_getElem? (i := 25) (by decide +kernel)
theorem wc_X9_plan : Cond.code yX9_plan cX9_plan 4 (Option.some Jvm.ClassFile.FieldType.int) ∈ lw_tbl := List.mem_of_getElem? (i := 1079) (by decide +kernel)
theorem wn_X9_plan : Cond.instanceMethod yX9_plan ∈ lw_tbl := List.mem_of_getElem? (i := 1077) (by decide +kernel)
theorem we_X9_plan : Cond.selects RX9 yX9_plan yX9_plan ∈ lw_tbl := List.mem_of_getElem? (i := 1078) (by decide +kernel)
theorem wc_X9_proof : Cond.code yX9_proof cX9_proof 3 (Option.some Jvm.ClassFile.FieldType.int) ∈ lw_tbl := List.mem_of_getElem? (i := 1230) (by decide +kernel)
theorem wn_X9_proof : Cond.instanceMethod yX9_proof ∈ lw_tbl := List.mem_of_getElem? (i := 1229) (by decide +kernel)
theorem we_X9_proof : Cond.selects RX9 yX9_proof yX9_proof ∈ lw_tbl := List.mem_of_getElem? (i := 43) (by decide +kernel)
theorem wc_X9_proved : Cond.code yX9_proved cX9_proved 1 (Option.some Jvm.ClassFile.FieldType.int) ∈ lw_tbl := List.mem_of_getElem? (i := 1226) (by decide +kernel)
theorem wn_X9_proved : Cond.instanceMethod yX9_proved ∈ lw_tbl := List.mem_of_getElem? (i := 1224) (by decide +kernel)
theorem we_X9_proved : Cond.selects RX9 yX9_proved yX9_proved ∈ lw_tbl := List.mem_of_getElem? (i := 1225) (by decide +kernel)
theorem wc_X9_pushes : Cond.code yX9_pushes cX9_pushes 11 (Option.some Jvm.ClassFile.FieldType.int) ∈ lw_tbl := List.mem_of_getElem? (i := 1188) (by decide +kernel)
theorem wn_X9_pushes : Cond.instanceMethod yX9_pushes ∈ lw_tbl := List.mem_of_getElem? (i := 1187) (by decide +kernel)
theorem we_X9_pushes : Cond.selects RX9 yX9_pushes yX9_pushes ∈ lw_tbl := List.mem_of_getElem? (i := 38) (by decide +kernel)
theorem wc_X9_put : Cond.code yX9_put cX9_put 7 (Option.some Jvm.ClassFile.FieldType.int) ∈ lw_tbl := List.mem_of_getElem? (i := 1050) (by decide +kernel)
theorem wn_X9_put : Cond.instanceMethod yX9_put ∈ lw_tbl := List.mem_of_getElem? (i := 1048) (by decide +kernel)
theorem we_X9_put : Cond.selects RX9 yX9_put yX9_put ∈ lw_tbl := List.mem_of_getElem? (i := 1049) (by decide +kernel)
theorem wc_X9_read : Cond.code yX9_read cX9_read 3 (Option.some Jvm.ClassFile.FieldType.int) ∈ lw_tbl := List.mem_of_getElem? (i := 1113) (by decide +kernel)
theorem wn_X9_read : Cond.instanceMethod yX9_read ∈ lw_tbl := List.mem_of_getElem? (i := 1111) (by decide +kernel)
theorem we_X9_read : Cond.selects RX9 yX9_read yX9_read ∈ lw_tbl := List.mem_of_getElem? (i := 1112) (by decide +kernel)
theorem wc_X9_refuses : Cond.code yX9_refuses cX9_refuses 2 (Option.some Jvm.ClassFile.FieldType.boolean) ∈ lw_tbl := List.mem_of_getElem? (i := 1097) (by decide +kernel)
theorem wn_X9_refuses : Cond.instanceMethod yX9_refuses ∈ lw_tbl := List.mem_of_getElem? (i := 1096) (by decide +kernel)
theorem we_X9_refuses : Cond.selects RX9 yX9_refuses yX9_refuses ∈ lw_tbl := List.mem_of_getElem? (i := 20) (by decide +kernel)
theorem wc_X9_row : Cond.code yX9_row cX9_row 2 (Option.some Jvm.ClassFile.FieldType.int) ∈ lw_tbl := List.mem_of_getElem? (i := 1140) (by decide +kernel)
theorem wn_X9_row : Cond.instanceMethod yX9_row ∈ lw_tbl := List.mem_of_getElem? (i := 1139) (by decide +kernel)
theorem we_X9_row : Cond.selects RX9 yX9_row yX9_row ∈ lw_tbl := List.mem_of_getElem? (i := 27) (by decide +kernel)
theorem wc_X9_row_ : Cond.code yX9_row_ cX9_row_ 3 (Option.some Jvm.ClassFile.FieldType.long) ∈ lw_tbl := List.mem_of_getElem? (i := 1202) (by decide +kernel)
theorem wn_X9_row_ : Cond.instanceMethod yX9_row_ ∈ lw_tbl := List.mem_of_getElem? (i := 1200) (by decide +kernel)
theorem we_X9_row_ : Cond.selects RX9 yX9_row_ yX9_row_ ∈ lw_tbl := List.mem_of_getElem? (i := 1201) (by decide +kernel)
theorem wc_X9_says : Cond.code yX9_says cX9_says 5 (Option.none : Option Jvm.ClassFile.FieldType) ∈ lw_tbl := List.mem_of_getElem? (i := 1156) (by decide +kernel)
theorem wn_X9_says : Cond.instanceMethod yX9_says ∈ lw_tbl := List.mem_of_getElem? (i := 1155) (by decide +kernel)
theorem we_X9_says : Cond.selects RX9 yX9_says yX9_says ∈ lw_tbl := List.mem_of_getElem? (i := 31) (by decide +kernel)
theorem wc_X9_sum : Cond.code yX9_sum cX9_sum 6 (Option.some Jvm.ClassFile.FieldType.long) ∈ lw_tbl := List.mem_of_getElem? (i := 1222) (by decide +kernel)
theorem wn_X9_sum : Cond.instanceMethod yX9_sum ∈ lw_tbl := List.mem_of_getElem? (i := 1221) (by decide +kernel)
theorem we_X9_sum : Cond.selects RX9 yX9_sum yX9_sum ∈ lw_tbl := List.mem_of_getElem? (i := 42) (by decide +kernel)
theorem wc_X9_table : Cond.code yX9_table cX9_table 6 (Option.none : Option Jvm.ClassFile.FieldType) ∈ lw_tbl := List.mem_of_getElem? (i := 1161) (by decide +kernel)
theorem wn_X9_table : Cond.instanceMethod yX9_table ∈ lw_tbl := List.mem_of_getElem? (i := 1160) (by decide +kernel)
theorem we_X9_table : Cond.selects RX9 yX9_table yX9_table ∈ lw_tbl := List.mem_of_getElem? (i := 32) (by decide +kernel)
theorem wc_X9_take : Cond.code yX9_take cX9_take 3 (Option.none : Option Jvm.ClassFile.FieldType) ∈ lw_tbl := List.mem_of_getElem? (i := 1117) (by decide +kernel)
theorem wn_X9_take : Cond.instanceMethod yX9_take ∈ lw_tbl := List.mem_of_getElem? (i := 1116) (by decide +kernel)
theorem we_X9_take : Cond.selects RX9 yX9_take yX9_take ∈ lw_tbl := List.mem_of_getElem? (i := 22) (by decide +kernel)
theorem wc_X9_thrown : Cond.code yX9_thrown cX9_thrown 1 (Option.some Jvm.ClassFile.FieldType.int) ∈ lw_tbl := List.mem_of_getElem? (i := 1046) (by decide +kernel)
theorem wn_X9_thrown : Cond.instanceMethod yX9_thrown ∈ lw_tbl := List.mem_of_getElem? (i := 1044) (by decide +kernel)
theorem we_X9_thrown : Cond.selects RX9 yX9_thrown yX9_thrown ∈ lw_tbl := List.mem_of_getElem? (i := 1045) (by decide +kernel)
theorem wc_X9_times : Cond.code yX9_times cX9_times 5 (Option.some Jvm.ClassFile.FieldType.long) ∈ lw_tbl := List.mem_of_getElem? (i := 1242) (by decide +kernel)
theorem wn_X9_times : Cond.instanceMethod yX9_times ∈ lw_tbl := List.mem_of_getElem? (i := 1241) (by decide +kernel)
theorem we_X9_times : Cond.selects RX9 yX9_times yX9_times ∈ lw_tbl := List.mem_of_getElem? (i := 44) (by decide +kernel)
theorem wc_X9_told : Cond.code yX9_told cX9_told 2 (Option.some Jvm.ClassFile.FieldType.int) ∈ lw_tbl := List.mem_of_getElem? (i := 1254) (by decide +kernel)
theorem wn_X9_told : Cond.instanceMethod yX9_told ∈ lw_tbl := List.mem_of_getElem? (i := 1252) (by decide +kernel)
theorem we_X9_told : Cond.selects RX9 yX9_told yX9_told ∈ lw_tbl := List.mem_of_getElem? (i := 1253) (by decide +kernel)
theorem wc_X9_trim : Cond.code yX9_trim cX9_trim 12 (Option.some Jvm.ClassFile.FieldType.int) ∈ lw_tbl := List.mem_of_getElem? (i := 1246) (by decide +kernel)
theorem wn_X9_trim : Cond.instanceMethod yX9_trim ∈ lw_tbl := List.mem_of_getElem? (i := 1244) (by decide +kernel)
theorem we_X9_trim : Cond.selects RX9 yX9_trim yX9_trim ∈ lw_tbl := List.mem_of_getElem? (i := 1245) (by decide +kernel)
theorem wc_X9_variable : Cond.code yX9_variable cX9_variable 2 (Option.some Jvm.ClassFile.FieldType.int) ∈ lw_tbl := List.mem_of_getElem? (i := 1136) (by decide +kernel)
theorem wn_X9_variable : Cond.instanceMethod yX9_variable ∈ lw_tbl := List.mem_of_getElem? (i := 1135) (by decide +kernel)
theorem we_X9_variable : Cond.selects RX9 yX9_variable yX9_variable ∈ lw_tbl := List.mem_of_getElem? (i := 26) (by decide +kernel)
theorem wc_X9_works : Cond.code yX9_works cX9_works 6 (Option.some Jvm.ClassFile.FieldType.int) ∈ lw_tbl := List.mem_of_getElem? (i := 1152) (by decide +kernel)
theorem wn_X9_works : Cond.instanceMethod yX9_works ∈ lw_tbl := List.mem_of_getElem? (i := 1151) (by decide +kernel)
theorem we_X9_works : Cond.selects RX9 yX9_works yX9_works ∈ lw_tbl := List.mem_of_getElem? (i := 30) (by decide +kernel)
theorem wy_0 : ∀ w ∈ u_ws RX0 TX0 10, w ∈ lw_tbl ∧ goodWord w = true := by decide +kernel
theorem wy_1 : ∀ w ∈ u_ws RX1 TX1 2, w ∈ lw_tbl ∧ goodWord w = true := by decide +kernel
theorem wy_2 : ∀ w ∈ u_ws RX2 TX2 14, w ∈ lw_tbl ∧ goodWord w = true := by decide +kernel
theorem wy_3 : ∀ w ∈ u_ws RX4 TX4 3, w ∈ lw_tbl ∧ goodWord w = true := by decide +kernel
theorem wy_4 : ∀ w ∈ u_ws RX5 TX5 11, w ∈ lw_tbl ∧ goodWord w = true := by decide +kernel
theorem wy_5 : ∀ w ∈ u_ws RX6 TX6 5, w ∈ lw_tbl ∧ goodWord w = true := by decide +kernel
theorem wy_6 : ∀ w ∈ u_ws RX7 TX7 4, w ∈ lw_tbl ∧ goodWord w = true := by decide +kernel
theorem wy_7 : ∀ w ∈ u_ws RX8 TX8 6, w ∈ lw_tbl ∧ goodWord w = true := by decide +kernel
theorem wy_8 : ∀ w ∈ u_ws RX9 TX9 40, w ∈ lw_tbl ∧ goodWord w = true := by decide +kernel
end
section
/-! THE STATE: ints and longs by cell and place, and the two references that change (current, spare) -/
abbrev xS : Type := (Nat → Nat → Int32) × (Nat → Nat → Int64) × Nat × Nat
def xgI (σ : xS) (k j : Nat) : Int32 := σ.1 k j
def xgL (σ : xS) (k j : Nat) : Int64 := σ.2.1 k j
def xgC (σ : xS) : Nat := σ.2.2.1
def xgD (σ : xS) : Nat := σ.2.2.2
def xsI (σ : xS) (k j : Nat) (v : Int32) : xS := (fun a b => if a = k ∧ b = j then v else σ.1 a b, σ.2)
def xsL (σ : xS) (k j : Nat) (v : Int64) : xS := (σ.1, fun a b => if a = k ∧ b = j then v else σ.2.1 a b, σ.2.2)
def xsC (σ : xS) (v : Nat) : xS := (σ.1, σ.2.1, v, σ.2.2.2)
def xsD (σ : xS) (v : Nat) : xS := (σ.1, σ.2.1, σ.2.2.1, v)
theorem xgI_s (σ : xS) (k j : Nat) (v : Int32) : xgI (xsI σ k j v) k j = v := if_pos ⟨rfl, rfl⟩
theorem xgI_i (σ : xS) (k j a b : Nat) (v : Int32) : xgI (xsI σ k j v) a b = if a = k ∧ b = j then v else xgI σ a b := rfl
theorem xgI_n {σ : xS} {k j a b : Nat} {v : Int32} (h : ¬ (a = k ∧ b = j)) : xgI (xsI σ k j v) a b = xgI σ a b := if_neg h
theorem xgL_s (σ : xS) (k j : Nat) (v : Int64) : xgL (xsL σ k j v) k j = v := if_pos ⟨rfl, rfl⟩
theorem xgL_i (σ : xS) (k j a b : Nat) (v : Int64) : xgL (xsL σ k j v) a b = if a = k ∧ b = j then v else xgL σ a b := rfl
theorem xgL_n {σ : xS} {k j a b : Nat} {v : Int64} (h : ¬ (a = k ∧ b = j)) : xgL (xsL σ k j v) a b = xgL σ a b := if_neg h
theorem xgI_L (σ : xS) (k j a b : Nat) (v : Int64) : xgI (xsL σ k j v) a b = xgI σ a b := rfl
theorem xgL_I (σ : xS) (k j a b : Nat) (v : Int32) : xgL (xsI σ k j v) a b = xgL σ a b := rfl
theorem xgI_C (σ : xS) (v a b : Nat) : xgI (xsC σ v) a b = xgI σ a b := rfl
theorem xgI_D (σ : xS) (v a b : Nat) : xgI (xsD σ v) a b = xgI σ a b := rfl
theorem xgL_C (σ : xS) (v a b : Nat) : xgL (xsC σ v) a b = xgL σ a b := rfl
theorem xgL_D (σ : xS) (v a b : Nat) : xgL (xsD σ v) a b = xgL σ a b := rfl
theorem xgC_I (σ : xS) (k j : Nat) (v : Int32) : xgC (xsI σ k j v) = xgC σ := rfl
theorem xgC_L (σ : xS) (k j : Nat) (v : Int64) : xgC (xsL σ k j v) = xgC σ := rfl
theorem xgD_I (σ : xS) (k j : Nat) (v : Int32) : xgD (xsI σ k j v) = xgD σ := rfl
theorem xgD_L (σ : xS) (k j : Nat) (v : Int64) : xgD (xsL σ k j v) = xgD σ := rfl
theorem xgC_C (σ : xS) (v : Nat) : xgC (xsC σ v) = v := rfl
theorem xgC_D (σ : xS) (v : Nat) : xgC (xsD σ v) = xgC σ := rfl
theorem xgD_D (σ : xS) (v : Nat) : xgD (xsD σ v) = v := rfl
theorem xgD_C (σ : xS) (v : Nat) : xgD (xsC σ v) = xgD σ := rfl
/-- the kinds of the fixed cells: 0 to 8 an object of vwCl, 10 int[n], 11 long[n], 12 boolean[n], 13 Row[n], 14 int[n][] -/
def xckT : List (Nat × Nat) := [(7, 0), (6, 0), (10, 1000), (3, 0), (14, 8), (10, 8), (0, 0), (10, 1500), (5, 0), (13, 200), (10, 60), (1, 0), (10, 10), (12, 200), (10, 200), (2, 0), (10, 8), (10, 8), (10, 8), (14, 20), (10, 20), (10, 4), (10, 4), (10, 4), (14, 4), (14, 4), (2, 0), (10, 8), (10, 8), (10, 8), (14, 20), (10, 20), (10, 4), (10, 4), (10, 4), (14, 4), (14, 4), (8, 0), (10, 1000), (10, 8), (10, 8), (10, 8), (10, 160), (10, 20), (10, 4), (10, 4), (10, 4), (10, 80), (10, 80), (10, 64), (10, 1500), (10, 201), (11, 1600), (11, 200), (12, 200), (11, 200), (12, 40000), (12, 200), (10, 200), (10, 1500), (11, 1)]
/-- the kind of cell k: rows 61 to 261 (the last is noRow), their factors 262 to 462, plans 463 .., factors of rules 471 .. (A), 491 .. (B), pairs 511 .. -/
def xck (k : Nat) : Nat × Nat := if k < 61 then xckT.getD k (99, 0) else if k < 262 then (4, 0) else if k < 463 then (11, 8) else if k < 511 then (10, 8) else if k < 527 then (10, 20) else (99, 0)
/-- the kinds of the fields: 0 int, 1 long, 2 a reference, 3 boolean -/
def xfk (c : Nat) : List Nat := match c with
  | 0 => [2, 0, 3, 0, 0, 0, 2, 2, 2, 2]
  | 1 => [2, 0]
  | 2 => [0, 0, 0, 0, 2, 2, 2, 2, 2, 2, 2, 2, 2, 2]
  | 3 => [2, 2, 0]
  | 4 => [2, 1, 1, 3, 1, 0, 0, 0, 0, 0, 0]
  | 5 => [2, 2, 2, 0, 0]
  | 6 => [2, 0, 0, 3]
  | 7 => [2, 2, 2, 3, 2, 2]
  | 8 => [0, 2, 0, 0, 2, 2, 2, 0, 2, 2, 0, 2, 2, 2, 2, 2, 0, 0, 2, 3, 0, 2, 0, 0, 0, 0, 0, 0, 2, 2, 2, 2, 2, 2, 2, 2, 2, 0, 3, 3]
  | _ => []
/-- where the references lead that never change, and the two that do -/
def xrt (σ : xS) (k j : Nat) : Nat := match k with
  | 0 => (match j with | 0 => 1 | 1 => 3 | 2 => 6 | 4 => xgC σ | 5 => xgD σ | _ => 0)
  | 1 => 2
  | 3 => (match j with | 0 => 4 | _ => 5)
  | 4 => 463 + j
  | 6 => (match j with | 0 => 7 | 6 => 8 | 7 => 11 | 8 => 13 | _ => 14)
  | 8 => (match j with | 0 => 9 | 1 => 261 | _ => 10)
  | 9 => 61 + j
  | 11 => 12
  | 15 => 12 + j
  | 19 => 471 + j
  | 24 => 511 + j
  | 25 => 515 + j
  | 26 => 23 + j
  | 30 => 491 + j
  | 35 => 519 + j
  | 36 => 523 + j
  | 37 => (match j with | 1 => 38 | 4 => 39 | 5 => 40 | 6 => 41 | 8 => 42 | 9 => 43 | 11 => 44 | 12 => 45 | 13 => 46 | 14 => 47 | 15 => 48 | 18 => 49 | 21 => 50 | 28 => 51 | 29 => 52 | 30 => 53 | 31 => 54 | 32 => 55 | 33 => 56 | 34 => 57 | 35 => 58 | 36 => 59 | _ => 0)
  | _ => 0
def xrf (σ : xS) (k j : Nat) : Nat := if k < 61 then xrt σ k j else k + 201
abbrev xG : Type := va_G × (Nat → Nat) × (Nat → ClassId)
def xfv (G : xG) (σ : xS) (k j t : Nat) : Value := match t with
  | 1 => .long (xgL σ k j)
  | 2 => .ref (G.2.1 (xrf σ k j))
  | _ => .int (xgI σ k j)
def xfl (G : xG) (σ : xS) (k : Nat) : Nat → List Nat → List Value
  | _, [] => []
  | j, t :: ts => xfv G σ k j t :: xfl G σ k (j + 1) ts
theorem xfl_get (G : xG) (σ : xS) (k : Nat) : ∀ (ts : List Nat) (j i : Nat), (xfl G σ k j ts)[i]? = (ts[i]?).map (fun t => xfv G σ k (j + i) t)
  | [], _, _ => by simp [xfl]
  | t :: ts, j, 0 => by simp [xfl]
  | t :: ts, j, i + 1 => by
    show (xfl G σ k (j + 1) ts)[i]? = _
    rw [xfl_get G σ k ts (j + 1) i]
    simp [Nat.add_assoc, Nat.add_comm 1 i]
theorem xfl_len (G : xG) (σ : xS) (k : Nat) : ∀ (ts : List Nat) (j : Nat), (xfl G σ k j ts).length = ts.length
  | [], _ => rfl
  | t :: ts, j => congrArg (· + 1) (xfl_len G σ k ts (j + 1))
/-- one place of an object changes -/
theorem xfl_set (G : xG) (σ τ : xS) (k i : Nat) (v : Value) (ts : List Nat) {t : Nat} (ht : ts[i]? = some t) (hv : xfv G τ k i t = v) (ho : ∀ j t', j ≠ i → ts[j]? = some t' → xfv G τ k j t' = xfv G σ k j t') : (xfl G σ k 0 ts).set i v = xfl G τ k 0 ts := by
  apply List.ext_getElem?
  intro n
  rw [List.getElem?_set, xfl_get, xfl_get, Nat.zero_add, xfl_len]
  by_cases h : i = n
  · subst h
    have hl := (List.getElem?_eq_some_iff.mp ht).1
    rw [if_pos rfl, if_pos hl, ht]
    simp [hv]
  · rw [if_neg h]
    cases hn : ts[n]? with
    | none => rfl
    | some t' => simp [ho n t' (fun e => h e.symm) hn]
/-- cell k -/
def xcell (G : xG) (σ : xS) (k : Nat) : va_E := match (xck k).1 with
  | 10 => .inl (G.2.2 0, (xck k).2, .inl (xgI σ k))
  | 11 => .inl (G.2.2 1, (xck k).2, .inr (.inl (xgL σ k)))
  | 12 => .inl (G.2.2 2, (xck k).2, .inl (xgI σ k))
  | 13 => .inl (G.2.2 3, (xck k).2, .inr (.inr (.inr (.inr (fun j => some (G.2.1 (xrf σ k j)))))))
  | 14 => .inl (G.2.2 4, (xck k).2, .inr (.inr (.inr (.inr (fun j => some (G.2.1 (xrf σ k j)))))))
  | ci => .inr (ci, xfl G σ k 0 (xfk ci))
theorem xcell_o {G : xG} {σ : xS} {k ci : Nat} (h : xck k = (ci, 0)) (hci : ci < 9) : xcell G σ k = .inr (ci, xfl G σ k 0 (xfk ci)) := by
  unfold xcell
  rw [h]
  rcases (show ci = 0 ∨ ci = 1 ∨ ci = 2 ∨ ci = 3 ∨ ci = 4 ∨ ci = 5 ∨ ci = 6 ∨ ci = 7 ∨ ci = 8 by omega) with rfl | rfl | rfl | rfl | rfl | rfl | rfl | rfl | rfl <;> rfl
theorem xcell_i {G : xG} {σ : xS} {k n : Nat} (h : xck k = (10, n)) : xcell G σ k = .inl (G.2.2 0, n, .inl (xgI σ k)) := by
  unfold xcell
  rw [h]
  rfl
theorem xcell_l {G : xG} {σ : xS} {k n : Nat} (h : xck k = (11, n)) : xcell G σ k = .inl (G.2.2 1, n, .inr (.inl (xgL σ k))) := by
  unfold xcell
  rw [h]
  rfl
theorem xcell_z {G : xG} {σ : xS} {k n : Nat} (h : xck k = (12, n)) : xcell G σ k = .inl (G.2.2 2, n, .inl (xgI σ k)) := by
  unfold xcell
  rw [h]
  rfl
theorem xcell_r {G : xG} {σ : xS} {k n : Nat} (h : xck k = (13, n)) : xcell G σ k = .inl (G.2.2 3, n, .inr (.inr (.inr (.inr (fun j => some (G.2.1 (xrf σ k j))))))) := by
  unfold xcell
  rw [h]
  rfl
theorem xcell_a {G : xG} {σ : xS} {k n : Nat} (h : xck k = (14, n)) : xcell G σ k = .inl (G.2.2 4, n, .inr (.inr (.inr (.inr (fun j => some (G.2.1 (xrf σ k j))))))) := by
  unfold xcell
  rw [h]
  rfl
theorem xfl_congr {G : xG} {σ τ : xS} {k : Nat} (h1 : ∀ j, xgI τ k j = xgI σ k j) (h2 : ∀ j, xgL τ k j = xgL σ k j) (h3 : ∀ j, xrf τ k j = xrf σ k j) : ∀ (ts : List Nat) (j : Nat), xfl G τ k j ts = xfl G σ k j ts
  | [], _ => rfl
  | t :: ts, j => by
    show xfv G τ k j t :: _ = xfv G σ k j t :: _
    rw [xfl_congr h1 h2 h3 ts (j + 1)]
    congr 1
    unfold xfv
    rw [h1, h2, h3]
theorem xcell_congr {G : xG} {σ τ : xS} {k : Nat} (h1 : ∀ j, xgI τ k j = xgI σ k j) (h2 : ∀ j, xgL τ k j = xgL σ k j) (h3 : ∀ j, xrf τ k j = xrf σ k j) : xcell G τ k = xcell G σ k := by
  have e1 : xgI τ k = xgI σ k := funext h1
  have e2 : xgL τ k = xgL σ k := funext h2
  have e3 : xrf τ k = xrf σ k := funext h3
  unfold xcell
  rw [e1, e2, e3]
  have e4 : ∀ ts, xfl G τ k 0 ts = xfl G σ k 0 ts := fun ts => xfl_congr h1 h2 h3 ts 0
  simp only [e4]
theorem xck_lt {k ci n : Nat} (h : xck k = (ci, n)) (hc : ci ≠ 99) : k < 527 := by
  unfold xck at h
  by_cases h1 : k < 527
  · exact h1
  · rw [if_neg (by omega), if_neg (by omega), if_neg (by omega), if_neg (by omega), if_neg h1] at h
    cases h
    exact absurd rfl hc
/-- the world: all cells in their order -/
def xwl (G : xG) (σ : xS) : va_W := (List.range 527).map (fun k => (G.2.1 k, xcell G σ k))
theorem xwl_at {G : xG} {σ : xS} {k : Nat} (h : k < 527) : (xwl G σ)[k]? = some (G.2.1 k, xcell G σ k) := by
  unfold xwl
  rw [List.getElem?_map, List.getElem?_range h]
  rfl
theorem xwl_len {G : xG} {σ : xS} : (xwl G σ).length = 527 := by simp [xwl]
theorem xwl_set {G : xG} {σ τ : xS} {k : Nat} {e : va_E} (h : k < 527) (he : xcell G τ k = e) (ho : ∀ j, j ≠ k → xcell G τ j = xcell G σ j) : (xwl G σ).set k (G.2.1 k, e) = xwl G τ := by
  apply List.ext_getElem?
  intro n
  rw [List.getElem?_set, xwl_len]
  by_cases hn : n < 527
  · rw [xwl_at hn, xwl_at hn]
    by_cases hk : k = n
    · subst hk
      rw [if_pos rfl, if_pos hn, he]
    · rw [if_neg hk, ho n (fun e => hk e.symm)]
  · rw [if_neg (by omega), List.getElem?_eq_none (by rw [xwl_len]; omega), List.getElem?_eq_none (by rw [xwl_len]; omega)]
/-- the world's own addresses -/
def xA (G : xG) : Nat → Prop := fun q => ∃ k, k < 527 ∧ q = G.2.1 k
abbrev xty (G : xG) : List (ClassId × FieldType) := [(G.2.2 0, .int), (G.2.2 1, .long), (G.2.2 2, .boolean), (G.2.2 3, .object "PlanCertificates$Row"), (G.2.2 4, .array .int)]
/-- what the tables say, wherever we are -/
def xK (G : xG) (U : State) : Prop := va_K G.1 vwCl (xty G) U ∧ (∀ w ∈ lw_tbl, goodWord w = true → w.before #[] U = true) ∧ (∀ i j, i < 527 → j < 527 → G.2.1 i = G.2.1 j → i = j)
theorem xK.moved {G : xG} {s U : State} (h : xK G s) (hW : s.WarmedH U.vm) : xK G U := ⟨va_K.moved hW.alike h.1, fun w hw hg => word_at hW (good_of_word hg) (h.2.1 w hw hg), h.2.2⟩
theorem xK.word {G : xG} {s : State} (h : xK G s) {w : Cond} (hw : w ∈ lw_tbl) (hg : goodWord w = true) {args : Array Value} : w.before args s = true := word_at (State.WarmedH.refl s) (good_of_word hg) (h.2.1 w hw hg)
theorem xwl_D {G : xG} {σ : xS} (h : ∀ i j, i < 527 → j < 527 → G.2.1 i = G.2.1 j → i = j) : va_D (xA G) (xwl G σ) := by
  have key : ∀ (k : Nat) (q : Nat × va_E), (xwl G σ)[k]? = some q → k < 527 ∧ q.1 = G.2.1 k := by
    intro k q hq
    have hk := (List.getElem?_eq_some_iff.mp hq).1
    rw [xwl_len] at hk
    rw [xwl_at hk] at hq
    cases hq
    exact ⟨hk, rfl⟩
  refine ⟨fun i j x y hx hy e => ?_, fun k q hq => ⟨k, key k q hq⟩⟩
  obtain ⟨a1, a2⟩ := key i x hx
  obtain ⟨b1, b2⟩ := key j y hy
  exact h i j a1 b1 (a2 ▸ b2 ▸ e)
theorem xlay {G : xG} {s : State} (h : xK G s) {ci N : Nat} {C : String} {T : u_T} (hc : vwCl[ci]? = some (C, T, N)) {args : Array Value} : ∀ w ∈ u_ws C T N, w.before args s = true := by
  have key : ∀ w ∈ u_ws C T N, w ∈ lw_tbl ∧ goodWord w = true := by
    match ci, hc with
    | 0, hc => cases hc; exact wy_0
    | 1, hc => cases hc; exact wy_1
    | 2, hc => cases hc; exact wy_2
    | 3, hc => cases hc; exact wy_3
    | 4, hc => cases hc; exact wy_4
    | 5, hc => cases hc; exact wy_5
    | 6, hc => cases hc; exact wy_6
    | 7, hc => cases hc; exact wy_7
    | 8, hc => cases hc; exact wy_8
    | k + 9, hc => simp [vwCl] at hc
  exact fun w hw => h.word (key w hw).1 (key w hw).2
/-- the heap holds the state -/
def xH (G : xG) (σ : xS) (H : Heap) : Prop := va_P G.1 vwCl (xwl G σ) H
end
section
/-! A ROW AN INSTRUCTION, over the state -/
def xlk : List (Nat × Value) → Nat → Option Value
  | [], _ => none
  | q :: r, i => if q.1 = i then some q.2 else xlk r i
theorem xlk_mem {i : Nat} {v : Value} : ∀ {lv : List (Nat × Value)}, xlk lv i = some v → (i, v) ∈ lv
  | [], h => by cases h
  | q :: r, h => by
    unfold xlk at h
    by_cases hq : q.1 = i
    · rw [if_pos hq] at h
      cases h
      subst hq
      exact List.mem_cons_self
    · rw [if_neg hq] at h
      exact List.mem_cons_of_mem _ (xlk_mem h)
section XW
variable {p : Program} {l : Launch} {e : Env} {R : Room} {s : State} {m : MethodId} {args : Array Value} {below : List Frame} {meth : Method} {c : Code} {cc : ByteArray} {nL : Nat} {own : String} {ret : Option FieldType} {G : xG} {cells slots : Nat} {Q : State → Prop} {pc : Nat} {lv lv' : List (Nat × Value)} {st : List Value} {σ : xS}
/-- the machine at pc with these locals, this stack, this state, comes to Q -/
def xW (p : Program) (l : Launch) (e : Env) (R : Room) (s : State) (m : MethodId) (args : Array Value) (below : List Frame) (meth : Method) (c : Code) (nL : Nat) (G : xG) (cells slots : Nat) (Q : State → Prop) (pc : Nat) (lv : List (Nat × Value)) (st : List Value) (σ : xS) : Prop :=
  ∀ (H : Heap) (locs : List Loc) (ls : Array Slot), xH G σ H → va_S (xA G) s.heap H locs → lv_has ls nL lv → W p l e R s m args below meth c H locs cells slots Q (F0 m pc ls st)
/-- what stays the same in a body -/
def xC (p : Program) (s : State) (m : MethodId) (meth : Method) (c : Code) (cc : ByteArray) (nL : Nat) (own : String) (ret : Option FieldType) (G : xG) : Prop :=
  p.tables.exec = Jvm.exec ∧ c.code = cc ∧ c.maxLocals = nL ∧ s.vm.findClass own = some m.cls ∧ xK G s ∧ meth.sig.returnType = ret ∧ meth.locks = false
theorem xC.x (X : xC p s m meth c cc nL own ret G) : p.tables.exec = Jvm.exec := X.1
theorem xC.b (X : xC p s m meth c cc nL own ret G) : c.code = cc := X.2.1
theorem xC.ml (X : xC p s m meth c cc nL own ret G) : c.maxLocals = nL := X.2.2.1
theorem xC.o (X : xC p s m meth c cc nL own ret G) : s.vm.findClass own = some m.cls := X.2.2.2.1
theorem xC.k (X : xC p s m meth c cc nL own ret G) : xK G s := X.2.2.2.2.1
theorem xC.r (X : xC p s m meth c cc nL own ret G) : meth.sig.returnType = ret := X.2.2.2.2.2.1
theorem xC.n (X : xC p s m meth c cc nL own ret G) : meth.locks = false := X.2.2.2.2.2.2
theorem x_iconst (X : xC p s m meth c cc nL own ret G) {n : Int} {v : Int32} (d : decode cc pc = .ok (.iconst n, 1)) (hv : Int32.ofInt n = v) (K : xW p l e R s m args below meth c nL G cells slots Q (pc + 1) lv (.int v :: st) σ) : xW p l e R s m args below meth c nL G cells slots Q (pc) lv (st) σ := fun H locs ls hH hS hl => lv_iconst X.x X.b d hv (K H locs ls hH hS hl)
theorem x_bipush (X : xC p s m meth c cc nL own ret G) {n : Int} {v : Int32} (d : decode cc pc = .ok (.bipush n, 2)) (hv : (Int8.ofInt n).toInt32 = v) (K : xW p l e R s m args below meth c nL G cells slots Q (pc + 2) lv (.int v :: st) σ) : xW p l e R s m args below meth c nL G cells slots Q (pc) lv (st) σ := fun H locs ls hH hS hl => lv_bipush X.x X.b d hv (K H locs ls hH hS hl)
theorem x_sipush (X : xC p s m meth c cc nL own ret G) {n : Int} {v : Int32} (d : decode cc pc = .ok (.sipush n, 3)) (hv : (Int16.ofInt n).toInt32 = v) (K : xW p l e R s m args below meth c nL G cells slots Q (pc + 3) lv (.int v :: st) σ) : xW p l e R s m args below meth c nL G cells slots Q (pc) lv (st) σ := fun H locs ls hH hS hl => lv_sipush X.x X.b d hv (K H locs ls hH hS hl)
theorem x_lconst (X : xC p s m meth c cc nL own ret G) {n : Fin 2} {v : Int64} (d : decode cc pc = .ok (.lconst n, 1)) (hv : Int64.ofNat (n : Nat) = v) (K : xW p l e R s m args below meth c nL G cells slots Q (pc + 1) lv (.long v :: st) σ) : xW p l e R s m args below meth c nL G cells slots Q (pc) lv (st) σ := fun H locs ls hH hS hl => lv_lconst X.x X.b d hv (K H locs ls hH hS hl)
theorem x_ldc (X : xC p s m meth c cc nL own ret G) {i : Nat} {v : Int32} (d : decode cc pc = .ok (.ldc i, 2)) (hw : Cond.constant own i v ∈ lw_tbl) (K : xW p l e R s m args below meth c nL G cells slots Q (pc + 2) lv (.int v :: st) σ) : xW p l e R s m args below meth c nL G cells slots Q (pc) lv (st) σ := fun H locs ls hH hS hl => lv_ldc X.x X.b X.o (X.k.word hw rfl) d (K H locs ls hH hS hl)
theorem x_ldc2 (X : xC p s m meth c cc nL own ret G) {i : Nat} {v : Int64} (d : decode cc pc = .ok (.ldc2_w i, 3)) (hw : Cond.constantLong own i v ∈ lw_tbl) (K : xW p l e R s m args below meth c nL G cells slots Q (pc + 3) lv (.long v :: st) σ) : xW p l e R s m args below meth c nL G cells slots Q (pc) lv (st) σ := fun H locs ls hH hS hl => lv_ldc2 X.x X.b X.o (X.k.word hw rfl) d (K H locs ls hH hS hl)
theorem x_iload_n (X : xC p s m meth c cc nL own ret G) {k : Fin 4} {x : Int32} (d : decode cc pc = .ok (.iload_n k, 1)) (hq : xlk lv k = some (.int x)) (K : xW p l e R s m args below meth c nL G cells slots Q (pc + 1) lv (.int x :: st) σ) : xW p l e R s m args below meth c nL G cells slots Q (pc) lv (st) σ := fun H locs ls hH hS hl => lv_iload_n X.x X.b d rfl (hl.2.2 _ (xlk_mem hq)) (K H locs ls hH hS hl)
theorem x_iload (X : xC p s m meth c cc nL own ret G) {i : Nat} {x : Int32} (d : decode cc pc = .ok (.iload i, 2)) (hq : xlk lv i = some (.int x)) (K : xW p l e R s m args below meth c nL G cells slots Q (pc + 2) lv (.int x :: st) σ) : xW p l e R s m args below meth c nL G cells slots Q (pc) lv (st) σ := fun H locs ls hH hS hl => lv_iload X.x X.b d (hl.2.2 _ (xlk_mem hq)) (K H locs ls hH hS hl)
theorem x_lload_n (X : xC p s m meth c cc nL own ret G) {k : Fin 4} {x : Int64} (d : decode cc pc = .ok (.lload_n k, 1)) (hq : xlk lv k = some (.long x)) (K : xW p l e R s m args below meth c nL G cells slots Q (pc + 1) lv (.long x :: st) σ) : xW p l e R s m args below meth c nL G cells slots Q (pc) lv (st) σ := fun H locs ls hH hS hl => lv_lload_n X.x X.b d rfl (hl.2.2 _ (xlk_mem hq)) (K H locs ls hH hS hl)
theorem x_lload (X : xC p s m meth c cc nL own ret G) {i : Nat} {x : Int64} (d : decode cc pc = .ok (.lload i, 2)) (hq : xlk lv i = some (.long x)) (K : xW p l e R s m args below meth c nL G cells slots Q (pc + 2) lv (.long x :: st) σ) : xW p l e R s m args below meth c nL G cells slots Q (pc) lv (st) σ := fun H locs ls hH hS hl => lv_lload X.x X.b d (hl.2.2 _ (xlk_mem hq)) (K H locs ls hH hS hl)
theorem x_aload_n (X : xC p s m meth c cc nL own ret G) {k : Fin 4} {x : Nat} (d : decode cc pc = .ok (.aload_n k, 1)) (hq : xlk lv k = some (.ref x)) (K : xW p l e R s m args below meth c nL G cells slots Q (pc + 1) lv (.ref x :: st) σ) : xW p l e R s m args below meth c nL G cells slots Q (pc) lv (st) σ := fun H locs ls hH hS hl => lv_aload_n X.x X.b d rfl (hl.2.2 _ (xlk_mem hq)) (K H locs ls hH hS hl)
theorem x_aload (X : xC p s m meth c cc nL own ret G) {i : Nat} {x : Nat} (d : decode cc pc = .ok (.aload i, 2)) (hq : xlk lv i = some (.ref x)) (K : xW p l e R s m args below meth c nL G cells slots Q (pc + 2) lv (.ref x :: st) σ) : xW p l e R s m args below meth c nL G cells slots Q (pc) lv (st) σ := fun H locs ls hH hS hl => lv_aload X.x X.b d (hl.2.2 _ (xlk_mem hq)) (K H locs ls hH hS hl)
theorem x_istore_n (X : xC p s m meth c cc nL own ret G) {k : Fin 4} {i : Nat} {x : Int32} (d : decode cc pc = .ok (.istore_n k, 1)) (hi : (k : Nat) = i) (hn : i < nL) (hf : (i, Value.int x) :: lv.filter (fun q => !(q.1 == i) && !(q.1 + 1 == i && q.2.category == 2)) = lv') (K : xW p l e R s m args below meth c nL G cells slots Q (pc + 1) lv' (st) σ) : xW p l e R s m args below meth c nL G cells slots Q (pc) lv (.int x :: st) σ := fun H locs ls hH hS hl => lv_istore_n X.x X.b d hi hl hn hf (fun ls hl => K H locs ls hH hS hl)
theorem x_istore (X : xC p s m meth c cc nL own ret G) {i : Nat} {x : Int32} (d : decode cc pc = .ok (.istore i, 2)) (hn : i < nL) (hf : (i, Value.int x) :: lv.filter (fun q => !(q.1 == i) && !(q.1 + 1 == i && q.2.category == 2)) = lv') (K : xW p l e R s m args below meth c nL G cells slots Q (pc + 2) lv' (st) σ) : xW p l e R s m args below meth c nL G cells slots Q (pc) lv (.int x :: st) σ := fun H locs ls hH hS hl => lv_istore X.x X.b d hl hn hf (fun ls hl => K H locs ls hH hS hl)
theorem x_lstore_n (X : xC p s m meth c cc nL own ret G) {k : Fin 4} {i : Nat} {x : Int64} (d : decode cc pc = .ok (.lstore_n k, 1)) (hi : (k : Nat) = i) (hn : i + 1 < nL) (hf : (i, Value.long x) :: lv.filter (fun q => !(q.1 == i) && (!(q.1 == i + 1) && !(q.1 + 1 == i && q.2.category == 2))) = lv') (K : xW p l e R s m args below meth c nL G cells slots Q (pc + 1) lv' (st) σ) : xW p l e R s m args below meth c nL G cells slots Q (pc) lv (.long x :: st) σ := fun H locs ls hH hS hl => lv_lstore_n X.x X.b d hi hl hn hf (fun ls hl => K H locs ls hH hS hl)
theorem x_lstore (X : xC p s m meth c cc nL own ret G) {i : Nat} {x : Int64} (d : decode cc pc = .ok (.lstore i, 2)) (hn : i + 1 < nL) (hf : (i, Value.long x) :: lv.filter (fun q => !(q.1 == i) && (!(q.1 == i + 1) && !(q.1 + 1 == i && q.2.category == 2))) = lv') (K : xW p l e R s m args below meth c nL G cells slots Q (pc + 2) lv' (st) σ) : xW p l e R s m args below meth c nL G cells slots Q (pc) lv (.long x :: st) σ := fun H locs ls hH hS hl => lv_lstore X.x X.b d hl hn hf (fun ls hl => K H locs ls hH hS hl)
theorem x_astore_n (X : xC p s m meth c cc nL own ret G) {k : Fin 4} {i : Nat} {x : Nat} (d : decode cc pc = .ok (.astore_n k, 1)) (hi : (k : Nat) = i) (hn : i < nL) (hf : (i, Value.ref x) :: lv.filter (fun q => !(q.1 == i) && !(q.1 + 1 == i && q.2.category == 2)) = lv') (K : xW p l e R s m args below meth c nL G cells slots Q (pc + 1) lv' (st) σ) : xW p l e R s m args below meth c nL G cells slots Q (pc) lv (.ref x :: st) σ := fun H locs ls hH hS hl => lv_astore_n X.x X.b d hi hl hn hf (fun ls hl => K H locs ls hH hS hl)
theorem x_astore (X : xC p s m meth c cc nL own ret G) {i : Nat} {x : Nat} (d : decode cc pc = .ok (.astore i, 2)) (hn : i < nL) (hf : (i, Value.ref x) :: lv.filter (fun q => !(q.1 == i) && !(q.1 + 1 == i && q.2.category == 2)) = lv') (K : xW p l e R s m args below meth c nL G cells slots Q (pc + 2) lv' (st) σ) : xW p l e R s m args below meth c nL G cells slots Q (pc) lv (.ref x :: st) σ := fun H locs ls hH hS hl => lv_astore X.x X.b d hl hn hf (fun ls hl => K H locs ls hH hS hl)
theorem x_iinc (X : xC p s m meth c cc nL own ret G) {i k : Nat} {n : Int} {x v : Int32} (d : decode cc pc = .ok (.iinc i n, 3)) (hk : lv[k]? = some (i, .int x)) (hv : x + Int32.ofInt n = v) (hn : i < nL) (hf : (i, Value.int v) :: lv.filter (fun q => !(q.1 == i) && !(q.1 + 1 == i && q.2.category == 2)) = lv') (K : xW p l e R s m args below meth c nL G cells slots Q (pc + 3) lv' (st) σ) : xW p l e R s m args below meth c nL G cells slots Q (pc) lv (st) σ := fun H locs ls hH hS hl => lv_iinc X.x X.b d hl hk hv hn hf (fun ls hl => K H locs ls hH hS hl)
theorem x_iadd (X : xC p s m meth c cc nL own ret G) {x y : Int32} (d : decode cc pc = .ok (.iadd, 1)) (K : xW p l e R s m args below meth c nL G cells slots Q (pc + 1) lv (.int (x + y) :: st) σ) : xW p l e R s m args below meth c nL G cells slots Q (pc) lv (.int y :: .int x :: st) σ := fun H locs ls hH hS hl => lv_iadd X.x X.b d (K H locs ls hH hS hl)
theorem x_isub (X : xC p s m meth c cc nL own ret G) {x y : Int32} (d : decode cc pc = .ok (.isub, 1)) (K : xW p l e R s m args below meth c nL G cells slots Q (pc + 1) lv (.int (x - y) :: st) σ) : xW p l e R s m args below meth c nL G cells slots Q (pc) lv (.int y :: .int x :: st) σ := fun H locs ls hH hS hl => lv_isub X.x X.b d (K H locs ls hH hS hl)
theorem x_imul (X : xC p s m meth c cc nL own ret G) {x y : Int32} (d : decode cc pc = .ok (.imul, 1)) (K : xW p l e R s m args below meth c nL G cells slots Q (pc + 1) lv (.int (x * y) :: st) σ) : xW p l e R s m args below meth c nL G cells slots Q (pc) lv (.int y :: .int x :: st) σ := fun H locs ls hH hS hl => lv_imul X.x X.b d (K H locs ls hH hS hl)
theorem x_iand (X : xC p s m meth c cc nL own ret G) {x y : Int32} (d : decode cc pc = .ok (.iand, 1)) (K : xW p l e R s m args below meth c nL G cells slots Q (pc + 1) lv (.int (x &&& y) :: st) σ) : xW p l e R s m args below meth c nL G cells slots Q (pc) lv (.int y :: .int x :: st) σ := fun H locs ls hH hS hl => lv_iand X.x X.b d (K H locs ls hH hS hl)
theorem x_irem (X : xC p s m meth c cc nL own ret G) {x y : Int32} (d : decode cc pc = .ok (.irem, 1)) (h : ¬ y = 0) (K : xW p l e R s m args below meth c nL G cells slots Q (pc + 1) lv (.int (x - x / y * y) :: st) σ) : xW p l e R s m args below meth c nL G cells slots Q (pc) lv (.int y :: .int x :: st) σ := fun H locs ls hH hS hl => lv_irem X.x X.b d h (K H locs ls hH hS hl)
theorem x_ineg (X : xC p s m meth c cc nL own ret G) {x : Int32} (d : decode cc pc = .ok (.ineg, 1)) (K : xW p l e R s m args below meth c nL G cells slots Q (pc + 1) lv (.int (-x) :: st) σ) : xW p l e R s m args below meth c nL G cells slots Q (pc) lv (.int x :: st) σ := fun H locs ls hH hS hl => lv_ineg X.x X.b d (K H locs ls hH hS hl)
theorem x_ladd (X : xC p s m meth c cc nL own ret G) {x y : Int64} (d : decode cc pc = .ok (.ladd, 1)) (K : xW p l e R s m args below meth c nL G cells slots Q (pc + 1) lv (.long (x + y) :: st) σ) : xW p l e R s m args below meth c nL G cells slots Q (pc) lv (.long y :: .long x :: st) σ := fun H locs ls hH hS hl => lv_ladd X.x X.b d (K H locs ls hH hS hl)
theorem x_lsub (X : xC p s m meth c cc nL own ret G) {x y : Int64} (d : decode cc pc = .ok (.lsub, 1)) (K : xW p l e R s m args below meth c nL G cells slots Q (pc + 1) lv (.long (x - y) :: st) σ) : xW p l e R s m args below meth c nL G cells slots Q (pc) lv (.long y :: .long x :: st) σ := fun H locs ls hH hS hl => lv_lsub X.x X.b d (K H locs ls hH hS hl)
theorem x_lmul (X : xC p s m meth c cc nL own ret G) {x y : Int64} (d : decode cc pc = .ok (.lmul, 1)) (K : xW p l e R s m args below meth c nL G cells slots Q (pc + 1) lv (.long (x * y) :: st) σ) : xW p l e R s m args below meth c nL G cells slots Q (pc) lv (.long y :: .long x :: st) σ := fun H locs ls hH hS hl => lv_lmul X.x X.b d (K H locs ls hH hS hl)
theorem x_land (X : xC p s m meth c cc nL own ret G) {x y : Int64} (d : decode cc pc = .ok (.land, 1)) (K : xW p l e R s m args below meth c nL G cells slots Q (pc + 1) lv (.long (x &&& y) :: st) σ) : xW p l e R s m args below meth c nL G cells slots Q (pc) lv (.long y :: .long x :: st) σ := fun H locs ls hH hS hl => lv_land X.x X.b d (K H locs ls hH hS hl)
theorem x_lor (X : xC p s m meth c cc nL own ret G) {x y : Int64} (d : decode cc pc = .ok (.lor, 1)) (K : xW p l e R s m args below meth c nL G cells slots Q (pc + 1) lv (.long (x ||| y) :: st) σ) : xW p l e R s m args below meth c nL G cells slots Q (pc) lv (.long y :: .long x :: st) σ := fun H locs ls hH hS hl => lv_lor X.x X.b d (K H locs ls hH hS hl)
theorem x_lxor (X : xC p s m meth c cc nL own ret G) {x y : Int64} (d : decode cc pc = .ok (.lxor, 1)) (K : xW p l e R s m args below meth c nL G cells slots Q (pc + 1) lv (.long (x ^^^ y) :: st) σ) : xW p l e R s m args below meth c nL G cells slots Q (pc) lv (.long y :: .long x :: st) σ := fun H locs ls hH hS hl => lv_lxor X.x X.b d (K H locs ls hH hS hl)
theorem x_ldiv (X : xC p s m meth c cc nL own ret G) {x y : Int64} (d : decode cc pc = .ok (.ldiv, 1)) (h : ¬ y = 0) (K : xW p l e R s m args below meth c nL G cells slots Q (pc + 1) lv (.long (x / y) :: st) σ) : xW p l e R s m args below meth c nL G cells slots Q (pc) lv (.long y :: .long x :: st) σ := fun H locs ls hH hS hl => lv_ldiv X.x X.b d h (K H locs ls hH hS hl)
theorem x_lrem (X : xC p s m meth c cc nL own ret G) {x y : Int64} (d : decode cc pc = .ok (.lrem, 1)) (h : ¬ y = 0) (K : xW p l e R s m args below meth c nL G cells slots Q (pc + 1) lv (.long (x - x / y * y) :: st) σ) : xW p l e R s m args below meth c nL G cells slots Q (pc) lv (.long y :: .long x :: st) σ := fun H locs ls hH hS hl => lv_lrem X.x X.b d h (K H locs ls hH hS hl)
theorem x_lneg (X : xC p s m meth c cc nL own ret G) {x : Int64} (d : decode cc pc = .ok (.lneg, 1)) (K : xW p l e R s m args below meth c nL G cells slots Q (pc + 1) lv (.long (-x) :: st) σ) : xW p l e R s m args below meth c nL G cells slots Q (pc) lv (.long x :: st) σ := fun H locs ls hH hS hl => lv_lneg X.x X.b d (K H locs ls hH hS hl)
theorem x_i2l (X : xC p s m meth c cc nL own ret G) {x : Int32} (d : decode cc pc = .ok (.i2l, 1)) (K : xW p l e R s m args below meth c nL G cells slots Q (pc + 1) lv (.long x.toInt64 :: st) σ) : xW p l e R s m args below meth c nL G cells slots Q (pc) lv (.int x :: st) σ := fun H locs ls hH hS hl => lv_i2l X.x X.b d rfl (K H locs ls hH hS hl)
theorem x_l2i (X : xC p s m meth c cc nL own ret G) {x : Int64} (d : decode cc pc = .ok (.l2i, 1)) (K : xW p l e R s m args below meth c nL G cells slots Q (pc + 1) lv (.int x.toInt32 :: st) σ) : xW p l e R s m args below meth c nL G cells slots Q (pc) lv (.long x :: st) σ := fun H locs ls hH hS hl => lv_l2i X.x X.b d rfl (K H locs ls hH hS hl)
theorem x_lushr (X : xC p s m meth c cc nL own ret G) {x : Int64} {y : Int32} (d : decode cc pc = .ok (.lushr, 1)) (K : xW p l e R s m args below meth c nL G cells slots Q (pc + 1) lv (.long (x.toUInt64 >>> (y.toInt64.toUInt64 &&& Int64.toUInt64 63)).toInt64 :: st) σ) : xW p l e R s m args below meth c nL G cells slots Q (pc) lv (.int y :: .long x :: st) σ := fun H locs ls hH hS hl => lv_lushr X.x X.b d rfl (K H locs ls hH hS hl)
theorem x_lshl (X : xC p s m meth c cc nL own ret G) {x : Int64} {y : Int32} (d : decode cc pc = .ok (.lshl, 1)) (K : xW p l e R s m args below meth c nL G cells slots Q (pc + 1) lv (.long (x <<< (y.toInt64 &&& 63)) :: st) σ) : xW p l e R s m args below meth c nL G cells slots Q (pc) lv (.int y :: .long x :: st) σ := fun H locs ls hH hS hl => lv_lshl X.x X.b d rfl (K H locs ls hH hS hl)
theorem x_lshr (X : xC p s m meth c cc nL own ret G) {x : Int64} {y : Int32} (d : decode cc pc = .ok (.lshr, 1)) (K : xW p l e R s m args below meth c nL G cells slots Q (pc + 1) lv (.long (x >>> (y.toInt64 &&& 63)) :: st) σ) : xW p l e R s m args below meth c nL G cells slots Q (pc) lv (.int y :: .long x :: st) σ := fun H locs ls hH hS hl => lv_lshr X.x X.b d rfl (K H locs ls hH hS hl)
theorem x_lcmp (X : xC p s m meth c cc nL own ret G) {x y : Int64} (d : decode cc pc = .ok (.lcmp, 1)) (K : xW p l e R s m args below meth c nL G cells slots Q (pc + 1) lv (.int (lg_cmp x y) :: st) σ) : xW p l e R s m args below meth c nL G cells slots Q (pc) lv (.long y :: .long x :: st) σ := fun H locs ls hH hS hl => W.lcmp X.x X.b d (K H locs ls hH hS hl)
theorem x_dup (X : xC p s m meth c cc nL own ret G) {v : Value} (d : decode cc pc = .ok (.dup, 1)) (hv : v.category = 1) (K : xW p l e R s m args below meth c nL G cells slots Q (pc + 1) lv (v :: v :: st) σ) : xW p l e R s m args below meth c nL G cells slots Q (pc) lv (v :: st) σ := fun H locs ls hH hS hl => lv_dup X.x X.b d hv (K H locs ls hH hS hl)
theorem x_pop (X : xC p s m meth c cc nL own ret G) {v : Value} (d : decode cc pc = .ok (.pop, 1)) (hv : v.category = 1) (K : xW p l e R s m args below meth c nL G cells slots Q (pc + 1) lv (st) σ) : xW p l e R s m args below meth c nL G cells slots Q (pc) lv (v :: st) σ := fun H locs ls hH hS hl => lv_pop X.x X.b d hv (K H locs ls hH hS hl)
theorem x_dup2 (X : xC p s m meth c cc nL own ret G) {u v : Value} (d : decode cc pc = .ok (.dup2, 1)) (hu : u.category = 1) (hv : v.category = 1) (K : xW p l e R s m args below meth c nL G cells slots Q (pc + 1) lv (u :: v :: u :: v :: st) σ) : xW p l e R s m args below meth c nL G cells slots Q (pc) lv (u :: v :: st) σ := fun H locs ls hH hS hl => lv_dup2_11 X.x X.b d hu hv (K H locs ls hH hS hl)
theorem x_goto (X : xC p s m meth c cc nL own ret G) {off : Int} {tgt : Nat} (d : decode cc pc = .ok (.goto off, 3)) (ht : (pc : Int) + off = (tgt : Int)) (K : xW p l e R s m args below meth c nL G cells slots Q (tgt) lv (st) σ) : xW p l e R s m args below meth c nL G cells slots Q (pc) lv (st) σ := fun H locs ls hH hS hl => lv_goto X.x X.b d ht (K H locs ls hH hS hl)
theorem x_ifeq (X : xC p s m meth c cc nL own ret G) {x : Int32} {off : Int} {tgt : Nat} (d : decode cc pc = .ok (.ifCond .eq off, 3)) (ht : (pc : Int) + off = (tgt : Int)) (KT : (x = 0) → xW p l e R s m args below meth c nL G cells slots Q (tgt) lv (st) σ) (KF : (¬ x = 0) → xW p l e R s m args below meth c nL G cells slots Q (pc + 3) lv (st) σ) : xW p l e R s m args below meth c nL G cells slots Q (pc) lv (.int x :: st) σ := fun H locs ls hH hS hl => lv_if_eq X.x X.b d ht (fun h => KT h H locs ls hH hS hl) (fun h => KF h H locs ls hH hS hl)
theorem x_iflt (X : xC p s m meth c cc nL own ret G) {x : Int32} {off : Int} {tgt : Nat} (d : decode cc pc = .ok (.ifCond .lt off, 3)) (ht : (pc : Int) + off = (tgt : Int)) (KT : (x < 0) → xW p l e R s m args below meth c nL G cells slots Q (tgt) lv (st) σ) (KF : (¬ x < 0) → xW p l e R s m args below meth c nL G cells slots Q (pc + 3) lv (st) σ) : xW p l e R s m args below meth c nL G cells slots Q (pc) lv (.int x :: st) σ := fun H locs ls hH hS hl => lv_if_lt X.x X.b d ht (fun h => KT h H locs ls hH hS hl) (fun h => KF h H locs ls hH hS hl)
theorem x_ifge (X : xC p s m meth c cc nL own ret G) {x : Int32} {off : Int} {tgt : Nat} (d : decode cc pc = .ok (.ifCond .ge off, 3)) (ht : (pc : Int) + off = (tgt : Int)) (KT : (0 ≤ x) → xW p l e R s m args below meth c nL G cells slots Q (tgt) lv (st) σ) (KF : (¬ 0 ≤ x) → xW p l e R s m args below meth c nL G cells slots Q (pc + 3) lv (st) σ) : xW p l e R s m args below meth c nL G cells slots Q (pc) lv (.int x :: st) σ := fun H locs ls hH hS hl => lv_if_ge X.x X.b d ht (fun h => KT h H locs ls hH hS hl) (fun h => KF h H locs ls hH hS hl)
theorem x_ifgt (X : xC p s m meth c cc nL own ret G) {x : Int32} {off : Int} {tgt : Nat} (d : decode cc pc = .ok (.ifCond .gt off, 3)) (ht : (pc : Int) + off = (tgt : Int)) (KT : (0 < x) → xW p l e R s m args below meth c nL G cells slots Q (tgt) lv (st) σ) (KF : (¬ 0 < x) → xW p l e R s m args below meth c nL G cells slots Q (pc + 3) lv (st) σ) : xW p l e R s m args below meth c nL G cells slots Q (pc) lv (.int x :: st) σ := fun H locs ls hH hS hl => lv_if_gt X.x X.b d ht (fun h => KT h H locs ls hH hS hl) (fun h => KF h H locs ls hH hS hl)
theorem x_ifle (X : xC p s m meth c cc nL own ret G) {x : Int32} {off : Int} {tgt : Nat} (d : decode cc pc = .ok (.ifCond .le off, 3)) (ht : (pc : Int) + off = (tgt : Int)) (KT : (x ≤ 0) → xW p l e R s m args below meth c nL G cells slots Q (tgt) lv (st) σ) (KF : (¬ x ≤ 0) → xW p l e R s m args below meth c nL G cells slots Q (pc + 3) lv (st) σ) : xW p l e R s m args below meth c nL G cells slots Q (pc) lv (.int x :: st) σ := fun H locs ls hH hS hl => lv_if_le X.x X.b d ht (fun h => KT h H locs ls hH hS hl) (fun h => KF h H locs ls hH hS hl)
theorem x_ifne (X : xC p s m meth c cc nL own ret G) {x : Int32} {off : Int} {tgt : Nat} (d : decode cc pc = .ok (.ifCond .ne off, 3)) (ht : (pc : Int) + off = (tgt : Int)) (KT : (¬ x = 0) → xW p l e R s m args below meth c nL G cells slots Q (tgt) lv (st) σ) (KF : (x = 0) → xW p l e R s m args below meth c nL G cells slots Q (pc + 3) lv (st) σ) : xW p l e R s m args below meth c nL G cells slots Q (pc) lv (.int x :: st) σ := fun H locs ls hH hS hl => lv_if_ne X.x X.b d ht (fun h => KT h H locs ls hH hS hl) (fun h => KF h H locs ls hH hS hl)
theorem x_icmpeq (X : xC p s m meth c cc nL own ret G) {x y : Int32} {off : Int} {tgt : Nat} (d : decode cc pc = .ok (.if_icmp .eq off, 3)) (ht : (pc : Int) + off = (tgt : Int)) (KT : (x = y) → xW p l e R s m args below meth c nL G cells slots Q (tgt) lv (st) σ) (KF : (¬ x = y) → xW p l e R s m args below meth c nL G cells slots Q (pc + 3) lv (st) σ) : xW p l e R s m args below meth c nL G cells slots Q (pc) lv (.int y :: .int x :: st) σ := fun H locs ls hH hS hl => lv_icmp_eq X.x X.b d ht (fun h => KT h H locs ls hH hS hl) (fun h => KF h H locs ls hH hS hl)
theorem x_icmplt (X : xC p s m meth c cc nL own ret G) {x y : Int32} {off : Int} {tgt : Nat} (d : decode cc pc = .ok (.if_icmp .lt off, 3)) (ht : (pc : Int) + off = (tgt : Int)) (KT : (x < y) → xW p l e R s m args below meth c nL G cells slots Q (tgt) lv (st) σ) (KF : (¬ x < y) → xW p l e R s m args below meth c nL G cells slots Q (pc + 3) lv (st) σ) : xW p l e R s m args below meth c nL G cells slots Q (pc) lv (.int y :: .int x :: st) σ := fun H locs ls hH hS hl => lv_icmp_lt X.x X.b d ht (fun h => KT h H locs ls hH hS hl) (fun h => KF h H locs ls hH hS hl)
theorem x_icmpge (X : xC p s m meth c cc nL own ret G) {x y : Int32} {off : Int} {tgt : Nat} (d : decode cc pc = .ok (.if_icmp .ge off, 3)) (ht : (pc : Int) + off = (tgt : Int)) (KT : (y ≤ x) → xW p l e R s m args below meth c nL G cells slots Q (tgt) lv (st) σ) (KF : (¬ y ≤ x) → xW p l e R s m args below meth c nL G cells slots Q (pc + 3) lv (st) σ) : xW p l e R s m args below meth c nL G cells slots Q (pc) lv (.int y :: .int x :: st) σ := fun H locs ls hH hS hl => lv_icmp_ge X.x X.b d ht (fun h => KT h H locs ls hH hS hl) (fun h => KF h H locs ls hH hS hl)
theorem x_icmpgt (X : xC p s m meth c cc nL own ret G) {x y : Int32} {off : Int} {tgt : Nat} (d : decode cc pc = .ok (.if_icmp .gt off, 3)) (ht : (pc : Int) + off = (tgt : Int)) (KT : (y < x) → xW p l e R s m args below meth c nL G cells slots Q (tgt) lv (st) σ) (KF : (¬ y < x) → xW p l e R s m args below meth c nL G cells slots Q (pc + 3) lv (st) σ) : xW p l e R s m args below meth c nL G cells slots Q (pc) lv (.int y :: .int x :: st) σ := fun H locs ls hH hS hl => lv_icmp_gt X.x X.b d ht (fun h => KT h H locs ls hH hS hl) (fun h => KF h H locs ls hH hS hl)
theorem x_icmple (X : xC p s m meth c cc nL own ret G) {x y : Int32} {off : Int} {tgt : Nat} (d : decode cc pc = .ok (.if_icmp .le off, 3)) (ht : (pc : Int) + off = (tgt : Int)) (KT : (x ≤ y) → xW p l e R s m args below meth c nL G cells slots Q (tgt) lv (st) σ) (KF : (¬ x ≤ y) → xW p l e R s m args below meth c nL G cells slots Q (pc + 3) lv (st) σ) : xW p l e R s m args below meth c nL G cells slots Q (pc) lv (.int y :: .int x :: st) σ := fun H locs ls hH hS hl => lv_icmp_le X.x X.b d ht (fun h => KT h H locs ls hH hS hl) (fun h => KF h H locs ls hH hS hl)
theorem x_icmpne (X : xC p s m meth c cc nL own ret G) {x y : Int32} {off : Int} {tgt : Nat} (d : decode cc pc = .ok (.if_icmp .ne off, 3)) (ht : (pc : Int) + off = (tgt : Int)) (KT : (¬ x = y) → xW p l e R s m args below meth c nL G cells slots Q (tgt) lv (st) σ) (KF : (x = y) → xW p l e R s m args below meth c nL G cells slots Q (pc + 3) lv (st) σ) : xW p l e R s m args below meth c nL G cells slots Q (pc) lv (.int y :: .int x :: st) σ := fun H locs ls hH hS hl => lv_icmp_ne X.x X.b d ht (fun h => KT h H locs ls hH hS hl) (fun h => KF h H locs ls hH hS hl)
theorem x_tableIn (X : xC p s m meth c cc nL own ret G) {dflt lo hi : Int} {offs : Array Int} {len : Nat} {x : Int32} {off : Int} {tgt : Nat} (d : decode cc pc = .ok (.tableswitch dflt lo hi offs, len)) (h1 : ¬ x.toInt < lo) (h2 : ¬ hi < x.toInt) (ho : offs[(x.toInt - lo).toNat]? = some off) (ht : (pc : Int) + off = (tgt : Int)) (K : xW p l e R s m args below meth c nL G cells slots Q (tgt) lv (st) σ) : xW p l e R s m args below meth c nL G cells slots Q (pc) lv (.int x :: st) σ := fun H locs ls hH hS hl => lv_tableIn X.x X.b d h1 h2 ho ht (K H locs ls hH hS hl)
theorem x_tableOut (X : xC p s m meth c cc nL own ret G) {dflt lo hi : Int} {offs : Array Int} {len : Nat} {x : Int32} {tgt : Nat} (d : decode cc pc = .ok (.tableswitch dflt lo hi offs, len)) (h : x.toInt < lo ∨ hi < x.toInt) (ht : (pc : Int) + dflt = (tgt : Int)) (K : xW p l e R s m args below meth c nL G cells slots Q (tgt) lv (st) σ) : xW p l e R s m args below meth c nL G cells slots Q (pc) lv (.int x :: st) σ := fun H locs ls hH hS hl => lv_tableOut X.x X.b d h ht (K H locs ls hH hS hl)
theorem x_topi {x : Int32} (K : ∀ y : Int32, y = x → xW p l e R s m args below meth c nL G cells slots Q (pc) lv (.int y :: st) σ) : xW p l e R s m args below meth c nL G cells slots Q (pc) lv (.int x :: st) σ := K x rfl
theorem x_topl {x : Int64} (K : ∀ y : Int64, y = x → xW p l e R s m args below meth c nL G cells slots Q (pc) lv (.long y :: st) σ) : xW p l e R s m args below meth c nL G cells slots Q (pc) lv (.long x :: st) σ := K x rfl
theorem x_widen {k n : Nat} (h1 : cells ≤ k) (h2 : slots ≤ n) (K : xW p l e R s m args below meth c nL G k n Q pc lv st σ) : xW p l e R s m args below meth c nL G cells slots Q (pc) lv (st) σ := fun H locs ls hH hS hl => W.widen h1 h2 (K H locs ls hH hS hl)
theorem x_sub (hs : ∀ q ∈ lv', q ∈ lv) (K : xW p l e R s m args below meth c nL G cells slots Q (pc) lv' (st) σ) : xW p l e R s m args below meth c nL G cells slots Q (pc) lv (st) σ := fun H locs ls hH hS hl => K H locs ls hH hS ⟨hl.1, hl.2.1, fun q hq => hl.2.2 q (hs q hq)⟩
theorem x_getI (X : xC p s m meth c cc nL own ret G) {ci k j index N : Nat} {C : String} {T : u_T} (hc : vwCl[ci]? = some (C, T, N)) (hci : ci < 9) (hj : j < N) (hw : Cond.fieldLink own index (T j).1 (T j).2.1 (T j).2.2.1 ∈ lw_tbl) (d : decode cc pc = .ok (.getfield index, 3)) (hk : xck k = (ci, 0)) (ht : (xfk ci)[j]? = some 0) (K : xW p l e R s m args below meth c nL G cells slots Q (pc + 3) lv (.int (xgI σ k j) :: st) σ) : xW p l e R s m args below meth c nL G cells slots Q (pc) lv (.ref (G.2.1 k) :: st) σ := fun H locs ls hH hS hl => va_get (D := G.1) X.x X.b (xlay X.k hc) (fun _ h => h) X.o X.k.1 hH k ((xwl_at (xck_lt hk (by omega))).trans (by rw [xcell_o hk hci])) hc j hj (X.k.word hw rfl) (fun _ h => h) (by rw [xfl_get, ht, Nat.zero_add]; rfl) d (K H locs ls hH hS hl)
theorem x_getZ (X : xC p s m meth c cc nL own ret G) {ci k j index N : Nat} {C : String} {T : u_T} (hc : vwCl[ci]? = some (C, T, N)) (hci : ci < 9) (hj : j < N) (hw : Cond.fieldLink own index (T j).1 (T j).2.1 (T j).2.2.1 ∈ lw_tbl) (d : decode cc pc = .ok (.getfield index, 3)) (hk : xck k = (ci, 0)) (ht : (xfk ci)[j]? = some 3) (K : xW p l e R s m args below meth c nL G cells slots Q (pc + 3) lv (.int (xgI σ k j) :: st) σ) : xW p l e R s m args below meth c nL G cells slots Q (pc) lv (.ref (G.2.1 k) :: st) σ := fun H locs ls hH hS hl => va_get (D := G.1) X.x X.b (xlay X.k hc) (fun _ h => h) X.o X.k.1 hH k ((xwl_at (xck_lt hk (by omega))).trans (by rw [xcell_o hk hci])) hc j hj (X.k.word hw rfl) (fun _ h => h) (by rw [xfl_get, ht, Nat.zero_add]; rfl) d (K H locs ls hH hS hl)
theorem x_getL (X : xC p s m meth c cc nL own ret G) {ci k j index N : Nat} {C : String} {T : u_T} (hc : vwCl[ci]? = some (C, T, N)) (hci : ci < 9) (hj : j < N) (hw : Cond.fieldLink own index (T j).1 (T j).2.1 (T j).2.2.1 ∈ lw_tbl) (d : decode cc pc = .ok (.getfield index, 3)) (hk : xck k = (ci, 0)) (ht : (xfk ci)[j]? = some 1) (K : xW p l e R s m args below meth c nL G cells slots Q (pc + 3) lv (.long (xgL σ k j) :: st) σ) : xW p l e R s m args below meth c nL G cells slots Q (pc) lv (.ref (G.2.1 k) :: st) σ := fun H locs ls hH hS hl => va_get (D := G.1) X.x X.b (xlay X.k hc) (fun _ h => h) X.o X.k.1 hH k ((xwl_at (xck_lt hk (by omega))).trans (by rw [xcell_o hk hci])) hc j hj (X.k.word hw rfl) (fun _ h => h) (by rw [xfl_get, ht, Nat.zero_add]; rfl) d (K H locs ls hH hS hl)
theorem x_getR (X : xC p s m meth c cc nL own ret G) {ci k j index N : Nat} {C : String} {T : u_T} (hc : vwCl[ci]? = some (C, T, N)) (hci : ci < 9) (hj : j < N) (hw : Cond.fieldLink own index (T j).1 (T j).2.1 (T j).2.2.1 ∈ lw_tbl) (d : decode cc pc = .ok (.getfield index, 3)) (hk : xck k = (ci, 0)) (ht : (xfk ci)[j]? = some 2) {k' : Nat} (hr : xrf σ k j = k') (K : xW p l e R s m args below meth c nL G cells slots Q (pc + 3) lv (.ref (G.2.1 k') :: st) σ) : xW p l e R s m args below meth c nL G cells slots Q (pc) lv (.ref (G.2.1 k) :: st) σ := fun H locs ls hH hS hl => va_get (D := G.1) X.x X.b (xlay X.k hc) (fun _ h => h) X.o X.k.1 hH k ((xwl_at (xck_lt hk (by omega))).trans (by rw [xcell_o hk hci])) hc j hj (X.k.word hw rfl) (fun _ h => h) (by rw [xfl_get, ht, Nat.zero_add]; subst hr; rfl) d (K H locs ls hH hS hl)
theorem xA_at {k : Nat} (h : k < 527) : xA G (G.2.1 k) := ⟨k, h, rfl⟩
theorem xI_o {k j a : Nat} {v : Int32} (h : a ≠ k) : xcell G (xsI σ k j v) a = xcell G σ a := xcell_congr (fun b => xgI_n (fun q => h q.1)) (fun _ => rfl) (fun _ => rfl)
theorem xL_o {k j a : Nat} {v : Int64} (h : a ≠ k) : xcell G (xsL σ k j v) a = xcell G σ a := xcell_congr (fun _ => rfl) (fun b => xgL_n (fun q => h q.1)) (fun _ => rfl)
theorem xI_set {k j ci t : Nat} {v : Int32} (ht : (xfk ci)[j]? = some t) (h : t = 0 ∨ t = 3) : (xfl G σ k 0 (xfk ci)).set j (.int v) = xfl G (xsI σ k j v) k 0 (xfk ci) := by
  refine xfl_set G σ (xsI σ k j v) k j _ _ ht ?_ ?_
  · rcases h with rfl | rfl <;> (show Value.int (xgI (xsI σ k j v) k j) = _; rw [xgI_s])
  · intro i t' hi _
    unfold xfv
    rw [xgI_n (fun q => hi q.2)]
    rfl
theorem xL_set {k j ci : Nat} {v : Int64} (ht : (xfk ci)[j]? = some 1) : (xfl G σ k 0 (xfk ci)).set j (.long v) = xfl G (xsL σ k j v) k 0 (xfk ci) := by
  refine xfl_set G σ (xsL σ k j v) k j _ _ ht ?_ ?_
  · show Value.long (xgL (xsL σ k j v) k j) = _
    rw [xgL_s]
  · intro i t' hi _
    unfold xfv
    rw [xgL_n (fun q => hi q.2)]
    rfl
theorem x_putI (X : xC p s m meth c cc nL own ret G) {v : Int32} {ci k j index N : Nat} {C : String} {T : u_T} {ty : Nat → FieldType} (hc : vwCl[ci]? = some (C, T, N)) (hci : ci < 9) (hj : j < N) (hty : ∀ k, k < N → parseFieldDescriptor (T k).2.2.1 = some (ty k)) (hnm : ∀ a, a < N → ∀ b, b < N → a ≠ b → (T a).2.1 ≠ (T b).2.1) (hw : Cond.fieldLink own index (T j).1 (T j).2.1 (T j).2.2.1 ∈ lw_tbl) (hfin : (T j).2.2.2 = false) (d : decode cc pc = .ok (.putfield index, 3)) (hk : xck k = (ci, 0)) (ht : (xfk ci)[j]? = some 0) (hyi : ty j = .int) (K : xW p l e R s m args below meth c nL G cells slots Q (pc + 3) lv (st) (xsI σ k j v)) : xW p l e R s m args below meth c nL G cells slots Q (pc) lv (.int v :: .ref (G.2.1 k) :: st) σ := fun H locs ls hH hS hl => by
  have hlt := xck_lt hk (by omega)
  have hcl := @xcell_o G σ k ci hk hci
  refine va_put (D := G.1) X.x X.b (xlay X.k hc) (fun _ h => h) ty hty hnm X.o X.k.1 hH (xwl_D X.k.2.2) hS k ((xwl_at hlt).trans (by rw [hcl])) hc j hj (X.k.word hw rfl) (fun _ h => h) hfin (hty j hj) (by rw [hyi]; rfl) (by rw [hyi]; rfl) (by rw [xfl_len]; exact (List.getElem?_eq_some_iff.mp ht).1) d (fun H1 locs1 hP1 _ hS1 => K H1 locs1 ls ?_ hS1 hl)
  rw [xI_set ht (Or.inl rfl), xwl_set (τ := xsI σ k j v) hlt (xcell_o hk hci) (fun a ha => xI_o ha)] at hP1
  exact hP1

theorem x_putZ (X : xC p s m meth c cc nL own ret G) {v : Int32} {ci k j index N : Nat} {C : String} {T : u_T} {ty : Nat → FieldType} (hc : vwCl[ci]? = some (C, T, N)) (hci : ci < 9) (hj : j < N) (hty : ∀ k, k < N → parseFieldDescriptor (T k).2.2.1 = some (ty k)) (hnm : ∀ a, a < N → ∀ b, b < N → a ≠ b → (T a).2.1 ≠ (T b).2.1) (hw : Cond.fieldLink own index (T j).1 (T j).2.1 (T j).2.2.1 ∈ lw_tbl) (hfin : (T j).2.2.2 = false) (d : decode cc pc = .ok (.putfield index, 3)) (hk : xck k = (ci, 0)) (ht : (xfk ci)[j]? = some 3) (hyi : ty j = .boolean) (hv : v = 0 ∨ v = 1) (K : xW p l e R s m args below meth c nL G cells slots Q (pc + 3) lv (st) (xsI σ k j v)) : xW p l e R s m args below meth c nL G cells slots Q (pc) lv (.int v :: .ref (G.2.1 k) :: st) σ := fun H locs ls hH hS hl => by
  have hlt := xck_lt hk (by omega)
  have hcl := @xcell_o G σ k ci hk hci
  refine va_put (D := G.1) X.x X.b (xlay X.k hc) (fun _ h => h) ty hty hnm X.o X.k.1 hH (xwl_D X.k.2.2) hS k ((xwl_at hlt).trans (by rw [hcl])) hc j hj (X.k.word hw rfl) (fun _ h => h) hfin (hty j hj) (by rw [hyi]; rcases hv with rfl | rfl <;> decide) (by rw [hyi]; rcases hv with rfl | rfl <;> decide) (by rw [xfl_len]; exact (List.getElem?_eq_some_iff.mp ht).1) d (fun H1 locs1 hP1 _ hS1 => K H1 locs1 ls ?_ hS1 hl)
  rw [xI_set ht (Or.inr rfl), xwl_set (τ := xsI σ k j v) hlt (xcell_o hk hci) (fun a ha => xI_o ha)] at hP1
  exact hP1

theorem x_putL (X : xC p s m meth c cc nL own ret G) {v : Int64} {ci k j index N : Nat} {C : String} {T : u_T} {ty : Nat → FieldType} (hc : vwCl[ci]? = some (C, T, N)) (hci : ci < 9) (hj : j < N) (hty : ∀ k, k < N → parseFieldDescriptor (T k).2.2.1 = some (ty k)) (hnm : ∀ a, a < N → ∀ b, b < N → a ≠ b → (T a).2.1 ≠ (T b).2.1) (hw : Cond.fieldLink own index (T j).1 (T j).2.1 (T j).2.2.1 ∈ lw_tbl) (hfin : (T j).2.2.2 = false) (d : decode cc pc = .ok (.putfield index, 3)) (hk : xck k = (ci, 0)) (ht : (xfk ci)[j]? = some 1) (hyi : ty j = .long) (K : xW p l e R s m args below meth c nL G cells slots Q (pc + 3) lv (st) (xsL σ k j v)) : xW p l e R s m args below meth c nL G cells slots Q (pc) lv (.long v :: .ref (G.2.1 k) :: st) σ := fun H locs ls hH hS hl => by
  have hlt := xck_lt hk (by omega)
  have hcl := @xcell_o G σ k ci hk hci
  refine va_put (D := G.1) X.x X.b (xlay X.k hc) (fun _ h => h) ty hty hnm X.o X.k.1 hH (xwl_D X.k.2.2) hS k ((xwl_at hlt).trans (by rw [hcl])) hc j hj (X.k.word hw rfl) (fun _ h => h) hfin (hty j hj) (by rw [hyi]; rfl) (by rw [hyi]; rfl) (by rw [xfl_len]; exact (List.getElem?_eq_some_iff.mp ht).1) d (fun H1 locs1 hP1 _ hS1 => K H1 locs1 ls ?_ hS1 hl)
  rw [xL_set ht, xwl_set (τ := xsL σ k j v) hlt (xcell_o hk hci) (fun a ha => xL_o ha)] at hP1
  exact hP1

theorem x_iald (X : xC p s m meth c cc nL own ret G) {k n : Nat} {i : Int32} (d : decode cc pc = .ok (.iaload, 1)) (hk : xck k = (10, n)) (hin : vp_in i n) (K : xW p l e R s m args below meth c nL G cells slots Q (pc + 1) lv (.int (xgI σ k i.toNatClampNeg) :: st) σ) : xW p l e R s m args below meth c nL G cells slots Q (pc) lv (.int i :: .ref (G.2.1 k) :: st) σ := fun H locs ls hH hS hl => va_iald (D := G.1) X.x X.b X.k.1 hH k 0 ((xwl_at (xck_lt hk (by omega))).trans (by rw [xcell_i hk])) rfl hin d (K H locs ls hH hS hl)
theorem x_lald (X : xC p s m meth c cc nL own ret G) {k n : Nat} {i : Int32} (d : decode cc pc = .ok (.laload, 1)) (hk : xck k = (11, n)) (hin : vp_in i n) (K : xW p l e R s m args below meth c nL G cells slots Q (pc + 1) lv (.long (xgL σ k i.toNatClampNeg) :: st) σ) : xW p l e R s m args below meth c nL G cells slots Q (pc) lv (.int i :: .ref (G.2.1 k) :: st) σ := fun H locs ls hH hS hl => va_lald (D := G.1) X.x X.b X.k.1 hH k 1 ((xwl_at (xck_lt hk (by omega))).trans (by rw [xcell_l hk])) rfl hin d (K H locs ls hH hS hl)
theorem x_zald (X : xC p s m meth c cc nL own ret G) {k n : Nat} {i : Int32} (d : decode cc pc = .ok (.baload, 1)) (hk : xck k = (12, n)) (hin : vp_in i n) (K : xW p l e R s m args below meth c nL G cells slots Q (pc + 1) lv (.int (xgI σ k i.toNatClampNeg) :: st) σ) : xW p l e R s m args below meth c nL G cells slots Q (pc) lv (.int i :: .ref (G.2.1 k) :: st) σ := fun H locs ls hH hS hl => va_zald (D := G.1) X.x X.b X.k.1 hH k 2 ((xwl_at (xck_lt hk (by omega))).trans (by rw [xcell_z hk])) rfl hin d (K H locs ls hH hS hl)
theorem x_rald (X : xC p s m meth c cc nL own ret G) {k n k' : Nat} {i : Int32} (d : decode cc pc = .ok (.aaload, 1)) (hk : xck k = (13, n)) (hin : vp_in i n) (hr : xrf σ k i.toNatClampNeg = k') (K : xW p l e R s m args below meth c nL G cells slots Q (pc + 1) lv (.ref (G.2.1 k') :: st) σ) : xW p l e R s m args below meth c nL G cells slots Q (pc) lv (.int i :: .ref (G.2.1 k) :: st) σ := fun H locs ls hH hS hl => by
  subst hr
  exact va_aldq (D := G.1) (f := fun j => some (G.2.1 (xrf σ k j))) X.x X.b X.k.1 hH k 3 ((xwl_at (xck_lt hk (by omega))).trans (by rw [xcell_r hk])) rfl hin d (K H locs ls hH hS hl)
theorem x_aald (X : xC p s m meth c cc nL own ret G) {k n k' : Nat} {i : Int32} (d : decode cc pc = .ok (.aaload, 1)) (hk : xck k = (14, n)) (hin : vp_in i n) (hr : xrf σ k i.toNatClampNeg = k') (K : xW p l e R s m args below meth c nL G cells slots Q (pc + 1) lv (.ref (G.2.1 k') :: st) σ) : xW p l e R s m args below meth c nL G cells slots Q (pc) lv (.int i :: .ref (G.2.1 k) :: st) σ := fun H locs ls hH hS hl => by
  subst hr
  have hlt : i.toNatClampNeg < n := Nat.not_le.mp fun q => hin (Or.inr q)
  have hq : va_at G.1 vwCl (G.2.1 k, xcell G σ k) H := hH k _ (xwl_at (xck_lt hk (by omega)))
  rw [xcell_a hk] at hq
  have hq : H[G.2.1 k]? = some (arrV (G.2.2 4) n (fun j => va_rf (some (G.2.1 (xrf σ k j))))) := hq
  exact W.aald (v := va_rf (some (G.2.1 (xrf σ k i.toNatClampNeg)))) (ty := .array .int) X.x X.b hq ((X.k.1.2 4 _ rfl).1 n (fun j => va_rf (some (G.2.1 (xrf σ k j))))) rfl (fun q => by cases q) (by show ¬ (i < 0 ∨ (arrV _ _ _).slots.size ≤ _); rw [arrV_size]; exact hin) (by show (arrV _ _ _).slots[_]? = _; rw [arrV_read _ _ hlt]) rfl rfl d (K H locs ls hH hS hl)
theorem x_ilen (X : xC p s m meth c cc nL own ret G) {k n : Nat} {v : Int32} (d : decode cc pc = .ok (.arraylength, 1)) (hk : xck k = (10, n)) (hv : Int32.ofNat n = v) (K : xW p l e R s m args below meth c nL G cells slots Q (pc + 1) lv (.int v :: st) σ) : xW p l e R s m args below meth c nL G cells slots Q (pc) lv (.ref (G.2.1 k) :: st) σ := fun H locs ls hH hS hl => va_alen (D := G.1) X.x X.b X.k.1 hH k 0 ((xwl_at (xck_lt hk (by omega))).trans (by rw [xcell_i hk])) rfl hv d (K H locs ls hH hS hl)
theorem x_llen (X : xC p s m meth c cc nL own ret G) {k n : Nat} {v : Int32} (d : decode cc pc = .ok (.arraylength, 1)) (hk : xck k = (11, n)) (hv : Int32.ofNat n = v) (K : xW p l e R s m args below meth c nL G cells slots Q (pc + 1) lv (.int v :: st) σ) : xW p l e R s m args below meth c nL G cells slots Q (pc) lv (.ref (G.2.1 k) :: st) σ := fun H locs ls hH hS hl => va_alen (D := G.1) X.x X.b X.k.1 hH k 1 ((xwl_at (xck_lt hk (by omega))).trans (by rw [xcell_l hk])) rfl hv d (K H locs ls hH hS hl)
theorem x_rlen (X : xC p s m meth c cc nL own ret G) {k n : Nat} {v : Int32} (d : decode cc pc = .ok (.arraylength, 1)) (hk : xck k = (13, n)) (hv : Int32.ofNat n = v) (K : xW p l e R s m args below meth c nL G cells slots Q (pc + 1) lv (.int v :: st) σ) : xW p l e R s m args below meth c nL G cells slots Q (pc) lv (.ref (G.2.1 k) :: st) σ := fun H locs ls hH hS hl => va_alen (D := G.1) X.x X.b X.k.1 hH k 3 ((xwl_at (xck_lt hk (by omega))).trans (by rw [xcell_r hk])) rfl hv d (K H locs ls hH hS hl)
theorem xgI_u {k j : Nat} {v : Int32} : xgI (xsI σ k j v) k = upd (xgI σ k) j v := by
  funext b
  rw [xgI_i]
  by_cases h : b = j <;> simp [upd, h]
theorem xgL_u {k j : Nat} {v : Int64} : xgL (xsL σ k j v) k = vp_updL (xgL σ k) j v := by
  funext b
  rw [xgL_i]
  by_cases h : b = j <;> simp [vp_updL, h]
theorem x_iast (X : xC p s m meth c cc nL own ret G) {k n : Nat} {i : Int32} {v : Int32} (d : decode cc pc = .ok (.iastore, 1)) (hk : xck k = (10, n)) (hin : vp_in i n)  (K : xW p l e R s m args below meth c nL G cells slots Q (pc + 1) lv (st) (xsI σ k i.toNatClampNeg v)) : xW p l e R s m args below meth c nL G cells slots Q (pc) lv (.int v :: .int i :: .ref (G.2.1 k) :: st) σ := fun H locs ls hH hS hl => by
  have hlt := xck_lt hk (by omega)
  refine va_iast (D := G.1) X.x X.b X.k.1 hH (xwl_D X.k.2.2) hS k 0 ((xwl_at hlt).trans (by rw [xcell_i hk])) rfl hin d (fun H1 locs1 hP1 _ hS1 => K H1 locs1 ls ?_ hS1 hl)
  rw [xwl_set (τ := xsI σ k i.toNatClampNeg v) hlt (by rw [xcell_i hk, xgI_u]) (fun a ha => xI_o ha)] at hP1
  exact hP1

theorem x_last (X : xC p s m meth c cc nL own ret G) {k n : Nat} {i : Int32} {v : Int64} (d : decode cc pc = .ok (.lastore, 1)) (hk : xck k = (11, n)) (hin : vp_in i n)  (K : xW p l e R s m args below meth c nL G cells slots Q (pc + 1) lv (st) (xsL σ k i.toNatClampNeg v)) : xW p l e R s m args below meth c nL G cells slots Q (pc) lv (.long v :: .int i :: .ref (G.2.1 k) :: st) σ := fun H locs ls hH hS hl => by
  have hlt := xck_lt hk (by omega)
  refine va_last (D := G.1) X.x X.b X.k.1 hH (xwl_D X.k.2.2) hS k 1 ((xwl_at hlt).trans (by rw [xcell_l hk])) rfl hin d (fun H1 locs1 hP1 _ hS1 => K H1 locs1 ls ?_ hS1 hl)
  rw [xwl_set (τ := xsL σ k i.toNatClampNeg v) hlt (by rw [xcell_l hk, xgL_u]) (fun a ha => xL_o ha)] at hP1
  exact hP1

theorem x_zast (X : xC p s m meth c cc nL own ret G) {k n : Nat} {i : Int32} {v : Int32} (d : decode cc pc = .ok (.bastore, 1)) (hk : xck k = (12, n)) (hin : vp_in i n) (hv : v = 0 ∨ v = 1) (K : xW p l e R s m args below meth c nL G cells slots Q (pc + 1) lv (st) (xsI σ k i.toNatClampNeg v)) : xW p l e R s m args below meth c nL G cells slots Q (pc) lv (.int v :: .int i :: .ref (G.2.1 k) :: st) σ := fun H locs ls hH hS hl => by
  have hlt := xck_lt hk (by omega)
  refine va_zast (D := G.1) X.x X.b X.k.1 hH (xwl_D X.k.2.2) hS k 2 ((xwl_at hlt).trans (by rw [xcell_z hk])) rfl hin d (fun H1 locs1 hP1 _ hS1 => K H1 locs1 ls ?_ hS1 hl)
  rw [show vp_nar .boolean v = v by rcases hv with rfl | rfl <;> decide, xwl_set (τ := xsI σ k i.toNatClampNeg v) hlt (by rw [xcell_z hk, xgI_u]) (fun a ha => xI_o ha)] at hP1
  exact hP1

end XW
end
section
/-! A METHOD'S CONTRACT over the state, its body, its ends, its calls -/
def xQc (G : xG) (Post : Option Value → xS → Prop) : Array Value → State → Outcome → State → Prop := fun _ st o t => (∃ (r : Option Value) (τ : xS), o = .returned r ∧ Post r τ ∧ xH G τ t.heap) ∧ va_F (xA G) st t
/-- from every state that holds σ, with these arguments: it returns, Post of the answer and the new state; nothing else changes, nothing is made -/
def xM (l : Launch) (G : xG) (y : MethodName) (cc : ByteArray) (n : Nat) (ret : Option FieldType) (f lo : Nat) (av : List Value) (σ : xS) (Post : Option Value → xS → Prop) : Prop :=
  Met l y [.code y cc n ret] { frames := f, cells := 0, slots := 0, locals := lo } (va_Pc av (fun U => xH G σ U.heap ∧ xK G U)) (xQc G Post) 0 0 (xA G)
def xQ (below : List Frame) (G : xG) (Post : Option Value → xS → Prop) (args : Array Value) (s : State) : State → Prop := MQ below (xQc G Post) args s 0 0 (xA G)
/-- an int, a long, nothing, a cell: the answer and the new state by name -/
def xFi (l : Launch) (G : xG) (y : MethodName) (cc : ByteArray) (n : Nat) (ret : Option FieldType) (f lo : Nat) (av : List Value) (σ : xS) (v : Int32) (τ : xS) : Prop := xM l G y cc n ret f lo av σ (fun r t => r = some (.int v) ∧ t = τ)
def xFl (l : Launch) (G : xG) (y : MethodName) (cc : ByteArray) (n : Nat) (ret : Option FieldType) (f lo : Nat) (av : List Value) (σ : xS) (v : Int64) (τ : xS) : Prop := xM l G y cc n ret f lo av σ (fun r t => r = some (.long v) ∧ t = τ)
def xFv (l : Launch) (G : xG) (y : MethodName) (cc : ByteArray) (n : Nat) (ret : Option FieldType) (f lo : Nat) (av : List Value) (σ : xS) (τ : xS) : Prop := xM l G y cc n ret f lo av σ (fun r t => r = none ∧ t = τ)
def xFr (l : Launch) (G : xG) (y : MethodName) (cc : ByteArray) (n : Nat) (ret : Option FieldType) (f lo : Nat) (av : List Value) (σ : xS) (k : Nat) (τ : xS) : Prop := xM l G y cc n ret f lo av σ (fun r t => r = some (.ref (G.2.1 k)) ∧ t = τ)
section XM
variable {p : Program} {l : Launch} {e : Env} {R : Room} {s : State} {m : MethodId} {args : Array Value} {below : List Frame} {meth : Method} {c : Code} {cc : ByteArray} {nL : Nat} {own : String} {ret : Option FieldType} {G : xG} {cells slots : Nat} {Q : State → Prop} {pc : Nat} {lv lv' : List (Nat × Value)} {st rest As : List Value} {σ τ : xS} {Post : Option Value → xS → Prop} {y : MethodName} {bytes : ByteArray} {n f lo : Nat} {ry : Option FieldType}
theorem xM.of {av : List Value} (hy : plainName y.cls = true) (hlen : (lg_sl av).length ≤ n) (body : ∀ (p : Program) (e : Env) (s : State) (m : MethodId) (args : Array Value) (below : List Frame) (meth : Method) (c : Code), xC p s m meth c cc n y.cls ret G → xW p l e { frames := f, cells := 0, slots := 0, locals := lo } s m args below meth c n G 0 0 (xQ below G Post args s) 0 (lv_args 0 av) [] σ) : xM l G y cc n ret f lo av σ Post := by
  refine Met.ofW (cc := cc) (maxL := n) (ret := ret) hy rfl ?_
  intro p e s m args below meth c s₁ B hml hv
  obtain ⟨rfl, hH, hK⟩ := hv
  have hown : s.vm.findClass y.cls = some m.cls := findClass_of_methodNamed B.named
  have hl := lv_entry av (n := n) hlen
  rw [lg_entry_eq]
  exact body p e s m _ below meth c ⟨B.exec, B.bytes, hml, hown, hK, B.returns, B.notSynchronized⟩ s.heap [] _ hH va_S.rf hl
theorem x_iret {x : Int32} (X : xC p s m meth c cc nL own (some .int) G) (d : decode cc pc = .ok (.ireturn, 1)) (hq : Post (some (.int x)) σ) : xW p l e R s m args below meth c nL G 0 0 (xQ below G Post args s) pc lv [.int x] σ :=
  fun _ _ _ hH hS _ => W.iret X.x X.b X.r (fun t ht _ => ⟨⟨_, σ, rfl, hq, by rw [ht]; exact hH⟩, hS.F ht⟩) hS.2.2 d X.n
theorem x_zret {x : Int32} (X : xC p s m meth c cc nL own (some .boolean) G) (d : decode cc pc = .ok (.ireturn, 1)) (hx : x = 0 ∨ x = 1) (hq : Post (some (.int x)) σ) : xW p l e R s m args below meth c nL G 0 0 (xQ below G Post args s) pc lv [.int x] σ :=
  fun _ _ _ hH hS _ => W.zret X.x X.b X.r (by rcases hx with rfl | rfl <;> decide) (fun t ht _ => ⟨⟨_, σ, rfl, hq, by rw [ht]; exact hH⟩, hS.F ht⟩) hS.2.2 d X.n
theorem x_lret {x : Int64} (X : xC p s m meth c cc nL own (some .long) G) (d : decode cc pc = .ok (.lreturn, 1)) (hq : Post (some (.long x)) σ) : xW p l e R s m args below meth c nL G 0 0 (xQ below G Post args s) pc lv [.long x] σ :=
  fun _ _ _ hH hS _ => W.lret X.x X.b X.r (fun t ht _ => ⟨⟨_, σ, rfl, hq, by rw [ht]; exact hH⟩, hS.F ht⟩) hS.2.2 d X.n
theorem x_vret (X : xC p s m meth c cc nL own none G) (d : decode cc pc = .ok (.return_, 1)) (hq : Post none σ) : xW p l e R s m args below meth c nL G 0 0 (xQ below G Post args s) pc lv [] σ :=
  fun _ _ _ hH hS _ => W.vret X.x X.b X.r (fun t ht _ => ⟨⟨_, σ, rfl, hq, by rw [ht]; exact hH⟩, hS.F ht⟩) hS.2.2 d X.n
theorem x_aret {k : Nat} {rt : FieldType} (X : xC p s m meth c cc nL own (some rt) G) (hrt : (∃ n, rt = .object n) ∨ ∃ t, rt = .array t) (d : decode cc pc = .ok (.areturn, 1)) (hq : Post (some (.ref (G.2.1 k))) σ) : xW p l e R s m args below meth c nL G 0 0 (xQ below G Post args s) pc lv [.ref (G.2.1 k)] σ :=
  fun _ _ _ hH hS _ => W.aret X.x X.b X.r hrt (Or.inr ⟨_, rfl⟩) (fun t ht _ => ⟨⟨_, σ, rfl, hq, by rw [ht]; exact hH⟩, hS.F ht⟩) hS.2.2 d X.n
theorem x_run {H : Heap} {locs : List Loc} {ls : Array Slot} {a : Array Value} (hr : va_Run p l e R s m args below meth c H locs cells slots 0 0 (F0 m pc ls st) rest (xQc G Post a) (xA G)) (hS : va_S (xA G) s.heap H locs) (hl : lv_has ls nL lv) (K : ∀ (r : Option Value) (τ : xS), Post r τ → xW p l e R s m args below meth c nL G cells slots Q (pc + 3) lv (r.toList ++ rest) τ) : W p l e R s m args below meth c H locs cells slots Q (F0 m pc ls st) := by
  intro T hT X
  obtain ⟨v, st₀, t, T', L, h0, X', hL, e1, e2, ⟨⟨r, τ, hv, hp, hb⟩, hz, hk⟩, sp⟩ := hr T hT X
  cases hv
  rw [h0] at hz hk
  obtain ⟨t2, a1, b1⟩ := K v τ hp T'.heap (locs ++ L) ls (by rw [e1]; exact hb) ⟨Nat.le_trans hS.1 (by rw [e1]; exact hz), fun q h1 h2 => by rw [e1, hk q (Nat.lt_of_lt_of_le h1 hS.1) h2]; exact hS.2.1 q h1 h2, fun q hq => by
      rcases List.mem_append.mp hq with h | h
      · exact hS.2.2 q h
      · exact hL q h⟩ hl T' rfl X'
  exact ⟨t2, sp t2 a1, b1⟩
theorem x_blind {av : List Value} : FrameBlind (va_Pc av (fun U => xH G σ U.heap ∧ xK G U)) := fun _ U _ _ h => ⟨h.1, h.2.1, h.2.2.moved (State.WarmedH.refl U)⟩
/-- what a call needs of its callee's name, decided by program -/
def xNm (y : MethodName) (k : Nat) : Prop := y.cls ≠ "java/lang/invoke/MethodHandle" ∧ y.cls ≠ "java/lang/invoke/VarHandle" ∧ (parseMethodDescriptor y.desc).map (fun d => d.parameters.length) = some k
theorem x_cb {index k : Nat} (X : xC p s m meth c cc nL own ret G) (hn : xNm y k) (w1 : Cond.methodLink own index y ∈ lw_tbl) (w4 : Cond.initialized y.cls ∈ lw_tbl) (w5 : Cond.code y bytes n ry ∈ lw_tbl) (hf : f + 1 ≤ R.frames) (hlo : 8 + (n + 11) + lo ≤ R.locals) :
    CallB R s args own index y bytes n ry [.code y bytes n ry] { frames := f, cells := 0, slots := 0, locals := lo } 0 0 k := by
  refine ⟨rfl, rfl, hf, hlo, fun w hw a' U hW => ?_, List.mem_cons_self, X.k.word w5 rfl, X.k.word w4 rfl, ⟨hn.1, hn.2.1⟩, fun sig h => ?_, X.k.word w1 rfl⟩
  · rw [List.mem_singleton.mp hw]
    exact (X.k.moved hW).word w5 rfl
  · have h2 := hn.2.2
    rw [h] at h2
    exact (Option.some.inj h2).symm
theorem x_callV {index b ci N k : Nat} {C : String} {T : u_T} (X : xC p s m meth c cc nL own ret G) (hM : xM l G y bytes n ry f lo (.ref (G.2.1 b) :: As) σ Post) (hn : xNm y k) (w1 : Cond.methodLink own index y ∈ lw_tbl) (w2 : Cond.instanceMethod y ∈ lw_tbl) (w3 : Cond.selects C y y ∈ lw_tbl) (w4 : Cond.initialized y.cls ∈ lw_tbl) (w5 : Cond.code y bytes n ry ∈ lw_tbl) (hc : vwCl[ci]? = some (C, T, N)) (hci : ci < 9) (d : decode cc pc = .ok (.invokevirtual index, 3)) (hk : xck b = (ci, 0)) (hR : f + 1 ≤ R.frames ∧ 8 + (n + 11) + lo ≤ R.locals ∧ cells ≤ R.cells ∧ slots ≤ R.slots) (hst : st = As.reverse ++ .ref (G.2.1 b) :: rest) (hlen : As.length = k) (hw : (rest.map fun v => v.category).sum ≤ 8)
    (K : ∀ (r : Option Value) (τ : xS), Post r τ → xW p l e R s m args below meth c nL G cells slots Q (pc + 3) lv (r.toList ++ rest) τ) : xW p l e R s m args below meth c nL G cells slots Q pc lv st σ := by
  intro H locs ls hH hS hl
  refine x_run (va_runV (Ts := []) (C := C) ⟨X.x, X.b, X.ml, X.o, fun _ h => nomatch h⟩ hM ⟨x_cb X hn w1 w4 w5 hR.1 hR.2.1, X.k.word w2 rfl, X.k.word w3 rfl⟩ ⟨x_blind, va_recv X.k.1 hH (q := (C, T, N)) (ci := ci) (q0 := b) (fs := xfl G σ b 0 (xfk ci)) hc ((xwl_at (xck_lt hk (by omega))).trans (by rw [xcell_o hk hci])), fun U hU hW => ⟨rfl, by rw [hU]; exact hH, X.k.moved hW⟩⟩ rfl hlen hl.1 hst (lv_room hw) d ⟨hR.2.2.1, hR.2.2.2⟩) hS hl K
theorem x_callS {index k : Nat} (X : xC p s m meth c cc nL own ret G) (hM : xM l G y bytes n ry f lo As σ Post) (hn : xNm y k) (w1 : Cond.methodLink own index y ∈ lw_tbl) (w2 : Cond.static y ∈ lw_tbl) (w4 : Cond.initialized y.cls ∈ lw_tbl) (w5 : Cond.code y bytes n ry ∈ lw_tbl) (d : decode cc pc = .ok (.invokestatic index, 3)) (hR : f + 1 ≤ R.frames ∧ 8 + (n + 11) + lo ≤ R.locals ∧ cells ≤ R.cells ∧ slots ≤ R.slots) (hst : st = As.reverse ++ rest) (hlen : As.length = k) (hw : (rest.map fun v => v.category).sum ≤ 8)
    (K : ∀ (r : Option Value) (τ : xS), Post r τ → xW p l e R s m args below meth c nL G cells slots Q (pc + 3) lv (r.toList ++ rest) τ) : xW p l e R s m args below meth c nL G cells slots Q pc lv st σ := by
  intro H locs ls hH hS hl
  refine x_run (va_runS (Ts := []) ⟨X.x, X.b, X.ml, X.o, fun _ h => nomatch h⟩ hM ⟨x_cb X hn w1 w4 w5 hR.1 hR.2.1, X.k.word w2 rfl⟩ ⟨x_blind, fun U hU hW => ⟨rfl, by rw [hU]; exact hH, X.k.moved hW⟩⟩ rfl hlen hl.1 hst (lv_room hw) d ⟨hR.2.2.1, hR.2.2.2⟩) hS hl K
theorem xk_i {v : Int32} (K : xW p l e R s m args below meth c nL G cells slots Q pc lv (.int v :: rest) τ) : ∀ (r : Option Value) (t : xS), (r = some (.int v) ∧ t = τ) → xW p l e R s m args below meth c nL G cells slots Q pc lv (r.toList ++ rest) t := fun _ _ h => by obtain ⟨rfl, rfl⟩ := h; exact K
theorem xk_l {v : Int64} (K : xW p l e R s m args below meth c nL G cells slots Q pc lv (.long v :: rest) τ) : ∀ (r : Option Value) (t : xS), (r = some (.long v) ∧ t = τ) → xW p l e R s m args below meth c nL G cells slots Q pc lv (r.toList ++ rest) t := fun _ _ h => by obtain ⟨rfl, rfl⟩ := h; exact K
theorem xk_r {k : Nat} (K : xW p l e R s m args below meth c nL G cells slots Q pc lv (.ref (G.2.1 k) :: rest) τ) : ∀ (r : Option Value) (t : xS), (r = some (.ref (G.2.1 k)) ∧ t = τ) → xW p l e R s m args below meth c nL G cells slots Q pc lv (r.toList ++ rest) t := fun _ _ h => by obtain ⟨rfl, rfl⟩ := h; exact K
theorem xk_v (K : xW p l e R s m args below meth c nL G cells slots Q pc lv rest τ) : ∀ (r : Option Value) (t : xS), (r = none ∧ t = τ) → xW p l e R s m args below meth c nL G cells slots Q pc lv (r.toList ++ rest) t := fun _ _ h => by obtain ⟨rfl, rfl⟩ := h; exact K
end XM
end
