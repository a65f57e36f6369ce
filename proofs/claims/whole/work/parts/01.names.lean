-- ===== PART A: goes FIRST, ahead of the names: the tables' words, and 'selects' of the private methods out of them =====
/-- a private method of a class that the tables say can be made, by its rows of tables_1 -/
def lw_okq (q : MethodName × Nat) : Prop := (q.1.cls ≠ "java/lang/invoke/MethodHandle" ∧ q.1.cls ≠ "java/lang/invoke/VarHandle") ∧ Cond.instantiable q.1.cls q.2 ∈ tables_1 ∧ Cond.privateMethod q.1 ∈ tables_1 ∧ Cond.instanceMethod q.1 ∈ tables_1
theorem lw_p0 : lw_okq (⟨"java/lang/Throwable", "fillInStackTrace", "(I)Ljava/lang/Throwable;"⟩, 6) := ⟨⟨by decide +kernel, by decide +kernel⟩, List.mem_of_getElem? (i := 520) (by decide +kernel), List.mem_of_getElem? (i := 518) (by decide +kernel), List.mem_of_getElem? (i := 519) (by decide +kernel)⟩
theorem lw_p1 : lw_okq (⟨"IrrigationTurns$SetupReader", "readStatement", "()V"⟩, 5) := ⟨⟨by decide +kernel, by decide +kernel⟩, List.mem_of_getElem? (i := 34) (by decide +kernel), List.mem_of_getElem? (i := 571) (by decide +kernel), List.mem_of_getElem? (i := 572) (by decide +kernel)⟩
theorem lw_p2 : lw_okq (⟨"IrrigationTurns$SetupReader", "readCanal", "(LIrrigationTurns$Canals;)V"⟩, 5) := ⟨⟨by decide +kernel, by decide +kernel⟩, List.mem_of_getElem? (i := 34) (by decide +kernel), List.mem_of_getElem? (i := 628) (by decide +kernel), List.mem_of_getElem? (i := 629) (by decide +kernel)⟩
theorem lw_p3 : lw_okq (⟨"IrrigationTurns$SetupReader", "fail", "(I)V"⟩, 5) := ⟨⟨by decide +kernel, by decide +kernel⟩, List.mem_of_getElem? (i := 34) (by decide +kernel), List.mem_of_getElem? (i := 632) (by decide +kernel), List.mem_of_getElem? (i := 633) (by decide +kernel)⟩
theorem lw_p4 : lw_okq (⟨"IrrigationTurns$SetupReader", "readParent", "(I)I"⟩, 5) := ⟨⟨by decide +kernel, by decide +kernel⟩, List.mem_of_getElem? (i := 34) (by decide +kernel), List.mem_of_getElem? (i := 637) (by decide +kernel), List.mem_of_getElem? (i := 638) (by decide +kernel)⟩
theorem lw_p5 : lw_okq (⟨"IrrigationTurns$SetupReader", "readOptional", "(Ljava/lang/String;II)I"⟩, 5) := ⟨⟨by decide +kernel, by decide +kernel⟩, List.mem_of_getElem? (i := 34) (by decide +kernel), List.mem_of_getElem? (i := 642) (by decide +kernel), List.mem_of_getElem? (i := 643) (by decide +kernel)⟩
theorem lw_p6 : lw_okq (⟨"IrrigationTurns$SetupReader", "readNumber", "(II)I"⟩, 5) := ⟨⟨by decide +kernel, by decide +kernel⟩, List.mem_of_getElem? (i := 34) (by decide +kernel), List.mem_of_getElem? (i := 646) (by decide +kernel), List.mem_of_getElem? (i := 647) (by decide +kernel)⟩
theorem lw_p7 : lw_okq (⟨"IrrigationTurns$SetupReader", "readField", "(LIrrigationTurns$Fields;)V"⟩, 5) := ⟨⟨by decide +kernel, by decide +kernel⟩, List.mem_of_getElem? (i := 34) (by decide +kernel), List.mem_of_getElem? (i := 652) (by decide +kernel), List.mem_of_getElem? (i := 653) (by decide +kernel)⟩
theorem lw_p8 : lw_okq (⟨"IrrigationTurns$SetupReader", "readTurn", "(LIrrigationTurns$Rotation;)V"⟩, 5) := ⟨⟨by decide +kernel, by decide +kernel⟩, List.mem_of_getElem? (i := 34) (by decide +kernel), List.mem_of_getElem? (i := 658) (by decide +kernel), List.mem_of_getElem? (i := 659) (by decide +kernel)⟩
theorem lw_p9 : lw_okq (⟨"IrrigationTurns$SetupReader", "readGuard", "(LIrrigationTurns$Guard;)V"⟩, 5) := ⟨⟨by decide +kernel, by decide +kernel⟩, List.mem_of_getElem? (i := 34) (by decide +kernel), List.mem_of_getElem? (i := 663) (by decide +kernel), List.mem_of_getElem? (i := 664) (by decide +kernel)⟩
theorem lw_p10 : lw_okq (⟨"IrrigationTurns$SetupReader", "readSum", "(I)V"⟩, 5) := ⟨⟨by decide +kernel, by decide +kernel⟩, List.mem_of_getElem? (i := 34) (by decide +kernel), List.mem_of_getElem? (i := 673) (by decide +kernel), List.mem_of_getElem? (i := 674) (by decide +kernel)⟩
theorem lw_p11 : lw_okq (⟨"IrrigationTurns$SetupReader", "readTerm", "(I)V"⟩, 5) := ⟨⟨by decide +kernel, by decide +kernel⟩, List.mem_of_getElem? (i := 34) (by decide +kernel), List.mem_of_getElem? (i := 677) (by decide +kernel), List.mem_of_getElem? (i := 678) (by decide +kernel)⟩
theorem lw_p12 : lw_okq (⟨"IrrigationTurns$SetupReader", "readFactor", "(I)V"⟩, 5) := ⟨⟨by decide +kernel, by decide +kernel⟩, List.mem_of_getElem? (i := 34) (by decide +kernel), List.mem_of_getElem? (i := 681) (by decide +kernel), List.mem_of_getElem? (i := 682) (by decide +kernel)⟩
theorem lw_p13 : lw_okq (⟨"IrrigationTurns$SetupReader", "skipSign", "(C)V"⟩, 5) := ⟨⟨by decide +kernel, by decide +kernel⟩, List.mem_of_getElem? (i := 34) (by decide +kernel), List.mem_of_getElem? (i := 685) (by decide +kernel), List.mem_of_getElem? (i := 686) (by decide +kernel)⟩
theorem lw_p14 : lw_okq (⟨"IrrigationTurns$SetupReader", "addOperand", "(I)V"⟩, 5) := ⟨⟨by decide +kernel, by decide +kernel⟩, List.mem_of_getElem? (i := 34) (by decide +kernel), List.mem_of_getElem? (i := 690) (by decide +kernel), List.mem_of_getElem? (i := 691) (by decide +kernel)⟩
theorem lw_p15 : lw_okq (⟨"IrrigationTurns$Fields", "demandOf", "(I)I"⟩, 12) := ⟨⟨by decide +kernel, by decide +kernel⟩, List.mem_of_getElem? (i := 129) (by decide +kernel), List.mem_of_getElem? (i := 852) (by decide +kernel), List.mem_of_getElem? (i := 853) (by decide +kernel)⟩
def lw_privs_1 : List (MethodName × Nat) := [(⟨"java/lang/Throwable", "fillInStackTrace", "(I)Ljava/lang/Throwable;"⟩, 6), (⟨"IrrigationTurns$SetupReader", "readStatement", "()V"⟩, 5), (⟨"IrrigationTurns$SetupReader", "readCanal", "(LIrrigationTurns$Canals;)V"⟩, 5), (⟨"IrrigationTurns$SetupReader", "fail", "(I)V"⟩, 5), (⟨"IrrigationTurns$SetupReader", "readParent", "(I)I"⟩, 5), (⟨"IrrigationTurns$SetupReader", "readOptional", "(Ljava/lang/String;II)I"⟩, 5), (⟨"IrrigationTurns$SetupReader", "readNumber", "(II)I"⟩, 5), (⟨"IrrigationTurns$SetupReader", "readField", "(LIrrigationTurns$Fields;)V"⟩, 5), (⟨"IrrigationTurns$SetupReader", "readTurn", "(LIrrigationTurns$Rotation;)V"⟩, 5), (⟨"IrrigationTurns$SetupReader", "readGuard", "(LIrrigationTurns$Guard;)V"⟩, 5), (⟨"IrrigationTurns$SetupReader", "readSum", "(I)V"⟩, 5), (⟨"IrrigationTurns$SetupReader", "readTerm", "(I)V"⟩, 5), (⟨"IrrigationTurns$SetupReader", "readFactor", "(I)V"⟩, 5), (⟨"IrrigationTurns$SetupReader", "skipSign", "(C)V"⟩, 5), (⟨"IrrigationTurns$SetupReader", "addOperand", "(I)V"⟩, 5), (⟨"IrrigationTurns$Fields", "demandOf", "(I)I"⟩, 12)]
theorem lw_r1 : ∀ q ∈ lw_privs_1, lw_okq q := List.forall_mem_cons.mpr ⟨lw_p0, List.forall_mem_cons.mpr ⟨lw_p1, List.forall_mem_cons.mpr ⟨lw_p2, List.forall_mem_cons.mpr ⟨lw_p3, List.forall_mem_cons.mpr ⟨lw_p4, List.forall_mem_cons.mpr ⟨lw_p5, List.forall_mem_cons.mpr ⟨lw_p6, List.forall_mem_cons.mpr ⟨lw_p7, List.forall_mem_cons.mpr ⟨lw_p8, List.forall_mem_cons.mpr ⟨lw_p9, List.forall_mem_cons.mpr ⟨lw_p10, List.forall_mem_cons.mpr ⟨lw_p11, List.forall_mem_cons.mpr ⟨lw_p12, List.forall_mem_cons.mpr ⟨lw_p13, List.forall_mem_cons.mpr ⟨lw_p14, List.forall_mem_cons.mpr ⟨lw_p15, fun _ h => absurd h List.not_mem_nil⟩⟩⟩⟩⟩⟩⟩⟩⟩⟩⟩⟩⟩⟩⟩⟩
theorem lw_p16 : lw_okq (⟨"IrrigationTurns$State", "enter", "(II)V"⟩, 7) := ⟨⟨by decide +kernel, by decide +kernel⟩, List.mem_of_getElem? (i := 73) (by decide +kernel), List.mem_of_getElem? (i := 873) (by decide +kernel), List.mem_of_getElem? (i := 874) (by decide +kernel)⟩
theorem lw_p17 : lw_okq (⟨"IrrigationTurns$State", "divide", "(II)V"⟩, 7) := ⟨⟨by decide +kernel, by decide +kernel⟩, List.mem_of_getElem? (i := 73) (by decide +kernel), List.mem_of_getElem? (i := 909) (by decide +kernel), List.mem_of_getElem? (i := 910) (by decide +kernel)⟩
theorem lw_p18 : lw_okq (⟨"IrrigationTurns$State", "closeForcedGates", "(I)V"⟩, 7) := ⟨⟨by decide +kernel, by decide +kernel⟩, List.mem_of_getElem? (i := 73) (by decide +kernel), List.mem_of_getElem? (i := 942) (by decide +kernel), List.mem_of_getElem? (i := 943) (by decide +kernel)⟩
theorem lw_p19 : lw_okq (⟨"IrrigationTurns", "forecastArrivals", "(III)I"⟩, 5) := ⟨⟨by decide +kernel, by decide +kernel⟩, List.mem_of_getElem? (i := 26) (by decide +kernel), List.mem_of_getElem? (i := 957) (by decide +kernel), List.mem_of_getElem? (i := 958) (by decide +kernel)⟩
theorem lw_p20 : lw_okq (⟨"IrrigationTurnsModel", "fails", "(ZI)Z"⟩, 19) := ⟨⟨by decide +kernel, by decide +kernel⟩, List.mem_of_getElem? (i := 1013) (by decide +kernel), List.mem_of_getElem? (i := 1094) (by decide +kernel), List.mem_of_getElem? (i := 1095) (by decide +kernel)⟩
theorem lw_p21 : lw_okq (⟨"IrrigationTurnsModel", "isGood", "()Z"⟩, 19) := ⟨⟨by decide +kernel, by decide +kernel⟩, List.mem_of_getElem? (i := 1013) (by decide +kernel), List.mem_of_getElem? (i := 1098) (by decide +kernel), List.mem_of_getElem? (i := 1099) (by decide +kernel)⟩
theorem lw_p22 : lw_okq (⟨"IrrigationTurnsModel", "next", "()I"⟩, 19) := ⟨⟨by decide +kernel, by decide +kernel⟩, List.mem_of_getElem? (i := 1013) (by decide +kernel), List.mem_of_getElem? (i := 1102) (by decide +kernel), List.mem_of_getElem? (i := 1103) (by decide +kernel)⟩
theorem lw_p23 : lw_okq (⟨"IrrigationTurnsModel", "byteAt", "(I)I"⟩, 19) := ⟨⟨by decide +kernel, by decide +kernel⟩, List.mem_of_getElem? (i := 1013) (by decide +kernel), List.mem_of_getElem? (i := 1106) (by decide +kernel), List.mem_of_getElem? (i := 1107) (by decide +kernel)⟩
theorem lw_p24 : lw_okq (⟨"IrrigationTurnsModel", "statement", "()V"⟩, 19) := ⟨⟨by decide +kernel, by decide +kernel⟩, List.mem_of_getElem? (i := 1013) (by decide +kernel), List.mem_of_getElem? (i := 1110) (by decide +kernel), List.mem_of_getElem? (i := 1111) (by decide +kernel)⟩
theorem lw_p25 : lw_okq (⟨"IrrigationTurnsModel", "takeWord", "(Ljava/lang/String;)Z"⟩, 19) := ⟨⟨by decide +kernel, by decide +kernel⟩, List.mem_of_getElem? (i := 1013) (by decide +kernel), List.mem_of_getElem? (i := 1115) (by decide +kernel), List.mem_of_getElem? (i := 1116) (by decide +kernel)⟩
theorem lw_p26 : lw_okq (⟨"IrrigationTurnsModel", "readCanal", "(I)V"⟩, 19) := ⟨⟨by decide +kernel, by decide +kernel⟩, List.mem_of_getElem? (i := 1013) (by decide +kernel), List.mem_of_getElem? (i := 1121) (by decide +kernel), List.mem_of_getElem? (i := 1122) (by decide +kernel)⟩
theorem lw_p27 : lw_okq (⟨"IrrigationTurnsModel", "report", "(II)V"⟩, 19) := ⟨⟨by decide +kernel, by decide +kernel⟩, List.mem_of_getElem? (i := 1013) (by decide +kernel), List.mem_of_getElem? (i := 1128) (by decide +kernel), List.mem_of_getElem? (i := 1129) (by decide +kernel)⟩
theorem lw_p28 : lw_okq (⟨"IrrigationTurnsModel", "number", "(II)I"⟩, 19) := ⟨⟨by decide +kernel, by decide +kernel⟩, List.mem_of_getElem? (i := 1013) (by decide +kernel), List.mem_of_getElem? (i := 1133) (by decide +kernel), List.mem_of_getElem? (i := 1134) (by decide +kernel)⟩
theorem lw_p29 : lw_okq (⟨"IrrigationTurnsModel", "readField", "(I)V"⟩, 19) := ⟨⟨by decide +kernel, by decide +kernel⟩, List.mem_of_getElem? (i := 1013) (by decide +kernel), List.mem_of_getElem? (i := 1146) (by decide +kernel), List.mem_of_getElem? (i := 1147) (by decide +kernel)⟩
theorem lw_p30 : lw_okq (⟨"IrrigationTurnsModel", "readTurn", "(I)V"⟩, 19) := ⟨⟨by decide +kernel, by decide +kernel⟩, List.mem_of_getElem? (i := 1013) (by decide +kernel), List.mem_of_getElem? (i := 1155) (by decide +kernel), List.mem_of_getElem? (i := 1156) (by decide +kernel)⟩
theorem lw_p31 : lw_okq (⟨"IrrigationTurnsModel", "readGuard", "(I)V"⟩, 19) := ⟨⟨by decide +kernel, by decide +kernel⟩, List.mem_of_getElem? (i := 1013) (by decide +kernel), List.mem_of_getElem? (i := 1160) (by decide +kernel), List.mem_of_getElem? (i := 1161) (by decide +kernel)⟩
def lw_privs_2 : List (MethodName × Nat) := [(⟨"IrrigationTurns$State", "enter", "(II)V"⟩, 7), (⟨"IrrigationTurns$State", "divide", "(II)V"⟩, 7), (⟨"IrrigationTurns$State", "closeForcedGates", "(I)V"⟩, 7), (⟨"IrrigationTurns", "forecastArrivals", "(III)I"⟩, 5), (⟨"IrrigationTurnsModel", "fails", "(ZI)Z"⟩, 19), (⟨"IrrigationTurnsModel", "isGood", "()Z"⟩, 19), (⟨"IrrigationTurnsModel", "next", "()I"⟩, 19), (⟨"IrrigationTurnsModel", "byteAt", "(I)I"⟩, 19), (⟨"IrrigationTurnsModel", "statement", "()V"⟩, 19), (⟨"IrrigationTurnsModel", "takeWord", "(Ljava/lang/String;)Z"⟩, 19), (⟨"IrrigationTurnsModel", "readCanal", "(I)V"⟩, 19), (⟨"IrrigationTurnsModel", "report", "(II)V"⟩, 19), (⟨"IrrigationTurnsModel", "number", "(II)I"⟩, 19), (⟨"IrrigationTurnsModel", "readField", "(I)V"⟩, 19), (⟨"IrrigationTurnsModel", "readTurn", "(I)V"⟩, 19), (⟨"IrrigationTurnsModel", "readGuard", "(I)V"⟩, 19)]
theorem lw_r2 : ∀ q ∈ lw_privs_2, lw_okq q := List.forall_mem_cons.mpr ⟨lw_p16, List.forall_mem_cons.mpr ⟨lw_p17, List.forall_mem_cons.mpr ⟨lw_p18, List.forall_mem_cons.mpr ⟨lw_p19, List.forall_mem_cons.mpr ⟨lw_p20, List.forall_mem_cons.mpr ⟨lw_p21, List.forall_mem_cons.mpr ⟨lw_p22, List.forall_mem_cons.mpr ⟨lw_p23, List.forall_mem_cons.mpr ⟨lw_p24, List.forall_mem_cons.mpr ⟨lw_p25, List.forall_mem_cons.mpr ⟨lw_p26, List.forall_mem_cons.mpr ⟨lw_p27, List.forall_mem_cons.mpr ⟨lw_p28, List.forall_mem_cons.mpr ⟨lw_p29, List.forall_mem_cons.mpr ⟨lw_p30, List.forall_mem_cons.mpr ⟨lw_p31, fun _ h => absurd h List.not_mem_nil⟩⟩⟩⟩⟩⟩⟩⟩⟩⟩⟩⟩⟩⟩⟩⟩
theorem lw_p32 : lw_okq (⟨"IrrigationTurnsModel", "readInflow", "(I)V"⟩, 19) := ⟨⟨by decide +kernel, by decide +kernel⟩, List.mem_of_getElem? (i := 1013) (by decide +kernel), List.mem_of_getElem? (i := 1165) (by decide +kernel), List.mem_of_getElem? (i := 1166) (by decide +kernel)⟩
theorem lw_p33 : lw_okq (⟨"IrrigationTurnsModel", "sum", "()V"⟩, 19) := ⟨⟨by decide +kernel, by decide +kernel⟩, List.mem_of_getElem? (i := 1013) (by decide +kernel), List.mem_of_getElem? (i := 1169) (by decide +kernel), List.mem_of_getElem? (i := 1170) (by decide +kernel)⟩
theorem lw_p34 : lw_okq (⟨"IrrigationTurnsModel", "term", "()V"⟩, 19) := ⟨⟨by decide +kernel, by decide +kernel⟩, List.mem_of_getElem? (i := 1013) (by decide +kernel), List.mem_of_getElem? (i := 1173) (by decide +kernel), List.mem_of_getElem? (i := 1174) (by decide +kernel)⟩
theorem lw_p35 : lw_okq (⟨"IrrigationTurnsModel", "factor", "()V"⟩, 19) := ⟨⟨by decide +kernel, by decide +kernel⟩, List.mem_of_getElem? (i := 1013) (by decide +kernel), List.mem_of_getElem? (i := 1177) (by decide +kernel), List.mem_of_getElem? (i := 1178) (by decide +kernel)⟩
theorem lw_p36 : lw_okq (⟨"IrrigationTurnsModel", "expect", "(I)V"⟩, 19) := ⟨⟨by decide +kernel, by decide +kernel⟩, List.mem_of_getElem? (i := 1013) (by decide +kernel), List.mem_of_getElem? (i := 1181) (by decide +kernel), List.mem_of_getElem? (i := 1182) (by decide +kernel)⟩
theorem lw_p37 : lw_okq (⟨"IrrigationTurnsModel", "emit", "(I)V"⟩, 19) := ⟨⟨by decide +kernel, by decide +kernel⟩, List.mem_of_getElem? (i := 1013) (by decide +kernel), List.mem_of_getElem? (i := 1187) (by decide +kernel), List.mem_of_getElem? (i := 1188) (by decide +kernel)⟩
theorem lw_p38 : lw_okq (⟨"IrrigationTurnsModel", "remember", "()V"⟩, 19) := ⟨⟨by decide +kernel, by decide +kernel⟩, List.mem_of_getElem? (i := 1013) (by decide +kernel), List.mem_of_getElem? (i := 1191) (by decide +kernel), List.mem_of_getElem? (i := 1192) (by decide +kernel)⟩
theorem lw_p39 : lw_okq (⟨"IrrigationTurnsModel", "inflowOf", "([II)I"⟩, 19) := ⟨⟨by decide +kernel, by decide +kernel⟩, List.mem_of_getElem? (i := 1013) (by decide +kernel), List.mem_of_getElem? (i := 1233) (by decide +kernel), List.mem_of_getElem? (i := 1234) (by decide +kernel)⟩
theorem lw_p40 : lw_okq (⟨"IrrigationTurnsModel", "noCanal", "(I)Z"⟩, 19) := ⟨⟨by decide +kernel, by decide +kernel⟩, List.mem_of_getElem? (i := 1013) (by decide +kernel), List.mem_of_getElem? (i := 1257) (by decide +kernel), List.mem_of_getElem? (i := 1258) (by decide +kernel)⟩
theorem lw_p41 : lw_okq (⟨"IrrigationTurnsModel", "noField", "(I)Z"⟩, 19) := ⟨⟨by decide +kernel, by decide +kernel⟩, List.mem_of_getElem? (i := 1013) (by decide +kernel), List.mem_of_getElem? (i := 1273) (by decide +kernel), List.mem_of_getElem? (i := 1274) (by decide +kernel)⟩
theorem lw_p42 : lw_okq (⟨"IrrigationTurnsModel", "noVillage", "(I)Z"⟩, 19) := ⟨⟨by decide +kernel, by decide +kernel⟩, List.mem_of_getElem? (i := 1013) (by decide +kernel), List.mem_of_getElem? (i := 1300) (by decide +kernel), List.mem_of_getElem? (i := 1301) (by decide +kernel)⟩
theorem lw_p43 : lw_okq (⟨"IrrigationTurnsModel", "demand", "(I)I"⟩, 19) := ⟨⟨by decide +kernel, by decide +kernel⟩, List.mem_of_getElem? (i := 1013) (by decide +kernel), List.mem_of_getElem? (i := 1312) (by decide +kernel), List.mem_of_getElem? (i := 1313) (by decide +kernel)⟩
theorem lw_p44 : lw_okq (⟨"IrrigationTurnsModel", "simulate", "([I)V"⟩, 19) := ⟨⟨by decide +kernel, by decide +kernel⟩, List.mem_of_getElem? (i := 1013) (by decide +kernel), List.mem_of_getElem? (i := 1320) (by decide +kernel), List.mem_of_getElem? (i := 1321) (by decide +kernel)⟩
theorem lw_p45 : lw_okq (⟨"IrrigationTurnsModel", "findOpen", "([I)V"⟩, 19) := ⟨⟨by decide +kernel, by decide +kernel⟩, List.mem_of_getElem? (i := 1013) (by decide +kernel), List.mem_of_getElem? (i := 1324) (by decide +kernel), List.mem_of_getElem? (i := 1325) (by decide +kernel)⟩
theorem lw_p46 : lw_okq (⟨"IrrigationTurnsModel", "irrigate", "([IIII)I"⟩, 19) := ⟨⟨by decide +kernel, by decide +kernel⟩, List.mem_of_getElem? (i := 1013) (by decide +kernel), List.mem_of_getElem? (i := 1331) (by decide +kernel), List.mem_of_getElem? (i := 1332) (by decide +kernel)⟩
theorem lw_p47 : lw_okq (⟨"IrrigationTurnsModel", "divide", "([III)V"⟩, 19) := ⟨⟨by decide +kernel, by decide +kernel⟩, List.mem_of_getElem? (i := 1013) (by decide +kernel), List.mem_of_getElem? (i := 1335) (by decide +kernel), List.mem_of_getElem? (i := 1336) (by decide +kernel)⟩
def lw_privs_3 : List (MethodName × Nat) := [(⟨"IrrigationTurnsModel", "readInflow", "(I)V"⟩, 19), (⟨"IrrigationTurnsModel", "sum", "()V"⟩, 19), (⟨"IrrigationTurnsModel", "term", "()V"⟩, 19), (⟨"IrrigationTurnsModel", "factor", "()V"⟩, 19), (⟨"IrrigationTurnsModel", "expect", "(I)V"⟩, 19), (⟨"IrrigationTurnsModel", "emit", "(I)V"⟩, 19), (⟨"IrrigationTurnsModel", "remember", "()V"⟩, 19), (⟨"IrrigationTurnsModel", "inflowOf", "([II)I"⟩, 19), (⟨"IrrigationTurnsModel", "noCanal", "(I)Z"⟩, 19), (⟨"IrrigationTurnsModel", "noField", "(I)Z"⟩, 19), (⟨"IrrigationTurnsModel", "noVillage", "(I)Z"⟩, 19), (⟨"IrrigationTurnsModel", "demand", "(I)I"⟩, 19), (⟨"IrrigationTurnsModel", "simulate", "([I)V"⟩, 19), (⟨"IrrigationTurnsModel", "findOpen", "([I)V"⟩, 19), (⟨"IrrigationTurnsModel", "irrigate", "([IIII)I"⟩, 19), (⟨"IrrigationTurnsModel", "divide", "([III)V"⟩, 19)]
theorem lw_r3 : ∀ q ∈ lw_privs_3, lw_okq q := List.forall_mem_cons.mpr ⟨lw_p32, List.forall_mem_cons.mpr ⟨lw_p33, List.forall_mem_cons.mpr ⟨lw_p34, List.forall_mem_cons.mpr ⟨lw_p35, List.forall_mem_cons.mpr ⟨lw_p36, List.forall_mem_cons.mpr ⟨lw_p37, List.forall_mem_cons.mpr ⟨lw_p38, List.forall_mem_cons.mpr ⟨lw_p39, List.forall_mem_cons.mpr ⟨lw_p40, List.forall_mem_cons.mpr ⟨lw_p41, List.forall_mem_cons.mpr ⟨lw_p42, List.forall_mem_cons.mpr ⟨lw_p43, List.forall_mem_cons.mpr ⟨lw_p44, List.forall_mem_cons.mpr ⟨lw_p45, List.forall_mem_cons.mpr ⟨lw_p46, List.forall_mem_cons.mpr ⟨lw_p47, fun _ h => absurd h List.not_mem_nil⟩⟩⟩⟩⟩⟩⟩⟩⟩⟩⟩⟩⟩⟩⟩⟩
theorem lw_p48 : lw_okq (⟨"IrrigationTurnsModel", "arrives", "(II)I"⟩, 19) := ⟨⟨by decide +kernel, by decide +kernel⟩, List.mem_of_getElem? (i := 1013) (by decide +kernel), List.mem_of_getElem? (i := 1349) (by decide +kernel), List.mem_of_getElem? (i := 1350) (by decide +kernel)⟩
theorem lw_p49 : lw_okq (⟨"IrrigationTurnsModel", "takenByAll", "()I"⟩, 19) := ⟨⟨by decide +kernel, by decide +kernel⟩, List.mem_of_getElem? (i := 1013) (by decide +kernel), List.mem_of_getElem? (i := 1361) (by decide +kernel), List.mem_of_getElem? (i := 1362) (by decide +kernel)⟩
def lw_privs_4 : List (MethodName × Nat) := [(⟨"IrrigationTurnsModel", "arrives", "(II)I"⟩, 19), (⟨"IrrigationTurnsModel", "takenByAll", "()I"⟩, 19)]
theorem lw_r4 : ∀ q ∈ lw_privs_4, lw_okq q := List.forall_mem_cons.mpr ⟨lw_p48, List.forall_mem_cons.mpr ⟨lw_p49, fun _ h => absurd h List.not_mem_nil⟩⟩
def lw_privs : List (MethodName × Nat) := lw_privs_1 ++ (lw_privs_2 ++ (lw_privs_3 ++ (lw_privs_4)))
def lw_tbl : List Cond := k2_sels lw_privs ++ tables_1
theorem lw_privs_ok : ∀ q ∈ lw_privs, lw_okq q := by
  show ∀ q ∈ lw_privs_1 ++ (lw_privs_2 ++ (lw_privs_3 ++ (lw_privs_4))), lw_okq q
  exact List.forall_mem_append.mpr ⟨lw_r1, List.forall_mem_append.mpr ⟨lw_r2, List.forall_mem_append.mpr ⟨lw_r3, lw_r4⟩⟩⟩

def RX0 : String := "IrrigationTurns$Canals"
def TX0 : u_T := fun k => match k with
  | 0 => ("IrrigationTurns$Canals", "parent", "[I", true)
  | 1 => ("IrrigationTurns$Canals", "delay", "[I", true)
  | 2 => ("IrrigationTurns$Canals", "loss", "[I", true)
  | 3 => ("IrrigationTurns$Canals", "capacity", "[I", true)
  | 4 => ("IrrigationTurns$Canals", "share", "[I", true)
  | 5 => ("IrrigationTurns$Canals", "arrived", "[I", true)
  | 6 => ("IrrigationTurns$Canals", "open", "[Z", true)
  | 7 => ("IrrigationTurns$Canals", "moving", "[I", true)
  | _ => ("IrrigationTurns$Canals", "count", "I", false)
def tyX0 : Nat → FieldType := fun k => match k with
  | 0 => .array .int
  | 1 => .array .int
  | 2 => .array .int
  | 3 => .array .int
  | 4 => .array .int
  | 5 => .array .int
  | 6 => .array .boolean
  | 7 => .array .int
  | _ => .int
abbrev wsX00 : List Cond := u_ws RX0 TX0 9
theorem nmX0 : ∀ a, a < 9 → ∀ b, b < 9 → a ≠ b → (TX0 a).2.1 ≠ (TX0 b).2.1 := by decide +kernel
theorem tyX0_ok : ∀ k, k < 9 → parseFieldDescriptor (TX0 k).2.2.1 = some (tyX0 k) := by decide +kernel
abbrev cX0_init : ByteArray := prog_2_method_1_code
def yX0_init : MethodName := ⟨RX0, "<init>", "()V"⟩
abbrev cX0_copyFrom : ByteArray := prog_2_method_2_code
def yX0_copyFrom : MethodName := ⟨RX0, "copyFrom", "(LIrrigationTurns$Canals;)V"⟩
abbrev cX0_slot : ByteArray := prog_2_method_3_code
def yX0_slot : MethodName := ⟨RX0, "slot", "(II)I"⟩
abbrev cX0_send : ByteArray := prog_2_method_4_code
def yX0_send : MethodName := ⟨RX0, "send", "(III)V"⟩
abbrev cX0_letArrive : ByteArray := prog_2_method_5_code
def yX0_letArrive : MethodName := ⟨RX0, "letArrive", "(II)I"⟩
abbrev cX0_amountDue : ByteArray := prog_2_method_6_code
def yX0_amountDue : MethodName := ⟨RX0, "amountDue", "(III)I"⟩
abbrev cX0_waterInAll : ByteArray := prog_2_method_7_code
def yX0_waterInAll : MethodName := ⟨RX0, "waterInAll", "()J"⟩
abbrev cX0_closeAll : ByteArray := prog_2_method_8_code
def yX0_closeAll : MethodName := ⟨RX0, "closeAll", "()V"⟩
abbrev cX0_openAt : ByteArray := prog_2_method_9_code
def yX0_openAt : MethodName := ⟨RX0, "openAt", "(I)V"⟩
abbrev cX0_openParents : ByteArray := prog_2_method_10_code
def yX0_openParents : MethodName := ⟨RX0, "openParents", "()V"⟩
abbrev cX0_isOpenChild : ByteArray := prog_2_method_11_code
def yX0_isOpenChild : MethodName := ⟨RX0, "isOpenChild", "(II)Z"⟩
abbrev cX0_openShares : ByteArray := prog_2_method_12_code
def yX0_openShares : MethodName := ⟨RX0, "openShares", "(I)I"⟩
abbrev cX0_firstOpenChild : ByteArray := prog_2_method_13_code
def yX0_firstOpenChild : MethodName := ⟨RX0, "firstOpenChild", "(I)I"⟩
def RX1 : String := "IrrigationTurns$Fields"
def TX1 : u_T := fun k => match k with
  | 0 => ("IrrigationTurns$Fields", "canal", "[I", true)
  | 1 => ("IrrigationTurns$Fields", "village", "[I", true)
  | 2 => ("IrrigationTurns$Fields", "intake", "[I", true)
  | 3 => ("IrrigationTurns$Fields", "demand", "[I", true)
  | 4 => ("IrrigationTurns$Fields", "bank", "[I", true)
  | 5 => ("IrrigationTurns$Fields", "seepage", "[I", true)
  | 6 => ("IrrigationTurns$Fields", "under", "[I", true)
  | 7 => ("IrrigationTurns$Fields", "water", "[I", true)
  | 8 => ("IrrigationTurns$Fields", "taken", "[I", true)
  | 9 => ("IrrigationTurns$Fields", "stolen", "[I", true)
  | 10 => ("IrrigationTurns$Fields", "forced", "[Z", true)
  | _ => ("IrrigationTurns$Fields", "count", "I", false)
def tyX1 : Nat → FieldType := fun k => match k with
  | 0 => .array .int
  | 1 => .array .int
  | 2 => .array .int
  | 3 => .array .int
  | 4 => .array .int
  | 5 => .array .int
  | 6 => .array .int
  | 7 => .array .int
  | 8 => .array .int
  | 9 => .array .int
  | 10 => .array .boolean
  | _ => .int
abbrev wsX10 : List Cond := u_ws RX1 TX1 12
theorem nmX1 : ∀ a, a < 12 → ∀ b, b < 12 → a ≠ b → (TX1 a).2.1 ≠ (TX1 b).2.1 := by decide +kernel
theorem tyX1_ok : ∀ k, k < 12 → parseFieldDescriptor (TX1 k).2.2.1 = some (tyX1 k) := by decide +kernel
abbrev cX1_init : ByteArray := prog_3_method_1_code
def yX1_init : MethodName := ⟨RX1, "<init>", "()V"⟩
abbrev cX1_copyFrom : ByteArray := prog_3_method_2_code
def yX1_copyFrom : MethodName := ⟨RX1, "copyFrom", "(LIrrigationTurns$Fields;)V"⟩
abbrev cX1_hasOpenGate : ByteArray := prog_3_method_3_code
def yX1_hasOpenGate : MethodName := ⟨RX1, "hasOpenGate", "(II)Z"⟩
abbrev cX1_meetsDemand : ByteArray := prog_3_method_4_code
def yX1_meetsDemand : MethodName := ⟨RX1, "meetsDemand", "(I)Z"⟩
abbrev cX1_markOpenCanals : ByteArray := prog_3_method_5_code
def yX1_markOpenCanals : MethodName := ⟨RX1, "markOpenCanals", "(LIrrigationTurns$Canals;I)V"⟩
abbrev cX1_takeFrom : ByteArray := prog_3_method_6_code
def yX1_takeFrom : MethodName := ⟨RX1, "takeFrom", "(III)I"⟩
abbrev cX1_seepAway : ByteArray := prog_3_method_7_code
def yX1_seepAway : MethodName := ⟨RX1, "seepAway", "(I)I"⟩
abbrev cX1_overflow : ByteArray := prog_3_method_8_code
def yX1_overflow : MethodName := ⟨RX1, "overflow", "(I)I"⟩
abbrev cX1_waterInAll : ByteArray := prog_3_method_9_code
def yX1_waterInAll : MethodName := ⟨RX1, "waterInAll", "()J"⟩
abbrev cX1_countForced : ByteArray := prog_3_method_10_code
def yX1_countForced : MethodName := ⟨RX1, "countForced", "()I"⟩
abbrev cX1_demandOf : ByteArray := prog_3_method_11_code
def yX1_demandOf : MethodName := ⟨RX1, "demandOf", "(I)I"⟩
abbrev cX1_fairPart : ByteArray := prog_3_method_12_code
def yX1_fairPart : MethodName := ⟨RX1, "fairPart", "(II)I"⟩
def RX2 : String := "IrrigationTurns$Formula"
def TX2 : u_T := fun k => match k with
  | 0 => ("IrrigationTurns$Formula", "codes", "[I", true)
  | 1 => ("IrrigationTurns$Formula", "stack", "[J", true)
  | _ => ("IrrigationTurns$Formula", "length", "I", false)
def tyX2 : Nat → FieldType := fun k => match k with
  | 0 => .array .int
  | 1 => .array .long
  | _ => .int
abbrev wsX20 : List Cond := u_ws RX2 TX2 3
theorem nmX2 : ∀ a, a < 3 → ∀ b, b < 3 → a ≠ b → (TX2 a).2.1 ≠ (TX2 b).2.1 := by decide +kernel
theorem tyX2_ok : ∀ k, k < 3 → parseFieldDescriptor (TX2 k).2.2.1 = some (tyX2 k) := by decide +kernel
abbrev cX2_init : ByteArray := prog_4_method_1_code
def yX2_init : MethodName := ⟨RX2, "<init>", "()V"⟩
abbrev cX2_clear : ByteArray := prog_4_method_2_code
def yX2_clear : MethodName := ⟨RX2, "clear", "()V"⟩
abbrev cX2_copyFrom : ByteArray := prog_4_method_3_code
def yX2_copyFrom : MethodName := ⟨RX2, "copyFrom", "(LIrrigationTurns$Formula;)V"⟩
abbrev cX2_add : ByteArray := prog_4_method_4_code
def yX2_add : MethodName := ⟨RX2, "add", "(I)V"⟩
abbrev cX2_inflowIn : ByteArray := prog_4_method_5_code
def yX2_inflowIn : MethodName := ⟨RX2, "inflowIn", "(II)I"⟩
abbrev cX2_operand : ByteArray := prog_4_method_6_code
def yX2_operand : MethodName := ⟨RX2, "operand", "(III)J"⟩
abbrev cX2_combine : ByteArray := prog_4_method_7_code
def yX2_combine : MethodName := ⟨RX2, "combine", "(IJJ)J"⟩
def RX3 : String := "IrrigationTurns$Guard"
def TX3 : u_T := fun k => match k with
  | 0 => ("IrrigationTurns$Guard", "route", "[I", true)
  | 1 => ("IrrigationTurns$Guard", "length", "I", false)
  | _ => ("IrrigationTurns$Guard", "position", "I", false)
def tyX3 : Nat → FieldType := fun k => match k with
  | 0 => .array .int
  | 1 => .int
  | _ => .int
abbrev wsX30 : List Cond := u_ws RX3 TX3 3
theorem nmX3 : ∀ a, a < 3 → ∀ b, b < 3 → a ≠ b → (TX3 a).2.1 ≠ (TX3 b).2.1 := by decide +kernel
theorem tyX3_ok : ∀ k, k < 3 → parseFieldDescriptor (TX3 k).2.2.1 = some (tyX3 k) := by decide +kernel
abbrev cX3_init : ByteArray := prog_5_method_1_code
def yX3_init : MethodName := ⟨RX3, "<init>", "()V"⟩
abbrev cX3_copyFrom : ByteArray := prog_5_method_2_code
def yX3_copyFrom : MethodName := ⟨RX3, "copyFrom", "(LIrrigationTurns$Guard;)V"⟩
abbrev cX3_addStop : ByteArray := prog_5_method_3_code
def yX3_addStop : MethodName := ⟨RX3, "addStop", "(I)V"⟩
abbrev cX3_place : ByteArray := prog_5_method_4_code
def yX3_place : MethodName := ⟨RX3, "place", "()I"⟩
abbrev cX3_walk : ByteArray := prog_5_method_5_code
def yX3_walk : MethodName := ⟨RX3, "walk", "()I"⟩
def RX4 : String := "IrrigationTurns$History"
def TX4 : u_T := fun k => match k with
  | 0 => ("IrrigationTurns$History", "saved", "[LIrrigationTurns$State;", true)
  | 1 => ("IrrigationTurns$History", "next", "I", false)
  | _ => ("IrrigationTurns$History", "count", "I", false)
def tyX4 : Nat → FieldType := fun k => match k with
  | 0 => .array (.object "IrrigationTurns$State")
  | 1 => .int
  | _ => .int
abbrev wsX40 : List Cond := u_ws RX4 TX4 3
theorem nmX4 : ∀ a, a < 3 → ∀ b, b < 3 → a ≠ b → (TX4 a).2.1 ≠ (TX4 b).2.1 := by decide +kernel
theorem tyX4_ok : ∀ k, k < 3 → parseFieldDescriptor (TX4 k).2.2.1 = some (tyX4 k) := by decide +kernel
abbrev cX4_init : ByteArray := prog_6_method_1_code
def yX4_init : MethodName := ⟨RX4, "<init>", "()V"⟩
abbrev cX4_save : ByteArray := prog_6_method_2_code
def yX4_save : MethodName := ⟨RX4, "save", "(LIrrigationTurns$State;)V"⟩
abbrev cX4_restore : ByteArray := prog_6_method_3_code
def yX4_restore : MethodName := ⟨RX4, "restore", "(LIrrigationTurns$State;)Z"⟩
def RX5 : String := "IrrigationTurns$Ledger"
def TX5 : u_T := fun k => match k with
  | 0 => ("IrrigationTurns$Ledger", "fines", "[I", true)
  | 1 => ("IrrigationTurns$Ledger", "entered", "J", false)
  | 2 => ("IrrigationTurns$Ledger", "spilled", "J", false)
  | 3 => ("IrrigationTurns$Ledger", "lost", "J", false)
  | _ => ("IrrigationTurns$Ledger", "seeped", "J", false)
def tyX5 : Nat → FieldType := fun k => match k with
  | 0 => .array .int
  | 1 => .long
  | 2 => .long
  | 3 => .long
  | _ => .long
abbrev wsX50 : List Cond := u_ws RX5 TX5 5
theorem nmX5 : ∀ a, a < 5 → ∀ b, b < 5 → a ≠ b → (TX5 a).2.1 ≠ (TX5 b).2.1 := by decide +kernel
theorem tyX5_ok : ∀ k, k < 5 → parseFieldDescriptor (TX5 k).2.2.1 = some (tyX5 k) := by decide +kernel
abbrev cX5_init : ByteArray := prog_7_method_1_code
def yX5_init : MethodName := ⟨RX5, "<init>", "()V"⟩
abbrev cX5_copyFrom : ByteArray := prog_7_method_2_code
def yX5_copyFrom : MethodName := ⟨RX5, "copyFrom", "(LIrrigationTurns$Ledger;)V"⟩
abbrev cX5_fine : ByteArray := prog_7_method_3_code
def yX5_fine : MethodName := ⟨RX5, "fine", "(I)V"⟩
def RX6 : String := "IrrigationTurns$Rotation"
def TX6 : u_T := fun k => match k with
  | 0 => ("IrrigationTurns$Rotation", "village", "[I", true)
  | 1 => ("IrrigationTurns$Rotation", "hours", "[I", true)
  | 2 => ("IrrigationTurns$Rotation", "count", "I", false)
  | _ => ("IrrigationTurns$Rotation", "cycle", "I", false)
def tyX6 : Nat → FieldType := fun k => match k with
  | 0 => .array .int
  | 1 => .array .int
  | 2 => .int
  | _ => .int
abbrev wsX60 : List Cond := u_ws RX6 TX6 4
theorem nmX6 : ∀ a, a < 4 → ∀ b, b < 4 → a ≠ b → (TX6 a).2.1 ≠ (TX6 b).2.1 := by decide +kernel
theorem tyX6_ok : ∀ k, k < 4 → parseFieldDescriptor (TX6 k).2.2.1 = some (tyX6 k) := by decide +kernel
abbrev cX6_init : ByteArray := prog_8_method_1_code
def yX6_init : MethodName := ⟨RX6, "<init>", "()V"⟩
abbrev cX6_copyFrom : ByteArray := prog_8_method_2_code
def yX6_copyFrom : MethodName := ⟨RX6, "copyFrom", "(LIrrigationTurns$Rotation;)V"⟩
abbrev cX6_villageIn : ByteArray := prog_8_method_3_code
def yX6_villageIn : MethodName := ⟨RX6, "villageIn", "(I)I"⟩
abbrev cX6_exchange : ByteArray := prog_8_method_4_code
def yX6_exchange : MethodName := ⟨RX6, "exchange", "(II)V"⟩
def RX7 : String := "IrrigationTurns$SetupReader"
def TX7 : u_T := fun k => match k with
  | 0 => ("IrrigationTurns$SetupReader", "tokens", "LIrrigationTurns$Tokens;", true)
  | 1 => ("IrrigationTurns$SetupReader", "draft", "LIrrigationTurns$State;", true)
  | 2 => ("IrrigationTurns$SetupReader", "errorStart", "I", false)
  | 3 => ("IrrigationTurns$SetupReader", "error", "I", false)
  | _ => ("IrrigationTurns$SetupReader", "hasInflow", "Z", false)
def tyX7 : Nat → FieldType := fun k => match k with
  | 0 => .object "IrrigationTurns$Tokens"
  | 1 => .object "IrrigationTurns$State"
  | 2 => .int
  | 3 => .int
  | _ => .boolean
abbrev wsX70 : List Cond := u_ws RX7 TX7 5
theorem nmX7 : ∀ a, a < 5 → ∀ b, b < 5 → a ≠ b → (TX7 a).2.1 ≠ (TX7 b).2.1 := by decide +kernel
theorem tyX7_ok : ∀ k, k < 5 → parseFieldDescriptor (TX7 k).2.2.1 = some (tyX7 k) := by decide +kernel
abbrev cX7_init : ByteArray := prog_9_method_1_code
def yX7_init : MethodName := ⟨RX7, "<init>", "()V"⟩
abbrev cX7_readSetup : ByteArray := prog_9_method_2_code
def yX7_readSetup : MethodName := ⟨RX7, "readSetup", "(I)I"⟩
abbrev cX7_readStatement : ByteArray := prog_9_method_3_code
def yX7_readStatement : MethodName := ⟨RX7, "readStatement", "()V"⟩
abbrev cX7_readCanal : ByteArray := prog_9_method_4_code
def yX7_readCanal : MethodName := ⟨RX7, "readCanal", "(LIrrigationTurns$Canals;)V"⟩
abbrev cX7_readParent : ByteArray := prog_9_method_5_code
def yX7_readParent : MethodName := ⟨RX7, "readParent", "(I)I"⟩
abbrev cX7_readField : ByteArray := prog_9_method_6_code
def yX7_readField : MethodName := ⟨RX7, "readField", "(LIrrigationTurns$Fields;)V"⟩
abbrev cX7_readTurn : ByteArray := prog_9_method_7_code
def yX7_readTurn : MethodName := ⟨RX7, "readTurn", "(LIrrigationTurns$Rotation;)V"⟩
abbrev cX7_readGuard : ByteArray := prog_9_method_8_code
def yX7_readGuard : MethodName := ⟨RX7, "readGuard", "(LIrrigationTurns$Guard;)V"⟩
abbrev cX7_readSum : ByteArray := prog_9_method_9_code
def yX7_readSum : MethodName := ⟨RX7, "readSum", "(I)V"⟩
abbrev cX7_readTerm : ByteArray := prog_9_method_10_code
def yX7_readTerm : MethodName := ⟨RX7, "readTerm", "(I)V"⟩
abbrev cX7_readFactor : ByteArray := prog_9_method_11_code
def yX7_readFactor : MethodName := ⟨RX7, "readFactor", "(I)V"⟩
abbrev cX7_addOperand : ByteArray := prog_9_method_12_code
def yX7_addOperand : MethodName := ⟨RX7, "addOperand", "(I)V"⟩
abbrev cX7_readOptional : ByteArray := prog_9_method_13_code
def yX7_readOptional : MethodName := ⟨RX7, "readOptional", "(Ljava/lang/String;II)I"⟩
abbrev cX7_readNumber : ByteArray := prog_9_method_14_code
def yX7_readNumber : MethodName := ⟨RX7, "readNumber", "(II)I"⟩
abbrev cX7_skipSign : ByteArray := prog_9_method_15_code
def yX7_skipSign : MethodName := ⟨RX7, "skipSign", "(C)V"⟩
abbrev cX7_fail : ByteArray := prog_9_method_16_code
def yX7_fail : MethodName := ⟨RX7, "fail", "(I)V"⟩
def RX8 : String := "IrrigationTurns$State"
def TX8 : u_T := fun k => match k with
  | 0 => ("IrrigationTurns$State", "canals", "LIrrigationTurns$Canals;", true)
  | 1 => ("IrrigationTurns$State", "fields", "LIrrigationTurns$Fields;", true)
  | 2 => ("IrrigationTurns$State", "rotation", "LIrrigationTurns$Rotation;", true)
  | 3 => ("IrrigationTurns$State", "guard", "LIrrigationTurns$Guard;", true)
  | 4 => ("IrrigationTurns$State", "formula", "LIrrigationTurns$Formula;", true)
  | 5 => ("IrrigationTurns$State", "ledger", "LIrrigationTurns$Ledger;", true)
  | _ => ("IrrigationTurns$State", "hour", "I", false)
def tyX8 : Nat → FieldType := fun k => match k with
  | 0 => .object "IrrigationTurns$Canals"
  | 1 => .object "IrrigationTurns$Fields"
  | 2 => .object "IrrigationTurns$Rotation"
  | 3 => .object "IrrigationTurns$Guard"
  | 4 => .object "IrrigationTurns$Formula"
  | 5 => .object "IrrigationTurns$Ledger"
  | _ => .int
abbrev wsX80 : List Cond := u_ws RX8 TX8 7
theorem nmX8 : ∀ a, a < 7 → ∀ b, b < 7 → a ≠ b → (TX8 a).2.1 ≠ (TX8 b).2.1 := by decide +kernel
theorem tyX8_ok : ∀ k, k < 7 → parseFieldDescriptor (TX8 k).2.2.1 = some (tyX8 k) := by decide +kernel
abbrev cX8_init : ByteArray := prog_10_method_1_code
def yX8_init : MethodName := ⟨RX8, "<init>", "()V"⟩
abbrev cX8_forgetSetup : ByteArray := prog_10_method_2_code
def yX8_forgetSetup : MethodName := ⟨RX8, "forgetSetup", "()V"⟩
abbrev cX8_copyFrom : ByteArray := prog_10_method_3_code
def yX8_copyFrom : MethodName := ⟨RX8, "copyFrom", "(LIrrigationTurns$State;)V"⟩
abbrev cX8_passHour : ByteArray := prog_10_method_4_code
def yX8_passHour : MethodName := ⟨RX8, "passHour", "()I"⟩
abbrev cX8_divide : ByteArray := prog_10_method_5_code
def yX8_divide : MethodName := ⟨RX8, "divide", "(II)V"⟩
abbrev cX8_enter : ByteArray := prog_10_method_6_code
def yX8_enter : MethodName := ⟨RX8, "enter", "(II)V"⟩
abbrev cX8_closeForcedGates : ByteArray := prog_10_method_7_code
def yX8_closeForcedGates : MethodName := ⟨RX8, "closeForcedGates", "(I)V"⟩
def RX9 : String := "IrrigationTurns$Tokens"
def TX9 : u_T := fun k => match k with
  | 0 => ("IrrigationTurns$Tokens", "bytes", "[B", true)
  | 1 => ("IrrigationTurns$Tokens", "filled", "I", false)
  | 2 => ("IrrigationTurns$Tokens", "kind", "I", false)
  | 3 => ("IrrigationTurns$Tokens", "start", "I", false)
  | 4 => ("IrrigationTurns$Tokens", "value", "I", false)
  | 5 => ("IrrigationTurns$Tokens", "length", "I", false)
  | _ => ("IrrigationTurns$Tokens", "position", "I", false)
def tyX9 : Nat → FieldType := fun k => match k with
  | 0 => .array .byte
  | 1 => .int
  | 2 => .int
  | 3 => .int
  | 4 => .int
  | 5 => .int
  | _ => .int
abbrev wsX90 : List Cond := u_ws RX9 TX9 7
theorem nmX9 : ∀ a, a < 7 → ∀ b, b < 7 → a ≠ b → (TX9 a).2.1 ≠ (TX9 b).2.1 := by decide +kernel
theorem tyX9_ok : ∀ k, k < 7 → parseFieldDescriptor (TX9 k).2.2.1 = some (tyX9 k) := by decide +kernel
abbrev cX9_init : ByteArray := prog_11_method_1_code
def yX9_init : MethodName := ⟨RX9, "<init>", "()V"⟩
abbrev cX9_addWord : ByteArray := prog_11_method_2_code
def yX9_addWord : MethodName := ⟨RX9, "addWord", "(I)V"⟩
abbrev cX9_begin : ByteArray := prog_11_method_3_code
def yX9_begin : MethodName := ⟨RX9, "begin", "(I)V"⟩
abbrev cX9_next : ByteArray := prog_11_method_4_code
def yX9_next : MethodName := ⟨RX9, "next", "()V"⟩
abbrev cX9_isWord : ByteArray := prog_11_method_5_code
def yX9_isWord : MethodName := ⟨RX9, "isWord", "(Ljava/lang/String;)Z"⟩
def RX10 : String := "IrrigationTurns"
def TX10 : u_T := fun k => match k with
  | 0 => ("IrrigationTurns", "reader", "LIrrigationTurns$SetupReader;", true)
  | 1 => ("IrrigationTurns", "present", "LIrrigationTurns$State;", true)
  | 2 => ("IrrigationTurns", "forecast", "LIrrigationTurns$State;", true)
  | 3 => ("IrrigationTurns", "history", "LIrrigationTurns$History;", true)
  | _ => ("IrrigationTurns", "errorAt", "I", false)
def tyX10 : Nat → FieldType := fun k => match k with
  | 0 => .object "IrrigationTurns$SetupReader"
  | 1 => .object "IrrigationTurns$State"
  | 2 => .object "IrrigationTurns$State"
  | 3 => .object "IrrigationTurns$History"
  | _ => .int
abbrev wsX100 : List Cond := u_ws RX10 TX10 5
theorem nmX10 : ∀ a, a < 5 → ∀ b, b < 5 → a ≠ b → (TX10 a).2.1 ≠ (TX10 b).2.1 := by decide +kernel
theorem tyX10_ok : ∀ k, k < 5 → parseFieldDescriptor (TX10 k).2.2.1 = some (tyX10 k) := by decide +kernel
abbrev cX10_init : ByteArray := prog_1_method_1_code
def yX10_init : MethodName := ⟨RX10, "<init>", "()V"⟩
abbrev cX10_append : ByteArray := prog_1_method_2_code
def yX10_append : MethodName := ⟨RX10, "append", "(IIIII)I"⟩
abbrev cX10_load : ByteArray := prog_1_method_3_code
def yX10_load : MethodName := ⟨RX10, "load", "(I)I"⟩
abbrev cX10_errorOffset : ByteArray := prog_1_method_4_code
def yX10_errorOffset : MethodName := ⟨RX10, "errorOffset", "()I"⟩
abbrev cX10_canalCount : ByteArray := prog_1_method_5_code
def yX10_canalCount : MethodName := ⟨RX10, "canalCount", "()I"⟩
abbrev cX10_fieldCount : ByteArray := prog_1_method_6_code
def yX10_fieldCount : MethodName := ⟨RX10, "fieldCount", "()I"⟩
abbrev cX10_clock : ByteArray := prog_1_method_7_code
def yX10_clock : MethodName := ⟨RX10, "clock", "()I"⟩
abbrev cX10_cycleLength : ByteArray := prog_1_method_8_code
def yX10_cycleLength : MethodName := ⟨RX10, "cycleLength", "()I"⟩
abbrev cX10_turnAt : ByteArray := prog_1_method_9_code
def yX10_turnAt : MethodName := ⟨RX10, "turnAt", "(I)I"⟩
abbrev cX10_inflow : ByteArray := prog_1_method_10_code
def yX10_inflow : MethodName := ⟨RX10, "inflow", "(I)I"⟩
abbrev cX10_guardAt : ByteArray := prog_1_method_11_code
def yX10_guardAt : MethodName := ⟨RX10, "guardAt", "()I"⟩
abbrev cX10_parent : ByteArray := prog_1_method_12_code
def yX10_parent : MethodName := ⟨RX10, "parent", "(I)I"⟩
abbrev cX10_waterIn : ByteArray := prog_1_method_13_code
def yX10_waterIn : MethodName := ⟨RX10, "waterIn", "(II)I"⟩
abbrev cX10_arrived : ByteArray := prog_1_method_14_code
def yX10_arrived : MethodName := ⟨RX10, "arrived", "(I)I"⟩
abbrev cX10_isOpen : ByteArray := prog_1_method_15_code
def yX10_isOpen : MethodName := ⟨RX10, "isOpen", "(I)Z"⟩
abbrev cX10_isForced : ByteArray := prog_1_method_16_code
def yX10_isForced : MethodName := ⟨RX10, "isForced", "(I)Z"⟩
abbrev cX10_water : ByteArray := prog_1_method_17_code
def yX10_water : MethodName := ⟨RX10, "water", "(I)I"⟩
abbrev cX10_taken : ByteArray := prog_1_method_18_code
def yX10_taken : MethodName := ⟨RX10, "taken", "(I)I"⟩
abbrev cX10_stolen : ByteArray := prog_1_method_19_code
def yX10_stolen : MethodName := ⟨RX10, "stolen", "(I)I"⟩
abbrev cX10_fines : ByteArray := prog_1_method_20_code
def yX10_fines : MethodName := ⟨RX10, "fines", "(I)I"⟩
abbrev cX10_total : ByteArray := prog_1_method_21_code
def yX10_total : MethodName := ⟨RX10, "total", "(I)J"⟩
abbrev cX10_fairHours : ByteArray := prog_1_method_22_code
def yX10_fairHours : MethodName := ⟨RX10, "fairHours", "(II)I"⟩
abbrev cX10_hoursUntil : ByteArray := prog_1_method_23_code
def yX10_hoursUntil : MethodName := ⟨RX10, "hoursUntil", "(II)I"⟩
abbrev cX10_expected : ByteArray := prog_1_method_24_code
def yX10_expected : MethodName := ⟨RX10, "expected", "(II)I"⟩
abbrev cX10_suspect : ByteArray := prog_1_method_25_code
def yX10_suspect : MethodName := ⟨RX10, "suspect", "(III)I"⟩
abbrev cX10_run : ByteArray := prog_1_method_26_code
def yX10_run : MethodName := ⟨RX10, "run", "(I)I"⟩
abbrev cX10_force : ByteArray := prog_1_method_27_code
def yX10_force : MethodName := ⟨RX10, "force", "(I)I"⟩
abbrev cX10_swapTurns : ByteArray := prog_1_method_28_code
def yX10_swapTurns : MethodName := ⟨RX10, "swapTurns", "(II)I"⟩
abbrev cX10_undo : ByteArray := prog_1_method_29_code
def yX10_undo : MethodName := ⟨RX10, "undo", "()I"⟩
abbrev cX10_checksum : ByteArray := prog_1_method_30_code
def yX10_checksum : MethodName := ⟨RX10, "checksum", "()J"⟩
abbrev cX10_forecastArrivals : ByteArray := prog_1_method_31_code
def yX10_forecastArrivals : MethodName := ⟨RX10, "forecastArrivals", "(III)I"⟩
abbrev cX10_requireIndex : ByteArray := prog_1_method_32_code
def yX10_requireIndex : MethodName := ⟨RX10, "requireIndex", "(II)V"⟩
abbrev cX10_requireRange : ByteArray := prog_1_method_33_code
def yX10_requireRange : MethodName := ⟨RX10, "requireRange", "(III)V"⟩
abbrev cX10_copyRow : ByteArray := prog_1_method_34_code
def yX10_copyRow : MethodName := ⟨RX10, "copyRow", "([I[I)V"⟩
def RX11 : String := "IrrigationTurnsModel"
def TX11 : u_T := fun k => match k with
  | 0 => ("IrrigationTurnsModel", "thrown", "I", false)
  | 1 => ("IrrigationTurnsModel", "buffer", "[I", true)
  | 2 => ("IrrigationTurnsModel", "bufferLength", "I", false)
  | 3 => ("IrrigationTurnsModel", "textLength", "I", false)
  | 4 => ("IrrigationTurnsModel", "position", "I", false)
  | 5 => ("IrrigationTurnsModel", "error", "I", false)
  | 6 => ("IrrigationTurnsModel", "errorAt", "I", false)
  | 7 => ("IrrigationTurnsModel", "errorOffset", "I", false)
  | 8 => ("IrrigationTurnsModel", "data", "[I", true)
  | 9 => ("IrrigationTurnsModel", "draft", "[I", true)
  | 10 => ("IrrigationTurnsModel", "future", "[I", true)
  | 11 => ("IrrigationTurnsModel", "history", "[[I", true)
  | 12 => ("IrrigationTurnsModel", "undoDepth", "I", false)
  | 13 => ("IrrigationTurnsModel", "numberStart", "I", false)
  | 14 => ("IrrigationTurnsModel", "nesting", "I", false)
  | 15 => ("IrrigationTurnsModel", "statements", "I", false)
  | 16 => ("IrrigationTurnsModel", "stack", "[J", true)
  | 17 => ("IrrigationTurnsModel", "isOpen", "[Z", true)
  | _ => ("IrrigationTurnsModel", "leads", "[Z", true)
def tyX11 : Nat → FieldType := fun k => match k with
  | 0 => .int
  | 1 => .array .int
  | 2 => .int
  | 3 => .int
  | 4 => .int
  | 5 => .int
  | 6 => .int
  | 7 => .int
  | 8 => .array .int
  | 9 => .array .int
  | 10 => .array .int
  | 11 => .array (.array .int)
  | 12 => .int
  | 13 => .int
  | 14 => .int
  | 15 => .int
  | 16 => .array .long
  | 17 => .array .boolean
  | _ => .array .boolean
abbrev wsX110 : List Cond := u_ws RX11 TX11 19
theorem nmX11 : ∀ a, a < 19 → ∀ b, b < 19 → a ≠ b → (TX11 a).2.1 ≠ (TX11 b).2.1 := by decide +kernel
theorem tyX11_ok : ∀ k, k < 19 → parseFieldDescriptor (TX11 k).2.2.1 = some (tyX11 k) := by decide +kernel
abbrev cX11_init : ByteArray := prog_13_method_1_code
def yX11_init : MethodName := ⟨RX11, "<init>", "()V"⟩
abbrev cX11_thrown : ByteArray := prog_13_method_2_code
def yX11_thrown : MethodName := ⟨RX11, "thrown", "()I"⟩
abbrev cX11_fails : ByteArray := prog_13_method_3_code
def yX11_fails : MethodName := ⟨RX11, "fails", "(ZI)Z"⟩
abbrev cX11_in : ByteArray := prog_13_method_4_code
def yX11_in : MethodName := ⟨RX11, "in", "(III)Z"⟩
abbrev cX11_min : ByteArray := prog_13_method_5_code
def yX11_min : MethodName := ⟨RX11, "min", "(II)I"⟩
abbrev cX11_copy : ByteArray := prog_13_method_6_code
def yX11_copy : MethodName := ⟨RX11, "copy", "([I[I)V"⟩
abbrev cX11_canal : ByteArray := prog_13_method_7_code
def yX11_canal : MethodName := ⟨RX11, "canal", "(I)I"⟩
abbrev cX11_field : ByteArray := prog_13_method_8_code
def yX11_field : MethodName := ⟨RX11, "field", "(I)I"⟩
abbrev cX11_append : ByteArray := prog_13_method_9_code
def yX11_append : MethodName := ⟨RX11, "append", "(IIIII)I"⟩
abbrev cX11_byteAt : ByteArray := prog_13_method_10_code
def yX11_byteAt : MethodName := ⟨RX11, "byteAt", "(I)I"⟩
abbrev cX11_next : ByteArray := prog_13_method_11_code
def yX11_next : MethodName := ⟨RX11, "next", "()I"⟩
abbrev cX11_isGood : ByteArray := prog_13_method_12_code
def yX11_isGood : MethodName := ⟨RX11, "isGood", "()Z"⟩
abbrev cX11_report : ByteArray := prog_13_method_13_code
def yX11_report : MethodName := ⟨RX11, "report", "(II)V"⟩
abbrev cX11_isDigit : ByteArray := prog_13_method_14_code
def yX11_isDigit : MethodName := ⟨RX11, "isDigit", "(I)Z"⟩
abbrev cX11_takeWord : ByteArray := prog_13_method_15_code
def yX11_takeWord : MethodName := ⟨RX11, "takeWord", "(Ljava/lang/String;)Z"⟩
abbrev cX11_expect : ByteArray := prog_13_method_16_code
def yX11_expect : MethodName := ⟨RX11, "expect", "(I)V"⟩
abbrev cX11_number : ByteArray := prog_13_method_17_code
def yX11_number : MethodName := ⟨RX11, "number", "(II)I"⟩
abbrev cX11_emit : ByteArray := prog_13_method_18_code
def yX11_emit : MethodName := ⟨RX11, "emit", "(I)V"⟩
abbrev cX11_factor : ByteArray := prog_13_method_19_code
def yX11_factor : MethodName := ⟨RX11, "factor", "()V"⟩
abbrev cX11_term : ByteArray := prog_13_method_20_code
def yX11_term : MethodName := ⟨RX11, "term", "()V"⟩
abbrev cX11_sum : ByteArray := prog_13_method_21_code
def yX11_sum : MethodName := ⟨RX11, "sum", "()V"⟩
abbrev cX11_readCanal : ByteArray := prog_13_method_22_code
def yX11_readCanal : MethodName := ⟨RX11, "readCanal", "(I)V"⟩
abbrev cX11_readField : ByteArray := prog_13_method_23_code
def yX11_readField : MethodName := ⟨RX11, "readField", "(I)V"⟩
abbrev cX11_readTurn : ByteArray := prog_13_method_24_code
def yX11_readTurn : MethodName := ⟨RX11, "readTurn", "(I)V"⟩
abbrev cX11_readGuard : ByteArray := prog_13_method_25_code
def yX11_readGuard : MethodName := ⟨RX11, "readGuard", "(I)V"⟩
abbrev cX11_readInflow : ByteArray := prog_13_method_26_code
def yX11_readInflow : MethodName := ⟨RX11, "readInflow", "(I)V"⟩
abbrev cX11_statement : ByteArray := prog_13_method_27_code
def yX11_statement : MethodName := ⟨RX11, "statement", "()V"⟩
abbrev cX11_load : ByteArray := prog_13_method_28_code
def yX11_load : MethodName := ⟨RX11, "load", "(I)I"⟩
abbrev cX11_errorOffset : ByteArray := prog_13_method_29_code
def yX11_errorOffset : MethodName := ⟨RX11, "errorOffset", "()I"⟩
abbrev cX11_cycle : ByteArray := prog_13_method_30_code
def yX11_cycle : MethodName := ⟨RX11, "cycle", "([I)I"⟩
abbrev cX11_turn : ByteArray := prog_13_method_31_code
def yX11_turn : MethodName := ⟨RX11, "turn", "([II)I"⟩
abbrev cX11_limited : ByteArray := prog_13_method_32_code
def yX11_limited : MethodName := ⟨RX11, "limited", "(J)J"⟩
abbrev cX11_operate : ByteArray := prog_13_method_33_code
def yX11_operate : MethodName := ⟨RX11, "operate", "(IJJ)J"⟩
abbrev cX11_inflowOf : ByteArray := prog_13_method_34_code
def yX11_inflowOf : MethodName := ⟨RX11, "inflowOf", "([II)I"⟩
abbrev cX11_canalCount : ByteArray := prog_13_method_35_code
def yX11_canalCount : MethodName := ⟨RX11, "canalCount", "()I"⟩
abbrev cX11_fieldCount : ByteArray := prog_13_method_36_code
def yX11_fieldCount : MethodName := ⟨RX11, "fieldCount", "()I"⟩
abbrev cX11_clock : ByteArray := prog_13_method_37_code
def yX11_clock : MethodName := ⟨RX11, "clock", "()I"⟩
abbrev cX11_cycleLength : ByteArray := prog_13_method_38_code
def yX11_cycleLength : MethodName := ⟨RX11, "cycleLength", "()I"⟩
abbrev cX11_turnAt : ByteArray := prog_13_method_39_code
def yX11_turnAt : MethodName := ⟨RX11, "turnAt", "(I)I"⟩
abbrev cX11_inflow : ByteArray := prog_13_method_40_code
def yX11_inflow : MethodName := ⟨RX11, "inflow", "(I)I"⟩
abbrev cX11_guard : ByteArray := prog_13_method_41_code
def yX11_guard : MethodName := ⟨RX11, "guard", "([I)I"⟩
abbrev cX11_guardAt : ByteArray := prog_13_method_42_code
def yX11_guardAt : MethodName := ⟨RX11, "guardAt", "()I"⟩
abbrev cX11_open : ByteArray := prog_13_method_43_code
def yX11_open : MethodName := ⟨RX11, "open", "([II)Z"⟩
abbrev cX11_findOpen : ByteArray := prog_13_method_44_code
def yX11_findOpen : MethodName := ⟨RX11, "findOpen", "([I)V"⟩
abbrev cX11_enter : ByteArray := prog_13_method_45_code
def yX11_enter : MethodName := ⟨RX11, "enter", "([III)V"⟩
abbrev cX11_irrigate : ByteArray := prog_13_method_46_code
def yX11_irrigate : MethodName := ⟨RX11, "irrigate", "([IIII)I"⟩
abbrev cX11_divide : ByteArray := prog_13_method_47_code
def yX11_divide : MethodName := ⟨RX11, "divide", "([III)V"⟩
abbrev cX11_drain : ByteArray := prog_13_method_48_code
def yX11_drain : MethodName := ⟨RX11, "drain", "([II)V"⟩
abbrev cX11_patrol : ByteArray := prog_13_method_49_code
def yX11_patrol : MethodName := ⟨RX11, "patrol", "([I)V"⟩
abbrev cX11_simulate : ByteArray := prog_13_method_50_code
def yX11_simulate : MethodName := ⟨RX11, "simulate", "([I)V"⟩
abbrev cX11_noCanal : ByteArray := prog_13_method_51_code
def yX11_noCanal : MethodName := ⟨RX11, "noCanal", "(I)Z"⟩
abbrev cX11_noField : ByteArray := prog_13_method_52_code
def yX11_noField : MethodName := ⟨RX11, "noField", "(I)Z"⟩
abbrev cX11_noVillage : ByteArray := prog_13_method_53_code
def yX11_noVillage : MethodName := ⟨RX11, "noVillage", "(I)Z"⟩
abbrev cX11_parent : ByteArray := prog_13_method_54_code
def yX11_parent : MethodName := ⟨RX11, "parent", "(I)I"⟩
abbrev cX11_waterIn : ByteArray := prog_13_method_55_code
def yX11_waterIn : MethodName := ⟨RX11, "waterIn", "(II)I"⟩
abbrev cX11_arrived : ByteArray := prog_13_method_56_code
def yX11_arrived : MethodName := ⟨RX11, "arrived", "(I)I"⟩
abbrev cX11_isOpen : ByteArray := prog_13_method_57_code
def yX11_isOpen : MethodName := ⟨RX11, "isOpen", "(I)Z"⟩
abbrev cX11_isForced : ByteArray := prog_13_method_58_code
def yX11_isForced : MethodName := ⟨RX11, "isForced", "(I)Z"⟩
abbrev cX11_water : ByteArray := prog_13_method_59_code
def yX11_water : MethodName := ⟨RX11, "water", "(I)I"⟩
abbrev cX11_taken : ByteArray := prog_13_method_60_code
def yX11_taken : MethodName := ⟨RX11, "taken", "(I)I"⟩
abbrev cX11_stolen : ByteArray := prog_13_method_61_code
def yX11_stolen : MethodName := ⟨RX11, "stolen", "(I)I"⟩
abbrev cX11_fines : ByteArray := prog_13_method_62_code
def yX11_fines : MethodName := ⟨RX11, "fines", "(I)I"⟩
abbrev cX11_total : ByteArray := prog_13_method_63_code
def yX11_total : MethodName := ⟨RX11, "total", "(I)J"⟩
abbrev cX11_demand : ByteArray := prog_13_method_64_code
def yX11_demand : MethodName := ⟨RX11, "demand", "(I)I"⟩
abbrev cX11_fairHours : ByteArray := prog_13_method_65_code
def yX11_fairHours : MethodName := ⟨RX11, "fairHours", "(II)I"⟩
abbrev cX11_hoursUntil : ByteArray := prog_13_method_66_code
def yX11_hoursUntil : MethodName := ⟨RX11, "hoursUntil", "(II)I"⟩
abbrev cX11_arrives : ByteArray := prog_13_method_67_code
def yX11_arrives : MethodName := ⟨RX11, "arrives", "(II)I"⟩
abbrev cX11_expected : ByteArray := prog_13_method_68_code
def yX11_expected : MethodName := ⟨RX11, "expected", "(II)I"⟩
abbrev cX11_suspect : ByteArray := prog_13_method_69_code
def yX11_suspect : MethodName := ⟨RX11, "suspect", "(III)I"⟩
abbrev cX11_remember : ByteArray := prog_13_method_70_code
def yX11_remember : MethodName := ⟨RX11, "remember", "()V"⟩
abbrev cX11_takenByAll : ByteArray := prog_13_method_71_code
def yX11_takenByAll : MethodName := ⟨RX11, "takenByAll", "()I"⟩
abbrev cX11_run : ByteArray := prog_13_method_72_code
def yX11_run : MethodName := ⟨RX11, "run", "(I)I"⟩
abbrev cX11_force : ByteArray := prog_13_method_73_code
def yX11_force : MethodName := ⟨RX11, "force", "(I)I"⟩
abbrev cX11_swapTurns : ByteArray := prog_13_method_74_code
def yX11_swapTurns : MethodName := ⟨RX11, "swapTurns", "(II)I"⟩
abbrev cX11_undo : ByteArray := prog_13_method_75_code
def yX11_undo : MethodName := ⟨RX11, "undo", "()I"⟩
abbrev cX11_checksum : ByteArray := prog_13_method_76_code
def yX11_checksum : MethodName := ⟨RX11, "checksum", "()J"⟩
def RL : String := "IrrigationTurnsLaw"
abbrev cL_load : ByteArray := method_3_code
def yL_load : MethodName := ⟨RL, "load", "(LIrrigationTurns;I[J)I"⟩
abbrev cL_turnAt : ByteArray := method_4_code
def yL_turnAt : MethodName := ⟨RL, "turnAt", "(LIrrigationTurns;I[J)I"⟩
abbrev cL_inflow : ByteArray := method_5_code
def yL_inflow : MethodName := ⟨RL, "inflow", "(LIrrigationTurns;I[J)I"⟩
abbrev cL_parent : ByteArray := method_6_code
def yL_parent : MethodName := ⟨RL, "parent", "(LIrrigationTurns;I[J)I"⟩
abbrev cL_waterIn : ByteArray := method_7_code
def yL_waterIn : MethodName := ⟨RL, "waterIn", "(LIrrigationTurns;II[J)I"⟩
abbrev cL_arrived : ByteArray := method_8_code
def yL_arrived : MethodName := ⟨RL, "arrived", "(LIrrigationTurns;I[J)I"⟩
abbrev cL_isOpen : ByteArray := method_9_code
def yL_isOpen : MethodName := ⟨RL, "isOpen", "(LIrrigationTurns;I[J)I"⟩
abbrev cL_isForced : ByteArray := method_10_code
def yL_isForced : MethodName := ⟨RL, "isForced", "(LIrrigationTurns;I[J)I"⟩
abbrev cL_water : ByteArray := method_11_code
def yL_water : MethodName := ⟨RL, "water", "(LIrrigationTurns;I[J)I"⟩
abbrev cL_taken : ByteArray := method_12_code
def yL_taken : MethodName := ⟨RL, "taken", "(LIrrigationTurns;I[J)I"⟩
abbrev cL_stolen : ByteArray := method_13_code
def yL_stolen : MethodName := ⟨RL, "stolen", "(LIrrigationTurns;I[J)I"⟩
abbrev cL_fines : ByteArray := method_14_code
def yL_fines : MethodName := ⟨RL, "fines", "(LIrrigationTurns;I[J)I"⟩
abbrev cL_total : ByteArray := method_15_code
def yL_total : MethodName := ⟨RL, "total", "(LIrrigationTurns;I[J)I"⟩
abbrev cL_fairHours : ByteArray := method_16_code
def yL_fairHours : MethodName := ⟨RL, "fairHours", "(LIrrigationTurns;II[J)I"⟩
abbrev cL_hoursUntil : ByteArray := method_17_code
def yL_hoursUntil : MethodName := ⟨RL, "hoursUntil", "(LIrrigationTurns;II[J)I"⟩
abbrev cL_expected : ByteArray := method_18_code
def yL_expected : MethodName := ⟨RL, "expected", "(LIrrigationTurns;II[J)I"⟩
abbrev cL_suspect : ByteArray := method_19_code
def yL_suspect : MethodName := ⟨RL, "suspect", "(LIrrigationTurns;III[J)I"⟩
abbrev cL_run : ByteArray := method_20_code
def yL_run : MethodName := ⟨RL, "run", "(LIrrigationTurns;I[J)I"⟩
abbrev cL_force : ByteArray := method_21_code
def yL_force : MethodName := ⟨RL, "force", "(LIrrigationTurns;I[J)I"⟩
abbrev cL_swapTurns : ByteArray := method_22_code
def yL_swapTurns : MethodName := ⟨RL, "swapTurns", "(LIrrigationTurns;II[J)I"⟩
abbrev cL_law : ByteArray := code
def yL_law : MethodName := ⟨RL, "law", "([I)Z"⟩
abbrev vwCl : List vw_C := [(RX0, TX0, 9), (RX1, TX1, 12), (RX2, TX2, 3), (RX3, TX3, 3), (RX4, TX4, 3), (RX5, TX5, 5), (RX6, TX6, 4), (RX7, TX7, 5), (RX8, TX8, 7), (RX9, TX9, 7), (RX10, TX10, 5), (RX11, TX11, 19)]
