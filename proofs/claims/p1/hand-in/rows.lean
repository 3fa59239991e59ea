section
-- ===== PART A: goes FIRST, ahead of the names: the tables' words, and 'selects' of the private methods out of them =====
/-- a private method of a class that the tables say can be made, by its rows of tables_1 -/
def lw_okq (q : MethodName × Nat) : Prop := (q.1.cls ≠ "java/lang/invoke/MethodHandle" ∧ q.1.cls ≠ "java/lang/invoke/VarHandle") ∧ Cond.instantiable q.1.cls q.2 ∈ tables_1 ∧ Cond.privateMethod q.1 ∈ tables_1 ∧ Cond.instanceMethod q.1 ∈ tables_1
theorem lw_p0 : lw_okq (⟨"HireYard$Roads", "shorten", "(IIIII)V"⟩, 4) := ⟨⟨by decide +kernel, by decide +kernel⟩, List.mem_of_getElem? (i := 30) (by decide +kernel), List.mem_of_getElem? (i := 283) (by decide +kernel), List.mem_of_getElem? (i := 284) (by decide +kernel)⟩
theorem lw_p1 : lw_okq (⟨"HireYard", "machineOf", "(I)LHireYard$Machine;"⟩, 18) := ⟨⟨by decide +kernel, by decide +kernel⟩, List.mem_of_getElem? (i := 22) (by decide +kernel), List.mem_of_getElem? (i := 299) (by decide +kernel), List.mem_of_getElem? (i := 300) (by decide +kernel)⟩
theorem lw_p2 : lw_okq (⟨"HireYard", "kindOf", "(I)LHireYard$Kind;"⟩, 18) := ⟨⟨by decide +kernel, by decide +kernel⟩, List.mem_of_getElem? (i := 22) (by decide +kernel), List.mem_of_getElem? (i := 359) (by decide +kernel), List.mem_of_getElem? (i := 360) (by decide +kernel)⟩
theorem lw_p3 : lw_okq (⟨"HireYard$Meter", "toldAt", "(I)Z"⟩, 4) := ⟨⟨by decide +kernel, by decide +kernel⟩, List.mem_of_getElem? (i := 380) (by decide +kernel), List.mem_of_getElem? (i := 566) (by decide +kernel), List.mem_of_getElem? (i := 567) (by decide +kernel)⟩
theorem lw_p4 : lw_okq (⟨"HireYard$Meter", "grow", "()V"⟩, 4) := ⟨⟨by decide +kernel, by decide +kernel⟩, List.mem_of_getElem? (i := 380) (by decide +kernel), List.mem_of_getElem? (i := 574) (by decide +kernel), List.mem_of_getElem? (i := 575) (by decide +kernel)⟩
theorem lw_p5 : lw_okq (⟨"HireYard$Log", "elsewhere", "(LHireYard$Machine;)I"⟩, 8) := ⟨⟨by decide +kernel, by decide +kernel⟩, List.mem_of_getElem? (i := 60) (by decide +kernel), List.mem_of_getElem? (i := 610) (by decide +kernel), List.mem_of_getElem? (i := 611) (by decide +kernel)⟩
theorem lw_p6 : lw_okq (⟨"HireYard$Log", "countsFor", "(LHireYard$Machine;I)Z"⟩, 8) := ⟨⟨by decide +kernel, by decide +kernel⟩, List.mem_of_getElem? (i := 60) (by decide +kernel), List.mem_of_getElem? (i := 614) (by decide +kernel), List.mem_of_getElem? (i := 615) (by decide +kernel)⟩
theorem lw_p7 : lw_okq (⟨"HireYard", "isCustomer", "(I)Z"⟩, 18) := ⟨⟨by decide +kernel, by decide +kernel⟩, List.mem_of_getElem? (i := 22) (by decide +kernel), List.mem_of_getElem? (i := 630) (by decide +kernel), List.mem_of_getElem? (i := 631) (by decide +kernel)⟩
theorem lw_p8 : lw_okq (⟨"HireYard", "orderOf", "(I)LHireYard$Order;"⟩, 18) := ⟨⟨by decide +kernel, by decide +kernel⟩, List.mem_of_getElem? (i := 22) (by decide +kernel), List.mem_of_getElem? (i := 716) (by decide +kernel), List.mem_of_getElem? (i := 717) (by decide +kernel)⟩
theorem lw_p9 : lw_okq (⟨"HireYard$Match", "isListed", "(LHireYard$Order;)Z"⟩, 5) := ⟨⟨by decide +kernel, by decide +kernel⟩, List.mem_of_getElem? (i := 92) (by decide +kernel), List.mem_of_getElem? (i := 749) (by decide +kernel), List.mem_of_getElem? (i := 750) (by decide +kernel)⟩
theorem lw_p10 : lw_okq (⟨"HireYard$Match", "leastCost", "()J"⟩, 5) := ⟨⟨by decide +kernel, by decide +kernel⟩, List.mem_of_getElem? (i := 92) (by decide +kernel), List.mem_of_getElem? (i := 785) (by decide +kernel), List.mem_of_getElem? (i := 786) (by decide +kernel)⟩
theorem lw_p11 : lw_okq (⟨"HireYard$Lorry", "dropOthers", "()V"⟩, 5) := ⟨⟨by decide +kernel, by decide +kernel⟩, List.mem_of_getElem? (i := 118) (by decide +kernel), List.mem_of_getElem? (i := 808) (by decide +kernel), List.mem_of_getElem? (i := 809) (by decide +kernel)⟩
theorem lw_p12 : lw_okq (⟨"HireYard$Lorry", "weight", "(I)I"⟩, 5) := ⟨⟨by decide +kernel, by decide +kernel⟩, List.mem_of_getElem? (i := 118) (by decide +kernel), List.mem_of_getElem? (i := 815) (by decide +kernel), List.mem_of_getElem? (i := 816) (by decide +kernel)⟩
theorem lw_p13 : lw_okq (⟨"HireYard$Lorry", "sortByNumber", "(I)V"⟩, 5) := ⟨⟨by decide +kernel, by decide +kernel⟩, List.mem_of_getElem? (i := 118) (by decide +kernel), List.mem_of_getElem? (i := 819) (by decide +kernel), List.mem_of_getElem? (i := 820) (by decide +kernel)⟩
theorem lw_p14 : lw_okq (⟨"HireYard$Lorry", "rowMiles", "(LHireYard$Roads;II)I"⟩, 5) := ⟨⟨by decide +kernel, by decide +kernel⟩, List.mem_of_getElem? (i := 118) (by decide +kernel), List.mem_of_getElem? (i := 823) (by decide +kernel), List.mem_of_getElem? (i := 824) (by decide +kernel)⟩
theorem lw_p15 : lw_okq (⟨"HireYard$Lorry", "customerTown", "(I)I"⟩, 5) := ⟨⟨by decide +kernel, by decide +kernel⟩, List.mem_of_getElem? (i := 118) (by decide +kernel), List.mem_of_getElem? (i := 827) (by decide +kernel), List.mem_of_getElem? (i := 828) (by decide +kernel)⟩
def lw_privs_1 : List (MethodName × Nat) := [(⟨"HireYard$Roads", "shorten", "(IIIII)V"⟩, 4), (⟨"HireYard", "machineOf", "(I)LHireYard$Machine;"⟩, 18), (⟨"HireYard", "kindOf", "(I)LHireYard$Kind;"⟩, 18), (⟨"HireYard$Meter", "toldAt", "(I)Z"⟩, 4), (⟨"HireYard$Meter", "grow", "()V"⟩, 4), (⟨"HireYard$Log", "elsewhere", "(LHireYard$Machine;)I"⟩, 8), (⟨"HireYard$Log", "countsFor", "(LHireYard$Machine;I)Z"⟩, 8), (⟨"HireYard", "isCustomer", "(I)Z"⟩, 18), (⟨"HireYard", "orderOf", "(I)LHireYard$Order;"⟩, 18), (⟨"HireYard$Match", "isListed", "(LHireYard$Order;)Z"⟩, 5), (⟨"HireYard$Match", "leastCost", "()J"⟩, 5), (⟨"HireYard$Lorry", "dropOthers", "()V"⟩, 5), (⟨"HireYard$Lorry", "weight", "(I)I"⟩, 5), (⟨"HireYard$Lorry", "sortByNumber", "(I)V"⟩, 5), (⟨"HireYard$Lorry", "rowMiles", "(LHireYard$Roads;II)I"⟩, 5), (⟨"HireYard$Lorry", "customerTown", "(I)I"⟩, 5)]
theorem lw_r1 : ∀ q ∈ lw_privs_1, lw_okq q := List.forall_mem_cons.mpr ⟨lw_p0, List.forall_mem_cons.mpr ⟨lw_p1, List.forall_mem_cons.mpr ⟨lw_p2, List.forall_mem_cons.mpr ⟨lw_p3, List.forall_mem_cons.mpr ⟨lw_p4, List.forall_mem_cons.mpr ⟨lw_p5, List.forall_mem_cons.mpr ⟨lw_p6, List.forall_mem_cons.mpr ⟨lw_p7, List.forall_mem_cons.mpr ⟨lw_p8, List.forall_mem_cons.mpr ⟨lw_p9, List.forall_mem_cons.mpr ⟨lw_p10, List.forall_mem_cons.mpr ⟨lw_p11, List.forall_mem_cons.mpr ⟨lw_p12, List.forall_mem_cons.mpr ⟨lw_p13, List.forall_mem_cons.mpr ⟨lw_p14, List.forall_mem_cons.mpr ⟨lw_p15, fun _ h => absurd h List.not_mem_nil⟩⟩⟩⟩⟩⟩⟩⟩⟩⟩⟩⟩⟩⟩⟩⟩
theorem lw_p16 : lw_okq (⟨"HireYard$Lorry", "keepRow", "(I)V"⟩, 5) := ⟨⟨by decide +kernel, by decide +kernel⟩, List.mem_of_getElem? (i := 118) (by decide +kernel), List.mem_of_getElem? (i := 832) (by decide +kernel), List.mem_of_getElem? (i := 833) (by decide +kernel)⟩
theorem lw_p17 : lw_okq (⟨"HireYard$Lorry", "nextTurn", "(I)Z"⟩, 5) := ⟨⟨by decide +kernel, by decide +kernel⟩, List.mem_of_getElem? (i := 118) (by decide +kernel), List.mem_of_getElem? (i := 836) (by decide +kernel), List.mem_of_getElem? (i := 837) (by decide +kernel)⟩
theorem lw_p18 : lw_okq (⟨"HireYard$Lorry", "swapTurns", "(II)V"⟩, 5) := ⟨⟨by decide +kernel, by decide +kernel⟩, List.mem_of_getElem? (i := 118) (by decide +kernel), List.mem_of_getElem? (i := 840) (by decide +kernel), List.mem_of_getElem? (i := 841) (by decide +kernel)⟩
theorem lw_p19 : lw_okq (⟨"HireYard$Lorry", "joins", "(LHireYard$Machine;)Z"⟩, 5) := ⟨⟨by decide +kernel, by decide +kernel⟩, List.mem_of_getElem? (i := 118) (by decide +kernel), List.mem_of_getElem? (i := 852) (by decide +kernel), List.mem_of_getElem? (i := 853) (by decide +kernel)⟩
theorem lw_p20 : lw_okq (⟨"HireYard", "begunOrder", "(I)LHireYard$Order;"⟩, 18) := ⟨⟨by decide +kernel, by decide +kernel⟩, List.mem_of_getElem? (i := 22) (by decide +kernel), List.mem_of_getElem? (i := 897) (by decide +kernel), List.mem_of_getElem? (i := 898) (by decide +kernel)⟩
theorem lw_p21 : lw_okq (⟨"HireYard$Tape", "cut", "()V"⟩, 10) := ⟨⟨by decide +kernel, by decide +kernel⟩, List.mem_of_getElem? (i := 141) (by decide +kernel), List.mem_of_getElem? (i := 966) (by decide +kernel), List.mem_of_getElem? (i := 967) (by decide +kernel)⟩
theorem lw_p22 : lw_okq (⟨"HireYard$Tape", "isLetter", "(I)Z"⟩, 10) := ⟨⟨by decide +kernel, by decide +kernel⟩, List.mem_of_getElem? (i := 141) (by decide +kernel), List.mem_of_getElem? (i := 970) (by decide +kernel), List.mem_of_getElem? (i := 971) (by decide +kernel)⟩
theorem lw_p23 : lw_okq (⟨"HireYard$Tape", "wordSort", "(II)I"⟩, 10) := ⟨⟨by decide +kernel, by decide +kernel⟩, List.mem_of_getElem? (i := 141) (by decide +kernel), List.mem_of_getElem? (i := 974) (by decide +kernel), List.mem_of_getElem? (i := 975) (by decide +kernel)⟩
theorem lw_p24 : lw_okq (⟨"HireYard$Tape", "addToken", "(III)V"⟩, 10) := ⟨⟨by decide +kernel, by decide +kernel⟩, List.mem_of_getElem? (i := 141) (by decide +kernel), List.mem_of_getElem? (i := 1027) (by decide +kernel), List.mem_of_getElem? (i := 1028) (by decide +kernel)⟩
theorem lw_p25 : lw_okq (⟨"HireYard$Tape", "isDigit", "(I)Z"⟩, 10) := ⟨⟨by decide +kernel, by decide +kernel⟩, List.mem_of_getElem? (i := 141) (by decide +kernel), List.mem_of_getElem? (i := 1031) (by decide +kernel), List.mem_of_getElem? (i := 1032) (by decide +kernel)⟩
theorem lw_p26 : lw_okq (⟨"HireYard$Tape", "numberOf", "(II)I"⟩, 10) := ⟨⟨by decide +kernel, by decide +kernel⟩, List.mem_of_getElem? (i := 141) (by decide +kernel), List.mem_of_getElem? (i := 1035) (by decide +kernel), List.mem_of_getElem? (i := 1036) (by decide +kernel)⟩
theorem lw_p27 : lw_okq (⟨"HireYard$Tape", "step", "()V"⟩, 10) := ⟨⟨by decide +kernel, by decide +kernel⟩, List.mem_of_getElem? (i := 141) (by decide +kernel), List.mem_of_getElem? (i := 1039) (by decide +kernel), List.mem_of_getElem? (i := 1040) (by decide +kernel)⟩
theorem lw_p28 : lw_okq (⟨"HireYard$Tape", "take", "(I)Z"⟩, 10) := ⟨⟨by decide +kernel, by decide +kernel⟩, List.mem_of_getElem? (i := 141) (by decide +kernel), List.mem_of_getElem? (i := 1044) (by decide +kernel), List.mem_of_getElem? (i := 1045) (by decide +kernel)⟩
theorem lw_p29 : lw_okq (⟨"HireYard$Tape", "sort", "()I"⟩, 10) := ⟨⟨by decide +kernel, by decide +kernel⟩, List.mem_of_getElem? (i := 141) (by decide +kernel), List.mem_of_getElem? (i := 1048) (by decide +kernel), List.mem_of_getElem? (i := 1049) (by decide +kernel)⟩
theorem lw_p30 : lw_okq (⟨"HireYard$Tape", "number", "()I"⟩, 10) := ⟨⟨by decide +kernel, by decide +kernel⟩, List.mem_of_getElem? (i := 141) (by decide +kernel), List.mem_of_getElem? (i := 1052) (by decide +kernel), List.mem_of_getElem? (i := 1053) (by decide +kernel)⟩
theorem lw_p31 : lw_okq (⟨"HireYard$Tape", "fail", "()V"⟩, 10) := ⟨⟨by decide +kernel, by decide +kernel⟩, List.mem_of_getElem? (i := 141) (by decide +kernel), List.mem_of_getElem? (i := 1056) (by decide +kernel), List.mem_of_getElem? (i := 1057) (by decide +kernel)⟩
def lw_privs_2 : List (MethodName × Nat) := [(⟨"HireYard$Lorry", "keepRow", "(I)V"⟩, 5), (⟨"HireYard$Lorry", "nextTurn", "(I)Z"⟩, 5), (⟨"HireYard$Lorry", "swapTurns", "(II)V"⟩, 5), (⟨"HireYard$Lorry", "joins", "(LHireYard$Machine;)Z"⟩, 5), (⟨"HireYard", "begunOrder", "(I)LHireYard$Order;"⟩, 18), (⟨"HireYard$Tape", "cut", "()V"⟩, 10), (⟨"HireYard$Tape", "isLetter", "(I)Z"⟩, 10), (⟨"HireYard$Tape", "wordSort", "(II)I"⟩, 10), (⟨"HireYard$Tape", "addToken", "(III)V"⟩, 10), (⟨"HireYard$Tape", "isDigit", "(I)Z"⟩, 10), (⟨"HireYard$Tape", "numberOf", "(II)I"⟩, 10), (⟨"HireYard$Tape", "step", "()V"⟩, 10), (⟨"HireYard$Tape", "take", "(I)Z"⟩, 10), (⟨"HireYard$Tape", "sort", "()I"⟩, 10), (⟨"HireYard$Tape", "number", "()I"⟩, 10), (⟨"HireYard$Tape", "fail", "()V"⟩, 10)]
theorem lw_r2 : ∀ q ∈ lw_privs_2, lw_okq q := List.forall_mem_cons.mpr ⟨lw_p16, List.forall_mem_cons.mpr ⟨lw_p17, List.forall_mem_cons.mpr ⟨lw_p18, List.forall_mem_cons.mpr ⟨lw_p19, List.forall_mem_cons.mpr ⟨lw_p20, List.forall_mem_cons.mpr ⟨lw_p21, List.forall_mem_cons.mpr ⟨lw_p22, List.forall_mem_cons.mpr ⟨lw_p23, List.forall_mem_cons.mpr ⟨lw_p24, List.forall_mem_cons.mpr ⟨lw_p25, List.forall_mem_cons.mpr ⟨lw_p26, List.forall_mem_cons.mpr ⟨lw_p27, List.forall_mem_cons.mpr ⟨lw_p28, List.forall_mem_cons.mpr ⟨lw_p29, List.forall_mem_cons.mpr ⟨lw_p30, List.forall_mem_cons.mpr ⟨lw_p31, fun _ h => absurd h List.not_mem_nil⟩⟩⟩⟩⟩⟩⟩⟩⟩⟩⟩⟩⟩⟩⟩⟩
theorem lw_p32 : lw_okq (⟨"HireYard$Tape", "need", "(I)V"⟩, 10) := ⟨⟨by decide +kernel, by decide +kernel⟩, List.mem_of_getElem? (i := 141) (by decide +kernel), List.mem_of_getElem? (i := 1060) (by decide +kernel), List.mem_of_getElem? (i := 1061) (by decide +kernel)⟩
theorem lw_p33 : lw_okq (⟨"HireYard$Tape", "emit", "(I)V"⟩, 10) := ⟨⟨by decide +kernel, by decide +kernel⟩, List.mem_of_getElem? (i := 141) (by decide +kernel), List.mem_of_getElem? (i := 1064) (by decide +kernel), List.mem_of_getElem? (i := 1065) (by decide +kernel)⟩
theorem lw_p34 : lw_okq (⟨"HireYard$Tape", "sum", "(I)V"⟩, 10) := ⟨⟨by decide +kernel, by decide +kernel⟩, List.mem_of_getElem? (i := 141) (by decide +kernel), List.mem_of_getElem? (i := 1068) (by decide +kernel), List.mem_of_getElem? (i := 1069) (by decide +kernel)⟩
theorem lw_p35 : lw_okq (⟨"HireYard$Tape", "product", "(I)V"⟩, 10) := ⟨⟨by decide +kernel, by decide +kernel⟩, List.mem_of_getElem? (i := 141) (by decide +kernel), List.mem_of_getElem? (i := 1072) (by decide +kernel), List.mem_of_getElem? (i := 1073) (by decide +kernel)⟩
theorem lw_p36 : lw_okq (⟨"HireYard$Tape", "operand", "(I)V"⟩, 10) := ⟨⟨by decide +kernel, by decide +kernel⟩, List.mem_of_getElem? (i := 141) (by decide +kernel), List.mem_of_getElem? (i := 1076) (by decide +kernel), List.mem_of_getElem? (i := 1077) (by decide +kernel)⟩
theorem lw_p37 : lw_okq (⟨"HireYard", "learn", "(LHireYard$Order;)V"⟩, 18) := ⟨⟨by decide +kernel, by decide +kernel⟩, List.mem_of_getElem? (i := 22) (by decide +kernel), List.mem_of_getElem? (i := 1118) (by decide +kernel), List.mem_of_getElem? (i := 1119) (by decide +kernel)⟩
theorem lw_p38 : lw_okq (⟨"HireYard$Terms", "run", "(II[I[I)I"⟩, 4) := ⟨⟨by decide +kernel, by decide +kernel⟩, List.mem_of_getElem? (i := 1080) (by decide +kernel), List.mem_of_getElem? (i := 1179) (by decide +kernel), List.mem_of_getElem? (i := 1180) (by decide +kernel)⟩
theorem lw_p39 : lw_okq (⟨"HireYard", "priceOf", "(LHireYard$Order;I)I"⟩, 18) := ⟨⟨by decide +kernel, by decide +kernel⟩, List.mem_of_getElem? (i := 22) (by decide +kernel), List.mem_of_getElem? (i := 1205) (by decide +kernel), List.mem_of_getElem? (i := 1206) (by decide +kernel)⟩
theorem lw_p40 : lw_okq (⟨"HireYard$Order", "mayTell", "(I)Z"⟩, 16) := ⟨⟨by decide +kernel, by decide +kernel⟩, List.mem_of_getElem? (i := 633) (by decide +kernel), List.mem_of_getElem? (i := 1219) (by decide +kernel), List.mem_of_getElem? (i := 1220) (by decide +kernel)⟩
theorem lw_p41 : lw_okq (⟨"HireYard", "idleIn", "(LHireYard$Kind;I)I"⟩, 18) := ⟨⟨by decide +kernel, by decide +kernel⟩, List.mem_of_getElem? (i := 22) (by decide +kernel), List.mem_of_getElem? (i := 1258) (by decide +kernel), List.mem_of_getElem? (i := 1259) (by decide +kernel)⟩
theorem lw_p42 : lw_okq (⟨"HireYard", "wantedIn", "(LHireYard$Kind;I)I"⟩, 18) := ⟨⟨by decide +kernel, by decide +kernel⟩, List.mem_of_getElem? (i := 22) (by decide +kernel), List.mem_of_getElem? (i := 1262) (by decide +kernel), List.mem_of_getElem? (i := 1263) (by decide +kernel)⟩
theorem lw_p43 : lw_okq (⟨"HireYard", "machinesThatAre", "(I)I"⟩, 18) := ⟨⟨by decide +kernel, by decide +kernel⟩, List.mem_of_getElem? (i := 22) (by decide +kernel), List.mem_of_getElem? (i := 1274) (by decide +kernel), List.mem_of_getElem? (i := 1275) (by decide +kernel)⟩
theorem lw_p44 : lw_okq (⟨"HireYard", "ordersThatAre", "(I)I"⟩, 18) := ⟨⟨by decide +kernel, by decide +kernel⟩, List.mem_of_getElem? (i := 22) (by decide +kernel), List.mem_of_getElem? (i := 1278) (by decide +kernel), List.mem_of_getElem? (i := 1279) (by decide +kernel)⟩
theorem lw_p45 : lw_okq (⟨"HireYardModel", "findFars", "()V"⟩, 97) := ⟨⟨by decide +kernel, by decide +kernel⟩, List.mem_of_getElem? (i := 1282) (by decide +kernel), List.mem_of_getElem? (i := 1586) (by decide +kernel), List.mem_of_getElem? (i := 1587) (by decide +kernel)⟩
theorem lw_p46 : lw_okq (⟨"HireYardModel", "farOf", "(II)I"⟩, 97) := ⟨⟨by decide +kernel, by decide +kernel⟩, List.mem_of_getElem? (i := 1282) (by decide +kernel), List.mem_of_getElem? (i := 1591) (by decide +kernel), List.mem_of_getElem? (i := 1592) (by decide +kernel)⟩
theorem lw_p47 : lw_okq (⟨"HireYardModel", "isTown", "(I)Z"⟩, 97) := ⟨⟨by decide +kernel, by decide +kernel⟩, List.mem_of_getElem? (i := 1282) (by decide +kernel), List.mem_of_getElem? (i := 1599) (by decide +kernel), List.mem_of_getElem? (i := 1600) (by decide +kernel)⟩
def lw_privs_3 : List (MethodName × Nat) := [(⟨"HireYard$Tape", "need", "(I)V"⟩, 10), (⟨"HireYard$Tape", "emit", "(I)V"⟩, 10), (⟨"HireYard$Tape", "sum", "(I)V"⟩, 10), (⟨"HireYard$Tape", "product", "(I)V"⟩, 10), (⟨"HireYard$Tape", "operand", "(I)V"⟩, 10), (⟨"HireYard", "learn", "(LHireYard$Order;)V"⟩, 18), (⟨"HireYard$Terms", "run", "(II[I[I)I"⟩, 4), (⟨"HireYard", "priceOf", "(LHireYard$Order;I)I"⟩, 18), (⟨"HireYard$Order", "mayTell", "(I)Z"⟩, 16), (⟨"HireYard", "idleIn", "(LHireYard$Kind;I)I"⟩, 18), (⟨"HireYard", "wantedIn", "(LHireYard$Kind;I)I"⟩, 18), (⟨"HireYard", "machinesThatAre", "(I)I"⟩, 18), (⟨"HireYard", "ordersThatAre", "(I)I"⟩, 18), (⟨"HireYardModel", "findFars", "()V"⟩, 97), (⟨"HireYardModel", "farOf", "(II)I"⟩, 97), (⟨"HireYardModel", "isTown", "(I)Z"⟩, 97)]
theorem lw_r3 : ∀ q ∈ lw_privs_3, lw_okq q := List.forall_mem_cons.mpr ⟨lw_p32, List.forall_mem_cons.mpr ⟨lw_p33, List.forall_mem_cons.mpr ⟨lw_p34, List.forall_mem_cons.mpr ⟨lw_p35, List.forall_mem_cons.mpr ⟨lw_p36, List.forall_mem_cons.mpr ⟨lw_p37, List.forall_mem_cons.mpr ⟨lw_p38, List.forall_mem_cons.mpr ⟨lw_p39, List.forall_mem_cons.mpr ⟨lw_p40, List.forall_mem_cons.mpr ⟨lw_p41, List.forall_mem_cons.mpr ⟨lw_p42, List.forall_mem_cons.mpr ⟨lw_p43, List.forall_mem_cons.mpr ⟨lw_p44, List.forall_mem_cons.mpr ⟨lw_p45, List.forall_mem_cons.mpr ⟨lw_p46, List.forall_mem_cons.mpr ⟨lw_p47, fun _ h => absurd h List.not_mem_nil⟩⟩⟩⟩⟩⟩⟩⟩⟩⟩⟩⟩⟩⟩⟩⟩
theorem lw_p48 : lw_okq (⟨"HireYardModel", "isType", "(I)Z"⟩, 97) := ⟨⟨by decide +kernel, by decide +kernel⟩, List.mem_of_getElem? (i := 1282) (by decide +kernel), List.mem_of_getElem? (i := 1623) (by decide +kernel), List.mem_of_getElem? (i := 1624) (by decide +kernel)⟩
theorem lw_p49 : lw_okq (⟨"HireYardModel", "addReading", "(II)V"⟩, 97) := ⟨⟨by decide +kernel, by decide +kernel⟩, List.mem_of_getElem? (i := 1282) (by decide +kernel), List.mem_of_getElem? (i := 1635) (by decide +kernel), List.mem_of_getElem? (i := 1636) (by decide +kernel)⟩
theorem lw_p50 : lw_okq (⟨"HireYardModel", "isMachine", "(I)Z"⟩, 97) := ⟨⟨by decide +kernel, by decide +kernel⟩, List.mem_of_getElem? (i := 1282) (by decide +kernel), List.mem_of_getElem? (i := 1643) (by decide +kernel), List.mem_of_getElem? (i := 1644) (by decide +kernel)⟩
theorem lw_p51 : lw_okq (⟨"HireYardModel", "sinceLook", "(I)I"⟩, 97) := ⟨⟨by decide +kernel, by decide +kernel⟩, List.mem_of_getElem? (i := 1282) (by decide +kernel), List.mem_of_getElem? (i := 1652) (by decide +kernel), List.mem_of_getElem? (i := 1653) (by decide +kernel)⟩
theorem lw_p52 : lw_okq (⟨"HireYardModel", "isFree", "(I)Z"⟩, 97) := ⟨⟨by decide +kernel, by decide +kernel⟩, List.mem_of_getElem? (i := 1282) (by decide +kernel), List.mem_of_getElem? (i := 1660) (by decide +kernel), List.mem_of_getElem? (i := 1661) (by decide +kernel)⟩
theorem lw_p53 : lw_okq (⟨"HireYardModel", "endSpan", "(I)V"⟩, 97) := ⟨⟨by decide +kernel, by decide +kernel⟩, List.mem_of_getElem? (i := 1282) (by decide +kernel), List.mem_of_getElem? (i := 1668) (by decide +kernel), List.mem_of_getElem? (i := 1669) (by decide +kernel)⟩
theorem lw_p54 : lw_okq (⟨"HireYardModel", "hasBegun", "(I)Z"⟩, 97) := ⟨⟨by decide +kernel, by decide +kernel⟩, List.mem_of_getElem? (i := 1282) (by decide +kernel), List.mem_of_getElem? (i := 1676) (by decide +kernel), List.mem_of_getElem? (i := 1677) (by decide +kernel)⟩
theorem lw_p55 : lw_okq (⟨"HireYardModel", "readBy", "(II)I"⟩, 97) := ⟨⟨by decide +kernel, by decide +kernel⟩, List.mem_of_getElem? (i := 1282) (by decide +kernel), List.mem_of_getElem? (i := 1684) (by decide +kernel), List.mem_of_getElem? (i := 1685) (by decide +kernel)⟩
theorem lw_p56 : lw_okq (⟨"HireYardModel", "arrive", "(I)V"⟩, 97) := ⟨⟨by decide +kernel, by decide +kernel⟩, List.mem_of_getElem? (i := 1282) (by decide +kernel), List.mem_of_getElem? (i := 1700) (by decide +kernel), List.mem_of_getElem? (i := 1701) (by decide +kernel)⟩
theorem lw_p57 : lw_okq (⟨"HireYardModel", "isCustomer", "(I)Z"⟩, 97) := ⟨⟨by decide +kernel, by decide +kernel⟩, List.mem_of_getElem? (i := 1282) (by decide +kernel), List.mem_of_getElem? (i := 1712) (by decide +kernel), List.mem_of_getElem? (i := 1713) (by decide +kernel)⟩
theorem lw_p58 : lw_okq (⟨"HireYardModel", "isOrder", "(I)Z"⟩, 97) := ⟨⟨by decide +kernel, by decide +kernel⟩, List.mem_of_getElem? (i := 1282) (by decide +kernel), List.mem_of_getElem? (i := 1720) (by decide +kernel), List.mem_of_getElem? (i := 1721) (by decide +kernel)⟩
theorem lw_p59 : lw_okq (⟨"HireYardModel", "whyNot", "(II)I"⟩, 97) := ⟨⟨by decide +kernel, by decide +kernel⟩, List.mem_of_getElem? (i := 1282) (by decide +kernel), List.mem_of_getElem? (i := 1724) (by decide +kernel), List.mem_of_getElem? (i := 1725) (by decide +kernel)⟩
theorem lw_p60 : lw_okq (⟨"HireYardModel", "isDue", "(I)Z"⟩, 97) := ⟨⟨by decide +kernel, by decide +kernel⟩, List.mem_of_getElem? (i := 1282) (by decide +kernel), List.mem_of_getElem? (i := 1728) (by decide +kernel), List.mem_of_getElem? (i := 1729) (by decide +kernel)⟩
theorem lw_p61 : lw_okq (⟨"HireYardModel", "lapses", "(II)Z"⟩, 97) := ⟨⟨by decide +kernel, by decide +kernel⟩, List.mem_of_getElem? (i := 1282) (by decide +kernel), List.mem_of_getElem? (i := 1732) (by decide +kernel), List.mem_of_getElem? (i := 1733) (by decide +kernel)⟩
theorem lw_p62 : lw_okq (⟨"HireYardModel", "townOfOrder", "(I)I"⟩, 97) := ⟨⟨by decide +kernel, by decide +kernel⟩, List.mem_of_getElem? (i := 1282) (by decide +kernel), List.mem_of_getElem? (i := 1736) (by decide +kernel), List.mem_of_getElem? (i := 1737) (by decide +kernel)⟩
theorem lw_p63 : lw_okq (⟨"HireYardModel", "findWorths", "()V"⟩, 97) := ⟨⟨by decide +kernel, by decide +kernel⟩, List.mem_of_getElem? (i := 1282) (by decide +kernel), List.mem_of_getElem? (i := 1748) (by decide +kernel), List.mem_of_getElem? (i := 1749) (by decide +kernel)⟩
def lw_privs_4 : List (MethodName × Nat) := [(⟨"HireYardModel", "isType", "(I)Z"⟩, 97), (⟨"HireYardModel", "addReading", "(II)V"⟩, 97), (⟨"HireYardModel", "isMachine", "(I)Z"⟩, 97), (⟨"HireYardModel", "sinceLook", "(I)I"⟩, 97), (⟨"HireYardModel", "isFree", "(I)Z"⟩, 97), (⟨"HireYardModel", "endSpan", "(I)V"⟩, 97), (⟨"HireYardModel", "hasBegun", "(I)Z"⟩, 97), (⟨"HireYardModel", "readBy", "(II)I"⟩, 97), (⟨"HireYardModel", "arrive", "(I)V"⟩, 97), (⟨"HireYardModel", "isCustomer", "(I)Z"⟩, 97), (⟨"HireYardModel", "isOrder", "(I)Z"⟩, 97), (⟨"HireYardModel", "whyNot", "(II)I"⟩, 97), (⟨"HireYardModel", "isDue", "(I)Z"⟩, 97), (⟨"HireYardModel", "lapses", "(II)Z"⟩, 97), (⟨"HireYardModel", "townOfOrder", "(I)I"⟩, 97), (⟨"HireYardModel", "findWorths", "()V"⟩, 97)]
theorem lw_r4 : ∀ q ∈ lw_privs_4, lw_okq q := List.forall_mem_cons.mpr ⟨lw_p48, List.forall_mem_cons.mpr ⟨lw_p49, List.forall_mem_cons.mpr ⟨lw_p50, List.forall_mem_cons.mpr ⟨lw_p51, List.forall_mem_cons.mpr ⟨lw_p52, List.forall_mem_cons.mpr ⟨lw_p53, List.forall_mem_cons.mpr ⟨lw_p54, List.forall_mem_cons.mpr ⟨lw_p55, List.forall_mem_cons.mpr ⟨lw_p56, List.forall_mem_cons.mpr ⟨lw_p57, List.forall_mem_cons.mpr ⟨lw_p58, List.forall_mem_cons.mpr ⟨lw_p59, List.forall_mem_cons.mpr ⟨lw_p60, List.forall_mem_cons.mpr ⟨lw_p61, List.forall_mem_cons.mpr ⟨lw_p62, List.forall_mem_cons.mpr ⟨lw_p63, fun _ h => absurd h List.not_mem_nil⟩⟩⟩⟩⟩⟩⟩⟩⟩⟩⟩⟩⟩⟩⟩⟩
theorem lw_p64 : lw_okq (⟨"HireYardModel", "worthBy", "(II)J"⟩, 97) := ⟨⟨by decide +kernel, by decide +kernel⟩, List.mem_of_getElem? (i := 1282) (by decide +kernel), List.mem_of_getElem? (i := 1752) (by decide +kernel), List.mem_of_getElem? (i := 1753) (by decide +kernel)⟩
theorem lw_p65 : lw_okq (⟨"HireYardModel", "most", "(I)J"⟩, 97) := ⟨⟨by decide +kernel, by decide +kernel⟩, List.mem_of_getElem? (i := 1282) (by decide +kernel), List.mem_of_getElem? (i := 1759) (by decide +kernel), List.mem_of_getElem? (i := 1760) (by decide +kernel)⟩
theorem lw_p66 : lw_okq (⟨"HireYardModel", "mayHave", "(II)Z"⟩, 97) := ⟨⟨by decide +kernel, by decide +kernel⟩, List.mem_of_getElem? (i := 1282) (by decide +kernel), List.mem_of_getElem? (i := 1763) (by decide +kernel), List.mem_of_getElem? (i := 1764) (by decide +kernel)⟩
theorem lw_p67 : lw_okq (⟨"HireYardModel", "isPromised", "(I)Z"⟩, 97) := ⟨⟨by decide +kernel, by decide +kernel⟩, List.mem_of_getElem? (i := 1282) (by decide +kernel), List.mem_of_getElem? (i := 1775) (by decide +kernel), List.mem_of_getElem? (i := 1776) (by decide +kernel)⟩
theorem lw_p68 : lw_okq (⟨"HireYardModel", "isUsed", "(I)Z"⟩, 97) := ⟨⟨by decide +kernel, by decide +kernel⟩, List.mem_of_getElem? (i := 1282) (by decide +kernel), List.mem_of_getElem? (i := 1783) (by decide +kernel), List.mem_of_getElem? (i := 1784) (by decide +kernel)⟩
theorem lw_p69 : lw_okq (⟨"HireYardModel", "milesOfRow", "(I)I"⟩, 97) := ⟨⟨by decide +kernel, by decide +kernel⟩, List.mem_of_getElem? (i := 1282) (by decide +kernel), List.mem_of_getElem? (i := 1787) (by decide +kernel), List.mem_of_getElem? (i := 1788) (by decide +kernel)⟩
theorem lw_p70 : lw_okq (⟨"HireYardModel", "load", "(IIZ)V"⟩, 97) := ⟨⟨by decide +kernel, by decide +kernel⟩, List.mem_of_getElem? (i := 1282) (by decide +kernel), List.mem_of_getElem? (i := 1799) (by decide +kernel), List.mem_of_getElem? (i := 1800) (by decide +kernel)⟩
theorem lw_p71 : lw_okq (⟨"HireYardModel", "daysOf", "(I)I"⟩, 97) := ⟨⟨by decide +kernel, by decide +kernel⟩, List.mem_of_getElem? (i := 1282) (by decide +kernel), List.mem_of_getElem? (i := 1823) (by decide +kernel), List.mem_of_getElem? (i := 1824) (by decide +kernel)⟩
theorem lw_p72 : lw_okq (⟨"HireYardModel", "endOf", "(I)I"⟩, 97) := ⟨⟨by decide +kernel, by decide +kernel⟩, List.mem_of_getElem? (i := 1282) (by decide +kernel), List.mem_of_getElem? (i := 1827) (by decide +kernel), List.mem_of_getElem? (i := 1828) (by decide +kernel)⟩
theorem lw_p73 : lw_okq (⟨"HireYardModel", "worked", "(II)I"⟩, 97) := ⟨⟨by decide +kernel, by decide +kernel⟩, List.mem_of_getElem? (i := 1282) (by decide +kernel), List.mem_of_getElem? (i := 1831) (by decide +kernel), List.mem_of_getElem? (i := 1832) (by decide +kernel)⟩
theorem lw_p74 : lw_okq (⟨"HireYardModel", "dayIs", "(II)I"⟩, 97) := ⟨⟨by decide +kernel, by decide +kernel⟩, List.mem_of_getElem? (i := 1282) (by decide +kernel), List.mem_of_getElem? (i := 1835) (by decide +kernel), List.mem_of_getElem? (i := 1836) (by decide +kernel)⟩
theorem lw_p75 : lw_okq (⟨"HireYardModel", "readFrom", "(II)I"⟩, 97) := ⟨⟨by decide +kernel, by decide +kernel⟩, List.mem_of_getElem? (i := 1282) (by decide +kernel), List.mem_of_getElem? (i := 1839) (by decide +kernel), List.mem_of_getElem? (i := 1840) (by decide +kernel)⟩
theorem lw_p76 : lw_okq (⟨"HireYardModel", "feedOne", "(I)V"⟩, 97) := ⟨⟨by decide +kernel, by decide +kernel⟩, List.mem_of_getElem? (i := 1282) (by decide +kernel), List.mem_of_getElem? (i := 1851) (by decide +kernel), List.mem_of_getElem? (i := 1852) (by decide +kernel)⟩
theorem lw_p77 : lw_okq (⟨"HireYardModel", "nextToken", "()V"⟩, 97) := ⟨⟨by decide +kernel, by decide +kernel⟩, List.mem_of_getElem? (i := 1282) (by decide +kernel), List.mem_of_getElem? (i := 1863) (by decide +kernel), List.mem_of_getElem? (i := 1864) (by decide +kernel)⟩
theorem lw_p78 : lw_okq (⟨"HireYardModel", "step", "()V"⟩, 97) := ⟨⟨by decide +kernel, by decide +kernel⟩, List.mem_of_getElem? (i := 1282) (by decide +kernel), List.mem_of_getElem? (i := 1873) (by decide +kernel), List.mem_of_getElem? (i := 1874) (by decide +kernel)⟩
theorem lw_p79 : lw_okq (⟨"HireYardModel", "isWord", "(J)Z"⟩, 97) := ⟨⟨by decide +kernel, by decide +kernel⟩, List.mem_of_getElem? (i := 1282) (by decide +kernel), List.mem_of_getElem? (i := 1878) (by decide +kernel), List.mem_of_getElem? (i := 1879) (by decide +kernel)⟩
def lw_privs_5 : List (MethodName × Nat) := [(⟨"HireYardModel", "worthBy", "(II)J"⟩, 97), (⟨"HireYardModel", "most", "(I)J"⟩, 97), (⟨"HireYardModel", "mayHave", "(II)Z"⟩, 97), (⟨"HireYardModel", "isPromised", "(I)Z"⟩, 97), (⟨"HireYardModel", "isUsed", "(I)Z"⟩, 97), (⟨"HireYardModel", "milesOfRow", "(I)I"⟩, 97), (⟨"HireYardModel", "load", "(IIZ)V"⟩, 97), (⟨"HireYardModel", "daysOf", "(I)I"⟩, 97), (⟨"HireYardModel", "endOf", "(I)I"⟩, 97), (⟨"HireYardModel", "worked", "(II)I"⟩, 97), (⟨"HireYardModel", "dayIs", "(II)I"⟩, 97), (⟨"HireYardModel", "readFrom", "(II)I"⟩, 97), (⟨"HireYardModel", "feedOne", "(I)V"⟩, 97), (⟨"HireYardModel", "nextToken", "()V"⟩, 97), (⟨"HireYardModel", "step", "()V"⟩, 97), (⟨"HireYardModel", "isWord", "(J)Z"⟩, 97)]
theorem lw_r5 : ∀ q ∈ lw_privs_5, lw_okq q := List.forall_mem_cons.mpr ⟨lw_p64, List.forall_mem_cons.mpr ⟨lw_p65, List.forall_mem_cons.mpr ⟨lw_p66, List.forall_mem_cons.mpr ⟨lw_p67, List.forall_mem_cons.mpr ⟨lw_p68, List.forall_mem_cons.mpr ⟨lw_p69, List.forall_mem_cons.mpr ⟨lw_p70, List.forall_mem_cons.mpr ⟨lw_p71, List.forall_mem_cons.mpr ⟨lw_p72, List.forall_mem_cons.mpr ⟨lw_p73, List.forall_mem_cons.mpr ⟨lw_p74, List.forall_mem_cons.mpr ⟨lw_p75, List.forall_mem_cons.mpr ⟨lw_p76, List.forall_mem_cons.mpr ⟨lw_p77, List.forall_mem_cons.mpr ⟨lw_p78, List.forall_mem_cons.mpr ⟨lw_p79, fun _ h => absurd h List.not_mem_nil⟩⟩⟩⟩⟩⟩⟩⟩⟩⟩⟩⟩⟩⟩⟩⟩
theorem lw_p80 : lw_okq (⟨"HireYardModel", "takes", "(I)Z"⟩, 97) := ⟨⟨by decide +kernel, by decide +kernel⟩, List.mem_of_getElem? (i := 1282) (by decide +kernel), List.mem_of_getElem? (i := 1884) (by decide +kernel), List.mem_of_getElem? (i := 1885) (by decide +kernel)⟩
theorem lw_p81 : lw_okq (⟨"HireYardModel", "wrong", "()V"⟩, 97) := ⟨⟨by decide +kernel, by decide +kernel⟩, List.mem_of_getElem? (i := 1282) (by decide +kernel), List.mem_of_getElem? (i := 1888) (by decide +kernel), List.mem_of_getElem? (i := 1889) (by decide +kernel)⟩
theorem lw_p82 : lw_okq (⟨"HireYardModel", "lay", "(III)V"⟩, 97) := ⟨⟨by decide +kernel, by decide +kernel⟩, List.mem_of_getElem? (i := 1282) (by decide +kernel), List.mem_of_getElem? (i := 1894) (by decide +kernel), List.mem_of_getElem? (i := 1895) (by decide +kernel)⟩
theorem lw_p83 : lw_okq (⟨"HireYardModel", "sum", "()V"⟩, 97) := ⟨⟨by decide +kernel, by decide +kernel⟩, List.mem_of_getElem? (i := 1282) (by decide +kernel), List.mem_of_getElem? (i := 1898) (by decide +kernel), List.mem_of_getElem? (i := 1899) (by decide +kernel)⟩
theorem lw_p84 : lw_okq (⟨"HireYardModel", "product", "()V"⟩, 97) := ⟨⟨by decide +kernel, by decide +kernel⟩, List.mem_of_getElem? (i := 1282) (by decide +kernel), List.mem_of_getElem? (i := 1902) (by decide +kernel), List.mem_of_getElem? (i := 1903) (by decide +kernel)⟩
theorem lw_p85 : lw_okq (⟨"HireYardModel", "operand", "()V"⟩, 97) := ⟨⟨by decide +kernel, by decide +kernel⟩, List.mem_of_getElem? (i := 1282) (by decide +kernel), List.mem_of_getElem? (i := 1906) (by decide +kernel), List.mem_of_getElem? (i := 1907) (by decide +kernel)⟩
theorem lw_p86 : lw_okq (⟨"HireYardModel", "nameOf", "()I"⟩, 97) := ⟨⟨by decide +kernel, by decide +kernel⟩, List.mem_of_getElem? (i := 1282) (by decide +kernel), List.mem_of_getElem? (i := 1910) (by decide +kernel), List.mem_of_getElem? (i := 1911) (by decide +kernel)⟩
theorem lw_p87 : lw_okq (⟨"HireYardModel", "opens", "()Z"⟩, 97) := ⟨⟨by decide +kernel, by decide +kernel⟩, List.mem_of_getElem? (i := 1282) (by decide +kernel), List.mem_of_getElem? (i := 1918) (by decide +kernel), List.mem_of_getElem? (i := 1919) (by decide +kernel)⟩
theorem lw_p88 : lw_okq (⟨"HireYardModel", "closes", "()Z"⟩, 97) := ⟨⟨by decide +kernel, by decide +kernel⟩, List.mem_of_getElem? (i := 1282) (by decide +kernel), List.mem_of_getElem? (i := 1922) (by decide +kernel), List.mem_of_getElem? (i := 1923) (by decide +kernel)⟩
theorem lw_p89 : lw_okq (⟨"HireYardModel", "today", "()I"⟩, 97) := ⟨⟨by decide +kernel, by decide +kernel⟩, List.mem_of_getElem? (i := 1282) (by decide +kernel), List.mem_of_getElem? (i := 1926) (by decide +kernel), List.mem_of_getElem? (i := 1927) (by decide +kernel)⟩
theorem lw_p90 : lw_okq (⟨"HireYardModel", "tell", "(III)V"⟩, 97) := ⟨⟨by decide +kernel, by decide +kernel⟩, List.mem_of_getElem? (i := 1282) (by decide +kernel), List.mem_of_getElem? (i := 1934) (by decide +kernel), List.mem_of_getElem? (i := 1935) (by decide +kernel)⟩
theorem lw_p91 : lw_okq (⟨"HireYardModel", "hoursOf", "(I)I"⟩, 97) := ⟨⟨by decide +kernel, by decide +kernel⟩, List.mem_of_getElem? (i := 1282) (by decide +kernel), List.mem_of_getElem? (i := 1938) (by decide +kernel), List.mem_of_getElem? (i := 1939) (by decide +kernel)⟩
theorem lw_p92 : lw_okq (⟨"HireYardModel", "rainOf", "(I)I"⟩, 97) := ⟨⟨by decide +kernel, by decide +kernel⟩, List.mem_of_getElem? (i := 1282) (by decide +kernel), List.mem_of_getElem? (i := 1942) (by decide +kernel), List.mem_of_getElem? (i := 1943) (by decide +kernel)⟩
theorem lw_p93 : lw_okq (⟨"HireYardModel", "brokenOf", "(I)I"⟩, 97) := ⟨⟨by decide +kernel, by decide +kernel⟩, List.mem_of_getElem? (i := 1282) (by decide +kernel), List.mem_of_getElem? (i := 1946) (by decide +kernel), List.mem_of_getElem? (i := 1947) (by decide +kernel)⟩
theorem lw_p94 : lw_okq (⟨"HireYardModel", "fuelOf", "(I)I"⟩, 97) := ⟨⟨by decide +kernel, by decide +kernel⟩, List.mem_of_getElem? (i := 1282) (by decide +kernel), List.mem_of_getElem? (i := 1950) (by decide +kernel), List.mem_of_getElem? (i := 1951) (by decide +kernel)⟩
theorem lw_p95 : lw_okq (⟨"HireYardModel", "harmOf", "(I)I"⟩, 97) := ⟨⟨by decide +kernel, by decide +kernel⟩, List.mem_of_getElem? (i := 1282) (by decide +kernel), List.mem_of_getElem? (i := 1954) (by decide +kernel), List.mem_of_getElem? (i := 1955) (by decide +kernel)⟩
def lw_privs_6 : List (MethodName × Nat) := [(⟨"HireYardModel", "takes", "(I)Z"⟩, 97), (⟨"HireYardModel", "wrong", "()V"⟩, 97), (⟨"HireYardModel", "lay", "(III)V"⟩, 97), (⟨"HireYardModel", "sum", "()V"⟩, 97), (⟨"HireYardModel", "product", "()V"⟩, 97), (⟨"HireYardModel", "operand", "()V"⟩, 97), (⟨"HireYardModel", "nameOf", "()I"⟩, 97), (⟨"HireYardModel", "opens", "()Z"⟩, 97), (⟨"HireYardModel", "closes", "()Z"⟩, 97), (⟨"HireYardModel", "today", "()I"⟩, 97), (⟨"HireYardModel", "tell", "(III)V"⟩, 97), (⟨"HireYardModel", "hoursOf", "(I)I"⟩, 97), (⟨"HireYardModel", "rainOf", "(I)I"⟩, 97), (⟨"HireYardModel", "brokenOf", "(I)I"⟩, 97), (⟨"HireYardModel", "fuelOf", "(I)I"⟩, 97), (⟨"HireYardModel", "harmOf", "(I)I"⟩, 97)]
theorem lw_r6 : ∀ q ∈ lw_privs_6, lw_okq q := List.forall_mem_cons.mpr ⟨lw_p80, List.forall_mem_cons.mpr ⟨lw_p81, List.forall_mem_cons.mpr ⟨lw_p82, List.forall_mem_cons.mpr ⟨lw_p83, List.forall_mem_cons.mpr ⟨lw_p84, List.forall_mem_cons.mpr ⟨lw_p85, List.forall_mem_cons.mpr ⟨lw_p86, List.forall_mem_cons.mpr ⟨lw_p87, List.forall_mem_cons.mpr ⟨lw_p88, List.forall_mem_cons.mpr ⟨lw_p89, List.forall_mem_cons.mpr ⟨lw_p90, List.forall_mem_cons.mpr ⟨lw_p91, List.forall_mem_cons.mpr ⟨lw_p92, List.forall_mem_cons.mpr ⟨lw_p93, List.forall_mem_cons.mpr ⟨lw_p94, List.forall_mem_cons.mpr ⟨lw_p95, fun _ h => absurd h List.not_mem_nil⟩⟩⟩⟩⟩⟩⟩⟩⟩⟩⟩⟩⟩⟩⟩⟩
theorem lw_p96 : lw_okq (⟨"HireYardModel", "marksFound", "(I)I"⟩, 97) := ⟨⟨by decide +kernel, by decide +kernel⟩, List.mem_of_getElem? (i := 1282) (by decide +kernel), List.mem_of_getElem? (i := 1958) (by decide +kernel), List.mem_of_getElem? (i := 1959) (by decide +kernel)⟩
theorem lw_p97 : lw_okq (⟨"HireYardModel", "works", "(I)I"⟩, 97) := ⟨⟨by decide +kernel, by decide +kernel⟩, List.mem_of_getElem? (i := 1282) (by decide +kernel), List.mem_of_getElem? (i := 1962) (by decide +kernel), List.mem_of_getElem? (i := 1963) (by decide +kernel)⟩
theorem lw_p98 : lw_okq (⟨"HireYardModel", "lesser", "(III)I"⟩, 97) := ⟨⟨by decide +kernel, by decide +kernel⟩, List.mem_of_getElem? (i := 1282) (by decide +kernel), List.mem_of_getElem? (i := 1974) (by decide +kernel), List.mem_of_getElem? (i := 1975) (by decide +kernel)⟩
theorem lw_p99 : lw_okq (⟨"HireYardModel", "mayTell", "(II)Z"⟩, 97) := ⟨⟨by decide +kernel, by decide +kernel⟩, List.mem_of_getElem? (i := 1282) (by decide +kernel), List.mem_of_getElem? (i := 1987) (by decide +kernel), List.mem_of_getElem? (i := 1988) (by decide +kernel)⟩
theorem lw_p100 : lw_okq (⟨"HireYardModel", "idleOf", "(II)I"⟩, 97) := ⟨⟨by decide +kernel, by decide +kernel⟩, List.mem_of_getElem? (i := 1282) (by decide +kernel), List.mem_of_getElem? (i := 2015) (by decide +kernel), List.mem_of_getElem? (i := 2016) (by decide +kernel)⟩
theorem lw_p101 : lw_okq (⟨"HireYardModel", "wantedOf", "(II)I"⟩, 97) := ⟨⟨by decide +kernel, by decide +kernel⟩, List.mem_of_getElem? (i := 1282) (by decide +kernel), List.mem_of_getElem? (i := 2019) (by decide +kernel), List.mem_of_getElem? (i := 2020) (by decide +kernel)⟩
def lw_privs_7 : List (MethodName × Nat) := [(⟨"HireYardModel", "marksFound", "(I)I"⟩, 97), (⟨"HireYardModel", "works", "(I)I"⟩, 97), (⟨"HireYardModel", "lesser", "(III)I"⟩, 97), (⟨"HireYardModel", "mayTell", "(II)Z"⟩, 97), (⟨"HireYardModel", "idleOf", "(II)I"⟩, 97), (⟨"HireYardModel", "wantedOf", "(II)I"⟩, 97)]
theorem lw_r7 : ∀ q ∈ lw_privs_7, lw_okq q := List.forall_mem_cons.mpr ⟨lw_p96, List.forall_mem_cons.mpr ⟨lw_p97, List.forall_mem_cons.mpr ⟨lw_p98, List.forall_mem_cons.mpr ⟨lw_p99, List.forall_mem_cons.mpr ⟨lw_p100, List.forall_mem_cons.mpr ⟨lw_p101, fun _ h => absurd h List.not_mem_nil⟩⟩⟩⟩⟩⟩
def lw_privs : List (MethodName × Nat) := lw_privs_1 ++ (lw_privs_2 ++ (lw_privs_3 ++ (lw_privs_4 ++ (lw_privs_5 ++ (lw_privs_6 ++ (lw_privs_7))))))
def lw_tbl : List Cond := k2_sels lw_privs ++ tables_1
theorem lw_privs_ok : ∀ q ∈ lw_privs, lw_okq q := by
  show ∀ q ∈ lw_privs_1 ++ (lw_privs_2 ++ (lw_privs_3 ++ (lw_privs_4 ++ (lw_privs_5 ++ (lw_privs_6 ++ (lw_privs_7)))))), lw_okq q
  exact List.forall_mem_append.mpr ⟨lw_r1, List.forall_mem_append.mpr ⟨lw_r2, List.forall_mem_append.mpr ⟨lw_r3, List.forall_mem_append.mpr ⟨lw_r4, List.forall_mem_append.mpr ⟨lw_r5, List.forall_mem_append.mpr ⟨lw_r6, lw_r7⟩⟩⟩⟩⟩⟩
end
section
def RX0 : String := "HireYard$Bills"
def TX0 : u_T := fun k => match k with
  | 0 => ("HireYard$Bills", "texts", "[LHireYard$Terms;", true)
  | 1 => ("HireYard$Bills", "made", "I", false)
  | 2 => ("HireYard$Bills", "names", "[I", true)
  | _ => ("HireYard$Bills", "stack", "[I", true)
def tyX0 : Nat → FieldType := fun k => match k with
  | 0 => .array (.object "HireYard$Terms")
  | 1 => .int
  | 2 => .array .int
  | _ => .array .int
abbrev wsX00 : List Cond := u_ws RX0 TX0 4
theorem nmX0 : ∀ a, a < 4 → ∀ b, b < 4 → a ≠ b → (TX0 a).2.1 ≠ (TX0 b).2.1 := by decide +kernel
theorem tyX0_ok : ∀ k, k < 4 → parseFieldDescriptor (TX0 k).2.2.1 = some (tyX0 k) := by decide +kernel
abbrev cX0_init : ByteArray := prog_2_method_1_code
def yX0_init : MethodName := ⟨RX0, "<init>", "()V"⟩
abbrev cX0_isFull : ByteArray := prog_2_method_2_code
def yX0_isFull : MethodName := ⟨RX0, "isFull", "()Z"⟩
abbrev cX0_has : ByteArray := prog_2_method_3_code
def yX0_has : MethodName := ⟨RX0, "has", "(I)Z"⟩
abbrev cX0_add : ByteArray := prog_2_method_4_code
def yX0_add : MethodName := ⟨RX0, "add", "(LHireYard$Terms;)I"⟩
abbrev cX0_learn : ByteArray := prog_2_method_5_code
def yX0_learn : MethodName := ⟨RX0, "learn", "(LHireYard$Order;I)V"⟩
abbrev cX0_learnTroubles : ByteArray := prog_2_method_6_code
def yX0_learnTroubles : MethodName := ⟨RX0, "learnTroubles", "(LHireYard$Order;I[ZLHireYard$Log;)V"⟩
abbrev cX0_setDays : ByteArray := prog_2_method_7_code
def yX0_setDays : MethodName := ⟨RX0, "setDays", "(I)V"⟩
abbrev cX0_setAll : ByteArray := prog_2_method_8_code
def yX0_setAll : MethodName := ⟨RX0, "setAll", "(LHireYard$Order;I)V"⟩
abbrev cX0_amount : ByteArray := prog_2_method_9_code
def yX0_amount : MethodName := ⟨RX0, "amount", "(I)I"⟩
abbrev cX0_inForce : ByteArray := prog_2_method_10_code
def yX0_inForce : MethodName := ⟨RX0, "inForce", "(III)I"⟩
def RX1 : String := "HireYard$Kind"
def TX1 : u_T := fun k => match k with
  | 0 => ("HireYard$Kind", "number", "I", true)
  | 1 => ("HireYard$Kind", "weight", "I", true)
  | 2 => ("HireYard$Kind", "lookEvery", "I", true)
  | 3 => ("HireYard$Kind", "rate", "I", true)
  | 4 => ("HireYard$Kind", "paper", "I", true)
  | 5 => ("HireYard$Kind", "worth", "I", true)
  | 6 => ("HireYard$Kind", "costs", "[I", true)
  | _ => ("HireYard$Kind", "goesFor", "[Z", true)
def tyX1 : Nat → FieldType := fun k => match k with
  | 0 => .int
  | 1 => .int
  | 2 => .int
  | 3 => .int
  | 4 => .int
  | 5 => .int
  | 6 => .array .int
  | _ => .array .boolean
abbrev wsX10 : List Cond := u_ws RX1 TX1 8
theorem nmX1 : ∀ a, a < 8 → ∀ b, b < 8 → a ≠ b → (TX1 a).2.1 ≠ (TX1 b).2.1 := by decide +kernel
theorem tyX1_ok : ∀ k, k < 8 → parseFieldDescriptor (TX1 k).2.2.1 = some (tyX1 k) := by decide +kernel
abbrev cX1_init : ByteArray := prog_3_method_1_code
def yX1_init : MethodName := ⟨RX1, "<init>", "(IIIII)V"⟩
abbrev cX1_standsFor : ByteArray := prog_3_method_2_code
def yX1_standsFor : MethodName := ⟨RX1, "standsFor", "(LHireYard$Kind;)Z"⟩
def RX2 : String := "HireYard$Log"
def TX2 : u_T := fun k => match k with
  | 0 => ("HireYard$Log", "trackMachine", "[I", true)
  | 1 => ("HireYard$Log", "trackTown", "[I", true)
  | 2 => ("HireYard$Log", "trackHour", "[I", true)
  | 3 => ("HireYard$Log", "tracks", "I", false)
  | 4 => ("HireYard$Log", "breakMachine", "[I", true)
  | 5 => ("HireYard$Log", "breakFrom", "[I", true)
  | 6 => ("HireYard$Log", "breakTo", "[I", true)
  | _ => ("HireYard$Log", "breaks", "I", false)
def tyX2 : Nat → FieldType := fun k => match k with
  | 0 => .array .int
  | 1 => .array .int
  | 2 => .array .int
  | 3 => .int
  | 4 => .array .int
  | 5 => .array .int
  | 6 => .array .int
  | _ => .int
abbrev wsX20 : List Cond := u_ws RX2 TX2 8
theorem nmX2 : ∀ a, a < 8 → ∀ b, b < 8 → a ≠ b → (TX2 a).2.1 ≠ (TX2 b).2.1 := by decide +kernel
theorem tyX2_ok : ∀ k, k < 8 → parseFieldDescriptor (TX2 k).2.2.1 = some (tyX2 k) := by decide +kernel
abbrev cX2_init : ByteArray := prog_4_method_1_code
def yX2_init : MethodName := ⟨RX2, "<init>", "()V"⟩
abbrev cX2_addTrack : ByteArray := prog_4_method_2_code
def yX2_addTrack : MethodName := ⟨RX2, "addTrack", "(III)I"⟩
abbrev cX2_countsFor : ByteArray := prog_4_method_3_code
def yX2_countsFor : MethodName := ⟨RX2, "countsFor", "(LHireYard$Machine;I)Z"⟩
abbrev cX2_elsewhere : ByteArray := prog_4_method_4_code
def yX2_elsewhere : MethodName := ⟨RX2, "elsewhere", "(LHireYard$Machine;)I"⟩
abbrev cX2_firstElsewhere : ByteArray := prog_4_method_5_code
def yX2_firstElsewhere : MethodName := ⟨RX2, "firstElsewhere", "(LHireYard$Machine;)I"⟩
abbrev cX2_lastThere : ByteArray := prog_4_method_6_code
def yX2_lastThere : MethodName := ⟨RX2, "lastThere", "(LHireYard$Machine;)I"⟩
abbrev cX2_beginBreak : ByteArray := prog_4_method_7_code
def yX2_beginBreak : MethodName := ⟨RX2, "beginBreak", "(II)Z"⟩
abbrev cX2_endBreak : ByteArray := prog_4_method_8_code
def yX2_endBreak : MethodName := ⟨RX2, "endBreak", "(II)V"⟩
abbrev cX2_hoursBroken : ByteArray := prog_4_method_9_code
def yX2_hoursBroken : MethodName := ⟨RX2, "hoursBroken", "(III)I"⟩
def RX3 : String := "HireYard$Lorry"
def TX3 : u_T := fun k => match k with
  | 0 => ("HireYard$Lorry", "stops", "[LHireYard$Machine;", true)
  | 1 => ("HireYard$Lorry", "size", "I", false)
  | 2 => ("HireYard$Lorry", "row", "[LHireYard$Machine;", true)
  | 3 => ("HireYard$Lorry", "rowSize", "I", false)
  | _ => ("HireYard$Lorry", "turn", "[I", true)
def tyX3 : Nat → FieldType := fun k => match k with
  | 0 => .array (.object "HireYard$Machine")
  | 1 => .int
  | 2 => .array (.object "HireYard$Machine")
  | 3 => .int
  | _ => .array .int
abbrev wsX30 : List Cond := u_ws RX3 TX3 5
theorem nmX3 : ∀ a, a < 5 → ∀ b, b < 5 → a ≠ b → (TX3 a).2.1 ≠ (TX3 b).2.1 := by decide +kernel
theorem tyX3_ok : ∀ k, k < 5 → parseFieldDescriptor (TX3 k).2.2.1 = some (tyX3 k) := by decide +kernel
abbrev cX3_init : ByteArray := prog_5_method_1_code
def yX3_init : MethodName := ⟨RX3, "<init>", "()V"⟩
abbrev cX3_isPromised : ByteArray := prog_5_method_2_code
def yX3_isPromised : MethodName := ⟨RX3, "isPromised", "(LHireYard$Machine;)Z"⟩
abbrev cX3_joins : ByteArray := prog_5_method_3_code
def yX3_joins : MethodName := ⟨RX3, "joins", "(LHireYard$Machine;)Z"⟩
abbrev cX3_add : ByteArray := prog_5_method_4_code
def yX3_add : MethodName := ⟨RX3, "add", "(LHireYard$Machine;)I"⟩
abbrev cX3_drive : ByteArray := prog_5_method_5_code
def yX3_drive : MethodName := ⟨RX3, "drive", "(LHireYard$Roads;)I"⟩
abbrev cX3_rowAt : ByteArray := prog_5_method_6_code
def yX3_rowAt : MethodName := ⟨RX3, "rowAt", "(I)LHireYard$Machine;"⟩
abbrev cX3_dropOthers : ByteArray := prog_5_method_7_code
def yX3_dropOthers : MethodName := ⟨RX3, "dropOthers", "()V"⟩
abbrev cX3_weight : ByteArray := prog_5_method_8_code
def yX3_weight : MethodName := ⟨RX3, "weight", "(I)I"⟩
abbrev cX3_sortByNumber : ByteArray := prog_5_method_9_code
def yX3_sortByNumber : MethodName := ⟨RX3, "sortByNumber", "(I)V"⟩
abbrev cX3_rowMiles : ByteArray := prog_5_method_10_code
def yX3_rowMiles : MethodName := ⟨RX3, "rowMiles", "(LHireYard$Roads;II)I"⟩
abbrev cX3_customerTown : ByteArray := prog_5_method_11_code
def yX3_customerTown : MethodName := ⟨RX3, "customerTown", "(I)I"⟩
abbrev cX3_keepRow : ByteArray := prog_5_method_12_code
def yX3_keepRow : MethodName := ⟨RX3, "keepRow", "(I)V"⟩
abbrev cX3_nextTurn : ByteArray := prog_5_method_13_code
def yX3_nextTurn : MethodName := ⟨RX3, "nextTurn", "(I)Z"⟩
abbrev cX3_swapTurns : ByteArray := prog_5_method_14_code
def yX3_swapTurns : MethodName := ⟨RX3, "swapTurns", "(II)V"⟩
def RX4 : String := "HireYard$Machine"
def TX4 : u_T := fun k => match k with
  | 0 => ("HireYard$Machine", "number", "I", true)
  | 1 => ("HireYard$Machine", "kind", "LHireYard$Kind;", true)
  | 2 => ("HireYard$Machine", "meter", "LHireYard$Meter;", true)
  | 3 => ("HireYard$Machine", "where", "I", false)
  | 4 => ("HireYard$Machine", "town", "I", false)
  | 5 => ("HireYard$Machine", "state", "I", false)
  | 6 => ("HireYard$Machine", "till", "I", false)
  | 7 => ("HireYard$Machine", "since", "I", false)
  | 8 => ("HireYard$Machine", "meterAtLook", "I", false)
  | 9 => ("HireYard$Machine", "order", "LHireYard$Order;", false)
  | 10 => ("HireYard$Machine", "lastSent", "LHireYard$Order;", false)
  | 11 => ("HireYard$Machine", "lostFrom", "I", false)
  | 12 => ("HireYard$Machine", "lostAt", "I", false)
  | 13 => ("HireYard$Machine", "owners", "[I", true)
  | 14 => ("HireYard$Machine", "rates", "[I", true)
  | _ => ("HireYard$Machine", "links", "I", false)
def tyX4 : Nat → FieldType := fun k => match k with
  | 0 => .int
  | 1 => .object "HireYard$Kind"
  | 2 => .object "HireYard$Meter"
  | 3 => .int
  | 4 => .int
  | 5 => .int
  | 6 => .int
  | 7 => .int
  | 8 => .int
  | 9 => .object "HireYard$Order"
  | 10 => .object "HireYard$Order"
  | 11 => .int
  | 12 => .int
  | 13 => .array .int
  | 14 => .array .int
  | _ => .int
abbrev wsX40 : List Cond := u_ws RX4 TX4 16
theorem nmX4 : ∀ a, a < 16 → ∀ b, b < 16 → a ≠ b → (TX4 a).2.1 ≠ (TX4 b).2.1 := by decide +kernel
theorem tyX4_ok : ∀ k, k < 16 → parseFieldDescriptor (TX4 k).2.2.1 = some (tyX4 k) := by decide +kernel
abbrev cX4_init : ByteArray := prog_6_method_1_code
def yX4_init : MethodName := ⟨RX4, "<init>", "(ILHireYard$Kind;III)V"⟩
abbrev cX4_isFree : ByteArray := prog_6_method_2_code
def yX4_isFree : MethodName := ⟨RX4, "isFree", "()Z"⟩
abbrev cX4_sinceLook : ByteArray := prog_6_method_3_code
def yX4_sinceLook : MethodName := ⟨RX4, "sinceLook", "()I"⟩
abbrev cX4_hoursToLook : ByteArray := prog_6_method_4_code
def yX4_hoursToLook : MethodName := ⟨RX4, "hoursToLook", "()I"⟩
abbrev cX4_lookDue : ByteArray := prog_6_method_5_code
def yX4_lookDue : MethodName := ⟨RX4, "lookDue", "()Z"⟩
abbrev cX4_lookLapses : ByteArray := prog_6_method_6_code
def yX4_lookLapses : MethodName := ⟨RX4, "lookLapses", "(I)Z"⟩
abbrev cX4_beginLook : ByteArray := prog_6_method_7_code
def yX4_beginLook : MethodName := ⟨RX4, "beginLook", "(I)V"⟩
abbrev cX4_load : ByteArray := prog_6_method_8_code
def yX4_load : MethodName := ⟨RX4, "load", "(III)V"⟩
abbrev cX4_settle : ByteArray := prog_6_method_9_code
def yX4_settle : MethodName := ⟨RX4, "settle", "(I)V"⟩
abbrev cX4_leave : ByteArray := prog_6_method_10_code
def yX4_leave : MethodName := ⟨RX4, "leave", "(II)V"⟩
abbrev cX4_addLink : ByteArray := prog_6_method_11_code
def yX4_addLink : MethodName := ⟨RX4, "addLink", "(II)I"⟩
abbrev cX4_ownerOf : ByteArray := prog_6_method_12_code
def yX4_ownerOf : MethodName := ⟨RX4, "ownerOf", "(I)I"⟩
abbrev cX4_rateOf : ByteArray := prog_6_method_13_code
def yX4_rateOf : MethodName := ⟨RX4, "rateOf", "(I)I"⟩
def RX5 : String := "HireYard$Match"
def TX5 : u_T := fun k => match k with
  | 0 => ("HireYard$Match", "list", "[LHireYard$Order;", true)
  | 1 => ("HireYard$Match", "listed", "I", false)
  | 2 => ("HireYard$Match", "miles", "I", false)
  | 3 => ("HireYard$Match", "cheapest", "[J", true)
  | _ => ("HireYard$Match", "costs", "[J", true)
def tyX5 : Nat → FieldType := fun k => match k with
  | 0 => .array (.object "HireYard$Order")
  | 1 => .int
  | 2 => .int
  | 3 => .array .long
  | _ => .array .long
abbrev wsX50 : List Cond := u_ws RX5 TX5 5
theorem nmX5 : ∀ a, a < 5 → ∀ b, b < 5 → a ≠ b → (TX5 a).2.1 ≠ (TX5 b).2.1 := by decide +kernel
theorem tyX5_ok : ∀ k, k < 5 → parseFieldDescriptor (TX5 k).2.2.1 = some (tyX5 k) := by decide +kernel
abbrev cX5_init : ByteArray := prog_7_method_1_code
def yX5_init : MethodName := ⟨RX5, "<init>", "()V"⟩
abbrev cX5_isListed : ByteArray := prog_7_method_2_code
def yX5_isListed : MethodName := ⟨RX5, "isListed", "(LHireYard$Order;)Z"⟩
abbrev cX5_add : ByteArray := prog_7_method_3_code
def yX5_add : MethodName := ⟨RX5, "add", "(LHireYard$Order;)I"⟩
abbrev cX5_begin : ByteArray := prog_7_method_4_code
def yX5_begin : MethodName := ⟨RX5, "begin", "()V"⟩
abbrev cX5_offer : ByteArray := prog_7_method_5_code
def yX5_offer : MethodName := ⟨RX5, "offer", "(LHireYard$Machine;ILHireYard$Roads;)V"⟩
abbrev cX5_costOf : ByteArray := prog_7_method_6_code
def yX5_costOf : MethodName := ⟨RX5, "costOf", "(LHireYard$Order;ILHireYard$Machine;ILHireYard$Roads;)J"⟩
abbrev cX5_leastCost : ByteArray := prog_7_method_7_code
def yX5_leastCost : MethodName := ⟨RX5, "leastCost", "()J"⟩
abbrev cX5_promise : ByteArray := prog_7_method_8_code
def yX5_promise : MethodName := ⟨RX5, "promise", "([LHireYard$Machine;LHireYard$Roads;)I"⟩
def RX6 : String := "HireYard$Meter"
def TX6 : u_T := fun k => match k with
  | 0 => ("HireYard$Meter", "hours", "[I", false)
  | 1 => ("HireYard$Meter", "values", "[I", false)
  | 2 => ("HireYard$Meter", "size", "I", false)
  | _ => ("HireYard$Meter", "asItCame", "Z", false)
def tyX6 : Nat → FieldType := fun k => match k with
  | 0 => .array .int
  | 1 => .array .int
  | 2 => .int
  | _ => .boolean
abbrev wsX60 : List Cond := u_ws RX6 TX6 4
theorem nmX6 : ∀ a, a < 4 → ∀ b, b < 4 → a ≠ b → (TX6 a).2.1 ≠ (TX6 b).2.1 := by decide +kernel
theorem tyX6_ok : ∀ k, k < 4 → parseFieldDescriptor (TX6 k).2.2.1 = some (tyX6 k) := by decide +kernel
abbrev cX6_init : ByteArray := prog_8_method_1_code
def yX6_init : MethodName := ⟨RX6, "<init>", "(II)V"⟩
abbrev cX6_size : ByteArray := prog_8_method_2_code
def yX6_size : MethodName := ⟨RX6, "size", "()I"⟩
abbrev cX6_last : ByteArray := prog_8_method_3_code
def yX6_last : MethodName := ⟨RX6, "last", "()I"⟩
abbrev cX6_valueAt : ByteArray := prog_8_method_4_code
def yX6_valueAt : MethodName := ⟨RX6, "valueAt", "(I)I"⟩
abbrev cX6_toldAt : ByteArray := prog_8_method_5_code
def yX6_toldAt : MethodName := ⟨RX6, "toldAt", "(I)Z"⟩
abbrev cX6_isAnother : ByteArray := prog_8_method_6_code
def yX6_isAnother : MethodName := ⟨RX6, "isAnother", "(I)Z"⟩
abbrev cX6_tell : ByteArray := prog_8_method_7_code
def yX6_tell : MethodName := ⟨RX6, "tell", "(II)V"⟩
abbrev cX6_grow : ByteArray := prog_8_method_8_code
def yX6_grow : MethodName := ⟨RX6, "grow", "()V"⟩
abbrev cX6_latestUpTo : ByteArray := prog_8_method_9_code
def yX6_latestUpTo : MethodName := ⟨RX6, "latestUpTo", "(I)I"⟩
abbrev cX6_earliestFrom : ByteArray := prog_8_method_10_code
def yX6_earliestFrom : MethodName := ⟨RX6, "earliestFrom", "(I)I"⟩
def RX7 : String := "HireYard$Order"
def TX7 : u_T := fun k => match k with
  | 0 => ("HireYard$Order", "number", "I", true)
  | 1 => ("HireYard$Order", "from", "I", true)
  | 2 => ("HireYard$Order", "length", "I", true)
  | 3 => ("HireYard$Order", "work", "I", true)
  | 4 => ("HireYard$Order", "came", "I", true)
  | 5 => ("HireYard$Order", "kind", "LHireYard$Kind;", true)
  | 6 => ("HireYard$Order", "customer", "I", false)
  | 7 => ("HireYard$Order", "town", "I", false)
  | 8 => ("HireYard$Order", "papers", "I", false)
  | 9 => ("HireYard$Order", "state", "I", false)
  | 10 => ("HireYard$Order", "machine", "LHireYard$Machine;", false)
  | 11 => ("HireYard$Order", "begin", "I", false)
  | 12 => ("HireYard$Order", "ended", "I", false)
  | 13 => ("HireYard$Order", "saidNot", "[Z", true)
  | 14 => ("HireYard$Order", "marks", "[I", true)
  | _ => ("HireYard$Order", "litres", "[I", true)
def tyX7 : Nat → FieldType := fun k => match k with
  | 0 => .int
  | 1 => .int
  | 2 => .int
  | 3 => .int
  | 4 => .int
  | 5 => .object "HireYard$Kind"
  | 6 => .int
  | 7 => .int
  | 8 => .int
  | 9 => .int
  | 10 => .object "HireYard$Machine"
  | 11 => .int
  | 12 => .int
  | 13 => .array .boolean
  | 14 => .array .int
  | _ => .array .int
abbrev wsX70 : List Cond := u_ws RX7 TX7 16
theorem nmX7 : ∀ a, a < 16 → ∀ b, b < 16 → a ≠ b → (TX7 a).2.1 ≠ (TX7 b).2.1 := by decide +kernel
theorem tyX7_ok : ∀ k, k < 16 → parseFieldDescriptor (TX7 k).2.2.1 = some (tyX7 k) := by decide +kernel
abbrev cX7_init : ByteArray := prog_9_method_1_code
def yX7_init : MethodName := ⟨RX7, "<init>", "(ILHireYard$Kind;IIII)V"⟩
abbrev cX7_objection : ByteArray := prog_9_method_2_code
def yX7_objection : MethodName := ⟨RX7, "objection", "(LHireYard$Machine;ILHireYard$Roads;)I"⟩
abbrev cX7_begun : ByteArray := prog_9_method_3_code
def yX7_begun : MethodName := ⟨RX7, "begun", "(I)Z"⟩
abbrev cX7_isSubstitute : ByteArray := prog_9_method_4_code
def yX7_isSubstitute : MethodName := ⟨RX7, "isSubstitute", "()Z"⟩
abbrev cX7_promise : ByteArray := prog_9_method_5_code
def yX7_promise : MethodName := ⟨RX7, "promise", "(LHireYard$Machine;)V"⟩
abbrev cX7_finish : ByteArray := prog_9_method_6_code
def yX7_finish : MethodName := ⟨RX7, "finish", "(I)V"⟩
abbrev cX7_loseMachine : ByteArray := prog_9_method_7_code
def yX7_loseMachine : MethodName := ⟨RX7, "loseMachine", "(I)V"⟩
abbrev cX7_endBy : ByteArray := prog_9_method_8_code
def yX7_endBy : MethodName := ⟨RX7, "endBy", "(I)I"⟩
abbrev cX7_dayCount : ByteArray := prog_9_method_9_code
def yX7_dayCount : MethodName := ⟨RX7, "dayCount", "(I)I"⟩
abbrev cX7_knownOfDay : ByteArray := prog_9_method_10_code
def yX7_knownOfDay : MethodName := ⟨RX7, "knownOfDay", "(II)I"⟩
abbrev cX7_daysWorked : ByteArray := prog_9_method_11_code
def yX7_daysWorked : MethodName := ⟨RX7, "daysWorked", "(II)I"⟩
abbrev cX7_hoursWorked : ByteArray := prog_9_method_12_code
def yX7_hoursWorked : MethodName := ⟨RX7, "hoursWorked", "(I)I"⟩
abbrev cX7_mayTell : ByteArray := prog_9_method_13_code
def yX7_mayTell : MethodName := ⟨RX7, "mayTell", "(I)Z"⟩
abbrev cX7_tell : ByteArray := prog_9_method_14_code
def yX7_tell : MethodName := ⟨RX7, "tell", "([III)I"⟩
abbrev cX7_newMarks : ByteArray := prog_9_method_15_code
def yX7_newMarks : MethodName := ⟨RX7, "newMarks", "()I"⟩
abbrev cX7_harmCoins : ByteArray := prog_9_method_16_code
def yX7_harmCoins : MethodName := ⟨RX7, "harmCoins", "()I"⟩
abbrev cX7_litresMissing : ByteArray := prog_9_method_17_code
def yX7_litresMissing : MethodName := ⟨RX7, "litresMissing", "()I"⟩
def RX8 : String := "HireYard$Roads"
def TX8 : u_T := fun k => match k with
  | 0 => ("HireYard$Roads", "yards", "[Z", true)
  | 1 => ("HireYard$Roads", "told", "[[I", true)
  | 2 => ("HireYard$Roads", "least", "[[I", true)
  | _ => ("HireYard$Roads", "towns", "I", false)
def tyX8 : Nat → FieldType := fun k => match k with
  | 0 => .array .boolean
  | 1 => .array (.array .int)
  | 2 => .array (.array .int)
  | _ => .int
abbrev wsX80 : List Cond := u_ws RX8 TX8 4
theorem nmX8 : ∀ a, a < 4 → ∀ b, b < 4 → a ≠ b → (TX8 a).2.1 ≠ (TX8 b).2.1 := by decide +kernel
theorem tyX8_ok : ∀ k, k < 4 → parseFieldDescriptor (TX8 k).2.2.1 = some (tyX8 k) := by decide +kernel
abbrev cX8_init : ByteArray := prog_10_method_1_code
def yX8_init : MethodName := ⟨RX8, "<init>", "()V"⟩
abbrev cX8_found : ByteArray := prog_10_method_2_code
def yX8_found : MethodName := ⟨RX8, "found", "(I)I"⟩
abbrev cX8_has : ByteArray := prog_10_method_3_code
def yX8_has : MethodName := ⟨RX8, "has", "(I)Z"⟩
abbrev cX8_hasYard : ByteArray := prog_10_method_4_code
def yX8_hasYard : MethodName := ⟨RX8, "hasYard", "(I)Z"⟩
abbrev cX8_lay : ByteArray := prog_10_method_5_code
def yX8_lay : MethodName := ⟨RX8, "lay", "(III)I"⟩
abbrev cX8_shorten : ByteArray := prog_10_method_6_code
def yX8_shorten : MethodName := ⟨RX8, "shorten", "(IIIII)V"⟩
abbrev cX8_way : ByteArray := prog_10_method_7_code
def yX8_way : MethodName := ⟨RX8, "way", "(II)I"⟩
abbrev cX8_rideHours : ByteArray := prog_10_method_8_code
def yX8_rideHours : MethodName := ⟨RX8, "rideHours", "(II)I"⟩
def RX9 : String := "HireYard$Tape"
def TX9 : u_T := fun k => match k with
  | 0 => ("HireYard$Tape", "bytes", "[I", true)
  | 1 => ("HireYard$Tape", "length", "I", false)
  | 2 => ("HireYard$Tape", "sorts", "[I", true)
  | 3 => ("HireYard$Tape", "values", "[I", true)
  | 4 => ("HireYard$Tape", "places", "[I", true)
  | 5 => ("HireYard$Tape", "tokens", "I", false)
  | 6 => ("HireYard$Tape", "at", "I", false)
  | 7 => ("HireYard$Tape", "fault", "I", false)
  | 8 => ("HireYard$Tape", "code", "[I", true)
  | _ => ("HireYard$Tape", "codeLength", "I", false)
def tyX9 : Nat → FieldType := fun k => match k with
  | 0 => .array .int
  | 1 => .int
  | 2 => .array .int
  | 3 => .array .int
  | 4 => .array .int
  | 5 => .int
  | 6 => .int
  | 7 => .int
  | 8 => .array .int
  | _ => .int
abbrev wsX90 : List Cond := u_ws RX9 TX9 10
theorem nmX9 : ∀ a, a < 10 → ∀ b, b < 10 → a ≠ b → (TX9 a).2.1 ≠ (TX9 b).2.1 := by decide +kernel
theorem tyX9_ok : ∀ k, k < 10 → parseFieldDescriptor (TX9 k).2.2.1 = some (tyX9 k) := by decide +kernel
abbrev cX9_init : ByteArray := prog_11_method_1_code
def yX9_init : MethodName := ⟨RX9, "<init>", "()V"⟩
abbrev cX9_hasRoom : ByteArray := prog_11_method_2_code
def yX9_hasRoom : MethodName := ⟨RX9, "hasRoom", "()Z"⟩
abbrev cX9_append : ByteArray := prog_11_method_3_code
def yX9_append : MethodName := ⟨RX9, "append", "(I)V"⟩
abbrev cX9_compile : ByteArray := prog_11_method_4_code
def yX9_compile : MethodName := ⟨RX9, "compile", "()I"⟩
abbrev cX9_copyOfCode : ByteArray := prog_11_method_5_code
def yX9_copyOfCode : MethodName := ⟨RX9, "copyOfCode", "()[I"⟩
abbrev cX9_cut : ByteArray := prog_11_method_6_code
def yX9_cut : MethodName := ⟨RX9, "cut", "()V"⟩
abbrev cX9_isLetter : ByteArray := prog_11_method_7_code
def yX9_isLetter : MethodName := ⟨RX9, "isLetter", "(I)Z"⟩
abbrev cX9_isDigit : ByteArray := prog_11_method_8_code
def yX9_isDigit : MethodName := ⟨RX9, "isDigit", "(I)Z"⟩
abbrev cX9_addToken : ByteArray := prog_11_method_9_code
def yX9_addToken : MethodName := ⟨RX9, "addToken", "(III)V"⟩
abbrev cX9_numberOf : ByteArray := prog_11_method_10_code
def yX9_numberOf : MethodName := ⟨RX9, "numberOf", "(II)I"⟩
abbrev cX9_wordSort : ByteArray := prog_11_method_11_code
def yX9_wordSort : MethodName := ⟨RX9, "wordSort", "(II)I"⟩
abbrev cX9_sort : ByteArray := prog_11_method_12_code
def yX9_sort : MethodName := ⟨RX9, "sort", "()I"⟩
abbrev cX9_take : ByteArray := prog_11_method_13_code
def yX9_take : MethodName := ⟨RX9, "take", "(I)Z"⟩
abbrev cX9_need : ByteArray := prog_11_method_14_code
def yX9_need : MethodName := ⟨RX9, "need", "(I)V"⟩
abbrev cX9_fail : ByteArray := prog_11_method_15_code
def yX9_fail : MethodName := ⟨RX9, "fail", "()V"⟩
abbrev cX9_number : ByteArray := prog_11_method_16_code
def yX9_number : MethodName := ⟨RX9, "number", "()I"⟩
abbrev cX9_emit : ByteArray := prog_11_method_17_code
def yX9_emit : MethodName := ⟨RX9, "emit", "(I)V"⟩
abbrev cX9_step : ByteArray := prog_11_method_18_code
def yX9_step : MethodName := ⟨RX9, "step", "()V"⟩
abbrev cX9_sum : ByteArray := prog_11_method_19_code
def yX9_sum : MethodName := ⟨RX9, "sum", "(I)V"⟩
abbrev cX9_product : ByteArray := prog_11_method_20_code
def yX9_product : MethodName := ⟨RX9, "product", "(I)V"⟩
abbrev cX9_operand : ByteArray := prog_11_method_21_code
def yX9_operand : MethodName := ⟨RX9, "operand", "(I)V"⟩
def RX10 : String := "HireYard$Terms"
def TX10 : u_T := fun k => match k with
  | 0 => ("HireYard$Terms", "use", "I", true)
  | 1 => ("HireYard$Terms", "from", "I", true)
  | 2 => ("HireYard$Terms", "made", "I", true)
  | _ => ("HireYard$Terms", "code", "[I", true)
def tyX10 : Nat → FieldType := fun k => match k with
  | 0 => .int
  | 1 => .int
  | 2 => .int
  | _ => .array .int
abbrev wsX100 : List Cond := u_ws RX10 TX10 4
theorem nmX10 : ∀ a, a < 4 → ∀ b, b < 4 → a ≠ b → (TX10 a).2.1 ≠ (TX10 b).2.1 := by decide +kernel
theorem tyX10_ok : ∀ k, k < 4 → parseFieldDescriptor (TX10 k).2.2.1 = some (tyX10 k) := by decide +kernel
abbrev cX10_init : ByteArray := prog_12_method_1_code
def yX10_init : MethodName := ⟨RX10, "<init>", "(III[I)V"⟩
abbrev cX10_inForce : ByteArray := prog_12_method_2_code
def yX10_inForce : MethodName := ⟨RX10, "inForce", "(III)Z"⟩
abbrev cX10_give : ByteArray := prog_12_method_3_code
def yX10_give : MethodName := ⟨RX10, "give", "([I[I)I"⟩
abbrev cX10_run : ByteArray := prog_12_method_4_code
def yX10_run : MethodName := ⟨RX10, "run", "(II[I[I)I"⟩
abbrev cX10_work : ByteArray := prog_12_method_5_code
def yX10_work : MethodName := ⟨RX10, "work", "(III)I"⟩
def RX11 : String := "HireYard"
def TX11 : u_T := fun k => match k with
  | 0 => ("HireYard", "hour", "I", false)
  | 1 => ("HireYard", "readings", "I", false)
  | 2 => ("HireYard", "rainy", "[Z", true)
  | 3 => ("HireYard", "roads", "LHireYard$Roads;", true)
  | 4 => ("HireYard", "kinds", "[LHireYard$Kind;", true)
  | 5 => ("HireYard", "kindCount", "I", false)
  | 6 => ("HireYard", "machines", "[LHireYard$Machine;", true)
  | 7 => ("HireYard", "machineCount", "I", false)
  | 8 => ("HireYard", "customerTowns", "[I", true)
  | 9 => ("HireYard", "customerPapers", "[I", true)
  | 10 => ("HireYard", "customerCount", "I", false)
  | 11 => ("HireYard", "orders", "[LHireYard$Order;", true)
  | 12 => ("HireYard", "orderCount", "I", false)
  | 13 => ("HireYard", "log", "LHireYard$Log;", true)
  | 14 => ("HireYard", "match", "LHireYard$Match;", true)
  | 15 => ("HireYard", "lorry", "LHireYard$Lorry;", true)
  | 16 => ("HireYard", "tape", "LHireYard$Tape;", true)
  | _ => ("HireYard", "bills", "LHireYard$Bills;", true)
def tyX11 : Nat → FieldType := fun k => match k with
  | 0 => .int
  | 1 => .int
  | 2 => .array .boolean
  | 3 => .object "HireYard$Roads"
  | 4 => .array (.object "HireYard$Kind")
  | 5 => .int
  | 6 => .array (.object "HireYard$Machine")
  | 7 => .int
  | 8 => .array .int
  | 9 => .array .int
  | 10 => .int
  | 11 => .array (.object "HireYard$Order")
  | 12 => .int
  | 13 => .object "HireYard$Log"
  | 14 => .object "HireYard$Match"
  | 15 => .object "HireYard$Lorry"
  | 16 => .object "HireYard$Tape"
  | _ => .object "HireYard$Bills"
abbrev wsX110 : List Cond := u_ws RX11 TX11 18
theorem nmX11 : ∀ a, a < 18 → ∀ b, b < 18 → a ≠ b → (TX11 a).2.1 ≠ (TX11 b).2.1 := by decide +kernel
theorem tyX11_ok : ∀ k, k < 18 → parseFieldDescriptor (TX11 k).2.2.1 = some (tyX11 k) := by decide +kernel
abbrev cX11_init : ByteArray := prog_1_method_1_code
def yX11_init : MethodName := ⟨RX11, "<init>", "()V"⟩
abbrev cX11_town : ByteArray := prog_1_method_2_code
def yX11_town : MethodName := ⟨RX11, "town", "(I)I"⟩
abbrev cX11_road : ByteArray := prog_1_method_3_code
def yX11_road : MethodName := ⟨RX11, "road", "(III)I"⟩
abbrev cX11_far : ByteArray := prog_1_method_4_code
def yX11_far : MethodName := ⟨RX11, "far", "(II)I"⟩
abbrev cX11_hours : ByteArray := prog_1_method_5_code
def yX11_hours : MethodName := ⟨RX11, "hours", "(I)I"⟩
abbrev cX11_rain : ByteArray := prog_1_method_6_code
def yX11_rain : MethodName := ⟨RX11, "rain", "(II)I"⟩
abbrev cX11_type : ByteArray := prog_1_method_7_code
def yX11_type : MethodName := ⟨RX11, "type", "(IIII)I"⟩
abbrev cX11_instead : ByteArray := prog_1_method_8_code
def yX11_instead : MethodName := ⟨RX11, "instead", "(III)I"⟩
abbrev cX11_mark : ByteArray := prog_1_method_9_code
def yX11_mark : MethodName := ⟨RX11, "mark", "(III)I"⟩
abbrev cX11_machine : ByteArray := prog_1_method_10_code
def yX11_machine : MethodName := ⟨RX11, "machine", "(III)I"⟩
abbrev cX11_link : ByteArray := prog_1_method_11_code
def yX11_link : MethodName := ⟨RX11, "link", "(III)I"⟩
abbrev cX11_ofMachine : ByteArray := prog_1_method_12_code
def yX11_ofMachine : MethodName := ⟨RX11, "ofMachine", "(II)I"⟩
abbrev cX11_look : ByteArray := prog_1_method_13_code
def yX11_look : MethodName := ⟨RX11, "look", "(II)I"⟩
abbrev cX11_broken : ByteArray := prog_1_method_14_code
def yX11_broken : MethodName := ⟨RX11, "broken", "(II)I"⟩
abbrev cX11_gone : ByteArray := prog_1_method_15_code
def yX11_gone : MethodName := ⟨RX11, "gone", "(II)I"⟩
abbrev cX11_read : ByteArray := prog_1_method_16_code
def yX11_read : MethodName := ⟨RX11, "read", "(II)I"⟩
abbrev cX11_track : ByteArray := prog_1_method_17_code
def yX11_track : MethodName := ⟨RX11, "track", "(II)I"⟩
abbrev cX11_theft : ByteArray := prog_1_method_18_code
def yX11_theft : MethodName := ⟨RX11, "theft", "(II)I"⟩
abbrev cX11_customer : ByteArray := prog_1_method_19_code
def yX11_customer : MethodName := ⟨RX11, "customer", "(II)I"⟩
abbrev cX11_order : ByteArray := prog_1_method_20_code
def yX11_order : MethodName := ⟨RX11, "order", "(IIIII)I"⟩
abbrev cX11_why : ByteArray := prog_1_method_21_code
def yX11_why : MethodName := ⟨RX11, "why", "(II)I"⟩
abbrev cX11_list : ByteArray := prog_1_method_22_code
def yX11_list : MethodName := ⟨RX11, "list", "(I)I"⟩
abbrev cX11_best : ByteArray := prog_1_method_23_code
def yX11_best : MethodName := ⟨RX11, "best", "()I"⟩
abbrev cX11_miles : ByteArray := prog_1_method_24_code
def yX11_miles : MethodName := ⟨RX11, "miles", "()I"⟩
abbrev cX11_round : ByteArray := prog_1_method_25_code
def yX11_round : MethodName := ⟨RX11, "round", "()I"⟩
abbrev cX11_stop : ByteArray := prog_1_method_26_code
def yX11_stop : MethodName := ⟨RX11, "stop", "(I)I"⟩
abbrev cX11_stopped : ByteArray := prog_1_method_27_code
def yX11_stopped : MethodName := ⟨RX11, "stopped", "(I)I"⟩
abbrev cX11_send : ByteArray := prog_1_method_28_code
def yX11_send : MethodName := ⟨RX11, "send", "(I)I"⟩
abbrev cX11_fetch : ByteArray := prog_1_method_29_code
def yX11_fetch : MethodName := ⟨RX11, "fetch", "(II)I"⟩
abbrev cX11_off : ByteArray := prog_1_method_30_code
def yX11_off : MethodName := ⟨RX11, "off", "(I)I"⟩
abbrev cX11_ofOrder : ByteArray := prog_1_method_31_code
def yX11_ofOrder : MethodName := ⟨RX11, "ofOrder", "(II)I"⟩
abbrev cX11_said : ByteArray := prog_1_method_32_code
def yX11_said : MethodName := ⟨RX11, "said", "(III)I"⟩
abbrev cX11_days : ByteArray := prog_1_method_33_code
def yX11_days : MethodName := ⟨RX11, "days", "(II)I"⟩
abbrev cX11_dayOf : ByteArray := prog_1_method_34_code
def yX11_dayOf : MethodName := ⟨RX11, "dayOf", "(II)I"⟩
abbrev cX11_feed : ByteArray := prog_1_method_35_code
def yX11_feed : MethodName := ⟨RX11, "feed", "(IIIII)I"⟩
abbrev cX11_end : ByteArray := prog_1_method_36_code
def yX11_end : MethodName := ⟨RX11, "end", "(I)I"⟩
abbrev cX11_terms : ByteArray := prog_1_method_37_code
def yX11_terms : MethodName := ⟨RX11, "terms", "(II)I"⟩
abbrev cX11_gives : ByteArray := prog_1_method_38_code
def yX11_gives : MethodName := ⟨RX11, "gives", "(III)I"⟩
abbrev cX11_bill : ByteArray := prog_1_method_39_code
def yX11_bill : MethodName := ⟨RX11, "bill", "(III)I"⟩
abbrev cX11_next : ByteArray := prog_1_method_40_code
def yX11_next : MethodName := ⟨RX11, "next", "(II)I"⟩
abbrev cX11_looked : ByteArray := prog_1_method_41_code
def yX11_looked : MethodName := ⟨RX11, "looked", "(III)I"⟩
abbrev cX11_fuel : ByteArray := prog_1_method_42_code
def yX11_fuel : MethodName := ⟨RX11, "fuel", "(III)I"⟩
abbrev cX11_harm : ByteArray := prog_1_method_43_code
def yX11_harm : MethodName := ⟨RX11, "harm", "(II)I"⟩
abbrev cX11_share : ByteArray := prog_1_method_44_code
def yX11_share : MethodName := ⟨RX11, "share", "(II)I"⟩
abbrev cX11_chain : ByteArray := prog_1_method_45_code
def yX11_chain : MethodName := ⟨RX11, "chain", "(III)I"⟩
abbrev cX11_rank : ByteArray := prog_1_method_46_code
def yX11_rank : MethodName := ⟨RX11, "rank", "(II)I"⟩
abbrev cX11_idle : ByteArray := prog_1_method_47_code
def yX11_idle : MethodName := ⟨RX11, "idle", "(III)I"⟩
abbrev cX11_move : ByteArray := prog_1_method_48_code
def yX11_move : MethodName := ⟨RX11, "move", "(I)I"⟩
abbrev cX11_count : ByteArray := prog_1_method_49_code
def yX11_count : MethodName := ⟨RX11, "count", "(I)I"⟩
abbrev cX11_within : ByteArray := prog_1_method_50_code
def yX11_within : MethodName := ⟨RX11, "within", "(III)Z"⟩
abbrev cX11_isFlag : ByteArray := prog_1_method_51_code
def yX11_isFlag : MethodName := ⟨RX11, "isFlag", "(I)Z"⟩
abbrev cX11_kindOf : ByteArray := prog_1_method_52_code
def yX11_kindOf : MethodName := ⟨RX11, "kindOf", "(I)LHireYard$Kind;"⟩
abbrev cX11_machineOf : ByteArray := prog_1_method_53_code
def yX11_machineOf : MethodName := ⟨RX11, "machineOf", "(I)LHireYard$Machine;"⟩
abbrev cX11_orderOf : ByteArray := prog_1_method_54_code
def yX11_orderOf : MethodName := ⟨RX11, "orderOf", "(I)LHireYard$Order;"⟩
abbrev cX11_isCustomer : ByteArray := prog_1_method_55_code
def yX11_isCustomer : MethodName := ⟨RX11, "isCustomer", "(I)Z"⟩
abbrev cX11_begunOrder : ByteArray := prog_1_method_56_code
def yX11_begunOrder : MethodName := ⟨RX11, "begunOrder", "(I)LHireYard$Order;"⟩
abbrev cX11_learn : ByteArray := prog_1_method_57_code
def yX11_learn : MethodName := ⟨RX11, "learn", "(LHireYard$Order;)V"⟩
abbrev cX11_priceOf : ByteArray := prog_1_method_58_code
def yX11_priceOf : MethodName := ⟨RX11, "priceOf", "(LHireYard$Order;I)I"⟩
abbrev cX11_idleIn : ByteArray := prog_1_method_59_code
def yX11_idleIn : MethodName := ⟨RX11, "idleIn", "(LHireYard$Kind;I)I"⟩
abbrev cX11_wantedIn : ByteArray := prog_1_method_60_code
def yX11_wantedIn : MethodName := ⟨RX11, "wantedIn", "(LHireYard$Kind;I)I"⟩
abbrev cX11_machinesThatAre : ByteArray := prog_1_method_61_code
def yX11_machinesThatAre : MethodName := ⟨RX11, "machinesThatAre", "(I)I"⟩
abbrev cX11_ordersThatAre : ByteArray := prog_1_method_62_code
def yX11_ordersThatAre : MethodName := ⟨RX11, "ordersThatAre", "(I)I"⟩
def RX12 : String := "HireYardModel"
def TX12 : u_T := fun k => match k with
  | 0 => ("HireYardModel", "code", "I", false)
  | 1 => ("HireYardModel", "hour", "I", false)
  | 2 => ("HireYardModel", "towns", "I", false)
  | 3 => ("HireYardModel", "hasYard", "[Z", true)
  | 4 => ("HireYardModel", "roads", "[I", true)
  | 5 => ("HireYardModel", "fars", "[I", true)
  | 6 => ("HireYardModel", "rains", "[Z", true)
  | 7 => ("HireYardModel", "types", "I", false)
  | 8 => ("HireYardModel", "weight", "[I", true)
  | 9 => ("HireYardModel", "lookEvery", "[I", true)
  | 10 => ("HireYardModel", "rate", "[I", true)
  | 11 => ("HireYardModel", "paper", "[I", true)
  | 12 => ("HireYardModel", "worth", "[I", true)
  | 13 => ("HireYardModel", "mayGo", "[Z", true)
  | 14 => ("HireYardModel", "markCost", "[I", true)
  | 15 => ("HireYardModel", "machines", "I", false)
  | 16 => ("HireYardModel", "typeOf", "[I", true)
  | 17 => ("HireYardModel", "meter", "[I", true)
  | 18 => ("HireYardModel", "where", "[I", true)
  | 19 => ("HireYardModel", "townOf", "[I", true)
  | 20 => ("HireYardModel", "till", "[I", true)
  | 21 => ("HireYardModel", "toYard", "[Z", true)
  | 22 => ("HireYardModel", "since", "[I", true)
  | 23 => ("HireYardModel", "state", "[I", true)
  | 24 => ("HireYardModel", "lookTill", "[I", true)
  | 25 => ("HireYardModel", "lookMeter", "[I", true)
  | 26 => ("HireYardModel", "orderOf", "[I", true)
  | 27 => ("HireYardModel", "lastSent", "[I", true)
  | 28 => ("HireYardModel", "stolenOn", "[I", true)
  | 29 => ("HireYardModel", "links", "[I", true)
  | 30 => ("HireYardModel", "linkOwner", "[I", true)
  | 31 => ("HireYardModel", "linkRate", "[I", true)
  | 32 => ("HireYardModel", "readings", "I", false)
  | 33 => ("HireYardModel", "toldReadings", "I", false)
  | 34 => ("HireYardModel", "readMachine", "[I", true)
  | 35 => ("HireYardModel", "readHour", "[I", true)
  | 36 => ("HireYardModel", "readMeter", "[I", true)
  | 37 => ("HireYardModel", "spans", "I", false)
  | 38 => ("HireYardModel", "spanMachine", "[I", true)
  | 39 => ("HireYardModel", "spanFrom", "[I", true)
  | 40 => ("HireYardModel", "spanTo", "[I", true)
  | 41 => ("HireYardModel", "tracks", "I", false)
  | 42 => ("HireYardModel", "trackMachine", "[I", true)
  | 43 => ("HireYardModel", "trackTown", "[I", true)
  | 44 => ("HireYardModel", "trackHour", "[I", true)
  | 45 => ("HireYardModel", "customers", "I", false)
  | 46 => ("HireYardModel", "customerTown", "[I", true)
  | 47 => ("HireYardModel", "papers", "[I", true)
  | 48 => ("HireYardModel", "orders", "I", false)
  | 49 => ("HireYardModel", "customerOf", "[I", true)
  | 50 => ("HireYardModel", "orderType", "[I", true)
  | 51 => ("HireYardModel", "orderFrom", "[I", true)
  | 52 => ("HireYardModel", "orderDays", "[I", true)
  | 53 => ("HireYardModel", "work", "[I", true)
  | 54 => ("HireYardModel", "came", "[I", true)
  | 55 => ("HireYardModel", "orderState", "[I", true)
  | 56 => ("HireYardModel", "machineOf", "[I", true)
  | 57 => ("HireYardModel", "begins", "[I", true)
  | 58 => ("HireYardModel", "ended", "[I", true)
  | 59 => ("HireYardModel", "words", "[I", true)
  | 60 => ("HireYardModel", "marksOf", "[I", true)
  | 61 => ("HireYardModel", "litres", "[I", true)
  | 62 => ("HireYardModel", "listed", "I", false)
  | 63 => ("HireYardModel", "list", "[I", true)
  | 64 => ("HireYardModel", "hasBest", "Z", false)
  | 65 => ("HireYardModel", "bestMiles", "I", false)
  | 66 => ("HireYardModel", "taken", "[Z", true)
  | 67 => ("HireYardModel", "given", "[I", true)
  | 68 => ("HireYardModel", "worthOf", "[J", true)
  | 69 => ("HireYardModel", "worthNow", "[J", true)
  | 70 => ("HireYardModel", "stops", "I", false)
  | 71 => ("HireYardModel", "stop", "[I", true)
  | 72 => ("HireYardModel", "rowAt", "[I", true)
  | 73 => ("HireYardModel", "yardFrom", "I", false)
  | 74 => ("HireYardModel", "foundMany", "I", false)
  | 75 => ("HireYardModel", "found", "[I", true)
  | 76 => ("HireYardModel", "tape", "[B", true)
  | 77 => ("HireYardModel", "taped", "I", false)
  | 78 => ("HireYardModel", "terms", "I", false)
  | 79 => ("HireYardModel", "use", "[I", true)
  | 80 => ("HireYardModel", "made", "[I", true)
  | 81 => ("HireYardModel", "termsFrom", "[I", true)
  | 82 => ("HireYardModel", "steps", "[I", true)
  | 83 => ("HireYardModel", "act", "[I", true)
  | 84 => ("HireYardModel", "with", "[I", true)
  | 85 => ("HireYardModel", "upTo", "[I", true)
  | 86 => ("HireYardModel", "from", "I", false)
  | 87 => ("HireYardModel", "to", "I", false)
  | 88 => ("HireYardModel", "token", "I", false)
  | 89 => ("HireYardModel", "value", "I", false)
  | 90 => ("HireYardModel", "fault", "I", false)
  | 91 => ("HireYardModel", "open", "I", false)
  | 92 => ("HireYardModel", "at", "I", false)
  | 93 => ("HireYardModel", "laid", "I", false)
  | 94 => ("HireYardModel", "facts", "[I", true)
  | 95 => ("HireYardModel", "pile", "[I", true)
  | _ => ("HireYardModel", "billedBy", "I", false)
def tyX12 : Nat → FieldType := fun k => match k with
  | 0 => .int
  | 1 => .int
  | 2 => .int
  | 3 => .array .boolean
  | 4 => .array .int
  | 5 => .array .int
  | 6 => .array .boolean
  | 7 => .int
  | 8 => .array .int
  | 9 => .array .int
  | 10 => .array .int
  | 11 => .array .int
  | 12 => .array .int
  | 13 => .array .boolean
  | 14 => .array .int
  | 15 => .int
  | 16 => .array .int
  | 17 => .array .int
  | 18 => .array .int
  | 19 => .array .int
  | 20 => .array .int
  | 21 => .array .boolean
  | 22 => .array .int
  | 23 => .array .int
  | 24 => .array .int
  | 25 => .array .int
  | 26 => .array .int
  | 27 => .array .int
  | 28 => .array .int
  | 29 => .array .int
  | 30 => .array .int
  | 31 => .array .int
  | 32 => .int
  | 33 => .int
  | 34 => .array .int
  | 35 => .array .int
  | 36 => .array .int
  | 37 => .int
  | 38 => .array .int
  | 39 => .array .int
  | 40 => .array .int
  | 41 => .int
  | 42 => .array .int
  | 43 => .array .int
  | 44 => .array .int
  | 45 => .int
  | 46 => .array .int
  | 47 => .array .int
  | 48 => .int
  | 49 => .array .int
  | 50 => .array .int
  | 51 => .array .int
  | 52 => .array .int
  | 53 => .array .int
  | 54 => .array .int
  | 55 => .array .int
  | 56 => .array .int
  | 57 => .array .int
  | 58 => .array .int
  | 59 => .array .int
  | 60 => .array .int
  | 61 => .array .int
  | 62 => .int
  | 63 => .array .int
  | 64 => .boolean
  | 65 => .int
  | 66 => .array .boolean
  | 67 => .array .int
  | 68 => .array .long
  | 69 => .array .long
  | 70 => .int
  | 71 => .array .int
  | 72 => .array .int
  | 73 => .int
  | 74 => .int
  | 75 => .array .int
  | 76 => .array .byte
  | 77 => .int
  | 78 => .int
  | 79 => .array .int
  | 80 => .array .int
  | 81 => .array .int
  | 82 => .array .int
  | 83 => .array .int
  | 84 => .array .int
  | 85 => .array .int
  | 86 => .int
  | 87 => .int
  | 88 => .int
  | 89 => .int
  | 90 => .int
  | 91 => .int
  | 92 => .int
  | 93 => .int
  | 94 => .array .int
  | 95 => .array .int
  | _ => .int
abbrev wsX120 : List Cond := u_ws RX12 TX12 97
theorem nmX12 : ∀ a, a < 97 → ∀ b, b < 97 → a ≠ b → (TX12 a).2.1 ≠ (TX12 b).2.1 := by decide +kernel
theorem tyX12_ok : ∀ k, k < 97 → parseFieldDescriptor (TX12 k).2.2.1 = some (tyX12 k) := by decide +kernel
abbrev cX12_init : ByteArray := prog_14_method_1_code
def yX12_init : MethodName := ⟨RX12, "<init>", "()V"⟩
abbrev cX12_in : ByteArray := prog_14_method_3_code
def yX12_in : MethodName := ⟨RX12, "in", "(III)Z"⟩
abbrev cX12_isDay : ByteArray := prog_14_method_4_code
def yX12_isDay : MethodName := ⟨RX12, "isDay", "(I)Z"⟩
abbrev cX12_today : ByteArray := prog_14_method_5_code
def yX12_today : MethodName := ⟨RX12, "today", "()I"⟩
abbrev cX12_isTown : ByteArray := prog_14_method_6_code
def yX12_isTown : MethodName := ⟨RX12, "isTown", "(I)Z"⟩
abbrev cX12_farOf : ByteArray := prog_14_method_7_code
def yX12_farOf : MethodName := ⟨RX12, "farOf", "(II)I"⟩
abbrev cX12_findFars : ByteArray := prog_14_method_8_code
def yX12_findFars : MethodName := ⟨RX12, "findFars", "()V"⟩
abbrev cX12_town : ByteArray := prog_14_method_9_code
def yX12_town : MethodName := ⟨RX12, "town", "(I)I"⟩
abbrev cX12_road : ByteArray := prog_14_method_10_code
def yX12_road : MethodName := ⟨RX12, "road", "(III)I"⟩
abbrev cX12_far : ByteArray := prog_14_method_11_code
def yX12_far : MethodName := ⟨RX12, "far", "(II)I"⟩
abbrev cX12_rain : ByteArray := prog_14_method_12_code
def yX12_rain : MethodName := ⟨RX12, "rain", "(II)I"⟩
abbrev cX12_isType : ByteArray := prog_14_method_13_code
def yX12_isType : MethodName := ⟨RX12, "isType", "(I)Z"⟩
abbrev cX12_isMachine : ByteArray := prog_14_method_14_code
def yX12_isMachine : MethodName := ⟨RX12, "isMachine", "(I)Z"⟩
abbrev cX12_type : ByteArray := prog_14_method_15_code
def yX12_type : MethodName := ⟨RX12, "type", "(IIII)I"⟩
abbrev cX12_instead : ByteArray := prog_14_method_16_code
def yX12_instead : MethodName := ⟨RX12, "instead", "(III)I"⟩
abbrev cX12_mark : ByteArray := prog_14_method_17_code
def yX12_mark : MethodName := ⟨RX12, "mark", "(III)I"⟩
abbrev cX12_addReading : ByteArray := prog_14_method_18_code
def yX12_addReading : MethodName := ⟨RX12, "addReading", "(II)V"⟩
abbrev cX12_readBy : ByteArray := prog_14_method_19_code
def yX12_readBy : MethodName := ⟨RX12, "readBy", "(II)I"⟩
abbrev cX12_readFrom : ByteArray := prog_14_method_20_code
def yX12_readFrom : MethodName := ⟨RX12, "readFrom", "(II)I"⟩
abbrev cX12_machine : ByteArray := prog_14_method_21_code
def yX12_machine : MethodName := ⟨RX12, "machine", "(III)I"⟩
abbrev cX12_link : ByteArray := prog_14_method_22_code
def yX12_link : MethodName := ⟨RX12, "link", "(III)I"⟩
abbrev cX12_sinceLook : ByteArray := prog_14_method_23_code
def yX12_sinceLook : MethodName := ⟨RX12, "sinceLook", "(I)I"⟩
abbrev cX12_isDue : ByteArray := prog_14_method_24_code
def yX12_isDue : MethodName := ⟨RX12, "isDue", "(I)Z"⟩
abbrev cX12_lapses : ByteArray := prog_14_method_25_code
def yX12_lapses : MethodName := ⟨RX12, "lapses", "(II)Z"⟩
abbrev cX12_ofMachine : ByteArray := prog_14_method_26_code
def yX12_ofMachine : MethodName := ⟨RX12, "ofMachine", "(II)I"⟩
abbrev cX12_isFree : ByteArray := prog_14_method_27_code
def yX12_isFree : MethodName := ⟨RX12, "isFree", "(I)Z"⟩
abbrev cX12_look : ByteArray := prog_14_method_28_code
def yX12_look : MethodName := ⟨RX12, "look", "(II)I"⟩
abbrev cX12_endSpan : ByteArray := prog_14_method_29_code
def yX12_endSpan : MethodName := ⟨RX12, "endSpan", "(I)V"⟩
abbrev cX12_broken : ByteArray := prog_14_method_30_code
def yX12_broken : MethodName := ⟨RX12, "broken", "(II)I"⟩
abbrev cX12_gone : ByteArray := prog_14_method_31_code
def yX12_gone : MethodName := ⟨RX12, "gone", "(II)I"⟩
abbrev cX12_read : ByteArray := prog_14_method_32_code
def yX12_read : MethodName := ⟨RX12, "read", "(II)I"⟩
abbrev cX12_track : ByteArray := prog_14_method_33_code
def yX12_track : MethodName := ⟨RX12, "track", "(II)I"⟩
abbrev cX12_theft : ByteArray := prog_14_method_34_code
def yX12_theft : MethodName := ⟨RX12, "theft", "(II)I"⟩
abbrev cX12_hours : ByteArray := prog_14_method_35_code
def yX12_hours : MethodName := ⟨RX12, "hours", "(I)I"⟩
abbrev cX12_arrive : ByteArray := prog_14_method_36_code
def yX12_arrive : MethodName := ⟨RX12, "arrive", "(I)V"⟩
abbrev cX12_load : ByteArray := prog_14_method_37_code
def yX12_load : MethodName := ⟨RX12, "load", "(IIZ)V"⟩
abbrev cX12_isCustomer : ByteArray := prog_14_method_38_code
def yX12_isCustomer : MethodName := ⟨RX12, "isCustomer", "(I)Z"⟩
abbrev cX12_isOrder : ByteArray := prog_14_method_39_code
def yX12_isOrder : MethodName := ⟨RX12, "isOrder", "(I)Z"⟩
abbrev cX12_customer : ByteArray := prog_14_method_40_code
def yX12_customer : MethodName := ⟨RX12, "customer", "(II)I"⟩
abbrev cX12_order : ByteArray := prog_14_method_41_code
def yX12_order : MethodName := ⟨RX12, "order", "(IIIII)I"⟩
abbrev cX12_townOfOrder : ByteArray := prog_14_method_42_code
def yX12_townOfOrder : MethodName := ⟨RX12, "townOfOrder", "(I)I"⟩
abbrev cX12_whyNot : ByteArray := prog_14_method_43_code
def yX12_whyNot : MethodName := ⟨RX12, "whyNot", "(II)I"⟩
abbrev cX12_why : ByteArray := prog_14_method_44_code
def yX12_why : MethodName := ⟨RX12, "why", "(II)I"⟩
abbrev cX12_list : ByteArray := prog_14_method_45_code
def yX12_list : MethodName := ⟨RX12, "list", "(I)I"⟩
abbrev cX12_mayHave : ByteArray := prog_14_method_46_code
def yX12_mayHave : MethodName := ⟨RX12, "mayHave", "(II)Z"⟩
abbrev cX12_findWorths : ByteArray := prog_14_method_47_code
def yX12_findWorths : MethodName := ⟨RX12, "findWorths", "()V"⟩
abbrev cX12_worthBy : ByteArray := prog_14_method_48_code
def yX12_worthBy : MethodName := ⟨RX12, "worthBy", "(II)J"⟩
abbrev cX12_most : ByteArray := prog_14_method_49_code
def yX12_most : MethodName := ⟨RX12, "most", "(I)J"⟩
abbrev cX12_best : ByteArray := prog_14_method_50_code
def yX12_best : MethodName := ⟨RX12, "best", "()I"⟩
abbrev cX12_miles : ByteArray := prog_14_method_51_code
def yX12_miles : MethodName := ⟨RX12, "miles", "()I"⟩
abbrev cX12_isPromised : ByteArray := prog_14_method_52_code
def yX12_isPromised : MethodName := ⟨RX12, "isPromised", "(I)Z"⟩
abbrev cX12_stop : ByteArray := prog_14_method_53_code
def yX12_stop : MethodName := ⟨RX12, "stop", "(I)I"⟩
abbrev cX12_milesOfRow : ByteArray := prog_14_method_54_code
def yX12_milesOfRow : MethodName := ⟨RX12, "milesOfRow", "(I)I"⟩
abbrev cX12_isUsed : ByteArray := prog_14_method_55_code
def yX12_isUsed : MethodName := ⟨RX12, "isUsed", "(I)Z"⟩
abbrev cX12_round : ByteArray := prog_14_method_56_code
def yX12_round : MethodName := ⟨RX12, "round", "()I"⟩
abbrev cX12_stopped : ByteArray := prog_14_method_57_code
def yX12_stopped : MethodName := ⟨RX12, "stopped", "(I)I"⟩
abbrev cX12_send : ByteArray := prog_14_method_58_code
def yX12_send : MethodName := ⟨RX12, "send", "(I)I"⟩
abbrev cX12_hasBegun : ByteArray := prog_14_method_59_code
def yX12_hasBegun : MethodName := ⟨RX12, "hasBegun", "(I)Z"⟩
abbrev cX12_fetch : ByteArray := prog_14_method_60_code
def yX12_fetch : MethodName := ⟨RX12, "fetch", "(II)I"⟩
abbrev cX12_off : ByteArray := prog_14_method_61_code
def yX12_off : MethodName := ⟨RX12, "off", "(I)I"⟩
abbrev cX12_ofOrder : ByteArray := prog_14_method_62_code
def yX12_ofOrder : MethodName := ⟨RX12, "ofOrder", "(II)I"⟩
abbrev cX12_endOf : ByteArray := prog_14_method_63_code
def yX12_endOf : MethodName := ⟨RX12, "endOf", "(I)I"⟩
abbrev cX12_daysOf : ByteArray := prog_14_method_64_code
def yX12_daysOf : MethodName := ⟨RX12, "daysOf", "(I)I"⟩
abbrev cX12_said : ByteArray := prog_14_method_65_code
def yX12_said : MethodName := ⟨RX12, "said", "(III)I"⟩
abbrev cX12_dayIs : ByteArray := prog_14_method_66_code
def yX12_dayIs : MethodName := ⟨RX12, "dayIs", "(II)I"⟩
abbrev cX12_worked : ByteArray := prog_14_method_67_code
def yX12_worked : MethodName := ⟨RX12, "worked", "(II)I"⟩
abbrev cX12_days : ByteArray := prog_14_method_68_code
def yX12_days : MethodName := ⟨RX12, "days", "(II)I"⟩
abbrev cX12_dayOf : ByteArray := prog_14_method_69_code
def yX12_dayOf : MethodName := ⟨RX12, "dayOf", "(II)I"⟩
abbrev cX12_feed : ByteArray := prog_14_method_70_code
def yX12_feed : MethodName := ⟨RX12, "feed", "(IIIII)I"⟩
abbrev cX12_feedOne : ByteArray := prog_14_method_71_code
def yX12_feedOne : MethodName := ⟨RX12, "feedOne", "(I)V"⟩
abbrev cX12_end : ByteArray := prog_14_method_72_code
def yX12_end : MethodName := ⟨RX12, "end", "(I)I"⟩
abbrev cX12_isLetter : ByteArray := prog_14_method_73_code
def yX12_isLetter : MethodName := ⟨RX12, "isLetter", "(I)Z"⟩
abbrev cX12_isDigit : ByteArray := prog_14_method_74_code
def yX12_isDigit : MethodName := ⟨RX12, "isDigit", "(I)Z"⟩
abbrev cX12_nextToken : ByteArray := prog_14_method_75_code
def yX12_nextToken : MethodName := ⟨RX12, "nextToken", "()V"⟩
abbrev cX12_isWord : ByteArray := prog_14_method_76_code
def yX12_isWord : MethodName := ⟨RX12, "isWord", "(J)Z"⟩
abbrev cX12_wrong : ByteArray := prog_14_method_77_code
def yX12_wrong : MethodName := ⟨RX12, "wrong", "()V"⟩
abbrev cX12_lay : ByteArray := prog_14_method_78_code
def yX12_lay : MethodName := ⟨RX12, "lay", "(III)V"⟩
abbrev cX12_takes : ByteArray := prog_14_method_79_code
def yX12_takes : MethodName := ⟨RX12, "takes", "(I)Z"⟩
abbrev cX12_opens : ByteArray := prog_14_method_80_code
def yX12_opens : MethodName := ⟨RX12, "opens", "()Z"⟩
abbrev cX12_closes : ByteArray := prog_14_method_81_code
def yX12_closes : MethodName := ⟨RX12, "closes", "()Z"⟩
abbrev cX12_nameOf : ByteArray := prog_14_method_82_code
def yX12_nameOf : MethodName := ⟨RX12, "nameOf", "()I"⟩
abbrev cX12_operand : ByteArray := prog_14_method_83_code
def yX12_operand : MethodName := ⟨RX12, "operand", "()V"⟩
abbrev cX12_product : ByteArray := prog_14_method_84_code
def yX12_product : MethodName := ⟨RX12, "product", "()V"⟩
abbrev cX12_sum : ByteArray := prog_14_method_85_code
def yX12_sum : MethodName := ⟨RX12, "sum", "()V"⟩
abbrev cX12_step : ByteArray := prog_14_method_86_code
def yX12_step : MethodName := ⟨RX12, "step", "()V"⟩
abbrev cX12_terms : ByteArray := prog_14_method_87_code
def yX12_terms : MethodName := ⟨RX12, "terms", "(II)I"⟩
abbrev cX12_both : ByteArray := prog_14_method_88_code
def yX12_both : MethodName := ⟨RX12, "both", "(III)I"⟩
abbrev cX12_works : ByteArray := prog_14_method_89_code
def yX12_works : MethodName := ⟨RX12, "works", "(I)I"⟩
abbrev cX12_hoursOf : ByteArray := prog_14_method_90_code
def yX12_hoursOf : MethodName := ⟨RX12, "hoursOf", "(I)I"⟩
abbrev cX12_rainOf : ByteArray := prog_14_method_91_code
def yX12_rainOf : MethodName := ⟨RX12, "rainOf", "(I)I"⟩
abbrev cX12_brokenOf : ByteArray := prog_14_method_92_code
def yX12_brokenOf : MethodName := ⟨RX12, "brokenOf", "(I)I"⟩
abbrev cX12_marksFound : ByteArray := prog_14_method_93_code
def yX12_marksFound : MethodName := ⟨RX12, "marksFound", "(I)I"⟩
abbrev cX12_harmOf : ByteArray := prog_14_method_94_code
def yX12_harmOf : MethodName := ⟨RX12, "harmOf", "(I)I"⟩
abbrev cX12_fuelOf : ByteArray := prog_14_method_95_code
def yX12_fuelOf : MethodName := ⟨RX12, "fuelOf", "(I)I"⟩
abbrev cX12_tell : ByteArray := prog_14_method_96_code
def yX12_tell : MethodName := ⟨RX12, "tell", "(III)V"⟩
abbrev cX12_gives : ByteArray := prog_14_method_97_code
def yX12_gives : MethodName := ⟨RX12, "gives", "(III)I"⟩
abbrev cX12_lesser : ByteArray := prog_14_method_98_code
def yX12_lesser : MethodName := ⟨RX12, "lesser", "(III)I"⟩
abbrev cX12_bill : ByteArray := prog_14_method_99_code
def yX12_bill : MethodName := ⟨RX12, "bill", "(III)I"⟩
abbrev cX12_next : ByteArray := prog_14_method_100_code
def yX12_next : MethodName := ⟨RX12, "next", "(II)I"⟩
abbrev cX12_mayTell : ByteArray := prog_14_method_101_code
def yX12_mayTell : MethodName := ⟨RX12, "mayTell", "(II)Z"⟩
abbrev cX12_looked : ByteArray := prog_14_method_102_code
def yX12_looked : MethodName := ⟨RX12, "looked", "(III)I"⟩
abbrev cX12_fuel : ByteArray := prog_14_method_103_code
def yX12_fuel : MethodName := ⟨RX12, "fuel", "(III)I"⟩
abbrev cX12_harm : ByteArray := prog_14_method_104_code
def yX12_harm : MethodName := ⟨RX12, "harm", "(II)I"⟩
abbrev cX12_share : ByteArray := prog_14_method_105_code
def yX12_share : MethodName := ⟨RX12, "share", "(II)I"⟩
abbrev cX12_chain : ByteArray := prog_14_method_106_code
def yX12_chain : MethodName := ⟨RX12, "chain", "(III)I"⟩
abbrev cX12_rank : ByteArray := prog_14_method_107_code
def yX12_rank : MethodName := ⟨RX12, "rank", "(II)I"⟩
abbrev cX12_idleOf : ByteArray := prog_14_method_108_code
def yX12_idleOf : MethodName := ⟨RX12, "idleOf", "(II)I"⟩
abbrev cX12_wantedOf : ByteArray := prog_14_method_109_code
def yX12_wantedOf : MethodName := ⟨RX12, "wantedOf", "(II)I"⟩
abbrev cX12_idle : ByteArray := prog_14_method_110_code
def yX12_idle : MethodName := ⟨RX12, "idle", "(III)I"⟩
abbrev cX12_move : ByteArray := prog_14_method_111_code
def yX12_move : MethodName := ⟨RX12, "move", "(I)I"⟩
abbrev cX12_count : ByteArray := prog_14_method_112_code
def yX12_count : MethodName := ⟨RX12, "count", "(I)I"⟩
def RJ9 : String := "java/lang/Math"
abbrev cJ9_max_7cf53 : ByteArray := prog_16_method_65_code
def yJ9_max_7cf53 : MethodName := ⟨RJ9, "max", "(II)I"⟩
abbrev cJ9_min_7cf53 : ByteArray := prog_16_method_69_code
def yJ9_min_7cf53 : MethodName := ⟨RJ9, "min", "(II)I"⟩
abbrev cJ9_min_f86c9 : ByteArray := prog_16_method_70_code
def yJ9_min_f86c9 : MethodName := ⟨RJ9, "min", "(JJ)J"⟩
def RJ7 : String := "java/util/Arrays"
abbrev cJ7_fill_d0a16 : ByteArray := prog_21_method_101_code
def yJ7_fill_d0a16 : MethodName := ⟨RJ7, "fill", "([JJ)V"⟩
abbrev cJ7_copyOf_59c91 : ByteArray := prog_21_method_123_code
def yJ7_copyOf_59c91 : MethodName := ⟨RJ7, "copyOf", "([II)[I"⟩
def RL : String := "HireYardLaw"
abbrev cL_law : ByteArray := code
def yL_law : MethodName := ⟨RL, "law", "([I)Z"⟩
abbrev vwCl : List vw_C := [(RX0, TX0, 4), (RX1, TX1, 8), (RX2, TX2, 8), (RX3, TX3, 5), (RX4, TX4, 16), (RX5, TX5, 5), (RX6, TX6, 4), (RX7, TX7, 16), (RX8, TX8, 4), (RX9, TX9, 10), (RX10, TX10, 4), (RX11, TX11, 18), (RX12, TX12, 97)]
abbrev mR : Type := Instr × Nat × Nat × Nat × Nat
def mz : Option mR := none
def mi (I : Instr) (n : Nat) : Option mR := some (I, n, 0, 0, 0)
def mj (I : Instr) (n a b q : Nat) : Option mR := some (I, n, a, b, q)
def kX0_init : List (List (Option mR)) := [[mi (.aload 0) 1, mi .pop2 3, mz, mz, mi (.aload 0) 1, mi (.iconst 16) 2, mz, mj (.anewarray 11) 3 6 10 1, mz, mz, mj (.putfield 13) 3 0 0 2, mz, mz, mi (.aload 0) 1, mi (.iconst 14) 2, mz],
  [mi (.newarray .int) 2, mz, mj (.putfield 19) 3 0 2 3, mz, mz, mi (.aload 0) 1, mi (.iconst 64) 2, mz, mi (.newarray .int) 2, mz, mj (.putfield 23) 3 0 3 4, mz, mz, mi .return_ 1]]
def kX0_isFull : List (List (Option mR)) := [[mi (.aload 0) 1, mj (.getfield 26) 3 0 1 5, mz, mz, mi (.iconst 16) 2, mz, mi (.if_icmp .lt 7) 3, mz, mz, mi (.iconst 1) 1, mi (.goto 4) 3, mz, mz, mi (.iconst 0) 1, mi .ireturn 1]]
def kX0_has : List (List (Option mR)) := [[mi (.iload 1) 1, mi (.ifCond .lt 21) 3, mz, mz, mi (.iload 1) 1, mi (.aload 0) 1, mj (.getfield 26) 3 0 1 5, mz, mz, mi (.if_icmp .ge 13) 3, mz, mz, mi (.iload 1) 1, mi (.iconst 16) 2, mz, mi (.if_icmp .ge 7) 3],
  [mz, mz, mi (.iconst 1) 1, mi (.goto 4) 3, mz, mz, mi (.iconst 0) 1, mi .ireturn 1]]
def kX0_add : List (List (Option mR)) := [[mi (.aload 0) 1, mj (.invokevirtual 30) 3 1 0 6, mz, mz, mi (.ifCond .eq 6) 3, mz, mz, mi (.iconst (-3)) 2, mz, mi .ireturn 1, mi (.aload 0) 1, mj (.getfield 13) 3 0 0 2, mz, mz, mi (.aload 0) 1, mj (.getfield 26) 3 0 1 5],
  [mz, mz, mi (.aload 1) 1, mi .aastore 1, mi (.aload 0) 1, mi .dup 1, mj (.getfield 26) 3 0 1 5, mz, mz, mi .dup_x1 1, mi (.iconst 1) 1, mi .iadd 1, mj (.putfield 26) 3 0 1 5, mz, mz, mi .ireturn 1]]
def kX0_learn : List (List (Option mR)) := [[mi (.aload 0) 1, mj (.getfield 19) 3 0 2 3, mz, mz, mi (.iconst 5) 1, mi (.aload 1) 1, mi (.iload 2) 1, mj (.invokevirtual 34) 3 77 1 7, mz, mz, mi .iastore 1, mi (.aload 0) 1, mi (.aload 1) 1, mi (.aload 1) 1, mi (.iload 2) 1, mj (.invokevirtual 40) 3 74 1 8],
  [mz, mz, mj (.invokevirtual 43) 3 7 2 9, mz, mz, mi (.aload 0) 1, mj (.getfield 19) 3 0 2 3, mz, mz, mi (.iconst 0) 1, mi (.aload 1) 1, mi (.iconst 3) 1, mi (.iload 2) 1, mj (.invokevirtual 47) 3 76 2 10, mz, mz],
  [mi .iastore 1, mi (.aload 0) 1, mj (.getfield 19) 3 0 2 3, mz, mz, mi (.iconst 4) 1, mi (.aload 1) 1, mj (.getfield 51) 3 7 5 11, mz, mz, mj (.getfield 55) 3 1 3 12, mz, mz, mi .iastore 1, mi (.aload 0) 1, mj (.getfield 19) 3 0 2 3],
  [mz, mz, mi (.iconst 9) 2, mz, mi (.aload 1) 1, mj (.invokevirtual 60) 3 82 0 13, mz, mz, mi .iastore 1, mi (.aload 0) 1, mj (.getfield 19) 3 0 2 3, mz, mz, mi (.iconst 10) 2, mz, mi (.aload 1) 1],
  [mj (.invokevirtual 64) 3 81 0 14, mz, mz, mi .iastore 1, mi (.aload 0) 1, mj (.getfield 19) 3 0 2 3, mz, mz, mi (.iconst 11) 2, mz, mi (.aload 1) 1, mj (.getfield 67) 3 7 10 15, mz, mz, mi (.ifnonnull 7) 3, mz],
  [mz, mi (.iconst 0) 1, mi (.goto 13) 3, mz, mz, mi (.aload 1) 1, mj (.getfield 67) 3 7 10 15, mz, mz, mj (.getfield 71) 3 4 1 16, mz, mz, mj (.getfield 74) 3 1 5 17, mz, mz, mi .iastore 1],
  [mi (.aload 0) 1, mj (.getfield 19) 3 0 2 3, mz, mz, mi (.iconst 12) 2, mz, mi (.aload 1) 1, mj (.getfield 67) 3 7 10 15, mz, mz, mi (.ifnull 13) 3, mz, mz, mi (.aload 1) 1, mj (.getfield 67) 3 7 10 15, mz],
  [mz, mj (.getfield 77) 3 4 15 18, mz, mz, mi (.ifCond .ne 7) 3, mz, mz, mi (.iconst 1) 1, mi (.goto 4) 3, mz, mz, mi (.iconst 0) 1, mi .iastore 1, mi (.aload 0) 1, mj (.getfield 19) 3 0 2 3, mz],
  [mz, mi (.iconst 13) 2, mz, mi (.aload 1) 1, mj (.invokevirtual 80) 3 69 0 19, mz, mz, mi (.ifCond .eq 7) 3, mz, mz, mi (.iconst 1) 1, mi (.goto 4) 3, mz, mz, mi (.iconst 0) 1, mi .iastore 1],
  [mi .return_ 1]]
def kX0_learnTroubles : List (List (Option mR)) := [[mi (.aload 1) 1, mi (.iload 2) 1, mj (.invokevirtual 83) 3 73 1 20, mz, mz, mi (.istore 5) 2, mz, mi (.iconst 0) 1, mi (.istore 6) 2, mz, mi (.aload 1) 1, mj (.getfield 86) 3 7 11 21, mz, mz, mi (.iconst 24) 2, mz],
  [mi .idiv 1, mi (.istore 7) 2, mz, mi (.iload 7) 2, mz, mi (.ifCond .lt 45) 3, mz, mz, mi (.iload 7) 2, mz, mi (.aload 3) 1, mi .arraylength 1, mi (.if_icmp .ge 38) 3, mz, mz, mi (.iload 7) 2],
  [mz, mi (.iconst 24) 2, mz, mi .imul 1, mi (.iload 5) 2, mz, mi (.if_icmp .ge 28) 3, mz, mz, mi (.aload 3) 1, mi (.iload 7) 2, mz, mi .baload 1, mi (.ifCond .eq 15) 3, mz, mz],
  [mi (.iload 5) 2, mz, mi (.aload 1) 1, mj (.getfield 86) 3 7 11 21, mz, mz, mi (.if_icmp .le 6) 3, mz, mz, mi (.iinc 6 1) 3, mz, mz, mi (.iinc 7 1) 3, mz, mz, mi (.goto (-44)) 3],
  [mz, mz, mi (.aload 0) 1, mj (.getfield 19) 3 0 2 3, mz, mz, mi (.iconst 7) 2, mz, mi (.iload 6) 2, mz, mi .iastore 1, mi (.aload 0) 1, mj (.getfield 19) 3 0 2 3, mz, mz, mi (.iconst 8) 2],
  [mz, mi (.aload 1) 1, mj (.getfield 67) 3 7 10 15, mz, mz, mi (.ifnonnull 7) 3, mz, mz, mi (.iconst 0) 1, mi (.goto 21) 3, mz, mz, mi (.aload 4) 2, mz, mi (.aload 1) 1, mj (.getfield 67) 3 7 10 15],
  [mz, mz, mj (.getfield 89) 3 4 0 22, mz, mz, mi (.aload 1) 1, mj (.getfield 86) 3 7 11 21, mz, mz, mi (.iload 5) 2, mz, mj (.invokevirtual 92) 3 20 3 23, mz, mz, mi .iastore 1, mi .return_ 1]]
def kX0_setDays : List (List (Option mR)) := [[mi (.aload 0) 1, mj (.getfield 19) 3 0 2 3, mz, mz, mi (.iconst 0) 1, mi (.iload 1) 1, mi .iastore 1, mi .return_ 1]]
def kX0_setAll : List (List (Option mR)) := [[mi (.aload 0) 1, mj (.getfield 19) 3 0 2 3, mz, mz, mi (.iconst 0) 1, mi (.iload 2) 1, mi .iastore 1, mi (.aload 0) 1, mj (.getfield 19) 3 0 2 3, mz, mz, mi (.iconst 1) 1, mi (.iload 2) 1, mi .iastore 1, mi (.aload 0) 1, mj (.getfield 19) 3 0 2 3],
  [mz, mz, mi (.iconst 2) 1, mi (.iload 2) 1, mi (.iconst 7) 2, mz, mi .idiv 1, mi .iastore 1, mi (.aload 0) 1, mj (.getfield 19) 3 0 2 3, mz, mz, mi (.iconst 3) 1, mi (.iload 2) 1, mi (.iconst 7) 2, mz],
  [mi .irem 1, mi .iastore 1, mi (.aload 0) 1, mj (.getfield 19) 3 0 2 3, mz, mz, mi (.iconst 6) 2, mz, mi (.iconst 0) 1, mi (.aload 0) 1, mj (.getfield 19) 3 0 2 3, mz, mz, mi (.iconst 5) 1, mi .iaload 1, mi (.iload 2) 1],
  [mi (.aload 1) 1, mj (.getfield 98) 3 7 3 24, mz, mz, mi .imul 1, mi .isub 1, mz, mz, mz, mi .iastore 1, mi .return_ 1]]
def kX0_amount : List (List (Option mR)) := [[mi (.aload 0) 1, mi (.iload 1) 1, mj (.invokevirtual 106) 3 2 1 25, mz, mz, mi (.ifCond .eq 12) 3, mz, mz, mi (.aload 0) 1, mj (.getfield 13) 3 0 0 2, mz, mz, mi (.iload 1) 1, mi .aaload 1, mi (.goto 4) 3, mz],
  [mz, mi .aconst_null 1, mi (.astore 2) 1, mi (.aload 2) 1, mi (.ifnonnull 7) 3, mz, mz, mi (.iconst 0) 1, mi (.goto 15) 3, mz, mz, mi (.aload 2) 1, mi (.aload 0) 1, mj (.getfield 19) 3 0 2 3, mz, mz],
  [mi (.aload 0) 1, mj (.getfield 23) 3 0 3 4, mz, mz, mj (.invokevirtual 110) 3 114 2 26, mz, mz, mi .ireturn 1]]
def kX0_inForce : List (List (Option mR)) := [[mi (.iconst 0) 1, mi (.istore 4) 2, mz, mi (.iconst (-1)) 1, mi (.istore 5) 2, mz, mi (.aload 0) 1, mj (.getfield 26) 3 0 1 5, mz, mz, mi (.iconst 1) 1, mi .isub 1, mi (.istore 6) 2, mz, mi (.iload 6) 2, mz],
  [mi (.ifCond .lt 80) 3, mz, mz, mi (.iload 4) 2, mz, mi (.iconst 2) 1, mi (.if_icmp .ge 74) 3, mz, mz, mi (.aload 0) 1, mi (.iload 6) 2, mz, mj (.invokevirtual 106) 3 2 1 25, mz, mz, mi (.ifCond .eq 13) 3],
  [mz, mz, mi (.aload 0) 1, mj (.getfield 13) 3 0 0 2, mz, mz, mi (.iload 6) 2, mz, mi .aaload 1, mi (.goto 4) 3, mz, mz, mi .aconst_null 1, mi (.astore 7) 2, mz, mi (.aload 7) 2],
  [mz, mi (.ifnull 41) 3, mz, mz, mi (.aload 7) 2, mz, mi (.iload 1) 1, mi (.iload 2) 1, mi (.iload 3) 1, mj (.invokevirtual 114) 3 113 3 27, mz, mz, mi (.ifCond .eq 30) 3, mz, mz, mi (.iinc 4 1) 3],
  [mz, mz, mi (.iload 5) 2, mz, mi (.ifCond .lt 18) 3, mz, mz, mi (.aload 0) 1, mi (.iload 6) 2, mz, mj (.invokevirtual 118) 3 8 1 28, mz, mz, mi (.aload 0) 1, mi (.iload 5) 2, mz],
  [mj (.invokevirtual 118) 3 8 1 28, mz, mz, mi (.if_icmp .ge 7) 3, mz, mz, mi (.iload 6) 2, mz, mi (.istore 5) 2, mz, mi (.iinc 6 (-1)) 3, mz, mz, mi (.goto (-79)) 3, mz, mz],
  [mi (.iload 5) 2, mz, mi .ireturn 1]]
def kX1_init : List (List (Option mR)) := [[mi (.aload 0) 1, mi .pop2 3, mz, mz, mi (.aload 0) 1, mi (.iconst 16) 2, mz, mi (.newarray .int) 2, mz, mj (.putfield 9) 3 1 6 1, mz, mz, mi (.aload 0) 1, mi (.iconst 15) 2, mz, mi (.newarray .boolean) 2],
  [mz, mj (.putfield 15) 3 1 7 2, mz, mz, mi (.aload 0) 1, mi (.iload 1) 1, mj (.putfield 19) 3 1 0 3, mz, mz, mi (.aload 0) 1, mi (.iload 2) 1, mi (.iconst 1000) 3, mz, mz, mi .idiv 1, mj (.putfield 23) 3 1 1 4],
  [mz, mz, mi (.aload 0) 1, mi (.iload 2) 1, mi (.iconst 1000) 3, mz, mz, mi .irem 1, mj (.putfield 26) 3 1 2 5, mz, mz, mi (.aload 0) 1, mi (.iload 3) 1, mj (.putfield 29) 3 1 3 6, mz, mz],
  [mi (.aload 0) 1, mi (.iload 4) 2, mz, mj (.putfield 32) 3 1 4 7, mz, mz, mi (.aload 0) 1, mi (.iload 5) 2, mz, mj (.putfield 35) 3 1 5 8, mz, mz, mi .return_ 1]]
def kX1_standsFor : List (List (Option mR)) := [[mi (.aload 1) 1, mi (.ifnull 24) 3, mz, mz, mi (.aload 1) 1, mi (.aload 0) 1, mi (.if_acmp .eq 15) 3, mz, mz, mi (.aload 0) 1, mj (.getfield 15) 3 1 7 2, mz, mz, mi (.aload 1) 1, mj (.getfield 19) 3 1 0 3, mz],
  [mz, mi .baload 1, mi (.ifCond .eq 7) 3, mz, mz, mi (.iconst 1) 1, mi (.goto 4) 3, mz, mz, mi (.iconst 0) 1, mi .ireturn 1]]
def kX2_init : List (List (Option mR)) := [[mi (.aload 0) 1, mi .pop2 3, mz, mz, mi (.aload 0) 1, mi (.iconst 300) 3, mz, mz, mi (.newarray .int) 2, mz, mj (.putfield 11) 3 2 0 1, mz, mz, mi (.aload 0) 1, mi (.iconst 300) 3, mz],
  [mz, mi (.newarray .int) 2, mz, mj (.putfield 15) 3 2 1 2, mz, mz, mi (.aload 0) 1, mi (.iconst 300) 3, mz, mz, mi (.newarray .int) 2, mz, mj (.putfield 18) 3 2 2 3, mz, mz, mi (.aload 0) 1],
  [mi (.iconst 200) 3, mz, mz, mi (.newarray .int) 2, mz, mj (.putfield 21) 3 2 4 4, mz, mz, mi (.aload 0) 1, mi (.iconst 200) 3, mz, mz, mi (.newarray .int) 2, mz, mj (.putfield 24) 3 2 5 5, mz],
  [mz, mi (.aload 0) 1, mi (.iconst 200) 3, mz, mz, mi (.newarray .int) 2, mz, mj (.putfield 27) 3 2 6 6, mz, mz, mi .return_ 1]]
def kX2_addTrack : List (List (Option mR)) := [[mi (.aload 0) 1, mj (.getfield 30) 3 2 3 7, mz, mz, mi (.iconst 300) 3, mz, mz, mi (.if_icmp .lt 6) 3, mz, mz, mi (.iconst (-3)) 2, mz, mi .ireturn 1, mi (.aload 0) 1, mj (.getfield 11) 3 2 0 1, mz],
  [mz, mi (.aload 0) 1, mj (.getfield 30) 3 2 3 7, mz, mz, mi (.iload 1) 1, mi .iastore 1, mi (.aload 0) 1, mj (.getfield 15) 3 2 1 2, mz, mz, mi (.aload 0) 1, mj (.getfield 30) 3 2 3 7, mz, mz, mi (.iload 2) 1],
  [mi .iastore 1, mi (.aload 0) 1, mj (.getfield 18) 3 2 2 3, mz, mz, mi (.aload 0) 1, mj (.getfield 30) 3 2 3 7, mz, mz, mi (.iload 3) 1, mi .iastore 1, mi (.aload 0) 1, mi .dup 1, mj (.getfield 30) 3 2 3 7, mz, mz],
  [mi (.iconst 1) 1, mi .iadd 1, mj (.putfield 30) 3 2 3 7, mz, mz, mi (.aload 0) 1, mj (.getfield 30) 3 2 3 7, mz, mz, mi .ireturn 1]]
def kX2_countsFor : List (List (Option mR)) := [[mi (.aload 0) 1, mj (.getfield 11) 3 2 0 1, mz, mz, mi (.iload 2) 1, mi .iaload 1, mi (.aload 1) 1, mj (.getfield 34) 3 4 0 8, mz, mz, mi (.if_icmp .ne 33) 3, mz, mz, mi (.aload 0) 1, mj (.getfield 18) 3 2 2 3, mz],
  [mz, mi (.iload 2) 1, mi .iaload 1, mi (.aload 1) 1, mj (.getfield 39) 3 4 7 9, mz, mz, mi (.if_icmp .lt 20) 3, mz, mz, mi (.aload 0) 1, mj (.getfield 18) 3 2 2 3, mz, mz, mi (.iload 2) 1, mi .iaload 1],
  [mi (.aload 1) 1, mj (.getfield 42) 3 4 12 10, mz, mz, mi (.if_icmp .gt 7) 3, mz, mz, mi (.iconst 1) 1, mi (.goto 4) 3, mz, mz, mi (.iconst 0) 1, mi .ireturn 1]]
def kX2_elsewhere : List (List (Option mR)) := [[mi (.iconst 0) 1, mi (.istore 2) 1, mi (.iload 2) 1, mi (.aload 0) 1, mj (.getfield 30) 3 2 3 7, mz, mz, mi (.if_icmp .ge 33) 3, mz, mz, mi (.aload 0) 1, mi (.aload 1) 1, mi (.iload 2) 1, mj (.invokevirtual 45) 3 14 2 11, mz, mz],
  [mi (.ifCond .eq 18) 3, mz, mz, mi (.aload 0) 1, mj (.getfield 15) 3 2 1 2, mz, mz, mi (.iload 2) 1, mi .iaload 1, mi (.aload 1) 1, mj (.getfield 49) 3 4 11 12, mz, mz, mi (.if_icmp .eq 5) 3, mz, mz],
  [mi (.iload 2) 1, mi .ireturn 1, mi (.iinc 2 1) 3, mz, mz, mi (.goto (-35)) 3, mz, mz, mi (.aload 0) 1, mj (.getfield 30) 3 2 3 7, mz, mz, mi .ireturn 1]]
def kX2_firstElsewhere : List (List (Option mR)) := [[mi (.aload 0) 1, mi (.aload 1) 1, mj (.invokevirtual 52) 3 15 1 13, mz, mz, mi (.istore 2) 1, mi (.iload 2) 1, mi (.aload 0) 1, mj (.getfield 30) 3 2 3 7, mz, mz, mi (.if_icmp .ge 12) 3, mz, mz, mi (.aload 0) 1, mj (.getfield 18) 3 2 2 3],
  [mz, mz, mi (.iload 2) 1, mi .iaload 1, mi (.goto 7) 3, mz, mz, mi (.aload 1) 1, mj (.getfield 42) 3 4 12 10, mz, mz, mi .ireturn 1]]
def kX2_lastThere : List (List (Option mR)) := [[mi (.aload 0) 1, mi (.aload 1) 1, mj (.invokevirtual 52) 3 15 1 13, mz, mz, mi (.iconst 1) 1, mi .isub 1, mi (.istore 2) 1, mi (.iload 2) 1, mi (.ifCond .lt 25) 3, mz, mz, mi (.aload 0) 1, mi (.aload 1) 1, mi (.iload 2) 1, mj (.invokevirtual 45) 3 14 2 11],
  [mz, mz, mi (.ifCond .eq 10) 3, mz, mz, mi (.aload 0) 1, mj (.getfield 18) 3 2 2 3, mz, mz, mi (.iload 2) 1, mi .iaload 1, mi .ireturn 1, mi (.iinc 2 (-1)) 3, mz, mz, mi (.goto (-23)) 3],
  [mz, mz, mi (.aload 1) 1, mj (.getfield 39) 3 4 7 9, mz, mz, mi .ireturn 1]]
def kX2_beginBreak : List (List (Option mR)) := [[mi (.aload 0) 1, mj (.getfield 56) 3 2 7 14, mz, mz, mi (.iconst 200) 3, mz, mz, mi (.if_icmp .lt 5) 3, mz, mz, mi (.iconst 0) 1, mi .ireturn 1, mi (.aload 0) 1, mj (.getfield 21) 3 2 4 4, mz, mz],
  [mi (.aload 0) 1, mj (.getfield 56) 3 2 7 14, mz, mz, mi (.iload 1) 1, mi .iastore 1, mi (.aload 0) 1, mj (.getfield 24) 3 2 5 5, mz, mz, mi (.aload 0) 1, mj (.getfield 56) 3 2 7 14, mz, mz, mi (.iload 2) 1, mi .iastore 1],
  [mi (.aload 0) 1, mj (.getfield 27) 3 2 6 6, mz, mz, mi (.aload 0) 1, mj (.getfield 56) 3 2 7 14, mz, mz, mi (.iconst (-1)) 1, mi .iastore 1, mi (.aload 0) 1, mi .dup 1, mj (.getfield 56) 3 2 7 14, mz, mz, mi (.iconst 1) 1],
  [mi .iadd 1, mj (.putfield 56) 3 2 7 14, mz, mz, mi (.iconst 1) 1, mi .ireturn 1]]
def kX2_endBreak : List (List (Option mR)) := [[mi (.iconst 0) 1, mi (.istore 3) 1, mi (.iload 3) 1, mi (.aload 0) 1, mj (.getfield 56) 3 2 7 14, mz, mz, mi (.if_icmp .ge 35) 3, mz, mz, mi (.aload 0) 1, mj (.getfield 21) 3 2 4 4, mz, mz, mi (.iload 3) 1, mi .iaload 1],
  [mi (.iload 1) 1, mi (.if_icmp .ne 19) 3, mz, mz, mi (.aload 0) 1, mj (.getfield 27) 3 2 6 6, mz, mz, mi (.iload 3) 1, mi .iaload 1, mi (.ifCond .ge 10) 3, mz, mz, mi (.aload 0) 1, mj (.getfield 27) 3 2 6 6, mz],
  [mz, mi (.iload 3) 1, mi (.iload 2) 1, mi .iastore 1, mi (.iinc 3 1) 3, mz, mz, mi (.goto (-37)) 3, mz, mz, mi .return_ 1]]
def kX2_hoursBroken : List (List (Option mR)) := [[mi (.iconst 0) 1, mi (.istore 4) 2, mz, mi (.iconst 0) 1, mi (.istore 5) 2, mz, mi (.iload 5) 2, mz, mi (.aload 0) 1, mj (.getfield 56) 3 2 7 14, mz, mz, mi (.if_icmp .ge 70) 3, mz, mz, mi (.aload 0) 1],
  [mj (.getfield 21) 3 2 4 4, mz, mz, mi (.iload 5) 2, mz, mi .iaload 1, mi (.iload 1) 1, mi (.if_icmp .ne 53) 3, mz, mz, mi (.aload 0) 1, mj (.getfield 27) 3 2 6 6, mz, mz, mi (.iload 5) 2, mz],
  [mi .iaload 1, mi (.ifCond .ge 7) 3, mz, mz, mi (.iload 3) 1, mi (.goto 14) 3, mz, mz, mi (.iload 3) 1, mi (.aload 0) 1, mj (.getfield 27) 3 2 6 6, mz, mz, mi (.iload 5) 2, mz, mi .iaload 1],
  [mz, mz, mz, mi (.istore 6) 2, mz, mi (.iload 4) 2, mz, mi (.iconst 0) 1, mi (.iload 6) 2, mz, mi (.iload 2) 1, mi (.aload 0) 1, mj (.getfield 24) 3 2 5 5, mz, mz, mi (.iload 5) 2],
  [mz, mi .iaload 1, mz, mz, mz, mi .isub 1, mz, mz, mz, mi .iadd 1, mi (.istore 4) 2, mz, mi (.iinc 5 1) 3, mz, mz, mi (.goto (-73)) 3],
  [mz, mz, mi (.iload 4) 2, mz, mi .ireturn 1]]
def kX3_init : List (List (Option mR)) := [[mi (.aload 0) 1, mi .pop2 3, mz, mz, mi (.aload 0) 1, mi (.iconst 5) 1, mj (.anewarray 11) 3 4 4 1, mz, mz, mj (.putfield 13) 3 3 0 2, mz, mz, mi (.aload 0) 1, mi (.iconst 5) 1, mj (.anewarray 11) 3 4 4 1, mz],
  [mz, mj (.putfield 17) 3 3 2 3, mz, mz, mi (.aload 0) 1, mi (.iconst 5) 1, mi (.newarray .int) 2, mz, mj (.putfield 20) 3 3 4 4, mz, mz, mi .return_ 1]]
def kX3_isPromised : List (List (Option mR)) := [[mi (.aload 0) 1, mi (.ifnull 25) 3, mz, mz, mi (.aload 0) 1, mj (.getfield 24) 3 4 9 5, mz, mz, mi (.ifnull 18) 3, mz, mz, mi (.aload 0) 1, mj (.getfield 24) 3 4 9 5, mz, mz, mj (.getfield 28) 3 7 9 6],
  [mz, mz, mi (.iconst 1) 1, mi (.if_icmp .ne 7) 3, mz, mz, mi (.iconst 1) 1, mi (.goto 4) 3, mz, mz, mi (.iconst 0) 1, mi .ireturn 1]]
def kX3_joins : List (List (Option mR)) := [[mi (.iconst 0) 1, mi (.istore 2) 1, mi (.iload 2) 1, mi (.aload 0) 1, mj (.getfield 34) 3 3 1 7, mz, mz, mi (.if_icmp .ge 46) 3, mz, mz, mi (.aload 0) 1, mj (.getfield 13) 3 3 0 2, mz, mz, mi (.iload 2) 1, mi .aaload 1],
  [mi (.aload 1) 1, mi (.if_acmp .eq 28) 3, mz, mz, mi (.aload 0) 1, mj (.getfield 13) 3 3 0 2, mz, mz, mi (.iload 2) 1, mi .aaload 1, mi (.ifnull 19) 3, mz, mz, mi (.aload 0) 1, mj (.getfield 13) 3 3 0 2, mz],
  [mz, mi (.iload 2) 1, mi .aaload 1, mj (.getfield 37) 3 4 4 8, mz, mz, mi (.aload 1) 1, mj (.getfield 37) 3 4 4 8, mz, mz, mi (.if_icmp .eq 5) 3, mz, mz, mi (.iconst 0) 1, mi .ireturn 1, mi (.iinc 2 1) 3],
  [mz, mz, mi (.goto (-48)) 3, mz, mz, mi (.aload 1) 1, mj (.invokestatic 40) 3 22 1 9, mz, mz, mi (.ifCond .eq 14) 3, mz, mz, mi (.aload 1) 1, mj (.getfield 44) 3 4 3 10, mz, mz],
  [mi (.ifCond .ne 7) 3, mz, mz, mi (.iconst 1) 1, mi (.goto 4) 3, mz, mz, mi (.iconst 0) 1, mi .ireturn 1]]
def kX3_add : List (List (Option mR)) := [[mi (.aload 0) 1, mi (.aload 1) 1, mj (.invokevirtual 47) 3 23 1 11, mz, mz, mi (.ifCond .ne 6) 3, mz, mz, mi (.iconst (-2)) 2, mz, mi .ireturn 1, mi (.aload 0) 1, mj (.getfield 34) 3 3 1 7, mz, mz, mi (.iconst 5) 1],
  [mi (.if_icmp .lt 6) 3, mz, mz, mi (.iconst (-3)) 2, mz, mi .ireturn 1, mi (.aload 0) 1, mj (.getfield 13) 3 3 0 2, mz, mz, mi (.aload 0) 1, mj (.getfield 34) 3 3 1 7, mz, mz, mi (.aload 1) 1, mi .aastore 1],
  [mi (.aload 0) 1, mi .dup 1, mj (.getfield 34) 3 3 1 7, mz, mz, mi (.iconst 1) 1, mi .iadd 1, mj (.putfield 34) 3 3 1 7, mz, mz, mi (.aload 0) 1, mj (.getfield 34) 3 3 1 7, mz, mz, mi .ireturn 1]]
def kX3_drive : List (List (Option mR)) := [[mi (.aload 0) 1, mj (.invokevirtual 50) 3 27 0 12, mz, mz, mi (.aload 0) 1, mj (.getfield 34) 3 3 1 7, mz, mz, mi (.istore 2) 1, mi (.aload 0) 1, mi (.iconst 0) 1, mj (.putfield 34) 3 3 1 7, mz, mz, mi (.iload 2) 1, mi (.ifCond .eq 12) 3],
  [mz, mz, mi (.aload 0) 1, mj (.getfield 13) 3 3 0 2, mz, mz, mi (.iconst 0) 1, mi .aaload 1, mi (.ifnonnull 6) 3, mz, mz, mi (.iconst (-2)) 2, mz, mi .ireturn 1, mi (.aload 0) 1, mi (.iload 2) 1],
  [mj (.invokevirtual 53) 3 28 1 13, mz, mz, mi (.iconst 260) 3, mz, mz, mi (.if_icmp .le 6) 3, mz, mz, mi (.iconst (-4)) 2, mz, mi .ireturn 1, mi (.aload 0) 1, mj (.getfield 13) 3 3 0 2, mz, mz],
  [mi (.iconst 0) 1, mi .aaload 1, mj (.getfield 37) 3 4 4 8, mz, mz, mi (.istore 3) 1, mi (.aload 0) 1, mi (.iload 2) 1, mj (.invokevirtual 57) 3 29 1 14, mz, mz, mi (.iconst (-1)) 1, mi (.istore 4) 2, mz, mi (.iconst 0) 1, mi (.istore 5) 2],
  [mz, mi (.iload 5) 2, mz, mi (.iload 2) 1, mi (.if_icmp .ge 18) 3, mz, mz, mi (.aload 0) 1, mj (.getfield 20) 3 3 4 4, mz, mz, mi (.iload 5) 2, mz, mi (.iload 5) 2, mz, mi .iastore 1],
  [mi (.iinc 5 1) 3, mz, mz, mi (.goto (-18)) 3, mz, mz, mi (.iconst 1) 1, mi (.istore 5) 2, mz, mi (.iconst 0) 1, mi (.istore 6) 2, mz, mi (.iload 5) 2, mz, mi (.ifCond .eq 58) 3, mz],
  [mz, mi (.iload 6) 2, mz, mi (.iconst 120) 2, mz, mi (.if_icmp .ge 51) 3, mz, mz, mi (.aload 0) 1, mi (.aload 1) 1, mi (.iload 3) 1, mi (.iload 2) 1, mj (.invokevirtual 61) 3 30 3 15, mz, mz, mi (.istore 7) 2],
  [mz, mi (.iload 7) 2, mz, mi (.ifCond .lt 24) 3, mz, mz, mi (.iload 4) 2, mz, mi (.ifCond .lt 10) 3, mz, mz, mi (.iload 7) 2, mz, mi (.iload 4) 2, mz, mi (.if_icmp .ge 12) 3],
  [mz, mz, mi (.iload 7) 2, mz, mi (.istore 4) 2, mz, mi (.aload 0) 1, mi (.iload 2) 1, mj (.invokevirtual 65) 3 32 1 16, mz, mz, mi (.aload 0) 1, mi (.iload 2) 1, mj (.invokevirtual 68) 3 33 1 17, mz, mz],
  [mi (.istore 5) 2, mz, mi (.iinc 6 1) 3, mz, mz, mi (.goto (-57)) 3, mz, mz, mi (.iload 4) 2, mz, mi (.ifCond .ge 8) 3, mz, mz, mi (.iconst (-3)) 2, mz, mi (.goto 5) 3],
  [mz, mz, mi (.iload 4) 2, mz, mi .ireturn 1]]
def kX3_rowAt : List (List (Option mR)) := [[mi (.iload 1) 1, mi (.ifCond .lt 20) 3, mz, mz, mi (.iload 1) 1, mi (.aload 0) 1, mj (.getfield 72) 3 3 3 18, mz, mz, mi (.if_icmp .ge 12) 3, mz, mz, mi (.aload 0) 1, mj (.getfield 17) 3 3 2 3, mz, mz],
  [mi (.iload 1) 1, mi .aaload 1, mi (.goto 4) 3, mz, mz, mi .aconst_null 1, mi .areturn 1]]
def kX3_dropOthers : List (List (Option mR)) := [[mi (.iconst 0) 1, mi (.istore 1) 1, mi (.iconst 0) 1, mi (.istore 2) 1, mi (.iload 2) 1, mi (.aload 0) 1, mj (.getfield 34) 3 3 1 7, mz, mz, mi (.if_icmp .ge 36) 3, mz, mz, mi (.aload 0) 1, mj (.getfield 13) 3 3 0 2, mz, mz],
  [mi (.iload 2) 1, mi .aaload 1, mj (.invokestatic 40) 3 22 1 9, mz, mz, mi (.ifCond .eq 18) 3, mz, mz, mi (.aload 0) 1, mj (.getfield 13) 3 3 0 2, mz, mz, mi (.iload 1) 1, mi (.aload 0) 1, mj (.getfield 13) 3 3 0 2, mz],
  [mz, mi (.iload 2) 1, mi .aaload 1, mi .aastore 1, mi (.iinc 1 1) 3, mz, mz, mi (.iinc 2 1) 3, mz, mz, mi (.goto (-38)) 3, mz, mz, mi (.aload 0) 1, mi (.iload 1) 1, mj (.putfield 34) 3 3 1 7],
  [mz, mz, mi .return_ 1]]
def kX3_weight : List (List (Option mR)) := [[mi (.iconst 0) 1, mi (.istore 2) 1, mi (.iconst 0) 1, mi (.istore 3) 1, mi (.iload 3) 1, mi (.iload 1) 1, mi (.if_icmp .ge 37) 3, mz, mz, mi (.iload 2) 1, mi (.aload 0) 1, mj (.getfield 13) 3 3 0 2, mz, mz, mi (.iload 3) 1, mi .aaload 1],
  [mi (.ifnonnull 7) 3, mz, mz, mi (.iconst 0) 1, mi (.goto 15) 3, mz, mz, mi (.aload 0) 1, mj (.getfield 13) 3 3 0 2, mz, mz, mi (.iload 3) 1, mi .aaload 1, mj (.getfield 75) 3 4 1 19, mz, mz],
  [mj (.getfield 79) 3 1 1 20, mz, mz, mi .iadd 1, mi (.istore 2) 1, mi (.iinc 3 1) 3, mz, mz, mi (.goto (-36)) 3, mz, mz, mi (.iload 2) 1, mi .ireturn 1]]
def kX3_sortByNumber : List (List (Option mR)) := [[mi (.iconst 1) 1, mi (.istore 2) 1, mi (.iload 2) 1, mi (.iload 1) 1, mi (.if_icmp .ge 80) 3, mz, mz, mi (.iload 2) 1, mi (.istore 3) 1, mi (.iload 3) 1, mi (.ifCond .le 68) 3, mz, mz, mi (.aload 0) 1, mj (.getfield 13) 3 3 0 2, mz],
  [mz, mi (.iload 3) 1, mi (.iconst 1) 1, mi .isub 1, mi .aaload 1, mi (.astore 4) 2, mz, mi (.aload 0) 1, mj (.getfield 13) 3 3 0 2, mz, mz, mi (.iload 3) 1, mi .aaload 1, mi (.astore 5) 2, mz, mi (.aload 4) 2],
  [mz, mi (.ifnull 39) 3, mz, mz, mi (.aload 5) 2, mz, mi (.ifnull 34) 3, mz, mz, mi (.aload 4) 2, mz, mj (.getfield 83) 3 4 0 21, mz, mz, mi (.aload 5) 2, mz],
  [mj (.getfield 83) 3 4 0 21, mz, mz, mi (.if_icmp .le 21) 3, mz, mz, mi (.aload 0) 1, mj (.getfield 13) 3 3 0 2, mz, mz, mi (.iload 3) 1, mi (.iconst 1) 1, mi .isub 1, mi (.aload 5) 2, mz, mi .aastore 1],
  [mi (.aload 0) 1, mj (.getfield 13) 3 3 0 2, mz, mz, mi (.iload 3) 1, mi (.aload 4) 2, mz, mi .aastore 1, mi (.iinc 3 (-1)) 3, mz, mz, mi (.goto (-66)) 3, mz, mz, mi (.iinc 2 1) 3, mz],
  [mz, mi (.goto (-79)) 3, mz, mz, mi .return_ 1]]
def kX3_rowMiles : List (List (Option mR)) := [[mi (.iload 2) 1, mi (.istore 4) 2, mz, mi (.iconst 0) 1, mi (.istore 5) 2, mz, mi (.iconst 0) 1, mi (.istore 6) 2, mz, mi (.iload 6) 2, mz, mi (.iload 3) 1, mi (.if_icmp .gt 60) 3, mz, mz, mi (.iload 6) 2],
  [mz, mi (.iload 3) 1, mi (.if_icmp .ge 17) 3, mz, mz, mi (.aload 0) 1, mi (.aload 0) 1, mj (.getfield 20) 3 3 4 4, mz, mz, mi (.iload 6) 2, mz, mi .iaload 1, mj (.invokevirtual 86) 3 31 1 22, mz, mz],
  [mi (.goto 4) 3, mz, mz, mi (.iload 2) 1, mi (.istore 7) 2, mz, mi (.aload 1) 1, mi (.iload 4) 2, mz, mi (.iload 7) 2, mz, mj (.invokevirtual 89) 3 89 2 23, mz, mz, mi (.istore 8) 2, mz],
  [mi (.iload 8) 2, mz, mi (.ifCond .ge 5) 3, mz, mz, mi (.iconst (-1)) 1, mi .ireturn 1, mi (.iload 5) 2, mz, mi (.iload 8) 2, mz, mi .iadd 1, mi (.istore 5) 2, mz, mi (.iload 7) 2, mz],
  [mi (.istore 4) 2, mz, mi (.iinc 6 1) 3, mz, mz, mi (.goto (-60)) 3, mz, mz, mi (.iload 5) 2, mz, mi .ireturn 1]]
def kX3_customerTown : List (List (Option mR)) := [[mi (.iload 1) 1, mi (.ifCond .lt 21) 3, mz, mz, mi (.iload 1) 1, mi (.aload 0) 1, mj (.getfield 13) 3 3 0 2, mz, mz, mi .arraylength 1, mi (.if_icmp .ge 12) 3, mz, mz, mi (.aload 0) 1, mj (.getfield 13) 3 3 0 2, mz],
  [mz, mi (.iload 1) 1, mi .aaload 1, mi (.goto 4) 3, mz, mz, mi .aconst_null 1, mi (.astore 2) 1, mi (.aload 2) 1, mi (.ifnull 10) 3, mz, mz, mi (.aload 2) 1, mj (.getfield 24) 3 4 9 5, mz, mz],
  [mi (.ifnonnull 7) 3, mz, mz, mi (.iconst (-1)) 1, mi (.goto 10) 3, mz, mz, mi (.aload 2) 1, mj (.getfield 24) 3 4 9 5, mz, mz, mj (.getfield 95) 3 7 7 24, mz, mz, mi .ireturn 1]]
def kX3_keepRow : List (List (Option mR)) := [[mi (.iconst 0) 1, mi (.istore 2) 1, mi (.iload 2) 1, mi (.iload 1) 1, mi (.if_icmp .ge 26) 3, mz, mz, mi (.aload 0) 1, mj (.getfield 17) 3 3 2 3, mz, mz, mi (.iload 2) 1, mi (.aload 0) 1, mj (.getfield 13) 3 3 0 2, mz, mz],
  [mi (.aload 0) 1, mj (.getfield 20) 3 3 4 4, mz, mz, mi (.iload 2) 1, mi .iaload 1, mi .aaload 1, mi .aastore 1, mi (.iinc 2 1) 3, mz, mz, mi (.goto (-25)) 3, mz, mz, mi (.aload 0) 1, mi (.iload 1) 1],
  [mj (.putfield 72) 3 3 3 18, mz, mz, mi .return_ 1]]
def kX3_nextTurn : List (List (Option mR)) := [[mi (.iload 1) 1, mi (.iconst 2) 1, mi .isub 1, mi (.istore 2) 1, mi (.iload 2) 1, mi (.ifCond .lt 26) 3, mz, mz, mi (.aload 0) 1, mj (.getfield 20) 3 3 4 4, mz, mz, mi (.iload 2) 1, mi .iaload 1, mi (.aload 0) 1, mj (.getfield 20) 3 3 4 4],
  [mz, mz, mi (.iload 2) 1, mi (.iconst 1) 1, mi .iadd 1, mi .iaload 1, mi (.if_icmp .le 9) 3, mz, mz, mi (.iinc 2 (-1)) 3, mz, mz, mi (.goto (-24)) 3, mz, mz, mi (.iload 2) 1],
  [mi (.ifCond .ge 5) 3, mz, mz, mi (.iconst 0) 1, mi .ireturn 1, mi (.iload 1) 1, mi (.iconst 1) 1, mi .isub 1, mi (.istore 3) 1, mi (.iload 3) 1, mi (.iload 2) 1, mi (.if_icmp .le 24) 3, mz, mz, mi (.aload 0) 1, mj (.getfield 20) 3 3 4 4],
  [mz, mz, mi (.iload 3) 1, mi .iaload 1, mi (.aload 0) 1, mj (.getfield 20) 3 3 4 4, mz, mz, mi (.iload 2) 1, mi .iaload 1, mi (.if_icmp .ge 9) 3, mz, mz, mi (.iinc 3 (-1)) 3, mz, mz],
  [mi (.goto (-23)) 3, mz, mz, mi (.aload 0) 1, mi (.iload 2) 1, mi (.iload 3) 1, mj (.invokevirtual 96) 3 34 2 25, mz, mz, mi (.iload 2) 1, mi (.iconst 1) 1, mi .iadd 1, mi (.istore 4) 2, mz, mi (.iload 1) 1, mi (.iconst 1) 1],
  [mi .isub 1, mi (.istore 5) 2, mz, mi (.iload 4) 2, mz, mi (.iload 5) 2, mz, mi (.if_icmp .ge 20) 3, mz, mz, mi (.aload 0) 1, mi (.iload 4) 2, mz, mi (.iload 5) 2, mz, mj (.invokevirtual 96) 3 34 2 25],
  [mz, mz, mi (.iinc 4 1) 3, mz, mz, mi (.iinc 5 (-1)) 3, mz, mz, mi (.goto (-21)) 3, mz, mz, mi (.iconst 1) 1, mi .ireturn 1]]
def kX3_swapTurns : List (List (Option mR)) := [[mi (.aload 0) 1, mj (.getfield 20) 3 3 4 4, mz, mz, mi (.iload 1) 1, mi .iaload 1, mi (.istore 3) 1, mi (.aload 0) 1, mj (.getfield 20) 3 3 4 4, mz, mz, mi (.iload 1) 1, mi (.aload 0) 1, mj (.getfield 20) 3 3 4 4, mz, mz],
  [mi (.iload 2) 1, mi .iaload 1, mi .iastore 1, mi (.aload 0) 1, mj (.getfield 20) 3 3 4 4, mz, mz, mi (.iload 2) 1, mi (.iload 3) 1, mi .iastore 1, mi .return_ 1]]
def kX4_init : List (List (Option mR)) := [[mi (.aload 0) 1, mi .pop2 3, mz, mz, mi (.aload 0) 1, mi (.iconst (-1)) 1, mj (.putfield 9) 3 4 6 1, mz, mz, mi (.aload 0) 1, mi (.iconst (-1)) 1, mj (.putfield 15) 3 4 11 2, mz, mz, mi (.aload 0) 1, mi (.iconst (-1)) 1],
  [mj (.putfield 18) 3 4 12 3, mz, mz, mi (.aload 0) 1, mi (.iconst 5) 1, mi (.newarray .int) 2, mz, mj (.putfield 21) 3 4 13 4, mz, mz, mi (.aload 0) 1, mi (.iconst 5) 1, mi (.newarray .int) 2, mz, mj (.putfield 25) 3 4 14 5, mz],
  [mz, mi (.aload 0) 1, mi (.iload 1) 1, mj (.putfield 28) 3 4 0 6, mz, mz, mi (.aload 0) 1, mi (.aload 2) 1, mj (.putfield 31) 3 4 1 7, mz, mz, mi (.aload 0) 1, mi (.iload 3) 1, mj (.putfield 35) 3 4 4 8, mz, mz],
  [mi (.aload 0) 1, mi (.iload 4) 2, mz, mj (.putfield 38) 3 4 7 9, mz, mz, mi (.aload 0) 1, mj (.new 41) 3 6 0 10, mz, mz, mi .dup 1, mi (.iload 4) 2, mz, mi (.iload 5) 2, mz, mj (.invokespecial 43) 3 56 2 11],
  [mz, mz, mj (.putfield 46) 3 4 2 12, mz, mz, mi .return_ 1]]
def kX4_isFree : List (List (Option mR)) := [[mi (.aload 0) 1, mj (.getfield 50) 3 4 5 13, mz, mz, mi (.ifCond .ne 21) 3, mz, mz, mi (.aload 0) 1, mj (.getfield 53) 3 4 3 14, mz, mz, mi (.ifCond .ne 14) 3, mz, mz, mi (.aload 0) 1, mj (.getfield 56) 3 4 9 15],
  [mz, mz, mi (.ifnonnull 7) 3, mz, mz, mi (.iconst 1) 1, mi (.goto 4) 3, mz, mz, mi (.iconst 0) 1, mi .ireturn 1]]
def kX4_sinceLook : List (List (Option mR)) := [[mi (.aload 0) 1, mj (.getfield 46) 3 4 2 12, mz, mz, mj (.invokevirtual 60) 3 58 0 16, mz, mz, mi (.aload 0) 1, mj (.getfield 64) 3 4 8 17, mz, mz, mi .isub 1, mi .ireturn 1]]
def kX4_hoursToLook : List (List (Option mR)) := [[mi (.aload 0) 1, mj (.getfield 31) 3 4 1 7, mz, mz, mj (.getfield 67) 3 1 2 18, mz, mz, mi (.ifCond .ne 7) 3, mz, mz, mi (.iconst (-1)) 1, mi (.goto 19) 3, mz, mz, mi (.iconst 0) 1, mi (.aload 0) 1],
  [mj (.getfield 31) 3 4 1 7, mz, mz, mj (.getfield 67) 3 1 2 18, mz, mz, mi (.aload 0) 1, mj (.invokevirtual 72) 3 37 0 19, mz, mz, mi .isub 1, mz, mz, mz, mi .ireturn 1]]
def kX4_lookDue : List (List (Option mR)) := [[mi (.aload 0) 1, mj (.getfield 31) 3 4 1 7, mz, mz, mj (.getfield 67) 3 1 2 18, mz, mz, mi (.ifCond .le 21) 3, mz, mz, mi (.aload 0) 1, mj (.invokevirtual 72) 3 37 0 19, mz, mz, mi (.aload 0) 1, mj (.getfield 31) 3 4 1 7],
  [mz, mz, mj (.getfield 67) 3 1 2 18, mz, mz, mi (.if_icmp .lt 7) 3, mz, mz, mi (.iconst 1) 1, mi (.goto 4) 3, mz, mz, mi (.iconst 0) 1, mi .ireturn 1]]
def kX4_lookLapses : List (List (Option mR)) := [[mi (.aload 0) 1, mj (.getfield 31) 3 4 1 7, mz, mz, mj (.getfield 67) 3 1 2 18, mz, mz, mi (.ifCond .le 23) 3, mz, mz, mi (.aload 0) 1, mj (.invokevirtual 72) 3 37 0 19, mz, mz, mi (.iload 1) 1, mi .iadd 1],
  [mi (.aload 0) 1, mj (.getfield 31) 3 4 1 7, mz, mz, mj (.getfield 67) 3 1 2 18, mz, mz, mi (.if_icmp .le 7) 3, mz, mz, mi (.iconst 1) 1, mi (.goto 4) 3, mz, mz, mi (.iconst 0) 1, mi .ireturn 1]]
def kX4_beginLook : List (List (Option mR)) := [[mi (.aload 0) 1, mi (.iconst 1) 1, mj (.putfield 50) 3 4 5 13, mz, mz, mi (.aload 0) 1, mi (.iload 1) 1, mj (.putfield 9) 3 4 6 1, mz, mz, mi (.aload 0) 1, mi (.aload 0) 1, mj (.getfield 46) 3 4 2 12, mz, mz, mj (.invokevirtual 60) 3 58 0 16],
  [mz, mz, mj (.putfield 64) 3 4 8 17, mz, mz, mi .return_ 1]]
def kX4_load : List (List (Option mR)) := [[mi (.aload 0) 1, mi (.iconst 1) 1, mj (.putfield 53) 3 4 3 14, mz, mz, mi (.aload 0) 1, mi (.iload 1) 1, mj (.putfield 35) 3 4 4 8, mz, mz, mi (.aload 0) 1, mi (.iload 2) 1, mj (.putfield 38) 3 4 7 9, mz, mz, mi (.aload 0) 1],
  [mi (.iload 2) 1, mi (.iload 3) 1, mi .iadd 1, mj (.putfield 9) 3 4 6 1, mz, mz, mi (.aload 0) 1, mi (.iload 2) 1, mj (.invokevirtual 81) 3 43 1 20, mz, mz, mi .return_ 1]]
def kX4_settle : List (List (Option mR)) := [[mi (.aload 0) 1, mj (.getfield 9) 3 4 6 1, mz, mz, mi (.ifCond .lt 11) 3, mz, mz, mi (.aload 0) 1, mj (.getfield 9) 3 4 6 1, mz, mz, mi (.iload 1) 1, mi (.if_icmp .le 4) 3, mz, mz, mi .return_ 1],
  [mi (.aload 0) 1, mj (.getfield 53) 3 4 3 14, mz, mz, mi (.iconst 1) 1, mi (.if_icmp .ne 30) 3, mz, mz, mi (.aload 0) 1, mi (.aload 0) 1, mj (.getfield 56) 3 4 9 15, mz, mz, mi (.ifnonnull 7) 3, mz, mz],
  [mi (.iconst 0) 1, mi (.goto 4) 3, mz, mz, mi (.iconst 2) 1, mj (.putfield 53) 3 4 3 14, mz, mz, mi (.aload 0) 1, mi (.aload 0) 1, mj (.getfield 9) 3 4 6 1, mz, mz, mj (.putfield 38) 3 4 7 9, mz, mz],
  [mi (.goto 16) 3, mz, mz, mi (.aload 0) 1, mj (.getfield 50) 3 4 5 13, mz, mz, mi (.iconst 1) 1, mi (.if_icmp .ne 8) 3, mz, mz, mi (.aload 0) 1, mi (.iconst 0) 1, mj (.putfield 50) 3 4 5 13, mz, mz],
  [mi (.aload 0) 1, mi (.iconst (-1)) 1, mj (.putfield 9) 3 4 6 1, mz, mz, mi .return_ 1]]
def kX4_leave : List (List (Option mR)) := [[mi (.aload 0) 1, mi (.aload 0) 1, mj (.getfield 35) 3 4 4 8, mz, mz, mj (.putfield 15) 3 4 11 2, mz, mz, mi (.aload 0) 1, mi (.iload 2) 1, mj (.putfield 18) 3 4 12 3, mz, mz, mi (.aload 0) 1, mi (.iload 1) 1, mj (.putfield 50) 3 4 5 13],
  [mz, mz, mi (.aload 0) 1, mi (.iconst 3) 1, mj (.putfield 53) 3 4 3 14, mz, mz, mi (.aload 0) 1, mi (.iconst (-1)) 1, mj (.putfield 35) 3 4 4 8, mz, mz, mi (.aload 0) 1, mi (.iconst (-1)) 1, mj (.putfield 9) 3 4 6 1, mz],
  [mz, mi (.aload 0) 1, mi .aconst_null 1, mj (.putfield 56) 3 4 9 15, mz, mz, mi .return_ 1]]
def kX4_addLink : List (List (Option mR)) := [[mi (.aload 0) 1, mj (.getfield 85) 3 4 15 21, mz, mz, mi (.iconst 5) 1, mi (.if_icmp .lt 6) 3, mz, mz, mi (.iconst (-3)) 2, mz, mi .ireturn 1, mi (.aload 0) 1, mj (.getfield 21) 3 4 13 4, mz, mz, mi (.aload 0) 1],
  [mj (.getfield 85) 3 4 15 21, mz, mz, mi (.iload 1) 1, mi .iastore 1, mi (.aload 0) 1, mj (.getfield 25) 3 4 14 5, mz, mz, mi (.aload 0) 1, mj (.getfield 85) 3 4 15 21, mz, mz, mi (.iload 2) 1, mi .iastore 1, mi (.aload 0) 1],
  [mi .dup 1, mj (.getfield 85) 3 4 15 21, mz, mz, mi (.iconst 1) 1, mi .iadd 1, mj (.putfield 85) 3 4 15 21, mz, mz, mi (.aload 0) 1, mj (.getfield 85) 3 4 15 21, mz, mz, mi .ireturn 1]]
def kX4_ownerOf : List (List (Option mR)) := [[mi (.iload 1) 1, mi (.ifCond .lt 20) 3, mz, mz, mi (.iload 1) 1, mi (.aload 0) 1, mj (.getfield 85) 3 4 15 21, mz, mz, mi (.if_icmp .ge 12) 3, mz, mz, mi (.aload 0) 1, mj (.getfield 21) 3 4 13 4, mz, mz],
  [mi (.iload 1) 1, mi .iaload 1, mi (.goto 4) 3, mz, mz, mi (.iconst (-1)) 1, mi .ireturn 1]]
def kX4_rateOf : List (List (Option mR)) := [[mi (.iload 1) 1, mi (.ifCond .lt 20) 3, mz, mz, mi (.iload 1) 1, mi (.aload 0) 1, mj (.getfield 85) 3 4 15 21, mz, mz, mi (.if_icmp .ge 12) 3, mz, mz, mi (.aload 0) 1, mj (.getfield 25) 3 4 14 5, mz, mz],
  [mi (.iload 1) 1, mi .iaload 1, mi (.goto 4) 3, mz, mz, mi (.iconst 0) 1, mi .ireturn 1]]
def kX5_init : List (List (Option mR)) := [[mi (.aload 0) 1, mi .pop2 3, mz, mz, mi (.aload 0) 1, mi (.iconst 6) 2, mz, mj (.anewarray 11) 3 5 7 1, mz, mz, mj (.putfield 13) 3 5 0 2, mz, mz, mi (.aload 0) 1, mi (.iconst (-1)) 1, mj (.putfield 17) 3 5 2 3],
  [mz, mz, mi (.aload 0) 1, mi (.iconst 64) 2, mz, mi (.newarray .long) 2, mz, mj (.putfield 21) 3 5 3 4, mz, mz, mi (.aload 0) 1, mi (.iconst 6) 2, mz, mi (.newarray .long) 2, mz, mj (.putfield 25) 3 5 4 5],
  [mz, mz, mi .return_ 1]]
def kX5_isListed : List (List (Option mR)) := [[mi (.iconst 0) 1, mi (.istore 2) 1, mi (.iload 2) 1, mi (.aload 0) 1, mj (.getfield 28) 3 5 1 6, mz, mz, mi (.if_icmp .ge 21) 3, mz, mz, mi (.aload 0) 1, mj (.getfield 13) 3 5 0 2, mz, mz, mi (.iload 2) 1, mi .aaload 1],
  [mi (.aload 1) 1, mi (.if_acmp .ne 5) 3, mz, mz, mi (.iconst 1) 1, mi .ireturn 1, mi (.iinc 2 1) 3, mz, mz, mi (.goto (-23)) 3, mz, mz, mi (.iconst 0) 1, mi .ireturn 1]]
def kX5_add : List (List (Option mR)) := [[mi (.aload 1) 1, mj (.getfield 31) 3 7 9 7, mz, mz, mi (.ifCond .ne 11) 3, mz, mz, mi (.aload 0) 1, mi (.aload 1) 1, mj (.invokevirtual 34) 3 49 1 8, mz, mz, mi (.ifCond .eq 6) 3, mz, mz, mi (.iconst (-2)) 2],
  [mz, mi .ireturn 1, mi (.aload 0) 1, mj (.getfield 28) 3 5 1 6, mz, mz, mi (.iconst 6) 2, mz, mi (.if_icmp .lt 6) 3, mz, mz, mi (.iconst (-3)) 2, mz, mi .ireturn 1, mi (.aload 0) 1, mj (.getfield 13) 3 5 0 2],
  [mz, mz, mi (.aload 0) 1, mj (.getfield 28) 3 5 1 6, mz, mz, mi (.aload 1) 1, mi .aastore 1, mi (.aload 0) 1, mi .dup 1, mj (.getfield 28) 3 5 1 6, mz, mz, mi (.iconst 1) 1, mi .iadd 1, mj (.putfield 28) 3 5 1 6],
  [mz, mz, mi (.aload 0) 1, mj (.getfield 28) 3 5 1 6, mz, mz, mi .ireturn 1]]
def kX5_begin : List (List (Option mR)) := [[mi (.aload 0) 1, mj (.getfield 21) 3 5 3 4, mz, mz, mj (.jsr_w 4000000000000000000) 3 0 0 9, mz, mz, mj (.invokestatic 40) 3 290 2 10, mz, mz, mi (.aload 0) 1, mj (.getfield 21) 3 5 3 4, mz, mz, mi (.iconst 0) 1, mi (.jsr_w 0) 1],
  [mi .lastore 1, mi .return_ 1]]
def kX5_offer : List (List (Option mR)) := [[mi (.iconst 0) 1, mi (.istore 4) 2, mz, mi (.iconst 0) 1, mi (.istore 5) 2, mz, mi (.iload 5) 2, mz, mi (.aload 0) 1, mj (.getfield 28) 3 5 1 6, mz, mz, mi (.if_icmp .ge 57) 3, mz, mz, mi (.aload 0) 1],
  [mj (.getfield 25) 3 5 4 5, mz, mz, mi (.iload 5) 2, mz, mi (.aload 0) 1, mj (.getfield 13) 3 5 0 2, mz, mz, mi (.iload 5) 2, mz, mi .aaload 1, mi (.iload 5) 2, mz, mi (.aload 1) 1, mi (.iload 2) 1],
  [mi (.aload 3) 1, mj (.invokestatic 46) 3 53 5 11, mz, mz, mi .lastore 1, mi (.iload 4) 2, mz, mi (.ifCond .ne 17) 3, mz, mz, mi (.aload 0) 1, mj (.getfield 25) 3 5 4 5, mz, mz, mi (.iload 5) 2, mz],
  [mi .laload 1, mj (.jsr_w 4000000000000000000) 3 0 0 9, mz, mz, mi .lcmp 1, mi (.ifCond .ge 7) 3, mz, mz, mi (.iconst 1) 1, mi (.goto 4) 3, mz, mz, mi (.iconst 0) 1, mi (.istore 4) 2, mz, mi (.iinc 5 1) 3],
  [mz, mz, mi (.goto (-60)) 3, mz, mz, mi (.iconst 1) 1, mi (.aload 0) 1, mj (.getfield 28) 3 5 1 6, mz, mz, mi .ishl 1, mi (.iconst 1) 1, mi .isub 1, mi (.istore 5) 2, mz, mi (.iload 4) 2],
  [mz, mi (.ifCond .eq 110) 3, mz, mz, mi (.iload 5) 2, mz, mi (.ifCond .le 105) 3, mz, mz, mi (.iconst 0) 1, mi (.istore 6) 2, mz, mi (.iload 6) 2, mz, mi (.aload 0) 1, mj (.getfield 28) 3 5 1 6],
  [mz, mz, mi (.if_icmp .ge 87) 3, mz, mz, mi (.iload 5) 2, mz, mi (.iconst 1) 1, mi (.iload 6) 2, mz, mi .ishl 1, mi (.iconst (-1)) 1, mi .ixor 1, mi .iand 1, mi (.istore 7) 2, mz],
  [mi (.iload 7) 2, mz, mi (.iload 5) 2, mz, mi (.if_icmp .eq 63) 3, mz, mz, mi (.aload 0) 1, mj (.getfield 25) 3 5 4 5, mz, mz, mi (.iload 6) 2, mz, mi .laload 1, mj (.jsr_w 4000000000000000000) 3 0 0 9, mz],
  [mz, mi .lcmp 1, mi (.ifCond .ge 49) 3, mz, mz, mi (.aload 0) 1, mj (.getfield 21) 3 5 3 4, mz, mz, mi (.iload 7) 2, mz, mi .laload 1, mj (.jsr_w 4000000000000000000) 3 0 0 9, mz, mz, mi .lcmp 1],
  [mi (.ifCond .ge 35) 3, mz, mz, mi (.aload 0) 1, mj (.getfield 21) 3 5 3 4, mz, mz, mi (.iload 5) 2, mz, mi (.aload 0) 1, mj (.getfield 21) 3 5 3 4, mz, mz, mi (.iload 5) 2, mz, mi .laload 1],
  [mi (.aload 0) 1, mj (.getfield 21) 3 5 3 4, mz, mz, mi (.iload 7) 2, mz, mi .laload 1, mi (.aload 0) 1, mj (.getfield 25) 3 5 4 5, mz, mz, mi (.iload 6) 2, mz, mi .laload 1, mi .ladd 1, mz],
  [mz, mz, mi .lastore 1, mi (.iinc 6 1) 3, mz, mz, mi (.goto (-90)) 3, mz, mz, mi (.iinc 5 (-1)) 3, mz, mz, mi (.goto (-109)) 3, mz, mz, mi .return_ 1]]
def kX5_costOf : List (List (Option mR)) := [[mi (.aload 0) 1, mi (.ifnull 21) 3, mz, mz, mi (.aload 0) 1, mj (.getfield 31) 3 7 9 7, mz, mz, mi (.ifCond .ne 14) 3, mz, mz, mi (.aload 0) 1, mi (.aload 2) 1, mi (.iload 3) 1, mi (.aload 4) 2, mz],
  [mj (.invokevirtual 56) 3 67 3 12, mz, mz, mi (.ifCond .eq 7) 3, mz, mz, mj (.jsr_w 4000000000000000000) 3 0 0 9, mz, mz, mi .lreturn 1, mj (.jsr_w 4542954016328) 3 0 0 13, mz, mz, mi (.aload 4) 2, mz, mi (.aload 2) 1],
  [mj (.getfield 62) 3 4 4 14, mz, mz, mi (.aload 0) 1, mj (.getfield 67) 3 7 7 15, mz, mz, mj (.invokevirtual 68) 3 89 2 16, mz, mz, mi .i2l 1, mi .lmul 1, mj (.getstatic 74) 3 0 0 17, mz, mz, mi (.iload 1) 1],
  [mi .laload 1, mi (.aload 2) 1, mj (.getfield 77) 3 4 0 18, mz, mz, mi .i2l 1, mi .lmul 1, mi .ladd 1, mi (.lstore 5) 2, mz, mi (.aload 2) 1, mj (.getfield 80) 3 4 1 19, mz, mz, mi (.aload 0) 1, mj (.getfield 84) 3 7 5 20],
  [mz, mz, mi (.if_acmp .ne 8) 3, mz, mz, mi (.lload 5) 2, mz, mi (.goto 9) 3, mz, mz, mi (.lload 5) 2, mz, mj (.jsr_w 567869252041) 3 0 0 21, mz, mz, mi .ladd 1],
  [mi .lreturn 1]]
def kX5_leastCost : List (List (Option mR)) := [[mj (.jsr_w 4000000000000000000) 3 0 0 9, mz, mz, mi (.lstore 1) 1, mi (.iconst 0) 1, mi (.istore 3) 1, mi (.iload 3) 1, mi (.iconst 1) 1, mi (.aload 0) 1, mj (.getfield 28) 3 5 1 6, mz, mz, mi .ishl 1, mi (.if_icmp .ge 79) 3, mz, mz],
  [mi (.aload 0) 1, mj (.getfield 21) 3 5 3 4, mz, mz, mi (.iload 3) 1, mi .laload 1, mi (.lstore 4) 2, mz, mi (.iconst 0) 1, mi (.istore 6) 2, mz, mi (.iload 6) 2, mz, mi (.aload 0) 1, mj (.getfield 28) 3 5 1 6, mz],
  [mz, mi (.if_icmp .ge 46) 3, mz, mz, mi (.lload 4) 2, mz, mj (.jsr_w 4000000000000000000) 3 0 0 9, mz, mz, mi .lcmp 1, mi (.ifCond .ge 37) 3, mz, mz, mi (.iload 3) 1, mi (.iload 6) 2, mz],
  [mi .ishr 1, mi (.iconst 1) 1, mi .iand 1, mi (.ifCond .ne 22) 3, mz, mz, mi (.lload 4) 2, mz, mj (.jsr_w 148863517207035904) 3 0 0 22, mz, mz, mj (.getstatic 74) 3 0 0 17, mz, mz, mi (.iload 6) 2, mz],
  [mi .laload 1, mj (.jsr_w 90) 3 0 0 23, mz, mz, mi .lmul 1, mi .ladd 1, mi .ladd 1, mi (.lstore 4) 2, mz, mi (.iinc 6 1) 3, mz, mz, mi (.goto (-49)) 3, mz, mz, mi (.lload 1) 1],
  [mi (.lload 4) 2, mz, mz, mz, mz, mi (.lstore 1) 1, mi (.iinc 3 1) 3, mz, mz, mi (.goto (-83)) 3, mz, mz, mi (.lload 1) 1, mi .lreturn 1]]
def kX5_promise : List (List (Option mR)) := [[mi (.aload 0) 1, mj (.invokevirtual 91) 3 54 0 24, mz, mz, mj (.jsr_w 567869252041) 3 0 0 21, mz, mz, mi .lrem 1, mi (.lstore 3) 1, mi (.iconst 0) 1, mi (.istore 5) 2, mz, mi (.aload 0) 1, mi (.iconst 0) 1, mj (.putfield 17) 3 5 2 3, mz],
  [mz, mi (.iconst 0) 1, mi (.istore 6) 2, mz, mi (.iload 6) 2, mz, mi (.aload 0) 1, mj (.getfield 28) 3 5 1 6, mz, mz, mi (.if_icmp .ge 102) 3, mz, mz, mi (.aload 0) 1, mj (.getfield 13) 3 5 0 2, mz],
  [mz, mi (.iload 6) 2, mz, mi .aaload 1, mi (.astore 7) 2, mz, mi (.lload 3) 1, mj (.getstatic 74) 3 0 0 17, mz, mz, mi (.iload 6) 2, mz, mi .laload 1, mi .ldiv 1, mj (.jsr_w 91) 3 0 0 25, mz],
  [mz, mi .lrem 1, mi .l2i 1, mi (.istore 8) 2, mz, mi (.aload 7) 2, mz, mi (.ifnull 59) 3, mz, mz, mi (.iload 8) 2, mz, mi (.ifCond .lt 54) 3, mz, mz, mi (.iload 8) 2],
  [mz, mi (.aload 1) 1, mi .arraylength 1, mi (.if_icmp .ge 47) 3, mz, mz, mi (.aload 1) 1, mi (.iload 8) 2, mz, mi .aaload 1, mi (.ifnull 40) 3, mz, mz, mi (.aload 7) 2, mz, mi (.aload 1) 1],
  [mi (.iload 8) 2, mz, mi .aaload 1, mj (.invokevirtual 97) 3 70 1 26, mz, mz, mi (.aload 0) 1, mi .dup 1, mj (.getfield 17) 3 5 2 3, mz, mz, mi (.aload 2) 1, mi (.aload 1) 1, mi (.iload 8) 2, mz, mi .aaload 1],
  [mj (.getfield 62) 3 4 4 14, mz, mz, mi (.aload 7) 2, mz, mj (.getfield 67) 3 7 7 15, mz, mz, mj (.invokevirtual 68) 3 89 2 16, mz, mz, mi .iadd 1, mj (.putfield 17) 3 5 2 3, mz, mz, mi (.iinc 5 1) 3],
  [mz, mz, mi (.aload 0) 1, mj (.getfield 13) 3 5 0 2, mz, mz, mi (.iload 6) 2, mz, mi .aconst_null 1, mi .aastore 1, mi (.iinc 6 1) 3, mz, mz, mi (.goto (-105)) 3, mz, mz],
  [mi (.aload 0) 1, mi (.iconst 0) 1, mj (.putfield 28) 3 5 1 6, mz, mz, mi (.iload 5) 2, mz, mi .ireturn 1]]
def kX6_init : List (List (Option mR)) := [[mi (.aload 0) 1, mi .pop2 3, mz, mz, mi (.aload 0) 1, mi (.iconst 4) 1, mi (.newarray .int) 2, mz, mj (.putfield 7) 3 6 0 1, mz, mz, mi (.aload 0) 1, mi (.iconst 4) 1, mi (.newarray .int) 2, mz, mj (.putfield 13) 3 6 1 2],
  [mz, mz, mi (.aload 0) 1, mj (.getfield 7) 3 6 0 1, mz, mz, mi (.iconst 0) 1, mi (.iload 1) 1, mi .iastore 1, mi (.aload 0) 1, mj (.getfield 13) 3 6 1 2, mz, mz, mi (.iconst 0) 1, mi (.iload 2) 1, mi .iastore 1],
  [mi (.aload 0) 1, mi (.iconst 1) 1, mj (.putfield 16) 3 6 2 3, mz, mz, mi (.aload 0) 1, mi (.iconst 1) 1, mj (.putfield 20) 3 6 3 4, mz, mz, mi .return_ 1]]
def kX6_size : List (List (Option mR)) := [[mi (.aload 0) 1, mj (.getfield 16) 3 6 2 3, mz, mz, mi .ireturn 1]]
def kX6_last : List (List (Option mR)) := [[mi (.aload 0) 1, mi (.aload 0) 1, mj (.getfield 16) 3 6 2 3, mz, mz, mi (.iconst 1) 1, mi .isub 1, mj (.invokevirtual 24) 3 59 1 5, mz, mz, mi .ireturn 1]]
def kX6_valueAt : List (List (Option mR)) := [[mi (.iload 1) 1, mi (.ifCond .lt 20) 3, mz, mz, mi (.iload 1) 1, mi (.aload 0) 1, mj (.getfield 16) 3 6 2 3, mz, mz, mi (.if_icmp .ge 12) 3, mz, mz, mi (.aload 0) 1, mj (.getfield 13) 3 6 1 2, mz, mz],
  [mi (.iload 1) 1, mi .iaload 1, mi (.goto 4) 3, mz, mz, mi (.iconst 0) 1, mi .ireturn 1]]
def kX6_toldAt : List (List (Option mR)) := [[mi (.aload 0) 1, mj (.getfield 16) 3 6 2 3, mz, mz, mi (.ifCond .le 22) 3, mz, mz, mi (.aload 0) 1, mj (.getfield 7) 3 6 0 1, mz, mz, mi (.aload 0) 1, mj (.getfield 16) 3 6 2 3, mz, mz, mi (.iconst 1) 1],
  [mi .isub 1, mi .iaload 1, mi (.iload 1) 1, mi (.if_icmp .ne 7) 3, mz, mz, mi (.iconst 1) 1, mi (.goto 4) 3, mz, mz, mi (.iconst 0) 1, mi .ireturn 1]]
def kX6_isAnother : List (List (Option mR)) := [[mi (.aload 0) 1, mi (.iload 1) 1, mj (.invokevirtual 28) 3 60 1 6, mz, mz, mi (.ifCond .eq 18) 3, mz, mz, mi (.aload 0) 1, mj (.getfield 16) 3 6 2 3, mz, mz, mi (.iconst 1) 1, mi (.if_icmp .ne 14) 3, mz, mz],
  [mi (.aload 0) 1, mj (.getfield 20) 3 6 3 4, mz, mz, mi (.ifCond .eq 7) 3, mz, mz, mi (.iconst 1) 1, mi (.goto 4) 3, mz, mz, mi (.iconst 0) 1, mi .ireturn 1]]
def kX6_tell : List (List (Option mR)) := [[mi (.aload 0) 1, mi (.iload 1) 1, mj (.invokevirtual 28) 3 60 1 6, mz, mz, mi (.ifCond .ne 30) 3, mz, mz, mi (.aload 0) 1, mj (.invokevirtual 32) 3 63 0 7, mz, mz, mi (.aload 0) 1, mj (.getfield 7) 3 6 0 1, mz, mz],
  [mi (.aload 0) 1, mj (.getfield 16) 3 6 2 3, mz, mz, mi (.iload 1) 1, mi .iastore 1, mi (.aload 0) 1, mi .dup 1, mj (.getfield 16) 3 6 2 3, mz, mz, mi (.iconst 1) 1, mi .iadd 1, mj (.putfield 16) 3 6 2 3, mz, mz],
  [mi (.goto 16) 3, mz, mz, mi (.aload 0) 1, mj (.getfield 16) 3 6 2 3, mz, mz, mi (.iconst 1) 1, mi (.if_icmp .ne 8) 3, mz, mz, mi (.aload 0) 1, mi (.iconst 0) 1, mj (.putfield 20) 3 6 3 4, mz, mz],
  [mi (.aload 0) 1, mj (.getfield 13) 3 6 1 2, mz, mz, mi (.aload 0) 1, mj (.getfield 16) 3 6 2 3, mz, mz, mi (.iconst 1) 1, mi .isub 1, mi (.iload 2) 1, mi .iastore 1, mi .return_ 1]]
def kX6_grow : List (List (Option mR)) := [[mi (.aload 0) 1, mj (.getfield 16) 3 6 2 3, mz, mz, mi (.aload 0) 1, mj (.getfield 7) 3 6 0 1, mz, mz, mi .arraylength 1, mi (.if_icmp .ne 37) 3, mz, mz, mi (.aload 0) 1, mi (.aload 0) 1, mj (.getfield 7) 3 6 0 1, mz],
  [mz, mi (.iconst 2) 1, mi (.aload 0) 1, mj (.getfield 16) 3 6 2 3, mz, mz, mi .imul 1, mj (.invokestatic 35) 3 291 2 8, mz, mz, mj (.putfield 7) 3 6 0 1, mz, mz, mi (.aload 0) 1, mi (.aload 0) 1, mj (.getfield 13) 3 6 1 2],
  [mz, mz, mi (.iconst 2) 1, mi (.aload 0) 1, mj (.getfield 16) 3 6 2 3, mz, mz, mi .imul 1, mj (.invokestatic 35) 3 291 2 8, mz, mz, mj (.putfield 13) 3 6 1 2, mz, mz, mi .return_ 1]]
def kX6_latestUpTo : List (List (Option mR)) := [[mi (.iconst 0) 1, mi (.istore 2) 1, mi (.aload 0) 1, mj (.getfield 16) 3 6 2 3, mz, mz, mi (.istore 3) 1, mi (.iconst 0) 1, mi (.istore 4) 2, mz, mi (.iload 4) 2, mz, mi (.iconst 32) 2, mz, mi (.if_icmp .ge 43) 3, mz],
  [mz, mi (.iload 2) 1, mi (.iload 3) 1, mi (.if_icmp .ge 38) 3, mz, mz, mi (.iload 2) 1, mi (.iload 3) 1, mi .iadd 1, mi (.iconst 1) 1, mi .iushr 1, mi (.istore 5) 2, mz, mi (.aload 0) 1, mj (.getfield 7) 3 6 0 1, mz],
  [mz, mi (.iload 5) 2, mz, mi .iaload 1, mi (.iload 1) 1, mi (.if_icmp .gt 11) 3, mz, mz, mi (.iload 5) 2, mz, mi (.iconst 1) 1, mi .iadd 1, mi (.istore 2) 1, mi (.goto 6) 3, mz, mz],
  [mi (.iload 5) 2, mz, mi (.istore 3) 1, mi (.iinc 4 1) 3, mz, mz, mi (.goto (-44)) 3, mz, mz, mi (.iload 2) 1, mi (.iconst 1) 1, mi .isub 1, mi .ireturn 1]]
def kX6_earliestFrom : List (List (Option mR)) := [[mi (.aload 0) 1, mi (.iload 1) 1, mi (.iconst 1) 1, mi .isub 1, mj (.invokevirtual 41) 3 64 1 9, mz, mz, mi (.iconst 1) 1, mi .iadd 1, mi .ireturn 1]]
def kX7_init : List (List (Option mR)) := [[mi (.aload 0) 1, mi .pop2 3, mz, mz, mi (.aload 0) 1, mi (.iconst (-1)) 1, mj (.putfield 9) 3 7 11 1, mz, mz, mi (.aload 0) 1, mi (.iconst (-1)) 1, mj (.putfield 15) 3 7 12 2, mz, mz, mi (.aload 0) 1, mi (.iconst 60) 2],
  [mz, mi (.newarray .boolean) 2, mz, mj (.putfield 18) 3 7 13 3, mz, mz, mi (.aload 0) 1, mi (.iconst 2) 1, mi (.newarray .int) 2, mz, mi .dup 1, mi (.iconst 0) 1, mi (.iconst (-1)) 1, mi .iastore 1, mi .dup 1, mi (.iconst 1) 1],
  [mi (.iconst (-1)) 1, mi .iastore 1, mj (.putfield 22) 3 7 14 4, mz, mz, mi (.aload 0) 1, mi (.iconst 2) 1, mi (.newarray .int) 2, mz, mi .dup 1, mi (.iconst 0) 1, mi (.iconst (-1)) 1, mi .iastore 1, mi .dup 1, mi (.iconst 1) 1, mi (.iconst (-1)) 1],
  [mi .iastore 1, mj (.putfield 26) 3 7 15 5, mz, mz, mi (.aload 0) 1, mi (.iload 1) 1, mj (.putfield 29) 3 7 0 6, mz, mz, mi (.aload 0) 1, mi (.aload 2) 1, mj (.putfield 32) 3 7 5 7, mz, mz, mi (.aload 0) 1, mi (.iload 3) 1],
  [mj (.putfield 36) 3 7 1 8, mz, mz, mi (.aload 0) 1, mi (.iload 4) 2, mz, mj (.putfield 39) 3 7 2 9, mz, mz, mi (.aload 0) 1, mi (.iload 5) 2, mz, mj (.putfield 42) 3 7 3 10, mz, mz, mi (.aload 0) 1],
  [mi (.iload 6) 2, mz, mj (.putfield 45) 3 7 4 11, mz, mz, mi .return_ 1]]
def kX7_objection : List (List (Option mR)) := [[mi (.aload 1) 1, mj (.getfield 48) 3 4 5 12, mz, mz, mi (.ifCond .ne 10) 3, mz, mz, mi (.aload 1) 1, mj (.getfield 53) 3 4 3 13, mz, mz, mi (.ifCond .eq 5) 3, mz, mz, mi (.iconst 1) 1, mi .ireturn 1],
  [mi (.aload 1) 1, mj (.getfield 56) 3 4 1 14, mz, mz, mi (.aload 0) 1, mj (.getfield 32) 3 7 5 7, mz, mz, mj (.invokevirtual 57) 3 11 1 15, mz, mz, mi (.ifCond .ne 5) 3, mz, mz, mi (.iconst 2) 1, mi .ireturn 1],
  [mi (.aload 0) 1, mj (.getfield 63) 3 7 8 16, mz, mz, mi (.aload 1) 1, mj (.getfield 56) 3 4 1 14, mz, mz, mj (.getfield 66) 3 1 4 17, mz, mz, mi .ishr 1, mi (.iconst 1) 1, mi .iand 1, mi (.ifCond .ne 5) 3, mz],
  [mz, mi (.iconst 3) 1, mi .ireturn 1, mi (.aload 1) 1, mj (.invokevirtual 69) 3 39 0 18, mz, mz, mi (.ifCond .ne 19) 3, mz, mz, mi (.aload 1) 1, mi (.aload 0) 1, mj (.getfield 39) 3 7 2 9, mz, mz, mi (.aload 0) 1],
  [mj (.getfield 42) 3 7 3 10, mz, mz, mi .imul 1, mj (.invokevirtual 73) 3 40 1 19, mz, mz, mi (.ifCond .eq 5) 3, mz, mz, mi (.iconst 4) 1, mi .ireturn 1, mi (.aload 3) 1, mi (.aload 1) 1, mj (.getfield 77) 3 4 4 20, mz],
  [mz, mi (.aload 0) 1, mj (.getfield 80) 3 7 7 21, mz, mz, mj (.invokevirtual 81) 3 90 2 22, mz, mz, mi (.istore 4) 2, mz, mi (.iload 4) 2, mz, mi (.ifCond .lt 14) 3, mz, mz, mi (.iload 2) 1],
  [mi (.iload 4) 2, mz, mi .iadd 1, mi (.aload 0) 1, mj (.getfield 36) 3 7 1 8, mz, mz, mi (.if_icmp .le 5) 3, mz, mz, mi (.iconst 5) 1, mi .ireturn 1, mi (.aload 1) 1, mj (.getfield 87) 3 4 9 23, mz, mz],
  [mi (.ifnull 11) 3, mz, mz, mi (.aload 1) 1, mj (.getfield 87) 3 4 9 23, mz, mz, mi (.aload 0) 1, mi (.if_acmp .ne 7) 3, mz, mz, mi (.iconst 0) 1, mi (.goto 5) 3, mz, mz, mi (.iconst 6) 2],
  [mz, mi .ireturn 1]]
def kX7_begun : List (List (Option mR)) := [[mi (.aload 0) 1, mj (.getfield 91) 3 7 10 24, mz, mz, mi (.ifnull 31) 3, mz, mz, mi (.aload 0) 1, mj (.getfield 95) 3 7 9 25, mz, mz, mi (.iconst 3) 1, mi (.if_icmp .eq 19) 3, mz, mz, mi (.aload 0) 1],
  [mj (.getfield 95) 3 7 9 25, mz, mz, mi (.iconst 2) 1, mi (.if_icmp .ne 15) 3, mz, mz, mi (.iload 1) 1, mi (.aload 0) 1, mj (.getfield 9) 3 7 11 1, mz, mz, mi (.if_icmp .lt 7) 3, mz, mz, mi (.iconst 1) 1],
  [mi (.goto 4) 3, mz, mz, mi (.iconst 0) 1, mi .ireturn 1]]
def kX7_isSubstitute : List (List (Option mR)) := [[mi (.aload 0) 1, mj (.getfield 91) 3 7 10 24, mz, mz, mi (.ifnull 21) 3, mz, mz, mi (.aload 0) 1, mj (.getfield 91) 3 7 10 24, mz, mz, mj (.getfield 56) 3 4 1 14, mz, mz, mi (.aload 0) 1, mj (.getfield 32) 3 7 5 7],
  [mz, mz, mi (.if_acmp .eq 7) 3, mz, mz, mi (.iconst 1) 1, mi (.goto 4) 3, mz, mz, mi (.iconst 0) 1, mi .ireturn 1]]
def kX7_promise : List (List (Option mR)) := [[mi (.aload 0) 1, mi (.iconst 1) 1, mj (.putfield 95) 3 7 9 25, mz, mz, mi (.aload 0) 1, mi (.aload 1) 1, mj (.putfield 91) 3 7 10 24, mz, mz, mi (.aload 1) 1, mi (.aload 0) 1, mj (.putfield 87) 3 4 9 23, mz, mz, mi .return_ 1]]
def kX7_finish : List (List (Option mR)) := [[mi (.aload 0) 1, mi (.iconst 3) 1, mj (.putfield 95) 3 7 9 25, mz, mz, mi (.aload 0) 1, mi (.iload 1) 1, mj (.putfield 15) 3 7 12 2, mz, mz, mi .return_ 1]]
def kX7_loseMachine : List (List (Option mR)) := [[mi (.aload 0) 1, mi (.iload 1) 1, mj (.invokevirtual 96) 3 68 1 26, mz, mz, mi (.ifCond .eq 9) 3, mz, mz, mi (.aload 0) 1, mi (.iload 1) 1, mj (.invokevirtual 99) 3 71 1 27, mz, mz, mi .return_ 1, mi (.aload 0) 1, mi (.iconst 0) 1],
  [mj (.putfield 95) 3 7 9 25, mz, mz, mi (.aload 0) 1, mi .aconst_null 1, mj (.putfield 91) 3 7 10 24, mz, mz, mi (.aload 0) 1, mi (.iconst (-1)) 1, mj (.putfield 9) 3 7 11 1, mz, mz, mi .return_ 1]]
def kX7_endBy : List (List (Option mR)) := [[mi (.aload 0) 1, mj (.getfield 15) 3 7 12 2, mz, mz, mi (.ifCond .ge 7) 3, mz, mz, mi (.iload 1) 1, mi (.goto 7) 3, mz, mz, mi (.aload 0) 1, mj (.getfield 15) 3 7 12 2, mz, mz, mi .ireturn 1]]
def kX7_dayCount : List (List (Option mR)) := [[mi (.aload 0) 1, mi (.iload 1) 1, mj (.invokevirtual 103) 3 73 1 28, mz, mz, mi (.aload 0) 1, mj (.getfield 9) 3 7 11 1, mz, mz, mi .isub 1, mi (.iconst 24) 2, mz, mi .iadd 1, mi (.iconst 1) 1, mi .isub 1, mi (.iconst 24) 2],
  [mz, mi .idiv 1, mi .ireturn 1]]
def kX7_knownOfDay : List (List (Option mR)) := [[mi (.aload 0) 1, mj (.getfield 91) 3 7 10 24, mz, mz, mi (.ifnonnull 5) 3, mz, mz, mi (.iconst 3) 1, mi .ireturn 1, mi (.aload 0) 1, mj (.getfield 91) 3 7 10 24, mz, mz, mj (.getfield 107) 3 4 2 29, mz, mz],
  [mi (.astore 3) 1, mi (.aload 0) 1, mj (.getfield 9) 3 7 11 1, mz, mz, mi (.iconst 24) 2, mz, mi (.iload 1) 1, mi .imul 1, mi .iadd 1, mi (.istore 4) 2, mz, mi (.iload 4) 2, mz, mi (.iconst 24) 2, mz],
  [mi .iadd 1, mi (.aload 0) 1, mi (.iload 2) 1, mj (.invokevirtual 103) 3 73 1 28, mz, mz, mz, mz, mz, mi (.istore 5) 2, mz, mi (.aload 3) 1, mi (.iload 4) 2, mz, mj (.invokevirtual 116) 3 65 1 30, mz],
  [mz, mi (.istore 6) 2, mz, mi (.aload 3) 1, mi (.iload 5) 2, mz, mj (.invokevirtual 121) 3 64 1 31, mz, mz, mi (.istore 7) 2, mz, mi (.iload 6) 2, mz, mi (.iload 7) 2, mz, mi (.if_icmp .ge 20) 3],
  [mz, mz, mi (.aload 3) 1, mi (.iload 6) 2, mz, mj (.invokevirtual 124) 3 59 1 32, mz, mz, mi (.aload 3) 1, mi (.iload 7) 2, mz, mj (.invokevirtual 124) 3 59 1 32, mz, mz, mi (.if_icmp .eq 5) 3, mz],
  [mz, mi (.iconst 1) 1, mi .ireturn 1, mi (.aload 3) 1, mi (.iload 4) 2, mz, mj (.invokevirtual 121) 3 64 1 31, mz, mz, mi (.istore 8) 2, mz, mi (.aload 3) 1, mi (.iload 5) 2, mz, mj (.invokevirtual 116) 3 65 1 30, mz],
  [mz, mi (.istore 9) 2, mz, mi (.iload 8) 2, mz, mi (.ifCond .lt 16) 3, mz, mz, mi (.iload 9) 2, mz, mi (.aload 3) 1, mj (.invokevirtual 127) 3 57 0 33, mz, mz, mi (.if_icmp .ge 7) 3, mz],
  [mz, mi (.iconst 1) 1, mi (.goto 4) 3, mz, mz, mi (.iconst 0) 1, mi (.istore 10) 2, mz, mi (.iload 10) 2, mz, mi (.ifCond .eq 20) 3, mz, mz, mi (.aload 3) 1, mi (.iload 8) 2, mz],
  [mj (.invokevirtual 124) 3 59 1 32, mz, mz, mi (.aload 3) 1, mi (.iload 9) 2, mz, mj (.invokevirtual 124) 3 59 1 32, mz, mz, mi (.if_icmp .ne 5) 3, mz, mz, mi (.iconst 0) 1, mi .ireturn 1, mi (.iload 1) 1, mi (.ifCond .lt 22) 3],
  [mz, mz, mi (.iload 1) 1, mi (.iconst 60) 2, mz, mi (.if_icmp .ge 16) 3, mz, mz, mi (.aload 0) 1, mj (.getfield 18) 3 7 13 3, mz, mz, mi (.iload 1) 1, mi .baload 1, mi (.ifCond .eq 7) 3, mz],
  [mz, mi (.iconst 3) 1, mi (.goto 4) 3, mz, mz, mi (.iconst 2) 1, mi .ireturn 1]]
def kX7_daysWorked : List (List (Option mR)) := [[mi (.aload 0) 1, mi (.iload 2) 1, mj (.invokevirtual 131) 3 74 1 34, mz, mz, mi (.istore 3) 1, mi (.iconst 0) 1, mi (.istore 4) 2, mz, mi (.iconst 0) 1, mi (.istore 5) 2, mz, mi (.iload 5) 2, mz, mi (.iload 3) 1, mi (.if_icmp .ge 61) 3],
  [mz, mz, mi (.aload 0) 1, mi (.iload 5) 2, mz, mi (.iload 2) 1, mj (.invokevirtual 134) 3 75 2 35, mz, mz, mi (.istore 6) 2, mz, mi (.iload 6) 2, mz, mi (.iconst 1) 1, mi (.if_icmp .eq 25) 3, mz],
  [mz, mi (.iload 6) 2, mz, mi (.iconst 2) 1, mi (.if_icmp .ne 8) 3, mz, mz, mi (.iload 1) 1, mi (.iconst 1) 1, mi (.if_icmp .ne 14) 3, mz, mz, mi (.iload 6) 2, mz, mi (.iconst 3) 1, mi (.if_icmp .ne 12) 3],
  [mz, mz, mi (.iload 1) 1, mi (.iconst 2) 1, mi (.if_icmp .ne 7) 3, mz, mz, mi (.iconst 1) 1, mi (.goto 4) 3, mz, mz, mi (.iconst 0) 1, mi (.istore 7) 2, mz, mi (.iload 7) 2, mz],
  [mi (.ifCond .eq 6) 3, mz, mz, mi (.iinc 4 1) 3, mz, mz, mi (.iinc 5 1) 3, mz, mz, mi (.goto (-61)) 3, mz, mz, mi (.iload 4) 2, mz, mi .ireturn 1]]
def kX7_hoursWorked : List (List (Option mR)) := [[mi (.aload 0) 1, mj (.getfield 91) 3 7 10 24, mz, mz, mi (.ifnonnull 5) 3, mz, mz, mi (.iconst 0) 1, mi .ireturn 1, mi (.aload 0) 1, mj (.getfield 91) 3 7 10 24, mz, mz, mj (.getfield 107) 3 4 2 29, mz, mz],
  [mi (.astore 2) 1, mi (.aload 2) 1, mi (.aload 2) 1, mi (.aload 0) 1, mi (.iload 1) 1, mj (.invokevirtual 103) 3 73 1 28, mz, mz, mj (.invokevirtual 121) 3 64 1 31, mz, mz, mj (.invokevirtual 124) 3 59 1 32, mz, mz, mi (.istore 3) 1, mi (.iload 3) 1],
  [mi (.aload 2) 1, mi (.aload 2) 1, mi (.aload 0) 1, mj (.getfield 9) 3 7 11 1, mz, mz, mj (.invokevirtual 121) 3 64 1 31, mz, mz, mj (.invokevirtual 124) 3 59 1 32, mz, mz, mi .isub 1, mi .ireturn 1]]
def kX7_mayTell : List (List (Option mR)) := [[mi (.iload 1) 1, mi (.ifCond .ne 25) 3, mz, mz, mi (.aload 0) 1, mj (.getfield 95) 3 7 9 25, mz, mz, mi (.iconst 1) 1, mi (.if_icmp .eq 11) 3, mz, mz, mi (.aload 0) 1, mj (.getfield 95) 3 7 9 25, mz, mz],
  [mi (.iconst 2) 1, mi (.if_icmp .ne 7) 3, mz, mz, mi (.iconst 1) 1, mi (.goto 4) 3, mz, mz, mi (.iconst 0) 1, mi .ireturn 1, mi (.aload 0) 1, mj (.getfield 95) 3 7 9 25, mz, mz, mi (.iconst 3) 1, mi (.if_icmp .ne 25) 3],
  [mz, mz, mi (.aload 0) 1, mj (.getfield 91) 3 7 10 24, mz, mz, mi (.ifnull 18) 3, mz, mz, mi (.aload 0) 1, mj (.getfield 91) 3 7 10 24, mz, mz, mj (.getfield 137) 3 4 10 36, mz, mz],
  [mi (.aload 0) 1, mi (.if_acmp .ne 7) 3, mz, mz, mi (.iconst 1) 1, mi (.goto 4) 3, mz, mz, mi (.iconst 0) 1, mi .ireturn 1]]
def kX7_tell : List (List (Option mR)) := [[mi (.iload 2) 1, mi (.ifCond .lt 23) 3, mz, mz, mi (.iload 2) 1, mi (.aload 1) 1, mi .arraylength 1, mi (.if_icmp .ge 17) 3, mz, mz, mi (.aload 1) 1, mi (.iload 2) 1, mi .iaload 1, mi (.ifCond .ge 11) 3, mz, mz],
  [mi (.aload 0) 1, mi (.iload 2) 1, mj (.invokevirtual 140) 3 78 1 37, mz, mz, mi (.ifCond .ne 6) 3, mz, mz, mi (.iconst (-2)) 2, mz, mi .ireturn 1, mi (.aload 1) 1, mi (.iload 2) 1, mi (.iload 3) 1, mi .iastore 1, mi (.iconst 1) 1],
  [mi .ireturn 1]]
def kX7_newMarks : List (List (Option mR)) := [[mi (.aload 0) 1, mj (.getfield 22) 3 7 14 4, mz, mz, mi (.iconst 0) 1, mi .iaload 1, mi (.ifCond .lt 12) 3, mz, mz, mi (.aload 0) 1, mj (.getfield 22) 3 7 14 4, mz, mz, mi (.iconst 1) 1, mi .iaload 1, mi (.ifCond .ge 7) 3],
  [mz, mz, mi (.iconst 0) 1, mi (.goto 18) 3, mz, mz, mi (.aload 0) 1, mj (.getfield 22) 3 7 14 4, mz, mz, mi (.iconst 1) 1, mi .iaload 1, mi (.aload 0) 1, mj (.getfield 22) 3 7 14 4, mz, mz],
  [mi (.iconst 0) 1, mi .iaload 1, mi (.iconst (-1)) 1, mi .ixor 1, mi .iand 1, mi .ireturn 1]]
def kX7_harmCoins : List (List (Option mR)) := [[mi (.aload 0) 1, mj (.invokevirtual 143) 3 80 0 38, mz, mz, mi (.istore 1) 1, mi (.iconst 0) 1, mi (.istore 2) 1, mi (.iconst 0) 1, mi (.istore 3) 1, mi (.iload 3) 1, mi (.iconst 16) 2, mz, mi (.if_icmp .ge 40) 3, mz, mz, mi (.aload 0) 1],
  [mj (.getfield 91) 3 7 10 24, mz, mz, mi (.ifnull 33) 3, mz, mz, mi (.iload 1) 1, mi (.iload 3) 1, mi .ishr 1, mi (.iconst 1) 1, mi .iand 1, mi (.iconst 1) 1, mi (.if_icmp .ne 18) 3, mz, mz, mi (.iload 2) 1],
  [mi (.aload 0) 1, mj (.getfield 91) 3 7 10 24, mz, mz, mj (.getfield 56) 3 4 1 14, mz, mz, mj (.getfield 146) 3 1 6 39, mz, mz, mi (.iload 3) 1, mi .iaload 1, mi .iadd 1, mi (.istore 2) 1, mi (.iinc 3 1) 3, mz],
  [mz, mi (.goto (-40)) 3, mz, mz, mi (.iload 2) 1, mi .ireturn 1]]
def kX7_litresMissing : List (List (Option mR)) := [[mi (.aload 0) 1, mj (.getfield 26) 3 7 15 5, mz, mz, mi (.iconst 0) 1, mi .iaload 1, mi (.ifCond .lt 12) 3, mz, mz, mi (.aload 0) 1, mj (.getfield 26) 3 7 15 5, mz, mz, mi (.iconst 1) 1, mi .iaload 1, mi (.ifCond .ge 7) 3],
  [mz, mz, mi (.iconst 0) 1, mi (.goto 20) 3, mz, mz, mi (.iconst 0) 1, mi (.aload 0) 1, mj (.getfield 26) 3 7 15 5, mz, mz, mi (.iconst 0) 1, mi .iaload 1, mi (.aload 0) 1, mj (.getfield 26) 3 7 15 5, mz],
  [mz, mi (.iconst 1) 1, mi .iaload 1, mi .isub 1, mz, mz, mz, mi .ireturn 1]]
def kX8_init : List (List (Option mR)) := [[mi (.aload 0) 1, mi .pop2 3, mz, mz, mi (.aload 0) 1, mi (.iconst 12) 2, mz, mi (.newarray .boolean) 2, mz, mj (.putfield 9) 3 8 0 1, mz, mz, mi (.aload 0) 1, mi (.iconst 12) 2, mz, mi (.iconst 12) 2],
  [mz, mj (.multianewarray 15 2) 4 0 0 2, mz, mz, mz, mj (.putfield 17) 3 8 1 3, mz, mz, mi (.aload 0) 1, mi (.iconst 12) 2, mz, mi (.iconst 12) 2, mz, mj (.multianewarray 15 2) 4 0 0 2, mz, mz],
  [mz, mj (.putfield 20) 3 8 2 4, mz, mz, mi .return_ 1]]
def kX8_found : List (List (Option mR)) := [[mi (.aload 0) 1, mj (.getfield 23) 3 8 3 5, mz, mz, mi (.iconst 12) 2, mz, mi (.if_icmp .lt 6) 3, mz, mz, mi (.iconst (-3)) 2, mz, mi .ireturn 1, mi (.aload 0) 1, mj (.getfield 9) 3 8 0 1, mz, mz],
  [mi (.aload 0) 1, mj (.getfield 23) 3 8 3 5, mz, mz, mi (.iload 1) 1, mi (.iconst 1) 1, mi (.if_icmp .ne 7) 3, mz, mz, mi (.iconst 1) 1, mi (.goto 4) 3, mz, mz, mi (.iconst 0) 1, mi .bastore 1, mi (.iconst 0) 1],
  [mi (.istore 2) 1, mi (.iload 2) 1, mi (.aload 0) 1, mj (.getfield 23) 3 8 3 5, mz, mz, mi (.if_icmp .ge 33) 3, mz, mz, mi (.aload 0) 1, mj (.getfield 20) 3 8 2 4, mz, mz, mi (.iload 2) 1, mi .aaload 1, mi (.aload 0) 1],
  [mj (.getfield 23) 3 8 3 5, mz, mz, mi (.iconst (-1)) 1, mi .iastore 1, mi (.aload 0) 1, mj (.getfield 20) 3 8 2 4, mz, mz, mi (.aload 0) 1, mj (.getfield 23) 3 8 3 5, mz, mz, mi .aaload 1, mi (.iload 2) 1, mi (.iconst (-1)) 1],
  [mi .iastore 1, mi (.iinc 2 1) 3, mz, mz, mi (.goto (-35)) 3, mz, mz, mi (.aload 0) 1, mi .dup 1, mj (.getfield 23) 3 8 3 5, mz, mz, mi .dup_x1 1, mi (.iconst 1) 1, mi .iadd 1, mj (.putfield 23) 3 8 3 5],
  [mz, mz, mi .ireturn 1]]
def kX8_has : List (List (Option mR)) := [[mi (.iload 1) 1, mi (.ifCond .lt 15) 3, mz, mz, mi (.iload 1) 1, mi (.aload 0) 1, mj (.getfield 23) 3 8 3 5, mz, mz, mi (.if_icmp .ge 7) 3, mz, mz, mi (.iconst 1) 1, mi (.goto 4) 3, mz, mz],
  [mi (.iconst 0) 1, mi .ireturn 1]]
def kX8_hasYard : List (List (Option mR)) := [[mi (.aload 0) 1, mi (.iload 1) 1, mj (.invokevirtual 27) 3 85 1 6, mz, mz, mi (.ifCond .eq 16) 3, mz, mz, mi (.aload 0) 1, mj (.getfield 9) 3 8 0 1, mz, mz, mi (.iload 1) 1, mi .baload 1, mi (.ifCond .eq 7) 3, mz],
  [mz, mi (.iconst 1) 1, mi (.goto 4) 3, mz, mz, mi (.iconst 0) 1, mi .ireturn 1]]
def kX8_lay : List (List (Option mR)) := [[mi (.aload 0) 1, mi (.iload 1) 1, mj (.invokevirtual 27) 3 85 1 6, mz, mz, mi (.ifCond .eq 11) 3, mz, mz, mi (.aload 0) 1, mi (.iload 2) 1, mj (.invokevirtual 27) 3 85 1 6, mz, mz, mi (.ifCond .ne 5) 3, mz, mz],
  [mi (.iconst (-1)) 1, mi .ireturn 1, mi (.aload 0) 1, mj (.getfield 17) 3 8 1 3, mz, mz, mi (.iload 1) 1, mi .aaload 1, mi (.iload 2) 1, mi .iaload 1, mi (.ifCond .eq 15) 3, mz, mz, mi (.iload 3) 1, mi (.aload 0) 1, mj (.getfield 17) 3 8 1 3],
  [mz, mz, mi (.iload 1) 1, mi .aaload 1, mi (.iload 2) 1, mi .iaload 1, mi (.if_icmp .ge 111) 3, mz, mz, mi (.aload 0) 1, mj (.getfield 17) 3 8 1 3, mz, mz, mi (.iload 1) 1, mi .aaload 1, mi (.iload 2) 1],
  [mi (.iload 3) 1, mi .iastore 1, mi (.aload 0) 1, mj (.getfield 17) 3 8 1 3, mz, mz, mi (.iload 2) 1, mi .aaload 1, mi (.iload 1) 1, mi (.iload 3) 1, mi .iastore 1, mi (.iconst 0) 1, mi (.istore 4) 2, mz, mi (.iload 4) 2, mz],
  [mi (.aload 0) 1, mj (.getfield 23) 3 8 3 5, mz, mz, mi (.if_icmp .ge 81) 3, mz, mz, mi (.iconst 0) 1, mi (.istore 5) 2, mz, mi (.iload 5) 2, mz, mi (.aload 0) 1, mj (.getfield 23) 3 8 3 5, mz, mz],
  [mi (.if_icmp .ge 63) 3, mz, mz, mi (.aload 0) 1, mi (.iload 4) 2, mz, mi (.iload 5) 2, mz, mi (.aload 0) 1, mj (.getfield 20) 3 8 2 4, mz, mz, mi (.iload 4) 2, mz, mi .aaload 1, mi (.iload 1) 1],
  [mi .iaload 1, mi (.iload 3) 1, mi (.aload 0) 1, mj (.getfield 20) 3 8 2 4, mz, mz, mi (.iload 2) 1, mi .aaload 1, mi (.iload 5) 2, mz, mi .iaload 1, mj (.invokevirtual 31) 3 88 5 7, mz, mz, mi (.aload 0) 1, mi (.iload 4) 2],
  [mz, mi (.iload 5) 2, mz, mi (.aload 0) 1, mj (.getfield 20) 3 8 2 4, mz, mz, mi (.iload 4) 2, mz, mi .aaload 1, mi (.iload 2) 1, mi .iaload 1, mi (.iload 3) 1, mi (.aload 0) 1, mj (.getfield 20) 3 8 2 4, mz],
  [mz, mi (.iload 1) 1, mi .aaload 1, mi (.iload 5) 2, mz, mi .iaload 1, mj (.invokevirtual 31) 3 88 5 7, mz, mz, mi (.iinc 5 1) 3, mz, mz, mi (.goto (-66)) 3, mz, mz, mi (.iinc 4 1) 3],
  [mz, mz, mi (.goto (-84)) 3, mz, mz, mi (.aload 0) 1, mj (.getfield 17) 3 8 1 3, mz, mz, mi (.iload 1) 1, mi .aaload 1, mi (.iload 2) 1, mi .iaload 1, mi .ireturn 1]]
def kX8_shorten : List (List (Option mR)) := [[mi (.iload 3) 1, mi (.ifCond .lt 24) 3, mz, mz, mi (.iload 5) 2, mz, mi (.ifCond .lt 19) 3, mz, mz, mi (.aload 0) 1, mi (.iload 1) 1, mj (.invokevirtual 27) 3 85 1 6, mz, mz, mi (.ifCond .eq 11) 3, mz],
  [mz, mi (.aload 0) 1, mi (.iload 2) 1, mj (.invokevirtual 27) 3 85 1 6, mz, mz, mi (.ifCond .ne 4) 3, mz, mz, mi .return_ 1, mi (.iload 3) 1, mi (.iload 4) 2, mz, mi .iadd 1, mi (.iload 5) 2, mz],
  [mi .iadd 1, mi (.istore 6) 2, mz, mi (.aload 0) 1, mj (.getfield 20) 3 8 2 4, mz, mz, mi (.iload 1) 1, mi .aaload 1, mi (.iload 2) 1, mi .iaload 1, mi (.ifCond .lt 16) 3, mz, mz, mi (.iload 6) 2, mz],
  [mi (.aload 0) 1, mj (.getfield 20) 3 8 2 4, mz, mz, mi (.iload 1) 1, mi .aaload 1, mi (.iload 2) 1, mi .iaload 1, mi (.if_icmp .ge 13) 3, mz, mz, mi (.aload 0) 1, mj (.getfield 20) 3 8 2 4, mz, mz, mi (.iload 1) 1],
  [mi .aaload 1, mi (.iload 2) 1, mi (.iload 6) 2, mz, mi .iastore 1, mi .return_ 1]]
def kX8_way : List (List (Option mR)) := [[mi (.aload 0) 1, mi (.iload 1) 1, mj (.invokevirtual 27) 3 85 1 6, mz, mz, mi (.ifCond .eq 22) 3, mz, mz, mi (.aload 0) 1, mi (.iload 2) 1, mj (.invokevirtual 27) 3 85 1 6, mz, mz, mi (.ifCond .eq 14) 3, mz, mz],
  [mi (.aload 0) 1, mj (.getfield 20) 3 8 2 4, mz, mz, mi (.iload 1) 1, mi .aaload 1, mi (.iload 2) 1, mi .iaload 1, mi (.goto 4) 3, mz, mz, mi (.iconst (-1)) 1, mi .ireturn 1]]
def kX8_rideHours : List (List (Option mR)) := [[mi (.aload 0) 1, mi (.iload 1) 1, mi (.iload 2) 1, mj (.invokevirtual 35) 3 89 2 8, mz, mz, mi (.istore 3) 1, mi (.iload 3) 1, mi (.ifCond .ge 7) 3, mz, mz, mi (.iconst (-1)) 1, mi (.goto 12) 3, mz, mz, mi (.iload 3) 1],
  [mi (.iconst 30) 2, mz, mi .iadd 1, mi (.iconst 1) 1, mi .isub 1, mi (.iconst 30) 2, mz, mi .idiv 1, mi .ireturn 1]]
def kX9_init : List (List (Option mR)) := [[mi (.aload 0) 1, mi .pop2 3, mz, mz, mi (.aload 0) 1, mi (.iconst 200) 3, mz, mz, mi (.newarray .int) 2, mz, mj (.putfield 9) 3 9 0 1, mz, mz, mi (.aload 0) 1, mi (.iconst 201) 3, mz],
  [mz, mi (.newarray .int) 2, mz, mj (.putfield 13) 3 9 2 2, mz, mz, mi (.aload 0) 1, mi (.iconst 201) 3, mz, mz, mi (.newarray .int) 2, mz, mj (.putfield 16) 3 9 3 3, mz, mz, mi (.aload 0) 1],
  [mi (.iconst 201) 3, mz, mz, mi (.newarray .int) 2, mz, mj (.putfield 19) 3 9 4 4, mz, mz, mi (.aload 0) 1, mi (.iconst 800) 3, mz, mz, mi (.newarray .int) 2, mz, mj (.putfield 22) 3 9 8 5, mz],
  [mz, mi .return_ 1]]
def kX9_hasRoom : List (List (Option mR)) := [[mi (.aload 0) 1, mj (.getfield 25) 3 9 1 6, mz, mz, mi (.iconst 20) 2, mz, mi .iadd 1, mi (.iconst 200) 3, mz, mz, mi (.if_icmp .gt 7) 3, mz, mz, mi (.iconst 1) 1, mi (.goto 4) 3, mz],
  [mz, mi (.iconst 0) 1, mi .ireturn 1]]
def kX9_append : List (List (Option mR)) := [[mi (.iconst 24) 2, mz, mi (.istore 2) 1, mi (.iload 2) 1, mi (.ifCond .lt 45) 3, mz, mz, mi (.aload 0) 1, mj (.getfield 25) 3 9 1 6, mz, mz, mi (.iconst 200) 3, mz, mz, mi (.if_icmp .ge 35) 3, mz],
  [mz, mi (.aload 0) 1, mj (.getfield 9) 3 9 0 1, mz, mz, mi (.aload 0) 1, mj (.getfield 25) 3 9 1 6, mz, mz, mi (.iload 1) 1, mi (.iload 2) 1, mi .iushr 1, mi (.iconst 255) 3, mz, mz, mi .iand 1],
  [mi .iastore 1, mi (.aload 0) 1, mi .dup 1, mj (.getfield 25) 3 9 1 6, mz, mz, mi (.iconst 1) 1, mi .iadd 1, mj (.putfield 25) 3 9 1 6, mz, mz, mi (.iinc 2 (-8)) 3, mz, mz, mi (.goto (-43)) 3, mz],
  [mz, mi .return_ 1]]
def kX9_compile : List (List (Option mR)) := [[mi (.aload 0) 1, mj (.invokevirtual 29) 3 96 0 7, mz, mz, mi (.aload 0) 1, mi (.iconst 0) 1, mj (.putfield 32) 3 9 6 8, mz, mz, mi (.aload 0) 1, mi (.iconst (-1)) 1, mj (.putfield 35) 3 9 7 9, mz, mz, mi (.aload 0) 1, mi (.iconst 0) 1],
  [mj (.putfield 38) 3 9 9 10, mz, mz, mi (.iconst 1) 1, mi (.istore 1) 1, mi (.iconst 0) 1, mi (.istore 2) 1, mi (.iload 1) 1, mi (.ifCond .eq 28) 3, mz, mz, mi (.iload 2) 1, mi (.iconst 200) 3, mz, mz, mi (.if_icmp .gt 21) 3],
  [mz, mz, mi (.aload 0) 1, mj (.invokevirtual 41) 3 108 0 11, mz, mz, mi (.aload 0) 1, mi (.iconst 1059) 3, mz, mz, mj (.invokevirtual 44) 3 103 1 12, mz, mz, mi (.istore 1) 1, mi (.iinc 2 1) 3, mz],
  [mz, mi (.goto (-26)) 3, mz, mz, mi (.aload 0) 1, mj (.invokevirtual 48) 3 102 0 13, mz, mz, mi (.iconst 101) 2, mz, mi (.if_icmp .eq 7) 3, mz, mz, mi (.aload 0) 1, mj (.invokevirtual 52) 3 105 0 14, mz],
  [mz, mi (.aload 0) 1, mj (.getfield 35) 3 9 7 9, mz, mz, mi .ireturn 1]]
def kX9_copyOfCode : List (List (Option mR)) := [[mi (.aload 0) 1, mj (.getfield 22) 3 9 8 5, mz, mz, mi (.aload 0) 1, mj (.getfield 38) 3 9 9 10, mz, mz, mj (.invokestatic 55) 3 291 2 15, mz, mz, mi .areturn 1]]
def kX9_cut : List (List (Option mR)) := [[mi (.aload 0) 1, mi (.iconst 0) 1, mj (.putfield 61) 3 9 5 16, mz, mz, mi (.iconst 0) 1, mi (.istore 1) 1, mi (.iconst 0) 1, mi (.istore 2) 1, mi (.iload 2) 1, mi (.iconst 200) 3, mz, mz, mi (.if_icmp .ge 154) 3, mz, mz],
  [mi (.iload 1) 1, mi (.aload 0) 1, mj (.getfield 25) 3 9 1 6, mz, mz, mi (.if_icmp .ge 146) 3, mz, mz, mi (.iload 1) 1, mi (.iconst 1) 1, mi .iadd 1, mi (.istore 3) 1, mi (.aload 0) 1, mi (.iload 1) 1, mj (.invokevirtual 64) 3 97 1 17, mz],
  [mz, mi (.ifCond .eq 40) 3, mz, mz, mi (.iload 3) 1, mi (.aload 0) 1, mj (.getfield 25) 3 9 1 6, mz, mz, mi (.if_icmp .ge 17) 3, mz, mz, mi (.aload 0) 1, mi (.iload 3) 1, mj (.invokevirtual 64) 3 97 1 17, mz],
  [mz, mi (.ifCond .eq 9) 3, mz, mz, mi (.iinc 3 1) 3, mz, mz, mi (.goto (-19)) 3, mz, mz, mi (.aload 0) 1, mi (.aload 0) 1, mi (.iload 1) 1, mi (.iload 3) 1, mj (.invokevirtual 67) 3 101 2 18, mz],
  [mz, mi (.iconst 0) 1, mi (.iload 1) 1, mj (.invokevirtual 71) 3 99 3 19, mz, mz, mi (.goto 89) 3, mz, mz, mi (.aload 0) 1, mi (.iload 1) 1, mj (.invokevirtual 75) 3 98 1 20, mz, mz, mi (.ifCond .eq 54) 3, mz],
  [mz, mi (.iload 3) 1, mi (.aload 0) 1, mj (.getfield 25) 3 9 1 6, mz, mz, mi (.if_icmp .ge 17) 3, mz, mz, mi (.aload 0) 1, mi (.iload 3) 1, mj (.invokevirtual 75) 3 98 1 20, mz, mz, mi (.ifCond .eq 9) 3, mz],
  [mz, mi (.iinc 3 1) 3, mz, mz, mi (.goto (-19)) 3, mz, mz, mi (.aload 0) 1, mi (.iload 3) 1, mi (.iload 1) 1, mi .isub 1, mi (.iconst 6) 2, mz, mi (.if_icmp .le 8) 3, mz, mz],
  [mi (.iconst 102) 2, mz, mi (.goto 5) 3, mz, mz, mi (.iconst 100) 2, mz, mi (.aload 0) 1, mi (.iload 1) 1, mi (.iload 3) 1, mj (.invokevirtual 78) 3 100 2 21, mz, mz, mi (.iload 1) 1, mj (.invokevirtual 71) 3 99 3 19, mz],
  [mz, mi (.goto 30) 3, mz, mz, mi (.aload 0) 1, mj (.getfield 9) 3 9 0 1, mz, mz, mi (.iload 1) 1, mi .iaload 1, mi (.iconst 32) 2, mz, mi (.if_icmp .eq 19) 3, mz, mz, mi (.aload 0) 1],
  [mi (.iconst 1000) 3, mz, mz, mi (.aload 0) 1, mj (.getfield 9) 3 9 0 1, mz, mz, mi (.iload 1) 1, mi .iaload 1, mi .iadd 1, mi (.iconst 0) 1, mi (.iload 1) 1, mj (.invokevirtual 71) 3 99 3 19, mz, mz, mi (.iload 3) 1],
  [mi (.istore 1) 1, mi (.iinc 2 1) 3, mz, mz, mi (.goto (-155)) 3, mz, mz, mi (.aload 0) 1, mi (.iconst 101) 2, mz, mi (.iconst 0) 1, mi (.aload 0) 1, mj (.getfield 25) 3 9 1 6, mz, mz, mj (.invokevirtual 71) 3 99 3 19],
  [mz, mz, mi .return_ 1]]
def kX9_isLetter : List (List (Option mR)) := [[mi (.iload 1) 1, mi (.ifCond .lt 44) 3, mz, mz, mi (.iload 1) 1, mi (.aload 0) 1, mj (.getfield 25) 3 9 1 6, mz, mz, mi (.if_icmp .ge 36) 3, mz, mz, mi (.iload 1) 1, mi (.iconst 200) 3, mz, mz],
  [mi (.if_icmp .ge 29) 3, mz, mz, mi (.aload 0) 1, mj (.getfield 9) 3 9 0 1, mz, mz, mi (.iload 1) 1, mi .iaload 1, mi (.iconst 97) 2, mz, mi (.if_icmp .lt 18) 3, mz, mz, mi (.aload 0) 1, mj (.getfield 9) 3 9 0 1],
  [mz, mz, mi (.iload 1) 1, mi .iaload 1, mi (.iconst 122) 2, mz, mi (.if_icmp .gt 7) 3, mz, mz, mi (.iconst 1) 1, mi (.goto 4) 3, mz, mz, mi (.iconst 0) 1, mi .ireturn 1]]
def kX9_isDigit : List (List (Option mR)) := [[mi (.iload 1) 1, mi (.ifCond .lt 44) 3, mz, mz, mi (.iload 1) 1, mi (.aload 0) 1, mj (.getfield 25) 3 9 1 6, mz, mz, mi (.if_icmp .ge 36) 3, mz, mz, mi (.iload 1) 1, mi (.iconst 200) 3, mz, mz],
  [mi (.if_icmp .ge 29) 3, mz, mz, mi (.aload 0) 1, mj (.getfield 9) 3 9 0 1, mz, mz, mi (.iload 1) 1, mi .iaload 1, mi (.iconst 48) 2, mz, mi (.if_icmp .lt 18) 3, mz, mz, mi (.aload 0) 1, mj (.getfield 9) 3 9 0 1],
  [mz, mz, mi (.iload 1) 1, mi .iaload 1, mi (.iconst 57) 2, mz, mi (.if_icmp .gt 7) 3, mz, mz, mi (.iconst 1) 1, mi (.goto 4) 3, mz, mz, mi (.iconst 0) 1, mi .ireturn 1]]
def kX9_addToken : List (List (Option mR)) := [[mi (.aload 0) 1, mj (.getfield 61) 3 9 5 16, mz, mz, mi (.aload 0) 1, mj (.getfield 13) 3 9 2 2, mz, mz, mi .arraylength 1, mi (.if_icmp .ge 43) 3, mz, mz, mi (.aload 0) 1, mj (.getfield 13) 3 9 2 2, mz, mz],
  [mi (.aload 0) 1, mj (.getfield 61) 3 9 5 16, mz, mz, mi (.iload 1) 1, mi .iastore 1, mi (.aload 0) 1, mj (.getfield 16) 3 9 3 3, mz, mz, mi (.aload 0) 1, mj (.getfield 61) 3 9 5 16, mz, mz, mi (.iload 2) 1, mi .iastore 1],
  [mi (.aload 0) 1, mj (.getfield 19) 3 9 4 4, mz, mz, mi (.aload 0) 1, mj (.getfield 61) 3 9 5 16, mz, mz, mi (.iload 3) 1, mi .iastore 1, mi (.aload 0) 1, mi .dup 1, mj (.getfield 61) 3 9 5 16, mz, mz, mi (.iconst 1) 1],
  [mi .iadd 1, mj (.putfield 61) 3 9 5 16, mz, mz, mi .return_ 1]]
def kX9_numberOf : List (List (Option mR)) := [[mi (.iconst 0) 1, mi (.istore 3) 1, mi (.iload 1) 1, mi (.istore 4) 2, mz, mi (.iload 4) 2, mz, mi (.iload 2) 1, mi (.if_icmp .ge 34) 3, mz, mz, mi (.aload 0) 1, mi (.iload 4) 2, mz, mj (.invokevirtual 75) 3 98 1 20, mz],
  [mz, mi (.ifCond .eq 25) 3, mz, mz, mi (.iconst 10) 2, mz, mi (.iload 3) 1, mi .imul 1, mi (.aload 0) 1, mj (.getfield 9) 3 9 0 1, mz, mz, mi (.iload 4) 2, mz, mi .iaload 1, mi .iadd 1],
  [mi (.iconst 48) 2, mz, mi .isub 1, mi (.istore 3) 1, mi (.iinc 4 1) 3, mz, mz, mi (.goto (-34)) 3, mz, mz, mi (.iload 3) 1, mi .ireturn 1]]
def kX9_wordSort : List (List (Option mR)) := [[mi (.iconst 0) 1, mi (.istore 3) 1, mi (.iload 1) 1, mi (.istore 4) 2, mz, mi (.iconst 1) 1, mi (.istore 5) 2, mz, mi (.iconst 0) 1, mi (.istore 6) 2, mz, mi (.iload 6) 2, mz, mz, mz, mz],
  [mz, mz, mi (.if_icmp .ge 91) 3, mz, mz, mz, mz, mi (.iload 6) 2, mz, mz, mz, mz, mi (.istore 7) 2, mz, mi (.iload 7) 2, mz],
  [mi (.iconst 32) 2, mz, mi (.if_icmp .ne 28) 3, mz, mz, mi (.iload 5) 2, mz, mi (.ifCond .eq 11) 3, mz, mz, mi (.iload 4) 2, mz, mi (.iload 2) 1, mi (.if_icmp .ne 5) 3, mz, mz],
  [mi (.iload 3) 1, mi .ireturn 1, mi (.iinc 3 1) 3, mz, mz, mi (.iload 1) 1, mi (.istore 4) 2, mz, mi (.iconst 1) 1, mi (.istore 5) 2, mz, mi (.goto 44) 3, mz, mz, mi (.iload 5) 2, mz],
  [mi (.ifCond .eq 36) 3, mz, mz, mi (.iload 4) 2, mz, mi (.iload 2) 1, mi (.if_icmp .ge 30) 3, mz, mz, mi (.aload 0) 1, mi (.iload 4) 2, mz, mj (.invokevirtual 64) 3 97 1 17, mz, mz, mi (.ifCond .eq 21) 3],
  [mz, mz, mi (.aload 0) 1, mj (.getfield 9) 3 9 0 1, mz, mz, mi (.iload 4) 2, mz, mi .iaload 1, mi (.iload 7) 2, mz, mi (.if_icmp .ne 9) 3, mz, mz, mi (.iinc 4 1) 3, mz],
  [mz, mi (.goto 6) 3, mz, mz, mi (.iconst 0) 1, mi (.istore 5) 2, mz, mi (.iinc 6 1) 3, mz, mz, mi (.goto (-95)) 3, mz, mz, mi (.iconst 102) 2, mz, mi .ireturn 1]]
def kX9_sort : List (List (Option mR)) := [[mi (.aload 0) 1, mj (.getfield 32) 3 9 6 8, mz, mz, mi (.ifCond .lt 26) 3, mz, mz, mi (.aload 0) 1, mj (.getfield 32) 3 9 6 8, mz, mz, mi (.aload 0) 1, mj (.getfield 61) 3 9 5 16, mz, mz, mi (.if_icmp .ge 15) 3],
  [mz, mz, mi (.aload 0) 1, mj (.getfield 13) 3 9 2 2, mz, mz, mi (.aload 0) 1, mj (.getfield 32) 3 9 6 8, mz, mz, mi .iaload 1, mi (.goto 5) 3, mz, mz, mi (.iconst 101) 2, mz],
  [mi .ireturn 1]]
def kX9_take : List (List (Option mR)) := [[mi (.aload 0) 1, mj (.getfield 35) 3 9 7 9, mz, mz, mi (.ifCond .ge 11) 3, mz, mz, mi (.aload 0) 1, mj (.invokevirtual 48) 3 102 0 13, mz, mz, mi (.iload 1) 1, mi (.if_icmp .eq 5) 3, mz, mz, mi (.iconst 0) 1],
  [mi .ireturn 1, mi (.aload 0) 1, mi .dup 1, mj (.getfield 32) 3 9 6 8, mz, mz, mi (.iconst 1) 1, mi .iadd 1, mj (.putfield 32) 3 9 6 8, mz, mz, mi (.iconst 1) 1, mi .ireturn 1]]
def kX9_need : List (List (Option mR)) := [[mi (.aload 0) 1, mj (.invokevirtual 48) 3 102 0 13, mz, mz, mi (.iload 1) 1, mi (.if_icmp .ne 16) 3, mz, mz, mi (.aload 0) 1, mi .dup 1, mj (.getfield 32) 3 9 6 8, mz, mz, mi (.iconst 1) 1, mi .iadd 1, mj (.putfield 32) 3 9 6 8],
  [mz, mz, mi (.goto 7) 3, mz, mz, mi (.aload 0) 1, mj (.invokevirtual 52) 3 105 0 14, mz, mz, mi .return_ 1]]
def kX9_fail : List (List (Option mR)) := [[mi (.aload 0) 1, mj (.getfield 35) 3 9 7 9, mz, mz, mi (.ifCond .ge 41) 3, mz, mz, mi (.aload 0) 1, mi (.aload 0) 1, mj (.getfield 32) 3 9 6 8, mz, mz, mi (.ifCond .lt 26) 3, mz, mz, mi (.aload 0) 1],
  [mj (.getfield 32) 3 9 6 8, mz, mz, mi (.aload 0) 1, mj (.getfield 61) 3 9 5 16, mz, mz, mi (.if_icmp .ge 15) 3, mz, mz, mi (.aload 0) 1, mj (.getfield 19) 3 9 4 4, mz, mz, mi (.aload 0) 1, mj (.getfield 32) 3 9 6 8],
  [mz, mz, mi .iaload 1, mi (.goto 7) 3, mz, mz, mi (.aload 0) 1, mj (.getfield 25) 3 9 1 6, mz, mz, mj (.putfield 35) 3 9 7 9, mz, mz, mi .return_ 1]]
def kX9_number : List (List (Option mR)) := [[mi (.aload 0) 1, mj (.invokevirtual 48) 3 102 0 13, mz, mz, mi (.iconst 100) 2, mz, mi (.if_icmp .ne 15) 3, mz, mz, mi (.aload 0) 1, mj (.getfield 32) 3 9 6 8, mz, mz, mi (.aload 0) 1, mj (.getfield 16) 3 9 3 3, mz],
  [mz, mi .arraylength 1, mi (.if_icmp .lt 9) 3, mz, mz, mi (.aload 0) 1, mj (.invokevirtual 52) 3 105 0 14, mz, mz, mi (.iconst 0) 1, mi .ireturn 1, mi (.aload 0) 1, mi .dup 1, mj (.getfield 32) 3 9 6 8, mz, mz],
  [mi (.iconst 1) 1, mi .iadd 1, mj (.putfield 32) 3 9 6 8, mz, mz, mi (.aload 0) 1, mj (.getfield 16) 3 9 3 3, mz, mz, mi (.aload 0) 1, mj (.getfield 32) 3 9 6 8, mz, mz, mi (.iconst 1) 1, mi .isub 1, mi .iaload 1],
  [mi .ireturn 1]]
def kX9_emit : List (List (Option mR)) := [[mi (.aload 0) 1, mj (.getfield 38) 3 9 9 10, mz, mz, mi (.aload 0) 1, mj (.getfield 22) 3 9 8 5, mz, mz, mi .arraylength 1, mi (.if_icmp .ge 23) 3, mz, mz, mi (.aload 0) 1, mj (.getfield 22) 3 9 8 5, mz, mz],
  [mi (.aload 0) 1, mj (.getfield 38) 3 9 9 10, mz, mz, mi (.iload 1) 1, mi .iastore 1, mi (.aload 0) 1, mi .dup 1, mj (.getfield 38) 3 9 9 10, mz, mz, mi (.iconst 1) 1, mi .iadd 1, mj (.putfield 38) 3 9 9 10, mz, mz],
  [mi .return_ 1]]
def kX9_step : List (List (Option mR)) := [[mi (.iconst 0) 1, mi (.istore 1) 1, mj (.iconst 999999) 2 0 0 22, mz, mi (.istore 2) 1, mi (.aload 0) 1, mi (.iconst 14) 2, mz, mj (.invokevirtual 44) 3 103 1 12, mz, mz, mi (.ifCond .eq 31) 3, mz, mz, mi (.aload 0) 1, mj (.invokevirtual 92) 3 106 0 23],
  [mz, mz, mi (.istore 1) 1, mi (.aload 0) 1, mi (.iconst 16) 2, mz, mj (.invokevirtual 44) 3 103 1 12, mz, mz, mi (.ifCond .eq 11) 3, mz, mz, mi (.aload 0) 1, mj (.invokevirtual 92) 3 106 0 23, mz, mz],
  [mi (.istore 2) 1, mi (.goto 9) 3, mz, mz, mi (.aload 0) 1, mi (.iconst 15) 2, mz, mj (.invokevirtual 95) 3 104 1 24, mz, mz, mi (.aload 0) 1, mi (.iload 1) 1, mj (.invokevirtual 99) 3 107 1 25, mz, mz, mi (.aload 0) 1],
  [mi (.iload 2) 1, mj (.invokevirtual 99) 3 107 1 25, mz, mz, mi (.aload 0) 1, mj (.getfield 38) 3 9 9 10, mz, mz, mi (.istore 3) 1, mi (.aload 0) 1, mi (.iconst 0) 1, mj (.invokevirtual 99) 3 107 1 25, mz, mz, mi (.aload 0) 1, mi (.iconst 0) 1],
  [mj (.invokevirtual 102) 3 109 1 26, mz, mz, mi (.iload 3) 1, mi (.aload 0) 1, mj (.getfield 22) 3 9 8 5, mz, mz, mi .arraylength 1, mi (.if_icmp .ge 13) 3, mz, mz, mi (.aload 0) 1, mj (.getfield 22) 3 9 8 5, mz, mz],
  [mi (.iload 3) 1, mi (.aload 0) 1, mj (.getfield 38) 3 9 9 10, mz, mz, mi .iastore 1, mi .return_ 1]]
def kX9_sum : List (List (Option mR)) := [[mi (.aload 0) 1, mi (.iload 1) 1, mj (.invokevirtual 105) 3 110 1 27, mz, mz, mi (.aload 0) 1, mj (.getfield 61) 3 9 5 16, mz, mz, mi (.istore 2) 1, mi (.iload 2) 1, mi (.ifCond .le 57) 3, mz, mz, mi (.aload 0) 1, mj (.getfield 35) 3 9 7 9],
  [mz, mz, mi (.ifCond .ge 50) 3, mz, mz, mi (.aload 0) 1, mj (.invokevirtual 48) 3 102 0 13, mz, mz, mi (.istore 3) 1, mi (.iload 3) 1, mi (.iconst 1043) 3, mz, mz, mi (.if_icmp .eq 11) 3, mz],
  [mz, mi (.iload 3) 1, mi (.iconst 1045) 3, mz, mz, mi (.if_icmp .eq 4) 3, mz, mz, mi .return_ 1, mi (.aload 0) 1, mi .dup 1, mj (.getfield 32) 3 9 6 8, mz, mz, mi (.iconst 1) 1, mi .iadd 1],
  [mj (.putfield 32) 3 9 6 8, mz, mz, mi (.aload 0) 1, mi (.iload 1) 1, mj (.invokevirtual 105) 3 110 1 27, mz, mz, mi (.aload 0) 1, mi (.iload 3) 1, mi .ineg 1, mj (.invokevirtual 99) 3 107 1 25, mz, mz, mi (.iinc 2 (-1)) 3, mz],
  [mz, mi (.goto (-55)) 3, mz, mz, mi .return_ 1]]
def kX9_product : List (List (Option mR)) := [[mi (.aload 0) 1, mi (.iload 1) 1, mj (.invokevirtual 108) 3 111 1 28, mz, mz, mi (.aload 0) 1, mj (.getfield 61) 3 9 5 16, mz, mz, mi (.istore 2) 1, mi (.iload 2) 1, mi (.ifCond .le 57) 3, mz, mz, mi (.aload 0) 1, mj (.getfield 35) 3 9 7 9],
  [mz, mz, mi (.ifCond .ge 50) 3, mz, mz, mi (.aload 0) 1, mj (.invokevirtual 48) 3 102 0 13, mz, mz, mi (.istore 3) 1, mi (.iload 3) 1, mi (.iconst 1042) 3, mz, mz, mi (.if_icmp .eq 11) 3, mz],
  [mz, mi (.iload 3) 1, mi (.iconst 1047) 3, mz, mz, mi (.if_icmp .eq 4) 3, mz, mz, mi .return_ 1, mi (.aload 0) 1, mi .dup 1, mj (.getfield 32) 3 9 6 8, mz, mz, mi (.iconst 1) 1, mi .iadd 1],
  [mj (.putfield 32) 3 9 6 8, mz, mz, mi (.aload 0) 1, mi (.iload 1) 1, mj (.invokevirtual 108) 3 111 1 28, mz, mz, mi (.aload 0) 1, mi (.iload 3) 1, mi .ineg 1, mj (.invokevirtual 99) 3 107 1 25, mz, mz, mi (.iinc 2 (-1)) 3, mz],
  [mz, mi (.goto (-55)) 3, mz, mz, mi .return_ 1]]
def kX9_operand : List (List (Option mR)) := [[mi (.aload 0) 1, mj (.invokevirtual 48) 3 102 0 13, mz, mz, mi (.istore 2) 1, mi (.iload 2) 1, mi (.iconst 17) 2, mz, mi (.if_icmp .eq 9) 3, mz, mz, mi (.iload 2) 1, mi (.iconst 18) 2, mz, mi (.if_icmp .ne 7) 3, mz],
  [mz, mi (.iconst 1) 1, mi (.goto 4) 3, mz, mz, mi (.iconst 0) 1, mi (.istore 3) 1, mi (.iload 2) 1, mi (.iconst 100) 2, mz, mi (.if_icmp .ne 12) 3, mz, mz, mi (.aload 0) 1, mi (.aload 0) 1, mj (.invokevirtual 92) 3 106 0 23],
  [mz, mz, mj (.invokevirtual 99) 3 107 1 25, mz, mz, mi .return_ 1, mi (.iload 2) 1, mi (.ifCond .lt 27) 3, mz, mz, mi (.iload 2) 1, mi (.iconst 14) 2, mz, mi (.if_icmp .ge 21) 3, mz, mz],
  [mi (.aload 0) 1, mi .dup 1, mj (.getfield 32) 3 9 6 8, mz, mz, mi (.iconst 1) 1, mi .iadd 1, mj (.putfield 32) 3 9 6 8, mz, mz, mi (.aload 0) 1, mi (.iconst (-1)) 1, mi (.iload 2) 1, mi .isub 1, mj (.invokevirtual 99) 3 107 1 25, mz],
  [mz, mi .return_ 1, mi (.iload 3) 1, mi (.ifCond .eq 13) 3, mz, mz, mi (.aload 0) 1, mi .dup 1, mj (.getfield 32) 3 9 6 8, mz, mz, mi (.iconst 1) 1, mi .iadd 1, mj (.putfield 32) 3 9 6 8, mz, mz],
  [mi (.iload 1) 1, mi (.iconst 8) 2, mz, mi (.if_icmp .ge 13) 3, mz, mz, mi (.aload 0) 1, mi (.iconst 1040) 3, mz, mz, mj (.invokevirtual 44) 3 103 1 12, mz, mz, mi (.ifCond .ne 8) 3, mz, mz],
  [mi (.aload 0) 1, mj (.invokevirtual 52) 3 105 0 14, mz, mz, mi .return_ 1, mi (.aload 0) 1, mi (.iload 1) 1, mi (.iconst 1) 1, mi .iadd 1, mj (.invokevirtual 102) 3 109 1 26, mz, mz, mi (.iload 3) 1, mi (.ifCond .eq 23) 3, mz, mz],
  [mi (.aload 0) 1, mi (.iconst 1044) 3, mz, mz, mj (.invokevirtual 95) 3 104 1 24, mz, mz, mi (.aload 0) 1, mi (.iload 1) 1, mi (.iconst 1) 1, mi .iadd 1, mj (.invokevirtual 102) 3 109 1 26, mz, mz, mi (.aload 0) 1, mi (.iload 2) 1],
  [mi .ineg 1, mj (.invokevirtual 99) 3 107 1 25, mz, mz, mi (.aload 0) 1, mi (.iconst 1041) 3, mz, mz, mj (.invokevirtual 95) 3 104 1 24, mz, mz, mi .return_ 1]]
def kX10_init : List (List (Option mR)) := [[mi (.aload 0) 1, mi .pop2 3, mz, mz, mi (.aload 0) 1, mi (.iload 1) 1, mj (.putfield 7) 3 10 0 1, mz, mz, mi (.aload 0) 1, mi (.iload 2) 1, mj (.putfield 13) 3 10 1 2, mz, mz, mi (.aload 0) 1, mi (.iload 3) 1],
  [mj (.putfield 16) 3 10 2 3, mz, mz, mi (.aload 0) 1, mi (.aload 4) 2, mz, mj (.putfield 19) 3 10 3 4, mz, mz, mi .return_ 1]]
def kX10_inForce : List (List (Option mR)) := [[mi (.aload 0) 1, mj (.getfield 7) 3 10 0 1, mz, mz, mi (.iload 1) 1, mi (.if_icmp .ne 23) 3, mz, mz, mi (.aload 0) 1, mj (.getfield 16) 3 10 2 3, mz, mz, mi (.iload 2) 1, mi (.if_icmp .gt 15) 3, mz, mz],
  [mi (.aload 0) 1, mj (.getfield 13) 3 10 1 2, mz, mz, mi (.iload 3) 1, mi (.if_icmp .gt 7) 3, mz, mz, mi (.iconst 1) 1, mi (.goto 4) 3, mz, mz, mi (.iconst 0) 1, mi .ireturn 1]]
def kX10_give : List (List (Option mR)) := [[mi (.aload 1) 1, mi (.iconst 0) 1, mi .iaload 1, mi (.istore 3) 1, mi (.iconst 0) 1, mi (.istore 4) 2, mz, mi (.iconst 0) 1, mi (.istore 5) 2, mz, mi (.iload 5) 2, mz, mi (.aload 0) 1, mj (.getfield 19) 3 10 3 4, mz, mz],
  [mi .arraylength 1, mi (.if_icmp .ge 82) 3, mz, mz, mi (.iload 4) 2, mz, mi (.iconst 2) 1, mi .iadd 1, mi (.aload 0) 1, mj (.getfield 19) 3 10 3 4, mz, mz, mi .arraylength 1, mi (.if_icmp .ge 70) 3, mz, mz],
  [mi (.aload 0) 1, mj (.getfield 19) 3 10 3 4, mz, mz, mi (.iload 4) 2, mz, mi (.iconst 2) 1, mi .iadd 1, mi .iaload 1, mi (.istore 6) 2, mz, mi (.iload 3) 1, mi (.aload 0) 1, mj (.getfield 19) 3 10 3 4, mz, mz],
  [mi (.iload 4) 2, mz, mi .iaload 1, mi (.if_icmp .lt 38) 3, mz, mz, mi (.iload 3) 1, mi (.aload 0) 1, mj (.getfield 19) 3 10 3 4, mz, mz, mi (.iload 4) 2, mz, mi (.iconst 1) 1, mi .iadd 1, mi .iaload 1],
  [mi (.if_icmp .gt 25) 3, mz, mz, mi (.iconst 0) 1, mj (.iconst 9999999) 2 0 0 5, mz, mi (.aload 0) 1, mi (.iload 4) 2, mz, mi (.iconst 3) 1, mi .iadd 1, mi (.iload 6) 2, mz, mi (.aload 1) 1, mi (.aload 2) 1, mj (.invokevirtual 24) 3 115 4 6],
  [mz, mz, mz, mz, mz, mz, mz, mz, mi .ireturn 1, mi (.iload 6) 2, mz, mi (.istore 4) 2, mz, mi (.iinc 5 1) 3, mz, mz],
  [mi (.goto (-86)) 3, mz, mz, mi (.iconst 0) 1, mi .ireturn 1]]
def kX10_run : List (List (Option mR)) := [[mi (.iconst 0) 1, mi (.istore 5) 2, mz, mi (.iload 1) 1, mi (.istore 6) 2, mz, mi (.iload 6) 2, mz, mi (.ifCond .lt 121) 3, mz, mz, mi (.iload 6) 2, mz, mi (.iload 2) 1, mi (.if_icmp .ge 115) 3, mz],
  [mz, mi (.iload 6) 2, mz, mi (.aload 0) 1, mj (.getfield 19) 3 10 3 4, mz, mz, mi .arraylength 1, mi (.if_icmp .ge 105) 3, mz, mz, mi (.aload 0) 1, mj (.getfield 19) 3 10 3 4, mz, mz, mi (.iload 6) 2],
  [mz, mi .iaload 1, mi (.istore 7) 2, mz, mi (.iload 7) 2, mz, mi (.ifCond .ge 12) 3, mz, mz, mi (.iconst (-1)) 1, mi (.iload 7) 2, mz, mi .isub 1, mi (.aload 3) 1, mi .arraylength 1, mi (.if_icmp .ge 40) 3],
  [mz, mz, mi (.iload 5) 2, mz, mi (.aload 4) 2, mz, mi .arraylength 1, mi (.if_icmp .lt 5) 3, mz, mz, mi (.iconst 0) 1, mi .ireturn 1, mi (.aload 4) 2, mz, mi (.iload 5) 2, mz],
  [mi (.iload 7) 2, mz, mi (.ifCond .lt 8) 3, mz, mz, mi (.iload 7) 2, mz, mi (.goto 9) 3, mz, mz, mi (.aload 3) 1, mi (.iconst (-1)) 1, mi (.iload 7) 2, mz, mi .isub 1, mi .iaload 1],
  [mi .iastore 1, mi (.iinc 5 1) 3, mz, mz, mi (.goto 39) 3, mz, mz, mi (.iload 5) 2, mz, mi (.iconst 2) 1, mi (.if_icmp .ge 5) 3, mz, mz, mi (.iconst 0) 1, mi .ireturn 1, mi (.iinc 5 (-1)) 3],
  [mz, mz, mi (.aload 4) 2, mz, mi (.iload 5) 2, mz, mi (.iconst 1) 1, mi .isub 1, mi (.iload 7) 2, mz, mi .ineg 1, mi (.aload 4) 2, mz, mi (.iload 5) 2, mz, mi (.iconst 1) 1],
  [mi .isub 1, mi .iaload 1, mi (.aload 4) 2, mz, mi (.iload 5) 2, mz, mi .iaload 1, mj (.invokestatic 37) 3 116 3 7, mz, mz, mi .iastore 1, mi (.iinc 6 1) 3, mz, mz, mi (.goto (-120)) 3, mz],
  [mz, mi (.iload 5) 2, mz, mi (.ifCond .le 13) 3, mz, mz, mi (.aload 4) 2, mz, mi (.iload 5) 2, mz, mi (.iconst 1) 1, mi .isub 1, mi .iaload 1, mi (.goto 4) 3, mz, mz],
  [mi (.iconst 0) 1, mi .ireturn 1]]
def kX10_work : List (List (Option mR)) := [[mi (.iload 0) 1, mi (.lookupswitch 95 #[(17, 83), (18, 89), (1042, 67), (1043, 59), (1045, 63), (1047, 71)]) 59, mz, mz, mz, mz, mz, mz, mz, mz, mz, mz, mz, mz, mz, mz],
  [mz, mz, mz, mz, mz, mz, mz, mz, mz, mz, mz, mz, mz, mz, mz, mz],
  [mz, mz, mz, mz, mz, mz, mz, mz, mz, mz, mz, mz, mz, mz, mz, mz],
  [mz, mz, mz, mz, mz, mz, mz, mz, mz, mz, mz, mz, mi (.iload 1) 1, mi (.iload 2) 1, mi .iadd 1, mi .ireturn 1],
  [mi (.iload 1) 1, mi (.iload 2) 1, mi .isub 1, mi .ireturn 1, mi (.iload 1) 1, mi (.iload 2) 1, mi .imul 1, mi .ireturn 1, mi (.iload 2) 1, mi (.ifCond .ne 7) 3, mz, mz, mi (.iconst 0) 1, mi (.goto 6) 3, mz, mz],
  [mi (.iload 1) 1, mi (.iload 2) 1, mi .idiv 1, mi .ireturn 1, mi (.iload 1) 1, mi (.iload 2) 1, mz, mz, mz, mi .ireturn 1, mi (.iload 1) 1, mi (.iload 2) 1, mz, mz, mz, mi .ireturn 1],
  [mi (.iconst 0) 1, mi .ireturn 1]]
def kX11_init : List (List (Option mR)) := [[mi (.aload 0) 1, mi .pop2 3, mz, mz, mi (.aload 0) 1, mi (.iconst 1000) 3, mz, mz, mi (.newarray .boolean) 2, mz, mj (.putfield 9) 3 11 2 1, mz, mz, mi (.aload 0) 1, mj (.new 13) 3 8 0 2, mz],
  [mz, mi .dup 1, mj (.invokespecial 15) 3 83 0 3, mz, mz, mj (.putfield 16) 3 11 3 4, mz, mz, mi (.aload 0) 1, mi (.iconst 15) 2, mz, mj (.anewarray 20) 3 3 1 5, mz, mz, mj (.putfield 22) 3 11 4 6, mz],
  [mz, mi (.aload 0) 1, mi (.iconst 90) 2, mz, mj (.anewarray 26) 3 4 4 7, mz, mz, mj (.putfield 28) 3 11 6 8, mz, mz, mi (.aload 0) 1, mi (.iconst 30) 2, mz, mi (.newarray .int) 2, mz, mj (.putfield 32) 3 11 8 9],
  [mz, mz, mi (.aload 0) 1, mi (.iconst 30) 2, mz, mi (.newarray .int) 2, mz, mj (.putfield 36) 3 11 9 10, mz, mz, mi (.aload 0) 1, mi (.iconst 100) 2, mz, mj (.anewarray 39) 3 5 7 11, mz, mz],
  [mj (.putfield 41) 3 11 11 12, mz, mz, mi (.aload 0) 1, mj (.new 45) 3 2 0 13, mz, mz, mi .dup 1, mj (.invokespecial 47) 3 12 0 14, mz, mz, mj (.putfield 48) 3 11 13 15, mz, mz, mi (.aload 0) 1, mj (.new 52) 3 5 0 16],
  [mz, mz, mi .dup 1, mj (.invokespecial 54) 3 48 0 17, mz, mz, mj (.putfield 55) 3 11 14 18, mz, mz, mi (.aload 0) 1, mj (.new 59) 3 3 0 19, mz, mz, mi .dup 1, mj (.invokespecial 61) 3 21 0 20, mz],
  [mz, mj (.putfield 62) 3 11 15 21, mz, mz, mi (.aload 0) 1, mj (.new 66) 3 9 0 22, mz, mz, mi .dup 1, mj (.invokespecial 68) 3 91 0 23, mz, mz, mj (.putfield 69) 3 11 16 24, mz, mz, mi (.aload 0) 1],
  [mj (.new 73) 3 0 0 25, mz, mz, mi .dup 1, mj (.invokespecial 75) 3 0 0 26, mz, mz, mj (.putfield 76) 3 11 17 27, mz, mz, mi (.aload 0) 1, mi (.iconst 0) 1, mj (.putfield 80) 3 11 0 28, mz, mz, mi .return_ 1]]
def kX11_town : List (List (Option mR)) := [[mi (.iload 1) 1, mj (.invokestatic 84) 3 167 1 29, mz, mz, mi (.ifCond .eq 14) 3, mz, mz, mi (.aload 0) 1, mj (.getfield 16) 3 11 3 4, mz, mz, mi (.iload 1) 1, mj (.invokevirtual 88) 3 84 1 30, mz, mz, mi (.goto 4) 3],
  [mz, mz, mi (.iconst (-1)) 1, mi .ireturn 1]]
def kX11_road : List (List (Option mR)) := [[mi (.aload 0) 1, mj (.getfield 16) 3 11 3 4, mz, mz, mi (.iload 1) 1, mj (.invokevirtual 92) 3 85 1 31, mz, mz, mi (.ifCond .eq 30) 3, mz, mz, mi (.aload 0) 1, mj (.getfield 16) 3 11 3 4, mz, mz, mi (.iload 2) 1],
  [mj (.invokevirtual 92) 3 85 1 31, mz, mz, mi (.ifCond .eq 19) 3, mz, mz, mi (.iload 1) 1, mi (.iload 2) 1, mi (.if_icmp .eq 14) 3, mz, mz, mi (.iload 3) 1, mi (.iconst 1) 1, mi (.iconst 300) 3, mz, mz],
  [mj (.invokestatic 95) 3 166 3 32, mz, mz, mi (.ifCond .ne 5) 3, mz, mz, mi (.iconst (-1)) 1, mi .ireturn 1, mi (.aload 0) 1, mj (.getfield 16) 3 11 3 4, mz, mz, mi (.iload 1) 1, mi (.iload 2) 1, mi (.iload 3) 1, mj (.invokevirtual 99) 3 87 3 33],
  [mz, mz, mi .ireturn 1]]
def kX11_far : List (List (Option mR)) := [[mi (.aload 0) 1, mj (.getfield 16) 3 11 3 4, mz, mz, mi (.iload 1) 1, mj (.invokevirtual 92) 3 85 1 31, mz, mz, mi (.ifCond .eq 14) 3, mz, mz, mi (.aload 0) 1, mj (.getfield 16) 3 11 3 4, mz, mz, mi (.iload 2) 1],
  [mj (.invokevirtual 92) 3 85 1 31, mz, mz, mi (.ifCond .ne 5) 3, mz, mz, mi (.iconst (-1)) 1, mi .ireturn 1, mi (.aload 0) 1, mj (.getfield 16) 3 11 3 4, mz, mz, mi (.iload 1) 1, mi (.iload 2) 1, mj (.invokevirtual 103) 3 89 2 34, mz],
  [mz, mi (.istore 3) 1, mi (.iload 3) 1, mi (.ifCond .ge 8) 3, mz, mz, mi (.iconst (-2)) 2, mz, mi (.goto 4) 3, mz, mz, mi (.iload 3) 1, mi .ireturn 1]]
def kX11_hours : List (List (Option mR)) := [[mi (.iload 1) 1, mi (.iconst 1) 1, mi (.iconst 240) 3, mz, mz, mj (.invokestatic 95) 3 166 3 32, mz, mz, mi (.ifCond .eq 15) 3, mz, mz, mi (.aload 0) 1, mj (.getfield 80) 3 11 0 28, mz, mz, mi (.iload 1) 1],
  [mi .iadd 1, mi (.iconst 23999) 3, mz, mz, mi (.if_icmp .le 5) 3, mz, mz, mi (.iconst (-1)) 1, mi .ireturn 1, mi (.aload 0) 1, mi .dup 1, mj (.getfield 80) 3 11 0 28, mz, mz, mi (.iload 1) 1, mi .iadd 1],
  [mj (.putfield 80) 3 11 0 28, mz, mz, mi (.iconst 0) 1, mi (.istore 2) 1, mi (.iload 2) 1, mi (.iconst 90) 2, mz, mi (.if_icmp .ge 27) 3, mz, mz, mi (.aload 0) 1, mi (.iload 2) 1, mj (.invokevirtual 107) 3 169 1 35, mz, mz],
  [mi (.astore 3) 1, mi (.aload 3) 1, mi (.ifnull 11) 3, mz, mz, mi (.aload 3) 1, mi (.aload 0) 1, mj (.getfield 80) 3 11 0 28, mz, mz, mj (.invokevirtual 111) 3 43 1 36, mz, mz, mi (.iinc 2 1) 3, mz, mz],
  [mi (.goto (-27)) 3, mz, mz, mi (.aload 0) 1, mj (.getfield 80) 3 11 0 28, mz, mz, mi .ireturn 1]]
def kX11_rain : List (List (Option mR)) := [[mi (.iload 1) 1, mi (.iconst 0) 1, mi (.iconst 999) 3, mz, mz, mj (.invokestatic 95) 3 166 3 32, mz, mz, mi (.ifCond .eq 10) 3, mz, mz, mi (.iload 2) 1, mj (.invokestatic 84) 3 167 1 29, mz, mz, mi (.ifCond .ne 5) 3],
  [mz, mz, mi (.iconst (-1)) 1, mi .ireturn 1, mi (.aload 0) 1, mj (.getfield 9) 3 11 2 1, mz, mz, mi (.iload 1) 1, mi .baload 1, mi (.ifCond .eq 7) 3, mz, mz, mi (.iconst 1) 1, mi (.goto 4) 3, mz],
  [mz, mi (.iconst 0) 1, mi (.istore 3) 1, mi (.aload 0) 1, mj (.getfield 9) 3 11 2 1, mz, mz, mi (.iload 1) 1, mi (.iload 2) 1, mi (.iconst 1) 1, mi (.if_icmp .ne 7) 3, mz, mz, mi (.iconst 1) 1, mi (.goto 4) 3, mz],
  [mz, mi (.iconst 0) 1, mi .bastore 1, mi (.iload 3) 1, mi .ireturn 1]]
def kX11_type : List (List (Option mR)) := [[mi (.iload 1) 1, mi (.iconst 1000) 3, mz, mz, mj (.iconst 99999) 2 0 0 37, mz, mj (.invokestatic 95) 3 166 3 32, mz, mz, mi (.ifCond .eq 49) 3, mz, mz, mi (.iload 2) 1, mi (.iconst 1) 1, mi (.iconst 9999) 3, mz],
  [mz, mj (.invokestatic 95) 3 166 3 32, mz, mz, mi (.ifCond .eq 38) 3, mz, mz, mi (.iload 3) 1, mi (.iconst 0) 1, mi (.iconst 997) 3, mz, mz, mj (.invokestatic 95) 3 166 3 32, mz, mz, mi (.ifCond .eq 27) 3],
  [mz, mz, mi (.iload 3) 1, mi (.iconst 10) 2, mz, mi .irem 1, mi (.iconst 7) 2, mz, mi (.if_icmp .gt 18) 3, mz, mz, mi (.iload 4) 2, mz, mi (.iconst 0) 1, mj (.iconst 99999) 2 0 0 37, mz],
  [mj (.invokestatic 95) 3 166 3 32, mz, mz, mi (.ifCond .eq 7) 3, mz, mz, mi (.iconst 1) 1, mi (.goto 4) 3, mz, mz, mi (.iconst 0) 1, mi (.istore 5) 2, mz, mi (.iload 5) 2, mz, mi (.ifCond .ne 5) 3],
  [mz, mz, mi (.iconst (-1)) 1, mi .ireturn 1, mi (.aload 0) 1, mj (.getfield 116) 3 11 5 38, mz, mz, mi (.iconst 15) 2, mz, mi (.if_icmp .lt 6) 3, mz, mz, mi (.iconst (-3)) 2, mz, mi .ireturn 1],
  [mi (.aload 0) 1, mj (.getfield 22) 3 11 4 6, mz, mz, mi (.aload 0) 1, mj (.getfield 116) 3 11 5 38, mz, mz, mj (.new 20) 3 1 0 39, mz, mz, mi .dup 1, mi (.aload 0) 1, mj (.getfield 116) 3 11 5 38, mz, mz],
  [mi (.iload 1) 1, mi (.iload 2) 1, mi (.iload 3) 1, mi (.iconst 10) 2, mz, mi .irem 1, mi (.iload 4) 2, mz, mj (.invokespecial 119) 3 10 5 40, mz, mz, mi .aastore 1, mi (.aload 0) 1, mi .dup 1, mj (.getfield 116) 3 11 5 38, mz],
  [mz, mi .dup_x1 1, mi (.iconst 1) 1, mi .iadd 1, mj (.putfield 116) 3 11 5 38, mz, mz, mi .ireturn 1]]
def kX11_instead : List (List (Option mR)) := [[mi (.aload 0) 1, mi (.iload 1) 1, mj (.invokevirtual 122) 3 168 1 41, mz, mz, mi (.astore 4) 2, mz, mi (.aload 4) 2, mz, mi (.ifnull 23) 3, mz, mz, mi (.aload 0) 1, mi (.iload 2) 1, mj (.invokevirtual 122) 3 168 1 41, mz],
  [mz, mi (.ifnull 15) 3, mz, mz, mi (.iload 1) 1, mi (.iload 2) 1, mi (.if_icmp .eq 10) 3, mz, mz, mi (.iload 3) 1, mj (.invokestatic 84) 3 167 1 29, mz, mz, mi (.ifCond .ne 5) 3, mz, mz],
  [mi (.iconst (-1)) 1, mi .ireturn 1, mi (.aload 4) 2, mz, mj (.getfield 126) 3 1 7 42, mz, mz, mi (.iload 2) 1, mi .baload 1, mi (.ifCond .eq 7) 3, mz, mz, mi (.iconst 1) 1, mi (.goto 4) 3, mz, mz],
  [mi (.iconst 0) 1, mi (.istore 5) 2, mz, mi (.aload 4) 2, mz, mj (.getfield 126) 3 1 7 42, mz, mz, mi (.iload 2) 1, mi (.iload 3) 1, mi (.iconst 1) 1, mi (.if_icmp .ne 7) 3, mz, mz, mi (.iconst 1) 1, mi (.goto 4) 3],
  [mz, mz, mi (.iconst 0) 1, mi .bastore 1, mi (.iload 5) 2, mz, mi .ireturn 1]]
def kX11_mark : List (List (Option mR)) := [[mi (.aload 0) 1, mi (.iload 1) 1, mj (.invokevirtual 122) 3 168 1 41, mz, mz, mi (.astore 4) 2, mz, mi (.aload 4) 2, mz, mi (.ifnull 24) 3, mz, mz, mi (.iload 2) 1, mi (.iconst 0) 1, mi (.iconst 15) 2, mz],
  [mj (.invokestatic 95) 3 166 3 32, mz, mz, mi (.ifCond .eq 14) 3, mz, mz, mi (.iload 3) 1, mi (.iconst 0) 1, mi (.iconst 9999) 3, mz, mz, mj (.invokestatic 95) 3 166 3 32, mz, mz, mi (.ifCond .ne 5) 3, mz],
  [mz, mi (.iconst (-1)) 1, mi .ireturn 1, mi (.aload 4) 2, mz, mj (.getfield 129) 3 1 6 43, mz, mz, mi (.iload 2) 1, mi .iaload 1, mi (.istore 5) 2, mz, mi (.aload 4) 2, mz, mj (.getfield 129) 3 1 6 43, mz],
  [mz, mi (.iload 2) 1, mi (.iload 3) 1, mi .iastore 1, mi (.iload 5) 2, mz, mi .ireturn 1]]
def kX11_machine : List (List (Option mR)) := [[mi (.aload 0) 1, mi (.iload 1) 1, mj (.invokevirtual 122) 3 168 1 41, mz, mz, mi (.astore 4) 2, mz, mi (.aload 4) 2, mz, mi (.ifnull 24) 3, mz, mz, mi (.aload 0) 1, mj (.getfield 16) 3 11 3 4, mz, mz],
  [mi (.iload 2) 1, mj (.invokevirtual 132) 3 86 1 44, mz, mz, mi (.ifCond .eq 13) 3, mz, mz, mi (.iload 3) 1, mi (.iconst 0) 1, mj (.iconst 99999) 2 0 0 37, mz, mj (.invokestatic 95) 3 166 3 32, mz, mz, mi (.ifCond .ne 5) 3, mz],
  [mz, mi (.iconst (-1)) 1, mi .ireturn 1, mi (.aload 0) 1, mj (.getfield 135) 3 11 7 45, mz, mz, mi (.iconst 90) 2, mz, mi (.if_icmp .lt 6) 3, mz, mz, mi (.iconst (-3)) 2, mz, mi .ireturn 1, mi (.aload 0) 1],
  [mj (.getfield 28) 3 11 6 8, mz, mz, mi (.aload 0) 1, mj (.getfield 135) 3 11 7 45, mz, mz, mj (.new 26) 3 4 0 46, mz, mz, mi .dup 1, mi (.aload 0) 1, mj (.getfield 135) 3 11 7 45, mz, mz, mi (.aload 4) 2],
  [mz, mi (.iload 2) 1, mi (.aload 0) 1, mj (.getfield 80) 3 11 0 28, mz, mz, mi (.iload 3) 1, mj (.invokespecial 138) 3 35 5 47, mz, mz, mi .aastore 1, mi (.aload 0) 1, mi .dup 1, mj (.getfield 135) 3 11 7 45, mz, mz],
  [mi .dup_x1 1, mi (.iconst 1) 1, mi .iadd 1, mj (.putfield 135) 3 11 7 45, mz, mz, mi .ireturn 1]]
def kX11_link : List (List (Option mR)) := [[mi (.aload 0) 1, mi (.iload 1) 1, mj (.invokevirtual 107) 3 169 1 35, mz, mz, mi (.astore 4) 2, mz, mi (.aload 4) 2, mz, mi (.ifnull 24) 3, mz, mz, mi (.iload 2) 1, mi (.iconst 0) 1, mi (.iconst 9) 2, mz],
  [mj (.invokestatic 95) 3 166 3 32, mz, mz, mi (.ifCond .eq 14) 3, mz, mz, mi (.iload 3) 1, mi (.iconst 1) 1, mi (.iconst 9999) 3, mz, mz, mj (.invokestatic 95) 3 166 3 32, mz, mz, mi (.ifCond .ne 5) 3, mz],
  [mz, mi (.iconst (-1)) 1, mi .ireturn 1, mi (.aload 4) 2, mz, mi (.iload 2) 1, mi (.iload 3) 1, mj (.invokevirtual 141) 3 45 2 48, mz, mz, mi .ireturn 1]]
def kX11_ofMachine : List (List (Option mR)) := [[mi (.aload 0) 1, mi (.iload 1) 1, mj (.invokevirtual 107) 3 169 1 35, mz, mz, mi (.astore 3) 1, mi (.aload 3) 1, mi (.ifnonnull 6) 3, mz, mz, mj (.iconst (-2000000000)) 2 0 0 49, mz, mi .ireturn 1, mi (.iload 2) 1, mi (.tableswitch 124 0 9 #[54, 62, 70, 75, 80, 85, 90, 95, 114, 119]) 54, mz],
  [mz, mz, mz, mz, mz, mz, mz, mz, mz, mz, mz, mz, mz, mz, mz, mz],
  [mz, mz, mz, mz, mz, mz, mz, mz, mz, mz, mz, mz, mz, mz, mz, mz],
  [mz, mz, mz, mz, mz, mz, mz, mz, mz, mz, mz, mz, mz, mz, mz, mz],
  [mz, mz, mz, mz, mi (.aload 3) 1, mj (.getfield 145) 3 4 1 50, mz, mz, mj (.getfield 149) 3 1 0 51, mz, mz, mi .ireturn 1, mi (.aload 3) 1, mj (.getfield 152) 3 4 2 52, mz, mz],
  [mj (.invokevirtual 156) 3 58 0 53, mz, mz, mi .ireturn 1, mi (.aload 3) 1, mj (.getfield 162) 3 4 3 54, mz, mz, mi .ireturn 1, mi (.aload 3) 1, mj (.getfield 165) 3 4 4 55, mz, mz, mi .ireturn 1, mi (.aload 3) 1, mj (.getfield 168) 3 4 5 56],
  [mz, mz, mi .ireturn 1, mi (.aload 3) 1, mj (.invokevirtual 171) 3 37 0 57, mz, mz, mi .ireturn 1, mi (.aload 3) 1, mj (.getfield 174) 3 4 6 58, mz, mz, mi .ireturn 1, mi (.aload 3) 1, mj (.getfield 177) 3 4 9 59, mz],
  [mz, mi (.ifnonnull 7) 3, mz, mz, mi (.iconst (-1)) 1, mi (.goto 10) 3, mz, mz, mi (.aload 3) 1, mj (.getfield 177) 3 4 9 59, mz, mz, mj (.getfield 181) 3 7 0 60, mz, mz, mi .ireturn 1],
  [mi (.aload 3) 1, mj (.getfield 182) 3 4 15 61, mz, mz, mi .ireturn 1, mi (.aload 3) 1, mj (.invokevirtual 185) 3 38 0 62, mz, mz, mi .ireturn 1, mj (.iconst (-2000000000)) 2 0 0 49, mz, mi .ireturn 1]]
def kX11_look : List (List (Option mR)) := [[mi (.aload 0) 1, mi (.iload 1) 1, mj (.invokevirtual 107) 3 169 1 35, mz, mz, mi (.astore 3) 1, mi (.aload 3) 1, mi (.ifnull 13) 3, mz, mz, mi (.iload 2) 1, mi (.iconst 1) 1, mi (.iconst 99) 2, mz, mj (.invokestatic 95) 3 166 3 32, mz],
  [mz, mi (.ifCond .ne 5) 3, mz, mz, mi (.iconst (-1)) 1, mi .ireturn 1, mi (.aload 3) 1, mj (.invokevirtual 188) 3 36 0 63, mz, mz, mi (.ifCond .ne 6) 3, mz, mz, mi (.iconst (-2)) 2, mz, mi .ireturn 1],
  [mi (.aload 3) 1, mi (.aload 0) 1, mj (.getfield 80) 3 11 0 28, mz, mz, mi (.iload 2) 1, mi .iadd 1, mj (.invokevirtual 192) 3 41 1 64, mz, mz, mi (.iconst 1) 1, mi .ireturn 1]]
def kX11_broken : List (List (Option mR)) := [[mi (.aload 0) 1, mi (.iload 1) 1, mj (.invokevirtual 107) 3 169 1 35, mz, mz, mi (.astore 3) 1, mi (.aload 3) 1, mi (.ifnull 10) 3, mz, mz, mi (.iload 2) 1, mj (.invokestatic 84) 3 167 1 29, mz, mz, mi (.ifCond .ne 5) 3, mz],
  [mz, mi (.iconst (-1)) 1, mi .ireturn 1, mi (.aload 3) 1, mj (.getfield 168) 3 4 5 56, mz, mz, mi (.iload 2) 1, mi (.iconst 1) 1, mi (.if_icmp .ne 7) 3, mz, mz, mi (.iconst 0) 1, mi (.goto 4) 3, mz, mz],
  [mi (.iconst 2) 1, mi (.if_icmp .eq 6) 3, mz, mz, mi (.iconst (-2)) 2, mz, mi .ireturn 1, mi (.iload 2) 1, mi (.ifCond .ne 25) 3, mz, mz, mi (.aload 3) 1, mi (.iconst 0) 1, mj (.putfield 168) 3 4 5 56, mz, mz],
  [mi (.aload 0) 1, mj (.getfield 48) 3 11 13 15, mz, mz, mi (.aload 3) 1, mj (.getfield 195) 3 4 0 65, mz, mz, mi (.aload 0) 1, mj (.getfield 80) 3 11 0 28, mz, mz, mj (.invokevirtual 196) 3 19 2 66, mz, mz, mi (.iconst 1) 1],
  [mi .ireturn 1, mi (.aload 0) 1, mj (.getfield 48) 3 11 13 15, mz, mz, mi (.aload 3) 1, mj (.getfield 195) 3 4 0 65, mz, mz, mi (.aload 0) 1, mj (.getfield 80) 3 11 0 28, mz, mz, mj (.invokevirtual 200) 3 18 2 67, mz, mz],
  [mi (.ifCond .ne 6) 3, mz, mz, mi (.iconst (-3)) 2, mz, mi .ireturn 1, mi (.aload 3) 1, mi (.iconst 2) 1, mj (.putfield 168) 3 4 5 56, mz, mz, mi (.iconst 1) 1, mi .ireturn 1]]
def kX11_gone : List (List (Option mR)) := [[mi (.aload 0) 1, mi (.iload 1) 1, mj (.invokevirtual 107) 3 169 1 35, mz, mz, mi (.astore 3) 1, mi (.aload 3) 1, mi (.ifnull 13) 3, mz, mz, mi (.iload 2) 1, mi (.iconst 3) 1, mi (.if_icmp .eq 10) 3, mz, mz, mi (.iload 2) 1],
  [mi (.iconst 4) 1, mi (.if_icmp .eq 5) 3, mz, mz, mi (.iconst (-1)) 1, mi .ireturn 1, mi (.aload 3) 1, mj (.getfield 162) 3 4 3 54, mz, mz, mi (.iconst 3) 1, mi (.if_icmp .eq 15) 3, mz, mz, mi (.iload 2) 1, mi (.iconst 3) 1],
  [mi (.if_icmp .ne 13) 3, mz, mz, mi (.aload 3) 1, mj (.invokevirtual 188) 3 36 0 63, mz, mz, mi (.ifCond .ne 6) 3, mz, mz, mi (.iconst (-2)) 2, mz, mi .ireturn 1, mi (.aload 3) 1, mj (.getfield 168) 3 4 5 56, mz],
  [mz, mi (.iconst 2) 1, mi (.if_icmp .ne 18) 3, mz, mz, mi (.aload 0) 1, mj (.getfield 48) 3 11 13 15, mz, mz, mi (.aload 3) 1, mj (.getfield 195) 3 4 0 65, mz, mz, mi (.aload 0) 1, mj (.getfield 80) 3 11 0 28, mz],
  [mz, mj (.invokevirtual 196) 3 19 2 66, mz, mz, mi (.aload 3) 1, mj (.getfield 177) 3 4 9 59, mz, mz, mi (.ifnull 14) 3, mz, mz, mi (.aload 3) 1, mj (.getfield 177) 3 4 9 59, mz, mz, mi (.aload 0) 1],
  [mj (.getfield 80) 3 11 0 28, mz, mz, mj (.invokevirtual 204) 3 72 1 68, mz, mz, mi (.aload 3) 1, mi (.iload 2) 1, mi (.aload 0) 1, mj (.getfield 80) 3 11 0 28, mz, mz, mj (.invokevirtual 207) 3 44 2 69, mz, mz, mi (.iconst 1) 1],
  [mi .ireturn 1]]
def kX11_read : List (List (Option mR)) := [[mi (.aload 0) 1, mi (.iload 1) 1, mj (.invokevirtual 107) 3 169 1 35, mz, mz, mi (.astore 3) 1, mi (.aload 3) 1, mi (.ifnull 20) 3, mz, mz, mi (.iload 2) 1, mi (.aload 3) 1, mj (.getfield 152) 3 4 2 52, mz, mz, mj (.invokevirtual 156) 3 58 0 53],
  [mz, mz, mi (.if_icmp .lt 9) 3, mz, mz, mi (.iload 2) 1, mj (.iconst 99999) 2 0 0 37, mz, mi (.if_icmp .le 5) 3, mz, mz, mi (.iconst (-1)) 1, mi .ireturn 1, mi (.aload 3) 1, mj (.getfield 162) 3 4 3 54, mz],
  [mz, mi (.iconst 3) 1, mi (.if_icmp .ne 6) 3, mz, mz, mi (.iconst (-2)) 2, mz, mi .ireturn 1, mi (.aload 3) 1, mj (.getfield 152) 3 4 2 52, mz, mz, mi (.aload 0) 1, mj (.getfield 80) 3 11 0 28, mz, mz],
  [mj (.invokevirtual 210) 3 61 1 70, mz, mz, mi (.istore 4) 2, mz, mi (.iload 4) 2, mz, mi (.ifCond .eq 16) 3, mz, mz, mi (.aload 0) 1, mj (.getfield 213) 3 11 1 71, mz, mz, mi (.iconst 400) 3, mz],
  [mz, mi (.if_icmp .lt 6) 3, mz, mz, mi (.iconst (-3)) 2, mz, mi .ireturn 1, mi (.aload 3) 1, mj (.getfield 152) 3 4 2 52, mz, mz, mi (.aload 0) 1, mj (.getfield 80) 3 11 0 28, mz, mz, mi (.iload 2) 1],
  [mj (.invokevirtual 216) 3 62 2 72, mz, mz, mi (.iload 4) 2, mz, mi (.ifCond .eq 13) 3, mz, mz, mi (.aload 0) 1, mi .dup 1, mj (.getfield 213) 3 11 1 71, mz, mz, mi (.iconst 1) 1, mi .iadd 1, mj (.putfield 213) 3 11 1 71],
  [mz, mz, mi (.iload 2) 1, mi .ireturn 1]]
def kX11_track : List (List (Option mR)) := [[mi (.aload 0) 1, mi (.iload 1) 1, mj (.invokevirtual 107) 3 169 1 35, mz, mz, mi (.ifnull 14) 3, mz, mz, mi (.aload 0) 1, mj (.getfield 16) 3 11 3 4, mz, mz, mi (.iload 2) 1, mj (.invokevirtual 92) 3 85 1 31, mz, mz],
  [mi (.ifCond .ne 5) 3, mz, mz, mi (.iconst (-1)) 1, mi .ireturn 1, mi (.aload 0) 1, mj (.getfield 48) 3 11 13 15, mz, mz, mi (.iload 1) 1, mi (.iload 2) 1, mi (.aload 0) 1, mj (.getfield 80) 3 11 0 28, mz, mz, mj (.invokevirtual 219) 3 13 3 73],
  [mz, mz, mi .ireturn 1]]
def kX11_theft : List (List (Option mR)) := [[mi (.aload 0) 1, mi (.iload 1) 1, mj (.invokevirtual 107) 3 169 1 35, mz, mz, mi (.astore 3) 1, mi (.aload 3) 1, mi (.ifnull 12) 3, mz, mz, mi (.iload 2) 1, mi (.iconst 0) 1, mi (.iconst 2) 1, mj (.invokestatic 95) 3 166 3 32, mz, mz],
  [mi (.ifCond .ne 5) 3, mz, mz, mi (.iconst (-1)) 1, mi .ireturn 1, mi (.aload 3) 1, mj (.getfield 168) 3 4 5 56, mz, mz, mi (.iconst 4) 1, mi (.if_icmp .eq 6) 3, mz, mz, mi (.iconst (-2)) 2, mz, mi .ireturn 1],
  [mi (.iload 2) 1, mi (.iconst 2) 1, mi (.if_icmp .ne 8) 3, mz, mz, mi (.aload 3) 1, mj (.getfield 222) 3 4 11 74, mz, mz, mi .ireturn 1, mi (.iload 2) 1, mi (.ifCond .ne 14) 3, mz, mz, mi (.aload 0) 1, mj (.getfield 48) 3 11 13 15],
  [mz, mz, mi (.aload 3) 1, mj (.invokevirtual 225) 3 17 1 75, mz, mz, mi (.goto 11) 3, mz, mz, mi (.aload 0) 1, mj (.getfield 48) 3 11 13 15, mz, mz, mi (.aload 3) 1, mj (.invokevirtual 229) 3 16 1 76, mz],
  [mz, mi .ireturn 1]]
def kX11_customer : List (List (Option mR)) := [[mi (.aload 0) 1, mj (.getfield 16) 3 11 3 4, mz, mz, mi (.iload 1) 1, mj (.invokevirtual 92) 3 85 1 31, mz, mz, mi (.ifCond .eq 14) 3, mz, mz, mi (.iload 2) 1, mi (.iconst 0) 1, mi (.iconst 255) 3, mz, mz],
  [mj (.invokestatic 95) 3 166 3 32, mz, mz, mi (.ifCond .ne 5) 3, mz, mz, mi (.iconst (-1)) 1, mi .ireturn 1, mi (.aload 0) 1, mj (.getfield 232) 3 11 10 77, mz, mz, mi (.iconst 30) 2, mz, mi (.if_icmp .lt 6) 3, mz],
  [mz, mi (.iconst (-3)) 2, mz, mi .ireturn 1, mi (.aload 0) 1, mj (.getfield 32) 3 11 8 9, mz, mz, mi (.aload 0) 1, mj (.getfield 232) 3 11 10 77, mz, mz, mi (.iload 1) 1, mi .iastore 1, mi (.aload 0) 1, mj (.getfield 36) 3 11 9 10],
  [mz, mz, mi (.aload 0) 1, mj (.getfield 232) 3 11 10 77, mz, mz, mi (.iload 2) 1, mi .iastore 1, mi (.aload 0) 1, mi .dup 1, mj (.getfield 232) 3 11 10 77, mz, mz, mi .dup_x1 1, mi (.iconst 1) 1, mi .iadd 1],
  [mj (.putfield 232) 3 11 10 77, mz, mz, mi .ireturn 1]]
def kX11_order : List (List (Option mR)) := [[mi (.aload 0) 1, mi (.iload 2) 1, mj (.invokevirtual 122) 3 168 1 41, mz, mz, mi (.astore 6) 2, mz, mi (.aload 6) 2, mz, mi (.ifnull 51) 3, mz, mz, mi (.aload 0) 1, mi (.iload 1) 1, mj (.invokevirtual 235) 3 171 1 78, mz],
  [mz, mi (.ifCond .eq 43) 3, mz, mz, mi (.iload 3) 1, mi (.aload 0) 1, mj (.getfield 80) 3 11 0 28, mz, mz, mi (.iconst 23999) 3, mz, mz, mj (.invokestatic 95) 3 166 3 32, mz, mz, mi (.ifCond .eq 29) 3],
  [mz, mz, mi (.iload 4) 2, mz, mi (.iconst 1) 1, mi (.iconst 60) 2, mz, mj (.invokestatic 95) 3 166 3 32, mz, mz, mi (.ifCond .eq 18) 3, mz, mz, mi (.iload 5) 2, mz, mi (.iconst 1) 1],
  [mi (.iconst 24) 2, mz, mj (.invokestatic 95) 3 166 3 32, mz, mz, mi (.ifCond .eq 7) 3, mz, mz, mi (.iconst 1) 1, mi (.goto 4) 3, mz, mz, mi (.iconst 0) 1, mi (.istore 7) 2, mz, mi (.iload 7) 2],
  [mz, mi (.ifCond .ne 5) 3, mz, mz, mi (.iconst (-1)) 1, mi .ireturn 1, mi (.aload 0) 1, mj (.getfield 238) 3 11 12 79, mz, mz, mi (.iconst 100) 2, mz, mi (.if_icmp .lt 6) 3, mz, mz, mi (.iconst (-3)) 2],
  [mz, mi .ireturn 1, mj (.new 39) 3 7 0 80, mz, mz, mi .dup 1, mi (.aload 0) 1, mj (.getfield 238) 3 11 12 79, mz, mz, mi (.aload 6) 2, mz, mi (.iload 3) 1, mi (.iload 4) 2, mz, mi (.iload 5) 2],
  [mz, mi (.aload 0) 1, mj (.getfield 80) 3 11 0 28, mz, mz, mj (.invokespecial 241) 3 66 6 81, mz, mz, mi (.astore 8) 2, mz, mi (.aload 8) 2, mz, mi (.iload 1) 1, mj (.putfield 244) 3 7 6 82, mz, mz],
  [mi (.aload 8) 2, mz, mi (.aload 0) 1, mj (.getfield 32) 3 11 8 9, mz, mz, mi (.iload 1) 1, mi .iaload 1, mj (.putfield 247) 3 7 7 83, mz, mz, mi (.aload 8) 2, mz, mi (.aload 0) 1, mj (.getfield 36) 3 11 9 10, mz],
  [mz, mi (.iload 1) 1, mi .iaload 1, mj (.putfield 248) 3 7 8 84, mz, mz, mi (.aload 0) 1, mj (.getfield 41) 3 11 11 12, mz, mz, mi (.aload 0) 1, mj (.getfield 238) 3 11 12 79, mz, mz, mi (.aload 8) 2, mz],
  [mi .aastore 1, mi (.aload 0) 1, mi .dup 1, mj (.getfield 238) 3 11 12 79, mz, mz, mi .dup_x1 1, mi (.iconst 1) 1, mi .iadd 1, mj (.putfield 238) 3 11 12 79, mz, mz, mi .ireturn 1]]
def kX11_why : List (List (Option mR)) := [[mi (.aload 0) 1, mi (.iload 1) 1, mj (.invokevirtual 107) 3 169 1 35, mz, mz, mi (.astore 3) 1, mi (.aload 0) 1, mi (.iload 2) 1, mj (.invokevirtual 251) 3 170 1 85, mz, mz, mi (.astore 4) 2, mz, mi (.aload 3) 1, mi (.ifnull 8) 3, mz],
  [mz, mi (.aload 4) 2, mz, mi (.ifnonnull 7) 3, mz, mz, mi (.iconst (-1)) 1, mi (.goto 17) 3, mz, mz, mi (.aload 4) 2, mz, mi (.aload 3) 1, mi (.aload 0) 1, mj (.getfield 80) 3 11 0 28, mz],
  [mz, mi (.aload 0) 1, mj (.getfield 16) 3 11 3 4, mz, mz, mj (.invokevirtual 255) 3 67 3 86, mz, mz, mi .ireturn 1]]
def kX11_list : List (List (Option mR)) := [[mi (.aload 0) 1, mi (.iload 1) 1, mj (.invokevirtual 251) 3 170 1 85, mz, mz, mi (.astore 2) 1, mi (.aload 2) 1, mi (.ifnonnull 7) 3, mz, mz, mi (.iconst (-1)) 1, mi (.goto 11) 3, mz, mz, mi (.aload 0) 1, mj (.getfield 55) 3 11 14 18],
  [mz, mz, mi (.aload 2) 1, mj (.invokevirtual 259) 3 50 1 87, mz, mz, mi .ireturn 1]]
def kX11_best : List (List (Option mR)) := [[mi (.aload 0) 1, mj (.getfield 55) 3 11 14 18, mz, mz, mj (.getfield 263) 3 5 1 88, mz, mz, mi (.ifCond .ne 6) 3, mz, mz, mi (.iconst (-2)) 2, mz, mi .ireturn 1, mi (.aload 0) 1, mj (.getfield 55) 3 11 14 18, mz],
  [mz, mj (.invokevirtual 266) 3 51 0 89, mz, mz, mi (.iconst 0) 1, mi (.istore 1) 1, mi (.iload 1) 1, mi (.iconst 90) 2, mz, mi (.if_icmp .ge 35) 3, mz, mz, mi (.aload 0) 1, mi (.iload 1) 1, mj (.invokevirtual 107) 3 169 1 35, mz],
  [mz, mi (.astore 2) 1, mi (.aload 2) 1, mi (.ifnull 19) 3, mz, mz, mi (.aload 0) 1, mj (.getfield 55) 3 11 14 18, mz, mz, mi (.aload 2) 1, mi (.aload 0) 1, mj (.getfield 80) 3 11 0 28, mz, mz, mi (.aload 0) 1],
  [mj (.getfield 16) 3 11 3 4, mz, mz, mj (.invokevirtual 269) 3 52 3 90, mz, mz, mi (.iinc 1 1) 3, mz, mz, mi (.goto (-35)) 3, mz, mz, mi (.aload 0) 1, mj (.getfield 55) 3 11 14 18, mz, mz],
  [mi (.aload 0) 1, mj (.getfield 28) 3 11 6 8, mz, mz, mi (.aload 0) 1, mj (.getfield 16) 3 11 3 4, mz, mz, mj (.invokevirtual 273) 3 55 2 91, mz, mz, mi .ireturn 1]]
def kX11_miles : List (List (Option mR)) := [[mi (.aload 0) 1, mj (.getfield 55) 3 11 14 18, mz, mz, mj (.getfield 277) 3 5 2 92, mz, mz, mi .ireturn 1]]
def kX11_round : List (List (Option mR)) := [[mi (.aload 0) 1, mj (.getfield 62) 3 11 15 21, mz, mz, mi (.aload 0) 1, mj (.getfield 16) 3 11 3 4, mz, mz, mj (.invokevirtual 280) 3 25 1 93, mz, mz, mi .ireturn 1]]
def kX11_stop : List (List (Option mR)) := [[mi (.aload 0) 1, mi (.iload 1) 1, mj (.invokevirtual 107) 3 169 1 35, mz, mz, mi (.astore 2) 1, mi (.aload 2) 1, mi (.ifnonnull 7) 3, mz, mz, mi (.iconst (-1)) 1, mi (.goto 11) 3, mz, mz, mi (.aload 0) 1, mj (.getfield 62) 3 11 15 21],
  [mz, mz, mi (.aload 2) 1, mj (.invokevirtual 284) 3 24 1 94, mz, mz, mi .ireturn 1]]
def kX11_stopped : List (List (Option mR)) := [[mi (.aload 0) 1, mj (.getfield 62) 3 11 15 21, mz, mz, mi (.iload 1) 1, mj (.invokevirtual 286) 3 26 1 95, mz, mz, mi (.astore 2) 1, mi (.aload 2) 1, mi (.ifnonnull 7) 3, mz, mz, mi (.iconst (-1)) 1, mi (.goto 7) 3, mz],
  [mz, mi (.aload 2) 1, mj (.getfield 195) 3 4 0 65, mz, mz, mi .ireturn 1]]
def kX11_send : List (List (Option mR)) := [[mi (.aload 0) 1, mi (.iload 1) 1, mj (.invokevirtual 251) 3 170 1 85, mz, mz, mi (.astore 2) 1, mi (.aload 2) 1, mi (.ifnonnull 5) 3, mz, mz, mi (.iconst (-1)) 1, mi .ireturn 1, mi (.aload 2) 1, mj (.getfield 289) 3 7 10 96, mz, mz],
  [mi (.astore 3) 1, mi (.aload 2) 1, mj (.getfield 293) 3 7 9 97, mz, mz, mi (.iconst 1) 1, mi (.if_icmp .ne 14) 3, mz, mz, mi (.aload 3) 1, mi (.ifnull 10) 3, mz, mz, mi (.aload 3) 1, mj (.getfield 168) 3 4 5 56, mz],
  [mz, mi (.ifCond .eq 6) 3, mz, mz, mi (.iconst (-2)) 2, mz, mi .ireturn 1, mi (.aload 0) 1, mj (.getfield 16) 3 11 3 4, mz, mz, mi (.aload 3) 1, mj (.getfield 165) 3 4 4 55, mz, mz, mi (.aload 2) 1],
  [mj (.getfield 247) 3 7 7 83, mz, mz, mj (.invokevirtual 294) 3 90 2 98, mz, mz, mi (.istore 4) 2, mz, mi (.iload 4) 2, mz, mi (.ifCond .ge 6) 3, mz, mz, mi (.iconst (-2)) 2, mz, mi .ireturn 1],
  [mi (.aload 2) 1, mi (.iconst 2) 1, mj (.putfield 293) 3 7 9 97, mz, mz, mi (.aload 2) 1, mi (.aload 0) 1, mj (.getfield 80) 3 11 0 28, mz, mz, mi (.iload 4) 2, mz, mi .iadd 1, mi (.aload 2) 1, mj (.getfield 297) 3 7 1 99, mz],
  [mz, mz, mz, mz, mj (.putfield 305) 3 7 11 100, mz, mz, mi (.aload 3) 1, mi (.aload 2) 1, mj (.putfield 307) 3 4 10 101, mz, mz, mi (.aload 3) 1, mi (.aload 2) 1, mj (.getfield 247) 3 7 7 83, mz],
  [mz, mi (.aload 0) 1, mj (.getfield 80) 3 11 0 28, mz, mz, mi (.iload 4) 2, mz, mj (.invokevirtual 310) 3 42 3 102, mz, mz, mi (.aload 0) 1, mj (.getfield 80) 3 11 0 28, mz, mz, mi (.iload 4) 2, mz],
  [mi .iadd 1, mi .ireturn 1]]
def kX11_fetch : List (List (Option mR)) := [[mi (.aload 0) 1, mi (.iload 1) 1, mj (.invokevirtual 251) 3 170 1 85, mz, mz, mi (.astore 3) 1, mi (.aload 3) 1, mi (.ifnull 14) 3, mz, mz, mi (.aload 0) 1, mj (.getfield 16) 3 11 3 4, mz, mz, mi (.iload 2) 1, mj (.invokevirtual 132) 3 86 1 44],
  [mz, mz, mi (.ifCond .ne 5) 3, mz, mz, mi (.iconst (-1)) 1, mi .ireturn 1, mi (.aload 3) 1, mj (.getfield 289) 3 7 10 96, mz, mz, mi (.astore 4) 2, mz, mi (.aload 3) 1, mj (.getfield 293) 3 7 9 97, mz],
  [mz, mi (.iconst 2) 1, mi (.if_icmp .ne 19) 3, mz, mz, mi (.aload 3) 1, mi (.aload 0) 1, mj (.getfield 80) 3 11 0 28, mz, mz, mj (.invokevirtual 314) 3 68 1 103, mz, mz, mi (.ifCond .eq 8) 3, mz, mz],
  [mi (.aload 4) 2, mz, mi (.ifnonnull 6) 3, mz, mz, mi (.iconst (-2)) 2, mz, mi .ireturn 1, mi (.aload 0) 1, mj (.getfield 16) 3 11 3 4, mz, mz, mi (.aload 4) 2, mz, mj (.getfield 165) 3 4 4 55, mz],
  [mz, mi (.iload 2) 1, mj (.invokevirtual 294) 3 90 2 98, mz, mz, mi (.istore 5) 2, mz, mi (.iload 5) 2, mz, mi (.ifCond .ge 6) 3, mz, mz, mi (.iconst (-2)) 2, mz, mi .ireturn 1, mi (.aload 3) 1],
  [mi (.aload 0) 1, mj (.getfield 80) 3 11 0 28, mz, mz, mj (.invokevirtual 317) 3 71 1 104, mz, mz, mi (.aload 4) 2, mz, mi .aconst_null 1, mj (.putfield 177) 3 4 9 59, mz, mz, mi (.aload 4) 2, mz, mi (.iload 2) 1],
  [mi (.aload 0) 1, mj (.getfield 80) 3 11 0 28, mz, mz, mi (.iload 5) 2, mz, mj (.invokevirtual 310) 3 42 3 102, mz, mz, mi (.aload 0) 1, mj (.getfield 80) 3 11 0 28, mz, mz, mi (.iload 5) 2, mz, mi .iadd 1],
  [mi .ireturn 1]]
def kX11_off : List (List (Option mR)) := [[mi (.aload 0) 1, mi (.iload 1) 1, mj (.invokevirtual 251) 3 170 1 85, mz, mz, mi (.astore 2) 1, mi (.aload 2) 1, mi (.ifnonnull 5) 3, mz, mz, mi (.iconst (-1)) 1, mi .ireturn 1, mi (.aload 2) 1, mj (.getfield 293) 3 7 9 97, mz, mz],
  [mi (.ifCond .eq 14) 3, mz, mz, mi (.aload 2) 1, mj (.getfield 293) 3 7 9 97, mz, mz, mi (.iconst 1) 1, mi (.if_icmp .eq 6) 3, mz, mz, mi (.iconst (-2)) 2, mz, mi .ireturn 1, mi (.aload 2) 1, mj (.getfield 289) 3 7 10 96],
  [mz, mz, mi (.ifnull 11) 3, mz, mz, mi (.aload 2) 1, mj (.getfield 289) 3 7 10 96, mz, mz, mi .aconst_null 1, mj (.putfield 177) 3 4 9 59, mz, mz, mi (.aload 2) 1, mi .aconst_null 1, mj (.putfield 289) 3 7 10 96],
  [mz, mz, mi (.aload 2) 1, mi (.iconst 4) 1, mj (.putfield 293) 3 7 9 97, mz, mz, mi (.iconst 1) 1, mi .ireturn 1]]
def kX11_ofOrder : List (List (Option mR)) := [[mi (.aload 0) 1, mi (.iload 1) 1, mj (.invokevirtual 251) 3 170 1 85, mz, mz, mi (.astore 3) 1, mi (.aload 3) 1, mi (.ifnonnull 6) 3, mz, mz, mj (.iconst (-2000000000)) 2 0 0 49, mz, mi .ireturn 1, mi (.iload 2) 1, mi (.tableswitch 121 0 9 #[54, 59, 67, 72, 77, 82, 87, 106, 111, 116]) 54, mz],
  [mz, mz, mz, mz, mz, mz, mz, mz, mz, mz, mz, mz, mz, mz, mz, mz],
  [mz, mz, mz, mz, mz, mz, mz, mz, mz, mz, mz, mz, mz, mz, mz, mz],
  [mz, mz, mz, mz, mz, mz, mz, mz, mz, mz, mz, mz, mz, mz, mz, mz],
  [mz, mz, mz, mz, mi (.aload 3) 1, mj (.getfield 244) 3 7 6 82, mz, mz, mi .ireturn 1, mi (.aload 3) 1, mj (.getfield 320) 3 7 5 105, mz, mz, mj (.getfield 149) 3 1 0 51, mz, mz],
  [mi .ireturn 1, mi (.aload 3) 1, mj (.getfield 297) 3 7 1 99, mz, mz, mi .ireturn 1, mi (.aload 3) 1, mj (.getfield 321) 3 7 2 106, mz, mz, mi .ireturn 1, mi (.aload 3) 1, mj (.getfield 324) 3 7 3 107, mz, mz, mi .ireturn 1],
  [mi (.aload 3) 1, mj (.getfield 293) 3 7 9 97, mz, mz, mi .ireturn 1, mi (.aload 3) 1, mj (.getfield 289) 3 7 10 96, mz, mz, mi (.ifnonnull 7) 3, mz, mz, mi (.iconst (-1)) 1, mi (.goto 10) 3, mz, mz],
  [mi (.aload 3) 1, mj (.getfield 289) 3 7 10 96, mz, mz, mj (.getfield 195) 3 4 0 65, mz, mz, mi .ireturn 1, mi (.aload 3) 1, mj (.getfield 305) 3 7 11 100, mz, mz, mi .ireturn 1, mi (.aload 3) 1, mj (.getfield 327) 3 7 12 108, mz],
  [mz, mi .ireturn 1, mi (.aload 3) 1, mj (.getfield 330) 3 7 4 109, mz, mz, mi .ireturn 1, mj (.iconst (-2000000000)) 2 0 0 49, mz, mi .ireturn 1]]
def kX11_said : List (List (Option mR)) := [[mi (.aload 0) 1, mi (.iload 1) 1, mj (.invokevirtual 251) 3 170 1 85, mz, mz, mi (.astore 4) 2, mz, mi (.aload 4) 2, mz, mi (.ifnull 20) 3, mz, mz, mi (.iload 2) 1, mi (.iconst 0) 1, mi (.iconst 59) 2, mz],
  [mj (.invokestatic 95) 3 166 3 32, mz, mz, mi (.ifCond .eq 10) 3, mz, mz, mi (.iload 3) 1, mj (.invokestatic 84) 3 167 1 29, mz, mz, mi (.ifCond .ne 5) 3, mz, mz, mi (.iconst (-1)) 1, mi .ireturn 1, mi (.aload 4) 2],
  [mz, mi (.aload 0) 1, mj (.getfield 80) 3 11 0 28, mz, mz, mj (.invokevirtual 314) 3 68 1 103, mz, mz, mi (.ifCond .ne 6) 3, mz, mz, mi (.iconst (-2)) 2, mz, mi .ireturn 1, mi (.aload 4) 2, mz],
  [mj (.getfield 333) 3 7 13 110, mz, mz, mi (.iload 2) 1, mi (.iload 3) 1, mi (.ifCond .ne 7) 3, mz, mz, mi (.iconst 1) 1, mi (.goto 4) 3, mz, mz, mi (.iconst 0) 1, mi .bastore 1, mi (.iconst 1) 1, mi .ireturn 1]]
def kX11_days : List (List (Option mR)) := [[mi (.aload 0) 1, mi (.iload 1) 1, mj (.invokevirtual 336) 3 172 1 111, mz, mz, mi (.astore 3) 1, mi (.aload 3) 1, mi (.ifnull 12) 3, mz, mz, mi (.iload 2) 1, mi (.iconst 0) 1, mi (.iconst 3) 1, mj (.invokestatic 95) 3 166 3 32, mz, mz],
  [mi (.ifCond .ne 6) 3, mz, mz, mj (.iconst (-2000000000)) 2 0 0 49, mz, mi .ireturn 1, mi (.iload 2) 1, mi (.ifCond .ne 14) 3, mz, mz, mi (.aload 3) 1, mi (.aload 0) 1, mj (.getfield 80) 3 11 0 28, mz, mz, mj (.invokevirtual 339) 3 74 1 112],
  [mz, mz, mi (.goto 12) 3, mz, mz, mi (.aload 3) 1, mi (.iload 2) 1, mi (.aload 0) 1, mj (.getfield 80) 3 11 0 28, mz, mz, mj (.invokevirtual 342) 3 76 2 113, mz, mz, mi .ireturn 1]]
def kX11_dayOf : List (List (Option mR)) := [[mi (.aload 0) 1, mi (.iload 1) 1, mj (.invokevirtual 336) 3 172 1 111, mz, mz, mi (.astore 3) 1, mi (.aload 3) 1, mi (.ifnull 19) 3, mz, mz, mi (.iload 2) 1, mi (.ifCond .lt 15) 3, mz, mz, mi (.iload 2) 1, mi (.aload 3) 1],
  [mi (.aload 0) 1, mj (.getfield 80) 3 11 0 28, mz, mz, mj (.invokevirtual 339) 3 74 1 112, mz, mz, mi (.if_icmp .lt 5) 3, mz, mz, mi (.iconst (-1)) 1, mi .ireturn 1, mi (.aload 3) 1, mi (.iload 2) 1, mi (.aload 0) 1, mj (.getfield 80) 3 11 0 28],
  [mz, mz, mj (.invokevirtual 345) 3 75 2 114, mz, mz, mi .ireturn 1]]
def kX11_feed : List (List (Option mR)) := [[mi (.aload 0) 1, mj (.getfield 69) 3 11 16 24, mz, mz, mj (.invokevirtual 348) 3 92 0 115, mz, mz, mi (.ifCond .ne 6) 3, mz, mz, mi (.iconst (-3)) 2, mz, mi .ireturn 1, mi (.aload 0) 1, mj (.getfield 69) 3 11 16 24, mz],
  [mz, mi (.iload 1) 1, mj (.invokevirtual 351) 3 93 1 116, mz, mz, mi (.aload 0) 1, mj (.getfield 69) 3 11 16 24, mz, mz, mi (.iload 2) 1, mj (.invokevirtual 351) 3 93 1 116, mz, mz, mi (.aload 0) 1, mj (.getfield 69) 3 11 16 24, mz],
  [mz, mi (.iload 3) 1, mj (.invokevirtual 351) 3 93 1 116, mz, mz, mi (.aload 0) 1, mj (.getfield 69) 3 11 16 24, mz, mz, mi (.iload 4) 2, mz, mj (.invokevirtual 351) 3 93 1 116, mz, mz, mi (.aload 0) 1, mj (.getfield 69) 3 11 16 24],
  [mz, mz, mi (.iload 5) 2, mz, mj (.invokevirtual 351) 3 93 1 116, mz, mz, mi (.aload 0) 1, mj (.getfield 69) 3 11 16 24, mz, mz, mj (.getfield 354) 3 9 1 117, mz, mz, mi .ireturn 1]]
def kX11_end : List (List (Option mR)) := [[mi (.iload 1) 1, mi (.iconst 0) 1, mi (.aload 0) 1, mj (.getfield 69) 3 11 16 24, mz, mz, mj (.getfield 354) 3 9 1 117, mz, mz, mj (.invokestatic 95) 3 166 3 32, mz, mz, mi (.ifCond .ne 5) 3, mz, mz, mi (.iconst (-1)) 1],
  [mi .ireturn 1, mi (.aload 0) 1, mj (.getfield 69) 3 11 16 24, mz, mz, mi (.iload 1) 1, mj (.putfield 354) 3 9 1 117, mz, mz, mi (.iload 1) 1, mi .ireturn 1]]
def kX11_terms : List (List (Option mR)) := [[mi (.iload 1) 1, mj (.invokestatic 84) 3 167 1 29, mz, mz, mi (.ifCond .eq 14) 3, mz, mz, mi (.iload 2) 1, mi (.iconst 0) 1, mi (.iconst 999) 3, mz, mz, mj (.invokestatic 95) 3 166 3 32, mz, mz, mi (.ifCond .ne 5) 3],
  [mz, mz, mi (.iconst (-1)) 1, mi .ireturn 1, mi (.aload 0) 1, mj (.getfield 76) 3 11 17 27, mz, mz, mj (.invokevirtual 355) 3 1 0 118, mz, mz, mi (.ifCond .eq 6) 3, mz, mz, mi (.iconst (-3)) 2, mz],
  [mi .ireturn 1, mi (.aload 0) 1, mj (.getfield 69) 3 11 16 24, mz, mz, mj (.invokevirtual 358) 3 94 0 119, mz, mz, mi (.istore 3) 1, mi (.aload 0) 1, mj (.getfield 69) 3 11 16 24, mz, mz, mi (.iconst 0) 1, mj (.putfield 354) 3 9 1 117, mz],
  [mz, mi (.iload 3) 1, mi (.ifCond .lt 8) 3, mz, mz, mi (.iconst (-100)) 2, mz, mi (.iload 3) 1, mi .isub 1, mi .ireturn 1, mi (.aload 0) 1, mj (.getfield 76) 3 11 17 27, mz, mz, mj (.new 361) 3 10 0 120, mz],
  [mz, mi .dup 1, mi (.iload 1) 1, mi (.iload 2) 1, mi (.aload 0) 1, mj (.getfield 80) 3 11 0 28, mz, mz, mi (.iconst 24) 2, mz, mi .idiv 1, mi (.aload 0) 1, mj (.getfield 69) 3 11 16 24, mz, mz, mj (.invokevirtual 363) 3 95 0 121],
  [mz, mz, mj (.invokespecial 367) 3 112 4 122, mz, mz, mj (.invokevirtual 370) 3 3 1 123, mz, mz, mi .ireturn 1]]
def kX11_gives : List (List (Option mR)) := [[mi (.aload 0) 1, mi (.iload 2) 1, mj (.invokevirtual 336) 3 172 1 111, mz, mz, mi (.astore 4) 2, mz, mi (.aload 4) 2, mz, mi (.ifnull 25) 3, mz, mz, mi (.aload 0) 1, mj (.getfield 76) 3 11 17 27, mz, mz],
  [mi (.iload 1) 1, mj (.invokevirtual 373) 3 2 1 124, mz, mz, mi (.ifCond .eq 14) 3, mz, mz, mi (.iload 3) 1, mi (.iconst 0) 1, mi (.iconst 999) 3, mz, mz, mj (.invokestatic 95) 3 166 3 32, mz, mz, mi (.ifCond .ne 6) 3],
  [mz, mz, mj (.iconst (-2000000000)) 2 0 0 49, mz, mi .ireturn 1, mi (.aload 0) 1, mi (.aload 4) 2, mz, mj (.invokevirtual 374) 3 173 1 125, mz, mz, mi (.aload 0) 1, mj (.getfield 76) 3 11 17 27, mz, mz, mi (.iload 3) 1],
  [mj (.invokevirtual 378) 3 6 1 126, mz, mz, mi (.aload 0) 1, mj (.getfield 76) 3 11 17 27, mz, mz, mi (.iload 1) 1, mj (.invokevirtual 381) 3 8 1 127, mz, mz, mi .ireturn 1]]
def kX11_bill : List (List (Option mR)) := [[mi (.aload 0) 1, mi (.iload 1) 1, mj (.invokevirtual 336) 3 172 1 111, mz, mz, mi (.astore 4) 2, mz, mi (.aload 4) 2, mz, mi (.ifnull 23) 3, mz, mz, mi (.iload 2) 1, mi (.iconst 0) 1, mi (.iconst 999) 3, mz],
  [mz, mj (.invokestatic 95) 3 166 3 32, mz, mz, mi (.ifCond .eq 12) 3, mz, mz, mi (.iload 3) 1, mi (.iconst 0) 1, mi (.iconst 5) 1, mj (.invokestatic 95) 3 166 3 32, mz, mz, mi (.ifCond .ne 6) 3, mz, mz],
  [mj (.iconst (-2000000000)) 2 0 0 49, mz, mi .ireturn 1, mi (.aload 0) 1, mi (.aload 4) 2, mz, mj (.invokevirtual 374) 3 173 1 125, mz, mz, mi (.aload 4) 2, mz, mj (.getfield 305) 3 7 11 100, mz, mz, mi (.iconst 24) 2, mz],
  [mi .idiv 1, mi (.istore 5) 2, mz, mi (.iload 3) 1, mi (.tableswitch 128 0 5 #[40, 59, 78, 128, 128, 116]) 40, mz, mz, mz, mz, mz, mz, mz, mz, mz, mz, mz],
  [mz, mz, mz, mz, mz, mz, mz, mz, mz, mz, mz, mz, mz, mz, mz, mz],
  [mz, mz, mz, mz, mz, mz, mz, mz, mz, mz, mz, mz, mi (.aload 0) 1, mj (.getfield 76) 3 11 17 27, mz, mz],
  [mi (.aload 0) 1, mj (.getfield 76) 3 11 17 27, mz, mz, mi (.iconst 0) 1, mi (.iload 2) 1, mi (.iload 5) 2, mz, mj (.invokevirtual 384) 3 9 3 128, mz, mz, mj (.invokevirtual 381) 3 8 1 127, mz, mz, mi .ireturn 1, mi (.aload 0) 1],
  [mj (.getfield 76) 3 11 17 27, mz, mz, mi (.aload 0) 1, mj (.getfield 76) 3 11 17 27, mz, mz, mi (.iconst 1) 1, mi (.iload 2) 1, mi (.iload 5) 2, mz, mj (.invokevirtual 384) 3 9 3 128, mz, mz, mj (.invokevirtual 381) 3 8 1 127, mz],
  [mz, mi .ireturn 1, mi (.aload 0) 1, mj (.getfield 76) 3 11 17 27, mz, mz, mi (.aload 0) 1, mj (.getfield 76) 3 11 17 27, mz, mz, mi (.iconst 0) 1, mi (.iload 2) 1, mi (.iload 5) 2, mz, mj (.invokevirtual 384) 3 9 3 128, mz],
  [mz, mj (.invokevirtual 381) 3 8 1 127, mz, mz, mi (.aload 0) 1, mj (.getfield 76) 3 11 17 27, mz, mz, mi (.aload 0) 1, mj (.getfield 76) 3 11 17 27, mz, mz, mi (.iconst 1) 1, mi (.iload 2) 1, mi (.iload 5) 2, mz],
  [mj (.invokevirtual 384) 3 9 3 128, mz, mz, mj (.invokevirtual 381) 3 8 1 127, mz, mz, mi .iadd 1, mi .ireturn 1, mi (.aload 0) 1, mj (.getfield 76) 3 11 17 27, mz, mz, mi (.iconst 0) 1, mi (.iload 2) 1, mi (.iload 5) 2, mz],
  [mj (.invokevirtual 384) 3 9 3 128, mz, mz, mi .ireturn 1, mi (.aload 0) 1, mj (.getfield 76) 3 11 17 27, mz, mz, mi (.aload 4) 2, mz, mi (.iload 3) 1, mi (.iconst 3) 1, mi (.if_icmp .ne 7) 3, mz, mz, mi (.iconst 1) 1],
  [mi (.goto 4) 3, mz, mz, mi (.iconst 2) 1, mi (.aload 0) 1, mj (.getfield 80) 3 11 0 28, mz, mz, mj (.invokevirtual 342) 3 76 2 113, mz, mz, mj (.invokevirtual 378) 3 6 1 126, mz, mz, mi (.aload 0) 1, mj (.getfield 76) 3 11 17 27],
  [mz, mz, mi (.aload 0) 1, mj (.getfield 76) 3 11 17 27, mz, mz, mi (.iconst 0) 1, mi (.iload 2) 1, mi (.iload 5) 2, mz, mj (.invokevirtual 384) 3 9 3 128, mz, mz, mj (.invokevirtual 381) 3 8 1 127, mz, mz],
  [mi .ireturn 1]]
def kX11_next : List (List (Option mR)) := [[mi (.aload 0) 1, mi (.iload 1) 1, mj (.invokevirtual 251) 3 170 1 85, mz, mz, mi (.astore 3) 1, mi (.aload 3) 1, mi (.ifnull 13) 3, mz, mz, mi (.iload 2) 1, mi (.iconst 1) 1, mi (.iconst 60) 2, mz, mj (.invokestatic 95) 3 166 3 32, mz],
  [mz, mi (.ifCond .ne 5) 3, mz, mz, mi (.iconst (-1)) 1, mi .ireturn 1, mi (.aload 3) 1, mi (.aload 0) 1, mj (.getfield 80) 3 11 0 28, mz, mz, mj (.invokevirtual 314) 3 68 1 103, mz, mz, mi (.ifCond .ne 6) 3, mz],
  [mz, mi (.iconst (-2)) 2, mz, mi .ireturn 1, mi (.aload 0) 1, mi (.aload 3) 1, mj (.invokevirtual 374) 3 173 1 125, mz, mz, mi (.aload 0) 1, mi (.aload 3) 1, mi (.iload 2) 1, mj (.invokevirtual 387) 3 174 2 129, mz, mz, mi (.istore 4) 2],
  [mz, mi (.iload 2) 1, mi (.iconst 1) 1, mi .iadd 1, mi (.istore 5) 2, mz, mi (.iload 5) 2, mz, mi (.iload 2) 1, mi (.iconst 6) 2, mz, mi .iadd 1, mi (.if_icmp .gt 24) 3, mz, mz, mi (.aload 0) 1],
  [mi (.aload 3) 1, mi (.iload 5) 2, mz, mj (.invokevirtual 387) 3 174 2 129, mz, mz, mi (.iload 4) 2, mz, mi (.if_icmp .ge 6) 3, mz, mz, mi (.iload 5) 2, mz, mi .ireturn 1, mi (.iinc 5 1) 3, mz],
  [mz, mi (.goto (-27)) 3, mz, mz, mi (.iconst (-2)) 2, mz, mi .ireturn 1]]
def kX11_looked : List (List (Option mR)) := [[mi (.aload 0) 1, mi (.iload 1) 1, mj (.invokevirtual 251) 3 170 1 85, mz, mz, mi (.astore 4) 2, mz, mi (.aload 4) 2, mz, mi (.ifnull 21) 3, mz, mz, mi (.iload 2) 1, mj (.invokestatic 84) 3 167 1 29, mz, mz],
  [mi (.ifCond .eq 14) 3, mz, mz, mi (.iload 3) 1, mi (.iconst 0) 1, mj (.iconst 65535) 3 0 0 130, mz, mz, mj (.invokestatic 95) 3 166 3 32, mz, mz, mi (.ifCond .ne 5) 3, mz, mz, mi (.iconst (-1)) 1, mi .ireturn 1],
  [mi (.aload 4) 2, mz, mi (.aload 4) 2, mz, mj (.getfield 392) 3 7 14 131, mz, mz, mi (.iload 2) 1, mi (.iload 3) 1, mj (.invokevirtual 395) 3 79 3 132, mz, mz, mi .ireturn 1]]
def kX11_fuel : List (List (Option mR)) := [[mi (.aload 0) 1, mi (.iload 1) 1, mj (.invokevirtual 251) 3 170 1 85, mz, mz, mi (.astore 4) 2, mz, mi (.aload 4) 2, mz, mi (.ifnull 21) 3, mz, mz, mi (.iload 2) 1, mj (.invokestatic 84) 3 167 1 29, mz, mz],
  [mi (.ifCond .eq 14) 3, mz, mz, mi (.iload 3) 1, mi (.iconst 0) 1, mi (.iconst 999) 3, mz, mz, mj (.invokestatic 95) 3 166 3 32, mz, mz, mi (.ifCond .ne 5) 3, mz, mz, mi (.iconst (-1)) 1, mi .ireturn 1],
  [mi (.aload 4) 2, mz, mi (.aload 4) 2, mz, mj (.getfield 398) 3 7 15 133, mz, mz, mi (.iload 2) 1, mi (.iload 3) 1, mj (.invokevirtual 395) 3 79 3 132, mz, mz, mi .ireturn 1]]
def kX11_harm : List (List (Option mR)) := [[mi (.aload 0) 1, mi (.iload 1) 1, mj (.invokevirtual 251) 3 170 1 85, mz, mz, mi (.astore 3) 1, mi (.aload 3) 1, mi (.ifnonnull 5) 3, mz, mz, mi (.iconst (-1)) 1, mi .ireturn 1, mi (.iload 2) 1, mi (.tableswitch 42 0 2 #[27, 32, 37]) 27, mz, mz],
  [mz, mz, mz, mz, mz, mz, mz, mz, mz, mz, mz, mz, mz, mz, mz, mz],
  [mz, mz, mz, mz, mz, mz, mz, mz, mi (.aload 3) 1, mj (.invokevirtual 401) 3 80 0 134, mz, mz, mi .ireturn 1, mi (.aload 3) 1, mj (.invokevirtual 404) 3 81 0 135, mz],
  [mz, mi .ireturn 1, mi (.aload 3) 1, mj (.invokevirtual 407) 3 82 0 136, mz, mz, mi .ireturn 1, mi (.iconst (-1)) 1, mi .ireturn 1]]
def kX11_share : List (List (Option mR)) := [[mi (.aload 0) 1, mi (.iload 1) 1, mj (.invokevirtual 336) 3 172 1 111, mz, mz, mi (.astore 3) 1, mi (.aload 3) 1, mi (.ifnull 25) 3, mz, mz, mi (.aload 3) 1, mj (.getfield 289) 3 7 10 96, mz, mz, mi (.ifnull 18) 3, mz],
  [mz, mi (.iload 2) 1, mi (.ifCond .lt 14) 3, mz, mz, mi (.iload 2) 1, mi (.aload 3) 1, mj (.getfield 289) 3 7 10 96, mz, mz, mj (.getfield 182) 3 4 15 61, mz, mz, mi (.if_icmp .lt 6) 3, mz, mz],
  [mj (.iconst (-2000000000)) 2 0 0 49, mz, mi .ireturn 1, mi (.aload 3) 1, mj (.getfield 289) 3 7 10 96, mz, mz, mi (.astore 4) 2, mz, mi (.aload 4) 2, mz, mi (.iload 2) 1, mj (.invokevirtual 410) 3 47 1 137, mz, mz, mi (.aload 4) 2],
  [mz, mi (.iload 2) 1, mi (.iconst 1) 1, mi .iadd 1, mj (.invokevirtual 410) 3 47 1 137, mz, mz, mi .isub 1, mi (.aload 3) 1, mi (.iconst 3) 1, mi (.aload 0) 1, mj (.getfield 80) 3 11 0 28, mz, mz, mj (.invokevirtual 342) 3 76 2 113, mz],
  [mz, mi .imul 1, mi .ireturn 1]]
def kX11_chain : List (List (Option mR)) := [[mi (.aload 0) 1, mi (.iload 1) 1, mj (.invokevirtual 107) 3 169 1 35, mz, mz, mi (.astore 4) 2, mz, mi (.aload 4) 2, mz, mi (.ifnull 23) 3, mz, mz, mi (.iload 2) 1, mi (.ifCond .lt 19) 3, mz, mz],
  [mi (.iload 2) 1, mi (.aload 4) 2, mz, mj (.getfield 182) 3 4 15 61, mz, mz, mi (.if_icmp .ge 10) 3, mz, mz, mi (.iload 3) 1, mj (.invokestatic 84) 3 167 1 29, mz, mz, mi (.ifCond .ne 5) 3, mz, mz],
  [mi (.iconst (-1)) 1, mi .ireturn 1, mi (.iload 3) 1, mi (.ifCond .ne 10) 3, mz, mz, mi (.aload 4) 2, mz, mi (.iload 2) 1, mj (.invokevirtual 413) 3 46 1 138, mz, mz, mi .ireturn 1, mi (.aload 4) 2, mz, mi (.iload 2) 1],
  [mj (.invokevirtual 410) 3 47 1 137, mz, mz, mi (.aload 4) 2, mz, mi (.iload 2) 1, mi (.iconst 1) 1, mi .iadd 1, mj (.invokevirtual 410) 3 47 1 137, mz, mz, mi (.if_icmp .ge 7) 3, mz, mz, mi (.iconst 1) 1, mi (.goto 4) 3],
  [mz, mz, mi (.iconst 0) 1, mi .ireturn 1]]
def kX11_rank : List (List (Option mR)) := [[mi (.aload 0) 1, mi (.iload 1) 1, mj (.invokevirtual 107) 3 169 1 35, mz, mz, mi (.astore 3) 1, mi (.aload 3) 1, mi (.ifnull 15) 3, mz, mz, mi (.iload 2) 1, mi (.ifCond .lt 11) 3, mz, mz, mi (.iload 2) 1, mi (.aload 3) 1],
  [mj (.getfield 182) 3 4 15 61, mz, mz, mi (.if_icmp .lt 5) 3, mz, mz, mi (.iconst (-1)) 1, mi .ireturn 1, mi (.aload 3) 1, mi (.aload 3) 1, mj (.getfield 182) 3 4 15 61, mz, mz, mi (.iconst 1) 1, mi .isub 1, mi (.iload 2) 1],
  [mi .isub 1, mj (.invokevirtual 413) 3 46 1 138, mz, mz, mi .ireturn 1]]
def kX11_idle : List (List (Option mR)) := [[mi (.aload 0) 1, mi (.iload 1) 1, mj (.invokevirtual 122) 3 168 1 41, mz, mz, mi (.astore 4) 2, mz, mi (.aload 4) 2, mz, mi (.ifnull 21) 3, mz, mz, mi (.aload 0) 1, mj (.getfield 16) 3 11 3 4, mz, mz],
  [mi (.iload 2) 1, mj (.invokevirtual 92) 3 85 1 31, mz, mz, mi (.ifCond .eq 10) 3, mz, mz, mi (.iload 3) 1, mj (.invokestatic 84) 3 167 1 29, mz, mz, mi (.ifCond .ne 5) 3, mz, mz, mi (.iconst (-1)) 1, mi .ireturn 1],
  [mi (.iload 3) 1, mi (.ifCond .ne 13) 3, mz, mz, mi (.aload 0) 1, mi (.aload 4) 2, mz, mi (.iload 2) 1, mj (.invokevirtual 416) 3 175 2 139, mz, mz, mi (.goto 10) 3, mz, mz, mi (.aload 0) 1, mi (.aload 4) 2],
  [mz, mi (.iload 2) 1, mj (.invokevirtual 420) 3 176 2 140, mz, mz, mi .ireturn 1]]
def kX11_move : List (List (Option mR)) := [[mi (.aload 0) 1, mi (.iload 1) 1, mj (.invokevirtual 122) 3 168 1 41, mz, mz, mi (.astore 2) 1, mi (.aload 2) 1, mi (.ifnonnull 5) 3, mz, mz, mi (.iconst (-1)) 1, mi .ireturn 1, mi (.iconst (-1)) 1, mi (.istore 3) 1, mi (.iconst (-1)) 1, mi (.istore 4) 2],
  [mz, mi (.iconst 0) 1, mi (.istore 5) 2, mz, mi (.iconst 0) 1, mi (.istore 6) 2, mz, mi (.iconst 0) 1, mi (.istore 7) 2, mz, mi (.iload 7) 2, mz, mi (.iconst 12) 2, mz, mi (.if_icmp .ge 69) 3, mz],
  [mz, mi (.aload 0) 1, mj (.getfield 16) 3 11 3 4, mz, mz, mi (.iload 7) 2, mz, mj (.invokevirtual 132) 3 86 1 44, mz, mz, mi (.ifCond .eq 51) 3, mz, mz, mi (.aload 0) 1, mi (.aload 2) 1, mi (.iload 7) 2],
  [mz, mj (.invokevirtual 416) 3 175 2 139, mz, mz, mi (.aload 0) 1, mi (.aload 2) 1, mi (.iload 7) 2, mz, mj (.invokevirtual 420) 3 176 2 140, mz, mz, mi .isub 1, mi (.istore 8) 2, mz, mi (.iload 8) 2, mz],
  [mi (.iload 5) 2, mz, mi (.if_icmp .le 10) 3, mz, mz, mi (.iload 8) 2, mz, mi (.istore 5) 2, mz, mi (.iload 7) 2, mz, mi (.istore 3) 1, mi (.iload 8) 2, mz, mi .ineg 1, mi (.iload 6) 2],
  [mz, mi (.if_icmp .le 12) 3, mz, mz, mi (.iload 8) 2, mz, mi .ineg 1, mi (.istore 6) 2, mz, mi (.iload 7) 2, mz, mi (.istore 4) 2, mz, mi (.iinc 7 1) 3, mz, mz],
  [mi (.goto (-70)) 3, mz, mz, mi (.iload 3) 1, mi (.ifCond .lt 8) 3, mz, mz, mi (.iload 4) 2, mz, mi (.ifCond .ge 8) 3, mz, mz, mi (.iconst (-2)) 2, mz, mi (.goto 10) 3, mz],
  [mz, mi (.iconst 100) 2, mz, mi (.iload 3) 1, mi .imul 1, mi (.iload 4) 2, mz, mi .iadd 1, mi .ireturn 1]]
def kX11_count : List (List (Option mR)) := [[mi (.iload 1) 1, mi (.tableswitch 157 0 13 #[71, 79, 84, 89, 94, 99, 104, 112, 117, 125, 131, 137, 145, 151]) 71, mz, mz, mz, mz, mz, mz, mz, mz, mz, mz, mz, mz, mz, mz],
  [mz, mz, mz, mz, mz, mz, mz, mz, mz, mz, mz, mz, mz, mz, mz, mz],
  [mz, mz, mz, mz, mz, mz, mz, mz, mz, mz, mz, mz, mz, mz, mz, mz],
  [mz, mz, mz, mz, mz, mz, mz, mz, mz, mz, mz, mz, mz, mz, mz, mz],
  [mz, mz, mz, mz, mz, mz, mz, mz, mi (.aload 0) 1, mj (.getfield 16) 3 11 3 4, mz, mz, mj (.getfield 423) 3 8 3 141, mz, mz, mi .ireturn 1],
  [mi (.aload 0) 1, mj (.getfield 116) 3 11 5 38, mz, mz, mi .ireturn 1, mi (.aload 0) 1, mj (.getfield 135) 3 11 7 45, mz, mz, mi .ireturn 1, mi (.aload 0) 1, mj (.getfield 232) 3 11 10 77, mz, mz, mi .ireturn 1, mi (.aload 0) 1],
  [mj (.getfield 238) 3 11 12 79, mz, mz, mi .ireturn 1, mi (.aload 0) 1, mj (.getfield 80) 3 11 0 28, mz, mz, mi .ireturn 1, mi (.aload 0) 1, mj (.getfield 76) 3 11 17 27, mz, mz, mj (.getfield 426) 3 0 1 142, mz, mz],
  [mi .ireturn 1, mi (.aload 0) 1, mj (.getfield 213) 3 11 1 71, mz, mz, mi .ireturn 1, mi (.aload 0) 1, mj (.getfield 48) 3 11 13 15, mz, mz, mj (.getfield 429) 3 2 3 143, mz, mz, mi .ireturn 1, mi (.aload 0) 1, mi (.iconst 2) 1],
  [mj (.invokevirtual 432) 3 177 1 144, mz, mz, mi .ireturn 1, mi (.aload 0) 1, mi (.iconst 1) 1, mj (.invokevirtual 432) 3 177 1 144, mz, mz, mi .ireturn 1, mi (.aload 0) 1, mj (.getfield 69) 3 11 16 24, mz, mz, mj (.getfield 354) 3 9 1 117, mz],
  [mz, mi .ireturn 1, mi (.aload 0) 1, mi (.iconst 0) 1, mj (.invokevirtual 435) 3 178 1 145, mz, mz, mi .ireturn 1, mi (.aload 0) 1, mi (.iconst 3) 1, mj (.invokevirtual 435) 3 178 1 145, mz, mz, mi .ireturn 1, mi (.iconst (-1)) 1, mi .ireturn 1]]
def kX11_within : List (List (Option mR)) := [[mi (.iload 0) 1, mi (.iload 1) 1, mi (.if_icmp .lt 12) 3, mz, mz, mi (.iload 0) 1, mi (.iload 2) 1, mi (.if_icmp .gt 7) 3, mz, mz, mi (.iconst 1) 1, mi (.goto 4) 3, mz, mz, mi (.iconst 0) 1, mi .ireturn 1]]
def kX11_isFlag : List (List (Option mR)) := [[mi (.iload 0) 1, mi (.ifCond .eq 8) 3, mz, mz, mi (.iload 0) 1, mi (.iconst 1) 1, mi (.if_icmp .ne 7) 3, mz, mz, mi (.iconst 1) 1, mi (.goto 4) 3, mz, mz, mi (.iconst 0) 1, mi .ireturn 1]]
def kX11_kindOf : List (List (Option mR)) := [[mi (.iload 1) 1, mi (.ifCond .lt 21) 3, mz, mz, mi (.iload 1) 1, mi (.aload 0) 1, mj (.getfield 22) 3 11 4 6, mz, mz, mi .arraylength 1, mi (.if_icmp .ge 12) 3, mz, mz, mi (.aload 0) 1, mj (.getfield 22) 3 11 4 6, mz],
  [mz, mi (.iload 1) 1, mi .aaload 1, mi (.goto 4) 3, mz, mz, mi .aconst_null 1, mi .areturn 1]]
def kX11_machineOf : List (List (Option mR)) := [[mi (.iload 1) 1, mi (.ifCond .lt 21) 3, mz, mz, mi (.iload 1) 1, mi (.aload 0) 1, mj (.getfield 28) 3 11 6 8, mz, mz, mi .arraylength 1, mi (.if_icmp .ge 12) 3, mz, mz, mi (.aload 0) 1, mj (.getfield 28) 3 11 6 8, mz],
  [mz, mi (.iload 1) 1, mi .aaload 1, mi (.goto 4) 3, mz, mz, mi .aconst_null 1, mi .areturn 1]]
def kX11_orderOf : List (List (Option mR)) := [[mi (.iload 1) 1, mi (.ifCond .lt 21) 3, mz, mz, mi (.iload 1) 1, mi (.aload 0) 1, mj (.getfield 41) 3 11 11 12, mz, mz, mi .arraylength 1, mi (.if_icmp .ge 12) 3, mz, mz, mi (.aload 0) 1, mj (.getfield 41) 3 11 11 12, mz],
  [mz, mi (.iload 1) 1, mi .aaload 1, mi (.goto 4) 3, mz, mz, mi .aconst_null 1, mi .areturn 1]]
def kX11_isCustomer : List (List (Option mR)) := [[mi (.iload 1) 1, mi (.ifCond .lt 15) 3, mz, mz, mi (.iload 1) 1, mi (.aload 0) 1, mj (.getfield 232) 3 11 10 77, mz, mz, mi (.if_icmp .ge 7) 3, mz, mz, mi (.iconst 1) 1, mi (.goto 4) 3, mz, mz],
  [mi (.iconst 0) 1, mi .ireturn 1]]
def kX11_begunOrder : List (List (Option mR)) := [[mi (.aload 0) 1, mi (.iload 1) 1, mj (.invokevirtual 251) 3 170 1 85, mz, mz, mi (.astore 2) 1, mi (.aload 2) 1, mi (.ifnull 18) 3, mz, mz, mi (.aload 2) 1, mi (.aload 0) 1, mj (.getfield 80) 3 11 0 28, mz, mz, mj (.invokevirtual 314) 3 68 1 103],
  [mz, mz, mi (.ifCond .eq 7) 3, mz, mz, mi (.aload 2) 1, mi (.goto 4) 3, mz, mz, mi .aconst_null 1, mi .areturn 1]]
def kX11_learn : List (List (Option mR)) := [[mi (.aload 0) 1, mj (.getfield 76) 3 11 17 27, mz, mz, mi (.aload 1) 1, mi (.aload 0) 1, mj (.getfield 80) 3 11 0 28, mz, mz, mj (.invokevirtual 438) 3 4 2 146, mz, mz, mi (.aload 0) 1, mj (.getfield 76) 3 11 17 27, mz, mz],
  [mi (.aload 1) 1, mi (.aload 0) 1, mj (.getfield 80) 3 11 0 28, mz, mz, mi (.aload 0) 1, mj (.getfield 9) 3 11 2 1, mz, mz, mi (.aload 0) 1, mj (.getfield 48) 3 11 13 15, mz, mz, mj (.invokevirtual 441) 3 5 4 147, mz, mz],
  [mi .return_ 1]]
def kX11_priceOf : List (List (Option mR)) := [[mi (.aload 0) 1, mj (.getfield 76) 3 11 17 27, mz, mz, mi (.aload 1) 1, mi (.iload 2) 1, mj (.invokevirtual 445) 3 7 2 148, mz, mz, mi (.aload 0) 1, mj (.getfield 76) 3 11 17 27, mz, mz, mi (.aload 0) 1, mj (.getfield 76) 3 11 17 27, mz],
  [mz, mi (.iconst 0) 1, mi (.aload 0) 1, mj (.getfield 80) 3 11 0 28, mz, mz, mi (.iconst 24) 2, mz, mi .idiv 1, mi (.aload 1) 1, mj (.getfield 305) 3 7 11 100, mz, mz, mi (.iconst 24) 2, mz, mi .idiv 1],
  [mj (.invokevirtual 384) 3 9 3 128, mz, mz, mj (.invokevirtual 381) 3 8 1 127, mz, mz, mi .ireturn 1]]
def kX11_idleIn : List (List (Option mR)) := [[mi (.iconst 0) 1, mi (.istore 3) 1, mi (.iconst 0) 1, mi (.istore 4) 2, mz, mi (.iload 4) 2, mz, mi (.iconst 90) 2, mz, mi (.if_icmp .ge 51) 3, mz, mz, mi (.aload 0) 1, mi (.iload 4) 2, mz, mj (.invokevirtual 107) 3 169 1 35],
  [mz, mz, mi (.astore 5) 2, mz, mi (.aload 5) 2, mz, mi (.ifnull 32) 3, mz, mz, mi (.aload 5) 2, mz, mj (.getfield 145) 3 4 1 50, mz, mz, mi (.aload 1) 1, mi (.if_acmp .ne 23) 3],
  [mz, mz, mi (.aload 5) 2, mz, mj (.getfield 165) 3 4 4 55, mz, mz, mi (.iload 2) 1, mi (.if_icmp .ne 14) 3, mz, mz, mi (.aload 5) 2, mz, mj (.invokevirtual 188) 3 36 0 63, mz, mz],
  [mi (.ifCond .eq 6) 3, mz, mz, mi (.iinc 3 1) 3, mz, mz, mi (.iinc 4 1) 3, mz, mz, mi (.goto (-52)) 3, mz, mz, mi (.iload 3) 1, mi .ireturn 1]]
def kX11_wantedIn : List (List (Option mR)) := [[mi (.iconst 0) 1, mi (.istore 3) 1, mi (.iconst 0) 1, mi (.istore 4) 2, mz, mi (.iload 4) 2, mz, mi (.iconst 100) 2, mz, mi (.if_icmp .ge 59) 3, mz, mz, mi (.aload 0) 1, mi (.iload 4) 2, mz, mj (.invokevirtual 251) 3 170 1 85],
  [mz, mz, mi (.astore 5) 2, mz, mi (.aload 5) 2, mz, mi (.ifnull 40) 3, mz, mz, mi (.aload 5) 2, mz, mj (.getfield 320) 3 7 5 105, mz, mz, mi (.aload 1) 1, mi (.if_acmp .ne 31) 3],
  [mz, mz, mi (.aload 5) 2, mz, mj (.getfield 247) 3 7 7 83, mz, mz, mi (.iload 2) 1, mi (.if_icmp .ne 22) 3, mz, mz, mi (.aload 0) 1, mj (.getfield 80) 3 11 0 28, mz, mz, mi (.aload 5) 2],
  [mz, mj (.getfield 330) 3 7 4 109, mz, mz, mi .isub 1, mi (.iconst 720) 3, mz, mz, mi (.if_icmp .ge 6) 3, mz, mz, mi (.iinc 3 1) 3, mz, mz, mi (.iinc 4 1) 3, mz],
  [mz, mi (.goto (-60)) 3, mz, mz, mi (.iload 3) 1, mi .ireturn 1]]
def kX11_machinesThatAre : List (List (Option mR)) := [[mi (.iconst 0) 1, mi (.istore 2) 1, mi (.iconst 0) 1, mi (.istore 3) 1, mi (.iload 3) 1, mi (.iconst 90) 2, mz, mi (.if_icmp .ge 33) 3, mz, mz, mi (.aload 0) 1, mi (.iload 3) 1, mj (.invokevirtual 107) 3 169 1 35, mz, mz, mi (.astore 4) 2],
  [mz, mi (.aload 4) 2, mz, mi (.ifnull 15) 3, mz, mz, mi (.aload 4) 2, mz, mj (.getfield 162) 3 4 3 54, mz, mz, mi (.iload 1) 1, mi (.if_icmp .ne 6) 3, mz, mz, mi (.iinc 2 1) 3],
  [mz, mz, mi (.iinc 3 1) 3, mz, mz, mi (.goto (-33)) 3, mz, mz, mi (.iload 2) 1, mi .ireturn 1]]
def kX11_ordersThatAre : List (List (Option mR)) := [[mi (.iconst 0) 1, mi (.istore 2) 1, mi (.iconst 0) 1, mi (.istore 3) 1, mi (.iload 3) 1, mi (.iconst 100) 2, mz, mi (.if_icmp .ge 33) 3, mz, mz, mi (.aload 0) 1, mi (.iload 3) 1, mj (.invokevirtual 251) 3 170 1 85, mz, mz, mi (.astore 4) 2],
  [mz, mi (.aload 4) 2, mz, mi (.ifnull 15) 3, mz, mz, mi (.aload 4) 2, mz, mj (.getfield 293) 3 7 9 97, mz, mz, mi (.iload 1) 1, mi (.if_icmp .ne 6) 3, mz, mz, mi (.iinc 2 1) 3],
  [mz, mz, mi (.iinc 3 1) 3, mz, mz, mi (.goto (-33)) 3, mz, mz, mi (.iload 2) 1, mi .ireturn 1]]
def kX12_init : List (List (Option mR)) := [[mi (.aload 0) 1, mi .pop2 3, mz, mz, mi (.aload 0) 1, mi (.iconst 12) 2, mz, mi (.newarray .boolean) 2, mz, mj (.putfield 7) 3 12 3 1, mz, mz, mi (.aload 0) 1, mi (.iconst 144) 3, mz, mz],
  [mi (.newarray .int) 2, mz, mj (.putfield 13) 3 12 4 2, mz, mz, mi (.aload 0) 1, mi (.iconst 144) 3, mz, mz, mi (.newarray .int) 2, mz, mj (.putfield 17) 3 12 5 3, mz, mz, mi (.aload 0) 1, mi (.iconst 1000) 3],
  [mz, mz, mi (.newarray .boolean) 2, mz, mj (.putfield 20) 3 12 6 4, mz, mz, mi (.aload 0) 1, mi (.iconst 15) 2, mz, mi (.newarray .int) 2, mz, mj (.putfield 23) 3 12 8 5, mz, mz, mi (.aload 0) 1],
  [mi (.iconst 15) 2, mz, mi (.newarray .int) 2, mz, mj (.putfield 26) 3 12 9 6, mz, mz, mi (.aload 0) 1, mi (.iconst 15) 2, mz, mi (.newarray .int) 2, mz, mj (.putfield 29) 3 12 10 7, mz, mz, mi (.aload 0) 1],
  [mi (.iconst 15) 2, mz, mi (.newarray .int) 2, mz, mj (.putfield 32) 3 12 11 8, mz, mz, mi (.aload 0) 1, mi (.iconst 15) 2, mz, mi (.newarray .int) 2, mz, mj (.putfield 35) 3 12 12 9, mz, mz, mi (.aload 0) 1],
  [mi (.iconst 225) 3, mz, mz, mi (.newarray .boolean) 2, mz, mj (.putfield 38) 3 12 13 10, mz, mz, mi (.aload 0) 1, mi (.iconst 240) 3, mz, mz, mi (.newarray .int) 2, mz, mj (.putfield 41) 3 12 14 11, mz],
  [mz, mi (.aload 0) 1, mi (.iconst 90) 2, mz, mi (.newarray .int) 2, mz, mj (.putfield 44) 3 12 16 12, mz, mz, mi (.aload 0) 1, mi (.iconst 90) 2, mz, mi (.newarray .int) 2, mz, mj (.putfield 47) 3 12 17 13, mz],
  [mz, mi (.aload 0) 1, mi (.iconst 90) 2, mz, mi (.newarray .int) 2, mz, mj (.putfield 50) 3 12 18 14, mz, mz, mi (.aload 0) 1, mi (.iconst 90) 2, mz, mi (.newarray .int) 2, mz, mj (.putfield 53) 3 12 19 15, mz],
  [mz, mi (.aload 0) 1, mi (.iconst 90) 2, mz, mi (.newarray .int) 2, mz, mj (.putfield 56) 3 12 20 16, mz, mz, mi (.aload 0) 1, mi (.iconst 90) 2, mz, mi (.newarray .boolean) 2, mz, mj (.putfield 59) 3 12 21 17, mz],
  [mz, mi (.aload 0) 1, mi (.iconst 90) 2, mz, mi (.newarray .int) 2, mz, mj (.putfield 62) 3 12 22 18, mz, mz, mi (.aload 0) 1, mi (.iconst 90) 2, mz, mi (.newarray .int) 2, mz, mj (.putfield 65) 3 12 23 19, mz],
  [mz, mi (.aload 0) 1, mi (.iconst 90) 2, mz, mi (.newarray .int) 2, mz, mj (.putfield 68) 3 12 24 20, mz, mz, mi (.aload 0) 1, mi (.iconst 90) 2, mz, mi (.newarray .int) 2, mz, mj (.putfield 71) 3 12 25 21, mz],
  [mz, mi (.aload 0) 1, mi (.iconst 90) 2, mz, mi (.newarray .int) 2, mz, mj (.putfield 74) 3 12 26 22, mz, mz, mi (.aload 0) 1, mi (.iconst 90) 2, mz, mi (.newarray .int) 2, mz, mj (.putfield 77) 3 12 27 23, mz],
  [mz, mi (.aload 0) 1, mi (.iconst 90) 2, mz, mi (.newarray .int) 2, mz, mj (.putfield 80) 3 12 28 24, mz, mz, mi (.aload 0) 1, mi (.iconst 90) 2, mz, mi (.newarray .int) 2, mz, mj (.putfield 83) 3 12 29 25, mz],
  [mz, mi (.aload 0) 1, mi (.iconst 450) 3, mz, mz, mi (.newarray .int) 2, mz, mj (.putfield 86) 3 12 30 26, mz, mz, mi (.aload 0) 1, mi (.iconst 450) 3, mz, mz, mi (.newarray .int) 2, mz],
  [mj (.putfield 89) 3 12 31 27, mz, mz, mi (.aload 0) 1, mi (.iconst 490) 3, mz, mz, mi (.newarray .int) 2, mz, mj (.putfield 92) 3 12 34 28, mz, mz, mi (.aload 0) 1, mi (.iconst 490) 3, mz, mz],
  [mi (.newarray .int) 2, mz, mj (.putfield 95) 3 12 35 29, mz, mz, mi (.aload 0) 1, mi (.iconst 490) 3, mz, mz, mi (.newarray .int) 2, mz, mj (.putfield 98) 3 12 36 30, mz, mz, mi (.aload 0) 1, mi (.iconst 200) 3],
  [mz, mz, mi (.newarray .int) 2, mz, mj (.putfield 101) 3 12 38 31, mz, mz, mi (.aload 0) 1, mi (.iconst 200) 3, mz, mz, mi (.newarray .int) 2, mz, mj (.putfield 104) 3 12 39 32, mz, mz],
  [mi (.aload 0) 1, mi (.iconst 200) 3, mz, mz, mi (.newarray .int) 2, mz, mj (.putfield 107) 3 12 40 33, mz, mz, mi (.aload 0) 1, mi (.iconst 300) 3, mz, mz, mi (.newarray .int) 2, mz, mj (.putfield 110) 3 12 42 34],
  [mz, mz, mi (.aload 0) 1, mi (.iconst 300) 3, mz, mz, mi (.newarray .int) 2, mz, mj (.putfield 113) 3 12 43 35, mz, mz, mi (.aload 0) 1, mi (.iconst 300) 3, mz, mz, mi (.newarray .int) 2],
  [mz, mj (.putfield 116) 3 12 44 36, mz, mz, mi (.aload 0) 1, mi (.iconst 30) 2, mz, mi (.newarray .int) 2, mz, mj (.putfield 119) 3 12 46 37, mz, mz, mi (.aload 0) 1, mi (.iconst 30) 2, mz, mi (.newarray .int) 2],
  [mz, mj (.putfield 122) 3 12 47 38, mz, mz, mi (.aload 0) 1, mi (.iconst 100) 2, mz, mi (.newarray .int) 2, mz, mj (.putfield 125) 3 12 49 39, mz, mz, mi (.aload 0) 1, mi (.iconst 100) 2, mz, mi (.newarray .int) 2],
  [mz, mj (.putfield 128) 3 12 50 40, mz, mz, mi (.aload 0) 1, mi (.iconst 100) 2, mz, mi (.newarray .int) 2, mz, mj (.putfield 131) 3 12 51 41, mz, mz, mi (.aload 0) 1, mi (.iconst 100) 2, mz, mi (.newarray .int) 2],
  [mz, mj (.putfield 134) 3 12 52 42, mz, mz, mi (.aload 0) 1, mi (.iconst 100) 2, mz, mi (.newarray .int) 2, mz, mj (.putfield 137) 3 12 53 43, mz, mz, mi (.aload 0) 1, mi (.iconst 100) 2, mz, mi (.newarray .int) 2],
  [mz, mj (.putfield 140) 3 12 54 44, mz, mz, mi (.aload 0) 1, mi (.iconst 100) 2, mz, mi (.newarray .int) 2, mz, mj (.putfield 143) 3 12 55 45, mz, mz, mi (.aload 0) 1, mi (.iconst 100) 2, mz, mi (.newarray .int) 2],
  [mz, mj (.putfield 146) 3 12 56 46, mz, mz, mi (.aload 0) 1, mi (.iconst 100) 2, mz, mi (.newarray .int) 2, mz, mj (.putfield 149) 3 12 57 47, mz, mz, mi (.aload 0) 1, mi (.iconst 100) 2, mz, mi (.newarray .int) 2],
  [mz, mj (.putfield 152) 3 12 58 48, mz, mz, mi (.aload 0) 1, mi (.iconst 6000) 3, mz, mz, mi (.newarray .int) 2, mz, mj (.putfield 155) 3 12 59 49, mz, mz, mi (.aload 0) 1, mi (.iconst 200) 3, mz],
  [mz, mi (.newarray .int) 2, mz, mj (.putfield 158) 3 12 60 50, mz, mz, mi (.aload 0) 1, mi (.iconst 200) 3, mz, mz, mi (.newarray .int) 2, mz, mj (.putfield 161) 3 12 61 51, mz, mz, mi (.aload 0) 1],
  [mi (.iconst 6) 2, mz, mi (.newarray .int) 2, mz, mj (.putfield 164) 3 12 63 52, mz, mz, mi (.aload 0) 1, mi (.iconst 90) 2, mz, mi (.newarray .boolean) 2, mz, mj (.putfield 167) 3 12 66 53, mz, mz, mi (.aload 0) 1],
  [mi (.iconst 6) 2, mz, mi (.newarray .int) 2, mz, mj (.putfield 170) 3 12 67 54, mz, mz, mi (.aload 0) 1, mi (.iconst 64) 2, mz, mi (.newarray .long) 2, mz, mj (.putfield 173) 3 12 68 55, mz, mz, mi (.aload 0) 1],
  [mi (.iconst 540) 3, mz, mz, mi (.newarray .long) 2, mz, mj (.putfield 177) 3 12 69 56, mz, mz, mi (.aload 0) 1, mi (.iconst 5) 1, mi (.newarray .int) 2, mz, mj (.putfield 180) 3 12 71 57, mz, mz, mi (.aload 0) 1],
  [mi (.iconst 5) 1, mi (.newarray .int) 2, mz, mj (.putfield 183) 3 12 72 58, mz, mz, mi (.aload 0) 1, mi (.iconst 5) 1, mi (.newarray .int) 2, mz, mj (.putfield 186) 3 12 75 59, mz, mz, mi (.aload 0) 1, mi (.iconst 200) 3, mz],
  [mz, mi (.newarray .byte) 2, mz, mj (.putfield 189) 3 12 76 60, mz, mz, mi (.aload 0) 1, mi (.iconst 16) 2, mz, mi (.newarray .int) 2, mz, mj (.putfield 193) 3 12 79 61, mz, mz, mi (.aload 0) 1, mi (.iconst 16) 2],
  [mz, mi (.newarray .int) 2, mz, mj (.putfield 196) 3 12 80 62, mz, mz, mi (.aload 0) 1, mi (.iconst 16) 2, mz, mi (.newarray .int) 2, mz, mj (.putfield 199) 3 12 81 63, mz, mz, mi (.aload 0) 1, mi (.iconst 17) 2],
  [mz, mi (.newarray .int) 2, mz, mj (.putfield 202) 3 12 82 64, mz, mz, mi (.aload 0) 1, mi (.iconst 3740) 3, mz, mz, mi (.newarray .int) 2, mz, mj (.putfield 205) 3 12 83 65, mz, mz, mi (.aload 0) 1],
  [mi (.iconst 3740) 3, mz, mz, mi (.newarray .int) 2, mz, mj (.putfield 208) 3 12 84 66, mz, mz, mi (.aload 0) 1, mi (.iconst 3740) 3, mz, mz, mi (.newarray .int) 2, mz, mj (.putfield 211) 3 12 85 67, mz],
  [mz, mi (.aload 0) 1, mi (.iconst 14) 2, mz, mi (.newarray .int) 2, mz, mj (.putfield 214) 3 12 94 68, mz, mz, mi (.aload 0) 1, mi (.iconst 220) 3, mz, mz, mi (.newarray .int) 2, mz, mj (.putfield 217) 3 12 95 69],
  [mz, mz, mi .return_ 1]]
def kX12_in : List (List (Option mR)) := [[mi (.iload 0) 1, mi (.iload 1) 1, mi (.if_icmp .lt 12) 3, mz, mz, mi (.iload 0) 1, mi (.iload 2) 1, mi (.if_icmp .gt 7) 3, mz, mz, mi (.iconst 1) 1, mi (.goto 4) 3, mz, mz, mi (.iconst 0) 1, mi .ireturn 1]]
def kX12_isDay : List (List (Option mR)) := [[mi (.iload 0) 1, mi (.iconst 0) 1, mi (.iconst 999) 3, mz, mz, mj (.invokestatic 224) 3 180 3 70, mz, mz, mi .ireturn 1]]
def kX12_today : List (List (Option mR)) := [[mi (.aload 0) 1, mj (.getfield 228) 3 12 1 71, mz, mz, mi (.iconst 24) 2, mz, mi .idiv 1, mi .ireturn 1]]
def kX12_isTown : List (List (Option mR)) := [[mi (.iload 1) 1, mi (.iconst 0) 1, mi (.aload 0) 1, mj (.getfield 231) 3 12 2 72, mz, mz, mi (.iconst 1) 1, mi .isub 1, mj (.invokestatic 224) 3 180 3 70, mz, mz, mi .ireturn 1]]
def kX12_farOf : List (List (Option mR)) := [[mi (.aload 0) 1, mj (.getfield 17) 3 12 5 3, mz, mz, mi (.iconst 12) 2, mz, mi (.iload 1) 1, mi .imul 1, mi (.iload 2) 1, mi .iadd 1, mi .iaload 1, mi .ireturn 1]]
def kX12_findFars : List (List (Option mR)) := [[mi (.iconst 0) 1, mi (.istore 1) 1, mi (.iload 1) 1, mi (.aload 0) 1, mj (.getfield 231) 3 12 2 72, mz, mz, mi (.if_icmp .ge 75) 3, mz, mz, mi (.iconst 0) 1, mi (.istore 2) 1, mi (.iload 2) 1, mi (.aload 0) 1, mj (.getfield 231) 3 12 2 72, mz],
  [mz, mi (.if_icmp .ge 59) 3, mz, mz, mi (.aload 0) 1, mj (.getfield 17) 3 12 5 3, mz, mz, mi (.iconst 12) 2, mz, mi (.iload 1) 1, mi .imul 1, mi (.iload 2) 1, mi .iadd 1, mi (.iload 1) 1, mi (.iload 2) 1],
  [mi (.if_icmp .ne 7) 3, mz, mz, mi (.iconst 0) 1, mi (.goto 33) 3, mz, mz, mi (.aload 0) 1, mj (.getfield 13) 3 12 4 2, mz, mz, mi (.iconst 12) 2, mz, mi (.iload 1) 1, mi .imul 1, mi (.iload 2) 1],
  [mi .iadd 1, mi .iaload 1, mi (.ifCond .ne 8) 3, mz, mz, mj (.iconst 1000000) 2 0 0 73, mz, mi (.goto 14) 3, mz, mz, mi (.aload 0) 1, mj (.getfield 13) 3 12 4 2, mz, mz, mi (.iconst 12) 2, mz],
  [mi (.iload 1) 1, mi .imul 1, mi (.iload 2) 1, mi .iadd 1, mi .iaload 1, mi .iastore 1, mi (.iinc 2 1) 3, mz, mz, mi (.goto (-61)) 3, mz, mz, mi (.iinc 1 1) 3, mz, mz, mi (.goto (-77)) 3],
  [mz, mz, mi (.iconst 0) 1, mi (.istore 1) 1, mi (.iload 1) 1, mi (.aload 0) 1, mj (.getfield 231) 3 12 2 72, mz, mz, mi (.if_icmp .ge 80) 3, mz, mz, mi (.iconst 0) 1, mi (.istore 2) 1, mi (.iload 2) 1, mi (.aload 0) 1],
  [mj (.getfield 231) 3 12 2 72, mz, mz, mi (.if_icmp .ge 64) 3, mz, mz, mi (.iconst 0) 1, mi (.istore 3) 1, mi (.iload 3) 1, mi (.aload 0) 1, mj (.getfield 231) 3 12 2 72, mz, mz, mi (.if_icmp .ge 48) 3, mz, mz],
  [mi (.aload 0) 1, mi (.iload 2) 1, mi (.iload 1) 1, mj (.invokevirtual 235) 3 184 2 74, mz, mz, mi (.aload 0) 1, mi (.iload 1) 1, mi (.iload 3) 1, mj (.invokevirtual 235) 3 184 2 74, mz, mz, mi .iadd 1, mi (.istore 4) 2, mz, mi (.iload 4) 2],
  [mz, mi (.aload 0) 1, mi (.iload 2) 1, mi (.iload 3) 1, mj (.invokevirtual 235) 3 184 2 74, mz, mz, mi (.if_icmp .ge 16) 3, mz, mz, mi (.aload 0) 1, mj (.getfield 17) 3 12 5 3, mz, mz, mi (.iconst 12) 2, mz],
  [mi (.iload 2) 1, mi .imul 1, mi (.iload 3) 1, mi .iadd 1, mi (.iload 4) 2, mz, mi .iastore 1, mi (.iinc 3 1) 3, mz, mz, mi (.goto (-50)) 3, mz, mz, mi (.iinc 2 1) 3, mz, mz],
  [mi (.goto (-66)) 3, mz, mz, mi (.iinc 1 1) 3, mz, mz, mi (.goto (-82)) 3, mz, mz, mi .return_ 1]]
def kX12_town : List (List (Option mR)) := [[mi (.iload 1) 1, mi (.iconst 0) 1, mi (.iconst 1) 1, mj (.invokestatic 224) 3 180 3 70, mz, mz, mi (.ifCond .ne 5) 3, mz, mz, mi (.iconst (-1)) 1, mi .ireturn 1, mi (.aload 0) 1, mj (.getfield 231) 3 12 2 72, mz, mz, mi (.iconst 12) 2],
  [mz, mi (.if_icmp .ne 6) 3, mz, mz, mi (.iconst (-3)) 2, mz, mi .ireturn 1, mi (.aload 0) 1, mj (.getfield 7) 3 12 3 1, mz, mz, mi (.aload 0) 1, mj (.getfield 231) 3 12 2 72, mz, mz, mi (.iload 1) 1],
  [mi (.iconst 1) 1, mi (.if_icmp .ne 7) 3, mz, mz, mi (.iconst 1) 1, mi (.goto 4) 3, mz, mz, mi (.iconst 0) 1, mi .bastore 1, mi (.aload 0) 1, mi .dup 1, mj (.getfield 231) 3 12 2 72, mz, mz, mi (.iconst 1) 1],
  [mi .iadd 1, mj (.putfield 231) 3 12 2 72, mz, mz, mi (.aload 0) 1, mj (.invokevirtual 239) 3 185 0 75, mz, mz, mi (.aload 0) 1, mj (.getfield 231) 3 12 2 72, mz, mz, mi (.iconst 1) 1, mi .isub 1, mi .ireturn 1]]
def kX12_road : List (List (Option mR)) := [[mi (.aload 0) 1, mi (.iload 1) 1, mj (.invokevirtual 242) 3 183 1 76, mz, mz, mi (.ifCond .eq 27) 3, mz, mz, mi (.aload 0) 1, mi (.iload 2) 1, mj (.invokevirtual 242) 3 183 1 76, mz, mz, mi (.ifCond .eq 19) 3, mz, mz],
  [mi (.iload 1) 1, mi (.iload 2) 1, mi (.if_icmp .eq 14) 3, mz, mz, mi (.iload 3) 1, mi (.iconst 1) 1, mi (.iconst 300) 3, mz, mz, mj (.invokestatic 224) 3 180 3 70, mz, mz, mi (.ifCond .ne 5) 3, mz, mz],
  [mi (.iconst (-1)) 1, mi .ireturn 1, mi (.aload 0) 1, mj (.getfield 13) 3 12 4 2, mz, mz, mi (.iconst 12) 2, mz, mi (.iload 1) 1, mi .imul 1, mi (.iload 2) 1, mi .iadd 1, mi .iaload 1, mi (.istore 4) 2, mz, mi (.iload 4) 2],
  [mz, mi (.ifCond .eq 9) 3, mz, mz, mi (.iload 3) 1, mi (.iload 4) 2, mz, mi (.if_icmp .ge 7) 3, mz, mz, mi (.iload 3) 1, mi (.goto 5) 3, mz, mz, mi (.iload 4) 2, mz],
  [mi (.istore 5) 2, mz, mi (.aload 0) 1, mj (.getfield 13) 3 12 4 2, mz, mz, mi (.iconst 12) 2, mz, mi (.iload 1) 1, mi .imul 1, mi (.iload 2) 1, mi .iadd 1, mi (.iload 5) 2, mz, mi .iastore 1, mi (.aload 0) 1],
  [mj (.getfield 13) 3 12 4 2, mz, mz, mi (.iconst 12) 2, mz, mi (.iload 2) 1, mi .imul 1, mi (.iload 1) 1, mi .iadd 1, mi (.iload 5) 2, mz, mi .iastore 1, mi (.aload 0) 1, mj (.invokevirtual 239) 3 185 0 75, mz, mz],
  [mi (.iload 5) 2, mz, mi .ireturn 1]]
def kX12_far : List (List (Option mR)) := [[mi (.aload 0) 1, mi (.iload 1) 1, mj (.invokevirtual 242) 3 183 1 76, mz, mz, mi (.ifCond .eq 11) 3, mz, mz, mi (.aload 0) 1, mi (.iload 2) 1, mj (.invokevirtual 242) 3 183 1 76, mz, mz, mi (.ifCond .ne 7) 3, mz, mz],
  [mi (.iconst (-1)) 1, mi (.goto 25) 3, mz, mz, mi (.aload 0) 1, mi (.iload 1) 1, mi (.iload 2) 1, mj (.invokevirtual 235) 3 184 2 74, mz, mz, mj (.iconst 1000000) 2 0 0 73, mz, mi (.if_icmp .lt 8) 3, mz, mz, mi (.iconst (-2)) 2],
  [mz, mi (.goto 9) 3, mz, mz, mi (.aload 0) 1, mi (.iload 1) 1, mi (.iload 2) 1, mj (.invokevirtual 235) 3 184 2 74, mz, mz, mi .ireturn 1]]
def kX12_rain : List (List (Option mR)) := [[mi (.iload 1) 1, mj (.invokestatic 246) 3 181 1 77, mz, mz, mi (.ifCond .eq 12) 3, mz, mz, mi (.iload 2) 1, mi (.iconst 0) 1, mi (.iconst 1) 1, mj (.invokestatic 224) 3 180 3 70, mz, mz, mi (.ifCond .ne 5) 3, mz, mz],
  [mi (.iconst (-1)) 1, mi .ireturn 1, mi (.aload 0) 1, mj (.getfield 20) 3 12 6 4, mz, mz, mi (.iload 1) 1, mi .baload 1, mi (.ifCond .eq 7) 3, mz, mz, mi (.iconst 1) 1, mi (.goto 4) 3, mz, mz, mi (.iconst 0) 1],
  [mi (.istore 3) 1, mi (.aload 0) 1, mj (.getfield 20) 3 12 6 4, mz, mz, mi (.iload 1) 1, mi (.iload 2) 1, mi (.iconst 1) 1, mi (.if_icmp .ne 7) 3, mz, mz, mi (.iconst 1) 1, mi (.goto 4) 3, mz, mz, mi (.iconst 0) 1],
  [mi .bastore 1, mi (.iload 3) 1, mi .ireturn 1]]
def kX12_isType : List (List (Option mR)) := [[mi (.iload 1) 1, mi (.iconst 0) 1, mi (.aload 0) 1, mj (.getfield 249) 3 12 7 78, mz, mz, mi (.iconst 1) 1, mi .isub 1, mj (.invokestatic 224) 3 180 3 70, mz, mz, mi .ireturn 1]]
def kX12_isMachine : List (List (Option mR)) := [[mi (.iload 1) 1, mi (.iconst 0) 1, mi (.aload 0) 1, mj (.getfield 252) 3 12 15 79, mz, mz, mi (.iconst 1) 1, mi .isub 1, mj (.invokestatic 224) 3 180 3 70, mz, mz, mi .ireturn 1]]
def kX12_type : List (List (Option mR)) := [[mi (.iload 1) 1, mi (.iconst 1000) 3, mz, mz, mj (.iconst 99999) 2 0 0 80, mz, mj (.invokestatic 224) 3 180 3 70, mz, mz, mi (.ifCond .eq 45) 3, mz, mz, mi (.iload 2) 1, mi (.iconst 1) 1, mi (.iconst 9999) 3, mz],
  [mz, mj (.invokestatic 224) 3 180 3 70, mz, mz, mi (.ifCond .eq 34) 3, mz, mz, mi (.iload 3) 1, mi (.iconst 0) 1, mi (.iconst 997) 3, mz, mz, mj (.invokestatic 224) 3 180 3 70, mz, mz, mi (.ifCond .eq 23) 3],
  [mz, mz, mi (.iload 3) 1, mi (.iconst 10) 2, mz, mi .irem 1, mi (.iconst 7) 2, mz, mi (.if_icmp .gt 14) 3, mz, mz, mi (.iload 4) 2, mz, mi (.iconst 0) 1, mj (.iconst 99999) 2 0 0 80, mz],
  [mj (.invokestatic 224) 3 180 3 70, mz, mz, mi (.ifCond .ne 5) 3, mz, mz, mi (.iconst (-1)) 1, mi .ireturn 1, mi (.aload 0) 1, mj (.getfield 249) 3 12 7 78, mz, mz, mi (.iconst 15) 2, mz, mi (.if_icmp .ne 6) 3, mz],
  [mz, mi (.iconst (-3)) 2, mz, mi .ireturn 1, mi (.aload 0) 1, mj (.getfield 23) 3 12 8 5, mz, mz, mi (.aload 0) 1, mj (.getfield 249) 3 12 7 78, mz, mz, mi (.iload 1) 1, mi (.iconst 1000) 3, mz, mz],
  [mi .idiv 1, mi .iastore 1, mi (.aload 0) 1, mj (.getfield 26) 3 12 9 6, mz, mz, mi (.aload 0) 1, mj (.getfield 249) 3 12 7 78, mz, mz, mi (.iload 1) 1, mi (.iconst 1000) 3, mz, mz, mi .irem 1, mi .iastore 1],
  [mi (.aload 0) 1, mj (.getfield 29) 3 12 10 7, mz, mz, mi (.aload 0) 1, mj (.getfield 249) 3 12 7 78, mz, mz, mi (.iload 2) 1, mi .iastore 1, mi (.aload 0) 1, mj (.getfield 32) 3 12 11 8, mz, mz, mi (.aload 0) 1, mj (.getfield 249) 3 12 7 78],
  [mz, mz, mi (.iload 3) 1, mi (.iconst 10) 2, mz, mi .irem 1, mi .iastore 1, mi (.aload 0) 1, mj (.getfield 35) 3 12 12 9, mz, mz, mi (.aload 0) 1, mj (.getfield 249) 3 12 7 78, mz, mz, mi (.iload 4) 2],
  [mz, mi .iastore 1, mi (.aload 0) 1, mi .dup 1, mj (.getfield 249) 3 12 7 78, mz, mz, mi (.iconst 1) 1, mi .iadd 1, mj (.putfield 249) 3 12 7 78, mz, mz, mi (.aload 0) 1, mj (.getfield 249) 3 12 7 78, mz, mz],
  [mi (.iconst 1) 1, mi .isub 1, mi .ireturn 1]]
def kX12_instead : List (List (Option mR)) := [[mi (.aload 0) 1, mi (.iload 1) 1, mj (.invokevirtual 256) 3 190 1 81, mz, mz, mi (.ifCond .eq 25) 3, mz, mz, mi (.aload 0) 1, mi (.iload 2) 1, mj (.invokevirtual 256) 3 190 1 81, mz, mz, mi (.ifCond .eq 17) 3, mz, mz],
  [mi (.iload 1) 1, mi (.iload 2) 1, mi (.if_icmp .eq 12) 3, mz, mz, mi (.iload 3) 1, mi (.iconst 0) 1, mi (.iconst 1) 1, mj (.invokestatic 224) 3 180 3 70, mz, mz, mi (.ifCond .ne 5) 3, mz, mz, mi (.iconst (-1)) 1, mi .ireturn 1],
  [mi (.aload 0) 1, mj (.getfield 38) 3 12 13 10, mz, mz, mi (.iconst 15) 2, mz, mi (.iload 1) 1, mi .imul 1, mi (.iload 2) 1, mi .iadd 1, mi .baload 1, mi (.ifCond .eq 7) 3, mz, mz, mi (.iconst 1) 1, mi (.goto 4) 3],
  [mz, mz, mi (.iconst 0) 1, mi (.istore 4) 2, mz, mi (.aload 0) 1, mj (.getfield 38) 3 12 13 10, mz, mz, mi (.iconst 15) 2, mz, mi (.iload 1) 1, mi .imul 1, mi (.iload 2) 1, mi .iadd 1, mi (.iload 3) 1],
  [mi (.iconst 1) 1, mi (.if_icmp .ne 7) 3, mz, mz, mi (.iconst 1) 1, mi (.goto 4) 3, mz, mz, mi (.iconst 0) 1, mi .bastore 1, mi (.iload 4) 2, mz, mi .ireturn 1]]
def kX12_mark : List (List (Option mR)) := [[mi (.aload 0) 1, mi (.iload 1) 1, mj (.invokevirtual 256) 3 190 1 81, mz, mz, mi (.ifCond .eq 24) 3, mz, mz, mi (.iload 2) 1, mi (.iconst 0) 1, mi (.iconst 15) 2, mz, mj (.invokestatic 224) 3 180 3 70, mz, mz, mi (.ifCond .eq 14) 3],
  [mz, mz, mi (.iload 3) 1, mi (.iconst 0) 1, mi (.iconst 9999) 3, mz, mz, mj (.invokestatic 224) 3 180 3 70, mz, mz, mi (.ifCond .ne 5) 3, mz, mz, mi (.iconst (-1)) 1, mi .ireturn 1, mi (.aload 0) 1],
  [mj (.getfield 41) 3 12 14 11, mz, mz, mi (.iconst 16) 2, mz, mi (.iload 1) 1, mi .imul 1, mi (.iload 2) 1, mi .iadd 1, mi .iaload 1, mi (.istore 4) 2, mz, mi (.aload 0) 1, mj (.getfield 41) 3 12 14 11, mz, mz],
  [mi (.iconst 16) 2, mz, mi (.iload 1) 1, mi .imul 1, mi (.iload 2) 1, mi .iadd 1, mi (.iload 3) 1, mi .iastore 1, mi (.iload 4) 2, mz, mi .ireturn 1]]
def kX12_addReading : List (List (Option mR)) := [[mi (.aload 0) 1, mj (.getfield 92) 3 12 34 28, mz, mz, mi (.aload 0) 1, mj (.getfield 259) 3 12 32 82, mz, mz, mi (.iload 1) 1, mi .iastore 1, mi (.aload 0) 1, mj (.getfield 95) 3 12 35 29, mz, mz, mi (.aload 0) 1, mj (.getfield 259) 3 12 32 82],
  [mz, mz, mi (.aload 0) 1, mj (.getfield 228) 3 12 1 71, mz, mz, mi .iastore 1, mi (.aload 0) 1, mj (.getfield 98) 3 12 36 30, mz, mz, mi (.aload 0) 1, mj (.getfield 259) 3 12 32 82, mz, mz, mi (.iload 2) 1],
  [mi .iastore 1, mi (.aload 0) 1, mi .dup 1, mj (.getfield 259) 3 12 32 82, mz, mz, mi (.iconst 1) 1, mi .iadd 1, mj (.putfield 259) 3 12 32 82, mz, mz, mi .return_ 1]]
def kX12_readBy : List (List (Option mR)) := [[mi (.aload 0) 1, mj (.getfield 259) 3 12 32 82, mz, mz, mi (.iconst 1) 1, mi .isub 1, mi (.istore 3) 1, mi (.iload 3) 1, mi (.ifCond .lt 31) 3, mz, mz, mi (.aload 0) 1, mj (.getfield 92) 3 12 34 28, mz, mz, mi (.iload 3) 1],
  [mi .iaload 1, mi (.iload 1) 1, mi (.if_icmp .ne 15) 3, mz, mz, mi (.aload 0) 1, mj (.getfield 95) 3 12 35 29, mz, mz, mi (.iload 3) 1, mi .iaload 1, mi (.iload 2) 1, mi (.if_icmp .gt 5) 3, mz, mz, mi (.iload 3) 1],
  [mi .ireturn 1, mi (.iinc 3 (-1)) 3, mz, mz, mi (.goto (-29)) 3, mz, mz, mi (.iconst (-1)) 1, mi .ireturn 1]]
def kX12_readFrom : List (List (Option mR)) := [[mi (.iconst 0) 1, mi (.istore 3) 1, mi (.iload 3) 1, mi (.aload 0) 1, mj (.getfield 259) 3 12 32 82, mz, mz, mi (.if_icmp .ge 31) 3, mz, mz, mi (.aload 0) 1, mj (.getfield 92) 3 12 34 28, mz, mz, mi (.iload 3) 1, mi .iaload 1],
  [mi (.iload 1) 1, mi (.if_icmp .ne 15) 3, mz, mz, mi (.aload 0) 1, mj (.getfield 95) 3 12 35 29, mz, mz, mi (.iload 3) 1, mi .iaload 1, mi (.iload 2) 1, mi (.if_icmp .lt 5) 3, mz, mz, mi (.iload 3) 1, mi .ireturn 1],
  [mi (.iinc 3 1) 3, mz, mz, mi (.goto (-33)) 3, mz, mz, mi (.iconst (-1)) 1, mi .ireturn 1]]
def kX12_machine : List (List (Option mR)) := [[mi (.aload 0) 1, mi (.iload 1) 1, mj (.invokevirtual 256) 3 190 1 81, mz, mz, mi (.ifCond .eq 30) 3, mz, mz, mi (.aload 0) 1, mi (.iload 2) 1, mj (.invokevirtual 242) 3 183 1 76, mz, mz, mi (.ifCond .eq 22) 3, mz, mz],
  [mi (.aload 0) 1, mj (.getfield 7) 3 12 3 1, mz, mz, mi (.iload 2) 1, mi .baload 1, mi (.ifCond .eq 13) 3, mz, mz, mi (.iload 3) 1, mi (.iconst 0) 1, mj (.iconst 99999) 2 0 0 80, mz, mj (.invokestatic 224) 3 180 3 70, mz, mz],
  [mi (.ifCond .ne 5) 3, mz, mz, mi (.iconst (-1)) 1, mi .ireturn 1, mi (.aload 0) 1, mj (.getfield 252) 3 12 15 79, mz, mz, mi (.iconst 90) 2, mz, mi (.if_icmp .ne 6) 3, mz, mz, mi (.iconst (-3)) 2, mz],
  [mi .ireturn 1, mi (.aload 0) 1, mj (.getfield 252) 3 12 15 79, mz, mz, mi (.istore 4) 2, mz, mi (.aload 0) 1, mj (.getfield 44) 3 12 16 12, mz, mz, mi (.iload 4) 2, mz, mi (.iload 1) 1, mi .iastore 1, mi (.aload 0) 1],
  [mj (.getfield 47) 3 12 17 13, mz, mz, mi (.iload 4) 2, mz, mi (.iload 3) 1, mi .iastore 1, mi (.aload 0) 1, mj (.getfield 53) 3 12 19 15, mz, mz, mi (.iload 4) 2, mz, mi (.iload 2) 1, mi .iastore 1, mi (.aload 0) 1],
  [mj (.getfield 62) 3 12 22 18, mz, mz, mi (.iload 4) 2, mz, mi (.aload 0) 1, mj (.getfield 228) 3 12 1 71, mz, mz, mi .iastore 1, mi (.aload 0) 1, mj (.getfield 56) 3 12 20 16, mz, mz, mi (.iload 4) 2, mz],
  [mi (.iconst (-1)) 1, mi .iastore 1, mi (.aload 0) 1, mj (.getfield 68) 3 12 24 20, mz, mz, mi (.iload 4) 2, mz, mi (.iconst (-1)) 1, mi .iastore 1, mi (.aload 0) 1, mj (.getfield 74) 3 12 26 22, mz, mz, mi (.iload 4) 2, mz],
  [mi (.iconst (-1)) 1, mi .iastore 1, mi (.aload 0) 1, mj (.getfield 77) 3 12 27 23, mz, mz, mi (.iload 4) 2, mz, mi (.iconst (-1)) 1, mi .iastore 1, mi (.aload 0) 1, mi .dup 1, mj (.getfield 252) 3 12 15 79, mz, mz, mi (.iconst 1) 1],
  [mi .iadd 1, mj (.putfield 252) 3 12 15 79, mz, mz, mi (.aload 0) 1, mi (.iload 4) 2, mz, mi (.iload 3) 1, mj (.invokevirtual 262) 3 195 2 83, mz, mz, mi (.iload 4) 2, mz, mi .ireturn 1]]
def kX12_link : List (List (Option mR)) := [[mi (.aload 0) 1, mi (.iload 1) 1, mj (.invokevirtual 266) 3 191 1 84, mz, mz, mi (.ifCond .eq 24) 3, mz, mz, mi (.iload 2) 1, mi (.iconst 0) 1, mi (.iconst 9) 2, mz, mj (.invokestatic 224) 3 180 3 70, mz, mz, mi (.ifCond .eq 14) 3],
  [mz, mz, mi (.iload 3) 1, mi (.iconst 1) 1, mi (.iconst 9999) 3, mz, mz, mj (.invokestatic 224) 3 180 3 70, mz, mz, mi (.ifCond .ne 5) 3, mz, mz, mi (.iconst (-1)) 1, mi .ireturn 1, mi (.aload 0) 1],
  [mj (.getfield 83) 3 12 29 25, mz, mz, mi (.iload 1) 1, mi .iaload 1, mi (.iconst 5) 1, mi (.if_icmp .ne 6) 3, mz, mz, mi (.iconst (-3)) 2, mz, mi .ireturn 1, mi (.aload 0) 1, mj (.getfield 86) 3 12 30 26, mz, mz],
  [mi (.iconst 5) 1, mi (.iload 1) 1, mi .imul 1, mi (.aload 0) 1, mj (.getfield 83) 3 12 29 25, mz, mz, mi (.iload 1) 1, mi .iaload 1, mi .iadd 1, mi (.iload 2) 1, mi .iastore 1, mi (.aload 0) 1, mj (.getfield 89) 3 12 31 27, mz, mz],
  [mi (.iconst 5) 1, mi (.iload 1) 1, mi .imul 1, mi (.aload 0) 1, mj (.getfield 83) 3 12 29 25, mz, mz, mi (.iload 1) 1, mi .iaload 1, mi .iadd 1, mi (.iload 3) 1, mi .iastore 1, mi (.aload 0) 1, mj (.getfield 83) 3 12 29 25, mz, mz],
  [mi (.iload 1) 1, mi .dup2 1, mi .iaload 1, mi (.iconst 1) 1, mi .iadd 1, mi .iastore 1, mi (.aload 0) 1, mj (.getfield 83) 3 12 29 25, mz, mz, mi (.iload 1) 1, mi .iaload 1, mi .ireturn 1]]
def kX12_sinceLook : List (List (Option mR)) := [[mi (.aload 0) 1, mj (.getfield 47) 3 12 17 13, mz, mz, mi (.iload 1) 1, mi .iaload 1, mi (.aload 0) 1, mj (.getfield 71) 3 12 25 21, mz, mz, mi (.iload 1) 1, mi .iaload 1, mi .isub 1, mi .ireturn 1]]
def kX12_isDue : List (List (Option mR)) := [[mi (.aload 0) 1, mj (.getfield 26) 3 12 9 6, mz, mz, mi (.aload 0) 1, mj (.getfield 44) 3 12 16 12, mz, mz, mi (.iload 1) 1, mi .iaload 1, mi .iaload 1, mi (.ifCond .le 26) 3, mz, mz, mi (.aload 0) 1, mi (.iload 1) 1],
  [mj (.invokevirtual 269) 3 200 1 85, mz, mz, mi (.aload 0) 1, mj (.getfield 26) 3 12 9 6, mz, mz, mi (.aload 0) 1, mj (.getfield 44) 3 12 16 12, mz, mz, mi (.iload 1) 1, mi .iaload 1, mi .iaload 1, mi (.if_icmp .lt 7) 3, mz],
  [mz, mi (.iconst 1) 1, mi (.goto 4) 3, mz, mz, mi (.iconst 0) 1, mi .ireturn 1]]
def kX12_lapses : List (List (Option mR)) := [[mi (.aload 0) 1, mj (.getfield 26) 3 12 9 6, mz, mz, mi (.aload 0) 1, mj (.getfield 44) 3 12 16 12, mz, mz, mi (.iload 1) 1, mi .iaload 1, mi .iaload 1, mi (.ifCond .le 28) 3, mz, mz, mi (.aload 0) 1, mi (.iload 1) 1],
  [mj (.invokevirtual 269) 3 200 1 85, mz, mz, mi (.iload 2) 1, mi .iadd 1, mi (.aload 0) 1, mj (.getfield 26) 3 12 9 6, mz, mz, mi (.aload 0) 1, mj (.getfield 44) 3 12 16 12, mz, mz, mi (.iload 1) 1, mi .iaload 1, mi .iaload 1],
  [mi (.if_icmp .le 7) 3, mz, mz, mi (.iconst 1) 1, mi (.goto 4) 3, mz, mz, mi (.iconst 0) 1, mi .ireturn 1]]
def kX12_ofMachine : List (List (Option mR)) := [[mi (.aload 0) 1, mi (.iload 1) 1, mj (.invokevirtual 266) 3 191 1 84, mz, mz, mi (.ifCond .ne 7) 3, mz, mz, mj (.iconst (-2000000000)) 3 0 0 86, mz, mz, mi .ireturn 1, mi (.aload 0) 1, mj (.getfield 26) 3 12 9 6, mz, mz],
  [mi (.aload 0) 1, mj (.getfield 44) 3 12 16 12, mz, mz, mi (.iload 1) 1, mi .iaload 1, mi .iaload 1, mi (.istore 3) 1, mi (.iload 2) 1, mi (.tableswitch 193 0 9 #[55, 62, 69, 76, 97, 104, 110, 150, 157, 164]) 55, mz, mz, mz, mz, mz, mz],
  [mz, mz, mz, mz, mz, mz, mz, mz, mz, mz, mz, mz, mz, mz, mz, mz],
  [mz, mz, mz, mz, mz, mz, mz, mz, mz, mz, mz, mz, mz, mz, mz, mz],
  [mz, mz, mz, mz, mz, mz, mz, mz, mz, mz, mz, mz, mz, mz, mz, mz],
  [mi (.aload 0) 1, mj (.getfield 44) 3 12 16 12, mz, mz, mi (.iload 1) 1, mi .iaload 1, mi .ireturn 1, mi (.aload 0) 1, mj (.getfield 47) 3 12 17 13, mz, mz, mi (.iload 1) 1, mi .iaload 1, mi .ireturn 1, mi (.aload 0) 1, mj (.getfield 50) 3 12 18 14],
  [mz, mz, mi (.iload 1) 1, mi .iaload 1, mi .ireturn 1, mi (.aload 0) 1, mj (.getfield 50) 3 12 18 14, mz, mz, mi (.iload 1) 1, mi .iaload 1, mi (.iconst 3) 1, mi (.if_icmp .ne 7) 3, mz, mz, mi (.iconst (-1)) 1],
  [mi (.goto 9) 3, mz, mz, mi (.aload 0) 1, mj (.getfield 53) 3 12 19 15, mz, mz, mi (.iload 1) 1, mi .iaload 1, mi .ireturn 1, mi (.aload 0) 1, mj (.getfield 65) 3 12 23 19, mz, mz, mi (.iload 1) 1, mi .iaload 1],
  [mi .ireturn 1, mi (.aload 0) 1, mi (.iload 1) 1, mj (.invokevirtual 269) 3 200 1 85, mz, mz, mi .ireturn 1, mi (.aload 0) 1, mj (.getfield 50) 3 12 18 14, mz, mz, mi (.iload 1) 1, mi .iaload 1, mi (.iconst 1) 1, mi (.if_icmp .ne 12) 3, mz],
  [mz, mi (.aload 0) 1, mj (.getfield 56) 3 12 20 16, mz, mz, mi (.iload 1) 1, mi .iaload 1, mi (.goto 23) 3, mz, mz, mi (.aload 0) 1, mj (.getfield 65) 3 12 23 19, mz, mz, mi (.iload 1) 1, mi .iaload 1],
  [mi (.iconst 1) 1, mi (.if_icmp .ne 12) 3, mz, mz, mi (.aload 0) 1, mj (.getfield 68) 3 12 24 20, mz, mz, mi (.iload 1) 1, mi .iaload 1, mi (.goto 4) 3, mz, mz, mi (.iconst (-1)) 1, mi .ireturn 1, mi (.aload 0) 1],
  [mj (.getfield 74) 3 12 26 22, mz, mz, mi (.iload 1) 1, mi .iaload 1, mi .ireturn 1, mi (.aload 0) 1, mj (.getfield 83) 3 12 29 25, mz, mz, mi (.iload 1) 1, mi .iaload 1, mi .ireturn 1, mi (.iload 3) 1, mi (.ifCond .ne 7) 3, mz],
  [mz, mi (.iconst (-1)) 1, mi (.goto 23) 3, mz, mz, mi (.iload 3) 1, mi (.aload 0) 1, mi (.iload 1) 1, mj (.invokevirtual 269) 3 200 1 85, mz, mz, mi (.if_icmp .le 13) 3, mz, mz, mi (.iload 3) 1, mi (.aload 0) 1],
  [mi (.iload 1) 1, mj (.invokevirtual 269) 3 200 1 85, mz, mz, mi .isub 1, mi (.goto 4) 3, mz, mz, mi (.iconst 0) 1, mi .ireturn 1, mj (.iconst (-2000000000)) 3 0 0 86, mz, mz, mi .ireturn 1]]
def kX12_isFree : List (List (Option mR)) := [[mi (.aload 0) 1, mj (.getfield 65) 3 12 23 19, mz, mz, mi (.iload 1) 1, mi .iaload 1, mi (.ifCond .ne 25) 3, mz, mz, mi (.aload 0) 1, mj (.getfield 50) 3 12 18 14, mz, mz, mi (.iload 1) 1, mi .iaload 1, mi (.ifCond .ne 16) 3],
  [mz, mz, mi (.aload 0) 1, mj (.getfield 74) 3 12 26 22, mz, mz, mi (.iload 1) 1, mi .iaload 1, mi (.ifCond .ge 7) 3, mz, mz, mi (.iconst 1) 1, mi (.goto 4) 3, mz, mz, mi (.iconst 0) 1],
  [mi .ireturn 1]]
def kX12_look : List (List (Option mR)) := [[mi (.aload 0) 1, mi (.iload 1) 1, mj (.invokevirtual 266) 3 191 1 84, mz, mz, mi (.ifCond .eq 13) 3, mz, mz, mi (.iload 2) 1, mi (.iconst 1) 1, mi (.iconst 99) 2, mz, mj (.invokestatic 224) 3 180 3 70, mz, mz, mi (.ifCond .ne 5) 3],
  [mz, mz, mi (.iconst (-1)) 1, mi .ireturn 1, mi (.aload 0) 1, mi (.iload 1) 1, mj (.invokevirtual 274) 3 204 1 87, mz, mz, mi (.ifCond .ne 6) 3, mz, mz, mi (.iconst (-2)) 2, mz, mi .ireturn 1, mi (.aload 0) 1],
  [mj (.getfield 65) 3 12 23 19, mz, mz, mi (.iload 1) 1, mi (.iconst 1) 1, mi .iastore 1, mi (.aload 0) 1, mj (.getfield 68) 3 12 24 20, mz, mz, mi (.iload 1) 1, mi (.aload 0) 1, mj (.getfield 228) 3 12 1 71, mz, mz, mi (.iload 2) 1],
  [mi .iadd 1, mi .iastore 1, mi (.aload 0) 1, mj (.getfield 71) 3 12 25 21, mz, mz, mi (.iload 1) 1, mi (.aload 0) 1, mj (.getfield 47) 3 12 17 13, mz, mz, mi (.iload 1) 1, mi .iaload 1, mi .iastore 1, mi (.iconst 1) 1, mi .ireturn 1]]
def kX12_endSpan : List (List (Option mR)) := [[mi (.iconst 0) 1, mi (.istore 2) 1, mi (.iload 2) 1, mi (.aload 0) 1, mj (.getfield 277) 3 12 37 88, mz, mz, mi (.if_icmp .ge 38) 3, mz, mz, mi (.aload 0) 1, mj (.getfield 101) 3 12 38 31, mz, mz, mi (.iload 2) 1, mi .iaload 1],
  [mi (.iload 1) 1, mi (.if_icmp .ne 22) 3, mz, mz, mi (.aload 0) 1, mj (.getfield 107) 3 12 40 33, mz, mz, mi (.iload 2) 1, mi .iaload 1, mi (.ifCond .ge 13) 3, mz, mz, mi (.aload 0) 1, mj (.getfield 107) 3 12 40 33, mz],
  [mz, mi (.iload 2) 1, mi (.aload 0) 1, mj (.getfield 228) 3 12 1 71, mz, mz, mi .iastore 1, mi (.iinc 2 1) 3, mz, mz, mi (.goto (-40)) 3, mz, mz, mi .return_ 1]]
def kX12_broken : List (List (Option mR)) := [[mi (.aload 0) 1, mi (.iload 1) 1, mj (.invokevirtual 266) 3 191 1 84, mz, mz, mi (.ifCond .eq 12) 3, mz, mz, mi (.iload 2) 1, mi (.iconst 0) 1, mi (.iconst 1) 1, mj (.invokestatic 224) 3 180 3 70, mz, mz, mi (.ifCond .ne 5) 3, mz],
  [mz, mi (.iconst (-1)) 1, mi .ireturn 1, mi (.aload 0) 1, mj (.getfield 65) 3 12 23 19, mz, mz, mi (.iload 1) 1, mi .iaload 1, mi (.iconst 3) 1, mi (.if_icmp .ge 41) 3, mz, mz, mi (.aload 0) 1, mj (.getfield 65) 3 12 23 19, mz],
  [mz, mi (.iload 1) 1, mi .iaload 1, mi (.iconst 1) 1, mi (.if_icmp .eq 31) 3, mz, mz, mi (.aload 0) 1, mj (.getfield 65) 3 12 23 19, mz, mz, mi (.iload 1) 1, mi .iaload 1, mi (.iconst 2) 1, mi (.if_icmp .ne 7) 3, mz],
  [mz, mi (.iconst 1) 1, mi (.goto 4) 3, mz, mz, mi (.iconst 0) 1, mi (.iload 2) 1, mi (.iconst 1) 1, mi (.if_icmp .ne 7) 3, mz, mz, mi (.iconst 1) 1, mi (.goto 4) 3, mz, mz, mi (.iconst 0) 1],
  [mi (.if_icmp .ne 6) 3, mz, mz, mi (.iconst (-2)) 2, mz, mi .ireturn 1, mi (.iload 2) 1, mi (.ifCond .ne 17) 3, mz, mz, mi (.aload 0) 1, mi (.iload 1) 1, mj (.invokevirtual 280) 3 206 1 89, mz, mz, mi (.aload 0) 1],
  [mj (.getfield 65) 3 12 23 19, mz, mz, mi (.iload 1) 1, mi (.iconst 0) 1, mi .iastore 1, mi (.iconst 1) 1, mi .ireturn 1, mi (.aload 0) 1, mj (.getfield 277) 3 12 37 88, mz, mz, mi (.iconst 200) 3, mz, mz, mi (.if_icmp .ne 6) 3],
  [mz, mz, mi (.iconst (-3)) 2, mz, mi .ireturn 1, mi (.aload 0) 1, mj (.getfield 101) 3 12 38 31, mz, mz, mi (.aload 0) 1, mj (.getfield 277) 3 12 37 88, mz, mz, mi (.iload 1) 1, mi .iastore 1, mi (.aload 0) 1],
  [mj (.getfield 104) 3 12 39 32, mz, mz, mi (.aload 0) 1, mj (.getfield 277) 3 12 37 88, mz, mz, mi (.aload 0) 1, mj (.getfield 228) 3 12 1 71, mz, mz, mi .iastore 1, mi (.aload 0) 1, mj (.getfield 107) 3 12 40 33, mz, mz],
  [mi (.aload 0) 1, mj (.getfield 277) 3 12 37 88, mz, mz, mi (.iconst (-1)) 1, mi .iastore 1, mi (.aload 0) 1, mi .dup 1, mj (.getfield 277) 3 12 37 88, mz, mz, mi (.iconst 1) 1, mi .iadd 1, mj (.putfield 277) 3 12 37 88, mz, mz],
  [mi (.aload 0) 1, mj (.getfield 65) 3 12 23 19, mz, mz, mi (.iload 1) 1, mi (.iconst 2) 1, mi .iastore 1, mi (.iconst 1) 1, mi .ireturn 1]]
def kX12_gone : List (List (Option mR)) := [[mi (.aload 0) 1, mi (.iload 1) 1, mj (.invokevirtual 266) 3 191 1 84, mz, mz, mi (.ifCond .eq 12) 3, mz, mz, mi (.iload 2) 1, mi (.iconst 3) 1, mi (.iconst 4) 1, mj (.invokestatic 224) 3 180 3 70, mz, mz, mi (.ifCond .ne 5) 3, mz],
  [mz, mi (.iconst (-1)) 1, mi .ireturn 1, mi (.aload 0) 1, mj (.getfield 65) 3 12 23 19, mz, mz, mi (.iload 1) 1, mi .iaload 1, mi (.iconst 3) 1, mi (.if_icmp .ge 16) 3, mz, mz, mi (.iload 2) 1, mi (.iconst 3) 1, mi (.if_icmp .ne 14) 3],
  [mz, mz, mi (.aload 0) 1, mi (.iload 1) 1, mj (.invokevirtual 274) 3 204 1 87, mz, mz, mi (.ifCond .ne 6) 3, mz, mz, mi (.iconst (-2)) 2, mz, mi .ireturn 1, mi (.iload 2) 1, mi (.iconst 4) 1, mi (.if_icmp .ne 82) 3],
  [mz, mz, mi (.aload 0) 1, mi (.iload 1) 1, mj (.invokevirtual 280) 3 206 1 89, mz, mz, mi (.aload 0) 1, mj (.getfield 80) 3 12 28 24, mz, mz, mi (.iload 1) 1, mi (.aload 0) 1, mj (.getfield 228) 3 12 1 71, mz, mz],
  [mi .iastore 1, mi (.aload 0) 1, mj (.getfield 74) 3 12 26 22, mz, mz, mi (.iload 1) 1, mi .iaload 1, mi (.istore 3) 1, mi (.iload 3) 1, mi (.ifCond .lt 31) 3, mz, mz, mi (.aload 0) 1, mi (.iload 3) 1, mj (.invokevirtual 284) 3 236 1 90, mz],
  [mz, mi (.ifCond .eq 23) 3, mz, mz, mi (.aload 0) 1, mj (.getfield 143) 3 12 55 45, mz, mz, mi (.iload 3) 1, mi (.iconst 3) 1, mi .iastore 1, mi (.aload 0) 1, mj (.getfield 152) 3 12 58 48, mz, mz, mi (.iload 3) 1],
  [mi (.aload 0) 1, mj (.getfield 228) 3 12 1 71, mz, mz, mi .iastore 1, mi (.goto 28) 3, mz, mz, mi (.iload 3) 1, mi (.ifCond .lt 24) 3, mz, mz, mi (.aload 0) 1, mj (.getfield 143) 3 12 55 45, mz, mz],
  [mi (.iload 3) 1, mi (.iconst 0) 1, mi .iastore 1, mi (.aload 0) 1, mj (.getfield 146) 3 12 56 46, mz, mz, mi (.iload 3) 1, mi (.iconst (-1)) 1, mi .iastore 1, mi (.aload 0) 1, mj (.getfield 149) 3 12 57 47, mz, mz, mi (.iload 3) 1, mi (.iconst (-1)) 1],
  [mi .iastore 1, mi (.aload 0) 1, mj (.getfield 65) 3 12 23 19, mz, mz, mi (.iload 1) 1, mi (.iload 2) 1, mi .iastore 1, mi (.aload 0) 1, mj (.getfield 50) 3 12 18 14, mz, mz, mi (.iload 1) 1, mi (.iconst 3) 1, mi .iastore 1, mi (.aload 0) 1],
  [mj (.getfield 74) 3 12 26 22, mz, mz, mi (.iload 1) 1, mi (.iconst (-1)) 1, mi .iastore 1, mi (.iconst 1) 1, mi .ireturn 1]]
def kX12_read : List (List (Option mR)) := [[mi (.aload 0) 1, mi (.iload 1) 1, mj (.invokevirtual 266) 3 191 1 84, mz, mz, mi (.ifCond .eq 18) 3, mz, mz, mi (.iload 2) 1, mi (.aload 0) 1, mj (.getfield 47) 3 12 17 13, mz, mz, mi (.iload 1) 1, mi .iaload 1, mj (.iconst 99999) 2 0 0 80],
  [mz, mj (.invokestatic 224) 3 180 3 70, mz, mz, mi (.ifCond .ne 5) 3, mz, mz, mi (.iconst (-1)) 1, mi .ireturn 1, mi (.aload 0) 1, mj (.getfield 50) 3 12 18 14, mz, mz, mi (.iload 1) 1, mi .iaload 1, mi (.iconst 3) 1],
  [mi (.if_icmp .ne 6) 3, mz, mz, mi (.iconst (-2)) 2, mz, mi .ireturn 1, mi (.aload 0) 1, mi (.iload 1) 1, mi (.aload 0) 1, mj (.getfield 228) 3 12 1 71, mz, mz, mj (.invokevirtual 287) 3 196 2 91, mz, mz, mi (.istore 3) 1],
  [mi (.iload 3) 1, mi (.ifCond .lt 26) 3, mz, mz, mi (.aload 0) 1, mj (.getfield 95) 3 12 35 29, mz, mz, mi (.iload 3) 1, mi .iaload 1, mi (.aload 0) 1, mj (.getfield 228) 3 12 1 71, mz, mz, mi (.if_icmp .ne 13) 3, mz],
  [mz, mi (.aload 0) 1, mj (.getfield 98) 3 12 36 30, mz, mz, mi (.iload 3) 1, mi (.iload 2) 1, mi .iastore 1, mi (.goto 32) 3, mz, mz, mi (.aload 0) 1, mj (.getfield 290) 3 12 33 92, mz, mz, mi (.iconst 400) 3],
  [mz, mz, mi (.if_icmp .ne 6) 3, mz, mz, mi (.iconst (-3)) 2, mz, mi .ireturn 1, mi (.aload 0) 1, mi .dup 1, mj (.getfield 290) 3 12 33 92, mz, mz, mi (.iconst 1) 1, mi .iadd 1, mj (.putfield 290) 3 12 33 92],
  [mz, mz, mi (.aload 0) 1, mi (.iload 1) 1, mi (.iload 2) 1, mj (.invokevirtual 262) 3 195 2 83, mz, mz, mi (.aload 0) 1, mj (.getfield 47) 3 12 17 13, mz, mz, mi (.iload 1) 1, mi (.iload 2) 1, mi .iastore 1, mi (.iload 2) 1],
  [mi .ireturn 1]]
def kX12_track : List (List (Option mR)) := [[mi (.aload 0) 1, mi (.iload 1) 1, mj (.invokevirtual 266) 3 191 1 84, mz, mz, mi (.ifCond .eq 11) 3, mz, mz, mi (.aload 0) 1, mi (.iload 2) 1, mj (.invokevirtual 242) 3 183 1 76, mz, mz, mi (.ifCond .ne 5) 3, mz, mz],
  [mi (.iconst (-1)) 1, mi .ireturn 1, mi (.aload 0) 1, mj (.getfield 293) 3 12 41 93, mz, mz, mi (.iconst 300) 3, mz, mz, mi (.if_icmp .ne 6) 3, mz, mz, mi (.iconst (-3)) 2, mz, mi .ireturn 1, mi (.aload 0) 1],
  [mj (.getfield 110) 3 12 42 34, mz, mz, mi (.aload 0) 1, mj (.getfield 293) 3 12 41 93, mz, mz, mi (.iload 1) 1, mi .iastore 1, mi (.aload 0) 1, mj (.getfield 113) 3 12 43 35, mz, mz, mi (.aload 0) 1, mj (.getfield 293) 3 12 41 93, mz],
  [mz, mi (.iload 2) 1, mi .iastore 1, mi (.aload 0) 1, mj (.getfield 116) 3 12 44 36, mz, mz, mi (.aload 0) 1, mj (.getfield 293) 3 12 41 93, mz, mz, mi (.aload 0) 1, mj (.getfield 228) 3 12 1 71, mz, mz, mi .iastore 1],
  [mi (.aload 0) 1, mi .dup 1, mj (.getfield 293) 3 12 41 93, mz, mz, mi (.iconst 1) 1, mi .iadd 1, mj (.putfield 293) 3 12 41 93, mz, mz, mi (.aload 0) 1, mj (.getfield 293) 3 12 41 93, mz, mz, mi .ireturn 1]]
def kX12_theft : List (List (Option mR)) := [[mi (.aload 0) 1, mi (.iload 1) 1, mj (.invokevirtual 266) 3 191 1 84, mz, mz, mi (.ifCond .eq 12) 3, mz, mz, mi (.iload 2) 1, mi (.iconst 0) 1, mi (.iconst 2) 1, mj (.invokestatic 224) 3 180 3 70, mz, mz, mi (.ifCond .ne 5) 3, mz],
  [mz, mi (.iconst (-1)) 1, mi .ireturn 1, mi (.aload 0) 1, mj (.getfield 65) 3 12 23 19, mz, mz, mi (.iload 1) 1, mi .iaload 1, mi (.iconst 4) 1, mi (.if_icmp .eq 6) 3, mz, mz, mi (.iconst (-2)) 2, mz, mi .ireturn 1],
  [mi (.iload 2) 1, mi (.iconst 2) 1, mi (.if_icmp .ne 10) 3, mz, mz, mi (.aload 0) 1, mj (.getfield 53) 3 12 19 15, mz, mz, mi (.iload 1) 1, mi .iaload 1, mi .ireturn 1, mi (.aload 0) 1, mj (.getfield 62) 3 12 22 18, mz, mz],
  [mi (.iload 1) 1, mi .iaload 1, mi (.istore 3) 1, mi (.iconst 0) 1, mi (.istore 4) 2, mz, mi (.iload 4) 2, mz, mi (.aload 0) 1, mj (.getfield 293) 3 12 41 93, mz, mz, mi (.if_icmp .ge 88) 3, mz, mz, mi (.aload 0) 1],
  [mj (.getfield 110) 3 12 42 34, mz, mz, mi (.iload 4) 2, mz, mi .iaload 1, mi (.iload 1) 1, mi (.if_icmp .ne 71) 3, mz, mz, mi (.aload 0) 1, mj (.getfield 116) 3 12 44 36, mz, mz, mi (.iload 4) 2, mz],
  [mi .iaload 1, mi (.aload 0) 1, mj (.getfield 62) 3 12 22 18, mz, mz, mi (.iload 1) 1, mi .iaload 1, mi (.aload 0) 1, mj (.getfield 80) 3 12 28 24, mz, mz, mi (.iload 1) 1, mi .iaload 1, mj (.invokestatic 224) 3 180 3 70, mz, mz],
  [mi (.ifCond .ne 6) 3, mz, mz, mi (.goto 43) 3, mz, mz, mi (.aload 0) 1, mj (.getfield 113) 3 12 43 35, mz, mz, mi (.iload 4) 2, mz, mi .iaload 1, mi (.aload 0) 1, mj (.getfield 53) 3 12 19 15, mz],
  [mz, mi (.iload 1) 1, mi .iaload 1, mi (.if_icmp .eq 19) 3, mz, mz, mi (.iload 2) 1, mi (.ifCond .ne 7) 3, mz, mz, mi (.iload 3) 1, mi (.goto 10) 3, mz, mz, mi (.aload 0) 1, mj (.getfield 116) 3 12 44 36],
  [mz, mz, mi (.iload 4) 2, mz, mi .iaload 1, mi .ireturn 1, mi (.aload 0) 1, mj (.getfield 116) 3 12 44 36, mz, mz, mi (.iload 4) 2, mz, mi .iaload 1, mi (.istore 3) 1, mi (.iinc 4 1) 3, mz],
  [mz, mi (.goto (-91)) 3, mz, mz, mi (.iload 2) 1, mi (.ifCond .ne 7) 3, mz, mz, mi (.iload 3) 1, mi (.goto 9) 3, mz, mz, mi (.aload 0) 1, mj (.getfield 80) 3 12 28 24, mz, mz],
  [mi (.iload 1) 1, mi .iaload 1, mi .ireturn 1]]
def kX12_hours : List (List (Option mR)) := [[mi (.iload 1) 1, mi (.iconst 1) 1, mi (.iconst 240) 3, mz, mz, mj (.invokestatic 224) 3 180 3 70, mz, mz, mi (.ifCond .eq 15) 3, mz, mz, mi (.aload 0) 1, mj (.getfield 228) 3 12 1 71, mz, mz, mi (.iload 1) 1],
  [mi .iadd 1, mi (.iconst 23999) 3, mz, mz, mi (.if_icmp .le 5) 3, mz, mz, mi (.iconst (-1)) 1, mi .ireturn 1, mi (.aload 0) 1, mi .dup 1, mj (.getfield 228) 3 12 1 71, mz, mz, mi (.iload 1) 1, mi .iadd 1],
  [mj (.putfield 228) 3 12 1 71, mz, mz, mi (.iconst 0) 1, mi (.istore 2) 1, mi (.iload 2) 1, mi (.aload 0) 1, mj (.getfield 252) 3 12 15 79, mz, mz, mi (.if_icmp .ge 67) 3, mz, mz, mi (.aload 0) 1, mj (.getfield 50) 3 12 18 14, mz],
  [mz, mi (.iload 2) 1, mi .iaload 1, mi (.iconst 1) 1, mi (.if_icmp .ne 21) 3, mz, mz, mi (.aload 0) 1, mj (.getfield 228) 3 12 1 71, mz, mz, mi (.aload 0) 1, mj (.getfield 56) 3 12 20 16, mz, mz, mi (.iload 2) 1],
  [mi .iaload 1, mi (.if_icmp .lt 8) 3, mz, mz, mi (.aload 0) 1, mi (.iload 2) 1, mj (.invokevirtual 296) 3 213 1 94, mz, mz, mi (.aload 0) 1, mj (.getfield 65) 3 12 23 19, mz, mz, mi (.iload 2) 1, mi .iaload 1, mi (.iconst 1) 1],
  [mi (.if_icmp .ne 23) 3, mz, mz, mi (.aload 0) 1, mj (.getfield 228) 3 12 1 71, mz, mz, mi (.aload 0) 1, mj (.getfield 68) 3 12 24 20, mz, mz, mi (.iload 2) 1, mi .iaload 1, mi (.if_icmp .lt 10) 3, mz, mz],
  [mi (.aload 0) 1, mj (.getfield 65) 3 12 23 19, mz, mz, mi (.iload 2) 1, mi (.iconst 0) 1, mi .iastore 1, mi (.iinc 2 1) 3, mz, mz, mi (.goto (-69)) 3, mz, mz, mi (.aload 0) 1, mj (.getfield 228) 3 12 1 71, mz],
  [mz, mi .ireturn 1]]
def kX12_arrive : List (List (Option mR)) := [[mi (.aload 0) 1, mj (.getfield 50) 3 12 18 14, mz, mz, mi (.iload 1) 1, mi (.aload 0) 1, mj (.getfield 59) 3 12 21 17, mz, mz, mi (.iload 1) 1, mi .baload 1, mi (.ifCond .eq 7) 3, mz, mz, mi (.iconst 0) 1, mi (.goto 4) 3],
  [mz, mz, mi (.iconst 2) 1, mi .iastore 1, mi (.aload 0) 1, mj (.getfield 62) 3 12 22 18, mz, mz, mi (.iload 1) 1, mi (.aload 0) 1, mj (.getfield 56) 3 12 20 16, mz, mz, mi (.iload 1) 1, mi .iaload 1, mi .iastore 1],
  [mi .return_ 1]]
def kX12_load : List (List (Option mR)) := [[mi (.aload 0) 1, mi (.aload 0) 1, mj (.getfield 53) 3 12 19 15, mz, mz, mi (.iload 1) 1, mi .iaload 1, mi (.iload 2) 1, mj (.invokevirtual 235) 3 184 2 74, mz, mz, mi (.iconst 29) 2, mz, mi .iadd 1, mi (.iconst 30) 2, mz],
  [mi .idiv 1, mi (.istore 4) 2, mz, mi (.aload 0) 1, mj (.getfield 53) 3 12 19 15, mz, mz, mi (.iload 1) 1, mi (.iload 2) 1, mi .iastore 1, mi (.aload 0) 1, mj (.getfield 59) 3 12 21 17, mz, mz, mi (.iload 1) 1, mi (.iload 3) 1],
  [mi .bastore 1, mi (.aload 0) 1, mj (.getfield 50) 3 12 18 14, mz, mz, mi (.iload 1) 1, mi (.iconst 1) 1, mi .iastore 1, mi (.aload 0) 1, mj (.getfield 62) 3 12 22 18, mz, mz, mi (.iload 1) 1, mi (.aload 0) 1, mj (.getfield 228) 3 12 1 71, mz],
  [mz, mi .iastore 1, mi (.aload 0) 1, mj (.getfield 56) 3 12 20 16, mz, mz, mi (.iload 1) 1, mi (.aload 0) 1, mj (.getfield 228) 3 12 1 71, mz, mz, mi (.iload 4) 2, mz, mi .iadd 1, mi .iastore 1, mi (.iload 4) 2],
  [mz, mi (.ifCond .ne 8) 3, mz, mz, mi (.aload 0) 1, mi (.iload 1) 1, mj (.invokevirtual 296) 3 213 1 94, mz, mz, mi .return_ 1]]
def kX12_isCustomer : List (List (Option mR)) := [[mi (.iload 1) 1, mi (.iconst 0) 1, mi (.aload 0) 1, mj (.getfield 299) 3 12 45 95, mz, mz, mi (.iconst 1) 1, mi .isub 1, mj (.invokestatic 224) 3 180 3 70, mz, mz, mi .ireturn 1]]
def kX12_isOrder : List (List (Option mR)) := [[mi (.iload 1) 1, mi (.iconst 0) 1, mi (.aload 0) 1, mj (.getfield 302) 3 12 48 96, mz, mz, mi (.iconst 1) 1, mi .isub 1, mj (.invokestatic 224) 3 180 3 70, mz, mz, mi .ireturn 1]]
def kX12_customer : List (List (Option mR)) := [[mi (.aload 0) 1, mi (.iload 1) 1, mj (.invokevirtual 242) 3 183 1 76, mz, mz, mi (.ifCond .eq 14) 3, mz, mz, mi (.iload 2) 1, mi (.iconst 0) 1, mi (.iconst 255) 3, mz, mz, mj (.invokestatic 224) 3 180 3 70, mz, mz],
  [mi (.ifCond .ne 5) 3, mz, mz, mi (.iconst (-1)) 1, mi .ireturn 1, mi (.aload 0) 1, mj (.getfield 299) 3 12 45 95, mz, mz, mi (.iconst 30) 2, mz, mi (.if_icmp .ne 6) 3, mz, mz, mi (.iconst (-3)) 2, mz],
  [mi .ireturn 1, mi (.aload 0) 1, mj (.getfield 119) 3 12 46 37, mz, mz, mi (.aload 0) 1, mj (.getfield 299) 3 12 45 95, mz, mz, mi (.iload 1) 1, mi .iastore 1, mi (.aload 0) 1, mj (.getfield 122) 3 12 47 38, mz, mz, mi (.aload 0) 1],
  [mj (.getfield 299) 3 12 45 95, mz, mz, mi (.iload 2) 1, mi .iastore 1, mi (.aload 0) 1, mi .dup 1, mj (.getfield 299) 3 12 45 95, mz, mz, mi (.iconst 1) 1, mi .iadd 1, mj (.putfield 299) 3 12 45 95, mz, mz, mi (.aload 0) 1],
  [mj (.getfield 299) 3 12 45 95, mz, mz, mi (.iconst 1) 1, mi .isub 1, mi .ireturn 1]]
def kX12_order : List (List (Option mR)) := [[mi (.aload 0) 1, mi (.iload 1) 1, mj (.invokevirtual 305) 3 215 1 97, mz, mz, mi (.ifCond .eq 47) 3, mz, mz, mi (.aload 0) 1, mi (.iload 2) 1, mj (.invokevirtual 256) 3 190 1 81, mz, mz, mi (.ifCond .eq 39) 3, mz, mz],
  [mi (.iload 3) 1, mi (.aload 0) 1, mj (.getfield 228) 3 12 1 71, mz, mz, mi (.iconst 23999) 3, mz, mz, mj (.invokestatic 224) 3 180 3 70, mz, mz, mi (.ifCond .eq 25) 3, mz, mz, mi (.iload 4) 2, mz],
  [mi (.iconst 1) 1, mi (.iconst 60) 2, mz, mj (.invokestatic 224) 3 180 3 70, mz, mz, mi (.ifCond .eq 14) 3, mz, mz, mi (.iload 5) 2, mz, mi (.iconst 1) 1, mi (.iconst 24) 2, mz, mj (.invokestatic 224) 3 180 3 70, mz],
  [mz, mi (.ifCond .ne 5) 3, mz, mz, mi (.iconst (-1)) 1, mi .ireturn 1, mi (.aload 0) 1, mj (.getfield 302) 3 12 48 96, mz, mz, mi (.iconst 100) 2, mz, mi (.if_icmp .ne 6) 3, mz, mz, mi (.iconst (-3)) 2],
  [mz, mi .ireturn 1, mi (.aload 0) 1, mj (.getfield 302) 3 12 48 96, mz, mz, mi (.istore 6) 2, mz, mi (.aload 0) 1, mj (.getfield 125) 3 12 49 39, mz, mz, mi (.iload 6) 2, mz, mi (.iload 1) 1, mi .iastore 1],
  [mi (.aload 0) 1, mj (.getfield 128) 3 12 50 40, mz, mz, mi (.iload 6) 2, mz, mi (.iload 2) 1, mi .iastore 1, mi (.aload 0) 1, mj (.getfield 131) 3 12 51 41, mz, mz, mi (.iload 6) 2, mz, mi (.iload 3) 1, mi .iastore 1],
  [mi (.aload 0) 1, mj (.getfield 134) 3 12 52 42, mz, mz, mi (.iload 6) 2, mz, mi (.iload 4) 2, mz, mi .iastore 1, mi (.aload 0) 1, mj (.getfield 137) 3 12 53 43, mz, mz, mi (.iload 6) 2, mz, mi (.iload 5) 2],
  [mz, mi .iastore 1, mi (.aload 0) 1, mj (.getfield 140) 3 12 54 44, mz, mz, mi (.iload 6) 2, mz, mi (.aload 0) 1, mj (.getfield 228) 3 12 1 71, mz, mz, mi .iastore 1, mi (.aload 0) 1, mj (.getfield 146) 3 12 56 46, mz],
  [mz, mi (.iload 6) 2, mz, mi (.iconst (-1)) 1, mi .iastore 1, mi (.aload 0) 1, mj (.getfield 149) 3 12 57 47, mz, mz, mi (.iload 6) 2, mz, mi (.iconst (-1)) 1, mi .iastore 1, mi (.aload 0) 1, mj (.getfield 152) 3 12 58 48, mz],
  [mz, mi (.iload 6) 2, mz, mi (.iconst (-1)) 1, mi .iastore 1, mi (.iconst 0) 1, mi (.istore 7) 2, mz, mi (.iload 7) 2, mz, mi (.iconst 2) 1, mi (.if_icmp .ge 35) 3, mz, mz, mi (.aload 0) 1, mj (.getfield 158) 3 12 60 50],
  [mz, mz, mi (.iconst 2) 1, mi (.iload 6) 2, mz, mi .imul 1, mi (.iload 7) 2, mz, mi .iadd 1, mi (.iconst (-1)) 1, mi .iastore 1, mi (.aload 0) 1, mj (.getfield 161) 3 12 61 51, mz, mz, mi (.iconst 2) 1],
  [mi (.iload 6) 2, mz, mi .imul 1, mi (.iload 7) 2, mz, mi .iadd 1, mi (.iconst (-1)) 1, mi .iastore 1, mi (.iinc 7 1) 3, mz, mz, mi (.goto (-35)) 3, mz, mz, mi (.aload 0) 1, mi .dup 1],
  [mj (.getfield 302) 3 12 48 96, mz, mz, mi (.iconst 1) 1, mi .iadd 1, mj (.putfield 302) 3 12 48 96, mz, mz, mi (.iload 6) 2, mz, mi .ireturn 1]]
def kX12_townOfOrder : List (List (Option mR)) := [[mi (.aload 0) 1, mj (.getfield 119) 3 12 46 37, mz, mz, mi (.aload 0) 1, mj (.getfield 125) 3 12 49 39, mz, mz, mi (.iload 1) 1, mi .iaload 1, mi .iaload 1, mi .ireturn 1]]
def kX12_whyNot : List (List (Option mR)) := [[mi (.aload 0) 1, mj (.getfield 44) 3 12 16 12, mz, mz, mi (.iload 1) 1, mi .iaload 1, mi (.istore 3) 1, mi (.aload 0) 1, mj (.getfield 65) 3 12 23 19, mz, mz, mi (.iload 1) 1, mi .iaload 1, mi (.ifCond .ne 12) 3, mz, mz],
  [mi (.aload 0) 1, mj (.getfield 50) 3 12 18 14, mz, mz, mi (.iload 1) 1, mi .iaload 1, mi (.ifCond .eq 5) 3, mz, mz, mi (.iconst 1) 1, mi .ireturn 1, mi (.iload 3) 1, mi (.aload 0) 1, mj (.getfield 128) 3 12 50 40, mz, mz],
  [mi (.iload 2) 1, mi .iaload 1, mi (.if_icmp .eq 24) 3, mz, mz, mi (.aload 0) 1, mj (.getfield 38) 3 12 13 10, mz, mz, mi (.iconst 15) 2, mz, mi (.iload 3) 1, mi .imul 1, mi (.aload 0) 1, mj (.getfield 128) 3 12 50 40, mz],
  [mz, mi (.iload 2) 1, mi .iaload 1, mi .iadd 1, mi .baload 1, mi (.ifCond .ne 5) 3, mz, mz, mi (.iconst 2) 1, mi .ireturn 1, mi (.aload 0) 1, mj (.getfield 122) 3 12 47 38, mz, mz, mi (.aload 0) 1, mj (.getfield 125) 3 12 49 39],
  [mz, mz, mi (.iload 2) 1, mi .iaload 1, mi .iaload 1, mi (.aload 0) 1, mj (.getfield 32) 3 12 11 8, mz, mz, mi (.iload 3) 1, mi .iaload 1, mi .ishr 1, mi (.iconst 1) 1, mi .iand 1, mi (.ifCond .ne 5) 3, mz],
  [mz, mi (.iconst 3) 1, mi .ireturn 1, mi (.aload 0) 1, mi (.iload 1) 1, mj (.invokevirtual 308) 3 201 1 98, mz, mz, mi (.ifCond .ne 24) 3, mz, mz, mi (.aload 0) 1, mi (.iload 1) 1, mi (.aload 0) 1, mj (.getfield 134) 3 12 52 42, mz],
  [mz, mi (.iload 2) 1, mi .iaload 1, mi (.aload 0) 1, mj (.getfield 137) 3 12 53 43, mz, mz, mi (.iload 2) 1, mi .iaload 1, mi .imul 1, mj (.invokevirtual 311) 3 202 2 99, mz, mz, mi (.ifCond .eq 5) 3, mz, mz],
  [mi (.iconst 4) 1, mi .ireturn 1, mi (.aload 0) 1, mi (.aload 0) 1, mj (.getfield 53) 3 12 19 15, mz, mz, mi (.iload 1) 1, mi .iaload 1, mi (.aload 0) 1, mi (.iload 2) 1, mj (.invokevirtual 315) 3 219 1 100, mz, mz, mj (.invokevirtual 235) 3 184 2 74, mz],
  [mz, mi (.istore 4) 2, mz, mi (.iload 4) 2, mz, mj (.iconst 1000000) 2 0 0 73, mz, mi (.if_icmp .ge 25) 3, mz, mz, mi (.aload 0) 1, mj (.getfield 228) 3 12 1 71, mz, mz, mi (.iload 4) 2, mz],
  [mi (.iconst 29) 2, mz, mi .iadd 1, mi (.iconst 30) 2, mz, mi .idiv 1, mi .iadd 1, mi (.aload 0) 1, mj (.getfield 131) 3 12 51 41, mz, mz, mi (.iload 2) 1, mi .iaload 1, mi (.if_icmp .le 5) 3, mz, mz],
  [mi (.iconst 5) 1, mi .ireturn 1, mi (.aload 0) 1, mj (.getfield 74) 3 12 26 22, mz, mz, mi (.iload 1) 1, mi .iaload 1, mi (.ifCond .lt 18) 3, mz, mz, mi (.aload 0) 1, mj (.getfield 74) 3 12 26 22, mz, mz, mi (.iload 1) 1],
  [mi .iaload 1, mi (.iload 2) 1, mi (.if_icmp .eq 8) 3, mz, mz, mi (.iconst 6) 2, mz, mi (.goto 4) 3, mz, mz, mi (.iconst 0) 1, mi .ireturn 1]]
def kX12_why : List (List (Option mR)) := [[mi (.aload 0) 1, mi (.iload 1) 1, mj (.invokevirtual 266) 3 191 1 84, mz, mz, mi (.ifCond .eq 20) 3, mz, mz, mi (.aload 0) 1, mi (.iload 2) 1, mj (.invokevirtual 318) 3 216 1 101, mz, mz, mi (.ifCond .eq 12) 3, mz, mz],
  [mi (.aload 0) 1, mi (.iload 1) 1, mi (.iload 2) 1, mj (.invokevirtual 321) 3 220 2 102, mz, mz, mi (.goto 4) 3, mz, mz, mi (.iconst (-1)) 1, mi .ireturn 1]]
def kX12_list : List (List (Option mR)) := [[mi (.aload 0) 1, mi (.iload 1) 1, mj (.invokevirtual 318) 3 216 1 101, mz, mz, mi (.ifCond .ne 5) 3, mz, mz, mi (.iconst (-1)) 1, mi .ireturn 1, mi (.aload 0) 1, mj (.getfield 143) 3 12 55 45, mz, mz, mi (.iload 1) 1, mi .iaload 1],
  [mi (.ifCond .eq 6) 3, mz, mz, mi (.iconst (-2)) 2, mz, mi .ireturn 1, mi (.iconst 0) 1, mi (.istore 2) 1, mi (.iload 2) 1, mi (.aload 0) 1, mj (.getfield 324) 3 12 62 103, mz, mz, mi (.if_icmp .ge 22) 3, mz, mz],
  [mi (.aload 0) 1, mj (.getfield 164) 3 12 63 52, mz, mz, mi (.iload 2) 1, mi .iaload 1, mi (.iload 1) 1, mi (.if_icmp .ne 6) 3, mz, mz, mi (.iconst (-2)) 2, mz, mi .ireturn 1, mi (.iinc 2 1) 3, mz, mz],
  [mi (.goto (-24)) 3, mz, mz, mi (.aload 0) 1, mj (.getfield 324) 3 12 62 103, mz, mz, mi (.iconst 6) 2, mz, mi (.if_icmp .ne 6) 3, mz, mz, mi (.iconst (-3)) 2, mz, mi .ireturn 1, mi (.aload 0) 1],
  [mj (.getfield 164) 3 12 63 52, mz, mz, mi (.aload 0) 1, mj (.getfield 324) 3 12 62 103, mz, mz, mi (.iload 1) 1, mi .iastore 1, mi (.aload 0) 1, mi .dup 1, mj (.getfield 324) 3 12 62 103, mz, mz, mi (.iconst 1) 1, mi .iadd 1],
  [mj (.putfield 324) 3 12 62 103, mz, mz, mi (.aload 0) 1, mj (.getfield 324) 3 12 62 103, mz, mz, mi .ireturn 1]]
def kX12_mayHave : List (List (Option mR)) := [[mi (.aload 0) 1, mj (.getfield 167) 3 12 66 53, mz, mz, mi (.iload 2) 1, mi .baload 1, mi (.ifCond .ne 23) 3, mz, mz, mi (.aload 0) 1, mj (.getfield 177) 3 12 69 56, mz, mz, mi (.iconst 90) 2, mz, mi (.iload 1) 1],
  [mi .imul 1, mi (.iload 2) 1, mi .iadd 1, mi .laload 1, mi (.jsr_w 0) 1, mi .lcmp 1, mi (.ifCond .lt 7) 3, mz, mz, mi (.iconst 1) 1, mi (.goto 4) 3, mz, mz, mi (.iconst 0) 1, mi .ireturn 1]]
def kX12_findWorths : List (List (Option mR)) := [[mi (.iconst 0) 1, mi (.istore 1) 1, mi (.iload 1) 1, mi (.aload 0) 1, mj (.getfield 324) 3 12 62 103, mz, mz, mi (.if_icmp .ge 76) 3, mz, mz, mi (.iconst 0) 1, mi (.istore 2) 1, mi (.iload 2) 1, mi (.aload 0) 1, mj (.getfield 252) 3 12 15 79, mz],
  [mz, mi (.if_icmp .ge 60) 3, mz, mz, mi (.aload 0) 1, mj (.getfield 177) 3 12 69 56, mz, mz, mi (.iconst 90) 2, mz, mi (.iload 1) 1, mi .imul 1, mi (.iload 2) 1, mi .iadd 1, mi (.aload 0) 1, mj (.getfield 143) 3 12 55 45],
  [mz, mz, mi (.aload 0) 1, mj (.getfield 164) 3 12 63 52, mz, mz, mi (.iload 1) 1, mi .iaload 1, mi .iaload 1, mi (.ifCond .ne 26) 3, mz, mz, mi (.aload 0) 1, mi (.iload 2) 1, mi (.aload 0) 1, mj (.getfield 164) 3 12 63 52],
  [mz, mz, mi (.iload 1) 1, mi .iaload 1, mj (.invokevirtual 321) 3 220 2 102, mz, mz, mi (.ifCond .ne 12) 3, mz, mz, mi (.aload 0) 1, mi (.iload 1) 1, mi (.iload 2) 1, mj (.invokevirtual 327) 3 225 2 104, mz, mz],
  [mi (.goto 6) 3, mz, mz, mj (.jsr_w (-1)) 3 0 0 105, mz, mz, mi .lastore 1, mi (.iinc 2 1) 3, mz, mz, mi (.goto (-62)) 3, mz, mz, mi (.iinc 1 1) 3, mz, mz],
  [mi (.goto (-78)) 3, mz, mz, mi .return_ 1]]
def kX12_worthBy : List (List (Option mR)) := [[mj (.jsr_w 1000000) 3 0 0 106, mz, mz, mj (.jsr_w 10) 3 0 0 107, mz, mz, mi (.aload 0) 1, mi (.aload 0) 1, mj (.getfield 53) 3 12 19 15, mz, mz, mi (.iload 2) 1, mi .iaload 1, mi (.aload 0) 1, mi (.aload 0) 1, mj (.getfield 164) 3 12 63 52],
  [mz, mz, mi (.iload 1) 1, mi .iaload 1, mj (.invokevirtual 315) 3 219 1 100, mz, mz, mj (.invokevirtual 235) 3 184 2 74, mz, mz, mi .i2l 1, mi .lmul 1, mi .lsub 1, mi (.aload 0) 1, mj (.getfield 44) 3 12 16 12, mz],
  [mz, mi (.iload 2) 1, mi .iaload 1, mi (.aload 0) 1, mj (.getfield 128) 3 12 50 40, mz, mz, mi (.aload 0) 1, mj (.getfield 164) 3 12 63 52, mz, mz, mi (.iload 1) 1, mi .iaload 1, mi .iaload 1, mi (.if_icmp .ne 7) 3, mz],
  [mz, mi (.jsr_w 0) 1, mi (.goto 4) 3, mz, mz, mi (.jsr_w 1) 1, mi .lsub 1, mi .lreturn 1]]
def kX12_most : List (List (Option mR)) := [[mi (.aload 0) 1, mj (.getfield 324) 3 12 62 103, mz, mz, mi (.iload 1) 1, mi .isub 1, mi (.istore 2) 1, mi (.iconst 0) 1, mi (.istore 3) 1, mi (.iload 3) 1, mi (.iconst 1) 1, mi (.iload 2) 1, mi .ishl 1, mi (.if_icmp .ge 26) 3, mz, mz],
  [mi (.aload 0) 1, mj (.getfield 173) 3 12 68 55, mz, mz, mi (.iload 3) 1, mi (.iload 3) 1, mi (.ifCond .ne 7) 3, mz, mz, mi (.jsr_w 0) 1, mi (.goto 6) 3, mz, mz, mj (.jsr_w (-1)) 3 0 0 105, mz, mz],
  [mi .lastore 1, mi (.iinc 3 1) 3, mz, mz, mi (.goto (-27)) 3, mz, mz, mi (.iconst 0) 1, mi (.istore 3) 1, mi (.iload 3) 1, mi (.aload 0) 1, mj (.getfield 252) 3 12 15 79, mz, mz, mi (.if_icmp .ge 139) 3, mz],
  [mz, mi (.iconst 1) 1, mi (.iload 2) 1, mi .ishl 1, mi (.iconst 1) 1, mi .isub 1, mi (.istore 4) 2, mz, mi (.iload 4) 2, mz, mi (.ifCond .le 121) 3, mz, mz, mi (.iconst 0) 1, mi (.istore 5) 2, mz],
  [mi (.iload 5) 2, mz, mi (.iload 2) 1, mi (.if_icmp .ge 106) 3, mz, mz, mi (.iload 4) 2, mz, mi (.iload 5) 2, mz, mi .ishr 1, mi (.iconst 1) 1, mi .iand 1, mi (.ifCond .eq 90) 3, mz, mz],
  [mi (.aload 0) 1, mj (.getfield 173) 3 12 68 55, mz, mz, mi (.iload 4) 2, mz, mi (.iconst 1) 1, mi (.iload 5) 2, mz, mi .ishl 1, mi (.iconst (-1)) 1, mi .ixor 1, mi .iand 1, mi .laload 1, mi (.jsr_w 0) 1, mi .lcmp 1],
  [mi (.ifCond .lt 71) 3, mz, mz, mi (.aload 0) 1, mi (.iload 1) 1, mi (.iload 5) 2, mz, mi .iadd 1, mi (.iload 3) 1, mj (.invokevirtual 337) 3 223 2 108, mz, mz, mi (.ifCond .ne 6) 3, mz, mz, mi (.goto 56) 3],
  [mz, mz, mi (.aload 0) 1, mj (.getfield 173) 3 12 68 55, mz, mz, mi (.iload 4) 2, mz, mi (.iconst 1) 1, mi (.iload 5) 2, mz, mi .ishl 1, mi (.iconst (-1)) 1, mi .ixor 1, mi .iand 1, mi .laload 1],
  [mi (.aload 0) 1, mj (.getfield 177) 3 12 69 56, mz, mz, mi (.iconst 90) 2, mz, mi (.iload 1) 1, mi (.iload 5) 2, mz, mi .iadd 1, mi .imul 1, mi (.iload 3) 1, mi .iadd 1, mi .laload 1, mi .ladd 1, mi (.lstore 6) 2],
  [mz, mi (.lload 6) 2, mz, mi (.aload 0) 1, mj (.getfield 173) 3 12 68 55, mz, mz, mi (.iload 4) 2, mz, mi .laload 1, mi .lcmp 1, mi (.ifCond .le 12) 3, mz, mz, mi (.aload 0) 1, mj (.getfield 173) 3 12 68 55],
  [mz, mz, mi (.iload 4) 2, mz, mi (.lload 6) 2, mz, mi .lastore 1, mi (.iinc 5 1) 3, mz, mz, mi (.goto (-106)) 3, mz, mz, mi (.iinc 4 (-1)) 3, mz, mz],
  [mi (.goto (-120)) 3, mz, mz, mi (.iinc 3 1) 3, mz, mz, mi (.goto (-141)) 3, mz, mz, mi (.jsr_w 0) 1, mi (.lstore 3) 1, mi (.iconst 0) 1, mi (.istore 5) 2, mz, mi (.iload 5) 2, mz],
  [mi (.iconst 1) 1, mi (.iload 2) 1, mi .ishl 1, mi (.if_icmp .ge 33) 3, mz, mz, mi (.aload 0) 1, mj (.getfield 173) 3 12 68 55, mz, mz, mi (.iload 5) 2, mz, mi .laload 1, mi (.lload 3) 1, mi .lcmp 1, mi (.ifCond .le 13) 3],
  [mz, mz, mi (.aload 0) 1, mj (.getfield 173) 3 12 68 55, mz, mz, mi (.iload 5) 2, mz, mi .laload 1, mi (.goto 4) 3, mz, mz, mi (.lload 3) 1, mi (.lstore 3) 1, mi (.iinc 5 1) 3, mz],
  [mz, mi (.goto (-35)) 3, mz, mz, mi (.lload 3) 1, mi .lreturn 1]]
def kX12_best : List (List (Option mR)) := [[mi (.aload 0) 1, mj (.getfield 324) 3 12 62 103, mz, mz, mi (.ifCond .ne 6) 3, mz, mz, mi (.iconst (-2)) 2, mz, mi .ireturn 1, mi (.iconst 0) 1, mi (.istore 1) 1, mi (.iload 1) 1, mi (.aload 0) 1, mj (.getfield 252) 3 12 15 79, mz],
  [mz, mi (.if_icmp .ge 16) 3, mz, mz, mi (.aload 0) 1, mj (.getfield 167) 3 12 66 53, mz, mz, mi (.iload 1) 1, mi (.iconst 0) 1, mi .bastore 1, mi (.iinc 1 1) 3, mz, mz, mi (.goto (-18)) 3, mz],
  [mz, mi (.aload 0) 1, mj (.invokevirtual 340) 3 224 0 109, mz, mz, mi (.aload 0) 1, mi (.iconst 0) 1, mj (.invokevirtual 343) 3 226 1 110, mz, mz, mi (.lstore 1) 1, mi (.iconst 0) 1, mi (.istore 3) 1, mi (.aload 0) 1, mi (.iconst 0) 1, mj (.putfield 347) 3 12 65 111],
  [mz, mz, mi (.aload 0) 1, mi (.iconst 1) 1, mj (.putfield 350) 3 12 64 112, mz, mz, mi (.iconst 0) 1, mi (.istore 4) 2, mz, mi (.iload 4) 2, mz, mi (.aload 0) 1, mj (.getfield 324) 3 12 62 103, mz, mz],
  [mi (.if_icmp .ge 120) 3, mz, mz, mi (.aload 0) 1, mj (.getfield 170) 3 12 67 54, mz, mz, mi (.iload 4) 2, mz, mi (.iconst (-1)) 1, mi .iastore 1, mi (.iconst 0) 1, mi (.istore 5) 2, mz, mi (.iload 5) 2, mz],
  [mi (.aload 0) 1, mj (.getfield 252) 3 12 15 79, mz, mz, mi (.if_icmp .ge 94) 3, mz, mz, mi (.aload 0) 1, mj (.getfield 170) 3 12 67 54, mz, mz, mi (.iload 4) 2, mz, mi .iaload 1, mi (.ifCond .ge 84) 3, mz],
  [mz, mi (.aload 0) 1, mi (.iload 4) 2, mz, mi (.iload 5) 2, mz, mj (.invokevirtual 337) 3 223 2 108, mz, mz, mi (.ifCond .ne 6) 3, mz, mz, mi (.goto 64) 3, mz, mz, mi (.aload 0) 1],
  [mj (.getfield 167) 3 12 66 53, mz, mz, mi (.iload 5) 2, mz, mi (.iconst 1) 1, mi .bastore 1, mi (.aload 0) 1, mi (.iload 4) 2, mz, mi (.iload 5) 2, mz, mj (.invokevirtual 327) 3 225 2 104, mz, mz, mi (.aload 0) 1],
  [mi (.iload 4) 2, mz, mi (.iconst 1) 1, mi .iadd 1, mj (.invokevirtual 343) 3 226 1 110, mz, mz, mi .ladd 1, mi (.lload 1) 1, mi .lcmp 1, mi (.ifCond .ne 26) 3, mz, mz, mi (.aload 0) 1, mj (.getfield 170) 3 12 67 54, mz],
  [mz, mi (.iload 4) 2, mz, mi (.iload 5) 2, mz, mi .iastore 1, mi (.lload 1) 1, mi (.aload 0) 1, mi (.iload 4) 2, mz, mi (.iload 5) 2, mz, mj (.invokevirtual 327) 3 225 2 104, mz, mz, mi .lsub 1],
  [mi (.lstore 1) 1, mi (.goto 11) 3, mz, mz, mi (.aload 0) 1, mj (.getfield 167) 3 12 66 53, mz, mz, mi (.iload 5) 2, mz, mi (.iconst 0) 1, mi .bastore 1, mi (.iinc 5 1) 3, mz, mz, mi (.goto (-97)) 3],
  [mz, mz, mi (.iinc 4 1) 3, mz, mz, mi (.goto (-123)) 3, mz, mz, mi (.iconst 0) 1, mi (.istore 4) 2, mz, mi (.iload 4) 2, mz, mi (.aload 0) 1, mj (.getfield 324) 3 12 62 103, mz],
  [mz, mi (.if_icmp .ge 112) 3, mz, mz, mi (.aload 0) 1, mj (.getfield 170) 3 12 67 54, mz, mz, mi (.iload 4) 2, mz, mi .iaload 1, mi (.ifCond .ge 6) 3, mz, mz, mi (.goto 93) 3, mz],
  [mz, mi (.iinc 3 1) 3, mz, mz, mi (.aload 0) 1, mi .dup 1, mj (.getfield 347) 3 12 65 111, mz, mz, mi (.aload 0) 1, mi (.aload 0) 1, mj (.getfield 53) 3 12 19 15, mz, mz, mi (.aload 0) 1, mj (.getfield 170) 3 12 67 54],
  [mz, mz, mi (.iload 4) 2, mz, mi .iaload 1, mi .iaload 1, mi (.aload 0) 1, mi (.aload 0) 1, mj (.getfield 164) 3 12 63 52, mz, mz, mi (.iload 4) 2, mz, mi .iaload 1, mj (.invokevirtual 315) 3 219 1 100, mz],
  [mz, mj (.invokevirtual 235) 3 184 2 74, mz, mz, mi .iadd 1, mj (.putfield 347) 3 12 65 111, mz, mz, mi (.aload 0) 1, mj (.getfield 143) 3 12 55 45, mz, mz, mi (.aload 0) 1, mj (.getfield 164) 3 12 63 52, mz, mz],
  [mi (.iload 4) 2, mz, mi .iaload 1, mi (.iconst 1) 1, mi .iastore 1, mi (.aload 0) 1, mj (.getfield 146) 3 12 56 46, mz, mz, mi (.aload 0) 1, mj (.getfield 164) 3 12 63 52, mz, mz, mi (.iload 4) 2, mz, mi .iaload 1],
  [mi (.aload 0) 1, mj (.getfield 170) 3 12 67 54, mz, mz, mi (.iload 4) 2, mz, mi .iaload 1, mi .iastore 1, mi (.aload 0) 1, mj (.getfield 74) 3 12 26 22, mz, mz, mi (.aload 0) 1, mj (.getfield 170) 3 12 67 54, mz, mz],
  [mi (.iload 4) 2, mz, mi .iaload 1, mi (.aload 0) 1, mj (.getfield 164) 3 12 63 52, mz, mz, mi (.iload 4) 2, mz, mi .iaload 1, mi .iastore 1, mi (.iinc 4 1) 3, mz, mz, mi (.goto (-115)) 3, mz],
  [mz, mi (.aload 0) 1, mi (.iconst 0) 1, mj (.putfield 324) 3 12 62 103, mz, mz, mi (.iload 3) 1, mi .ireturn 1]]
def kX12_miles : List (List (Option mR)) := [[mi (.aload 0) 1, mj (.getfield 350) 3 12 64 112, mz, mz, mi (.ifCond .eq 10) 3, mz, mz, mi (.aload 0) 1, mj (.getfield 347) 3 12 65 111, mz, mz, mi (.goto 4) 3, mz, mz, mi (.iconst (-1)) 1, mi .ireturn 1]]
def kX12_isPromised : List (List (Option mR)) := [[mi (.aload 0) 1, mj (.getfield 74) 3 12 26 22, mz, mz, mi (.iload 1) 1, mi .iaload 1, mi (.ifCond .lt 22) 3, mz, mz, mi (.aload 0) 1, mj (.getfield 143) 3 12 55 45, mz, mz, mi (.aload 0) 1, mj (.getfield 74) 3 12 26 22, mz],
  [mz, mi (.iload 1) 1, mi .iaload 1, mi .iaload 1, mi (.iconst 1) 1, mi (.if_icmp .ne 7) 3, mz, mz, mi (.iconst 1) 1, mi (.goto 4) 3, mz, mz, mi (.iconst 0) 1, mi .ireturn 1]]
def kX12_stop : List (List (Option mR)) := [[mi (.aload 0) 1, mi (.iload 1) 1, mj (.invokevirtual 266) 3 191 1 84, mz, mz, mi (.ifCond .ne 5) 3, mz, mz, mi (.iconst (-1)) 1, mi .ireturn 1, mi (.aload 0) 1, mi (.iload 1) 1, mj (.invokevirtual 354) 3 229 1 113, mz, mz, mi (.ifCond .ne 6) 3],
  [mz, mz, mi (.iconst (-2)) 2, mz, mi .ireturn 1, mi (.iconst 0) 1, mi (.istore 2) 1, mi (.iload 2) 1, mi (.aload 0) 1, mj (.getfield 357) 3 12 70 114, mz, mz, mi (.if_icmp .ge 42) 3, mz, mz, mi (.aload 0) 1],
  [mj (.getfield 180) 3 12 71 57, mz, mz, mi (.iload 2) 1, mi .iaload 1, mi (.iload 1) 1, mi (.if_icmp .eq 23) 3, mz, mz, mi (.aload 0) 1, mj (.getfield 53) 3 12 19 15, mz, mz, mi (.aload 0) 1, mj (.getfield 180) 3 12 71 57, mz],
  [mz, mi (.iload 2) 1, mi .iaload 1, mi .iaload 1, mi (.aload 0) 1, mj (.getfield 53) 3 12 19 15, mz, mz, mi (.iload 1) 1, mi .iaload 1, mi (.if_icmp .eq 6) 3, mz, mz, mi (.iconst (-2)) 2, mz, mi .ireturn 1],
  [mi (.iinc 2 1) 3, mz, mz, mi (.goto (-44)) 3, mz, mz, mi (.aload 0) 1, mj (.getfield 357) 3 12 70 114, mz, mz, mi (.iconst 5) 1, mi (.if_icmp .ne 6) 3, mz, mz, mi (.iconst (-3)) 2, mz],
  [mi .ireturn 1, mi (.aload 0) 1, mj (.getfield 180) 3 12 71 57, mz, mz, mi (.aload 0) 1, mj (.getfield 357) 3 12 70 114, mz, mz, mi (.iload 1) 1, mi .iastore 1, mi (.aload 0) 1, mi .dup 1, mj (.getfield 357) 3 12 70 114, mz, mz],
  [mi (.iconst 1) 1, mi .iadd 1, mj (.putfield 357) 3 12 70 114, mz, mz, mi (.aload 0) 1, mj (.getfield 357) 3 12 70 114, mz, mz, mi .ireturn 1]]
def kX12_milesOfRow : List (List (Option mR)) := [[mi (.aload 0) 1, mj (.getfield 360) 3 12 73 115, mz, mz, mi (.istore 2) 1, mi (.iconst 0) 1, mi (.istore 3) 1, mi (.iconst 0) 1, mi (.istore 4) 2, mz, mi (.iload 4) 2, mz, mi (.iload 1) 1, mi (.if_icmp .ge 45) 3, mz, mz],
  [mi (.aload 0) 1, mi (.aload 0) 1, mj (.getfield 74) 3 12 26 22, mz, mz, mi (.aload 0) 1, mj (.getfield 180) 3 12 71 57, mz, mz, mi (.aload 0) 1, mj (.getfield 183) 3 12 72 58, mz, mz, mi (.iload 4) 2, mz, mi .iaload 1],
  [mi .iaload 1, mi .iaload 1, mj (.invokevirtual 315) 3 219 1 100, mz, mz, mi (.istore 5) 2, mz, mi (.iload 3) 1, mi (.aload 0) 1, mi (.iload 2) 1, mi (.iload 5) 2, mz, mj (.invokevirtual 235) 3 184 2 74, mz, mz, mi .iadd 1],
  [mi (.istore 3) 1, mi (.iload 5) 2, mz, mi (.istore 2) 1, mi (.iinc 4 1) 3, mz, mz, mi (.goto (-45)) 3, mz, mz, mi (.iload 3) 1, mi (.aload 0) 1, mi (.iload 2) 1, mi (.aload 0) 1, mj (.getfield 360) 3 12 73 115, mz],
  [mz, mj (.invokevirtual 235) 3 184 2 74, mz, mz, mi .iadd 1, mi (.istore 3) 1, mi (.iload 3) 1, mj (.iconst 1000000) 2 0 0 73, mz, mi (.if_icmp .le 8) 3, mz, mz, mj (.iconst 1000000) 2 0 0 73, mz, mi (.goto 4) 3, mz],
  [mz, mi (.iload 3) 1, mi .ireturn 1]]
def kX12_isUsed : List (List (Option mR)) := [[mi (.iconst 0) 1, mi (.istore 2) 1, mi (.iload 2) 1, mi (.iload 1) 1, mi (.if_icmp .ge 26) 3, mz, mz, mi (.aload 0) 1, mj (.getfield 183) 3 12 72 58, mz, mz, mi (.iload 2) 1, mi .iaload 1, mi (.aload 0) 1, mj (.getfield 183) 3 12 72 58, mz],
  [mz, mi (.iload 1) 1, mi .iaload 1, mi (.if_icmp .ne 5) 3, mz, mz, mi (.iconst 1) 1, mi .ireturn 1, mi (.iinc 2 1) 3, mz, mz, mi (.goto (-25)) 3, mz, mz, mi (.iconst 0) 1, mi .ireturn 1]]
def kX12_round : List (List (Option mR)) := [[mi (.iconst 0) 1, mi (.istore 1) 1, mi (.iconst 0) 1, mi (.istore 2) 1, mi (.iconst 0) 1, mi (.istore 3) 1, mi (.iload 3) 1, mi (.aload 0) 1, mj (.getfield 357) 3 12 70 114, mz, mz, mi (.if_icmp .ge 119) 3, mz, mz, mi (.aload 0) 1, mi (.aload 0) 1],
  [mj (.getfield 180) 3 12 71 57, mz, mz, mi (.iload 3) 1, mi .iaload 1, mj (.invokevirtual 354) 3 229 1 113, mz, mz, mi (.ifCond .ne 6) 3, mz, mz, mi (.goto 97) 3, mz, mz, mi (.aload 0) 1, mj (.getfield 180) 3 12 71 57],
  [mz, mz, mi (.iload 3) 1, mi .iaload 1, mi (.istore 4) 2, mz, mi (.iload 1) 1, mi (.ifCond .ne 14) 3, mz, mz, mi (.aload 0) 1, mi (.aload 0) 1, mj (.getfield 53) 3 12 19 15, mz, mz, mi (.iload 4) 2],
  [mz, mi .iaload 1, mj (.putfield 360) 3 12 73 115, mz, mz, mi (.iload 1) 1, mi (.istore 5) 2, mz, mi (.iload 5) 2, mz, mi (.ifCond .le 39) 3, mz, mz, mi (.aload 0) 1, mj (.getfield 180) 3 12 71 57, mz],
  [mz, mi (.iload 5) 2, mz, mi (.iconst 1) 1, mi .isub 1, mi .iaload 1, mi (.iload 4) 2, mz, mi (.if_icmp .le 25) 3, mz, mz, mi (.aload 0) 1, mj (.getfield 180) 3 12 71 57, mz, mz, mi (.iload 5) 2],
  [mz, mi (.aload 0) 1, mj (.getfield 180) 3 12 71 57, mz, mz, mi (.iload 5) 2, mz, mi (.iconst 1) 1, mi .isub 1, mi .iaload 1, mi .iastore 1, mi (.iinc 5 (-1)) 3, mz, mz, mi (.goto (-38)) 3, mz],
  [mz, mi (.aload 0) 1, mj (.getfield 180) 3 12 71 57, mz, mz, mi (.iload 5) 2, mz, mi (.iload 4) 2, mz, mi .iastore 1, mi (.iload 2) 1, mi (.aload 0) 1, mj (.getfield 23) 3 12 8 5, mz, mz, mi (.aload 0) 1],
  [mj (.getfield 44) 3 12 16 12, mz, mz, mi (.iload 4) 2, mz, mi .iaload 1, mi .iaload 1, mi .iadd 1, mi (.istore 2) 1, mi (.iinc 1 1) 3, mz, mz, mi (.iinc 3 1) 3, mz, mz, mi (.goto (-121)) 3],
  [mz, mz, mi (.aload 0) 1, mi (.iconst 0) 1, mj (.putfield 357) 3 12 70 114, mz, mz, mi (.iload 1) 1, mi (.ifCond .ne 6) 3, mz, mz, mi (.iconst (-2)) 2, mz, mi .ireturn 1, mi (.iload 2) 1, mi (.iconst 260) 3],
  [mz, mz, mi (.if_icmp .le 6) 3, mz, mz, mi (.iconst (-4)) 2, mz, mi .ireturn 1, mj (.iconst 1000000) 2 0 0 73, mz, mi (.istore 3) 1, mi (.iconst 0) 1, mi (.istore 4) 2, mz, mi (.aload 0) 1, mj (.getfield 183) 3 12 72 58],
  [mz, mz, mi (.iconst 0) 1, mi (.iconst (-1)) 1, mi .iastore 1, mi (.iload 4) 2, mz, mi (.ifCond .lt 126) 3, mz, mz, mi (.aload 0) 1, mj (.getfield 183) 3 12 72 58, mz, mz, mi (.iload 4) 2, mz],
  [mi .dup2 1, mi .iaload 1, mi (.iconst 1) 1, mi .iadd 1, mi .iastore 1, mi (.aload 0) 1, mj (.getfield 183) 3 12 72 58, mz, mz, mi (.iload 4) 2, mz, mi .iaload 1, mi (.iload 1) 1, mi (.if_icmp .ne 9) 3, mz, mz],
  [mi (.iinc 4 (-1)) 3, mz, mz, mi (.goto (-30)) 3, mz, mz, mi (.aload 0) 1, mi (.iload 4) 2, mz, mj (.invokevirtual 363) 3 232 1 116, mz, mz, mi (.ifCond .eq 6) 3, mz, mz, mi (.goto (-42)) 3],
  [mz, mz, mi (.iload 4) 2, mz, mi (.iload 1) 1, mi (.iconst 1) 1, mi .isub 1, mi (.if_icmp .ge 17) 3, mz, mz, mi (.iinc 4 1) 3, mz, mz, mi (.aload 0) 1, mj (.getfield 183) 3 12 72 58, mz],
  [mz, mi (.iload 4) 2, mz, mi (.iconst (-1)) 1, mi .iastore 1, mi (.goto (-64)) 3, mz, mz, mi (.aload 0) 1, mi (.iload 1) 1, mj (.invokevirtual 366) 3 231 1 117, mz, mz, mi (.istore 5) 2, mz, mi (.iload 5) 2],
  [mz, mi (.iload 3) 1, mi (.if_icmp .lt 6) 3, mz, mz, mi (.goto (-80)) 3, mz, mz, mi (.iload 5) 2, mz, mi (.istore 3) 1, mi (.aload 0) 1, mi (.iload 1) 1, mj (.putfield 369) 3 12 74 118, mz, mz],
  [mi (.iconst 0) 1, mi (.istore 6) 2, mz, mi (.iload 6) 2, mz, mi (.iload 1) 1, mi (.if_icmp .ge 28) 3, mz, mz, mi (.aload 0) 1, mj (.getfield 186) 3 12 75 59, mz, mz, mi (.iload 6) 2, mz, mi (.aload 0) 1],
  [mj (.getfield 180) 3 12 71 57, mz, mz, mi (.aload 0) 1, mj (.getfield 183) 3 12 72 58, mz, mz, mi (.iload 6) 2, mz, mi .iaload 1, mi .iaload 1, mi .iastore 1, mi (.iinc 6 1) 3, mz, mz, mi (.goto (-28)) 3],
  [mz, mz, mi (.goto (-125)) 3, mz, mz, mi (.iload 3) 1, mj (.iconst 1000000) 2 0 0 73, mz, mi (.if_icmp .lt 8) 3, mz, mz, mi (.iconst (-3)) 2, mz, mi (.goto 4) 3, mz, mz],
  [mi (.iload 3) 1, mi .ireturn 1]]
def kX12_stopped : List (List (Option mR)) := [[mi (.iload 1) 1, mi (.iconst 0) 1, mi (.aload 0) 1, mj (.getfield 369) 3 12 74 118, mz, mz, mi (.iconst 1) 1, mi .isub 1, mj (.invokestatic 224) 3 180 3 70, mz, mz, mi (.ifCond .eq 12) 3, mz, mz, mi (.aload 0) 1, mj (.getfield 186) 3 12 75 59],
  [mz, mz, mi (.iload 1) 1, mi .iaload 1, mi (.goto 4) 3, mz, mz, mi (.iconst (-1)) 1, mi .ireturn 1]]
def kX12_send : List (List (Option mR)) := [[mi (.aload 0) 1, mi (.iload 1) 1, mj (.invokevirtual 318) 3 216 1 101, mz, mz, mi (.ifCond .ne 5) 3, mz, mz, mi (.iconst (-1)) 1, mi .ireturn 1, mi (.aload 0) 1, mj (.getfield 143) 3 12 55 45, mz, mz, mi (.iload 1) 1, mi .iaload 1],
  [mi (.iconst 1) 1, mi (.if_icmp .ne 17) 3, mz, mz, mi (.aload 0) 1, mj (.getfield 65) 3 12 23 19, mz, mz, mi (.aload 0) 1, mj (.getfield 146) 3 12 56 46, mz, mz, mi (.iload 1) 1, mi .iaload 1, mi .iaload 1, mi (.ifCond .eq 6) 3],
  [mz, mz, mi (.iconst (-2)) 2, mz, mi .ireturn 1, mi (.aload 0) 1, mj (.getfield 146) 3 12 56 46, mz, mz, mi (.iload 1) 1, mi .iaload 1, mi (.istore 2) 1, mi (.aload 0) 1, mi (.iload 2) 1, mi (.aload 0) 1, mi (.iload 1) 1],
  [mj (.invokevirtual 315) 3 219 1 100, mz, mz, mi (.iconst 0) 1, mj (.invokevirtual 372) 3 214 3 119, mz, mz, mi (.aload 0) 1, mj (.getfield 77) 3 12 27 23, mz, mz, mi (.iload 2) 1, mi (.iload 1) 1, mi .iastore 1, mi (.aload 0) 1, mj (.getfield 143) 3 12 55 45],
  [mz, mz, mi (.iload 1) 1, mi (.iconst 2) 1, mi .iastore 1, mi (.aload 0) 1, mj (.getfield 149) 3 12 57 47, mz, mz, mi (.iload 1) 1, mi (.aload 0) 1, mj (.getfield 56) 3 12 20 16, mz, mz, mi (.iload 2) 1, mi .iaload 1],
  [mi (.aload 0) 1, mj (.getfield 131) 3 12 51 41, mz, mz, mi (.iload 1) 1, mi .iaload 1, mi (.if_icmp .le 12) 3, mz, mz, mi (.aload 0) 1, mj (.getfield 56) 3 12 20 16, mz, mz, mi (.iload 2) 1, mi .iaload 1, mi (.goto 9) 3],
  [mz, mz, mi (.aload 0) 1, mj (.getfield 131) 3 12 51 41, mz, mz, mi (.iload 1) 1, mi .iaload 1, mi .iastore 1, mi (.aload 0) 1, mj (.getfield 56) 3 12 20 16, mz, mz, mi (.iload 2) 1, mi .iaload 1, mi .ireturn 1]]
def kX12_hasBegun : List (List (Option mR)) := [[mi (.aload 0) 1, mj (.getfield 143) 3 12 55 45, mz, mz, mi (.iload 1) 1, mi .iaload 1, mi (.iconst 3) 1, mi (.if_icmp .eq 26) 3, mz, mz, mi (.aload 0) 1, mj (.getfield 143) 3 12 55 45, mz, mz, mi (.iload 1) 1, mi .iaload 1],
  [mi (.iconst 2) 1, mi (.if_icmp .ne 20) 3, mz, mz, mi (.aload 0) 1, mj (.getfield 228) 3 12 1 71, mz, mz, mi (.aload 0) 1, mj (.getfield 149) 3 12 57 47, mz, mz, mi (.iload 1) 1, mi .iaload 1, mi (.if_icmp .lt 7) 3, mz],
  [mz, mi (.iconst 1) 1, mi (.goto 4) 3, mz, mz, mi (.iconst 0) 1, mi .ireturn 1]]
def kX12_fetch : List (List (Option mR)) := [[mi (.aload 0) 1, mi (.iload 1) 1, mj (.invokevirtual 318) 3 216 1 101, mz, mz, mi (.ifCond .eq 20) 3, mz, mz, mi (.aload 0) 1, mi (.iload 2) 1, mj (.invokevirtual 242) 3 183 1 76, mz, mz, mi (.ifCond .eq 12) 3, mz, mz],
  [mi (.aload 0) 1, mj (.getfield 7) 3 12 3 1, mz, mz, mi (.iload 2) 1, mi .baload 1, mi (.ifCond .ne 5) 3, mz, mz, mi (.iconst (-1)) 1, mi .ireturn 1, mi (.aload 0) 1, mj (.getfield 143) 3 12 55 45, mz, mz, mi (.iload 1) 1],
  [mi .iaload 1, mi (.iconst 2) 1, mi (.if_icmp .ne 26) 3, mz, mz, mi (.aload 0) 1, mi (.iload 1) 1, mj (.invokevirtual 284) 3 236 1 90, mz, mz, mi (.ifCond .eq 18) 3, mz, mz, mi (.aload 0) 1, mi (.aload 0) 1, mi (.iload 1) 1],
  [mj (.invokevirtual 315) 3 219 1 100, mz, mz, mi (.iload 2) 1, mj (.invokevirtual 235) 3 184 2 74, mz, mz, mj (.iconst 1000000) 2 0 0 73, mz, mi (.if_icmp .lt 6) 3, mz, mz, mi (.iconst (-2)) 2, mz, mi .ireturn 1, mi (.aload 0) 1],
  [mj (.getfield 146) 3 12 56 46, mz, mz, mi (.iload 1) 1, mi .iaload 1, mi (.istore 3) 1, mi (.aload 0) 1, mj (.getfield 143) 3 12 55 45, mz, mz, mi (.iload 1) 1, mi (.iconst 3) 1, mi .iastore 1, mi (.aload 0) 1, mj (.getfield 152) 3 12 58 48, mz],
  [mz, mi (.iload 1) 1, mi (.aload 0) 1, mj (.getfield 228) 3 12 1 71, mz, mz, mi .iastore 1, mi (.aload 0) 1, mj (.getfield 74) 3 12 26 22, mz, mz, mi (.iload 3) 1, mi (.iconst (-1)) 1, mi .iastore 1, mi (.aload 0) 1, mi (.iload 3) 1],
  [mi (.iload 2) 1, mi (.iconst 1) 1, mj (.invokevirtual 372) 3 214 3 119, mz, mz, mi (.aload 0) 1, mj (.getfield 56) 3 12 20 16, mz, mz, mi (.iload 3) 1, mi .iaload 1, mi .ireturn 1]]
def kX12_off : List (List (Option mR)) := [[mi (.aload 0) 1, mi (.iload 1) 1, mj (.invokevirtual 318) 3 216 1 101, mz, mz, mi (.ifCond .ne 5) 3, mz, mz, mi (.iconst (-1)) 1, mi .ireturn 1, mi (.aload 0) 1, mj (.getfield 143) 3 12 55 45, mz, mz, mi (.iload 1) 1, mi .iaload 1],
  [mi (.iconst 1) 1, mi (.if_icmp .le 6) 3, mz, mz, mi (.iconst (-2)) 2, mz, mi .ireturn 1, mi (.aload 0) 1, mj (.getfield 143) 3 12 55 45, mz, mz, mi (.iload 1) 1, mi .iaload 1, mi (.iconst 1) 1, mi (.if_icmp .ne 15) 3, mz],
  [mz, mi (.aload 0) 1, mj (.getfield 74) 3 12 26 22, mz, mz, mi (.aload 0) 1, mj (.getfield 146) 3 12 56 46, mz, mz, mi (.iload 1) 1, mi .iaload 1, mi (.iconst (-1)) 1, mi .iastore 1, mi (.aload 0) 1, mj (.getfield 146) 3 12 56 46, mz],
  [mz, mi (.iload 1) 1, mi (.iconst (-1)) 1, mi .iastore 1, mi (.aload 0) 1, mj (.getfield 143) 3 12 55 45, mz, mz, mi (.iload 1) 1, mi (.iconst 4) 1, mi .iastore 1, mi (.iconst 1) 1, mi .ireturn 1]]
def kX12_ofOrder : List (List (Option mR)) := [[mi (.aload 0) 1, mi (.iload 1) 1, mj (.invokevirtual 318) 3 216 1 101, mz, mz, mi (.ifCond .ne 7) 3, mz, mz, mj (.iconst (-2000000000)) 3 0 0 86, mz, mz, mi .ireturn 1, mi (.iload 2) 1, mi (.tableswitch 125 0 9 #[55, 62, 69, 76, 83, 90, 97, 104, 111, 118]) 55, mz, mz],
  [mz, mz, mz, mz, mz, mz, mz, mz, mz, mz, mz, mz, mz, mz, mz, mz],
  [mz, mz, mz, mz, mz, mz, mz, mz, mz, mz, mz, mz, mz, mz, mz, mz],
  [mz, mz, mz, mz, mz, mz, mz, mz, mz, mz, mz, mz, mz, mz, mz, mz],
  [mz, mz, mz, mz, mi (.aload 0) 1, mj (.getfield 125) 3 12 49 39, mz, mz, mi (.iload 1) 1, mi .iaload 1, mi .ireturn 1, mi (.aload 0) 1, mj (.getfield 128) 3 12 50 40, mz, mz, mi (.iload 1) 1],
  [mi .iaload 1, mi .ireturn 1, mi (.aload 0) 1, mj (.getfield 131) 3 12 51 41, mz, mz, mi (.iload 1) 1, mi .iaload 1, mi .ireturn 1, mi (.aload 0) 1, mj (.getfield 134) 3 12 52 42, mz, mz, mi (.iload 1) 1, mi .iaload 1, mi .ireturn 1],
  [mi (.aload 0) 1, mj (.getfield 137) 3 12 53 43, mz, mz, mi (.iload 1) 1, mi .iaload 1, mi .ireturn 1, mi (.aload 0) 1, mj (.getfield 143) 3 12 55 45, mz, mz, mi (.iload 1) 1, mi .iaload 1, mi .ireturn 1, mi (.aload 0) 1, mj (.getfield 146) 3 12 56 46],
  [mz, mz, mi (.iload 1) 1, mi .iaload 1, mi .ireturn 1, mi (.aload 0) 1, mj (.getfield 149) 3 12 57 47, mz, mz, mi (.iload 1) 1, mi .iaload 1, mi .ireturn 1, mi (.aload 0) 1, mj (.getfield 152) 3 12 58 48, mz, mz],
  [mi (.iload 1) 1, mi .iaload 1, mi .ireturn 1, mi (.aload 0) 1, mj (.getfield 140) 3 12 54 44, mz, mz, mi (.iload 1) 1, mi .iaload 1, mi .ireturn 1, mj (.iconst (-2000000000)) 3 0 0 86, mz, mz, mi .ireturn 1]]
def kX12_endOf : List (List (Option mR)) := [[mi (.aload 0) 1, mj (.getfield 143) 3 12 55 45, mz, mz, mi (.iload 1) 1, mi .iaload 1, mi (.iconst 3) 1, mi (.if_icmp .ne 12) 3, mz, mz, mi (.aload 0) 1, mj (.getfield 152) 3 12 58 48, mz, mz, mi (.iload 1) 1, mi .iaload 1],
  [mi (.goto 7) 3, mz, mz, mi (.aload 0) 1, mj (.getfield 228) 3 12 1 71, mz, mz, mi .ireturn 1]]
def kX12_daysOf : List (List (Option mR)) := [[mi (.aload 0) 1, mi (.iload 1) 1, mj (.invokevirtual 376) 3 240 1 120, mz, mz, mi (.aload 0) 1, mj (.getfield 149) 3 12 57 47, mz, mz, mi (.iload 1) 1, mi .iaload 1, mi .isub 1, mi (.iconst 23) 2, mz, mi .iadd 1, mi (.iconst 24) 2],
  [mz, mi .idiv 1, mi .ireturn 1]]
def kX12_said : List (List (Option mR)) := [[mi (.aload 0) 1, mi (.iload 1) 1, mj (.invokevirtual 318) 3 216 1 101, mz, mz, mi (.ifCond .eq 22) 3, mz, mz, mi (.iload 2) 1, mi (.iconst 0) 1, mi (.iconst 59) 2, mz, mj (.invokestatic 224) 3 180 3 70, mz, mz, mi (.ifCond .eq 12) 3],
  [mz, mz, mi (.iload 3) 1, mi (.iconst 0) 1, mi (.iconst 1) 1, mj (.invokestatic 224) 3 180 3 70, mz, mz, mi (.ifCond .ne 5) 3, mz, mz, mi (.iconst (-1)) 1, mi .ireturn 1, mi (.aload 0) 1, mi (.iload 1) 1, mj (.invokevirtual 284) 3 236 1 90],
  [mz, mz, mi (.ifCond .ne 6) 3, mz, mz, mi (.iconst (-2)) 2, mz, mi .ireturn 1, mi (.aload 0) 1, mj (.getfield 155) 3 12 59 49, mz, mz, mi (.iconst 60) 2, mz, mi (.iload 1) 1, mi .imul 1],
  [mi (.iload 2) 1, mi .iadd 1, mi (.iload 3) 1, mi (.iconst 1) 1, mi .iadd 1, mi .iastore 1, mi (.iconst 1) 1, mi .ireturn 1]]
def kX12_dayIs : List (List (Option mR)) := [[mi (.aload 0) 1, mj (.getfield 146) 3 12 56 46, mz, mz, mi (.iload 1) 1, mi .iaload 1, mi (.istore 3) 1, mi (.aload 0) 1, mj (.getfield 149) 3 12 57 47, mz, mz, mi (.iload 1) 1, mi .iaload 1, mi (.iconst 24) 2, mz, mi (.iload 2) 1],
  [mi .imul 1, mi .iadd 1, mi (.istore 4) 2, mz, mi (.iload 4) 2, mz, mi (.iconst 24) 2, mz, mi .iadd 1, mi (.aload 0) 1, mi (.iload 1) 1, mj (.invokevirtual 376) 3 240 1 120, mz, mz, mi (.if_icmp .ge 11) 3, mz],
  [mz, mi (.iload 4) 2, mz, mi (.iconst 24) 2, mz, mi .iadd 1, mi (.goto 8) 3, mz, mz, mi (.aload 0) 1, mi (.iload 1) 1, mj (.invokevirtual 376) 3 240 1 120, mz, mz, mi (.istore 5) 2, mz],
  [mi (.aload 0) 1, mi (.iload 3) 1, mi (.iload 4) 2, mz, mj (.invokevirtual 379) 3 197 2 121, mz, mz, mi (.istore 6) 2, mz, mi (.aload 0) 1, mi (.iload 3) 1, mi (.iload 5) 2, mz, mj (.invokevirtual 287) 3 196 2 91, mz, mz],
  [mi (.istore 7) 2, mz, mi (.iload 6) 2, mz, mi (.ifCond .lt 46) 3, mz, mz, mi (.iload 7) 2, mz, mi (.ifCond .lt 41) 3, mz, mz, mi (.iload 6) 2, mz, mi (.iload 7) 2, mz],
  [mi (.if_icmp .ge 34) 3, mz, mz, mi (.aload 0) 1, mj (.getfield 95) 3 12 35 29, mz, mz, mi (.iload 7) 2, mz, mi .iaload 1, mi (.iload 4) 2, mz, mi (.if_icmp .lt 22) 3, mz, mz, mi (.aload 0) 1],
  [mj (.getfield 98) 3 12 36 30, mz, mz, mi (.iload 6) 2, mz, mi .iaload 1, mi (.aload 0) 1, mj (.getfield 98) 3 12 36 30, mz, mz, mi (.iload 7) 2, mz, mi .iaload 1, mi (.if_icmp .eq 5) 3, mz, mz],
  [mi (.iconst 1) 1, mi .ireturn 1, mi (.aload 0) 1, mi (.iload 3) 1, mi (.iload 4) 2, mz, mj (.invokevirtual 287) 3 196 2 91, mz, mz, mi (.istore 8) 2, mz, mi (.aload 0) 1, mi (.iload 3) 1, mi (.iload 5) 2, mz, mj (.invokevirtual 379) 3 197 2 121],
  [mz, mz, mi (.istore 9) 2, mz, mi (.iload 8) 2, mz, mi (.ifCond .lt 27) 3, mz, mz, mi (.iload 9) 2, mz, mi (.ifCond .lt 22) 3, mz, mz, mi (.aload 0) 1, mj (.getfield 98) 3 12 36 30],
  [mz, mz, mi (.iload 8) 2, mz, mi .iaload 1, mi (.aload 0) 1, mj (.getfield 98) 3 12 36 30, mz, mz, mi (.iload 9) 2, mz, mi .iaload 1, mi (.if_icmp .ne 5) 3, mz, mz, mi (.iconst 0) 1],
  [mi .ireturn 1, mi (.iload 2) 1, mi (.iconst 60) 2, mz, mi (.if_icmp .ge 22) 3, mz, mz, mi (.aload 0) 1, mj (.getfield 155) 3 12 59 49, mz, mz, mi (.iconst 60) 2, mz, mi (.iload 1) 1, mi .imul 1, mi (.iload 2) 1],
  [mi .iadd 1, mi .iaload 1, mi (.iconst 1) 1, mi (.if_icmp .ne 7) 3, mz, mz, mi (.iconst 3) 1, mi (.goto 4) 3, mz, mz, mi (.iconst 2) 1, mi .ireturn 1]]
def kX12_worked : List (List (Option mR)) := [[mi (.iconst 0) 1, mi (.istore 3) 1, mi (.iconst 0) 1, mi (.istore 4) 2, mz, mi (.iload 4) 2, mz, mi (.aload 0) 1, mi (.iload 1) 1, mj (.invokevirtual 382) 3 241 1 122, mz, mz, mi (.if_icmp .ge 74) 3, mz, mz, mi (.aload 0) 1],
  [mi (.iload 1) 1, mi (.iload 4) 2, mz, mj (.invokevirtual 385) 3 243 2 123, mz, mz, mi (.istore 5) 2, mz, mi (.iload 3) 1, mi (.iload 2) 1, mi (.ifCond .ne 17) 3, mz, mz, mi (.iload 5) 2, mz, mi (.iconst 1) 1],
  [mi (.if_icmp .ne 7) 3, mz, mz, mi (.iconst 1) 1, mi (.goto 42) 3, mz, mz, mi (.iconst 0) 1, mi (.goto 38) 3, mz, mz, mi (.iload 2) 1, mi (.iconst 1) 1, mi (.if_icmp .ne 16) 3, mz, mz],
  [mi (.iload 5) 2, mz, mi (.ifCond .eq 7) 3, mz, mz, mi (.iconst 1) 1, mi (.goto 24) 3, mz, mz, mi (.iconst 0) 1, mi (.goto 20) 3, mz, mz, mi (.iload 5) 2, mz, mi (.iconst 1) 1],
  [mi (.if_icmp .eq 9) 3, mz, mz, mi (.iload 5) 2, mz, mi (.iconst 2) 1, mi (.if_icmp .ne 7) 3, mz, mz, mi (.iconst 1) 1, mi (.goto 4) 3, mz, mz, mi (.iconst 0) 1, mi .iadd 1, mi (.istore 3) 1],
  [mi (.iinc 4 1) 3, mz, mz, mi (.goto (-78)) 3, mz, mz, mi (.iload 3) 1, mi .ireturn 1]]
def kX12_days : List (List (Option mR)) := [[mi (.aload 0) 1, mi (.iload 1) 1, mj (.invokevirtual 318) 3 216 1 101, mz, mz, mi (.ifCond .eq 20) 3, mz, mz, mi (.iload 2) 1, mi (.iconst 0) 1, mi (.iconst 3) 1, mj (.invokestatic 224) 3 180 3 70, mz, mz, mi (.ifCond .eq 11) 3, mz],
  [mz, mi (.aload 0) 1, mi (.iload 1) 1, mj (.invokevirtual 284) 3 236 1 90, mz, mz, mi (.ifCond .ne 7) 3, mz, mz, mj (.iconst (-2000000000)) 3 0 0 86, mz, mz, mi .ireturn 1, mi (.iload 2) 1, mi (.ifCond .ne 11) 3, mz],
  [mz, mi (.aload 0) 1, mi (.iload 1) 1, mj (.invokevirtual 382) 3 241 1 122, mz, mz, mi (.goto 11) 3, mz, mz, mi (.aload 0) 1, mi (.iload 1) 1, mi (.iload 2) 1, mi (.iconst 1) 1, mi .isub 1, mj (.invokevirtual 388) 3 244 2 124, mz],
  [mz, mi .ireturn 1]]
def kX12_dayOf : List (List (Option mR)) := [[mi (.aload 0) 1, mi (.iload 1) 1, mj (.invokevirtual 318) 3 216 1 101, mz, mz, mi (.ifCond .eq 35) 3, mz, mz, mi (.aload 0) 1, mi (.iload 1) 1, mj (.invokevirtual 284) 3 236 1 90, mz, mz, mi (.ifCond .eq 27) 3, mz, mz],
  [mi (.iload 2) 1, mi (.iconst 0) 1, mi (.aload 0) 1, mi (.iload 1) 1, mj (.invokevirtual 382) 3 241 1 122, mz, mz, mi (.iconst 1) 1, mi .isub 1, mj (.invokestatic 224) 3 180 3 70, mz, mz, mi (.ifCond .eq 12) 3, mz, mz, mi (.aload 0) 1],
  [mi (.iload 1) 1, mi (.iload 2) 1, mj (.invokevirtual 385) 3 243 2 123, mz, mz, mi (.goto 4) 3, mz, mz, mi (.iconst (-1)) 1, mi .ireturn 1]]
def kX12_feed : List (List (Option mR)) := [[mi (.aload 0) 1, mj (.getfield 391) 3 12 77 125, mz, mz, mi (.iconst 20) 2, mz, mi .iadd 1, mi (.iconst 200) 3, mz, mz, mi (.if_icmp .le 6) 3, mz, mz, mi (.iconst (-3)) 2, mz, mi .ireturn 1],
  [mi (.aload 0) 1, mi (.iload 1) 1, mj (.invokevirtual 394) 3 248 1 126, mz, mz, mi (.aload 0) 1, mi (.iload 2) 1, mj (.invokevirtual 394) 3 248 1 126, mz, mz, mi (.aload 0) 1, mi (.iload 3) 1, mj (.invokevirtual 394) 3 248 1 126, mz, mz, mi (.aload 0) 1],
  [mi (.iload 4) 2, mz, mj (.invokevirtual 394) 3 248 1 126, mz, mz, mi (.aload 0) 1, mi (.iload 5) 2, mz, mj (.invokevirtual 394) 3 248 1 126, mz, mz, mi (.aload 0) 1, mj (.getfield 391) 3 12 77 125, mz, mz, mi .ireturn 1]]
def kX12_feedOne : List (List (Option mR)) := [[mi (.iconst 3) 1, mi (.istore 2) 1, mi (.iload 2) 1, mi (.ifCond .lt 35) 3, mz, mz, mi (.aload 0) 1, mj (.getfield 189) 3 12 76 60, mz, mz, mi (.aload 0) 1, mj (.getfield 391) 3 12 77 125, mz, mz, mi (.iload 1) 1, mi (.iconst 8) 2],
  [mz, mi (.iload 2) 1, mi .imul 1, mi .ishr 1, mi .i2b 1, mi .bastore 1, mi (.aload 0) 1, mi .dup 1, mj (.getfield 391) 3 12 77 125, mz, mz, mi (.iconst 1) 1, mi .iadd 1, mj (.putfield 391) 3 12 77 125, mz, mz],
  [mi (.iinc 2 (-1)) 3, mz, mz, mi (.goto (-33)) 3, mz, mz, mi .return_ 1]]
def kX12_end : List (List (Option mR)) := [[mi (.iload 1) 1, mi (.iconst 0) 1, mi (.aload 0) 1, mj (.getfield 391) 3 12 77 125, mz, mz, mj (.invokestatic 224) 3 180 3 70, mz, mz, mi (.ifCond .ne 5) 3, mz, mz, mi (.iconst (-1)) 1, mi .ireturn 1, mi (.aload 0) 1, mi (.iload 1) 1],
  [mj (.putfield 391) 3 12 77 125, mz, mz, mi (.iload 1) 1, mi .ireturn 1]]
def kX12_isLetter : List (List (Option mR)) := [[mi (.iload 0) 1, mi (.iconst 97) 2, mz, mi (.iconst 122) 2, mz, mj (.invokestatic 224) 3 180 3 70, mz, mz, mi .ireturn 1]]
def kX12_isDigit : List (List (Option mR)) := [[mi (.iload 0) 1, mi (.iconst 48) 2, mz, mi (.iconst 57) 2, mz, mj (.invokestatic 224) 3 180 3 70, mz, mz, mi .ireturn 1]]
def kX12_nextToken : List (List (Option mR)) := [[mi (.aload 0) 1, mi (.aload 0) 1, mj (.getfield 397) 3 12 87 127, mz, mz, mj (.putfield 400) 3 12 86 128, mz, mz, mi (.aload 0) 1, mj (.getfield 400) 3 12 86 128, mz, mz, mi (.aload 0) 1, mj (.getfield 391) 3 12 77 125, mz, mz],
  [mi (.if_icmp .ge 30) 3, mz, mz, mi (.aload 0) 1, mj (.getfield 189) 3 12 76 60, mz, mz, mi (.aload 0) 1, mj (.getfield 400) 3 12 86 128, mz, mz, mi .baload 1, mi (.iconst 32) 2, mz, mi (.if_icmp .ne 16) 3, mz],
  [mz, mi (.aload 0) 1, mi .dup 1, mj (.getfield 400) 3 12 86 128, mz, mz, mi (.iconst 1) 1, mi .iadd 1, mj (.putfield 400) 3 12 86 128, mz, mz, mi (.goto (-35)) 3, mz, mz, mi (.aload 0) 1, mi (.aload 0) 1],
  [mj (.getfield 400) 3 12 86 128, mz, mz, mj (.putfield 397) 3 12 87 127, mz, mz, mi (.aload 0) 1, mj (.getfield 400) 3 12 86 128, mz, mz, mi (.aload 0) 1, mj (.getfield 391) 3 12 77 125, mz, mz, mi (.if_icmp .ne 9) 3, mz],
  [mz, mi (.aload 0) 1, mi (.iconst 0) 1, mj (.putfield 403) 3 12 88 129, mz, mz, mi .return_ 1, mi (.aload 0) 1, mj (.getfield 189) 3 12 76 60, mz, mz, mi (.aload 0) 1, mj (.getfield 400) 3 12 86 128, mz, mz, mi .baload 1],
  [mj (.invokestatic 406) 3 250 1 130, mz, mz, mi (.ifCond .eq 48) 3, mz, mz, mi (.aload 0) 1, mj (.getfield 397) 3 12 87 127, mz, mz, mi (.aload 0) 1, mj (.getfield 391) 3 12 77 125, mz, mz, mi (.if_icmp .ge 31) 3, mz],
  [mz, mi (.aload 0) 1, mj (.getfield 189) 3 12 76 60, mz, mz, mi (.aload 0) 1, mj (.getfield 397) 3 12 87 127, mz, mz, mi .baload 1, mj (.invokestatic 406) 3 250 1 130, mz, mz, mi (.ifCond .eq 16) 3, mz, mz],
  [mi (.aload 0) 1, mi .dup 1, mj (.getfield 397) 3 12 87 127, mz, mz, mi (.iconst 1) 1, mi .iadd 1, mj (.putfield 397) 3 12 87 127, mz, mz, mi (.goto (-36)) 3, mz, mz, mi (.aload 0) 1, mi (.iconst 1) 1, mj (.putfield 403) 3 12 88 129],
  [mz, mz, mi .return_ 1, mi (.aload 0) 1, mj (.getfield 189) 3 12 76 60, mz, mz, mi (.aload 0) 1, mj (.getfield 400) 3 12 86 128, mz, mz, mi .baload 1, mj (.invokestatic 409) 3 251 1 131, mz, mz, mi (.ifCond .eq 116) 3],
  [mz, mz, mi (.aload 0) 1, mi (.iconst 0) 1, mj (.putfield 412) 3 12 89 132, mz, mz, mi (.aload 0) 1, mj (.getfield 397) 3 12 87 127, mz, mz, mi (.aload 0) 1, mj (.getfield 391) 3 12 77 125, mz, mz, mi (.if_icmp .ge 76) 3],
  [mz, mz, mi (.aload 0) 1, mj (.getfield 189) 3 12 76 60, mz, mz, mi (.aload 0) 1, mj (.getfield 397) 3 12 87 127, mz, mz, mi .baload 1, mj (.invokestatic 409) 3 251 1 131, mz, mz, mi (.ifCond .eq 61) 3, mz],
  [mz, mi (.aload 0) 1, mi (.aload 0) 1, mj (.getfield 397) 3 12 87 127, mz, mz, mi (.aload 0) 1, mj (.getfield 400) 3 12 86 128, mz, mz, mi .isub 1, mi (.iconst 6) 2, mz, mi (.if_icmp .ge 26) 3, mz, mz],
  [mi (.iconst 10) 2, mz, mi (.aload 0) 1, mj (.getfield 412) 3 12 89 132, mz, mz, mi .imul 1, mi (.aload 0) 1, mj (.getfield 189) 3 12 76 60, mz, mz, mi (.aload 0) 1, mj (.getfield 397) 3 12 87 127, mz, mz, mi .baload 1],
  [mi .iadd 1, mi (.iconst 48) 2, mz, mi .isub 1, mi (.goto 7) 3, mz, mz, mi (.aload 0) 1, mj (.getfield 412) 3 12 89 132, mz, mz, mj (.putfield 412) 3 12 89 132, mz, mz, mi (.aload 0) 1, mi .dup 1],
  [mj (.getfield 397) 3 12 87 127, mz, mz, mi (.iconst 1) 1, mi .iadd 1, mj (.putfield 397) 3 12 87 127, mz, mz, mi (.goto (-81)) 3, mz, mz, mi (.aload 0) 1, mi (.aload 0) 1, mj (.getfield 397) 3 12 87 127, mz, mz],
  [mi (.aload 0) 1, mj (.getfield 400) 3 12 86 128, mz, mz, mi .isub 1, mi (.iconst 6) 2, mz, mi (.if_icmp .le 7) 3, mz, mz, mi (.iconst (-1)) 1, mi (.goto 4) 3, mz, mz, mi (.iconst 2) 1, mj (.putfield 403) 3 12 88 129],
  [mz, mz, mi .return_ 1, mi (.aload 0) 1, mi .dup 1, mj (.getfield 397) 3 12 87 127, mz, mz, mi (.iconst 1) 1, mi .iadd 1, mj (.putfield 397) 3 12 87 127, mz, mz, mi (.aload 0) 1, mi (.aload 0) 1, mj (.getfield 189) 3 12 76 60],
  [mz, mz, mi (.aload 0) 1, mj (.getfield 400) 3 12 86 128, mz, mz, mi .baload 1, mi (.iconst 32) 2, mz, mi (.if_icmp .le 15) 3, mz, mz, mi (.aload 0) 1, mj (.getfield 189) 3 12 76 60, mz, mz],
  [mi (.aload 0) 1, mj (.getfield 400) 3 12 86 128, mz, mz, mi .baload 1, mi (.goto 4) 3, mz, mz, mi (.iconst (-1)) 1, mj (.putfield 403) 3 12 88 129, mz, mz, mi .return_ 1]]
def kX12_isWord : List (List (Option mR)) := [[mi (.aload 0) 1, mj (.getfield 403) 3 12 88 129, mz, mz, mi (.iconst 1) 1, mi (.if_icmp .ne 17) 3, mz, mz, mi (.aload 0) 1, mj (.getfield 397) 3 12 87 127, mz, mz, mi (.aload 0) 1, mj (.getfield 400) 3 12 86 128, mz, mz],
  [mi .isub 1, mi (.iconst 12) 2, mz, mi (.if_icmp .le 5) 3, mz, mz, mi (.iconst 0) 1, mi .ireturn 1, mi (.jsr_w 0) 1, mi (.lstore 3) 1, mi (.aload 0) 1, mj (.getfield 400) 3 12 86 128, mz, mz, mi (.istore 5) 2, mz],
  [mi (.iload 5) 2, mz, mi (.aload 0) 1, mj (.getfield 397) 3 12 87 127, mz, mz, mi (.if_icmp .ge 28) 3, mz, mz, mj (.jsr_w 27) 3 0 0 133, mz, mz, mi (.lload 3) 1, mi .lmul 1, mi (.aload 0) 1, mj (.getfield 189) 3 12 76 60],
  [mz, mz, mi (.iload 5) 2, mz, mi .baload 1, mi .i2l 1, mi .ladd 1, mj (.jsr_w 96) 3 0 0 134, mz, mz, mi .lsub 1, mi (.lstore 3) 1, mi (.iinc 5 1) 3, mz, mz, mi (.goto (-31)) 3],
  [mz, mz, mi (.lload 3) 1, mi (.lload 1) 1, mi .lcmp 1, mi (.ifCond .ne 7) 3, mz, mz, mi (.iconst 1) 1, mi (.goto 4) 3, mz, mz, mi (.iconst 0) 1, mi .ireturn 1]]
def kX12_wrong : List (List (Option mR)) := [[mi (.aload 0) 1, mj (.getfield 419) 3 12 90 135, mz, mz, mi (.ifCond .ge 11) 3, mz, mz, mi (.aload 0) 1, mi (.aload 0) 1, mj (.getfield 400) 3 12 86 128, mz, mz, mj (.putfield 419) 3 12 90 135, mz, mz, mi .return_ 1]]
def kX12_lay : List (List (Option mR)) := [[mi (.aload 0) 1, mj (.getfield 205) 3 12 83 65, mz, mz, mi (.iconst 220) 3, mz, mz, mi (.aload 0) 1, mj (.getfield 422) 3 12 92 136, mz, mz, mi .imul 1, mi (.aload 0) 1, mj (.getfield 425) 3 12 93 137, mz, mz],
  [mi .iadd 1, mi (.iload 1) 1, mi .iastore 1, mi (.aload 0) 1, mj (.getfield 208) 3 12 84 66, mz, mz, mi (.iconst 220) 3, mz, mz, mi (.aload 0) 1, mj (.getfield 422) 3 12 92 136, mz, mz, mi .imul 1, mi (.aload 0) 1],
  [mj (.getfield 425) 3 12 93 137, mz, mz, mi .iadd 1, mi (.iload 2) 1, mi .iastore 1, mi (.aload 0) 1, mj (.getfield 211) 3 12 85 67, mz, mz, mi (.iconst 220) 3, mz, mz, mi (.aload 0) 1, mj (.getfield 422) 3 12 92 136, mz],
  [mz, mi .imul 1, mi (.aload 0) 1, mj (.getfield 425) 3 12 93 137, mz, mz, mi .iadd 1, mi (.iload 3) 1, mi .iastore 1, mi (.aload 0) 1, mi .dup 1, mj (.getfield 425) 3 12 93 137, mz, mz, mi (.iconst 1) 1, mi .iadd 1],
  [mj (.putfield 425) 3 12 93 137, mz, mz, mi .return_ 1]]
def kX12_takes : List (List (Option mR)) := [[mi (.aload 0) 1, mj (.getfield 403) 3 12 88 129, mz, mz, mi (.iload 1) 1, mi (.if_icmp .eq 9) 3, mz, mz, mi (.aload 0) 1, mj (.invokevirtual 428) 3 254 0 138, mz, mz, mi (.iconst 0) 1, mi .ireturn 1, mi (.aload 0) 1, mj (.invokevirtual 431) 3 252 0 139],
  [mz, mz, mi (.iconst 1) 1, mi .ireturn 1]]
def kX12_opens : List (List (Option mR)) := [[mi (.aload 0) 1, mj (.getfield 403) 3 12 88 129, mz, mz, mi (.iconst 40) 2, mz, mi (.if_icmp .ne 12) 3, mz, mz, mi (.aload 0) 1, mj (.getfield 434) 3 12 91 140, mz, mz, mi (.iconst 8) 2, mz, mi (.if_icmp .ne 9) 3],
  [mz, mz, mi (.aload 0) 1, mj (.invokevirtual 428) 3 254 0 138, mz, mz, mi (.iconst 0) 1, mi .ireturn 1, mi (.aload 0) 1, mi .dup 1, mj (.getfield 434) 3 12 91 140, mz, mz, mi (.iconst 1) 1, mi .iadd 1, mj (.putfield 434) 3 12 91 140],
  [mz, mz, mi (.aload 0) 1, mj (.invokevirtual 431) 3 252 0 139, mz, mz, mi (.iconst 1) 1, mi .ireturn 1]]
def kX12_closes : List (List (Option mR)) := [[mi (.aload 0) 1, mi (.iconst 41) 2, mz, mj (.invokevirtual 437) 3 256 1 141, mz, mz, mi (.ifCond .ne 5) 3, mz, mz, mi (.iconst 0) 1, mi .ireturn 1, mi (.aload 0) 1, mi .dup 1, mj (.getfield 434) 3 12 91 140, mz, mz],
  [mi (.iconst 1) 1, mi .isub 1, mj (.putfield 434) 3 12 91 140, mz, mz, mi (.iconst 1) 1, mi .ireturn 1]]
def kX12_nameOf : List (List (Option mR)) := [[mi (.iconst 0) 1, mi (.istore 1) 1, mi (.iload 1) 1, mi (.iconst 14) 2, mz, mi (.if_icmp .ge 23) 3, mz, mz, mi (.aload 0) 1, mj (.getstatic 440) 3 1 0 142, mz, mz, mi (.iload 1) 1, mi .laload 1, mj (.invokevirtual 443) 3 253 1 143, mz],
  [mz, mi (.ifCond .eq 5) 3, mz, mz, mi (.iload 1) 1, mi .ireturn 1, mi (.iinc 1 1) 3, mz, mz, mi (.goto (-23)) 3, mz, mz, mi (.iconst (-1)) 1, mi .ireturn 1]]
def kX12_operand : List (List (Option mR)) := [[mi (.aload 0) 1, mj (.getfield 403) 3 12 88 129, mz, mz, mi (.iconst 2) 1, mi (.if_icmp .ne 18) 3, mz, mz, mi (.aload 0) 1, mi (.iconst 1) 1, mi (.aload 0) 1, mj (.getfield 412) 3 12 89 132, mz, mz, mi (.iconst 0) 1, mj (.invokevirtual 447) 3 255 3 144],
  [mz, mz, mi (.aload 0) 1, mj (.invokevirtual 431) 3 252 0 139, mz, mz, mi .return_ 1, mi (.aload 0) 1, mj (.invokevirtual 451) 3 259 0 145, mz, mz, mi (.ifCond .lt 18) 3, mz, mz, mi (.aload 0) 1, mi (.iconst 2) 1],
  [mi (.aload 0) 1, mj (.invokevirtual 451) 3 259 0 145, mz, mz, mi (.iconst 0) 1, mj (.invokevirtual 447) 3 255 3 144, mz, mz, mi (.aload 0) 1, mj (.invokevirtual 431) 3 252 0 139, mz, mz, mi .return_ 1, mi (.aload 0) 1, mj (.jsr_w 6476969) 3 0 0 146, mz],
  [mz, mj (.invokevirtual 443) 3 253 1 143, mz, mz, mi (.ifCond .ne 13) 3, mz, mz, mi (.aload 0) 1, mj (.jsr_w 267347) 3 0 0 147, mz, mz, mj (.invokevirtual 443) 3 253 1 143, mz, mz, mi (.ifCond .eq 80) 3, mz],
  [mz, mi (.aload 0) 1, mj (.jsr_w 6476969) 3 0 0 146, mz, mz, mj (.invokevirtual 443) 3 253 1 143, mz, mz, mi (.ifCond .eq 7) 3, mz, mz, mi (.iconst 5) 1, mi (.goto 5) 3, mz, mz, mi (.iconst 6) 2],
  [mz, mi (.istore 1) 1, mi (.aload 0) 1, mj (.invokevirtual 431) 3 252 0 139, mz, mz, mi (.aload 0) 1, mj (.invokevirtual 459) 3 257 0 148, mz, mz, mi (.ifCond .ne 4) 3, mz, mz, mi .return_ 1, mi (.aload 0) 1, mj (.invokevirtual 463) 3 262 0 149],
  [mz, mz, mi (.aload 0) 1, mj (.getfield 419) 3 12 90 135, mz, mz, mi (.ifCond .ge 12) 3, mz, mz, mi (.aload 0) 1, mi (.iconst 44) 2, mz, mj (.invokevirtual 437) 3 256 1 141, mz, mz, mi (.ifCond .ne 4) 3],
  [mz, mz, mi .return_ 1, mi (.aload 0) 1, mj (.invokevirtual 463) 3 262 0 149, mz, mz, mi (.aload 0) 1, mj (.getfield 419) 3 12 90 135, mz, mz, mi (.ifCond .ge 10) 3, mz, mz, mi (.aload 0) 1, mj (.invokevirtual 466) 3 258 0 150],
  [mz, mz, mi (.ifCond .ne 4) 3, mz, mz, mi .return_ 1, mi (.aload 0) 1, mi (.iload 1) 1, mi (.iconst 0) 1, mi (.iconst 0) 1, mj (.invokevirtual 447) 3 255 3 144, mz, mz, mi .return_ 1, mi (.aload 0) 1, mj (.invokevirtual 459) 3 257 0 148],
  [mz, mz, mi (.ifCond .ne 4) 3, mz, mz, mi .return_ 1, mi (.aload 0) 1, mj (.invokevirtual 463) 3 262 0 149, mz, mz, mi (.aload 0) 1, mj (.getfield 419) 3 12 90 135, mz, mz, mi (.ifCond .lt 4) 3, mz],
  [mz, mi .return_ 1, mi (.aload 0) 1, mj (.invokevirtual 466) 3 258 0 150, mz, mz, mi (.ifCond .eq 4) 3, mz, mz, mi .return_ 1, mi .return_ 1]]
def kX12_product : List (List (Option mR)) := [[mi (.aload 0) 1, mj (.invokevirtual 469) 3 260 0 151, mz, mz, mi (.aload 0) 1, mj (.getfield 419) 3 12 90 135, mz, mz, mi (.ifCond .ge 44) 3, mz, mz, mi (.aload 0) 1, mj (.getfield 403) 3 12 88 129, mz, mz, mi (.iconst 42) 2],
  [mz, mi (.if_icmp .eq 12) 3, mz, mz, mi (.aload 0) 1, mj (.getfield 403) 3 12 88 129, mz, mz, mi (.iconst 47) 2, mz, mi (.if_icmp .ne 26) 3, mz, mz, mi (.aload 0) 1, mj (.getfield 403) 3 12 88 129, mz],
  [mz, mi (.istore 1) 1, mi (.aload 0) 1, mj (.invokevirtual 431) 3 252 0 139, mz, mz, mi (.aload 0) 1, mj (.invokevirtual 469) 3 260 0 151, mz, mz, mi (.aload 0) 1, mi (.iload 1) 1, mi (.iconst 0) 1, mi (.iconst 0) 1, mj (.invokevirtual 447) 3 255 3 144, mz],
  [mz, mi (.goto (-45)) 3, mz, mz, mi .return_ 1]]
def kX12_sum : List (List (Option mR)) := [[mi (.aload 0) 1, mj (.invokevirtual 472) 3 261 0 152, mz, mz, mi (.aload 0) 1, mj (.getfield 419) 3 12 90 135, mz, mz, mi (.ifCond .ge 44) 3, mz, mz, mi (.aload 0) 1, mj (.getfield 403) 3 12 88 129, mz, mz, mi (.iconst 43) 2],
  [mz, mi (.if_icmp .eq 12) 3, mz, mz, mi (.aload 0) 1, mj (.getfield 403) 3 12 88 129, mz, mz, mi (.iconst 45) 2, mz, mi (.if_icmp .ne 26) 3, mz, mz, mi (.aload 0) 1, mj (.getfield 403) 3 12 88 129, mz],
  [mz, mi (.istore 1) 1, mi (.aload 0) 1, mj (.invokevirtual 431) 3 252 0 139, mz, mz, mi (.aload 0) 1, mj (.invokevirtual 472) 3 261 0 152, mz, mz, mi (.aload 0) 1, mi (.iload 1) 1, mi (.iconst 0) 1, mi (.iconst 0) 1, mj (.invokevirtual 447) 3 255 3 144, mz],
  [mz, mi (.goto (-45)) 3, mz, mz, mi .return_ 1]]
def kX12_step : List (List (Option mR)) := [[mi (.aload 0) 1, mj (.jsr_w 131638) 3 0 0 153, mz, mz, mj (.invokevirtual 443) 3 253 1 143, mz, mz, mi (.ifCond .eq 81) 3, mz, mz, mi (.aload 0) 1, mj (.invokevirtual 431) 3 252 0 139, mz, mz, mi (.aload 0) 1, mj (.getfield 412) 3 12 89 132],
  [mz, mz, mi (.istore 1) 1, mi (.aload 0) 1, mi (.iconst 2) 1, mj (.invokevirtual 437) 3 256 1 141, mz, mz, mi (.ifCond .ne 4) 3, mz, mz, mi .return_ 1, mj (.iconst 1000000) 2 0 0 73, mz, mi (.istore 2) 1, mi (.aload 0) 1],
  [mj (.jsr_w 583) 3 0 0 154, mz, mz, mj (.invokevirtual 443) 3 253 1 143, mz, mz, mi (.ifCond .eq 10) 3, mz, mz, mi (.aload 0) 1, mj (.invokevirtual 431) 3 252 0 139, mz, mz, mi (.goto 36) 3, mz, mz],
  [mi (.aload 0) 1, mj (.jsr_w 555) 3 0 0 155, mz, mz, mj (.invokevirtual 443) 3 253 1 143, mz, mz, mi (.ifCond .eq 21) 3, mz, mz, mi (.aload 0) 1, mj (.invokevirtual 431) 3 252 0 139, mz, mz, mi (.aload 0) 1, mj (.getfield 412) 3 12 89 132],
  [mz, mz, mi (.istore 2) 1, mi (.aload 0) 1, mi (.iconst 2) 1, mj (.invokevirtual 437) 3 256 1 141, mz, mz, mi (.ifCond .ne 9) 3, mz, mz, mi .return_ 1, mi (.aload 0) 1, mj (.invokevirtual 428) 3 254 0 138, mz, mz],
  [mi .return_ 1, mi (.aload 0) 1, mi (.iconst 3) 1, mi (.iload 1) 1, mi (.iload 2) 1, mj (.invokevirtual 447) 3 255 3 144, mz, mz, mi (.aload 0) 1, mj (.invokevirtual 463) 3 262 0 149, mz, mz, mi (.aload 0) 1, mi (.iconst 4) 1, mi (.iconst 0) 1, mi (.iconst 0) 1],
  [mj (.invokevirtual 447) 3 255 3 144, mz, mz, mi .return_ 1]]
def kX12_terms : List (List (Option mR)) := [[mi (.iload 1) 1, mi (.iconst 0) 1, mi (.iconst 1) 1, mj (.invokestatic 224) 3 180 3 70, mz, mz, mi (.ifCond .eq 10) 3, mz, mz, mi (.iload 2) 1, mj (.invokestatic 246) 3 181 1 77, mz, mz, mi (.ifCond .ne 5) 3, mz, mz],
  [mi (.iconst (-1)) 1, mi .ireturn 1, mi (.aload 0) 1, mj (.getfield 481) 3 12 78 156, mz, mz, mi (.iconst 16) 2, mz, mi (.if_icmp .ne 6) 3, mz, mz, mi (.iconst (-3)) 2, mz, mi .ireturn 1, mi (.aload 0) 1, mi (.aload 0) 1],
  [mj (.getfield 481) 3 12 78 156, mz, mz, mj (.putfield 422) 3 12 92 136, mz, mz, mi (.aload 0) 1, mi (.iconst 0) 1, mj (.putfield 425) 3 12 93 137, mz, mz, mi (.aload 0) 1, mi (.iconst (-1)) 1, mj (.putfield 419) 3 12 90 135, mz, mz],
  [mi (.aload 0) 1, mi (.iconst 0) 1, mj (.putfield 434) 3 12 91 140, mz, mz, mi (.aload 0) 1, mi (.iconst 0) 1, mj (.putfield 397) 3 12 87 127, mz, mz, mi (.aload 0) 1, mj (.invokevirtual 431) 3 252 0 139, mz, mz, mi (.aload 0) 1, mj (.invokevirtual 484) 3 263 0 157],
  [mz, mz, mi (.aload 0) 1, mj (.getfield 419) 3 12 90 135, mz, mz, mi (.ifCond .ge 23) 3, mz, mz, mi (.aload 0) 1, mj (.getfield 403) 3 12 88 129, mz, mz, mi (.iconst 59) 2, mz, mi (.if_icmp .ne 14) 3],
  [mz, mz, mi (.aload 0) 1, mj (.invokevirtual 431) 3 252 0 139, mz, mz, mi (.aload 0) 1, mj (.invokevirtual 484) 3 263 0 157, mz, mz, mi (.goto (-24)) 3, mz, mz, mi (.aload 0) 1, mj (.getfield 419) 3 12 90 135, mz],
  [mz, mi (.ifCond .ge 14) 3, mz, mz, mi (.aload 0) 1, mj (.getfield 403) 3 12 88 129, mz, mz, mi (.ifCond .eq 7) 3, mz, mz, mi (.aload 0) 1, mj (.invokevirtual 428) 3 254 0 138, mz, mz, mi (.aload 0) 1],
  [mi (.iconst 0) 1, mj (.putfield 391) 3 12 77 125, mz, mz, mi (.aload 0) 1, mj (.getfield 419) 3 12 90 135, mz, mz, mi (.ifCond .lt 11) 3, mz, mz, mi (.iconst (-100)) 2, mz, mi (.aload 0) 1, mj (.getfield 419) 3 12 90 135, mz],
  [mz, mi .isub 1, mi .ireturn 1, mi (.aload 0) 1, mj (.getfield 193) 3 12 79 61, mz, mz, mi (.aload 0) 1, mj (.getfield 481) 3 12 78 156, mz, mz, mi (.iload 1) 1, mi .iastore 1, mi (.aload 0) 1, mj (.getfield 196) 3 12 80 62, mz],
  [mz, mi (.aload 0) 1, mj (.getfield 481) 3 12 78 156, mz, mz, mi (.aload 0) 1, mj (.invokevirtual 487) 3 182 0 158, mz, mz, mi .iastore 1, mi (.aload 0) 1, mj (.getfield 199) 3 12 81 63, mz, mz, mi (.aload 0) 1, mj (.getfield 481) 3 12 78 156],
  [mz, mz, mi (.iload 2) 1, mi .iastore 1, mi (.aload 0) 1, mj (.getfield 202) 3 12 82 64, mz, mz, mi (.aload 0) 1, mj (.getfield 481) 3 12 78 156, mz, mz, mi (.aload 0) 1, mj (.getfield 425) 3 12 93 137, mz, mz],
  [mi .iastore 1, mi (.aload 0) 1, mi .dup 1, mj (.getfield 481) 3 12 78 156, mz, mz, mi (.iconst 1) 1, mi .iadd 1, mj (.putfield 481) 3 12 78 156, mz, mz, mi (.aload 0) 1, mj (.getfield 481) 3 12 78 156, mz, mz, mi (.iconst 1) 1],
  [mi .isub 1, mi .ireturn 1]]
def kX12_both : List (List (Option mR)) := [[mi (.iload 0) 1, mi (.lookupswitch 96 #[(5, 85), (42, 59), (43, 51), (45, 55), (47, 63)]) 51, mz, mz, mz, mz, mz, mz, mz, mz, mz, mz, mz, mz, mz, mz],
  [mz, mz, mz, mz, mz, mz, mz, mz, mz, mz, mz, mz, mz, mz, mz, mz],
  [mz, mz, mz, mz, mz, mz, mz, mz, mz, mz, mz, mz, mz, mz, mz, mz],
  [mz, mz, mz, mz, mi (.iload 1) 1, mi (.iload 2) 1, mi .iadd 1, mi .ireturn 1, mi (.iload 1) 1, mi (.iload 2) 1, mi .isub 1, mi .ireturn 1, mi (.iload 1) 1, mi (.iload 2) 1, mi .imul 1, mi .ireturn 1],
  [mi (.iload 2) 1, mi (.ifCond .ne 7) 3, mz, mz, mi (.iconst 0) 1, mi (.goto 16) 3, mz, mz, mi (.iload 2) 1, mi (.iconst (-1)) 1, mi (.if_icmp .ne 8) 3, mz, mz, mi (.iload 1) 1, mi .ineg 1, mi (.goto 6) 3],
  [mz, mz, mi (.iload 1) 1, mi (.iload 2) 1, mi .idiv 1, mi .ireturn 1, mi (.iload 1) 1, mi (.iload 2) 1, mi (.if_icmp .ge 7) 3, mz, mz, mi (.iload 1) 1, mi (.goto 4) 3, mz, mz, mi (.iload 2) 1],
  [mi .ireturn 1, mi (.iload 1) 1, mi (.iload 2) 1, mi (.if_icmp .le 7) 3, mz, mz, mi (.iload 1) 1, mi (.goto 4) 3, mz, mz, mi (.iload 2) 1, mi .ireturn 1]]
def kX12_works : List (List (Option mR)) := [[mi (.iconst 0) 1, mi (.istore 2) 1, mi (.iconst 0) 1, mi (.istore 3) 1, mi (.iconst 220) 3, mz, mz, mi (.iload 1) 1, mi .imul 1, mi (.istore 4) 2, mz, mi (.iload 4) 2, mz, mi (.iconst 220) 3, mz, mz],
  [mi (.iload 1) 1, mi .imul 1, mi (.aload 0) 1, mj (.getfield 202) 3 12 82 64, mz, mz, mi (.iload 1) 1, mi .iaload 1, mi .iadd 1, mi (.if_icmp .ge 196) 3, mz, mz, mi (.aload 0) 1, mj (.getfield 205) 3 12 83 65, mz, mz],
  [mi (.iload 4) 2, mz, mi .iaload 1, mi (.istore 5) 2, mz, mi (.iload 5) 2, mz, mi (.iconst 1) 1, mi (.if_icmp .eq 9) 3, mz, mz, mi (.iload 5) 2, mz, mi (.iconst 2) 1, mi (.if_icmp .ne 43) 3, mz],
  [mz, mi (.aload 0) 1, mj (.getfield 217) 3 12 95 69, mz, mz, mi (.iload 2) 1, mi (.iload 5) 2, mz, mi (.iconst 1) 1, mi (.if_icmp .ne 13) 3, mz, mz, mi (.aload 0) 1, mj (.getfield 208) 3 12 84 66, mz, mz],
  [mi (.iload 4) 2, mz, mi .iaload 1, mi (.goto 15) 3, mz, mz, mi (.aload 0) 1, mj (.getfield 214) 3 12 94 68, mz, mz, mi (.aload 0) 1, mj (.getfield 208) 3 12 84 66, mz, mz, mi (.iload 4) 2, mz],
  [mi .iaload 1, mi .iaload 1, mi .iastore 1, mi (.iinc 2 1) 3, mz, mz, mi (.goto 129) 3, mz, mz, mi (.iload 5) 2, mz, mi (.iconst 3) 1, mi (.if_icmp .ne 38) 3, mz, mz, mi (.aload 0) 1],
  [mj (.getfield 214) 3 12 94 68, mz, mz, mi (.iconst 0) 1, mi .iaload 1, mi (.aload 0) 1, mj (.getfield 208) 3 12 84 66, mz, mz, mi (.iload 4) 2, mz, mi .iaload 1, mi (.aload 0) 1, mj (.getfield 211) 3 12 85 67, mz, mz],
  [mi (.iload 4) 2, mz, mi .iaload 1, mj (.invokestatic 224) 3 180 3 70, mz, mz, mi (.ifCond .ne 7) 3, mz, mz, mi (.iconst 1) 1, mi (.goto 4) 3, mz, mz, mi (.iconst 0) 1, mi (.istore 3) 1, mi (.goto 88) 3],
  [mz, mz, mi (.iload 5) 2, mz, mi (.iconst 4) 1, mi (.if_icmp .ne 52) 3, mz, mz, mi (.iload 3) 1, mi (.ifCond .ne 41) 3, mz, mz, mi (.aload 0) 1, mj (.getfield 217) 3 12 95 69, mz, mz],
  [mi (.iconst 0) 1, mi .iaload 1, mi (.ifCond .ge 7) 3, mz, mz, mi (.iconst 0) 1, mi (.goto 27) 3, mz, mz, mi (.aload 0) 1, mj (.getfield 217) 3 12 95 69, mz, mz, mi (.iconst 0) 1, mi .iaload 1, mj (.iconst 9999999) 3 0 0 159],
  [mz, mz, mi (.if_icmp .le 9) 3, mz, mz, mj (.iconst 9999999) 3 0 0 159, mz, mz, mi (.goto 9) 3, mz, mz, mi (.aload 0) 1, mj (.getfield 217) 3 12 95 69, mz, mz, mi (.iconst 0) 1],
  [mi .iaload 1, mi .ireturn 1, mi (.iconst 0) 1, mi (.istore 3) 1, mi (.iconst 0) 1, mi (.istore 2) 1, mi (.goto 33) 3, mz, mz, mi (.iinc 2 (-1)) 3, mz, mz, mi (.aload 0) 1, mj (.getfield 217) 3 12 95 69, mz, mz],
  [mi (.iload 2) 1, mi (.iconst 1) 1, mi .isub 1, mi (.iload 5) 2, mz, mi (.aload 0) 1, mj (.getfield 217) 3 12 95 69, mz, mz, mi (.iload 2) 1, mi (.iconst 1) 1, mi .isub 1, mi .iaload 1, mi (.aload 0) 1, mj (.getfield 217) 3 12 95 69, mz],
  [mz, mi (.iload 2) 1, mi .iaload 1, mj (.invokestatic 491) 3 265 3 160, mz, mz, mi .iastore 1, mi (.iinc 4 1) 3, mz, mz, mi (.goto (-207)) 3, mz, mz, mi (.iconst 0) 1, mi .ireturn 1]]
def kX12_hoursOf : List (List (Option mR)) := [[mi (.aload 0) 1, mi (.aload 0) 1, mj (.getfield 146) 3 12 56 46, mz, mz, mi (.iload 1) 1, mi .iaload 1, mi (.aload 0) 1, mi (.iload 1) 1, mj (.invokevirtual 376) 3 240 1 120, mz, mz, mj (.invokevirtual 287) 3 196 2 91, mz, mz, mi (.istore 2) 1],
  [mi (.aload 0) 1, mi (.aload 0) 1, mj (.getfield 146) 3 12 56 46, mz, mz, mi (.iload 1) 1, mi .iaload 1, mi (.aload 0) 1, mj (.getfield 149) 3 12 57 47, mz, mz, mi (.iload 1) 1, mi .iaload 1, mj (.invokevirtual 287) 3 196 2 91, mz, mz],
  [mi (.istore 3) 1, mi (.iload 2) 1, mi (.ifCond .ge 7) 3, mz, mz, mi (.iconst 0) 1, mi (.goto 9) 3, mz, mz, mi (.aload 0) 1, mj (.getfield 98) 3 12 36 30, mz, mz, mi (.iload 2) 1, mi .iaload 1, mi (.iload 3) 1],
  [mi (.ifCond .ge 7) 3, mz, mz, mi (.iconst 0) 1, mi (.goto 9) 3, mz, mz, mi (.aload 0) 1, mj (.getfield 98) 3 12 36 30, mz, mz, mi (.iload 3) 1, mi .iaload 1, mi .isub 1, mi .ireturn 1]]
def kX12_rainOf : List (List (Option mR)) := [[mi (.iconst 0) 1, mi (.istore 2) 1, mi (.aload 0) 1, mi (.iload 1) 1, mj (.invokevirtual 376) 3 240 1 120, mz, mz, mi (.aload 0) 1, mj (.getfield 149) 3 12 57 47, mz, mz, mi (.iload 1) 1, mi .iaload 1, mi (.if_icmp .le 50) 3, mz, mz],
  [mi (.aload 0) 1, mj (.getfield 149) 3 12 57 47, mz, mz, mi (.iload 1) 1, mi .iaload 1, mi (.iconst 24) 2, mz, mi .idiv 1, mi (.istore 3) 1, mi (.iload 3) 1, mi (.aload 0) 1, mi (.iload 1) 1, mj (.invokevirtual 376) 3 240 1 120, mz, mz],
  [mi (.iconst 1) 1, mi .isub 1, mi (.iconst 24) 2, mz, mi .idiv 1, mi (.if_icmp .gt 26) 3, mz, mz, mi (.iload 2) 1, mi (.aload 0) 1, mj (.getfield 20) 3 12 6 4, mz, mz, mi (.iload 3) 1, mi .baload 1, mi (.ifCond .eq 7) 3],
  [mz, mz, mi (.iconst 1) 1, mi (.goto 4) 3, mz, mz, mi (.iconst 0) 1, mi .iadd 1, mi (.istore 2) 1, mi (.iinc 3 1) 3, mz, mz, mi (.goto (-34)) 3, mz, mz, mi (.iload 2) 1],
  [mi .ireturn 1]]
def kX12_brokenOf : List (List (Option mR)) := [[mi (.iconst 0) 1, mi (.istore 2) 1, mi (.iconst 0) 1, mi (.istore 3) 1, mi (.iload 3) 1, mi (.aload 0) 1, mj (.getfield 277) 3 12 37 88, mz, mz, mi (.if_icmp .ge 124) 3, mz, mz, mi (.aload 0) 1, mj (.getfield 101) 3 12 38 31, mz, mz],
  [mi (.iload 3) 1, mi .iaload 1, mi (.aload 0) 1, mj (.getfield 146) 3 12 56 46, mz, mz, mi (.iload 1) 1, mi .iaload 1, mi (.if_icmp .eq 6) 3, mz, mz, mi (.goto 100) 3, mz, mz, mi (.aload 0) 1, mj (.getfield 104) 3 12 39 32],
  [mz, mz, mi (.iload 3) 1, mi .iaload 1, mi (.aload 0) 1, mj (.getfield 149) 3 12 57 47, mz, mz, mi (.iload 1) 1, mi .iaload 1, mi (.if_icmp .le 12) 3, mz, mz, mi (.aload 0) 1, mj (.getfield 104) 3 12 39 32, mz],
  [mz, mi (.iload 3) 1, mi .iaload 1, mi (.goto 9) 3, mz, mz, mi (.aload 0) 1, mj (.getfield 149) 3 12 57 47, mz, mz, mi (.iload 1) 1, mi .iaload 1, mi (.istore 4) 2, mz, mi (.aload 0) 1, mj (.getfield 107) 3 12 40 33],
  [mz, mz, mi (.iload 3) 1, mi .iaload 1, mi (.ifCond .ge 10) 3, mz, mz, mi (.aload 0) 1, mj (.getfield 228) 3 12 1 71, mz, mz, mi (.goto 9) 3, mz, mz, mi (.aload 0) 1, mj (.getfield 107) 3 12 40 33],
  [mz, mz, mi (.iload 3) 1, mi .iaload 1, mi (.istore 5) 2, mz, mi (.iload 5) 2, mz, mi (.aload 0) 1, mi (.iload 1) 1, mj (.invokevirtual 376) 3 240 1 120, mz, mz, mi (.if_icmp .ge 8) 3, mz, mz],
  [mi (.iload 5) 2, mz, mi (.goto 8) 3, mz, mz, mi (.aload 0) 1, mi (.iload 1) 1, mj (.invokevirtual 376) 3 240 1 120, mz, mz, mi (.istore 6) 2, mz, mi (.iload 2) 1, mi (.iload 6) 2, mz, mi (.iload 4) 2],
  [mz, mi (.if_icmp .le 11) 3, mz, mz, mi (.iload 6) 2, mz, mi (.iload 4) 2, mz, mi .isub 1, mi (.goto 4) 3, mz, mz, mi (.iconst 0) 1, mi .iadd 1, mi (.istore 2) 1, mi (.iinc 3 1) 3],
  [mz, mz, mi (.goto (-126)) 3, mz, mz, mi (.iload 2) 1, mi .ireturn 1]]
def kX12_marksFound : List (List (Option mR)) := [[mi (.aload 0) 1, mj (.getfield 158) 3 12 60 50, mz, mz, mi (.iconst 2) 1, mi (.iload 1) 1, mi .imul 1, mi .iaload 1, mi (.ifCond .lt 16) 3, mz, mz, mi (.aload 0) 1, mj (.getfield 158) 3 12 60 50, mz, mz, mi (.iconst 2) 1],
  [mi (.iload 1) 1, mi .imul 1, mi (.iconst 1) 1, mi .iadd 1, mi .iaload 1, mi (.ifCond .ge 7) 3, mz, mz, mi (.iconst 0) 1, mi (.goto 24) 3, mz, mz, mi (.aload 0) 1, mj (.getfield 158) 3 12 60 50, mz, mz],
  [mi (.iconst 2) 1, mi (.iload 1) 1, mi .imul 1, mi (.iconst 1) 1, mi .iadd 1, mi .iaload 1, mi (.aload 0) 1, mj (.getfield 158) 3 12 60 50, mz, mz, mi (.iconst 2) 1, mi (.iload 1) 1, mi .imul 1, mi .iaload 1, mi (.iconst (-1)) 1, mi .ixor 1],
  [mi .iand 1, mi .ireturn 1]]
def kX12_harmOf : List (List (Option mR)) := [[mi (.iconst 0) 1, mi (.istore 2) 1, mi (.iconst 0) 1, mi (.istore 3) 1, mi (.iload 3) 1, mi (.iconst 16) 2, mz, mi (.if_icmp .ge 59) 3, mz, mz, mi (.aload 0) 1, mj (.getfield 146) 3 12 56 46, mz, mz, mi (.iload 1) 1, mi .iaload 1],
  [mi (.ifCond .lt 50) 3, mz, mz, mi (.iload 2) 1, mi (.aload 0) 1, mi (.iload 1) 1, mj (.invokevirtual 495) 3 270 1 161, mz, mz, mi (.iload 3) 1, mi .ishr 1, mi (.iconst 1) 1, mi .iand 1, mi (.iconst 1) 1, mi (.if_icmp .ne 27) 3, mz],
  [mz, mi (.aload 0) 1, mj (.getfield 41) 3 12 14 11, mz, mz, mi (.iconst 16) 2, mz, mi (.aload 0) 1, mj (.getfield 44) 3 12 16 12, mz, mz, mi (.aload 0) 1, mj (.getfield 146) 3 12 56 46, mz, mz, mi (.iload 1) 1],
  [mi .iaload 1, mi .iaload 1, mi .imul 1, mi (.iload 3) 1, mi .iadd 1, mi .iaload 1, mi (.goto 4) 3, mz, mz, mi (.iconst 0) 1, mi .iadd 1, mi (.istore 2) 1, mi (.iinc 3 1) 3, mz, mz, mi (.goto (-59)) 3],
  [mz, mz, mi (.iload 2) 1, mi .ireturn 1]]
def kX12_fuelOf : List (List (Option mR)) := [[mi (.aload 0) 1, mj (.getfield 161) 3 12 61 51, mz, mz, mi (.iconst 2) 1, mi (.iload 1) 1, mi .imul 1, mi .iaload 1, mi (.ifCond .lt 37) 3, mz, mz, mi (.aload 0) 1, mj (.getfield 161) 3 12 61 51, mz, mz, mi (.iconst 2) 1],
  [mi (.iload 1) 1, mi .imul 1, mi (.iconst 1) 1, mi .iadd 1, mi .iaload 1, mi (.ifCond .lt 24) 3, mz, mz, mi (.aload 0) 1, mj (.getfield 161) 3 12 61 51, mz, mz, mi (.iconst 2) 1, mi (.iload 1) 1, mi .imul 1, mi (.iconst 1) 1],
  [mi .iadd 1, mi .iaload 1, mi (.aload 0) 1, mj (.getfield 161) 3 12 61 51, mz, mz, mi (.iconst 2) 1, mi (.iload 1) 1, mi .imul 1, mi .iaload 1, mi (.if_icmp .lt 7) 3, mz, mz, mi (.iconst 0) 1, mi (.goto 22) 3, mz],
  [mz, mi (.aload 0) 1, mj (.getfield 161) 3 12 61 51, mz, mz, mi (.iconst 2) 1, mi (.iload 1) 1, mi .imul 1, mi .iaload 1, mi (.aload 0) 1, mj (.getfield 161) 3 12 61 51, mz, mz, mi (.iconst 2) 1, mi (.iload 1) 1, mi .imul 1],
  [mi (.iconst 1) 1, mi .iadd 1, mi .iaload 1, mi .isub 1, mi .ireturn 1]]
def kX12_tell : List (List (Option mR)) := [[mi (.aload 0) 1, mj (.getfield 146) 3 12 56 46, mz, mz, mi (.iload 1) 1, mi .iaload 1, mi (.istore 4) 2, mz, mi (.aload 0) 1, mj (.getfield 214) 3 12 94 68, mz, mz, mi (.iconst 0) 1, mi (.iload 2) 1, mi .iastore 1, mi (.aload 0) 1],
  [mj (.getfield 214) 3 12 94 68, mz, mz, mi (.iconst 1) 1, mi (.iload 3) 1, mi .iastore 1, mi (.aload 0) 1, mj (.getfield 214) 3 12 94 68, mz, mz, mi (.iconst 2) 1, mi (.iload 3) 1, mi (.iconst 7) 2, mz, mi .idiv 1, mi .iastore 1],
  [mi (.aload 0) 1, mj (.getfield 214) 3 12 94 68, mz, mz, mi (.iconst 3) 1, mi (.iload 3) 1, mi (.iconst 7) 2, mz, mi .irem 1, mi .iastore 1, mi (.aload 0) 1, mj (.getfield 214) 3 12 94 68, mz, mz, mi (.iconst 4) 1, mi (.aload 0) 1],
  [mj (.getfield 29) 3 12 10 7, mz, mz, mi (.aload 0) 1, mj (.getfield 128) 3 12 50 40, mz, mz, mi (.iload 1) 1, mi .iaload 1, mi .iaload 1, mi .iastore 1, mi (.aload 0) 1, mj (.getfield 214) 3 12 94 68, mz, mz, mi (.iconst 5) 1],
  [mi (.aload 0) 1, mi (.iload 1) 1, mj (.invokevirtual 498) 3 267 1 162, mz, mz, mi .iastore 1, mi (.aload 0) 1, mi (.iload 1) 1, mj (.invokevirtual 498) 3 267 1 162, mz, mz, mi (.iload 3) 1, mi (.aload 0) 1, mj (.getfield 137) 3 12 53 43, mz, mz],
  [mi (.iload 1) 1, mi .iaload 1, mi .imul 1, mi .isub 1, mi (.istore 5) 2, mz, mi (.aload 0) 1, mj (.getfield 214) 3 12 94 68, mz, mz, mi (.iconst 6) 2, mz, mi (.iload 5) 2, mz, mi (.ifCond .ge 7) 3, mz],
  [mz, mi (.iconst 0) 1, mi (.goto 5) 3, mz, mz, mi (.iload 5) 2, mz, mi .iastore 1, mi (.aload 0) 1, mj (.getfield 214) 3 12 94 68, mz, mz, mi (.iconst 7) 2, mz, mi (.aload 0) 1, mi (.iload 1) 1],
  [mj (.invokevirtual 501) 3 268 1 163, mz, mz, mi .iastore 1, mi (.aload 0) 1, mj (.getfield 214) 3 12 94 68, mz, mz, mi (.iconst 8) 2, mz, mi (.aload 0) 1, mi (.iload 1) 1, mj (.invokevirtual 504) 3 269 1 164, mz, mz, mi .iastore 1],
  [mi (.aload 0) 1, mj (.getfield 214) 3 12 94 68, mz, mz, mi (.iconst 9) 2, mz, mi (.aload 0) 1, mi (.iload 1) 1, mj (.invokevirtual 507) 3 272 1 165, mz, mz, mi .iastore 1, mi (.aload 0) 1, mj (.getfield 214) 3 12 94 68, mz, mz],
  [mi (.iconst 10) 2, mz, mi (.aload 0) 1, mi (.iload 1) 1, mj (.invokevirtual 510) 3 271 1 166, mz, mz, mi .iastore 1, mi (.aload 0) 1, mj (.getfield 214) 3 12 94 68, mz, mz, mi (.iconst 11) 2, mz, mi (.aload 0) 1, mj (.getfield 35) 3 12 12 9],
  [mz, mz, mi (.aload 0) 1, mj (.getfield 44) 3 12 16 12, mz, mz, mi (.iload 4) 2, mz, mi .iaload 1, mi .iaload 1, mi .iastore 1, mi (.aload 0) 1, mj (.getfield 214) 3 12 94 68, mz, mz, mi (.iconst 12) 2],
  [mz, mi (.aload 0) 1, mj (.getfield 83) 3 12 29 25, mz, mz, mi (.iload 4) 2, mz, mi .iaload 1, mi (.ifCond .ne 7) 3, mz, mz, mi (.iconst 1) 1, mi (.goto 4) 3, mz, mz, mi (.iconst 0) 1],
  [mi .iastore 1, mi (.aload 0) 1, mj (.getfield 214) 3 12 94 68, mz, mz, mi (.iconst 13) 2, mz, mi (.aload 0) 1, mj (.getfield 44) 3 12 16 12, mz, mz, mi (.iload 4) 2, mz, mi .iaload 1, mi (.aload 0) 1, mj (.getfield 128) 3 12 50 40],
  [mz, mz, mi (.iload 1) 1, mi .iaload 1, mi (.if_icmp .eq 7) 3, mz, mz, mi (.iconst 1) 1, mi (.goto 4) 3, mz, mz, mi (.iconst 0) 1, mi .iastore 1, mi .return_ 1]]
def kX12_gives : List (List (Option mR)) := [[mi (.iload 1) 1, mi (.iconst 0) 1, mi (.aload 0) 1, mj (.getfield 481) 3 12 78 156, mz, mz, mi (.iconst 1) 1, mi .isub 1, mj (.invokestatic 224) 3 180 3 70, mz, mz, mi (.ifCond .eq 30) 3, mz, mz, mi (.aload 0) 1, mi (.iload 2) 1],
  [mj (.invokevirtual 318) 3 216 1 101, mz, mz, mi (.ifCond .eq 22) 3, mz, mz, mi (.iload 3) 1, mi (.iconst 0) 1, mi (.iconst 999) 3, mz, mz, mj (.invokestatic 224) 3 180 3 70, mz, mz, mi (.ifCond .eq 11) 3, mz],
  [mz, mi (.aload 0) 1, mi (.iload 2) 1, mj (.invokevirtual 284) 3 236 1 90, mz, mz, mi (.ifCond .ne 7) 3, mz, mz, mj (.iconst (-2000000000)) 3 0 0 86, mz, mz, mi .ireturn 1, mi (.aload 0) 1, mi (.iload 2) 1, mi (.iload 3) 1],
  [mi (.aload 0) 1, mi (.iload 2) 1, mj (.invokevirtual 382) 3 241 1 122, mz, mz, mj (.invokevirtual 513) 3 273 3 167, mz, mz, mi (.aload 0) 1, mi (.iload 1) 1, mj (.invokevirtual 516) 3 266 1 168, mz, mz, mi .ireturn 1]]
def kX12_lesser : List (List (Option mR)) := [[mi (.iconst 0) 1, mi (.istore 4) 2, mz, mi (.iconst 0) 1, mi (.istore 5) 2, mz, mi (.aload 0) 1, mi (.iconst (-1)) 1, mj (.putfield 519) 3 12 96 169, mz, mz, mi (.aload 0) 1, mj (.getfield 481) 3 12 78 156, mz, mz, mi (.iconst 1) 1],
  [mi .isub 1, mi (.istore 6) 2, mz, mi (.iload 6) 2, mz, mi (.ifCond .lt 92) 3, mz, mz, mi (.iload 4) 2, mz, mi (.iconst 2) 1, mi (.if_icmp .ge 86) 3, mz, mz, mi (.aload 0) 1, mj (.getfield 193) 3 12 79 61],
  [mz, mz, mi (.iload 6) 2, mz, mi .iaload 1, mi (.iload 1) 1, mi (.if_icmp .ne 69) 3, mz, mz, mi (.aload 0) 1, mj (.getfield 196) 3 12 80 62, mz, mz, mi (.iload 6) 2, mz, mi .iaload 1],
  [mi (.iload 3) 1, mi (.if_icmp .gt 58) 3, mz, mz, mi (.aload 0) 1, mj (.getfield 199) 3 12 81 63, mz, mz, mi (.iload 6) 2, mz, mi .iaload 1, mi (.aload 0) 1, mj (.getfield 149) 3 12 57 47, mz, mz, mi (.iload 2) 1],
  [mi .iaload 1, mi (.iconst 24) 2, mz, mi .idiv 1, mi (.if_icmp .le 6) 3, mz, mz, mi (.goto 36) 3, mz, mz, mi (.aload 0) 1, mi (.iload 6) 2, mz, mj (.invokevirtual 516) 3 266 1 168, mz, mz],
  [mi (.istore 7) 2, mz, mi (.iload 4) 2, mz, mi (.ifCond .eq 10) 3, mz, mz, mi (.iload 7) 2, mz, mi (.iload 5) 2, mz, mi (.if_icmp .ge 13) 3, mz, mz, mi (.iload 7) 2, mz],
  [mi (.istore 5) 2, mz, mi (.aload 0) 1, mi (.iload 6) 2, mz, mj (.putfield 519) 3 12 96 169, mz, mz, mi (.iinc 4 1) 3, mz, mz, mi (.iinc 6 (-1)) 3, mz, mz, mi (.goto (-91)) 3, mz],
  [mz, mi (.iload 5) 2, mz, mi .ireturn 1]]
def kX12_bill : List (List (Option mR)) := [[mi (.aload 0) 1, mi (.iload 1) 1, mj (.invokevirtual 318) 3 216 1 101, mz, mz, mi (.ifCond .eq 27) 3, mz, mz, mi (.iload 2) 1, mj (.invokestatic 246) 3 181 1 77, mz, mz, mi (.ifCond .eq 20) 3, mz, mz, mi (.iload 3) 1],
  [mi (.iconst 0) 1, mi (.iconst 5) 1, mj (.invokestatic 224) 3 180 3 70, mz, mz, mi (.ifCond .eq 11) 3, mz, mz, mi (.aload 0) 1, mi (.iload 1) 1, mj (.invokevirtual 284) 3 236 1 90, mz, mz, mi (.ifCond .ne 7) 3, mz, mz],
  [mj (.iconst (-2000000000)) 3 0 0 86, mz, mz, mi .ireturn 1, mi (.aload 0) 1, mi (.iload 1) 1, mi (.aload 0) 1, mi (.iload 1) 1, mi (.iload 3) 1, mi (.iconst 3) 1, mi (.if_icmp .ne 7) 3, mz, mz, mi (.iconst 0) 1, mi (.goto 13) 3, mz],
  [mz, mi (.iload 3) 1, mi (.iconst 4) 1, mi (.if_icmp .ne 7) 3, mz, mz, mi (.iconst 1) 1, mi (.goto 4) 3, mz, mz, mi (.iconst 2) 1, mj (.invokevirtual 388) 3 244 2 124, mz, mz, mi (.aload 0) 1, mi (.iload 1) 1],
  [mj (.invokevirtual 382) 3 241 1 122, mz, mz, mj (.invokevirtual 513) 3 273 3 167, mz, mz, mi (.iload 3) 1, mi (.iconst 1) 1, mi (.if_icmp .ne 11) 3, mz, mz, mi (.aload 0) 1, mi (.iconst 1) 1, mi (.iload 1) 1, mi (.iload 2) 1, mj (.invokevirtual 522) 3 275 3 170],
  [mz, mz, mi .ireturn 1, mi (.aload 0) 1, mi (.iconst 0) 1, mi (.iload 1) 1, mi (.iload 2) 1, mj (.invokevirtual 522) 3 275 3 170, mz, mz, mi (.istore 4) 2, mz, mi (.iload 3) 1, mi (.iconst 5) 1, mi (.if_icmp .ne 8) 3, mz],
  [mz, mi (.aload 0) 1, mj (.getfield 519) 3 12 96 169, mz, mz, mi .ireturn 1, mi (.iload 3) 1, mi (.iconst 2) 1, mi (.if_icmp .ne 16) 3, mz, mz, mi (.iload 4) 2, mz, mi (.aload 0) 1, mi (.iconst 1) 1, mi (.iload 1) 1],
  [mi (.iload 2) 1, mj (.invokevirtual 522) 3 275 3 170, mz, mz, mi .iadd 1, mi (.goto 5) 3, mz, mz, mi (.iload 4) 2, mz, mi .ireturn 1]]
def kX12_next : List (List (Option mR)) := [[mi (.aload 0) 1, mi (.iload 1) 1, mj (.invokevirtual 318) 3 216 1 101, mz, mz, mi (.ifCond .eq 13) 3, mz, mz, mi (.iload 2) 1, mi (.iconst 1) 1, mi (.iconst 60) 2, mz, mj (.invokestatic 224) 3 180 3 70, mz, mz, mi (.ifCond .ne 5) 3],
  [mz, mz, mi (.iconst (-1)) 1, mi .ireturn 1, mi (.aload 0) 1, mi (.iload 1) 1, mj (.invokevirtual 284) 3 236 1 90, mz, mz, mi (.ifCond .ne 6) 3, mz, mz, mi (.iconst (-2)) 2, mz, mi .ireturn 1, mi (.aload 0) 1],
  [mi (.iload 1) 1, mi (.iload 2) 1, mi (.iload 2) 1, mj (.invokevirtual 513) 3 273 3 167, mz, mz, mi (.aload 0) 1, mi (.iconst 0) 1, mi (.iload 1) 1, mi (.aload 0) 1, mj (.invokevirtual 487) 3 182 0 158, mz, mz, mj (.invokevirtual 522) 3 275 3 170, mz, mz],
  [mi (.istore 3) 1, mi (.iload 2) 1, mi (.iconst 1) 1, mi .iadd 1, mi (.istore 4) 2, mz, mi (.iload 4) 2, mz, mi (.iload 2) 1, mi (.iconst 6) 2, mz, mi .iadd 1, mi (.if_icmp .gt 35) 3, mz, mz, mi (.aload 0) 1],
  [mi (.iload 1) 1, mi (.iload 4) 2, mz, mi (.iload 4) 2, mz, mj (.invokevirtual 513) 3 273 3 167, mz, mz, mi (.aload 0) 1, mi (.iconst 0) 1, mi (.iload 1) 1, mi (.aload 0) 1, mj (.invokevirtual 487) 3 182 0 158, mz, mz, mj (.invokevirtual 522) 3 275 3 170],
  [mz, mz, mi (.iload 3) 1, mi (.if_icmp .ge 6) 3, mz, mz, mi (.iload 4) 2, mz, mi .ireturn 1, mi (.iinc 4 1) 3, mz, mz, mi (.goto (-38)) 3, mz, mz, mi (.iconst (-2)) 2],
  [mz, mi .ireturn 1]]
def kX12_mayTell : List (List (Option mR)) := [[mi (.iload 2) 1, mi (.ifCond .ne 29) 3, mz, mz, mi (.aload 0) 1, mj (.getfield 143) 3 12 55 45, mz, mz, mi (.iload 1) 1, mi .iaload 1, mi (.iconst 1) 1, mi (.if_icmp .eq 13) 3, mz, mz, mi (.aload 0) 1, mj (.getfield 143) 3 12 55 45],
  [mz, mz, mi (.iload 1) 1, mi .iaload 1, mi (.iconst 2) 1, mi (.if_icmp .ne 7) 3, mz, mz, mi (.iconst 1) 1, mi (.goto 4) 3, mz, mz, mi (.iconst 0) 1, mi .ireturn 1, mi (.aload 0) 1, mj (.getfield 143) 3 12 55 45],
  [mz, mz, mi (.iload 1) 1, mi .iaload 1, mi (.iconst 3) 1, mi (.if_icmp .ne 22) 3, mz, mz, mi (.aload 0) 1, mj (.getfield 77) 3 12 27 23, mz, mz, mi (.aload 0) 1, mj (.getfield 146) 3 12 56 46, mz, mz],
  [mi (.iload 1) 1, mi .iaload 1, mi .iaload 1, mi (.iload 1) 1, mi (.if_icmp .ne 7) 3, mz, mz, mi (.iconst 1) 1, mi (.goto 4) 3, mz, mz, mi (.iconst 0) 1, mi .ireturn 1]]
def kX12_looked : List (List (Option mR)) := [[mi (.aload 0) 1, mi (.iload 1) 1, mj (.invokevirtual 318) 3 216 1 101, mz, mz, mi (.ifCond .eq 23) 3, mz, mz, mi (.iload 2) 1, mi (.iconst 0) 1, mi (.iconst 1) 1, mj (.invokestatic 224) 3 180 3 70, mz, mz, mi (.ifCond .eq 14) 3, mz],
  [mz, mi (.iload 3) 1, mi (.iconst 0) 1, mj (.iconst 65535) 3 0 0 171, mz, mz, mj (.invokestatic 224) 3 180 3 70, mz, mz, mi (.ifCond .ne 5) 3, mz, mz, mi (.iconst (-1)) 1, mi .ireturn 1, mi (.aload 0) 1, mi (.iload 1) 1],
  [mi (.iload 2) 1, mj (.invokevirtual 526) 3 278 2 172, mz, mz, mi (.ifCond .eq 16) 3, mz, mz, mi (.aload 0) 1, mj (.getfield 158) 3 12 60 50, mz, mz, mi (.iconst 2) 1, mi (.iload 1) 1, mi .imul 1, mi (.iload 2) 1, mi .iadd 1],
  [mi .iaload 1, mi (.ifCond .lt 6) 3, mz, mz, mi (.iconst (-2)) 2, mz, mi .ireturn 1, mi (.aload 0) 1, mj (.getfield 158) 3 12 60 50, mz, mz, mi (.iconst 2) 1, mi (.iload 1) 1, mi .imul 1, mi (.iload 2) 1, mi .iadd 1],
  [mi (.iload 3) 1, mi .iastore 1, mi (.iconst 1) 1, mi .ireturn 1]]
def kX12_fuel : List (List (Option mR)) := [[mi (.aload 0) 1, mi (.iload 1) 1, mj (.invokevirtual 318) 3 216 1 101, mz, mz, mi (.ifCond .eq 23) 3, mz, mz, mi (.iload 2) 1, mi (.iconst 0) 1, mi (.iconst 1) 1, mj (.invokestatic 224) 3 180 3 70, mz, mz, mi (.ifCond .eq 14) 3, mz],
  [mz, mi (.iload 3) 1, mi (.iconst 0) 1, mi (.iconst 999) 3, mz, mz, mj (.invokestatic 224) 3 180 3 70, mz, mz, mi (.ifCond .ne 5) 3, mz, mz, mi (.iconst (-1)) 1, mi .ireturn 1, mi (.aload 0) 1, mi (.iload 1) 1],
  [mi (.iload 2) 1, mj (.invokevirtual 526) 3 278 2 172, mz, mz, mi (.ifCond .eq 16) 3, mz, mz, mi (.aload 0) 1, mj (.getfield 161) 3 12 61 51, mz, mz, mi (.iconst 2) 1, mi (.iload 1) 1, mi .imul 1, mi (.iload 2) 1, mi .iadd 1],
  [mi .iaload 1, mi (.ifCond .lt 6) 3, mz, mz, mi (.iconst (-2)) 2, mz, mi .ireturn 1, mi (.aload 0) 1, mj (.getfield 161) 3 12 61 51, mz, mz, mi (.iconst 2) 1, mi (.iload 1) 1, mi .imul 1, mi (.iload 2) 1, mi .iadd 1],
  [mi (.iload 3) 1, mi .iastore 1, mi (.iconst 1) 1, mi .ireturn 1]]
def kX12_harm : List (List (Option mR)) := [[mi (.aload 0) 1, mi (.iload 1) 1, mj (.invokevirtual 318) 3 216 1 101, mz, mz, mi (.ifCond .eq 12) 3, mz, mz, mi (.iload 2) 1, mi (.iconst 0) 1, mi (.iconst 2) 1, mj (.invokestatic 224) 3 180 3 70, mz, mz, mi (.ifCond .ne 5) 3, mz],
  [mz, mi (.iconst (-1)) 1, mi .ireturn 1, mi (.iload 2) 1, mi (.ifCond .ne 11) 3, mz, mz, mi (.aload 0) 1, mi (.iload 1) 1, mj (.invokevirtual 495) 3 270 1 161, mz, mz, mi (.goto 21) 3, mz, mz, mi (.iload 2) 1],
  [mi (.iconst 1) 1, mi (.if_icmp .ne 11) 3, mz, mz, mi (.aload 0) 1, mi (.iload 1) 1, mj (.invokevirtual 510) 3 271 1 166, mz, mz, mi (.goto 8) 3, mz, mz, mi (.aload 0) 1, mi (.iload 1) 1, mj (.invokevirtual 507) 3 272 1 165, mz],
  [mz, mi .ireturn 1]]
def kX12_share : List (List (Option mR)) := [[mi (.aload 0) 1, mi (.iload 1) 1, mj (.invokevirtual 318) 3 216 1 101, mz, mz, mi (.ifCond .eq 32) 3, mz, mz, mi (.aload 0) 1, mi (.iload 1) 1, mj (.invokevirtual 284) 3 236 1 90, mz, mz, mi (.ifCond .eq 24) 3, mz, mz],
  [mi (.iload 2) 1, mi (.iconst 0) 1, mi (.aload 0) 1, mj (.getfield 83) 3 12 29 25, mz, mz, mi (.aload 0) 1, mj (.getfield 146) 3 12 56 46, mz, mz, mi (.iload 1) 1, mi .iaload 1, mi .iaload 1, mi (.iconst 1) 1, mi .isub 1, mj (.invokestatic 224) 3 180 3 70],
  [mz, mz, mi (.ifCond .ne 7) 3, mz, mz, mj (.iconst (-2000000000)) 3 0 0 86, mz, mz, mi .ireturn 1, mi (.aload 0) 1, mj (.getfield 146) 3 12 56 46, mz, mz, mi (.iload 1) 1, mi .iaload 1, mi (.istore 3) 1],
  [mi (.aload 0) 1, mi (.iload 1) 1, mi (.iconst 2) 1, mj (.invokevirtual 388) 3 244 2 124, mz, mz, mi (.istore 4) 2, mz, mi (.aload 0) 1, mj (.getfield 89) 3 12 31 27, mz, mz, mi (.iconst 5) 1, mi (.iload 3) 1, mi .imul 1, mi (.iload 2) 1],
  [mi .iadd 1, mi .iaload 1, mi (.iload 4) 2, mz, mi .imul 1, mi (.iload 2) 1, mi (.iconst 1) 1, mi .iadd 1, mi (.aload 0) 1, mj (.getfield 83) 3 12 29 25, mz, mz, mi (.iload 3) 1, mi .iaload 1, mi (.if_icmp .ge 21) 3, mz],
  [mz, mi (.aload 0) 1, mj (.getfield 89) 3 12 31 27, mz, mz, mi (.iconst 5) 1, mi (.iload 3) 1, mi .imul 1, mi (.iload 2) 1, mi .iadd 1, mi (.iconst 1) 1, mi .iadd 1, mi .iaload 1, mi (.iload 4) 2, mz, mi .imul 1],
  [mi (.goto 4) 3, mz, mz, mi (.iconst 0) 1, mi .isub 1, mi .ireturn 1]]
def kX12_chain : List (List (Option mR)) := [[mi (.aload 0) 1, mi (.iload 1) 1, mj (.invokevirtual 266) 3 191 1 84, mz, mz, mi (.ifCond .eq 28) 3, mz, mz, mi (.iload 2) 1, mi (.iconst 0) 1, mi (.aload 0) 1, mj (.getfield 83) 3 12 29 25, mz, mz, mi (.iload 1) 1, mi .iaload 1],
  [mi (.iconst 1) 1, mi .isub 1, mj (.invokestatic 224) 3 180 3 70, mz, mz, mi (.ifCond .eq 12) 3, mz, mz, mi (.iload 3) 1, mi (.iconst 0) 1, mi (.iconst 1) 1, mj (.invokestatic 224) 3 180 3 70, mz, mz, mi (.ifCond .ne 5) 3, mz],
  [mz, mi (.iconst (-1)) 1, mi .ireturn 1, mi (.iload 3) 1, mi (.ifCond .ne 14) 3, mz, mz, mi (.aload 0) 1, mj (.getfield 86) 3 12 30 26, mz, mz, mi (.iconst 5) 1, mi (.iload 1) 1, mi .imul 1, mi (.iload 2) 1, mi .iadd 1],
  [mi .iaload 1, mi .ireturn 1, mi (.iload 2) 1, mi (.iconst 1) 1, mi .iadd 1, mi (.aload 0) 1, mj (.getfield 83) 3 12 29 25, mz, mz, mi (.iload 1) 1, mi .iaload 1, mi (.if_icmp .ge 32) 3, mz, mz, mi (.aload 0) 1, mj (.getfield 89) 3 12 31 27],
  [mz, mz, mi (.iconst 5) 1, mi (.iload 1) 1, mi .imul 1, mi (.iload 2) 1, mi .iadd 1, mi .iaload 1, mi (.aload 0) 1, mj (.getfield 89) 3 12 31 27, mz, mz, mi (.iconst 5) 1, mi (.iload 1) 1, mi .imul 1, mi (.iload 2) 1],
  [mi .iadd 1, mi (.iconst 1) 1, mi .iadd 1, mi .iaload 1, mi (.if_icmp .ge 7) 3, mz, mz, mi (.iconst 1) 1, mi (.goto 4) 3, mz, mz, mi (.iconst 0) 1, mi .ireturn 1]]
def kX12_rank : List (List (Option mR)) := [[mi (.aload 0) 1, mi (.iload 1) 1, mj (.invokevirtual 266) 3 191 1 84, mz, mz, mi (.ifCond .eq 41) 3, mz, mz, mi (.iload 2) 1, mi (.iconst 0) 1, mi (.aload 0) 1, mj (.getfield 83) 3 12 29 25, mz, mz, mi (.iload 1) 1, mi .iaload 1],
  [mi (.iconst 1) 1, mi .isub 1, mj (.invokestatic 224) 3 180 3 70, mz, mz, mi (.ifCond .eq 25) 3, mz, mz, mi (.aload 0) 1, mj (.getfield 86) 3 12 30 26, mz, mz, mi (.iconst 5) 1, mi (.iload 1) 1, mi .imul 1, mi (.aload 0) 1],
  [mj (.getfield 83) 3 12 29 25, mz, mz, mi (.iload 1) 1, mi .iaload 1, mi .iadd 1, mi (.iconst 1) 1, mi .isub 1, mi (.iload 2) 1, mi .isub 1, mi .iaload 1, mi (.goto 4) 3, mz, mz, mi (.iconst (-1)) 1, mi .ireturn 1]]
def kX12_idleOf : List (List (Option mR)) := [[mi (.iconst 0) 1, mi (.istore 3) 1, mi (.iconst 0) 1, mi (.istore 4) 2, mz, mi (.iload 4) 2, mz, mi (.aload 0) 1, mj (.getfield 252) 3 12 15 79, mz, mz, mi (.if_icmp .ge 48) 3, mz, mz, mi (.iload 3) 1, mi (.aload 0) 1],
  [mj (.getfield 44) 3 12 16 12, mz, mz, mi (.iload 4) 2, mz, mi .iaload 1, mi (.iload 1) 1, mi (.if_icmp .ne 27) 3, mz, mz, mi (.aload 0) 1, mj (.getfield 53) 3 12 19 15, mz, mz, mi (.iload 4) 2, mz],
  [mi .iaload 1, mi (.iload 2) 1, mi (.if_icmp .ne 16) 3, mz, mz, mi (.aload 0) 1, mi (.iload 4) 2, mz, mj (.invokevirtual 274) 3 204 1 87, mz, mz, mi (.ifCond .eq 7) 3, mz, mz, mi (.iconst 1) 1, mi (.goto 4) 3],
  [mz, mz, mi (.iconst 0) 1, mi .iadd 1, mi (.istore 3) 1, mi (.iinc 4 1) 3, mz, mz, mi (.goto (-51)) 3, mz, mz, mi (.iload 3) 1, mi .ireturn 1]]
def kX12_wantedOf : List (List (Option mR)) := [[mi (.iconst 0) 1, mi (.istore 3) 1, mi (.iconst 0) 1, mi (.istore 4) 2, mz, mi (.iload 4) 2, mz, mi (.aload 0) 1, mj (.getfield 302) 3 12 48 96, mz, mz, mi (.if_icmp .ge 56) 3, mz, mz, mi (.iload 3) 1, mi (.aload 0) 1],
  [mj (.getfield 128) 3 12 50 40, mz, mz, mi (.iload 4) 2, mz, mi .iaload 1, mi (.iload 1) 1, mi (.if_icmp .ne 35) 3, mz, mz, mi (.aload 0) 1, mi (.iload 4) 2, mz, mj (.invokevirtual 315) 3 219 1 100, mz, mz],
  [mi (.iload 2) 1, mi (.if_icmp .ne 25) 3, mz, mz, mi (.aload 0) 1, mj (.getfield 228) 3 12 1 71, mz, mz, mi (.aload 0) 1, mj (.getfield 140) 3 12 54 44, mz, mz, mi (.iload 4) 2, mz, mi .iaload 1, mi .isub 1],
  [mi (.iconst 720) 3, mz, mz, mi (.if_icmp .ge 7) 3, mz, mz, mi (.iconst 1) 1, mi (.goto 4) 3, mz, mz, mi (.iconst 0) 1, mi .iadd 1, mi (.istore 3) 1, mi (.iinc 4 1) 3, mz, mz],
  [mi (.goto (-59)) 3, mz, mz, mi (.iload 3) 1, mi .ireturn 1]]
def kX12_idle : List (List (Option mR)) := [[mi (.aload 0) 1, mi (.iload 1) 1, mj (.invokevirtual 256) 3 190 1 81, mz, mz, mi (.ifCond .eq 20) 3, mz, mz, mi (.aload 0) 1, mi (.iload 2) 1, mj (.invokevirtual 242) 3 183 1 76, mz, mz, mi (.ifCond .eq 12) 3, mz, mz],
  [mi (.iload 3) 1, mi (.iconst 0) 1, mi (.iconst 1) 1, mj (.invokestatic 224) 3 180 3 70, mz, mz, mi (.ifCond .ne 7) 3, mz, mz, mi (.iconst (-1)) 1, mi (.goto 22) 3, mz, mz, mi (.iload 3) 1, mi (.ifCond .ne 12) 3, mz],
  [mz, mi (.aload 0) 1, mi (.iload 1) 1, mi (.iload 2) 1, mj (.invokevirtual 529) 3 285 2 173, mz, mz, mi (.goto 9) 3, mz, mz, mi (.aload 0) 1, mi (.iload 1) 1, mi (.iload 2) 1, mj (.invokevirtual 532) 3 286 2 174, mz, mz],
  [mi .ireturn 1]]
def kX12_move : List (List (Option mR)) := [[mi (.aload 0) 1, mi (.iload 1) 1, mj (.invokevirtual 256) 3 190 1 81, mz, mz, mi (.ifCond .ne 5) 3, mz, mz, mi (.iconst (-1)) 1, mi .ireturn 1, mi (.iconst (-1)) 1, mi (.istore 2) 1, mi (.iconst (-1)) 1, mi (.istore 3) 1, mi (.iconst 0) 1, mi (.istore 4) 2],
  [mz, mi (.iconst 0) 1, mi (.istore 5) 2, mz, mi (.iconst 0) 1, mi (.istore 6) 2, mz, mi (.iload 6) 2, mz, mi (.aload 0) 1, mj (.getfield 231) 3 12 2 72, mz, mz, mi (.if_icmp .ge 69) 3, mz, mz],
  [mi (.aload 0) 1, mj (.getfield 7) 3 12 3 1, mz, mz, mi (.iload 6) 2, mz, mi .baload 1, mi (.ifCond .ne 6) 3, mz, mz, mi (.goto 50) 3, mz, mz, mi (.aload 0) 1, mi (.iload 1) 1, mi (.iload 6) 2],
  [mz, mj (.invokevirtual 529) 3 285 2 173, mz, mz, mi (.aload 0) 1, mi (.iload 1) 1, mi (.iload 6) 2, mz, mj (.invokevirtual 532) 3 286 2 174, mz, mz, mi .isub 1, mi (.istore 7) 2, mz, mi (.iload 7) 2, mz],
  [mi (.iload 4) 2, mz, mi (.if_icmp .le 10) 3, mz, mz, mi (.iload 7) 2, mz, mi (.istore 4) 2, mz, mi (.iload 6) 2, mz, mi (.istore 2) 1, mi (.iload 7) 2, mz, mi .ineg 1, mi (.iload 5) 2],
  [mz, mi (.if_icmp .le 11) 3, mz, mz, mi (.iload 7) 2, mz, mi .ineg 1, mi (.istore 5) 2, mz, mi (.iload 6) 2, mz, mi (.istore 3) 1, mi (.iinc 6 1) 3, mz, mz, mi (.goto (-72)) 3],
  [mz, mz, mi (.iload 2) 1, mi (.ifCond .lt 7) 3, mz, mz, mi (.iload 3) 1, mi (.ifCond .ge 8) 3, mz, mz, mi (.iconst (-2)) 2, mz, mi (.goto 9) 3, mz, mz, mi (.iconst 100) 2],
  [mz, mi (.iload 2) 1, mi .imul 1, mi (.iload 3) 1, mi .iadd 1, mi .ireturn 1]]
def kX12_count : List (List (Option mR)) := [[mi (.iconst 0) 1, mi (.istore 2) 1, mi (.iload 1) 1, mi (.tableswitch 262 0 13 #[69, 74, 79, 84, 89, 94, 99, 104, 109, 114, 150, 186, 191, 226]) 69, mz, mz, mz, mz, mz, mz, mz, mz, mz, mz, mz, mz],
  [mz, mz, mz, mz, mz, mz, mz, mz, mz, mz, mz, mz, mz, mz, mz, mz],
  [mz, mz, mz, mz, mz, mz, mz, mz, mz, mz, mz, mz, mz, mz, mz, mz],
  [mz, mz, mz, mz, mz, mz, mz, mz, mz, mz, mz, mz, mz, mz, mz, mz],
  [mz, mz, mz, mz, mz, mz, mz, mz, mi (.aload 0) 1, mj (.getfield 231) 3 12 2 72, mz, mz, mi .ireturn 1, mi (.aload 0) 1, mj (.getfield 249) 3 12 7 78, mz],
  [mz, mi .ireturn 1, mi (.aload 0) 1, mj (.getfield 252) 3 12 15 79, mz, mz, mi .ireturn 1, mi (.aload 0) 1, mj (.getfield 299) 3 12 45 95, mz, mz, mi .ireturn 1, mi (.aload 0) 1, mj (.getfield 302) 3 12 48 96, mz, mz],
  [mi .ireturn 1, mi (.aload 0) 1, mj (.getfield 228) 3 12 1 71, mz, mz, mi .ireturn 1, mi (.aload 0) 1, mj (.getfield 481) 3 12 78 156, mz, mz, mi .ireturn 1, mi (.aload 0) 1, mj (.getfield 290) 3 12 33 92, mz, mz, mi .ireturn 1],
  [mi (.aload 0) 1, mj (.getfield 293) 3 12 41 93, mz, mz, mi .ireturn 1, mi (.iconst 0) 1, mi (.istore 3) 1, mi (.iload 3) 1, mi (.aload 0) 1, mj (.getfield 252) 3 12 15 79, mz, mz, mi (.if_icmp .ge 27) 3, mz, mz, mi (.iload 2) 1],
  [mi (.aload 0) 1, mj (.getfield 50) 3 12 18 14, mz, mz, mi (.iload 3) 1, mi .iaload 1, mi (.iconst 2) 1, mi (.if_icmp .ne 7) 3, mz, mz, mi (.iconst 1) 1, mi (.goto 4) 3, mz, mz, mi (.iconst 0) 1, mi .iadd 1],
  [mi (.istore 2) 1, mi (.iinc 3 1) 3, mz, mz, mi (.goto (-29)) 3, mz, mz, mi (.iload 2) 1, mi .ireturn 1, mi (.iconst 0) 1, mi (.istore 3) 1, mi (.iload 3) 1, mi (.aload 0) 1, mj (.getfield 252) 3 12 15 79, mz, mz],
  [mi (.if_icmp .ge 27) 3, mz, mz, mi (.iload 2) 1, mi (.aload 0) 1, mj (.getfield 50) 3 12 18 14, mz, mz, mi (.iload 3) 1, mi .iaload 1, mi (.iconst 1) 1, mi (.if_icmp .ne 7) 3, mz, mz, mi (.iconst 1) 1, mi (.goto 4) 3],
  [mz, mz, mi (.iconst 0) 1, mi .iadd 1, mi (.istore 2) 1, mi (.iinc 3 1) 3, mz, mz, mi (.goto (-29)) 3, mz, mz, mi (.iload 2) 1, mi .ireturn 1, mi (.aload 0) 1, mj (.getfield 391) 3 12 77 125, mz],
  [mz, mi .ireturn 1, mi (.iconst 0) 1, mi (.istore 3) 1, mi (.iload 3) 1, mi (.aload 0) 1, mj (.getfield 302) 3 12 48 96, mz, mz, mi (.if_icmp .ge 26) 3, mz, mz, mi (.iload 2) 1, mi (.aload 0) 1, mj (.getfield 143) 3 12 55 45, mz],
  [mz, mi (.iload 3) 1, mi .iaload 1, mi (.ifCond .ne 7) 3, mz, mz, mi (.iconst 1) 1, mi (.goto 4) 3, mz, mz, mi (.iconst 0) 1, mi .iadd 1, mi (.istore 2) 1, mi (.iinc 3 1) 3, mz, mz],
  [mi (.goto (-28)) 3, mz, mz, mi (.iload 2) 1, mi .ireturn 1, mi (.iconst 0) 1, mi (.istore 3) 1, mi (.iload 3) 1, mi (.aload 0) 1, mj (.getfield 302) 3 12 48 96, mz, mz, mi (.if_icmp .ge 27) 3, mz, mz, mi (.iload 2) 1],
  [mi (.aload 0) 1, mj (.getfield 143) 3 12 55 45, mz, mz, mi (.iload 3) 1, mi .iaload 1, mi (.iconst 3) 1, mi (.if_icmp .ne 7) 3, mz, mz, mi (.iconst 1) 1, mi (.goto 4) 3, mz, mz, mi (.iconst 0) 1, mi .iadd 1],
  [mi (.istore 2) 1, mi (.iinc 3 1) 3, mz, mz, mi (.goto (-29)) 3, mz, mz, mi (.iload 2) 1, mi .ireturn 1, mi (.iconst (-1)) 1, mi .ireturn 1]]
def kJ7_fill_d0a16 : List (List (Option mR)) := [[mi (.iconst 0) 1, mi (.istore 3) 1, mi (.aload 0) 1, mi .arraylength 1, mi (.istore 4) 2, mz, mi (.iload 3) 1, mi (.iload 4) 2, mz, mi (.if_icmp .ge 13) 3, mz, mz, mi (.aload 0) 1, mi (.iload 3) 1, mi (.lload 1) 1, mi .lastore 1],
  [mi (.iinc 3 1) 3, mz, mz, mi (.goto (-13)) 3, mz, mz, mi .return_ 1]]
def kJ7_copyOf_59c91 : List (List (Option mR)) := [[mi (.iload 1) 1, mi (.aload 0) 1, mi .arraylength 1, mi (.if_icmp .ne 11) 3, mz, mz, mi (.aload 0) 1, mz, mz, mz, mz, mz, mz, mi .areturn 1, mi (.iload 1) 1, mi (.newarray .int) 2],
  [mz, mi (.astore 2) 1, mi (.aload 0) 1, mi (.iconst 0) 1, mi (.aload 2) 1, mi (.iconst 0) 1, mi (.aload 0) 1, mi .arraylength 1, mi (.iload 1) 1, mz, mz, mz, mz, mz, mz, mi (.aload 2) 1],
  [mi .areturn 1]]
def kL_law : List (List (Option mR)) := [[mj (.new 7) 3 11 0 0, mz, mz, mi .dup 1, mj (.invokespecial 9) 3 117 0 1, mz, mz, mi (.astore 1) 1, mj (.new 10) 3 12 0 2, mz, mz, mi .dup 1, mj (.invokespecial 12) 3 179 0 3, mz, mz, mi (.astore 2) 1],
  [mi (.iconst 0) 1, mi (.istore 3) 1, mi (.iload 3) 1, mi (.aload 0) 1, mi .arraylength 1, mi (.iconst 6) 2, mz, mi .isub 1, mi (.if_icmp .gt 1846) 3, mz, mz, mi (.aload 0) 1, mi (.iload 3) 1, mi .iaload 1, mi (.iconst 63) 2, mz],
  [mi .iand 1, mi (.tableswitch 1831 0 47 #[207, 230, 273, 306, 329, 362, 415, 458, 501, 544, 587, 620, 653, 686, 719, 752, 785, 818, 851, 914, 947, 970, 983, 996, 1009, 1032, 1055, 1078, 1111, 1134, 1167, 1210, 1243, 1276, 1339, 1362, 1395, 1438, 1481, 1514, 1557, 1600, 1633, 1666, 1709, 1742, 1785, 1808]) 207, mz, mz, mz, mz, mz, mz, mz, mz, mz, mz, mz, mz, mz, mz],
  [mz, mz, mz, mz, mz, mz, mz, mz, mz, mz, mz, mz, mz, mz, mz, mz],
  [mz, mz, mz, mz, mz, mz, mz, mz, mz, mz, mz, mz, mz, mz, mz, mz],
  [mz, mz, mz, mz, mz, mz, mz, mz, mz, mz, mz, mz, mz, mz, mz, mz],
  [mz, mz, mz, mz, mz, mz, mz, mz, mz, mz, mz, mz, mz, mz, mz, mz],
  [mz, mz, mz, mz, mz, mz, mz, mz, mz, mz, mz, mz, mz, mz, mz, mz],
  [mz, mz, mz, mz, mz, mz, mz, mz, mz, mz, mz, mz, mz, mz, mz, mz],
  [mz, mz, mz, mz, mz, mz, mz, mz, mz, mz, mz, mz, mz, mz, mz, mz],
  [mz, mz, mz, mz, mz, mz, mz, mz, mz, mz, mz, mz, mz, mz, mz, mz],
  [mz, mz, mz, mz, mz, mz, mz, mz, mz, mz, mz, mz, mz, mz, mz, mz],
  [mz, mz, mz, mz, mz, mz, mz, mz, mz, mz, mz, mz, mz, mz, mz, mz],
  [mz, mz, mz, mz, mz, mz, mz, mz, mz, mz, mz, mz, mz, mz, mz, mz],
  [mz, mz, mz, mz, mz, mz, mz, mz, mz, mz, mz, mz, mz, mz, mz, mz],
  [mi (.aload 1) 1, mi (.aload 0) 1, mi (.iload 3) 1, mi (.iconst 1) 1, mi .iadd 1, mi .iaload 1, mj (.invokevirtual 13) 3 118 1 4, mz, mz, mi (.aload 2) 1, mi (.aload 0) 1, mi (.iload 3) 1, mi (.iconst 1) 1, mi .iadd 1, mi .iaload 1, mj (.invokevirtual 17) 3 186 1 5],
  [mz, mz, mi (.if_icmp .eq 1606) 3, mz, mz, mi (.iconst 0) 1, mi .ireturn 1, mi (.aload 1) 1, mi (.aload 0) 1, mi (.iload 3) 1, mi (.iconst 1) 1, mi .iadd 1, mi .iaload 1, mi (.aload 0) 1, mi (.iload 3) 1, mi (.iconst 2) 1],
  [mi .iadd 1, mi .iaload 1, mi (.aload 0) 1, mi (.iload 3) 1, mi (.iconst 3) 1, mi .iadd 1, mi .iaload 1, mj (.invokevirtual 18) 3 119 3 6, mz, mz, mi (.aload 2) 1, mi (.aload 0) 1, mi (.iload 3) 1, mi (.iconst 1) 1, mi .iadd 1, mi .iaload 1],
  [mi (.aload 0) 1, mi (.iload 3) 1, mi (.iconst 2) 1, mi .iadd 1, mi .iaload 1, mi (.aload 0) 1, mi (.iload 3) 1, mi (.iconst 3) 1, mi .iadd 1, mi .iaload 1, mj (.invokevirtual 22) 3 187 3 7, mz, mz, mi (.if_icmp .eq 1563) 3, mz, mz],
  [mi (.iconst 0) 1, mi .ireturn 1, mi (.aload 1) 1, mi (.aload 0) 1, mi (.iload 3) 1, mi (.iconst 1) 1, mi .iadd 1, mi .iaload 1, mi (.aload 0) 1, mi (.iload 3) 1, mi (.iconst 2) 1, mi .iadd 1, mi .iaload 1, mj (.invokevirtual 23) 3 120 2 8, mz, mz],
  [mi (.aload 2) 1, mi (.aload 0) 1, mi (.iload 3) 1, mi (.iconst 1) 1, mi .iadd 1, mi .iaload 1, mi (.aload 0) 1, mi (.iload 3) 1, mi (.iconst 2) 1, mi .iadd 1, mi .iaload 1, mj (.invokevirtual 27) 3 188 2 9, mz, mz, mi (.if_icmp .eq 1530) 3, mz],
  [mz, mi (.iconst 0) 1, mi .ireturn 1, mi (.aload 1) 1, mi (.aload 0) 1, mi (.iload 3) 1, mi (.iconst 1) 1, mi .iadd 1, mi .iaload 1, mj (.invokevirtual 28) 3 121 1 10, mz, mz, mi (.aload 2) 1, mi (.aload 0) 1, mi (.iload 3) 1, mi (.iconst 1) 1],
  [mi .iadd 1, mi .iaload 1, mj (.invokevirtual 31) 3 212 1 11, mz, mz, mi (.if_icmp .eq 1507) 3, mz, mz, mi (.iconst 0) 1, mi .ireturn 1, mi (.aload 1) 1, mi (.aload 0) 1, mi (.iload 3) 1, mi (.iconst 1) 1, mi .iadd 1, mi .iaload 1],
  [mi (.aload 0) 1, mi (.iload 3) 1, mi (.iconst 2) 1, mi .iadd 1, mi .iaload 1, mj (.invokevirtual 32) 3 122 2 12, mz, mz, mi (.aload 2) 1, mi (.aload 0) 1, mi (.iload 3) 1, mi (.iconst 1) 1, mi .iadd 1, mi .iaload 1, mi (.aload 0) 1, mi (.iload 3) 1],
  [mi (.iconst 2) 1, mi .iadd 1, mi .iaload 1, mj (.invokevirtual 35) 3 189 2 13, mz, mz, mi (.if_icmp .eq 1474) 3, mz, mz, mi (.iconst 0) 1, mi .ireturn 1, mi (.aload 1) 1, mi (.aload 0) 1, mi (.iload 3) 1, mi (.iconst 1) 1, mi .iadd 1],
  [mi .iaload 1, mi (.aload 0) 1, mi (.iload 3) 1, mi (.iconst 2) 1, mi .iadd 1, mi .iaload 1, mi (.aload 0) 1, mi (.iload 3) 1, mi (.iconst 3) 1, mi .iadd 1, mi .iaload 1, mi (.aload 0) 1, mi (.iload 3) 1, mi (.iconst 4) 1, mi .iadd 1, mi .iaload 1],
  [mj (.invokevirtual 36) 3 123 4 14, mz, mz, mi (.aload 2) 1, mi (.aload 0) 1, mi (.iload 3) 1, mi (.iconst 1) 1, mi .iadd 1, mi .iaload 1, mi (.aload 0) 1, mi (.iload 3) 1, mi (.iconst 2) 1, mi .iadd 1, mi .iaload 1, mi (.aload 0) 1, mi (.iload 3) 1],
  [mi (.iconst 3) 1, mi .iadd 1, mi .iaload 1, mi (.aload 0) 1, mi (.iload 3) 1, mi (.iconst 4) 1, mi .iadd 1, mi .iaload 1, mj (.invokevirtual 40) 3 192 4 15, mz, mz, mi (.if_icmp .eq 1421) 3, mz, mz, mi (.iconst 0) 1, mi .ireturn 1],
  [mi (.aload 1) 1, mi (.aload 0) 1, mi (.iload 3) 1, mi (.iconst 1) 1, mi .iadd 1, mi .iaload 1, mi (.aload 0) 1, mi (.iload 3) 1, mi (.iconst 2) 1, mi .iadd 1, mi .iaload 1, mi (.aload 0) 1, mi (.iload 3) 1, mi (.iconst 3) 1, mi .iadd 1, mi .iaload 1],
  [mj (.invokevirtual 41) 3 124 3 16, mz, mz, mi (.aload 2) 1, mi (.aload 0) 1, mi (.iload 3) 1, mi (.iconst 1) 1, mi .iadd 1, mi .iaload 1, mi (.aload 0) 1, mi (.iload 3) 1, mi (.iconst 2) 1, mi .iadd 1, mi .iaload 1, mi (.aload 0) 1, mi (.iload 3) 1],
  [mi (.iconst 3) 1, mi .iadd 1, mi .iaload 1, mj (.invokevirtual 44) 3 193 3 17, mz, mz, mi (.if_icmp .eq 1378) 3, mz, mz, mi (.iconst 0) 1, mi .ireturn 1, mi (.aload 1) 1, mi (.aload 0) 1, mi (.iload 3) 1, mi (.iconst 1) 1, mi .iadd 1],
  [mi .iaload 1, mi (.aload 0) 1, mi (.iload 3) 1, mi (.iconst 2) 1, mi .iadd 1, mi .iaload 1, mi (.aload 0) 1, mi (.iload 3) 1, mi (.iconst 3) 1, mi .iadd 1, mi .iaload 1, mj (.invokevirtual 45) 3 125 3 18, mz, mz, mi (.aload 2) 1, mi (.aload 0) 1],
  [mi (.iload 3) 1, mi (.iconst 1) 1, mi .iadd 1, mi .iaload 1, mi (.aload 0) 1, mi (.iload 3) 1, mi (.iconst 2) 1, mi .iadd 1, mi .iaload 1, mi (.aload 0) 1, mi (.iload 3) 1, mi (.iconst 3) 1, mi .iadd 1, mi .iaload 1, mj (.invokevirtual 48) 3 194 3 19, mz],
  [mz, mi (.if_icmp .eq 1335) 3, mz, mz, mi (.iconst 0) 1, mi .ireturn 1, mi (.aload 1) 1, mi (.aload 0) 1, mi (.iload 3) 1, mi (.iconst 1) 1, mi .iadd 1, mi .iaload 1, mi (.aload 0) 1, mi (.iload 3) 1, mi (.iconst 2) 1, mi .iadd 1],
  [mi .iaload 1, mi (.aload 0) 1, mi (.iload 3) 1, mi (.iconst 3) 1, mi .iadd 1, mi .iaload 1, mj (.invokevirtual 49) 3 126 3 20, mz, mz, mi (.aload 2) 1, mi (.aload 0) 1, mi (.iload 3) 1, mi (.iconst 1) 1, mi .iadd 1, mi .iaload 1, mi (.aload 0) 1],
  [mi (.iload 3) 1, mi (.iconst 2) 1, mi .iadd 1, mi .iaload 1, mi (.aload 0) 1, mi (.iload 3) 1, mi (.iconst 3) 1, mi .iadd 1, mi .iaload 1, mj (.invokevirtual 52) 3 198 3 21, mz, mz, mi (.if_icmp .eq 1292) 3, mz, mz, mi (.iconst 0) 1],
  [mi .ireturn 1, mi (.aload 1) 1, mi (.aload 0) 1, mi (.iload 3) 1, mi (.iconst 1) 1, mi .iadd 1, mi .iaload 1, mi (.aload 0) 1, mi (.iload 3) 1, mi (.iconst 2) 1, mi .iadd 1, mi .iaload 1, mi (.aload 0) 1, mi (.iload 3) 1, mi (.iconst 3) 1, mi .iadd 1],
  [mi .iaload 1, mj (.invokevirtual 53) 3 127 3 22, mz, mz, mi (.aload 2) 1, mi (.aload 0) 1, mi (.iload 3) 1, mi (.iconst 1) 1, mi .iadd 1, mi .iaload 1, mi (.aload 0) 1, mi (.iload 3) 1, mi (.iconst 2) 1, mi .iadd 1, mi .iaload 1, mi (.aload 0) 1],
  [mi (.iload 3) 1, mi (.iconst 3) 1, mi .iadd 1, mi .iaload 1, mj (.invokevirtual 56) 3 199 3 23, mz, mz, mi (.if_icmp .eq 1249) 3, mz, mz, mi (.iconst 0) 1, mi .ireturn 1, mi (.aload 1) 1, mi (.aload 0) 1, mi (.iload 3) 1, mi (.iconst 1) 1],
  [mi .iadd 1, mi .iaload 1, mi (.aload 0) 1, mi (.iload 3) 1, mi (.iconst 2) 1, mi .iadd 1, mi .iaload 1, mj (.invokevirtual 57) 3 128 2 24, mz, mz, mi (.aload 2) 1, mi (.aload 0) 1, mi (.iload 3) 1, mi (.iconst 1) 1, mi .iadd 1, mi .iaload 1],
  [mi (.aload 0) 1, mi (.iload 3) 1, mi (.iconst 2) 1, mi .iadd 1, mi .iaload 1, mj (.invokevirtual 60) 3 203 2 25, mz, mz, mi (.if_icmp .eq 1216) 3, mz, mz, mi (.iconst 0) 1, mi .ireturn 1, mi (.aload 1) 1, mi (.aload 0) 1, mi (.iload 3) 1],
  [mi (.iconst 1) 1, mi .iadd 1, mi .iaload 1, mi (.aload 0) 1, mi (.iload 3) 1, mi (.iconst 2) 1, mi .iadd 1, mi .iaload 1, mj (.invokevirtual 61) 3 129 2 26, mz, mz, mi (.aload 2) 1, mi (.aload 0) 1, mi (.iload 3) 1, mi (.iconst 1) 1, mi .iadd 1],
  [mi .iaload 1, mi (.aload 0) 1, mi (.iload 3) 1, mi (.iconst 2) 1, mi .iadd 1, mi .iaload 1, mj (.invokevirtual 64) 3 205 2 27, mz, mz, mi (.if_icmp .eq 1183) 3, mz, mz, mi (.iconst 0) 1, mi .ireturn 1, mi (.aload 1) 1, mi (.aload 0) 1],
  [mi (.iload 3) 1, mi (.iconst 1) 1, mi .iadd 1, mi .iaload 1, mi (.aload 0) 1, mi (.iload 3) 1, mi (.iconst 2) 1, mi .iadd 1, mi .iaload 1, mj (.invokevirtual 65) 3 130 2 28, mz, mz, mi (.aload 2) 1, mi (.aload 0) 1, mi (.iload 3) 1, mi (.iconst 1) 1],
  [mi .iadd 1, mi .iaload 1, mi (.aload 0) 1, mi (.iload 3) 1, mi (.iconst 2) 1, mi .iadd 1, mi .iaload 1, mj (.invokevirtual 68) 3 207 2 29, mz, mz, mi (.if_icmp .eq 1150) 3, mz, mz, mi (.iconst 0) 1, mi .ireturn 1, mi (.aload 1) 1],
  [mi (.aload 0) 1, mi (.iload 3) 1, mi (.iconst 1) 1, mi .iadd 1, mi .iaload 1, mi (.aload 0) 1, mi (.iload 3) 1, mi (.iconst 2) 1, mi .iadd 1, mi .iaload 1, mj (.invokevirtual 69) 3 131 2 30, mz, mz, mi (.aload 2) 1, mi (.aload 0) 1, mi (.iload 3) 1],
  [mi (.iconst 1) 1, mi .iadd 1, mi .iaload 1, mi (.aload 0) 1, mi (.iload 3) 1, mi (.iconst 2) 1, mi .iadd 1, mi .iaload 1, mj (.invokevirtual 72) 3 208 2 31, mz, mz, mi (.if_icmp .eq 1117) 3, mz, mz, mi (.iconst 0) 1, mi .ireturn 1],
  [mi (.aload 1) 1, mi (.aload 0) 1, mi (.iload 3) 1, mi (.iconst 1) 1, mi .iadd 1, mi .iaload 1, mi (.aload 0) 1, mi (.iload 3) 1, mi (.iconst 2) 1, mi .iadd 1, mi .iaload 1, mj (.invokevirtual 73) 3 132 2 32, mz, mz, mi (.aload 2) 1, mi (.aload 0) 1],
  [mi (.iload 3) 1, mi (.iconst 1) 1, mi .iadd 1, mi .iaload 1, mi (.aload 0) 1, mi (.iload 3) 1, mi (.iconst 2) 1, mi .iadd 1, mi .iaload 1, mj (.invokevirtual 76) 3 209 2 33, mz, mz, mi (.if_icmp .eq 1084) 3, mz, mz, mi (.iconst 0) 1],
  [mi .ireturn 1, mi (.aload 1) 1, mi (.aload 0) 1, mi (.iload 3) 1, mi (.iconst 1) 1, mi .iadd 1, mi .iaload 1, mi (.aload 0) 1, mi (.iload 3) 1, mi (.iconst 2) 1, mi .iadd 1, mi .iaload 1, mj (.invokevirtual 77) 3 133 2 34, mz, mz, mi (.aload 2) 1],
  [mi (.aload 0) 1, mi (.iload 3) 1, mi (.iconst 1) 1, mi .iadd 1, mi .iaload 1, mi (.aload 0) 1, mi (.iload 3) 1, mi (.iconst 2) 1, mi .iadd 1, mi .iaload 1, mj (.invokevirtual 80) 3 210 2 35, mz, mz, mi (.if_icmp .eq 1051) 3, mz, mz],
  [mi (.iconst 0) 1, mi .ireturn 1, mi (.aload 1) 1, mi (.aload 0) 1, mi (.iload 3) 1, mi (.iconst 1) 1, mi .iadd 1, mi .iaload 1, mi (.aload 0) 1, mi (.iload 3) 1, mi (.iconst 2) 1, mi .iadd 1, mi .iaload 1, mj (.invokevirtual 81) 3 134 2 36, mz, mz],
  [mi (.aload 2) 1, mi (.aload 0) 1, mi (.iload 3) 1, mi (.iconst 1) 1, mi .iadd 1, mi .iaload 1, mi (.aload 0) 1, mi (.iload 3) 1, mi (.iconst 2) 1, mi .iadd 1, mi .iaload 1, mj (.invokevirtual 84) 3 211 2 37, mz, mz, mi (.if_icmp .eq 1018) 3, mz],
  [mz, mi (.iconst 0) 1, mi .ireturn 1, mi (.aload 1) 1, mi (.aload 0) 1, mi (.iload 3) 1, mi (.iconst 1) 1, mi .iadd 1, mi .iaload 1, mi (.aload 0) 1, mi (.iload 3) 1, mi (.iconst 2) 1, mi .iadd 1, mi .iaload 1, mj (.invokevirtual 85) 3 135 2 38, mz],
  [mz, mi (.aload 2) 1, mi (.aload 0) 1, mi (.iload 3) 1, mi (.iconst 1) 1, mi .iadd 1, mi .iaload 1, mi (.aload 0) 1, mi (.iload 3) 1, mi (.iconst 2) 1, mi .iadd 1, mi .iaload 1, mj (.invokevirtual 88) 3 217 2 39, mz, mz, mi (.if_icmp .eq 985) 3],
  [mz, mz, mi (.iconst 0) 1, mi .ireturn 1, mi (.aload 1) 1, mi (.aload 0) 1, mi (.iload 3) 1, mi (.iconst 1) 1, mi .iadd 1, mi .iaload 1, mi (.aload 0) 1, mi (.iload 3) 1, mi (.iconst 2) 1, mi .iadd 1, mi .iaload 1, mi (.aload 0) 1],
  [mi (.iload 3) 1, mi (.iconst 3) 1, mi .iadd 1, mi .iaload 1, mi (.aload 0) 1, mi (.iload 3) 1, mi (.iconst 4) 1, mi .iadd 1, mi .iaload 1, mi (.aload 0) 1, mi (.iload 3) 1, mi (.iconst 5) 1, mi .iadd 1, mi .iaload 1, mj (.invokevirtual 89) 3 136 5 40, mz],
  [mz, mi (.aload 2) 1, mi (.aload 0) 1, mi (.iload 3) 1, mi (.iconst 1) 1, mi .iadd 1, mi .iaload 1, mi (.aload 0) 1, mi (.iload 3) 1, mi (.iconst 2) 1, mi .iadd 1, mi .iaload 1, mi (.aload 0) 1, mi (.iload 3) 1, mi (.iconst 3) 1, mi .iadd 1],
  [mi .iaload 1, mi (.aload 0) 1, mi (.iload 3) 1, mi (.iconst 4) 1, mi .iadd 1, mi .iaload 1, mi (.aload 0) 1, mi (.iload 3) 1, mi (.iconst 5) 1, mi .iadd 1, mi .iaload 1, mj (.invokevirtual 93) 3 218 5 41, mz, mz, mi (.if_icmp .eq 922) 3, mz],
  [mz, mi (.iconst 0) 1, mi .ireturn 1, mi (.aload 1) 1, mi (.aload 0) 1, mi (.iload 3) 1, mi (.iconst 1) 1, mi .iadd 1, mi .iaload 1, mi (.aload 0) 1, mi (.iload 3) 1, mi (.iconst 2) 1, mi .iadd 1, mi .iaload 1, mj (.invokevirtual 94) 3 137 2 42, mz],
  [mz, mi (.aload 2) 1, mi (.aload 0) 1, mi (.iload 3) 1, mi (.iconst 1) 1, mi .iadd 1, mi .iaload 1, mi (.aload 0) 1, mi (.iload 3) 1, mi (.iconst 2) 1, mi .iadd 1, mi .iaload 1, mj (.invokevirtual 97) 3 221 2 43, mz, mz, mi (.if_icmp .eq 889) 3],
  [mz, mz, mi (.iconst 0) 1, mi .ireturn 1, mi (.aload 1) 1, mi (.aload 0) 1, mi (.iload 3) 1, mi (.iconst 1) 1, mi .iadd 1, mi .iaload 1, mj (.invokevirtual 98) 3 138 1 44, mz, mz, mi (.aload 2) 1, mi (.aload 0) 1, mi (.iload 3) 1],
  [mi (.iconst 1) 1, mi .iadd 1, mi .iaload 1, mj (.invokevirtual 101) 3 222 1 45, mz, mz, mi (.if_icmp .eq 866) 3, mz, mz, mi (.iconst 0) 1, mi .ireturn 1, mi (.aload 1) 1, mj (.invokevirtual 102) 3 139 0 46, mz, mz, mi (.aload 2) 1],
  [mj (.invokevirtual 106) 3 227 0 47, mz, mz, mi (.if_icmp .eq 853) 3, mz, mz, mi (.iconst 0) 1, mi .ireturn 1, mi (.aload 1) 1, mj (.invokevirtual 107) 3 140 0 48, mz, mz, mi (.aload 2) 1, mj (.invokevirtual 110) 3 228 0 49, mz, mz],
  [mi (.if_icmp .eq 840) 3, mz, mz, mi (.iconst 0) 1, mi .ireturn 1, mi (.aload 1) 1, mj (.invokevirtual 111) 3 141 0 50, mz, mz, mi (.aload 2) 1, mj (.invokevirtual 114) 3 233 0 51, mz, mz, mi (.if_icmp .eq 827) 3, mz, mz],
  [mi (.iconst 0) 1, mi .ireturn 1, mi (.aload 1) 1, mi (.aload 0) 1, mi (.iload 3) 1, mi (.iconst 1) 1, mi .iadd 1, mi .iaload 1, mj (.invokevirtual 115) 3 142 1 52, mz, mz, mi (.aload 2) 1, mi (.aload 0) 1, mi (.iload 3) 1, mi (.iconst 1) 1, mi .iadd 1],
  [mi .iaload 1, mj (.invokevirtual 118) 3 230 1 53, mz, mz, mi (.if_icmp .eq 804) 3, mz, mz, mi (.iconst 0) 1, mi .ireturn 1, mi (.aload 1) 1, mi (.aload 0) 1, mi (.iload 3) 1, mi (.iconst 1) 1, mi .iadd 1, mi .iaload 1, mj (.invokevirtual 119) 3 143 1 54],
  [mz, mz, mi (.aload 2) 1, mi (.aload 0) 1, mi (.iload 3) 1, mi (.iconst 1) 1, mi .iadd 1, mi .iaload 1, mj (.invokevirtual 122) 3 234 1 55, mz, mz, mi (.if_icmp .eq 781) 3, mz, mz, mi (.iconst 0) 1, mi .ireturn 1],
  [mi (.aload 1) 1, mi (.aload 0) 1, mi (.iload 3) 1, mi (.iconst 1) 1, mi .iadd 1, mi .iaload 1, mj (.invokevirtual 123) 3 144 1 56, mz, mz, mi (.aload 2) 1, mi (.aload 0) 1, mi (.iload 3) 1, mi (.iconst 1) 1, mi .iadd 1, mi .iaload 1, mj (.invokevirtual 126) 3 235 1 57],
  [mz, mz, mi (.if_icmp .eq 758) 3, mz, mz, mi (.iconst 0) 1, mi .ireturn 1, mi (.aload 1) 1, mi (.aload 0) 1, mi (.iload 3) 1, mi (.iconst 1) 1, mi .iadd 1, mi .iaload 1, mi (.aload 0) 1, mi (.iload 3) 1, mi (.iconst 2) 1],
  [mi .iadd 1, mi .iaload 1, mj (.invokevirtual 127) 3 145 2 58, mz, mz, mi (.aload 2) 1, mi (.aload 0) 1, mi (.iload 3) 1, mi (.iconst 1) 1, mi .iadd 1, mi .iaload 1, mi (.aload 0) 1, mi (.iload 3) 1, mi (.iconst 2) 1, mi .iadd 1, mi .iaload 1],
  [mj (.invokevirtual 130) 3 237 2 59, mz, mz, mi (.if_icmp .eq 725) 3, mz, mz, mi (.iconst 0) 1, mi .ireturn 1, mi (.aload 1) 1, mi (.aload 0) 1, mi (.iload 3) 1, mi (.iconst 1) 1, mi .iadd 1, mi .iaload 1, mj (.invokevirtual 131) 3 146 1 60, mz],
  [mz, mi (.aload 2) 1, mi (.aload 0) 1, mi (.iload 3) 1, mi (.iconst 1) 1, mi .iadd 1, mi .iaload 1, mj (.invokevirtual 134) 3 238 1 61, mz, mz, mi (.if_icmp .eq 702) 3, mz, mz, mi (.iconst 0) 1, mi .ireturn 1, mi (.aload 1) 1],
  [mi (.aload 0) 1, mi (.iload 3) 1, mi (.iconst 1) 1, mi .iadd 1, mi .iaload 1, mi (.aload 0) 1, mi (.iload 3) 1, mi (.iconst 2) 1, mi .iadd 1, mi .iaload 1, mj (.invokevirtual 135) 3 147 2 62, mz, mz, mi (.aload 2) 1, mi (.aload 0) 1, mi (.iload 3) 1],
  [mi (.iconst 1) 1, mi .iadd 1, mi .iaload 1, mi (.aload 0) 1, mi (.iload 3) 1, mi (.iconst 2) 1, mi .iadd 1, mi .iaload 1, mj (.invokevirtual 138) 3 239 2 63, mz, mz, mi (.if_icmp .eq 669) 3, mz, mz, mi (.iconst 0) 1, mi .ireturn 1],
  [mi (.aload 1) 1, mi (.aload 0) 1, mi (.iload 3) 1, mi (.iconst 1) 1, mi .iadd 1, mi .iaload 1, mi (.aload 0) 1, mi (.iload 3) 1, mi (.iconst 2) 1, mi .iadd 1, mi .iaload 1, mi (.aload 0) 1, mi (.iload 3) 1, mi (.iconst 3) 1, mi .iadd 1, mi .iaload 1],
  [mj (.invokevirtual 139) 3 148 3 64, mz, mz, mi (.aload 2) 1, mi (.aload 0) 1, mi (.iload 3) 1, mi (.iconst 1) 1, mi .iadd 1, mi .iaload 1, mi (.aload 0) 1, mi (.iload 3) 1, mi (.iconst 2) 1, mi .iadd 1, mi .iaload 1, mi (.aload 0) 1, mi (.iload 3) 1],
  [mi (.iconst 3) 1, mi .iadd 1, mi .iaload 1, mj (.invokevirtual 142) 3 242 3 65, mz, mz, mi (.if_icmp .eq 626) 3, mz, mz, mi (.iconst 0) 1, mi .ireturn 1, mi (.aload 1) 1, mi (.aload 0) 1, mi (.iload 3) 1, mi (.iconst 1) 1, mi .iadd 1],
  [mi .iaload 1, mi (.aload 0) 1, mi (.iload 3) 1, mi (.iconst 2) 1, mi .iadd 1, mi .iaload 1, mj (.invokevirtual 143) 3 149 2 66, mz, mz, mi (.aload 2) 1, mi (.aload 0) 1, mi (.iload 3) 1, mi (.iconst 1) 1, mi .iadd 1, mi .iaload 1, mi (.aload 0) 1],
  [mi (.iload 3) 1, mi (.iconst 2) 1, mi .iadd 1, mi .iaload 1, mj (.invokevirtual 146) 3 245 2 67, mz, mz, mi (.if_icmp .eq 593) 3, mz, mz, mi (.iconst 0) 1, mi .ireturn 1, mi (.aload 1) 1, mi (.aload 0) 1, mi (.iload 3) 1, mi (.iconst 1) 1],
  [mi .iadd 1, mi .iaload 1, mi (.aload 0) 1, mi (.iload 3) 1, mi (.iconst 2) 1, mi .iadd 1, mi .iaload 1, mj (.invokevirtual 147) 3 150 2 68, mz, mz, mi (.aload 2) 1, mi (.aload 0) 1, mi (.iload 3) 1, mi (.iconst 1) 1, mi .iadd 1, mi .iaload 1],
  [mi (.aload 0) 1, mi (.iload 3) 1, mi (.iconst 2) 1, mi .iadd 1, mi .iaload 1, mj (.invokevirtual 150) 3 246 2 69, mz, mz, mi (.if_icmp .eq 560) 3, mz, mz, mi (.iconst 0) 1, mi .ireturn 1, mi (.aload 1) 1, mi (.aload 0) 1, mi (.iload 3) 1],
  [mi (.iconst 1) 1, mi .iadd 1, mi .iaload 1, mi (.aload 0) 1, mi (.iload 3) 1, mi (.iconst 2) 1, mi .iadd 1, mi .iaload 1, mi (.aload 0) 1, mi (.iload 3) 1, mi (.iconst 3) 1, mi .iadd 1, mi .iaload 1, mi (.aload 0) 1, mi (.iload 3) 1, mi (.iconst 4) 1],
  [mi .iadd 1, mi .iaload 1, mi (.aload 0) 1, mi (.iload 3) 1, mi (.iconst 5) 1, mi .iadd 1, mi .iaload 1, mj (.invokevirtual 151) 3 151 5 70, mz, mz, mi (.aload 2) 1, mi (.aload 0) 1, mi (.iload 3) 1, mi (.iconst 1) 1, mi .iadd 1, mi .iaload 1],
  [mi (.aload 0) 1, mi (.iload 3) 1, mi (.iconst 2) 1, mi .iadd 1, mi .iaload 1, mi (.aload 0) 1, mi (.iload 3) 1, mi (.iconst 3) 1, mi .iadd 1, mi .iaload 1, mi (.aload 0) 1, mi (.iload 3) 1, mi (.iconst 4) 1, mi .iadd 1, mi .iaload 1, mi (.aload 0) 1],
  [mi (.iload 3) 1, mi (.iconst 5) 1, mi .iadd 1, mi .iaload 1, mj (.invokevirtual 154) 3 247 5 71, mz, mz, mi (.if_icmp .eq 497) 3, mz, mz, mi (.iconst 0) 1, mi .ireturn 1, mi (.aload 1) 1, mi (.aload 0) 1, mi (.iload 3) 1, mi (.iconst 1) 1],
  [mi .iadd 1, mi .iaload 1, mj (.invokevirtual 155) 3 152 1 72, mz, mz, mi (.aload 2) 1, mi (.aload 0) 1, mi (.iload 3) 1, mi (.iconst 1) 1, mi .iadd 1, mi .iaload 1, mj (.invokevirtual 158) 3 249 1 73, mz, mz, mi (.if_icmp .eq 474) 3, mz],
  [mz, mi (.iconst 0) 1, mi .ireturn 1, mi (.aload 1) 1, mi (.aload 0) 1, mi (.iload 3) 1, mi (.iconst 1) 1, mi .iadd 1, mi .iaload 1, mi (.aload 0) 1, mi (.iload 3) 1, mi (.iconst 2) 1, mi .iadd 1, mi .iaload 1, mj (.invokevirtual 159) 3 153 2 74, mz],
  [mz, mi (.aload 2) 1, mi (.aload 0) 1, mi (.iload 3) 1, mi (.iconst 1) 1, mi .iadd 1, mi .iaload 1, mi (.aload 0) 1, mi (.iload 3) 1, mi (.iconst 2) 1, mi .iadd 1, mi .iaload 1, mj (.invokevirtual 162) 3 264 2 75, mz, mz, mi (.if_icmp .eq 441) 3],
  [mz, mz, mi (.iconst 0) 1, mi .ireturn 1, mi (.aload 1) 1, mi (.aload 0) 1, mi (.iload 3) 1, mi (.iconst 1) 1, mi .iadd 1, mi .iaload 1, mi (.aload 0) 1, mi (.iload 3) 1, mi (.iconst 2) 1, mi .iadd 1, mi .iaload 1, mi (.aload 0) 1],
  [mi (.iload 3) 1, mi (.iconst 3) 1, mi .iadd 1, mi .iaload 1, mj (.invokevirtual 163) 3 154 3 76, mz, mz, mi (.aload 2) 1, mi (.aload 0) 1, mi (.iload 3) 1, mi (.iconst 1) 1, mi .iadd 1, mi .iaload 1, mi (.aload 0) 1, mi (.iload 3) 1, mi (.iconst 2) 1],
  [mi .iadd 1, mi .iaload 1, mi (.aload 0) 1, mi (.iload 3) 1, mi (.iconst 3) 1, mi .iadd 1, mi .iaload 1, mj (.invokevirtual 166) 3 274 3 77, mz, mz, mi (.if_icmp .eq 398) 3, mz, mz, mi (.iconst 0) 1, mi .ireturn 1, mi (.aload 1) 1],
  [mi (.aload 0) 1, mi (.iload 3) 1, mi (.iconst 1) 1, mi .iadd 1, mi .iaload 1, mi (.aload 0) 1, mi (.iload 3) 1, mi (.iconst 2) 1, mi .iadd 1, mi .iaload 1, mi (.aload 0) 1, mi (.iload 3) 1, mi (.iconst 3) 1, mi .iadd 1, mi .iaload 1, mj (.invokevirtual 167) 3 155 3 78],
  [mz, mz, mi (.aload 2) 1, mi (.aload 0) 1, mi (.iload 3) 1, mi (.iconst 1) 1, mi .iadd 1, mi .iaload 1, mi (.aload 0) 1, mi (.iload 3) 1, mi (.iconst 2) 1, mi .iadd 1, mi .iaload 1, mi (.aload 0) 1, mi (.iload 3) 1, mi (.iconst 3) 1],
  [mi .iadd 1, mi .iaload 1, mj (.invokevirtual 170) 3 276 3 79, mz, mz, mi (.if_icmp .eq 355) 3, mz, mz, mi (.iconst 0) 1, mi .ireturn 1, mi (.aload 1) 1, mi (.aload 0) 1, mi (.iload 3) 1, mi (.iconst 1) 1, mi .iadd 1, mi .iaload 1],
  [mi (.aload 0) 1, mi (.iload 3) 1, mi (.iconst 2) 1, mi .iadd 1, mi .iaload 1, mj (.invokevirtual 171) 3 156 2 80, mz, mz, mi (.aload 2) 1, mi (.aload 0) 1, mi (.iload 3) 1, mi (.iconst 1) 1, mi .iadd 1, mi .iaload 1, mi (.aload 0) 1, mi (.iload 3) 1],
  [mi (.iconst 2) 1, mi .iadd 1, mi .iaload 1, mj (.invokevirtual 174) 3 277 2 81, mz, mz, mi (.if_icmp .eq 322) 3, mz, mz, mi (.iconst 0) 1, mi .ireturn 1, mi (.aload 1) 1, mi (.aload 0) 1, mi (.iload 3) 1, mi (.iconst 1) 1, mi .iadd 1],
  [mi .iaload 1, mi (.aload 0) 1, mi (.iload 3) 1, mi (.iconst 2) 1, mi .iadd 1, mi .iaload 1, mi (.aload 0) 1, mi (.iload 3) 1, mi (.iconst 3) 1, mi .iadd 1, mi .iaload 1, mj (.invokevirtual 175) 3 157 3 82, mz, mz, mi (.aload 2) 1, mi (.aload 0) 1],
  [mi (.iload 3) 1, mi (.iconst 1) 1, mi .iadd 1, mi .iaload 1, mi (.aload 0) 1, mi (.iload 3) 1, mi (.iconst 2) 1, mi .iadd 1, mi .iaload 1, mi (.aload 0) 1, mi (.iload 3) 1, mi (.iconst 3) 1, mi .iadd 1, mi .iaload 1, mj (.invokevirtual 178) 3 279 3 83, mz],
  [mz, mi (.if_icmp .eq 279) 3, mz, mz, mi (.iconst 0) 1, mi .ireturn 1, mi (.aload 1) 1, mi (.aload 0) 1, mi (.iload 3) 1, mi (.iconst 1) 1, mi .iadd 1, mi .iaload 1, mi (.aload 0) 1, mi (.iload 3) 1, mi (.iconst 2) 1, mi .iadd 1],
  [mi .iaload 1, mi (.aload 0) 1, mi (.iload 3) 1, mi (.iconst 3) 1, mi .iadd 1, mi .iaload 1, mj (.invokevirtual 179) 3 158 3 84, mz, mz, mi (.aload 2) 1, mi (.aload 0) 1, mi (.iload 3) 1, mi (.iconst 1) 1, mi .iadd 1, mi .iaload 1, mi (.aload 0) 1],
  [mi (.iload 3) 1, mi (.iconst 2) 1, mi .iadd 1, mi .iaload 1, mi (.aload 0) 1, mi (.iload 3) 1, mi (.iconst 3) 1, mi .iadd 1, mi .iaload 1, mj (.invokevirtual 182) 3 280 3 85, mz, mz, mi (.if_icmp .eq 236) 3, mz, mz, mi (.iconst 0) 1],
  [mi .ireturn 1, mi (.aload 1) 1, mi (.aload 0) 1, mi (.iload 3) 1, mi (.iconst 1) 1, mi .iadd 1, mi .iaload 1, mi (.aload 0) 1, mi (.iload 3) 1, mi (.iconst 2) 1, mi .iadd 1, mi .iaload 1, mj (.invokevirtual 183) 3 159 2 86, mz, mz, mi (.aload 2) 1],
  [mi (.aload 0) 1, mi (.iload 3) 1, mi (.iconst 1) 1, mi .iadd 1, mi .iaload 1, mi (.aload 0) 1, mi (.iload 3) 1, mi (.iconst 2) 1, mi .iadd 1, mi .iaload 1, mj (.invokevirtual 186) 3 281 2 87, mz, mz, mi (.if_icmp .eq 203) 3, mz, mz],
  [mi (.iconst 0) 1, mi .ireturn 1, mi (.aload 1) 1, mi (.aload 0) 1, mi (.iload 3) 1, mi (.iconst 1) 1, mi .iadd 1, mi .iaload 1, mi (.aload 0) 1, mi (.iload 3) 1, mi (.iconst 2) 1, mi .iadd 1, mi .iaload 1, mj (.invokevirtual 187) 3 160 2 88, mz, mz],
  [mi (.aload 2) 1, mi (.aload 0) 1, mi (.iload 3) 1, mi (.iconst 1) 1, mi .iadd 1, mi .iaload 1, mi (.aload 0) 1, mi (.iload 3) 1, mi (.iconst 2) 1, mi .iadd 1, mi .iaload 1, mj (.invokevirtual 190) 3 282 2 89, mz, mz, mi (.if_icmp .eq 170) 3, mz],
  [mz, mi (.iconst 0) 1, mi .ireturn 1, mi (.aload 1) 1, mi (.aload 0) 1, mi (.iload 3) 1, mi (.iconst 1) 1, mi .iadd 1, mi .iaload 1, mi (.aload 0) 1, mi (.iload 3) 1, mi (.iconst 2) 1, mi .iadd 1, mi .iaload 1, mi (.aload 0) 1, mi (.iload 3) 1],
  [mi (.iconst 3) 1, mi .iadd 1, mi .iaload 1, mj (.invokevirtual 191) 3 161 3 90, mz, mz, mi (.aload 2) 1, mi (.aload 0) 1, mi (.iload 3) 1, mi (.iconst 1) 1, mi .iadd 1, mi .iaload 1, mi (.aload 0) 1, mi (.iload 3) 1, mi (.iconst 2) 1, mi .iadd 1],
  [mi .iaload 1, mi (.aload 0) 1, mi (.iload 3) 1, mi (.iconst 3) 1, mi .iadd 1, mi .iaload 1, mj (.invokevirtual 194) 3 283 3 91, mz, mz, mi (.if_icmp .eq 127) 3, mz, mz, mi (.iconst 0) 1, mi .ireturn 1, mi (.aload 1) 1, mi (.aload 0) 1],
  [mi (.iload 3) 1, mi (.iconst 1) 1, mi .iadd 1, mi .iaload 1, mi (.aload 0) 1, mi (.iload 3) 1, mi (.iconst 2) 1, mi .iadd 1, mi .iaload 1, mj (.invokevirtual 195) 3 162 2 92, mz, mz, mi (.aload 2) 1, mi (.aload 0) 1, mi (.iload 3) 1, mi (.iconst 1) 1],
  [mi .iadd 1, mi .iaload 1, mi (.aload 0) 1, mi (.iload 3) 1, mi (.iconst 2) 1, mi .iadd 1, mi .iaload 1, mj (.invokevirtual 198) 3 284 2 93, mz, mz, mi (.if_icmp .eq 94) 3, mz, mz, mi (.iconst 0) 1, mi .ireturn 1, mi (.aload 1) 1],
  [mi (.aload 0) 1, mi (.iload 3) 1, mi (.iconst 1) 1, mi .iadd 1, mi .iaload 1, mi (.aload 0) 1, mi (.iload 3) 1, mi (.iconst 2) 1, mi .iadd 1, mi .iaload 1, mi (.aload 0) 1, mi (.iload 3) 1, mi (.iconst 3) 1, mi .iadd 1, mi .iaload 1, mj (.invokevirtual 199) 3 163 3 94],
  [mz, mz, mi (.aload 2) 1, mi (.aload 0) 1, mi (.iload 3) 1, mi (.iconst 1) 1, mi .iadd 1, mi .iaload 1, mi (.aload 0) 1, mi (.iload 3) 1, mi (.iconst 2) 1, mi .iadd 1, mi .iaload 1, mi (.aload 0) 1, mi (.iload 3) 1, mi (.iconst 3) 1],
  [mi .iadd 1, mi .iaload 1, mj (.invokevirtual 202) 3 287 3 95, mz, mz, mi (.if_icmp .eq 51) 3, mz, mz, mi (.iconst 0) 1, mi .ireturn 1, mi (.aload 1) 1, mi (.aload 0) 1, mi (.iload 3) 1, mi (.iconst 1) 1, mi .iadd 1, mi .iaload 1],
  [mj (.invokevirtual 203) 3 164 1 96, mz, mz, mi (.aload 2) 1, mi (.aload 0) 1, mi (.iload 3) 1, mi (.iconst 1) 1, mi .iadd 1, mi .iaload 1, mj (.invokevirtual 206) 3 288 1 97, mz, mz, mi (.if_icmp .eq 28) 3, mz, mz, mi (.iconst 0) 1],
  [mi .ireturn 1, mi (.aload 1) 1, mi (.aload 0) 1, mi (.iload 3) 1, mi (.iconst 1) 1, mi .iadd 1, mi .iaload 1, mj (.invokevirtual 207) 3 165 1 98, mz, mz, mi (.aload 2) 1, mi (.aload 0) 1, mi (.iload 3) 1, mi (.iconst 1) 1, mi .iadd 1, mi .iaload 1],
  [mj (.invokevirtual 210) 3 289 1 99, mz, mz, mi (.if_icmp .eq 5) 3, mz, mz, mi (.iconst 0) 1, mi .ireturn 1, mi (.iinc 3 6) 3, mz, mz, mi (.goto (-1849)) 3, mz, mz, mi (.iconst 1) 1, mi .ireturn 1]]
/-- a method: name, bytes, locals, what it returns, its owner, static (1), its arguments, its code -/
abbrev mMR : Type := MethodName × ByteArray × Nat × Option FieldType × Nat × Nat × Nat × List (List (Option mR))
def mM_0 : List mMR := [(yX0_init, cX0_init, 1, none, 0, 0, 0, kX0_init),
  (yX0_isFull, cX0_isFull, 1, (some .boolean), 0, 0, 0, kX0_isFull),
  (yX0_has, cX0_has, 2, (some .boolean), 0, 0, 1, kX0_has),
  (yX0_add, cX0_add, 2, (some .int), 0, 0, 1, kX0_add),
  (yX0_learn, cX0_learn, 3, none, 0, 0, 2, kX0_learn),
  (yX0_learnTroubles, cX0_learnTroubles, 8, none, 0, 0, 4, kX0_learnTroubles),
  (yX0_setDays, cX0_setDays, 2, none, 0, 0, 1, kX0_setDays),
  (yX0_setAll, cX0_setAll, 3, none, 0, 0, 2, kX0_setAll),
  (yX0_amount, cX0_amount, 3, (some .int), 0, 0, 1, kX0_amount),
  (yX0_inForce, cX0_inForce, 8, (some .int), 0, 0, 3, kX0_inForce),
  (yX1_init, cX1_init, 6, none, 1, 0, 5, kX1_init),
  (yX1_standsFor, cX1_standsFor, 2, (some .boolean), 1, 0, 1, kX1_standsFor),
  (yX2_init, cX2_init, 1, none, 2, 0, 0, kX2_init),
  (yX2_addTrack, cX2_addTrack, 4, (some .int), 2, 0, 3, kX2_addTrack),
  (yX2_countsFor, cX2_countsFor, 3, (some .boolean), 2, 0, 2, kX2_countsFor),
  (yX2_elsewhere, cX2_elsewhere, 3, (some .int), 2, 0, 1, kX2_elsewhere)]
def mM_1 : List mMR := [(yX2_firstElsewhere, cX2_firstElsewhere, 3, (some .int), 2, 0, 1, kX2_firstElsewhere),
  (yX2_lastThere, cX2_lastThere, 3, (some .int), 2, 0, 1, kX2_lastThere),
  (yX2_beginBreak, cX2_beginBreak, 3, (some .boolean), 2, 0, 2, kX2_beginBreak),
  (yX2_endBreak, cX2_endBreak, 4, none, 2, 0, 2, kX2_endBreak),
  (yX2_hoursBroken, cX2_hoursBroken, 7, (some .int), 2, 0, 3, kX2_hoursBroken),
  (yX3_init, cX3_init, 1, none, 3, 0, 0, kX3_init),
  (yX3_isPromised, cX3_isPromised, 1, (some .boolean), 3, 1, 1, kX3_isPromised),
  (yX3_joins, cX3_joins, 3, (some .boolean), 3, 0, 1, kX3_joins),
  (yX3_add, cX3_add, 2, (some .int), 3, 0, 1, kX3_add),
  (yX3_drive, cX3_drive, 8, (some .int), 3, 0, 1, kX3_drive),
  (yX3_rowAt, cX3_rowAt, 2, (some (.object "HireYard$Machine")), 3, 0, 1, kX3_rowAt),
  (yX3_dropOthers, cX3_dropOthers, 3, none, 3, 0, 0, kX3_dropOthers),
  (yX3_weight, cX3_weight, 4, (some .int), 3, 0, 1, kX3_weight),
  (yX3_sortByNumber, cX3_sortByNumber, 6, none, 3, 0, 1, kX3_sortByNumber),
  (yX3_rowMiles, cX3_rowMiles, 9, (some .int), 3, 0, 3, kX3_rowMiles),
  (yX3_customerTown, cX3_customerTown, 3, (some .int), 3, 0, 1, kX3_customerTown)]
def mM_2 : List mMR := [(yX3_keepRow, cX3_keepRow, 3, none, 3, 0, 1, kX3_keepRow),
  (yX3_nextTurn, cX3_nextTurn, 6, (some .boolean), 3, 0, 1, kX3_nextTurn),
  (yX3_swapTurns, cX3_swapTurns, 4, none, 3, 0, 2, kX3_swapTurns),
  (yX4_init, cX4_init, 6, none, 4, 0, 5, kX4_init),
  (yX4_isFree, cX4_isFree, 1, (some .boolean), 4, 0, 0, kX4_isFree),
  (yX4_sinceLook, cX4_sinceLook, 1, (some .int), 4, 0, 0, kX4_sinceLook),
  (yX4_hoursToLook, cX4_hoursToLook, 1, (some .int), 4, 0, 0, kX4_hoursToLook),
  (yX4_lookDue, cX4_lookDue, 1, (some .boolean), 4, 0, 0, kX4_lookDue),
  (yX4_lookLapses, cX4_lookLapses, 2, (some .boolean), 4, 0, 1, kX4_lookLapses),
  (yX4_beginLook, cX4_beginLook, 2, none, 4, 0, 1, kX4_beginLook),
  (yX4_load, cX4_load, 4, none, 4, 0, 3, kX4_load),
  (yX4_settle, cX4_settle, 2, none, 4, 0, 1, kX4_settle),
  (yX4_leave, cX4_leave, 3, none, 4, 0, 2, kX4_leave),
  (yX4_addLink, cX4_addLink, 3, (some .int), 4, 0, 2, kX4_addLink),
  (yX4_ownerOf, cX4_ownerOf, 2, (some .int), 4, 0, 1, kX4_ownerOf),
  (yX4_rateOf, cX4_rateOf, 2, (some .int), 4, 0, 1, kX4_rateOf)]
def mM_3 : List mMR := [(yX5_init, cX5_init, 1, none, 5, 0, 0, kX5_init),
  (yX5_isListed, cX5_isListed, 3, (some .boolean), 5, 0, 1, kX5_isListed),
  (yX5_add, cX5_add, 2, (some .int), 5, 0, 1, kX5_add),
  (yX5_begin, cX5_begin, 1, none, 5, 0, 0, kX5_begin),
  (yX5_offer, cX5_offer, 8, none, 5, 0, 3, kX5_offer),
  (yX5_costOf, cX5_costOf, 7, (some .long), 5, 1, 5, kX5_costOf),
  (yX5_leastCost, cX5_leastCost, 7, (some .long), 5, 0, 0, kX5_leastCost),
  (yX5_promise, cX5_promise, 9, (some .int), 5, 0, 2, kX5_promise),
  (yX6_init, cX6_init, 3, none, 6, 0, 2, kX6_init),
  (yX6_size, cX6_size, 1, (some .int), 6, 0, 0, kX6_size),
  (yX6_last, cX6_last, 1, (some .int), 6, 0, 0, kX6_last),
  (yX6_valueAt, cX6_valueAt, 2, (some .int), 6, 0, 1, kX6_valueAt),
  (yX6_toldAt, cX6_toldAt, 2, (some .boolean), 6, 0, 1, kX6_toldAt),
  (yX6_isAnother, cX6_isAnother, 2, (some .boolean), 6, 0, 1, kX6_isAnother),
  (yX6_tell, cX6_tell, 3, none, 6, 0, 2, kX6_tell),
  (yX6_grow, cX6_grow, 1, none, 6, 0, 0, kX6_grow)]
def mM_4 : List mMR := [(yX6_latestUpTo, cX6_latestUpTo, 6, (some .int), 6, 0, 1, kX6_latestUpTo),
  (yX6_earliestFrom, cX6_earliestFrom, 2, (some .int), 6, 0, 1, kX6_earliestFrom),
  (yX7_init, cX7_init, 7, none, 7, 0, 6, kX7_init),
  (yX7_objection, cX7_objection, 5, (some .int), 7, 0, 3, kX7_objection),
  (yX7_begun, cX7_begun, 2, (some .boolean), 7, 0, 1, kX7_begun),
  (yX7_isSubstitute, cX7_isSubstitute, 1, (some .boolean), 7, 0, 0, kX7_isSubstitute),
  (yX7_promise, cX7_promise, 2, none, 7, 0, 1, kX7_promise),
  (yX7_finish, cX7_finish, 2, none, 7, 0, 1, kX7_finish),
  (yX7_loseMachine, cX7_loseMachine, 2, none, 7, 0, 1, kX7_loseMachine),
  (yX7_endBy, cX7_endBy, 2, (some .int), 7, 0, 1, kX7_endBy),
  (yX7_dayCount, cX7_dayCount, 2, (some .int), 7, 0, 1, kX7_dayCount),
  (yX7_knownOfDay, cX7_knownOfDay, 11, (some .int), 7, 0, 2, kX7_knownOfDay),
  (yX7_daysWorked, cX7_daysWorked, 8, (some .int), 7, 0, 2, kX7_daysWorked),
  (yX7_hoursWorked, cX7_hoursWorked, 4, (some .int), 7, 0, 1, kX7_hoursWorked),
  (yX7_mayTell, cX7_mayTell, 2, (some .boolean), 7, 0, 1, kX7_mayTell),
  (yX7_tell, cX7_tell, 4, (some .int), 7, 0, 3, kX7_tell)]
def mM_5 : List mMR := [(yX7_newMarks, cX7_newMarks, 1, (some .int), 7, 0, 0, kX7_newMarks),
  (yX7_harmCoins, cX7_harmCoins, 4, (some .int), 7, 0, 0, kX7_harmCoins),
  (yX7_litresMissing, cX7_litresMissing, 1, (some .int), 7, 0, 0, kX7_litresMissing),
  (yX8_init, cX8_init, 1, none, 8, 0, 0, kX8_init),
  (yX8_found, cX8_found, 3, (some .int), 8, 0, 1, kX8_found),
  (yX8_has, cX8_has, 2, (some .boolean), 8, 0, 1, kX8_has),
  (yX8_hasYard, cX8_hasYard, 2, (some .boolean), 8, 0, 1, kX8_hasYard),
  (yX8_lay, cX8_lay, 6, (some .int), 8, 0, 3, kX8_lay),
  (yX8_shorten, cX8_shorten, 7, none, 8, 0, 5, kX8_shorten),
  (yX8_way, cX8_way, 3, (some .int), 8, 0, 2, kX8_way),
  (yX8_rideHours, cX8_rideHours, 4, (some .int), 8, 0, 2, kX8_rideHours),
  (yX9_init, cX9_init, 1, none, 9, 0, 0, kX9_init),
  (yX9_hasRoom, cX9_hasRoom, 1, (some .boolean), 9, 0, 0, kX9_hasRoom),
  (yX9_append, cX9_append, 3, none, 9, 0, 1, kX9_append),
  (yX9_compile, cX9_compile, 3, (some .int), 9, 0, 0, kX9_compile),
  (yX9_copyOfCode, cX9_copyOfCode, 1, (some (.array .int)), 9, 0, 0, kX9_copyOfCode)]
def mM_6 : List mMR := [(yX9_cut, cX9_cut, 4, none, 9, 0, 0, kX9_cut),
  (yX9_isLetter, cX9_isLetter, 2, (some .boolean), 9, 0, 1, kX9_isLetter),
  (yX9_isDigit, cX9_isDigit, 2, (some .boolean), 9, 0, 1, kX9_isDigit),
  (yX9_addToken, cX9_addToken, 4, none, 9, 0, 3, kX9_addToken),
  (yX9_numberOf, cX9_numberOf, 5, (some .int), 9, 0, 2, kX9_numberOf),
  (yX9_wordSort, cX9_wordSort, 8, (some .int), 9, 0, 2, kX9_wordSort),
  (yX9_sort, cX9_sort, 1, (some .int), 9, 0, 0, kX9_sort),
  (yX9_take, cX9_take, 2, (some .boolean), 9, 0, 1, kX9_take),
  (yX9_need, cX9_need, 2, none, 9, 0, 1, kX9_need),
  (yX9_fail, cX9_fail, 1, none, 9, 0, 0, kX9_fail),
  (yX9_number, cX9_number, 1, (some .int), 9, 0, 0, kX9_number),
  (yX9_emit, cX9_emit, 2, none, 9, 0, 1, kX9_emit),
  (yX9_step, cX9_step, 4, none, 9, 0, 0, kX9_step),
  (yX9_sum, cX9_sum, 4, none, 9, 0, 1, kX9_sum),
  (yX9_product, cX9_product, 4, none, 9, 0, 1, kX9_product),
  (yX9_operand, cX9_operand, 4, none, 9, 0, 1, kX9_operand)]
def mM_7 : List mMR := [(yX10_init, cX10_init, 5, none, 10, 0, 4, kX10_init),
  (yX10_inForce, cX10_inForce, 4, (some .boolean), 10, 0, 3, kX10_inForce),
  (yX10_give, cX10_give, 7, (some .int), 10, 0, 2, kX10_give),
  (yX10_run, cX10_run, 8, (some .int), 10, 0, 4, kX10_run),
  (yX10_work, cX10_work, 3, (some .int), 10, 1, 3, kX10_work),
  (yX11_init, cX11_init, 1, none, 11, 0, 0, kX11_init),
  (yX11_town, cX11_town, 2, (some .int), 11, 0, 1, kX11_town),
  (yX11_road, cX11_road, 4, (some .int), 11, 0, 3, kX11_road),
  (yX11_far, cX11_far, 4, (some .int), 11, 0, 2, kX11_far),
  (yX11_hours, cX11_hours, 4, (some .int), 11, 0, 1, kX11_hours),
  (yX11_rain, cX11_rain, 4, (some .int), 11, 0, 2, kX11_rain),
  (yX11_type, cX11_type, 6, (some .int), 11, 0, 4, kX11_type),
  (yX11_instead, cX11_instead, 6, (some .int), 11, 0, 3, kX11_instead),
  (yX11_mark, cX11_mark, 6, (some .int), 11, 0, 3, kX11_mark),
  (yX11_machine, cX11_machine, 5, (some .int), 11, 0, 3, kX11_machine),
  (yX11_link, cX11_link, 5, (some .int), 11, 0, 3, kX11_link)]
def mM_8 : List mMR := [(yX11_ofMachine, cX11_ofMachine, 4, (some .int), 11, 0, 2, kX11_ofMachine),
  (yX11_look, cX11_look, 4, (some .int), 11, 0, 2, kX11_look),
  (yX11_broken, cX11_broken, 4, (some .int), 11, 0, 2, kX11_broken),
  (yX11_gone, cX11_gone, 4, (some .int), 11, 0, 2, kX11_gone),
  (yX11_read, cX11_read, 5, (some .int), 11, 0, 2, kX11_read),
  (yX11_track, cX11_track, 3, (some .int), 11, 0, 2, kX11_track),
  (yX11_theft, cX11_theft, 4, (some .int), 11, 0, 2, kX11_theft),
  (yX11_customer, cX11_customer, 3, (some .int), 11, 0, 2, kX11_customer),
  (yX11_order, cX11_order, 9, (some .int), 11, 0, 5, kX11_order),
  (yX11_why, cX11_why, 5, (some .int), 11, 0, 2, kX11_why),
  (yX11_list, cX11_list, 3, (some .int), 11, 0, 1, kX11_list),
  (yX11_best, cX11_best, 3, (some .int), 11, 0, 0, kX11_best),
  (yX11_miles, cX11_miles, 1, (some .int), 11, 0, 0, kX11_miles),
  (yX11_round, cX11_round, 1, (some .int), 11, 0, 0, kX11_round),
  (yX11_stop, cX11_stop, 3, (some .int), 11, 0, 1, kX11_stop),
  (yX11_stopped, cX11_stopped, 3, (some .int), 11, 0, 1, kX11_stopped)]
def mM_9 : List mMR := [(yX11_send, cX11_send, 5, (some .int), 11, 0, 1, kX11_send),
  (yX11_fetch, cX11_fetch, 6, (some .int), 11, 0, 2, kX11_fetch),
  (yX11_off, cX11_off, 3, (some .int), 11, 0, 1, kX11_off),
  (yX11_ofOrder, cX11_ofOrder, 4, (some .int), 11, 0, 2, kX11_ofOrder),
  (yX11_said, cX11_said, 5, (some .int), 11, 0, 3, kX11_said),
  (yX11_days, cX11_days, 4, (some .int), 11, 0, 2, kX11_days),
  (yX11_dayOf, cX11_dayOf, 4, (some .int), 11, 0, 2, kX11_dayOf),
  (yX11_feed, cX11_feed, 6, (some .int), 11, 0, 5, kX11_feed),
  (yX11_end, cX11_end, 2, (some .int), 11, 0, 1, kX11_end),
  (yX11_terms, cX11_terms, 4, (some .int), 11, 0, 2, kX11_terms),
  (yX11_gives, cX11_gives, 5, (some .int), 11, 0, 3, kX11_gives),
  (yX11_bill, cX11_bill, 6, (some .int), 11, 0, 3, kX11_bill),
  (yX11_next, cX11_next, 6, (some .int), 11, 0, 2, kX11_next),
  (yX11_looked, cX11_looked, 5, (some .int), 11, 0, 3, kX11_looked),
  (yX11_fuel, cX11_fuel, 5, (some .int), 11, 0, 3, kX11_fuel),
  (yX11_harm, cX11_harm, 4, (some .int), 11, 0, 2, kX11_harm)]
def mM_10 : List mMR := [(yX11_share, cX11_share, 5, (some .int), 11, 0, 2, kX11_share),
  (yX11_chain, cX11_chain, 5, (some .int), 11, 0, 3, kX11_chain),
  (yX11_rank, cX11_rank, 4, (some .int), 11, 0, 2, kX11_rank),
  (yX11_idle, cX11_idle, 5, (some .int), 11, 0, 3, kX11_idle),
  (yX11_move, cX11_move, 9, (some .int), 11, 0, 1, kX11_move),
  (yX11_count, cX11_count, 2, (some .int), 11, 0, 1, kX11_count),
  (yX11_within, cX11_within, 3, (some .boolean), 11, 1, 3, kX11_within),
  (yX11_isFlag, cX11_isFlag, 1, (some .boolean), 11, 1, 1, kX11_isFlag),
  (yX11_kindOf, cX11_kindOf, 2, (some (.object "HireYard$Kind")), 11, 0, 1, kX11_kindOf),
  (yX11_machineOf, cX11_machineOf, 2, (some (.object "HireYard$Machine")), 11, 0, 1, kX11_machineOf),
  (yX11_orderOf, cX11_orderOf, 2, (some (.object "HireYard$Order")), 11, 0, 1, kX11_orderOf),
  (yX11_isCustomer, cX11_isCustomer, 2, (some .boolean), 11, 0, 1, kX11_isCustomer),
  (yX11_begunOrder, cX11_begunOrder, 3, (some (.object "HireYard$Order")), 11, 0, 1, kX11_begunOrder),
  (yX11_learn, cX11_learn, 2, none, 11, 0, 1, kX11_learn),
  (yX11_priceOf, cX11_priceOf, 3, (some .int), 11, 0, 2, kX11_priceOf),
  (yX11_idleIn, cX11_idleIn, 6, (some .int), 11, 0, 2, kX11_idleIn)]
def mM_11 : List mMR := [(yX11_wantedIn, cX11_wantedIn, 6, (some .int), 11, 0, 2, kX11_wantedIn),
  (yX11_machinesThatAre, cX11_machinesThatAre, 5, (some .int), 11, 0, 1, kX11_machinesThatAre),
  (yX11_ordersThatAre, cX11_ordersThatAre, 5, (some .int), 11, 0, 1, kX11_ordersThatAre),
  (yX12_init, cX12_init, 1, none, 12, 0, 0, kX12_init),
  (yX12_in, cX12_in, 3, (some .boolean), 12, 1, 3, kX12_in),
  (yX12_isDay, cX12_isDay, 1, (some .boolean), 12, 1, 1, kX12_isDay),
  (yX12_today, cX12_today, 1, (some .int), 12, 0, 0, kX12_today),
  (yX12_isTown, cX12_isTown, 2, (some .boolean), 12, 0, 1, kX12_isTown),
  (yX12_farOf, cX12_farOf, 3, (some .int), 12, 0, 2, kX12_farOf),
  (yX12_findFars, cX12_findFars, 5, none, 12, 0, 0, kX12_findFars),
  (yX12_town, cX12_town, 2, (some .int), 12, 0, 1, kX12_town),
  (yX12_road, cX12_road, 6, (some .int), 12, 0, 3, kX12_road),
  (yX12_far, cX12_far, 3, (some .int), 12, 0, 2, kX12_far),
  (yX12_rain, cX12_rain, 4, (some .int), 12, 0, 2, kX12_rain),
  (yX12_isType, cX12_isType, 2, (some .boolean), 12, 0, 1, kX12_isType),
  (yX12_isMachine, cX12_isMachine, 2, (some .boolean), 12, 0, 1, kX12_isMachine)]
def mM_12 : List mMR := [(yX12_type, cX12_type, 5, (some .int), 12, 0, 4, kX12_type),
  (yX12_instead, cX12_instead, 5, (some .int), 12, 0, 3, kX12_instead),
  (yX12_mark, cX12_mark, 5, (some .int), 12, 0, 3, kX12_mark),
  (yX12_addReading, cX12_addReading, 3, none, 12, 0, 2, kX12_addReading),
  (yX12_readBy, cX12_readBy, 4, (some .int), 12, 0, 2, kX12_readBy),
  (yX12_readFrom, cX12_readFrom, 4, (some .int), 12, 0, 2, kX12_readFrom),
  (yX12_machine, cX12_machine, 5, (some .int), 12, 0, 3, kX12_machine),
  (yX12_link, cX12_link, 4, (some .int), 12, 0, 3, kX12_link),
  (yX12_sinceLook, cX12_sinceLook, 2, (some .int), 12, 0, 1, kX12_sinceLook),
  (yX12_isDue, cX12_isDue, 2, (some .boolean), 12, 0, 1, kX12_isDue),
  (yX12_lapses, cX12_lapses, 3, (some .boolean), 12, 0, 2, kX12_lapses),
  (yX12_ofMachine, cX12_ofMachine, 4, (some .int), 12, 0, 2, kX12_ofMachine),
  (yX12_isFree, cX12_isFree, 2, (some .boolean), 12, 0, 1, kX12_isFree),
  (yX12_look, cX12_look, 3, (some .int), 12, 0, 2, kX12_look),
  (yX12_endSpan, cX12_endSpan, 3, none, 12, 0, 1, kX12_endSpan),
  (yX12_broken, cX12_broken, 3, (some .int), 12, 0, 2, kX12_broken)]
def mM_13 : List mMR := [(yX12_gone, cX12_gone, 4, (some .int), 12, 0, 2, kX12_gone),
  (yX12_read, cX12_read, 4, (some .int), 12, 0, 2, kX12_read),
  (yX12_track, cX12_track, 3, (some .int), 12, 0, 2, kX12_track),
  (yX12_theft, cX12_theft, 5, (some .int), 12, 0, 2, kX12_theft),
  (yX12_hours, cX12_hours, 3, (some .int), 12, 0, 1, kX12_hours),
  (yX12_arrive, cX12_arrive, 2, none, 12, 0, 1, kX12_arrive),
  (yX12_load, cX12_load, 5, none, 12, 0, 3, kX12_load),
  (yX12_isCustomer, cX12_isCustomer, 2, (some .boolean), 12, 0, 1, kX12_isCustomer),
  (yX12_isOrder, cX12_isOrder, 2, (some .boolean), 12, 0, 1, kX12_isOrder),
  (yX12_customer, cX12_customer, 3, (some .int), 12, 0, 2, kX12_customer),
  (yX12_order, cX12_order, 8, (some .int), 12, 0, 5, kX12_order),
  (yX12_townOfOrder, cX12_townOfOrder, 2, (some .int), 12, 0, 1, kX12_townOfOrder),
  (yX12_whyNot, cX12_whyNot, 5, (some .int), 12, 0, 2, kX12_whyNot),
  (yX12_why, cX12_why, 3, (some .int), 12, 0, 2, kX12_why),
  (yX12_list, cX12_list, 3, (some .int), 12, 0, 1, kX12_list),
  (yX12_mayHave, cX12_mayHave, 3, (some .boolean), 12, 0, 2, kX12_mayHave)]
def mM_14 : List mMR := [(yX12_findWorths, cX12_findWorths, 3, none, 12, 0, 0, kX12_findWorths),
  (yX12_worthBy, cX12_worthBy, 3, (some .long), 12, 0, 2, kX12_worthBy),
  (yX12_most, cX12_most, 8, (some .long), 12, 0, 1, kX12_most),
  (yX12_best, cX12_best, 6, (some .int), 12, 0, 0, kX12_best),
  (yX12_miles, cX12_miles, 1, (some .int), 12, 0, 0, kX12_miles),
  (yX12_isPromised, cX12_isPromised, 2, (some .boolean), 12, 0, 1, kX12_isPromised),
  (yX12_stop, cX12_stop, 3, (some .int), 12, 0, 1, kX12_stop),
  (yX12_milesOfRow, cX12_milesOfRow, 6, (some .int), 12, 0, 1, kX12_milesOfRow),
  (yX12_isUsed, cX12_isUsed, 3, (some .boolean), 12, 0, 1, kX12_isUsed),
  (yX12_round, cX12_round, 7, (some .int), 12, 0, 0, kX12_round),
  (yX12_stopped, cX12_stopped, 2, (some .int), 12, 0, 1, kX12_stopped),
  (yX12_send, cX12_send, 3, (some .int), 12, 0, 1, kX12_send),
  (yX12_hasBegun, cX12_hasBegun, 2, (some .boolean), 12, 0, 1, kX12_hasBegun),
  (yX12_fetch, cX12_fetch, 4, (some .int), 12, 0, 2, kX12_fetch),
  (yX12_off, cX12_off, 2, (some .int), 12, 0, 1, kX12_off),
  (yX12_ofOrder, cX12_ofOrder, 3, (some .int), 12, 0, 2, kX12_ofOrder)]
def mM_15 : List mMR := [(yX12_endOf, cX12_endOf, 2, (some .int), 12, 0, 1, kX12_endOf),
  (yX12_daysOf, cX12_daysOf, 2, (some .int), 12, 0, 1, kX12_daysOf),
  (yX12_said, cX12_said, 4, (some .int), 12, 0, 3, kX12_said),
  (yX12_dayIs, cX12_dayIs, 10, (some .int), 12, 0, 2, kX12_dayIs),
  (yX12_worked, cX12_worked, 6, (some .int), 12, 0, 2, kX12_worked),
  (yX12_days, cX12_days, 3, (some .int), 12, 0, 2, kX12_days),
  (yX12_dayOf, cX12_dayOf, 3, (some .int), 12, 0, 2, kX12_dayOf),
  (yX12_feed, cX12_feed, 6, (some .int), 12, 0, 5, kX12_feed),
  (yX12_feedOne, cX12_feedOne, 3, none, 12, 0, 1, kX12_feedOne),
  (yX12_end, cX12_end, 2, (some .int), 12, 0, 1, kX12_end),
  (yX12_isLetter, cX12_isLetter, 1, (some .boolean), 12, 1, 1, kX12_isLetter),
  (yX12_isDigit, cX12_isDigit, 1, (some .boolean), 12, 1, 1, kX12_isDigit),
  (yX12_nextToken, cX12_nextToken, 1, none, 12, 0, 0, kX12_nextToken),
  (yX12_isWord, cX12_isWord, 6, (some .boolean), 12, 0, 1, kX12_isWord),
  (yX12_wrong, cX12_wrong, 1, none, 12, 0, 0, kX12_wrong),
  (yX12_lay, cX12_lay, 4, none, 12, 0, 3, kX12_lay)]
def mM_16 : List mMR := [(yX12_takes, cX12_takes, 2, (some .boolean), 12, 0, 1, kX12_takes),
  (yX12_opens, cX12_opens, 1, (some .boolean), 12, 0, 0, kX12_opens),
  (yX12_closes, cX12_closes, 1, (some .boolean), 12, 0, 0, kX12_closes),
  (yX12_nameOf, cX12_nameOf, 2, (some .int), 12, 0, 0, kX12_nameOf),
  (yX12_operand, cX12_operand, 2, none, 12, 0, 0, kX12_operand),
  (yX12_product, cX12_product, 2, none, 12, 0, 0, kX12_product),
  (yX12_sum, cX12_sum, 2, none, 12, 0, 0, kX12_sum),
  (yX12_step, cX12_step, 3, none, 12, 0, 0, kX12_step),
  (yX12_terms, cX12_terms, 3, (some .int), 12, 0, 2, kX12_terms),
  (yX12_both, cX12_both, 3, (some .int), 12, 1, 3, kX12_both),
  (yX12_works, cX12_works, 6, (some .int), 12, 0, 1, kX12_works),
  (yX12_hoursOf, cX12_hoursOf, 4, (some .int), 12, 0, 1, kX12_hoursOf),
  (yX12_rainOf, cX12_rainOf, 4, (some .int), 12, 0, 1, kX12_rainOf),
  (yX12_brokenOf, cX12_brokenOf, 7, (some .int), 12, 0, 1, kX12_brokenOf),
  (yX12_marksFound, cX12_marksFound, 2, (some .int), 12, 0, 1, kX12_marksFound),
  (yX12_harmOf, cX12_harmOf, 4, (some .int), 12, 0, 1, kX12_harmOf)]
def mM_17 : List mMR := [(yX12_fuelOf, cX12_fuelOf, 2, (some .int), 12, 0, 1, kX12_fuelOf),
  (yX12_tell, cX12_tell, 6, none, 12, 0, 3, kX12_tell),
  (yX12_gives, cX12_gives, 4, (some .int), 12, 0, 3, kX12_gives),
  (yX12_lesser, cX12_lesser, 8, (some .int), 12, 0, 3, kX12_lesser),
  (yX12_bill, cX12_bill, 5, (some .int), 12, 0, 3, kX12_bill),
  (yX12_next, cX12_next, 5, (some .int), 12, 0, 2, kX12_next),
  (yX12_mayTell, cX12_mayTell, 3, (some .boolean), 12, 0, 2, kX12_mayTell),
  (yX12_looked, cX12_looked, 4, (some .int), 12, 0, 3, kX12_looked),
  (yX12_fuel, cX12_fuel, 4, (some .int), 12, 0, 3, kX12_fuel),
  (yX12_harm, cX12_harm, 3, (some .int), 12, 0, 2, kX12_harm),
  (yX12_share, cX12_share, 5, (some .int), 12, 0, 2, kX12_share),
  (yX12_chain, cX12_chain, 4, (some .int), 12, 0, 3, kX12_chain),
  (yX12_rank, cX12_rank, 3, (some .int), 12, 0, 2, kX12_rank),
  (yX12_idleOf, cX12_idleOf, 5, (some .int), 12, 0, 2, kX12_idleOf),
  (yX12_wantedOf, cX12_wantedOf, 5, (some .int), 12, 0, 2, kX12_wantedOf),
  (yX12_idle, cX12_idle, 4, (some .int), 12, 0, 3, kX12_idle)]
def mM_18 : List mMR := [(yX12_move, cX12_move, 8, (some .int), 12, 0, 1, kX12_move),
  (yX12_count, cX12_count, 4, (some .int), 12, 0, 1, kX12_count),
  (yJ7_fill_d0a16, cJ7_fill_d0a16, 5, none, 15, 1, 2, kJ7_fill_d0a16),
  (yJ7_copyOf_59c91, cJ7_copyOf_59c91, 3, (some (.array .int)), 15, 1, 2, kJ7_copyOf_59c91),
  (yL_law, cL_law, 4, (some .boolean), 13, 1, 1, kL_law)]
def mM : List (List mMR) := [mM_0, mM_1, mM_2, mM_3, mM_4, mM_5, mM_6, mM_7, mM_8, mM_9, mM_10, mM_11, mM_12, mM_13, mM_14, mM_15, mM_16, mM_17, mM_18]
/-- where a method's words stand in lw_tbl: its code, its class's being initialized, static or instanceMethod, selects -/
def mHt_0 : List (Nat × Nat × Nat × Nat) := [(1206, 1031, 1205, 0), (5120, 1031, 4334, 4335), (5276, 1031, 5274, 5275), (5267, 1031, 5265, 5266), (5284, 1031, 5282, 5283), (5316, 1031, 5314, 5315), (5327, 1031, 5325, 5326), (5293, 1031, 5291, 5292), (5331, 1031, 5329, 5330), (5354, 1031, 5352, 5353), (2126, 1033, 2125, 0), (4102, 1033, 4100, 4101), (1087, 1027, 1086, 0), (3192, 1027, 3190, 3191), (3208, 1027, 3207, 6), (3204, 1027, 3203, 5)]
def mHt_1 : List (Nat × Nat × Nat × Nat) := [(3212, 1027, 3210, 3211), (3200, 1027, 3198, 3199), (3128, 1027, 3126, 3127), (3124, 1027, 3122, 3123), (5321, 1027, 5319, 5320), (1145, 1029, 1144, 0), (4189, 1029, 4188, 0), (4230, 1029, 4229, 19), (4226, 1029, 4224, 4225), (4182, 1029, 4180, 4181), (4238, 1029, 4236, 4237), (4186, 1029, 4185, 11), (4193, 1029, 4192, 12), (4197, 1029, 4196, 13), (4201, 1029, 4200, 14), (4205, 1029, 4204, 15)]
def mHt_2 : List (Nat × Nat × Nat × Nat) := [(4210, 1029, 4209, 16), (4214, 1029, 4213, 17), (4218, 1029, 4217, 18), (2185, 1034, 2184, 0), (3112, 1034, 3110, 3111), (3095, 1034, 3093, 3094), (3100, 1034, 3098, 3099), (4106, 1034, 4104, 4105), (4110, 1034, 4108, 4109), (3116, 1034, 3114, 3115), (4248, 1034, 4246, 4247), (2113, 1034, 2111, 2112), (3148, 1034, 3146, 3147), (3078, 1034, 3076, 3077), (6192, 1034, 6190, 6191), (6184, 1034, 6182, 6183)]
def mHt_3 : List (Nat × Nat × Nat × Nat) := [(1119, 1028, 1118, 0), (4127, 1028, 4126, 9), (4123, 1028, 4121, 4122), (4135, 1028, 4133, 4134), (4143, 1028, 4141, 4142), (4146, 1028, 4145, 0), (4163, 1028, 4162, 10), (4159, 1028, 4157, 4158), (2191, 1035, 2190, 0), (4307, 1035, 4305, 4306), (3087, 1035, 3085, 3086), (3091, 1035, 3089, 3090), (3160, 1035, 3159, 3), (3156, 1035, 3154, 3155), (3164, 1035, 3162, 3163), (3168, 1035, 3167, 4)]
def mHt_4 : List (Nat × Nat × Nat × Nat) := [(4301, 1035, 4299, 4300), (4297, 1035, 4295, 4296), (3228, 1039, 3227, 0), (4098, 1039, 4096, 4097), (3140, 1039, 3138, 3139), (5312, 1039, 5310, 5311), (4170, 1039, 4168, 4169), (3144, 1039, 3142, 3143), (3136, 1039, 3134, 3135), (4283, 1039, 4281, 4282), (4279, 1039, 4277, 4278), (4292, 1039, 4290, 4291), (4287, 1039, 4285, 4286), (5288, 1039, 5286, 5287), (6165, 1039, 6164, 40), (6161, 1039, 6159, 6160)]
def mHt_5 : List (Nat × Nat × Nat × Nat) := [(5308, 1039, 5306, 5307), (5304, 1039, 5302, 5303), (5299, 1039, 5297, 5298), (1057, 1026, 1056, 0), (2073, 1026, 2071, 2072), (2081, 1026, 2079, 2080), (2181, 1026, 2179, 2180), (2088, 1026, 2086, 2087), (2093, 1026, 2092, 0), (2101, 1026, 2099, 2100), (4114, 1026, 4112, 4113), (1168, 1030, 1167, 0), (4320, 1030, 4318, 4319), (4324, 1030, 4322, 4323), (5124, 1030, 5122, 5123), (5244, 1030, 5242, 5243)]
def mHt_6 : List (Nat × Nat × Nat × Nat) := [(5128, 1030, 5127, 21), (5132, 1030, 5131, 22), (5193, 1030, 5192, 25), (5189, 1030, 5188, 24), (5197, 1030, 5196, 26), (5136, 1030, 5135, 23), (5210, 1030, 5209, 29), (5206, 1030, 5205, 28), (5222, 1030, 5221, 32), (5218, 1030, 5217, 31), (5214, 1030, 5213, 30), (5226, 1030, 5225, 33), (5201, 1030, 5200, 27), (5230, 1030, 5229, 34), (5234, 1030, 5233, 35), (5238, 1030, 5237, 36)]
def mHt_7 : List (Nat × Nat × Nat × Nat) := [(5248, 1044, 5247, 0), (5358, 1044, 5356, 5357), (5336, 1044, 5334, 5335), (5341, 1044, 5340, 38), (5344, 1044, 5343, 0), (1049, 1025, 1048, 0), (2066, 1025, 2064, 2065), (2077, 1025, 2075, 2076), (2097, 1025, 2095, 2096), (2105, 1025, 2103, 2104), (2117, 1025, 2115, 2116), (2121, 1025, 2119, 2120), (2165, 1025, 2163, 2164), (2173, 1025, 2171, 2172), (2177, 1025, 2175, 2176), (3074, 1025, 3072, 3073)]
def mHt_8 : List (Nat × Nat × Nat × Nat) := [(3082, 1025, 3080, 3081), (3108, 1025, 3106, 3107), (3120, 1025, 3118, 3119), (3132, 1025, 3130, 3131), (3152, 1025, 3150, 3151), (3188, 1025, 3186, 3187), (3196, 1025, 3194, 3195), (3216, 1025, 3214, 3215), (3220, 1025, 3218, 3219), (3306, 1025, 3304, 3305), (4119, 1025, 4117, 4118), (4131, 1025, 4129, 4130), (4174, 1025, 4172, 4173), (4178, 1025, 4176, 4177), (4222, 1025, 4220, 4221), (4234, 1025, 4232, 4233)]
def mHt_9 : List (Nat × Nat × Nat × Nat) := [(4242, 1025, 4240, 4241), (4253, 1025, 4251, 4252), (4259, 1025, 4257, 4258), (4263, 1025, 4261, 4262), (4267, 1025, 4265, 4266), (4271, 1025, 4269, 4270), (4311, 1025, 4309, 4310), (4316, 1025, 4314, 4315), (4328, 1025, 4326, 4327), (4332, 1025, 4330, 4331), (5272, 1025, 5270, 5271), (5350, 1025, 5348, 5349), (6147, 1025, 6145, 6146), (6156, 1025, 6154, 6155), (6169, 1025, 6167, 6168), (6173, 1025, 6171, 6172)]
def mHt_10 : List (Nat × Nat × Nat × Nat) := [(6180, 1025, 6178, 6179), (6188, 1025, 6186, 6187), (6196, 1025, 6194, 6195), (6200, 1025, 6198, 6199), (6212, 1025, 6210, 6211), (6216, 1025, 6214, 6215), (2084, 1025, 2083, 0), (2069, 1025, 2068, 0), (2169, 1025, 2168, 2), (2109, 1025, 2108, 1), (3310, 1025, 3309, 8), (3224, 1025, 3223, 7), (4275, 1025, 4274, 20), (5280, 1025, 5279, 37), (6151, 1025, 6150, 39), (6204, 1025, 6203, 41)]
def mHt_11 : List (Nat × Nat × Nat × Nat) := [(6208, 1025, 6207, 42), (6220, 1025, 6219, 43), (6224, 1025, 6223, 44), (6229, 1032, 6228, 0), (7312, 1032, 7311, 0), (7340, 1032, 7339, 0), (9224, 1032, 9223, 89), (7329, 1032, 7328, 47), (7321, 1032, 7320, 46), (7316, 1032, 7315, 45), (7309, 1032, 7307, 7308), (7325, 1032, 7323, 7324), (7333, 1032, 7331, 7332), (7337, 1032, 7335, 7336), (7353, 1032, 7352, 48), (7373, 1032, 7372, 50)]
def mHt_12 : List (Nat × Nat × Nat × Nat) := [(7344, 1032, 7342, 7343), (7349, 1032, 7347, 7348), (7357, 1032, 7355, 7356), (7365, 1032, 7364, 49), (8198, 1032, 8197, 55), (8353, 1032, 8352, 75), (7361, 1032, 7359, 7360), (7369, 1032, 7367, 7368), (7382, 1032, 7381, 51), (8242, 1032, 8241, 60), (8246, 1032, 8245, 61), (7377, 1032, 7375, 7376), (7390, 1032, 7389, 52), (7386, 1032, 7384, 7385), (7398, 1032, 7397, 53), (7394, 1032, 7392, 7393)]
def mHt_13 : List (Nat × Nat × Nat × Nat) := [(7402, 1032, 7400, 7401), (8194, 1032, 8192, 8193), (8202, 1032, 8200, 8201), (8206, 1032, 8204, 8205), (8210, 1032, 8208, 8209), (8214, 1032, 8213, 56), (8313, 1032, 8312, 70), (8226, 1032, 8225, 57), (8234, 1032, 8233, 58), (8218, 1032, 8216, 8217), (8222, 1032, 8220, 8221), (8250, 1032, 8249, 62), (8238, 1032, 8237, 59), (8230, 1032, 8228, 8229), (8254, 1032, 8252, 8253), (8277, 1032, 8276, 66)]
def mHt_14 : List (Nat × Nat × Nat × Nat) := [(8262, 1032, 8261, 63), (8266, 1032, 8265, 64), (8273, 1032, 8272, 65), (8258, 1032, 8256, 8257), (8281, 1032, 8279, 8280), (8289, 1032, 8288, 67), (8285, 1032, 8283, 8284), (8301, 1032, 8300, 69), (8297, 1032, 8296, 68), (8293, 1032, 8291, 8292), (8305, 1032, 8303, 8304), (8309, 1032, 8307, 8308), (7406, 1032, 7405, 54), (8317, 1032, 8315, 8316), (8321, 1032, 8319, 8320), (8325, 1032, 8323, 8324)]
def mHt_15 : List (Nat × Nat × Nat × Nat) := [(8341, 1032, 8340, 72), (8337, 1032, 8336, 71), (8329, 1032, 8327, 8328), (8349, 1032, 8348, 74), (8345, 1032, 8344, 73), (8333, 1032, 8331, 8332), (8357, 1032, 8355, 8356), (8361, 1032, 8359, 8360), (8365, 1032, 8364, 76), (8369, 1032, 8367, 8368), (8380, 1032, 8379, 0), (8383, 1032, 8382, 0), (8377, 1032, 8376, 77), (8392, 1032, 8391, 79), (8402, 1032, 8401, 81), (8408, 1032, 8407, 82)]
def mHt_16 : List (Nat × Nat × Nat × Nat) := [(8398, 1032, 8397, 80), (9216, 1032, 8431, 87), (9220, 1032, 9219, 88), (8424, 1032, 8423, 86), (8420, 1032, 8419, 85), (8416, 1032, 8415, 84), (8412, 1032, 8411, 83), (8387, 1032, 8386, 78), (8373, 1032, 8371, 8372), (9264, 1032, 9263, 0), (9260, 1032, 9259, 97), (9236, 1032, 9235, 91), (9240, 1032, 9239, 92), (9244, 1032, 9243, 93), (9256, 1032, 9255, 96), (9252, 1032, 9251, 95)]
def mHt_17 : List (Nat × Nat × Nat × Nat) := [(9248, 1032, 9247, 94), (9232, 1032, 9231, 90), (9228, 1032, 9226, 9227), (9272, 1032, 9271, 98), (9268, 1032, 9266, 9267), (9276, 1032, 9274, 9275), (9285, 1032, 9284, 99), (9280, 1032, 9278, 9279), (9289, 1032, 9287, 9288), (9293, 1032, 9291, 9292), (9297, 1032, 9295, 9296), (9301, 1032, 9299, 9300), (9305, 1032, 9303, 9304), (9313, 1032, 9312, 100), (9317, 1032, 9316, 101), (9309, 1032, 9307, 9308)]
def mHt_18 : List (Nat × Nat × Nat × Nat) := [(9321, 1032, 9319, 9320), (9325, 1032, 9323, 9324), (4139, 1037, 4138, 0), (3171, 1037, 3170, 0), (0, 0, 0, 0)]
def mHt : List (List (Nat × Nat × Nat × Nat)) := [mHt_0, mHt_1, mHt_2, mHt_3, mHt_4, mHt_5, mHt_6, mHt_7, mHt_8, mHt_9, mHt_10, mHt_11, mHt_12, mHt_13, mHt_14, mHt_15, mHt_16, mHt_17, mHt_18]
/-- Object.<init>: its two words; the law's number -/
def mOi : Nat × Nat := (1051, 1052)
def mLaw : Nat := 292
/-- a class's pool: index, kind, two numbers, place in lw_tbl, value -/
abbrev mPE : Type := Nat × Nat × Nat × Nat × Nat × Int
def mP_0 : List (List mPE) := [[(3, 9, 0, 0, 1207, 0), (11, 10, 6, 10, 1208, 0), (13, 0, 0, 0, 1210, 0), (19, 0, 0, 2, 1213, 0), (23, 0, 0, 3, 1214, 0), (26, 0, 0, 1, 1211, 0), (30, 2, 1, 0, 5268, 0), (34, 2, 77, 0, 5285, 0), (40, 2, 74, 0, 5289, 0), (43, 2, 7, 0, 5290, 0), (47, 2, 76, 0, 5295, 0), (51, 1, 7, 5, 3242, 0), (55, 1, 1, 3, 2135, 0), (60, 2, 82, 0, 5296, 0), (64, 2, 81, 0, 5301, 0), (67, 1, 7, 10, 3257, 0)],
  [(71, 1, 4, 1, 2214, 0), (74, 1, 1, 5, 2139, 0), (77, 1, 4, 15, 2251, 0), (80, 2, 69, 0, 5309, 0), (83, 2, 73, 0, 5317, 0), (86, 1, 7, 11, 3260, 0), (89, 1, 4, 0, 2209, 0), (92, 2, 20, 0, 5318, 0), (98, 1, 7, 3, 3237, 0), (106, 2, 2, 0, 5332, 0), (110, 2, 114, 0, 5333, 0), (114, 2, 113, 0, 5355, 0), (118, 2, 8, 0, 5359, 0)]]
def mP_1 : List (List mPE) := [[(3, 9, 0, 0, 2127, 0), (9, 0, 1, 6, 2140, 0), (15, 0, 1, 7, 2143, 0), (19, 0, 1, 0, 2128, 0), (23, 0, 1, 1, 2130, 0), (26, 0, 1, 2, 2132, 0), (29, 0, 1, 3, 2134, 0), (32, 0, 1, 4, 2136, 0), (35, 0, 1, 5, 2138, 0)]]
def mP_2 : List (List mPE) := [[(3, 9, 0, 0, 1088, 0), (11, 0, 2, 0, 1089, 0), (15, 0, 2, 1, 1090, 0), (18, 0, 2, 2, 1091, 0), (21, 0, 2, 4, 1094, 0), (24, 0, 2, 5, 1095, 0), (27, 0, 2, 6, 1096, 0), (30, 0, 2, 3, 1092, 0), (34, 1, 4, 0, 2207, 0), (39, 1, 4, 7, 2236, 0), (42, 1, 4, 12, 2248, 0), (45, 2, 14, 0, 3205, 0), (49, 1, 4, 11, 2245, 0), (52, 2, 15, 0, 3201, 0), (56, 0, 2, 7, 1097, 0)]]
def mP_3 : List (List mPE) := [[(3, 9, 0, 0, 1146, 0), (11, 10, 4, 4, 1147, 0), (13, 0, 3, 0, 1148, 0), (17, 0, 3, 2, 1150, 0), (20, 0, 3, 4, 1152, 0), (24, 1, 4, 9, 2238, 0), (28, 1, 7, 9, 3252, 0), (34, 0, 3, 1, 1149, 0), (37, 1, 4, 4, 2227, 0), (40, 2, 22, 0, 4187, 0), (44, 1, 4, 3, 2223, 0), (47, 2, 23, 0, 4227, 0), (50, 2, 27, 0, 4183, 0), (53, 2, 28, 0, 4190, 0), (57, 2, 29, 0, 4194, 0), (61, 2, 30, 0, 4198, 0)],
  [(65, 2, 32, 0, 4207, 0), (68, 2, 33, 0, 4211, 0), (72, 0, 3, 3, 1151, 0), (75, 1, 4, 1, 2216, 0), (79, 1, 1, 1, 2131, 0), (83, 1, 4, 0, 2210, 0), (86, 2, 31, 0, 4202, 0), (89, 2, 89, 0, 4206, 0), (95, 1, 7, 7, 3248, 0), (96, 2, 34, 0, 4215, 0)]]
def mP_4 : List (List mPE) := [[(3, 9, 0, 0, 2186, 0), (9, 0, 4, 6, 2233, 0), (15, 0, 4, 11, 2244, 0), (18, 0, 4, 12, 2247, 0), (21, 0, 4, 13, 2249, 0), (25, 0, 4, 14, 2250, 0), (28, 0, 4, 0, 2206, 0), (31, 0, 4, 1, 2212, 0), (35, 0, 4, 4, 2225, 0), (38, 0, 4, 7, 2235, 0), (41, 4, 6, 0, 2187, 0), (43, 2, 56, 0, 2189, 0), (46, 0, 4, 2, 2218, 0), (50, 0, 4, 5, 2230, 0), (53, 0, 4, 3, 2221, 0), (56, 0, 4, 9, 2239, 0)],
  [(60, 2, 58, 0, 3096, 0), (64, 0, 4, 8, 2237, 0), (67, 1, 1, 2, 2133, 0), (72, 2, 37, 0, 3101, 0), (81, 2, 43, 0, 4249, 0), (85, 0, 4, 15, 2252, 0)]]
def mP_5 : List (List mPE) := [[(5, 9, 0, 0, 1120, 0), (11, 10, 5, 7, 1121, 0), (13, 0, 5, 0, 1122, 0), (17, 0, 5, 2, 1125, 0), (21, 0, 5, 3, 1127, 0), (25, 0, 5, 4, 1128, 0), (28, 0, 5, 1, 1123, 0), (31, 1, 7, 9, 3253, 0), (34, 2, 49, 0, 4124, 0), (38, 7, 0, 0, 4136, 4000000000000000000), (40, 2, 290, 0, 4137, 0), (46, 2, 53, 0, 4144, 0), (56, 2, 67, 0, 4147, 0), (60, 7, 0, 0, 4148, 4542954016328), (62, 1, 4, 4, 2228, 0), (67, 1, 7, 7, 3247, 0)],
  [(68, 2, 89, 0, 4149, 0), (74, 8, 0, 0, 4150, 0), (77, 1, 4, 0, 2208, 0), (80, 1, 4, 1, 2215, 0), (84, 1, 7, 5, 3243, 0), (85, 7, 0, 0, 4152, 567869252041), (87, 7, 0, 0, 4164, 148863517207035904), (89, 7, 0, 0, 4165, 90), (91, 2, 54, 0, 4160, 0), (95, 7, 0, 0, 4166, 91), (97, 2, 70, 0, 4167, 0)]]
def mP_6 : List (List mPE) := [[(1, 9, 0, 0, 2192, 0), (7, 0, 6, 0, 2193, 0), (13, 0, 6, 1, 2194, 0), (16, 0, 6, 2, 2195, 0), (20, 0, 6, 3, 2196, 0), (24, 2, 59, 0, 3088, 0), (28, 2, 60, 0, 3157, 0), (32, 2, 63, 0, 3165, 0), (35, 2, 291, 0, 3169, 0), (41, 2, 64, 0, 4298, 0)]]
def mP_7 : List (List mPE) := [[(3, 9, 0, 0, 3229, 0), (9, 0, 7, 11, 3259, 0), (15, 0, 7, 12, 3262, 0), (18, 0, 7, 13, 3264, 0), (22, 0, 7, 14, 3266, 0), (26, 0, 7, 15, 3268, 0), (29, 0, 7, 0, 3230, 0), (32, 0, 7, 5, 3241, 0), (36, 0, 7, 1, 3232, 0), (39, 0, 7, 2, 3234, 0), (42, 0, 7, 3, 3236, 0), (45, 0, 7, 4, 3239, 0), (48, 1, 4, 5, 2231, 0), (53, 1, 4, 3, 2222, 0), (56, 1, 4, 1, 2213, 0), (57, 2, 11, 0, 4099, 0)],
  [(63, 0, 7, 8, 3250, 0), (66, 1, 1, 4, 2137, 0), (69, 2, 39, 0, 4103, 0), (73, 2, 40, 0, 4107, 0), (77, 1, 4, 4, 2226, 0), (80, 0, 7, 7, 3246, 0), (81, 2, 90, 0, 4111, 0), (87, 1, 4, 9, 2240, 0), (91, 0, 7, 10, 3256, 0), (95, 0, 7, 9, 3254, 0), (96, 2, 68, 0, 3137, 0), (99, 2, 71, 0, 3141, 0), (103, 2, 73, 0, 4280, 0), (107, 1, 4, 2, 2219, 0), (116, 2, 65, 0, 4294, 0), (121, 2, 64, 0, 4302, 0)],
  [(124, 2, 59, 0, 4303, 0), (127, 2, 57, 0, 4304, 0), (131, 2, 74, 0, 4288, 0), (134, 2, 75, 0, 4289, 0), (137, 1, 4, 10, 2242, 0), (140, 2, 78, 0, 6162, 0), (143, 2, 80, 0, 5305, 0), (146, 1, 1, 6, 2142, 0)]]
def mP_8 : List (List mPE) := [[(3, 9, 0, 0, 1058, 0), (9, 0, 8, 0, 1061, 0), (15, 5, 0, 0, 1059, 0), (17, 0, 8, 1, 1062, 0), (20, 0, 8, 2, 1063, 0), (23, 0, 8, 3, 1064, 0), (27, 2, 85, 0, 2089, 0), (31, 2, 88, 0, 2090, 0), (35, 2, 89, 0, 4115, 0)]]
def mP_9 : List (List mPE) := [[(3, 9, 0, 0, 1169, 0), (9, 0, 9, 0, 1170, 0), (13, 0, 9, 2, 1173, 0), (16, 0, 9, 3, 1174, 0), (19, 0, 9, 4, 1175, 0), (22, 0, 9, 8, 1179, 0), (25, 0, 9, 1, 1171, 0), (29, 2, 96, 0, 5125, 0), (32, 0, 9, 6, 1177, 0), (35, 0, 9, 7, 1178, 0), (38, 0, 9, 9, 1180, 0), (41, 2, 108, 0, 5198, 0), (44, 2, 103, 0, 5203, 0), (48, 2, 102, 0, 5207, 0), (52, 2, 105, 0, 5215, 0), (55, 2, 291, 0, 5245, 0)],
  [(61, 0, 9, 5, 1176, 0), (64, 2, 97, 0, 5129, 0), (67, 2, 101, 0, 5133, 0), (71, 2, 99, 0, 5186, 0), (75, 2, 98, 0, 5190, 0), (78, 2, 100, 0, 5194, 0), (91, 6, 0, 0, 5202, 999999), (92, 2, 106, 0, 5211, 0), (95, 2, 104, 0, 5219, 0), (99, 2, 107, 0, 5223, 0), (102, 2, 109, 0, 5227, 0), (105, 2, 110, 0, 5231, 0), (108, 2, 111, 0, 5235, 0)]]
def mP_10 : List (List mPE) := [[(1, 9, 0, 0, 5249, 0), (7, 0, 10, 0, 5250, 0), (13, 0, 10, 1, 5251, 0), (16, 0, 10, 2, 5252, 0), (19, 0, 10, 3, 5253, 0), (23, 6, 0, 0, 5337, 9999999), (24, 2, 115, 0, 5338, 0), (37, 2, 116, 0, 5342, 0)]]
def mP_11 : List (List mPE) := [[(3, 9, 0, 0, 1050, 0), (9, 0, 11, 2, 1226, 0), (13, 4, 8, 0, 1053, 0), (15, 3, 83, 0, 1055, 0), (16, 0, 11, 3, 1227, 0), (20, 10, 3, 1, 1077, 0), (22, 0, 11, 4, 1228, 0), (26, 10, 4, 4, 1079, 0), (28, 0, 11, 6, 1230, 0), (32, 0, 11, 8, 1232, 0), (36, 0, 11, 9, 1233, 0), (39, 10, 5, 7, 1081, 0), (41, 0, 11, 11, 1235, 0), (45, 4, 2, 0, 1083, 0), (47, 3, 12, 0, 1085, 0), (48, 0, 11, 13, 1237, 0)],
  [(52, 4, 5, 0, 1115, 0), (54, 3, 48, 0, 1117, 0), (55, 0, 11, 14, 1238, 0), (59, 4, 3, 0, 1141, 0), (61, 3, 21, 0, 1143, 0), (62, 0, 11, 15, 1239, 0), (66, 4, 9, 0, 1164, 0), (68, 3, 91, 0, 1166, 0), (69, 0, 11, 16, 1240, 0), (73, 4, 0, 0, 1202, 0), (75, 3, 0, 0, 1204, 0), (76, 0, 11, 17, 1241, 0), (80, 0, 11, 0, 1224, 0), (84, 2, 167, 0, 2067, 0), (88, 2, 84, 0, 2070, 0), (92, 2, 85, 0, 2078, 0)],
  [(95, 2, 166, 0, 2082, 0), (99, 2, 87, 0, 2085, 0), (103, 2, 89, 0, 2098, 0), (107, 2, 169, 0, 2106, 0), (111, 2, 43, 0, 2110, 0), (115, 6, 0, 0, 2122, 99999), (116, 0, 11, 5, 1229, 0), (20, 4, 1, 0, 1077, 0), (119, 2, 10, 0, 2124, 0), (122, 2, 168, 0, 2166, 0), (126, 1, 1, 7, 2144, 0), (129, 1, 1, 6, 2141, 0), (132, 2, 86, 0, 2178, 0), (135, 0, 11, 7, 1231, 0), (26, 4, 4, 0, 1079, 0), (138, 2, 35, 0, 2183, 0)],
  [(141, 2, 45, 0, 3075, 0), (144, 6, 0, 0, 3083, (-2000000000)), (145, 1, 4, 1, 2217, 0), (149, 1, 1, 0, 2129, 0), (152, 1, 4, 2, 2220, 0), (156, 2, 58, 0, 3084, 0), (162, 1, 4, 3, 2224, 0), (165, 1, 4, 4, 2229, 0), (168, 1, 4, 5, 2232, 0), (171, 2, 37, 0, 3092, 0), (174, 1, 4, 6, 2234, 0), (177, 1, 4, 9, 2241, 0), (181, 1, 7, 0, 3231, 0), (182, 1, 4, 15, 2253, 0), (185, 2, 38, 0, 3097, 0), (188, 2, 36, 0, 3109, 0)],
  [(192, 2, 41, 0, 3113, 0), (195, 1, 4, 0, 2211, 0), (196, 2, 19, 0, 3121, 0), (200, 2, 18, 0, 3125, 0), (204, 2, 72, 0, 3133, 0), (207, 2, 44, 0, 3145, 0), (210, 2, 61, 0, 3153, 0), (213, 0, 11, 1, 1225, 0), (216, 2, 62, 0, 3161, 0), (219, 2, 13, 0, 3189, 0), (222, 1, 4, 11, 2246, 0), (225, 2, 17, 0, 3197, 0), (229, 2, 16, 0, 3209, 0), (232, 0, 11, 10, 1234, 0), (235, 2, 171, 0, 3221, 0), (238, 0, 11, 12, 1236, 0)],
  [(39, 4, 7, 0, 1081, 0), (241, 2, 66, 0, 3226, 0), (244, 1, 7, 6, 3245, 0), (247, 1, 7, 7, 3249, 0), (248, 1, 7, 8, 3251, 0), (251, 2, 170, 0, 3307, 0), (255, 2, 67, 0, 3311, 0), (259, 2, 50, 0, 4120, 0), (263, 1, 5, 1, 1124, 0), (266, 2, 51, 0, 4132, 0), (269, 2, 52, 0, 4140, 0), (273, 2, 55, 0, 4156, 0), (277, 1, 5, 2, 1126, 0), (280, 2, 25, 0, 4179, 0), (284, 2, 24, 0, 4223, 0), (286, 2, 26, 0, 4235, 0)],
  [(289, 1, 7, 10, 3258, 0), (293, 1, 7, 9, 3255, 0), (294, 2, 90, 0, 4243, 0), (297, 1, 7, 1, 3233, 0), (305, 1, 7, 11, 3261, 0), (307, 1, 4, 10, 2243, 0), (310, 2, 42, 0, 4245, 0), (314, 2, 68, 0, 4254, 0), (317, 2, 71, 0, 4255, 0), (320, 1, 7, 5, 3244, 0), (321, 1, 7, 2, 3235, 0), (324, 1, 7, 3, 3238, 0), (327, 1, 7, 12, 3263, 0), (330, 1, 7, 4, 3240, 0), (333, 1, 7, 13, 3265, 0), (336, 2, 172, 0, 4272, 0)],
  [(339, 2, 74, 0, 4276, 0), (342, 2, 76, 0, 4284, 0), (345, 2, 75, 0, 4312, 0), (348, 2, 92, 0, 4317, 0), (351, 2, 93, 0, 4321, 0), (354, 1, 9, 1, 1172, 0), (355, 2, 1, 0, 4333, 0), (358, 2, 94, 0, 5121, 0), (361, 4, 10, 0, 5239, 0), (363, 2, 95, 0, 5241, 0), (367, 2, 112, 0, 5246, 0), (370, 2, 3, 0, 5264, 0), (373, 2, 2, 0, 5273, 0), (374, 2, 173, 0, 5277, 0), (378, 2, 6, 0, 5324, 0), (381, 2, 8, 0, 5328, 0)],
  [(384, 2, 9, 0, 5351, 0), (387, 2, 174, 0, 6148, 0), (391, 6, 0, 0, 6157, 65535), (392, 1, 7, 14, 3267, 0), (395, 2, 79, 0, 6158, 0), (398, 1, 7, 15, 3269, 0), (401, 2, 80, 0, 6174, 0), (404, 2, 81, 0, 6175, 0), (407, 2, 82, 0, 6176, 0), (410, 2, 47, 0, 6181, 0), (413, 2, 46, 0, 6189, 0), (416, 2, 175, 0, 6201, 0), (420, 2, 176, 0, 6205, 0), (423, 1, 8, 3, 1065, 0), (426, 1, 0, 1, 1212, 0), (429, 1, 2, 3, 1093, 0)],
  [(432, 2, 177, 0, 6217, 0), (435, 2, 178, 0, 6221, 0), (438, 2, 4, 0, 5281, 0), (441, 2, 5, 0, 5313, 0), (445, 2, 7, 0, 6152, 0)]]
def mP_12 : List (List mPE) := [[(1, 9, 0, 0, 6230, 0), (7, 0, 12, 3, 6233, 0), (13, 0, 12, 4, 6234, 0), (17, 0, 12, 5, 6235, 0), (20, 0, 12, 6, 6236, 0), (23, 0, 12, 8, 6238, 0), (26, 0, 12, 9, 6239, 0), (29, 0, 12, 10, 6240, 0), (32, 0, 12, 11, 6241, 0), (35, 0, 12, 12, 6242, 0), (38, 0, 12, 13, 6243, 0), (41, 0, 12, 14, 6244, 0), (44, 0, 12, 16, 6246, 0), (47, 0, 12, 17, 6247, 0), (50, 0, 12, 18, 6248, 0), (53, 0, 12, 19, 6249, 0)],
  [(56, 0, 12, 20, 6250, 0), (59, 0, 12, 21, 6251, 0), (62, 0, 12, 22, 6252, 0), (65, 0, 12, 23, 6253, 0), (68, 0, 12, 24, 6254, 0), (71, 0, 12, 25, 6255, 0), (74, 0, 12, 26, 6256, 0), (77, 0, 12, 27, 6257, 0), (80, 0, 12, 28, 6258, 0), (83, 0, 12, 29, 6259, 0), (86, 0, 12, 30, 6260, 0), (89, 0, 12, 31, 6261, 0), (92, 0, 12, 34, 6264, 0), (95, 0, 12, 35, 6265, 0), (98, 0, 12, 36, 6266, 0), (101, 0, 12, 38, 6268, 0)],
  [(104, 0, 12, 39, 6269, 0), (107, 0, 12, 40, 6270, 0), (110, 0, 12, 42, 6272, 0), (113, 0, 12, 43, 6273, 0), (116, 0, 12, 44, 6274, 0), (119, 0, 12, 46, 6276, 0), (122, 0, 12, 47, 6277, 0), (125, 0, 12, 49, 6279, 0), (128, 0, 12, 50, 6280, 0), (131, 0, 12, 51, 6281, 0), (134, 0, 12, 52, 6282, 0), (137, 0, 12, 53, 6283, 0), (140, 0, 12, 54, 6284, 0), (143, 0, 12, 55, 6285, 0), (146, 0, 12, 56, 6286, 0), (149, 0, 12, 57, 6287, 0)],
  [(152, 0, 12, 58, 6288, 0), (155, 0, 12, 59, 6289, 0), (158, 0, 12, 60, 6290, 0), (161, 0, 12, 61, 6291, 0), (164, 0, 12, 63, 6293, 0), (167, 0, 12, 66, 6296, 0), (170, 0, 12, 67, 6297, 0), (173, 0, 12, 68, 6298, 0), (177, 0, 12, 69, 6299, 0), (180, 0, 12, 71, 6301, 0), (183, 0, 12, 72, 6302, 0), (186, 0, 12, 75, 6305, 0), (189, 0, 12, 76, 6306, 0), (193, 0, 12, 79, 6309, 0), (196, 0, 12, 80, 6310, 0), (199, 0, 12, 81, 6311, 0)],
  [(202, 0, 12, 82, 6312, 0), (205, 0, 12, 83, 6313, 0), (208, 0, 12, 84, 6314, 0), (211, 0, 12, 85, 6315, 0), (214, 0, 12, 94, 6324, 0), (217, 0, 12, 95, 6325, 0), (224, 2, 180, 0, 7310, 0), (228, 0, 12, 1, 6231, 0), (231, 0, 12, 2, 6232, 0), (234, 6, 0, 0, 7317, 1000000), (235, 2, 184, 0, 7318, 0), (239, 2, 185, 0, 7313, 0), (242, 2, 183, 0, 7326, 0), (246, 2, 181, 0, 7338, 0), (249, 0, 12, 7, 6237, 0), (252, 0, 12, 15, 6245, 0)],
  [(255, 6, 0, 0, 7345, 99999), (256, 2, 190, 0, 7350, 0), (259, 0, 12, 32, 6262, 0), (262, 2, 195, 0, 7362, 0), (266, 2, 191, 0, 7370, 0), (269, 2, 200, 0, 7379, 0), (273, 6, 0, 0, 7378, (-2000000000)), (274, 2, 204, 0, 7387, 0), (277, 0, 12, 37, 6267, 0), (280, 2, 206, 0, 7395, 0), (284, 2, 236, 0, 7403, 0), (287, 2, 196, 0, 8195, 0), (290, 0, 12, 33, 6263, 0), (293, 0, 12, 41, 6271, 0), (296, 2, 213, 0, 8211, 0), (299, 0, 12, 45, 6275, 0)],
  [(302, 0, 12, 48, 6278, 0), (305, 2, 215, 0, 8223, 0), (308, 2, 201, 0, 8239, 0), (311, 2, 202, 0, 8243, 0), (315, 2, 219, 0, 8247, 0), (318, 2, 216, 0, 8231, 0), (321, 2, 220, 0, 8235, 0), (324, 0, 12, 62, 6292, 0), (327, 2, 225, 0, 8263, 0), (331, 7, 0, 0, 8269, (-1)), (333, 7, 0, 0, 8267, 1000000), (335, 7, 0, 0, 8268, 10), (337, 2, 223, 0, 8274, 0), (340, 2, 224, 0, 8259, 0), (343, 2, 226, 0, 8270, 0), (347, 0, 12, 65, 6295, 0)],
  [(350, 0, 12, 64, 6294, 0), (354, 2, 229, 0, 8286, 0), (357, 0, 12, 70, 6300, 0), (360, 0, 12, 73, 6303, 0), (363, 2, 232, 0, 8294, 0), (366, 2, 231, 0, 8298, 0), (369, 0, 12, 74, 6304, 0), (372, 2, 214, 0, 8310, 0), (376, 2, 240, 0, 8338, 0), (379, 2, 197, 0, 8350, 0), (382, 2, 241, 0, 8334, 0), (385, 2, 243, 0, 8346, 0), (388, 2, 244, 0, 8342, 0), (391, 0, 12, 77, 6307, 0), (394, 2, 248, 0, 8362, 0), (397, 0, 12, 87, 6317, 0)],
  [(400, 0, 12, 86, 6316, 0), (403, 0, 12, 88, 6318, 0), (406, 2, 250, 0, 8378, 0), (409, 2, 251, 0, 8381, 0), (412, 0, 12, 89, 6319, 0), (415, 7, 0, 0, 8393, 27), (417, 7, 0, 0, 8394, 96), (419, 0, 12, 90, 6320, 0), (422, 0, 12, 92, 6322, 0), (425, 0, 12, 93, 6323, 0), (428, 2, 254, 0, 8399, 0), (431, 2, 252, 0, 8374, 0), (434, 0, 12, 91, 6321, 0), (437, 2, 256, 0, 8395, 0), (440, 8, 1, 0, 8425, 0), (443, 2, 253, 0, 8389, 0)],
  [(447, 2, 255, 0, 8405, 0), (451, 2, 259, 0, 8421, 0), (455, 7, 0, 0, 8427, 6476969), (457, 7, 0, 0, 8428, 267347), (459, 2, 257, 0, 8429, 0), (463, 2, 262, 0, 8409, 0), (466, 2, 258, 0, 9217, 0), (469, 2, 260, 0, 8417, 0), (472, 2, 261, 0, 8413, 0), (475, 7, 0, 0, 8388, 131638), (477, 7, 0, 0, 8403, 583), (479, 7, 0, 0, 8404, 555), (481, 0, 12, 78, 6308, 0), (484, 2, 263, 0, 8384, 0), (487, 2, 182, 0, 9221, 0), (490, 6, 0, 0, 9261, 9999999)],
  [(491, 2, 265, 0, 9262, 0), (495, 2, 270, 0, 9253, 0), (498, 2, 267, 0, 9233, 0), (501, 2, 268, 0, 9237, 0), (504, 2, 269, 0, 9241, 0), (507, 2, 272, 0, 9245, 0), (510, 2, 271, 0, 9249, 0), (513, 2, 273, 0, 9229, 0), (516, 2, 266, 0, 9257, 0), (519, 0, 12, 96, 6326, 0), (522, 2, 275, 0, 9269, 0), (525, 6, 0, 0, 9281, 65535), (526, 2, 278, 0, 9282, 0), (529, 2, 285, 0, 9310, 0), (532, 2, 286, 0, 9314, 0)]]
def mP_13 : List (List mPE) := [[(7, 4, 11, 0, 1045, 0), (9, 2, 117, 0, 1047, 0), (10, 4, 12, 0, 6225, 0), (12, 2, 179, 0, 6227, 0), (13, 2, 118, 0, 2063, 0), (17, 2, 186, 0, 7306, 0), (18, 2, 119, 0, 2074, 0), (22, 2, 187, 0, 7322, 0), (23, 2, 120, 0, 2094, 0), (27, 2, 188, 0, 7330, 0), (28, 2, 121, 0, 2102, 0), (31, 2, 212, 0, 8207, 0), (32, 2, 122, 0, 2114, 0), (35, 2, 189, 0, 7334, 0), (36, 2, 123, 0, 2118, 0), (40, 2, 192, 0, 7341, 0)],
  [(41, 2, 124, 0, 2162, 0), (44, 2, 193, 0, 7346, 0), (45, 2, 125, 0, 2170, 0), (48, 2, 194, 0, 7354, 0), (49, 2, 126, 0, 2174, 0), (52, 2, 198, 0, 7358, 0), (53, 2, 127, 0, 2287, 0), (56, 2, 199, 0, 7366, 0), (57, 2, 128, 0, 3079, 0), (60, 2, 203, 0, 7374, 0), (61, 2, 129, 0, 3105, 0), (64, 2, 205, 0, 7383, 0), (65, 2, 130, 0, 3117, 0), (68, 2, 207, 0, 7391, 0), (69, 2, 131, 0, 3129, 0), (72, 2, 208, 0, 7399, 0)],
  [(73, 2, 132, 0, 3149, 0), (76, 2, 209, 0, 7407, 0), (77, 2, 133, 0, 3185, 0), (80, 2, 210, 0, 8199, 0), (81, 2, 134, 0, 3193, 0), (84, 2, 211, 0, 8203, 0), (85, 2, 135, 0, 3213, 0), (88, 2, 217, 0, 8215, 0), (89, 2, 136, 0, 3217, 0), (93, 2, 218, 0, 8219, 0), (94, 2, 137, 0, 3303, 0), (97, 2, 221, 0, 8227, 0), (98, 2, 138, 0, 4116, 0), (101, 2, 222, 0, 8251, 0), (102, 2, 139, 0, 4128, 0), (106, 2, 227, 0, 8255, 0)],
  [(107, 2, 140, 0, 4171, 0), (110, 2, 228, 0, 8278, 0), (111, 2, 141, 0, 4175, 0), (114, 2, 233, 0, 8290, 0), (115, 2, 142, 0, 4219, 0), (118, 2, 230, 0, 8282, 0), (119, 2, 143, 0, 4231, 0), (122, 2, 234, 0, 8302, 0), (123, 2, 144, 0, 4239, 0), (126, 2, 235, 0, 8306, 0), (127, 2, 145, 0, 4250, 0), (130, 2, 237, 0, 8314, 0), (131, 2, 146, 0, 4256, 0), (134, 2, 238, 0, 8318, 0), (135, 2, 147, 0, 4260, 0), (138, 2, 239, 0, 8322, 0)],
  [(139, 2, 148, 0, 4264, 0), (142, 2, 242, 0, 8326, 0), (143, 2, 149, 0, 4268, 0), (146, 2, 245, 0, 8330, 0), (147, 2, 150, 0, 4308, 0), (150, 2, 246, 0, 8354, 0), (151, 2, 151, 0, 4313, 0), (154, 2, 247, 0, 8358, 0), (155, 2, 152, 0, 4325, 0), (158, 2, 249, 0, 8366, 0), (159, 2, 153, 0, 4329, 0), (162, 2, 264, 0, 8370, 0), (163, 2, 154, 0, 5269, 0), (166, 2, 274, 0, 9225, 0), (167, 2, 155, 0, 5347, 0), (170, 2, 276, 0, 9265, 0)],
  [(171, 2, 156, 0, 6144, 0), (174, 2, 277, 0, 9273, 0), (175, 2, 157, 0, 6153, 0), (178, 2, 279, 0, 9277, 0), (179, 2, 158, 0, 6166, 0), (182, 2, 280, 0, 9286, 0), (183, 2, 159, 0, 6170, 0), (186, 2, 281, 0, 9290, 0), (187, 2, 160, 0, 6177, 0), (190, 2, 282, 0, 9294, 0), (191, 2, 161, 0, 6185, 0), (194, 2, 283, 0, 9298, 0), (195, 2, 162, 0, 6193, 0), (198, 2, 284, 0, 9302, 0), (199, 2, 163, 0, 6197, 0), (202, 2, 287, 0, 9306, 0)],
  [(203, 2, 164, 0, 6209, 0), (206, 2, 288, 0, 9318, 0), (207, 2, 165, 0, 6213, 0), (210, 2, 289, 0, 9322, 0)]]
def mP_14 : List (List mPE) := []
def mP_15 : List (List mPE) := []
def mOw : List (String × List (List mPE)) := [("HireYard$Bills", mP_0), ("HireYard$Kind", mP_1), ("HireYard$Log", mP_2), ("HireYard$Lorry", mP_3), ("HireYard$Machine", mP_4), ("HireYard$Match", mP_5), ("HireYard$Meter", mP_6), ("HireYard$Order", mP_7), ("HireYard$Roads", mP_8), ("HireYard$Tape", mP_9), ("HireYard$Terms", mP_10), ("HireYard", mP_11), ("HireYardModel", mP_12), ("HireYardLaw", mP_13), ("java/lang/Math", mP_14), ("java/util/Arrays", mP_15)]
/-- the array types by number, the class of their places; the arrayClass and arrayOver words' places; the static tables -/
def mAT : List FieldType := [.int, .boolean, .long, (.object "HireYard$Kind"), (.object "HireYard$Machine"), (.object "HireYard$Order"), (.object "HireYard$Terms"), (.array .int), .byte]
def mEl : List (Option Nat) := [none, none, none, some 1, some 4, some 7, some 10, none, none]
def mAh : List Nat := [1076, 1075, 1140, 1078, 1080, 1082, 1209, 1060, 5263]
def mStc : List (String × String × String) := [("HireYard$Match", "DIGIT", "[J"), ("HireYardModel", "NAMES", "[J")]
def mSw : List Nat := [4151, 8426]
def mSi : List Nat := [1028, 1032]
/-- the classes: their names, their fields' types -/
def mCn : List String := ["HireYard$Bills", "HireYard$Kind", "HireYard$Log", "HireYard$Lorry", "HireYard$Machine", "HireYard$Match", "HireYard$Meter", "HireYard$Order", "HireYard$Roads", "HireYard$Tape", "HireYard$Terms", "HireYard", "HireYardModel"]
def mTy : List (List FieldType) := [[(.array (.object "HireYard$Terms")), .int, (.array .int), (.array .int)],
  [.int, .int, .int, .int, .int, .int, (.array .int), (.array .boolean)],
  [(.array .int), (.array .int), (.array .int), .int, (.array .int), (.array .int), (.array .int), .int],
  [(.array (.object "HireYard$Machine")), .int, (.array (.object "HireYard$Machine")), .int, (.array .int)],
  [.int, (.object "HireYard$Kind"), (.object "HireYard$Meter"), .int, .int, .int, .int, .int, .int, (.object "HireYard$Order"), (.object "HireYard$Order"), .int, .int, (.array .int), (.array .int), .int],
  [(.array (.object "HireYard$Order")), .int, .int, (.array .long), (.array .long)],
  [(.array .int), (.array .int), .int, .boolean],
  [.int, .int, .int, .int, .int, (.object "HireYard$Kind"), .int, .int, .int, .int, (.object "HireYard$Machine"), .int, .int, (.array .boolean), (.array .int), (.array .int)],
  [(.array .boolean), (.array (.array .int)), (.array (.array .int)), .int],
  [(.array .int), .int, (.array .int), (.array .int), (.array .int), .int, .int, .int, (.array .int), .int],
  [.int, .int, .int, (.array .int)],
  [.int, .int, (.array .boolean), (.object "HireYard$Roads"), (.array (.object "HireYard$Kind")), .int, (.array (.object "HireYard$Machine")), .int, (.array .int), (.array .int), .int, (.array (.object "HireYard$Order")), .int, (.object "HireYard$Log"), (.object "HireYard$Match"), (.object "HireYard$Lorry"), (.object "HireYard$Tape"), (.object "HireYard$Bills")],
  [.int, .int, .int, (.array .boolean), (.array .int), (.array .int), (.array .boolean), .int, (.array .int), (.array .int), (.array .int), (.array .int), (.array .int), (.array .boolean), (.array .int), .int, (.array .int), (.array .int), (.array .int), (.array .int), (.array .int), (.array .boolean), (.array .int), (.array .int), (.array .int), (.array .int), (.array .int), (.array .int), (.array .int), (.array .int), (.array .int), (.array .int), .int, .int, (.array .int), (.array .int), (.array .int), .int, (.array .int), (.array .int), (.array .int), .int, (.array .int), (.array .int), (.array .int), .int, (.array .int), (.array .int), .int, (.array .int), (.array .int), (.array .int), (.array .int), (.array .int), (.array .int), (.array .int), (.array .int), (.array .int), (.array .int), (.array .int), (.array .int), (.array .int), .int, (.array .int), .boolean, .int, (.array .boolean), (.array .int), (.array .long), (.array .long), .int, (.array .int), (.array .int), .int, .int, (.array .int), (.array .byte), .int, .int, (.array .int), (.array .int), (.array .int), (.array .int), (.array .int), (.array .int), (.array .int), .int, .int, .int, .int, .int, .int, .int, .int, (.array .int), (.array .int), .int]]
/-- a class's words in lw_tbl: instantiable, initialized, its fields -/
def mCh : List (Nat × Nat × List Nat) := [(1203, 1031, [1215, 1217, 1219, 1221]),
  (2123, 1033, [2145, 2147, 2149, 2151, 2153, 2155, 2157, 2159]),
  (1084, 1027, [1098, 1100, 1102, 1104, 1106, 1108, 1110, 1112]),
  (1142, 1029, [1153, 1155, 1157, 1159, 1161]),
  (2182, 1034, [2254, 2256, 2258, 2260, 2262, 2264, 2266, 2268, 2270, 2272, 2274, 2276, 2278, 2280, 2282, 2284]),
  (1116, 1028, [1129, 1131, 1133, 1135, 1137]),
  (2188, 1035, [2197, 2199, 2201, 2203]),
  (3225, 1039, [3270, 3272, 3274, 3276, 3278, 3280, 3282, 3284, 3286, 3288, 3290, 3292, 3294, 3296, 3298, 3300]),
  (1054, 1026, [1066, 1068, 1070, 1072]),
  (1165, 1030, [1181, 1183, 1185, 1187, 1189, 1191, 1193, 1195, 1197, 1199]),
  (5240, 1044, [5254, 5256, 5258, 5260]),
  (1046, 1025, [1242, 1244, 1246, 1248, 1250, 1252, 1254, 1256, 1258, 1260, 1262, 2048, 2050, 2052, 2054, 2056, 2058, 2060]),
  (6226, 1032, [6327, 6329, 6331, 6333, 6335, 6337, 6339, 6341, 6343, 6345, 6347, 6349, 6351, 6353, 6355, 6357, 6359, 6361, 6363, 6365, 6367, 6369, 6371, 6373, 6375, 6377, 6379, 6381, 6383, 7169, 7171, 7173, 7175, 7177, 7179, 7181, 7183, 7185, 7187, 7189, 7191, 7193, 7195, 7197, 7199, 7201, 7203, 7205, 7207, 7209, 7211, 7213, 7215, 7217, 7219, 7221, 7223, 7225, 7227, 7229, 7231, 7233, 7235, 7237, 7239, 7241, 7243, 7245, 7247, 7249, 7251, 7253, 7255, 7257, 7259, 7261, 7263, 7265, 7267, 7269, 7271, 7273, 7275, 7277, 7279, 7281, 7283, 7285, 7287, 7289, 7291, 7293, 7295, 7297, 7299, 7301, 7303])]
def mTb : List (List Jvm.Cond) := [k2_sels lw_privs, tables_1_1, tables_1_2, tables_1_3, tables_1_4, tables_1_5, tables_1_6, tables_1_7, tables_1_8, tables_1_9]
def mwd (q : Nat) : Option Jvm.Cond := match mTb[q / 1024]? with
  | some l => l[q % 1024]?
  | none => none
def mrec (m : Nat) : Option mMR := match mM[m / 16]? with
  | some l => l[m % 16]?
  | none => none
def mrh (m : Nat) : Option (Nat × Nat × Nat × Nat) := match mHt[m / 16]? with
  | some l => l[m % 16]?
  | none => none
def mcd (c : List (List (Option mR))) (pc : Nat) : Option mR := match c[pc / 16]? with
  | some l => (match l[pc % 16]? with
    | some (some r) => some r
    | _ => none)
  | none => none
def mPg (o q : Nat) : Option mPE := match mOw[o]? with
  | some (_, l) => (match l[q / 16]? with
    | some l2 => l2[q % 16]?
    | none => none)
  | none => none
end
section
/-! THE SMALL MACHINE: what the printed code does to a list of cells, by fuel; 03 says what it is, 05 that the real one does the same -/
abbrev mE : Type := (Nat × vp_A) ⊕ (Nat × List Value)
abbrev mL : Type := List (Option Value)
abbrev mO : Type := (Nat × mL × List Value × List mE) ⊕ ((Nat × List Value × List Value) ⊕ Option Value)
/-- the cells: the first four are given (the script, two tables, the text of words), the others are the run's own -/
def mget (ex h : List mE) (q : Nat) : Option mE := if q < 4 then ex[q]? else h[q - 4]?
def mput (h : List mE) (q : Nat) (e : mE) : List mE := h.set (q - 4) e
def mown (h : List mE) (q : Nat) : Option mE := if q < 4 then none else h[q - 4]?
def msz (e : mE) : Nat := match e with
  | .inl (_, (n, _)) => n
  | .inr (_, fs) => fs.length
def mhs (h : List mE) : Nat := (h.map msz).sum
def mfty (ci k : Nat) : Option FieldType := match mTy[ci]? with
  | some l => l[k]?
  | none => none
def lget (L : mL) (i : Nat) : Option Value := match L[i]? with
  | some (some v) => some v
  | _ => none
def lclr (L : mL) : Nat → mL
  | 0 => L
  | i + 1 => match L[i]? with
    | some (some (.long _)) => L.set i none
    | some (some (.double _)) => L.set i none
    | _ => L
def lset1 (L : mL) (i : Nat) (v : Value) : mL := (lclr L i).set i (some v)
def lset2 (L : mL) (i : Nat) (v : Value) : mL := ((lclr L i).set i (some v)).set (i + 1) none
/-- the locals with which a method begins -/
def lent1 : List Value → mL
  | [] => []
  | v :: vs => if v.category = 2 then some v :: none :: lent1 vs else some v :: lent1 vs
def lent (vs : List Value) (n : Nat) : mL := lent1 vs ++ List.replicate (n - (lent1 vs).length) none
def mcmp (c : ClassFile.Cond) (x y : Int32) : Bool := match c with
  | .eq => decide (x = y)
  | .ne => !decide (x = y)
  | .lt => decide (x < y)
  | .ge => decide (y ≤ x)
  | .gt => decide (y < x)
  | .le => decide (x ≤ y)
def macm (c : ACond) (e : Bool) (t f : Nat) : Nat := match c, e with
  | .eq, true => t
  | .eq, false => f
  | .ne, true => f
  | .ne, false => t
def mjmp (pc : Nat) (off : Int) : Nat := ((pc : Int) + off).toNat
def mib (i : Int32) (n : Nat) : Bool := !(decide (i < 0) || decide (n ≤ i.toNatClampNeg))
/-- a value may stand in a place of this type as it is -/
def mfit (ty : FieldType) (v : Value) : Bool := match ty, v with
  | .int, .int _ => true
  | .long, .long _ => true
  | .boolean, .int x => decide (x = 0) || decide (x = 1)
  | .object _, .null => true
  | .object _, .ref _ => true
  | .array _, .null => true
  | .array _, .ref _ => true
  | _, _ => false
def mcat (S : List Value) : Nat := (S.map fun v => v.category).sum
def mgo (pc : Nat) (L : mL) (S : List Value) (h : List mE) : Option mO := some (.inl (pc, L, S, h))
def mcall (mj : Nat) (as S : List Value) : Option mO := some (.inr (.inl (mj, as, S)))
/-- the arguments on the stack, the first one deepest -/
def mtake : Nat → List Value → List Value → Option (List Value × List Value)
  | 0, S, as => some (as, S)
  | n + 1, v :: S, as => mtake n S (v :: as)
  | _ + 1, [], _ => none
def mrows (n m q : Nat) : List mE := List.replicate n (.inl (0, (m, .inl (fun _ => 0))))
/-- one instruction -/
def mx (ret : Option FieldType) (ex : List mE) (r : mR) (pc : Nat) (L : mL) (S : List Value) (h : List mE) : Option mO :=
  match r with
  | (I, ln, a, b, _) => match I with
    | .iconst v => mgo (pc + ln) L (.int (Int32.ofInt v) :: S) h
    | .jsr_w v => mgo (pc + ln) L (.long (Int64.ofInt v) :: S) h
    | .aconst_null => mgo (pc + ln) L (.null :: S) h
    | .iload i => (match lget L i with
      | some (.int x) => mgo (pc + ln) L (.int x :: S) h
      | _ => none)
    | .lload i => (match lget L i with
      | some (.long x) => mgo (pc + ln) L (.long x :: S) h
      | _ => none)
    | .aload i => (match lget L i with
      | some (.ref x) => mgo (pc + ln) L (.ref x :: S) h
      | some .null => mgo (pc + ln) L (.null :: S) h
      | _ => none)
    | .istore i => (match S with
      | .int x :: T => if i < L.length then mgo (pc + ln) (lset1 L i (.int x)) T h else none
      | _ => none)
    | .lstore i => (match S with
      | .long x :: T => if i + 1 < L.length then mgo (pc + ln) (lset2 L i (.long x)) T h else none
      | _ => none)
    | .astore i => (match S with
      | .ref x :: T => if i < L.length then mgo (pc + ln) (lset1 L i (.ref x)) T h else none
      | .null :: T => if i < L.length then mgo (pc + ln) (lset1 L i .null) T h else none
      | _ => none)
    | .iinc i n => (match lget L i with
      | some (.int x) => if i < L.length then mgo (pc + ln) (lset1 L i (.int (x + Int32.ofInt n))) S h else none
      | _ => none)
    | .pop => (match S with
      | v :: T => if v.category = 1 then mgo (pc + ln) L T h else none
      | _ => none)
    | .pop2 => (match S with
      | .ref _ :: T => if mcat T ≤ 8 then mgo (pc + ln) L T h else none
      | _ => none)
    | .dup => (match S with
      | v :: T => if v.category = 1 then mgo (pc + ln) L (v :: v :: T) h else none
      | _ => none)
    | .dup_x1 => (match S with
      | v :: w :: T => if v.category = 1 ∧ w.category = 1 then mgo (pc + ln) L (v :: w :: v :: T) h else none
      | _ => none)
    | .dup2 => (match S with
      | v :: w :: T => if v.category = 1 ∧ w.category = 1 then mgo (pc + ln) L (v :: w :: v :: w :: T) h else none
      | _ => none)
    | .iadd => (match S with
      | .int y :: .int x :: T => mgo (pc + ln) L (.int (x + y) :: T) h
      | _ => none)
    | .isub => (match S with
      | .int y :: .int x :: T => mgo (pc + ln) L (.int (x - y) :: T) h
      | _ => none)
    | .imul => (match S with
      | .int y :: .int x :: T => mgo (pc + ln) L (.int (x * y) :: T) h
      | _ => none)
    | .idiv => (match S with
      | .int y :: .int x :: T => if y = 0 then none else mgo (pc + ln) L (.int (x / y) :: T) h
      | _ => none)
    | .irem => (match S with
      | .int y :: .int x :: T => if y = 0 then none else mgo (pc + ln) L (.int (x - x / y * y) :: T) h
      | _ => none)
    | .iand => (match S with
      | .int y :: .int x :: T => mgo (pc + ln) L (.int (x &&& y) :: T) h
      | _ => none)
    | .ior => (match S with
      | .int y :: .int x :: T => mgo (pc + ln) L (.int (x ||| y) :: T) h
      | _ => none)
    | .ixor => (match S with
      | .int y :: .int x :: T => mgo (pc + ln) L (.int (x ^^^ y) :: T) h
      | _ => none)
    | .ishl => (match S with
      | .int y :: .int x :: T => mgo (pc + ln) L (.int (x <<< (y &&& 31)) :: T) h
      | _ => none)
    | .ishr => (match S with
      | .int y :: .int x :: T => mgo (pc + ln) L (.int (x >>> (y &&& 31)) :: T) h
      | _ => none)
    | .iushr => (match S with
      | .int y :: .int x :: T => mgo (pc + ln) L (.int ((x.toUInt32 >>> (y.toUInt32 &&& Int32.toUInt32 31)).toInt32) :: T) h
      | _ => none)
    | .ineg => (match S with
      | .int x :: T => mgo (pc + ln) L (.int (-x) :: T) h
      | _ => none)
    | .i2l => (match S with
      | .int x :: T => mgo (pc + ln) L (.long x.toInt64 :: T) h
      | _ => none)
    | .i2b => (match S with
      | .int x :: T => mgo (pc + ln) L (.int x.toInt8.toInt32 :: T) h
      | _ => none)
    | .l2i => (match S with
      | .long x :: T => mgo (pc + ln) L (.int x.toInt32 :: T) h
      | _ => none)
    | .ladd => (match S with
      | .long y :: .long x :: T => mgo (pc + ln) L (.long (x + y) :: T) h
      | _ => none)
    | .lsub => (match S with
      | .long y :: .long x :: T => mgo (pc + ln) L (.long (x - y) :: T) h
      | _ => none)
    | .lmul => (match S with
      | .long y :: .long x :: T => mgo (pc + ln) L (.long (x * y) :: T) h
      | _ => none)
    | .ldiv => (match S with
      | .long y :: .long x :: T => if y = 0 then none else mgo (pc + ln) L (.long (x / y) :: T) h
      | _ => none)
    | .lrem => (match S with
      | .long y :: .long x :: T => if y = 0 then none else mgo (pc + ln) L (.long (x - x / y * y) :: T) h
      | _ => none)
    | .lcmp => (match S with
      | .long y :: .long x :: T => mgo (pc + ln) L (.int (lg_cmp x y) :: T) h
      | _ => none)
    | .ifCond c off => (match S with
      | .int x :: T => mgo (if mcmp c x 0 then mjmp pc off else pc + ln) L T h
      | _ => none)
    | .if_icmp c off => (match S with
      | .int y :: .int x :: T => mgo (if mcmp c x y then mjmp pc off else pc + ln) L T h
      | _ => none)
    | .if_acmp c off => (match S with
      | .ref y :: .ref x :: T => if 4 ≤ x ∧ 4 ≤ y then mgo (macm c (decide (x = y)) (mjmp pc off) (pc + ln)) L T h else none
      | .null :: .ref _ :: T => mgo (macm c false (mjmp pc off) (pc + ln)) L T h
      | .ref _ :: .null :: T => mgo (macm c false (mjmp pc off) (pc + ln)) L T h
      | .null :: .null :: T => mgo (macm c true (mjmp pc off) (pc + ln)) L T h
      | _ => none)
    | .ifnull off => (match S with
      | .ref _ :: T => mgo (pc + ln) L T h
      | .null :: T => mgo (mjmp pc off) L T h
      | _ => none)
    | .ifnonnull off => (match S with
      | .ref _ :: T => mgo (mjmp pc off) L T h
      | .null :: T => mgo (pc + ln) L T h
      | _ => none)
    | .goto off => mgo (mjmp pc off) L S h
    | .tableswitch d lo hi offs => (match S with
      | .int x :: T => if x.toInt < lo ∨ hi < x.toInt then mgo (mjmp pc d) L T h else (match offs[(x.toInt - lo).toNat]? with
          | some o => mgo (mjmp pc o) L T h
          | none => none)
      | _ => none)
    | .lookupswitch d ps => (match S with
      | .int x :: T => mgo (mjmp pc (Op.lookupswitch.offset ps.toList d x.toInt)) L T h
      | _ => none)
    | .getfield _ => (match S with
      | .ref q :: T => (match mown h q with
          | some (.inr (ci, fs)) => if ci = a then (match fs[b]? with
              | some v => mgo (pc + ln) L (v :: T) h
              | none => none) else none
          | _ => none)
      | _ => none)
    | .putfield _ => (match S with
      | v :: .ref q :: T => (match mown h q with
          | some (.inr (ci, fs)) => if ci = a ∧ b < fs.length then (match mfty a b with
              | some ty => if mfit ty v then mgo (pc + ln) L T (mput h q (.inr (ci, fs.set b v))) else none
              | none => none) else none
          | _ => none)
      | _ => none)
    | .getstatic _ => mgo (pc + ln) L (.ref (a + 1) :: S) h
    | .arraylength => (match S with
      | .ref q :: T => (match mget ex h q with
          | some (.inl (t, (n, _))) => if t < 9 then mgo (pc + ln) L (.int (Int32.ofNat n) :: T) h else none
          | _ => none)
      | _ => none)
    | .iaload => (match S with
      | .int i :: .ref q :: T => (match mget ex h q with
          | some (.inl (0, (n, .inl f))) => if mib i n then mgo (pc + ln) L (.int (f i.toNatClampNeg) :: T) h else none
          | _ => none)
      | _ => none)
    | .baload => (match S with
      | .int i :: .ref q :: T => (match mown h q with
          | some (.inl (1, (n, .inl f))) => if mib i n then mgo (pc + ln) L (.int (f i.toNatClampNeg) :: T) h else none
          | some (.inl (8, (n, .inl f))) => if mib i n then mgo (pc + ln) L (.int (f i.toNatClampNeg) :: T) h else none
          | _ => none)
      | _ => none)
    | .laload => (match S with
      | .int i :: .ref q :: T => (match mget ex h q with
          | some (.inl (2, (n, .inr (.inl f)))) => if mib i n then mgo (pc + ln) L (.long (f i.toNatClampNeg) :: T) h else none
          | _ => none)
      | _ => none)
    | .aaload => (match S with
      | .int i :: .ref q :: T => (match mown h q with
          | some (.inl (t, (n, .inr (.inr (.inr (.inr f)))))) => if mib i n && decide (3 ≤ t ∧ t < 8) then mgo (pc + ln) L (va_rf (f i.toNatClampNeg) :: T) h else none
          | _ => none)
      | _ => none)
    | .iastore => (match S with
      | .int x :: .int i :: .ref q :: T => (match mown h q with
          | some (.inl (0, (n, .inl f))) => if mib i n then mgo (pc + ln) L T (mput h q (.inl (0, (n, .inl (upd f i.toNatClampNeg x))))) else none
          | _ => none)
      | _ => none)
    | .bastore => (match S with
      | .int x :: .int i :: .ref q :: T => (match mown h q with
          | some (.inl (1, (n, .inl f))) => if mib i n && (decide (x = 0) || decide (x = 1)) then mgo (pc + ln) L T (mput h q (.inl (1, (n, .inl (upd f i.toNatClampNeg x))))) else none
          | some (.inl (8, (n, .inl f))) => if mib i n then mgo (pc + ln) L T (mput h q (.inl (8, (n, .inl (upd f i.toNatClampNeg x.toInt8.toInt32))))) else none
          | _ => none)
      | _ => none)
    | .lastore => (match S with
      | .long x :: .int i :: .ref q :: T => (match mown h q with
          | some (.inl (2, (n, .inr (.inl f)))) => if mib i n then mgo (pc + ln) L T (mput h q (.inl (2, (n, .inr (.inl (vp_updL f i.toNatClampNeg x)))))) else none
          | _ => none)
      | _ => none)
    | .aastore => (match S with
      | .ref v :: .int i :: .ref q :: T => (match mown h q, mown h v with
          | some (.inl (t, (n, .inr (.inr (.inr (.inr f)))))), some (.inr (ci, _)) =>
              if mib i n && decide (mEl[t]? = some (some ci)) then mgo (pc + ln) L T (mput h q (.inl (t, (n, .inr (.inr (.inr (.inr (va_up f i.toNatClampNeg (some v))))))))) else none
          | _, _ => none)
      | .null :: .int i :: .ref q :: T => (match mown h q with
          | some (.inl (t, (n, .inr (.inr (.inr (.inr f)))))) => if mib i n && decide (3 ≤ t ∧ t < 7) then mgo (pc + ln) L T (mput h q (.inl (t, (n, .inr (.inr (.inr (.inr (va_up f i.toNatClampNeg none)))))))) else none
          | _ => none)
      | _ => none)
    | .newarray t => (match S with
      | .int n :: T => if ¬ n < 0 ∧ n.toNatClampNeg ≤ 4000000 then (match t with
          | .int => mgo (pc + ln) L (.ref (h.length + 4) :: T) (h ++ [.inl (0, (n.toNatClampNeg, .inl (fun _ => 0)))])
          | .boolean => mgo (pc + ln) L (.ref (h.length + 4) :: T) (h ++ [.inl (1, (n.toNatClampNeg, .inl (fun _ => 0)))])
          | .byte => mgo (pc + ln) L (.ref (h.length + 4) :: T) (h ++ [.inl (8, (n.toNatClampNeg, .inl (fun _ => 0)))])
          | .long => mgo (pc + ln) L (.ref (h.length + 4) :: T) (h ++ [.inl (2, (n.toNatClampNeg, .inr (.inl (fun _ => 0))))])
          | _ => none) else none
      | _ => none)
    | .anewarray _ => (match S with
      | .int n :: T => if ¬ n < 0 ∧ n.toNatClampNeg ≤ 4000000 then (match mEl[a]? with
          | some (some _) => mgo (pc + ln) L (.ref (h.length + 4) :: T) (h ++ [.inl (a, (n.toNatClampNeg, .inr (.inr (.inr (.inr (fun _ => none))))))])
          | _ => none) else none
      | _ => none)
    | .multianewarray _ _ => (match S with
      | .int k :: .int n :: T => if (¬ n < 0 ∧ n.toNatClampNeg ≤ 4000000) ∧ (¬ k < 0 ∧ k.toNatClampNeg ≤ 4000000) then
          mgo (pc + ln) L (.ref (h.length + 4) :: T) (h ++ (.inl (7, (n.toNatClampNeg, .inr (.inr (.inr (.inr (fun i => if i < n.toNatClampNeg then some (h.length + 4 + 1 + i) else none)))))) :: List.replicate n.toNatClampNeg (.inl (0, (k.toNatClampNeg, .inl (fun _ => 0))))))
          else none
      | _ => none)
    | .new _ => (match mTy[a]? with
      | some l => mgo (pc + ln) L (.ref (h.length + 4) :: S) (h ++ [.inr (a, l.map defaultValue)])
      | none => none)
    | .invokestatic _ => (match mtake b S [] with
      | some (as, T) => if mcat T ≤ 8 then mcall a as T else none
      | none => none)
    | .invokevirtual _ => (match mtake b S [] with
      | some (as, .ref q :: T) => (match mown h q, mrec a with
          | some (.inr (ci, _)), some R => if ci = R.2.2.2.2.1 ∧ mcat T ≤ 8 then mcall a (.ref q :: as) T else none
          | _, _ => none)
      | _ => none)
    | .invokespecial _ => (match mtake b S [] with
      | some (as, .ref q :: T) => if mcat T ≤ 8 then mcall a (.ref q :: as) T else none
      | _ => none)
    | .ireturn => (match S with
      | [.int x] => (match ret with
          | some .int => some (.inr (.inr (some (.int x))))
          | some .boolean => if decide (x = 0) || decide (x = 1) then some (.inr (.inr (some (.int x)))) else none
          | _ => none)
      | _ => none)
    | .lreturn => (match S with
      | [.long x] => (match ret with
          | some .long => some (.inr (.inr (some (.long x))))
          | _ => none)
      | _ => none)
    | .areturn => (match S with
      | [.ref x] => (match ret with
          | some (.object _) => some (.inr (.inr (some (.ref x))))
          | some (.array _) => some (.inr (.inr (some (.ref x))))
          | _ => none)
      | [.null] => (match ret with
          | some (.object _) => some (.inr (.inr (some .null)))
          | some (.array _) => some (.inr (.inr (some .null)))
          | _ => none)
      | _ => none)
    | .return_ => (match S with
      | [] => (match ret with
          | none => some (.inr (.inr none))
          | _ => none)
      | _ => none)
    | _ => none
def mpush (v : Option Value) (S : List Value) : List Value := match v with
  | some v => v :: S
  | none => S
/-- a run: fuel, depth, method, place, locals, stack, cells; what is returned, and the cells then -/
def mrun (ex : List mE) : Nat → Nat → Nat → Nat → mL → List Value → List mE → Option (Option Value × List mE)
  | 0, _, _, _, _, _, _ => none
  | f + 1, d, m, pc, L, S, h => match mrec m with
    | none => none
    | some R => match mcd R.2.2.2.2.2.2.2 pc with
      | none => none
      | some r => match mx R.2.2.2.1 ex r pc L S h with
        | none => none
        | some (.inl (pc', L', S', h')) => mrun ex f d m pc' L' S' h'
        | some (.inr (.inr v)) => some (v, h)
        | some (.inr (.inl (m', as, T))) => match d, mrec m' with
          | d' + 1, some R' => if R'.2.2.1 < (lent1 as).length then none else (match mrun ex f d' m' 0 (lent as R'.2.2.1) [] h with
            | some (v, h') => mrun ex f d m (pc + r.2.1) L (mpush v T) h'
            | none => none)
          | _, _ => none
end
section
/-! WHAT IS CHECKED OF THE PRINTED NAMES, by the kernel: each instruction is the bytes', each link stands in the tables -/
def mnorm (J : Instr) : Option Instr := match J with
  | .aload_n k => some (.aload k)
  | .iload_n k => some (.iload k)
  | .lload_n k => some (.lload k)
  | .astore_n k => some (.astore k)
  | .istore_n k => some (.istore k)
  | .lstore_n k => some (.lstore k)
  | .bipush n => if (Int8.ofInt n).toInt32 = Int32.ofInt n then some (.iconst n) else none
  | .sipush n => if (Int16.ofInt n).toInt32 = Int32.ofInt n then some (.iconst n) else none
  | .lconst n => some (.jsr_w ((n : Nat) : Int))
  | J => some J
/-- the jumps go to places from 0 on -/
def mjok (pc : Nat) (J : Instr) : Bool := match J with
  | .ifCond _ o => decide (0 ≤ (pc : Int) + o)
  | .if_icmp _ o => decide (0 ≤ (pc : Int) + o)
  | .if_acmp _ o => decide (0 ≤ (pc : Int) + o)
  | .ifnull o => decide (0 ≤ (pc : Int) + o)
  | .ifnonnull o => decide (0 ≤ (pc : Int) + o)
  | .goto o => decide (0 ≤ (pc : Int) + o)
  | .tableswitch d _ _ os => decide (0 ≤ (pc : Int) + d) && os.toList.all (fun o => decide (0 ≤ (pc : Int) + o))
  | .lookupswitch d ps => decide (0 ≤ (pc : Int) + d) && ps.toList.all (fun o => decide (0 ≤ (pc : Int) + o.2)) && (ps.toList.zip (ps.toList.drop 1)).all (fun (a, next) => a.1 < next.1)
  | _ => true
def mfo (J : Instr) (i : Nat) : Bool := match J with
  | .getfield k => k == i
  | .putfield k => k == i
  | .getstatic k => k == i
  | .invokevirtual k => k == i
  | .invokestatic k => k == i
  | .invokespecial k => k == i
  | .new k => k == i
  | .anewarray k => k == i
  | .multianewarray k _ => k == i
  | _ => false
/-- the pool's entry of an instruction that has one -/
def mpk (o q i a b : Nat) (ks : List Nat) : Bool := match mPg o q with
  | some (i2, k, a2, b2, _, _) => (i2 == i) && ks.contains k && (a2 == a) && (b2 == b)
  | none => false
def mpv (o q i k : Nat) (v : Int) : Bool := match mPg o q with
  | some (i2, k2, _, _, _, v2) => (i2 == i) && (k2 == k) && (v2 == v)
  | none => false
/-- how many arguments, and whether static -/
def mmk (a b st : Nat) (ini : Bool) : Bool := match mrec a with
  | some R => Nat.blt a mLaw && (R.2.2.2.2.2.1 == st) && (R.2.2.2.2.2.2.1 == b) && (decide (R.1.name = "<init>") == ini)
  | none => false
/-- a field that is not final; or one in its own class's constructor -/
def mnf (a b : Nat) : Bool := match vwCl[a]? with
  | some (_, T, _) => decide ((T b).2.2.2 = false)
  | none => false
def mfin (y : MethodName) (a b : Nat) : Bool := match vwCl[a]? with
  | some (_, T, _) => decide (y.name = "<init>") && decide ((T b).1 = y.cls)
  | none => false
/-- how many bytes an instruction has (0: as many as it says) -/
def mlen (J : Instr) : Nat := match J with
  | .bipush _ => 2
  | .ldc _ => 2
  | .iload _ => 2
  | .lload _ => 2
  | .aload _ => 2
  | .istore _ => 2
  | .lstore _ => 2
  | .astore _ => 2
  | .newarray _ => 2
  | .sipush _ => 3
  | .ldc_w _ => 3
  | .ldc2_w _ => 3
  | .iinc _ _ => 3
  | .ifCond _ _ => 3
  | .if_icmp _ _ => 3
  | .if_acmp _ _ => 3
  | .ifnull _ => 3
  | .ifnonnull _ => 3
  | .goto _ => 3
  | .getfield _ => 3
  | .putfield _ => 3
  | .getstatic _ => 3
  | .invokevirtual _ => 3
  | .invokestatic _ => 3
  | .invokespecial _ => 3
  | .new _ => 3
  | .anewarray _ => 3
  | .multianewarray _ _ => 4
  | .tableswitch _ _ _ _ => 0
  | .lookupswitch _ _ => 0
  | _ => 1
def okI (o : Nat) (y : MethodName) (cc : ByteArray) (pc : Nat) (r : mR) : Bool := match r with
  | (I, ln, a, b, q) => match decode cc pc with
    | .error _ => false
    | .ok (J, n) => (n == ln) && (mlen J == 0 || n == mlen J) && (match J with
      | .getfield i => (match I with
        | .getfield k => (k == i) && mpk o q i a b [0, 1]
        | _ => false)
      | .putfield i => (match I with
        | .putfield k => (k == i) && ((mpk o q i a b [0] && (mnf a b || mfin y a b)) || (mpk o q i a b [1] && mnf a b))
        | _ => false)
      | .getstatic i => (match I with
        | .getstatic k => (k == i) && mpk o q i a b [8]
        | _ => false)
      | .invokevirtual i => (match I with
        | .invokevirtual k => (k == i) && mpk o q i a 0 [2, 3] && mmk a b 0 false
        | _ => false)
      | .invokestatic i => (match I with
        | .invokestatic k => (k == i) && mpk o q i a 0 [2, 3] && mmk a b 1 false
        | _ => false)
      | .invokespecial i => (match I with
        | .invokespecial k => (k == i) && mpk o q i a 0 [2, 3] && mmk a b 0 true
        | .pop2 => mpk o q i 0 0 [9]
        | _ => false)
      | .new i => (match I with
        | .new k => (k == i) && mpk o q i a b [4]
        | _ => false)
      | .anewarray i => (match I with
        | .anewarray k => (k == i) && mpk o q i a b [10]
        | _ => false)
      | .multianewarray i d => (match I with
        | .multianewarray k e => (k == i) && (e == d) && (d == 2) && mpk o q i a b [5]
        | _ => false)
      | .ldc i => (match I with
        | .iconst v => mpv o q i 6 v
        | _ => false)
      | .ldc_w i => (match I with
        | .iconst v => mpv o q i 6 v
        | _ => false)
      | .ldc2_w i => (match I with
        | .jsr_w v => mpv o q i 7 v
        | _ => false)
      | .pop2 => false
      | .jsr_w _ => false
      | J => decide (mnorm J = some I) && mjok pc J)
def okL (o : Nat) (y : MethodName) (cc : ByteArray) : Nat → List (Option mR) → Bool
  | _, [] => true
  | pc, none :: l => okL o y cc (pc + 1) l
  | pc, some r :: l => okI o y cc pc r && okL o y cc (pc + 1) l
def okC (o : Nat) (y : MethodName) (cc : ByteArray) : Nat → List (List (Option mR)) → Bool
  | _, [] => true
  | pc, l :: t => okL o y cc pc l && okC o y cc (pc + 16) t
/-- a method: its code, its words -/
def okM (R : mMR) (t : Nat × Nat × Nat × Nat) : Bool := match R, t with
  | (y, cc, mx, ret, o, st, na, k), (t1, t2, t3, t4) => okC o y cc 0 k && decide ((mOw[o]?).map (fun q => q.1) = some y.cls) && decide (mwd t1 = some (.code y cc mx ret)) && decide (mwd t2 = some (.initialized y.cls)) &&
      decide (y.cls ≠ "java/lang/invoke/MethodHandle" ∧ y.cls ≠ "java/lang/invoke/VarHandle" ∧ (parseMethodDescriptor y.desc).map (fun d => d.parameters.length) = some na) && plainName y.cls &&
      decide (mx ≤ 45) &&
      (if st = 1 then decide (mwd t3 = some (.static y)) else decide (mwd t3 = some (.instanceMethod y)) && (decide (y.name = "<init>") || decide (mwd t4 = some (.selects y.cls y y))) && (decide (¬ y.name = "<init>") || decide (ret = none)))


/-- an entry of a pool: what it names stands in the tables -/
def okP (own : String) (e : mPE) : Bool := match e with
  | (i, k, a, b, q, v) => match k with
    | 0 => (match vwCl[a]? with
      | some (_, T, N) => decide (b < N) && decide (mwd q = some (.fieldLink own i (T b).1 (T b).2.1 (T b).2.2.1))
      | none => false)
    | 1 => (match vwCl[a]?, mwd q with
      | some (_, T, N), some (.fieldLinkNest o2 i2 r n d _) => decide (b < N) && decide (o2 = own) && (i2 == i) && decide (r = (T b).1) && decide (n = (T b).2.1) && decide (d = (T b).2.2.1) 
      | _, _ => false)
    | 2 => (match mrec a with
      | some R => decide (mwd q = some (.methodLink own i R.1))
      | none => false)
    | 3 => (match mrec a, mwd q with
      | some R, some (.methodLinkNest o2 i2 y _) => decide (o2 = own) && (i2 == i) && decide (y = R.1)
      | _, _ => false)
    | 4 => (match vwCl[a]? with
      | some (C, _, _) => decide (mwd q = some (.classLink own i C))
      | none => false)
    | 5 => decide (mwd q = some (.classLink own i ("[" ++ (FieldType.array .int).toString)))
    | 6 => decide (mwd q = some (.constant own i (Int32.ofInt v)))
    | 7 => decide (mwd q = some (.constantLong own i (Int64.ofInt v)))
    | 8 => (match mStc[a]? with
      | some (C, n, d) => decide (mwd q = some (.fieldLink own i C n d))
      | none => false)
    | 9 => decide (mwd q = some (.methodLink own i objectInit))
    | 10 => (match vwCl[b]?, mAT[a]? with
      | some (C, _, _), some ty => decide (mwd q = some (.classLink own i C)) && decide (ty = .object C) && decide (mEl[a]? = some (some b))
      | _, _ => false)
    | _ => false
/-- the classes: their words, their fields' types -/
def okF (cl : List vw_C) (hs : List (Nat × Nat × List Nat)) (tys : List (List FieldType)) : Bool := (cl.zip (hs.zip tys)).all fun q => match q with
  | ((C, T, N), (t1, t2, l), ty) => decide (mwd t1 = some (.instantiable C N)) && decide (mwd t2 = some (.initialized C)) && decide (l.map (fun i => mwd i) = (u_ws C T N).map some) && decide (ty.length = N) && decide ((List.range N).map (fun k => parseFieldDescriptor (T k).2.2.1) = ty.map some) && (u_ws C T N).all goodWord
def okA : Bool := (mAT.zip mAh).all fun q => decide (mwd q.2 = some (.arrayClass q.1)) || decide (mwd q.2 = some (.arrayOver q.1))

theorem mwd_in {q : Nat} {w : Jvm.Cond} (h : mwd q = some w) : w ∈ lw_tbl := by
  unfold mwd at h
  split at h
  · rename_i l hl
    have h1 : l ∈ mTb := List.mem_of_getElem? hl
    have h2 : w ∈ l := List.mem_of_getElem? h
    unfold lw_tbl tables_1
    simp only [mTb, List.mem_cons, List.not_mem_nil, or_false] at h1
    simp only [List.mem_append]
    rcases h1 with rfl | rfl | rfl | rfl | rfl | rfl | rfl | rfl | rfl | rfl
    all_goals simp [h2]
  · cases h
theorem ck_F : okF vwCl mCh mTy = true := by decide +kernel
theorem ck_A : okA = true := by decide +kernel
theorem ck_P0 : mP_0.all (fun l => l.all (okP "HireYard$Bills")) = true := by decide +kernel
theorem ck_P1 : mP_1.all (fun l => l.all (okP "HireYard$Kind")) = true := by decide +kernel
theorem ck_P2 : mP_2.all (fun l => l.all (okP "HireYard$Log")) = true := by decide +kernel
theorem ck_P3 : mP_3.all (fun l => l.all (okP "HireYard$Lorry")) = true := by decide +kernel
theorem ck_P4 : mP_4.all (fun l => l.all (okP "HireYard$Machine")) = true := by decide +kernel
theorem ck_P5 : mP_5.all (fun l => l.all (okP "HireYard$Match")) = true := by decide +kernel
theorem ck_P6 : mP_6.all (fun l => l.all (okP "HireYard$Meter")) = true := by decide +kernel
theorem ck_P7 : mP_7.all (fun l => l.all (okP "HireYard$Order")) = true := by decide +kernel
theorem ck_P8 : mP_8.all (fun l => l.all (okP "HireYard$Roads")) = true := by decide +kernel
theorem ck_P9 : mP_9.all (fun l => l.all (okP "HireYard$Tape")) = true := by decide +kernel
theorem ck_P10 : mP_10.all (fun l => l.all (okP "HireYard$Terms")) = true := by decide +kernel
theorem ck_P11 : mP_11.all (fun l => l.all (okP "HireYard")) = true := by decide +kernel
theorem ck_P12 : mP_12.all (fun l => l.all (okP "HireYardModel")) = true := by decide +kernel
theorem ck_P13 : mP_13.all (fun l => l.all (okP "HireYardLaw")) = true := by decide +kernel
theorem ck_P14 : mP_14.all (fun l => l.all (okP "java/lang/Math")) = true := by decide +kernel
theorem ck_P15 : mP_15.all (fun l => l.all (okP "java/util/Arrays")) = true := by decide +kernel
theorem ck_P : mOw.all (fun q => q.2.all fun l => l.all (okP q.1)) = true := by
  simp only [mOw, List.all_cons, List.all_nil, Bool.and_true, ck_P0, ck_P1, ck_P2, ck_P3, ck_P4, ck_P5, ck_P6, ck_P7, ck_P8, ck_P9, ck_P10, ck_P11, ck_P12, ck_P13, ck_P14, ck_P15]
theorem ck_ai : Jvm.Cond.arrayClass .int ∈ lw_tbl := mwd_in (q := mAh.getD 0 0) (by decide +kernel)
theorem ck_az : Jvm.Cond.arrayClass .boolean ∈ lw_tbl := mwd_in (q := mAh.getD 1 0) (by decide +kernel)
theorem ck_al : Jvm.Cond.arrayClass .long ∈ lw_tbl := mwd_in (q := mAh.getD 2 0) (by decide +kernel)
theorem ck_ab : Jvm.Cond.arrayClass .byte ∈ lw_tbl := mwd_in (q := mAh.getD 8 0) (by decide +kernel)
theorem ck_am : Jvm.Cond.arrayOver (.array .int) ∈ lw_tbl := mwd_in (q := mAh.getD 7 0) (by decide +kernel)
theorem ck_ao : ∀ (t : Nat) (C : String), mAT[t]? = some (.object C) → Jvm.Cond.arrayOver (.object C) ∈ lw_tbl
  | 0, _, h => by cases h
  | 1, _, h => by cases h
  | 2, _, h => by cases h
  | 3, _, h => by cases h; exact mwd_in (q := mAh.getD 3 0) (by decide +kernel)
  | 4, _, h => by cases h; exact mwd_in (q := mAh.getD 4 0) (by decide +kernel)
  | 5, _, h => by cases h; exact mwd_in (q := mAh.getD 5 0) (by decide +kernel)
  | 6, _, h => by cases h; exact mwd_in (q := mAh.getD 6 0) (by decide +kernel)
  | 7, _, h => by cases h
  | 8, _, h => by cases h
  | n + 9, _, h => by cases h
theorem ck_oi : Jvm.Cond.instanceMethod Lib.objectInit ∈ lw_tbl := mwd_in (q := mOi.1) (by decide +kernel)
theorem ck_oc : Jvm.Cond.code Lib.objectInit ⟨#[0xb1]⟩ 1 none ∈ lw_tbl := mwd_in (q := mOi.2) (by decide +kernel)
theorem ck_ow : ∀ (ci : Nat) (C : String) (T : u_T) (N : Nat), vwCl[ci]? = some (C, T, N) → (mOw[ci]?).map (fun q => q.1) = some C
  | 0, _, _, _, h => by cases h; rfl
  | 1, _, _, _, h => by cases h; rfl
  | 2, _, _, _, h => by cases h; rfl
  | 3, _, _, _, h => by cases h; rfl
  | 4, _, _, _, h => by cases h; rfl
  | 5, _, _, _, h => by cases h; rfl
  | 6, _, _, _, h => by cases h; rfl
  | 7, _, _, _, h => by cases h; rfl
  | 8, _, _, _, h => by cases h; rfl
  | 9, _, _, _, h => by cases h; rfl
  | 10, _, _, _, h => by cases h; rfl
  | 11, _, _, _, h => by cases h; rfl
  | 12, _, _, _, h => by cases h; rfl
  | n + 13, _, _, _, h => by cases h
theorem ck_s0 : Jvm.Cond.laysStatic "HireYard$Match" "DIGIT" "[J" ∈ lw_tbl := mwd_in (q := mSw.getD 0 0) (by decide +kernel)
theorem ck_s1 : Jvm.Cond.laysStatic "HireYardModel" "NAMES" "[J" ∈ lw_tbl := mwd_in (q := mSw.getD 1 0) (by decide +kernel)
theorem ck_i0 : Jvm.Cond.initialized "HireYard$Match" ∈ lw_tbl := mwd_in (q := mSi.getD 0 0) (by decide +kernel)
theorem ck_i1 : Jvm.Cond.initialized "HireYardModel" ∈ lw_tbl := mwd_in (q := mSi.getD 1 0) (by decide +kernel)
end
section
/-! rows that tell the heap's size too (began as the kit's rows of the same instructions) -/
section XROWS
variable {p : Program} {l : Launch} {e : Env} {R : Room} {s : State} {m : MethodId} {args : Array Value} {below : List Frame} {meth : Method} {c : Code} {H : Heap} {locs : List Loc} {cells slots : Nat} {Q : State → Prop}
variable {cc : ByteArray} {pc : Nat} {ls : Array Slot} {rest : List Value} {D : va_G} {cl : List vw_C} {A : Nat → Prop} {a : Nat} {tys : List (ClassId × FieldType)} {H0 : Heap}
theorem x_one {D : va_G} {cl : List vw_C} {q : Nat × va_E} {H : Heap} (h : va_at D cl q H) : va_P D cl [q] H := by
  intro k x hk
  have hz : k < 1 := (List.getElem?_eq_some_iff.mp hk).1
  rw [show k = 0 by omega] at hk
  cases hk
  exact h
/-- what a store leaves -/
def x_st (D : va_G) (cl : List vw_C) (A : Nat → Prop) (H0 H : Heap) (a : Nat) (e : va_E) (H1 : Heap) (locs1 : List Loc) : Prop :=
  H1.size = H.size ∧ va_at D cl (a, e) H1 ∧ (∀ q : Nat, q ≠ a → H1[q]? = H[q]?) ∧ va_S A H0 H1 locs1
theorem x_put (hexec : p.tables.exec = Jvm.exec) (hb : c.code = cc) {own C : String} {T : u_T} {N ci index : Nat} {Ts : List Jvm.Cond} (hts : ∀ w ∈ Ts, w.before args s = true) (hin : ∀ w ∈ u_ws C T N, w ∈ Ts) (ty0 : Nat → FieldType) (hty : ∀ k, k < N → parseFieldDescriptor (T k).2.2.1 = some (ty0 k)) (hnm : ∀ a, a < N → ∀ b, b < N → a ≠ b → (T a).2.1 ≠ (T b).2.1) (hown : s.vm.findClass own = some m.cls) (hK : va_K D cl tys s) {fs : List Value} (he : va_at D cl (a, .inr (ci, fs)) H) (hA : A a) (hS0 : va_S A H0 H locs) (hc : cl[ci]? = some (C, T, N)) (k : Nat) (hk : k < N) (hlink : (Jvm.Cond.fieldLink own index (T k).1 (T k).2.1 (T k).2.2.1).before args s = true) (hfin : (T k).2.2.2 = false ∨ (meth.name = "<init>" ∧ (T k).1 = own)) {ty : FieldType} {v : Value} (hd : parseFieldDescriptor (T k).2.2.1 = some ty) (hn : narrow ty v = v) (hfit : fits ty v = true) (hl : k < fs.length)
    (hdg : decode cc pc = .ok (.putfield index, 3)) (kk : ∀ (H1 : Heap) (locs1 : List Loc), x_st D cl A H0 H a (.inr (ci, fs.set k v)) H1 locs1 → W p l e R s m args below meth c H1 locs1 cells slots Q (F0 m (pc + 3) ls rest)) : W p l e R s m args below meth c H locs cells slots Q (F0 m pc ls (v :: .ref a :: rest)) := by
  have hap := va_apart (own := own) hts hin ty0 hty hnm hK hc
  obtain ⟨r, h1, cell, q1, q2, q3, q4⟩ := he
  have hr : r = (C, T, N) := Option.some.inj (h1.symm.trans hc)
  subst hr
  obtain ⟨hS, hfc, kC, hkC, hkind⟩ := hK.1 ci _ hc
  obtain ⟨cf, kf, fi, f, hi, hsl⟩ := hS k hk
  have hlay := hts _ (hin _ (u_in_lay hk))
  have hst := (u_facts hfc hkC (u_lays hts hin hk) hi).1
  by_cases hf : (T k).2.2.2 = true
  · obtain ⟨hin2, hdecl⟩ : meth.name = "<init>" ∧ (T k).1 = own := by
      rcases hfin with h | h
      · rw [hf] at h; cases h
      · exact h
    unfold u_lay at hlay
    rw [if_pos hf] at hlay
    have hcf : m.cls = cf := by
      obtain ⟨_, _, c', _, _, _, -, -, hf', -, -, -, hown2, -⟩ := Cond.laysFinal_spec hlay
      have e1 : c' = cf := by have := hi.symm.trans hf'; simp at this; exact this.1.symm
      rw [hdecl] at hown2
      rw [← e1]; exact Option.some.inj (hown.symm.trans hown2)
    have h6 := u_fits hfc hkC hkind (Or.inr hlay) hi hd hn hfit
    refine W.putFinK hexec hb hown hlink hi hst hcf hin2 (by rw [q2]; exact h6) q1 q3 (by rw [hsl]; exact k2_hasslot (q4 k hk)) rfl rfl hdg fun H' e1 e2 e3 => ?_
    rw [hsl] at e1 ⊢
    exact kk H' _ ⟨e2, ⟨_, hc, t_OB.to (V := updV (vp_V fs) k v) ⟨_, e1, q2, q3, t_set q4 hap hk v⟩ (fun j _ => vp_updV_set hl v j)⟩, e3, hS0.put e2 e3 hA⟩
  · unfold u_lay at hlay
    rw [if_neg hf] at hlay
    have h6 := u_store hfc hkC hkind hlay hi hd hn hfit
    refine W.putK hexec hb (f := f) ⟨hown, hlink, ⟨_, _, _, hi⟩, hst⟩ (by rw [q2]; exact h6) q1 q3 (by rw [hsl]; exact k2_hasslot (q4 k hk)) rfl rfl hdg fun H' e1 e2 e3 => ?_
    rw [hsl] at e1 ⊢
    exact kk H' _ ⟨e2, ⟨_, hc, t_OB.to (V := updV (vp_V fs) k v) ⟨_, e1, q2, q3, t_set q4 hap hk v⟩ (fun j _ => vp_updV_set hl v j)⟩, e3, hS0.put e2 e3 hA⟩
theorem x_putN (hexec : p.tables.exec = Jvm.exec) (hb : c.code = cc) {own C host : String} {T : u_T} {N ci index : Nat} {Ts : List Jvm.Cond} (hts : ∀ w ∈ Ts, w.before args s = true) (hin : ∀ w ∈ u_ws C T N, w ∈ Ts) (ty0 : Nat → FieldType) (hty : ∀ k, k < N → parseFieldDescriptor (T k).2.2.1 = some (ty0 k)) (hnm : ∀ a, a < N → ∀ b, b < N → a ≠ b → (T a).2.1 ≠ (T b).2.1) (hown : s.vm.findClass own = some m.cls) (hK : va_K D cl tys s) {fs : List Value} (he : va_at D cl (a, .inr (ci, fs)) H) (hA : A a) (hS0 : va_S A H0 H locs) (hc : cl[ci]? = some (C, T, N)) (k : Nat) (hk : k < N) (hlink : (Jvm.Cond.fieldLinkNest own index (T k).1 (T k).2.1 (T k).2.2.1 host).before args s = true) (hfin : (T k).2.2.2 = false) {ty : FieldType} {v : Value} (hd : parseFieldDescriptor (T k).2.2.1 = some ty) (hn : narrow ty v = v) (hfit : fits ty v = true) (hl : k < fs.length)
    (hdg : decode cc pc = .ok (.putfield index, 3)) (kk : ∀ (H1 : Heap) (locs1 : List Loc), x_st D cl A H0 H a (.inr (ci, fs.set k v)) H1 locs1 → W p l e R s m args below meth c H1 locs1 cells slots Q (F0 m (pc + 3) ls rest)) : W p l e R s m args below meth c H locs cells slots Q (F0 m pc ls (v :: .ref a :: rest)) := by
  have hap := va_apart (own := own) hts hin ty0 hty hnm hK hc
  obtain ⟨r, h1, cell, q1, q2, q3, q4⟩ := he
  have hr : r = (C, T, N) := Option.some.inj (h1.symm.trans hc)
  subst hr
  obtain ⟨hS, hfc, kC, hkC, hkind⟩ := hK.1 ci _ hc
  obtain ⟨cf, kf, fi, f, hi, hsl⟩ := hS k hk
  have hlay := hts _ (hin _ (u_in_lay hk))
  unfold u_lay at hlay
  rw [if_neg (by rw [hfin]; decide)] at hlay
  have hst := (u_facts hfc hkC (u_lays hts hin hk) hi).1
  have h6 := u_store hfc hkC hkind hlay hi hd hn hfit
  refine va_WputK hexec hb (f := f) hown hlink hi hst (by rw [q2]; exact h6) q1 q3 (by rw [hsl]; exact k2_hasslot (q4 k hk)) rfl rfl hdg fun H' e1 e2 e3 => ?_
  rw [hsl] at e1 ⊢
  exact kk H' _ ⟨e2, ⟨_, hc, t_OB.to (V := updV (vp_V fs) k v) ⟨_, e1, q2, q3, t_set q4 hap hk v⟩ (fun j _ => vp_updV_set hl v j)⟩, e3, hS0.put e2 e3 hA⟩
theorem x_iast (hexec : p.tables.exec = Jvm.exec) (hb : c.code = cc) (hK : va_K D cl tys s) (hA : A a) (hS : va_S A H0 H locs) (t0 : Nat) {cA : ClassId} {n : Nat} {f : Nat → Int32} (ha : va_at D cl (a, .inl (cA, n, .inl f)) H) (ht : tys[t0]? = some (cA, .int)) {i : Int32} {x : Int32} (hin : vp_in i n) (hdg : decode cc pc = .ok (.iastore, 1))
    (kk : ∀ (H1 : Heap) (locs1 : List Loc), x_st D cl A H0 H a (.inl (cA, n, .inl (upd f i.toNatClampNeg x))) H1 locs1 → W p l e R s m args below meth c H1 locs1 cells slots Q (F0 m (pc + 1) ls rest)) : W p l e R s m args below meth c H locs cells slots Q (F0 m pc ls (.int x :: .int i :: .ref a :: rest)) := by
  refine W.iast hexec hb ha ((hK.2 t0 _ ht).1 n (fun j => .int (f j))) (fun q => by cases q) (by show ¬ (i < 0 ∨ (arrV _ _ _).slots.size ≤ _); rw [arrV_size]; exact hin) rfl rfl hdg fun H1 e z oq => ?_
  refine kk H1 _ ⟨z, ?_, oq, hS.put z oq hA⟩
  show H1[a]? = some (vp_cell _ _)
  rw [e]
  rw [vp_cell_i, vp_cell_i, arrV_store]
  congr 2
  funext q
  by_cases hq : q = i.toNatClampNeg
  · subst hq
    simp [updV, upd]
  · simp [updV, upd, hq]
theorem x_zast (hexec : p.tables.exec = Jvm.exec) (hb : c.code = cc) (hK : va_K D cl tys s) (hA : A a) (hS : va_S A H0 H locs) (t0 : Nat) {cA : ClassId} {n : Nat} {f : Nat → Int32} (ha : va_at D cl (a, .inl (cA, n, .inl f)) H) (ht : tys[t0]? = some (cA, .boolean)) {i : Int32} {x : Int32} (hin : vp_in i n) (hx : vp_nar .boolean x = x) (hdg : decode cc pc = .ok (.bastore, 1))
    (kk : ∀ (H1 : Heap) (locs1 : List Loc), x_st D cl A H0 H a (.inl (cA, n, .inl (upd f i.toNatClampNeg x))) H1 locs1 → W p l e R s m args below meth c H1 locs1 cells slots Q (F0 m (pc + 1) ls rest)) : W p l e R s m args below meth c H locs cells slots Q (F0 m pc ls (.int x :: .int i :: .ref a :: rest)) := by
  refine W.zast hexec hb ha ((hK.2 t0 _ ht).1 n (fun j => .int (f j))) (fun q => by cases q) (by show ¬ (i < 0 ∨ (arrV _ _ _).slots.size ≤ _); rw [arrV_size]; exact hin) rfl rfl hdg fun H1 e z oq => ?_
  refine kk H1 _ ⟨z, ?_, oq, hS.put z oq hA⟩
  show H1[a]? = some (vp_cell _ _)
  rw [e]
  rw [vp_cell_i, vp_cell_i, arrV_store]
  congr 2
  funext q
  by_cases hq : q = i.toNatClampNeg
  · subst hq
    simp only [updV, upd, if_true]
    conv => rhs; rw [← hx]
    simp [vp_nar]
    try rfl
  · simp [updV, upd, hq]
theorem x_bast (hexec : p.tables.exec = Jvm.exec) (hb : c.code = cc) (hK : va_K D cl tys s) (hA : A a) (hS : va_S A H0 H locs) (t0 : Nat) {cA : ClassId} {n : Nat} {f : Nat → Int32} (ha : va_at D cl (a, .inl (cA, n, .inl f)) H) (ht : tys[t0]? = some (cA, .byte)) {i : Int32} {x : Int32} (hin : vp_in i n) (hdg : decode cc pc = .ok (.bastore, 1))
    (kk : ∀ (H1 : Heap) (locs1 : List Loc), x_st D cl A H0 H a (.inl (cA, n, .inl (upd f i.toNatClampNeg x.toInt8.toInt32))) H1 locs1 → W p l e R s m args below meth c H1 locs1 cells slots Q (F0 m (pc + 1) ls rest)) : W p l e R s m args below meth c H locs cells slots Q (F0 m pc ls (.int x :: .int i :: .ref a :: rest)) := by
  refine W.bast hexec hb ha ((hK.2 t0 _ ht).1 n (fun j => .int (f j))) (fun q => by cases q) (by show ¬ (i < 0 ∨ (arrV _ _ _).slots.size ≤ _); rw [arrV_size]; exact hin) rfl rfl hdg fun H1 e z oq => ?_
  refine kk H1 _ ⟨z, ?_, oq, hS.put z oq hA⟩
  show H1[a]? = some (vp_cell _ _)
  rw [e]
  rw [vp_cell_i, vp_cell_i, arrV_store]
  congr 2
  funext q
  by_cases hq : q = i.toNatClampNeg
  · subst hq
    simp [updV, upd]
    try rfl
  · simp [updV, upd, hq]
theorem x_last (hexec : p.tables.exec = Jvm.exec) (hb : c.code = cc) (hK : va_K D cl tys s) (hA : A a) (hS : va_S A H0 H locs) (t0 : Nat) {cA : ClassId} {n : Nat} {f : Nat → Int64} (ha : va_at D cl (a, .inl (cA, n, .inr (.inl f))) H) (ht : tys[t0]? = some (cA, .long)) {i : Int32} {x : Int64} (hin : vp_in i n) (hdg : decode cc pc = .ok (.lastore, 1))
    (kk : ∀ (H1 : Heap) (locs1 : List Loc), x_st D cl A H0 H a (.inl (cA, n, .inr (.inl (vp_updL f i.toNatClampNeg x)))) H1 locs1 → W p l e R s m args below meth c H1 locs1 cells slots Q (F0 m (pc + 1) ls rest)) : W p l e R s m args below meth c H locs cells slots Q (F0 m pc ls (.long x :: .int i :: .ref a :: rest)) := by
  refine W.last hexec hb ha ((hK.2 t0 _ ht).1 n (fun j => .long (f j))) (fun q => by cases q) (by show ¬ (i < 0 ∨ (arrV _ _ _).slots.size ≤ _); rw [arrV_size]; exact hin) rfl rfl hdg fun H1 e z oq => ?_
  refine kk H1 _ ⟨z, ?_, oq, hS.put z oq hA⟩
  show H1[a]? = some (vp_cell _ _)
  rw [e]
  rw [vp_cell_l, vp_cell_l, arrV_store]
  congr 2
  funext q
  by_cases hq : q = i.toNatClampNeg
  · subst hq
    simp [updV, vp_updL]
  · simp [updV, vp_updL, hq]
theorem x_astq (hexec : p.tables.exec = Jvm.exec) (hb : c.code = cc) (hK : va_K D cl tys s) (hA : A a) (hS : va_S A H0 H locs) (t0 ci : Nat) {cA : ClassId} {r : vw_C} {n v : Nat} {vs : List Value} {f : Nat → Option Nat} (ha : va_at D cl (a, .inl (cA, n, .inr (.inr (.inr (.inr f))))) H) (ht : tys[t0]? = some (cA, .object r.1)) (hv : va_at D cl (v, .inr (ci, vs)) H) (hc : cl[ci]? = some r) {i : Int32} (hin : vp_in i n) (hdg : decode cc pc = .ok (.aastore, 1))
    (kk : ∀ (H1 : Heap) (locs1 : List Loc), x_st D cl A H0 H a (.inl (cA, n, .inr (.inr (.inr (.inr (va_up f i.toNatClampNeg (some v))))))) H1 locs1 → W p l e R s m args below meth c H1 locs1 cells slots Q (F0 m (pc + 1) ls rest)) : W p l e R s m args below meth c H locs cells slots Q (F0 m pc ls (.ref v :: .int i :: .ref a :: rest)) := by
  have hlt : i.toNatClampNeg < n := Nat.not_le.mp fun q => hin (Or.inr q)
  have h0 : ¬ i < 0 := fun q => hin (Or.inl q)
  obtain ⟨r', hr', cellV, g1, g2, g3, -⟩ := hv
  have hcls := (hK.1 ci r hc).2
  obtain ⟨kA, comp, k1, k2, k3, -⟩ := (hK.2 t0 _ ht).2
  have hcomp : comp = D.1 ci := Option.some.inj (k3.symm.trans hcls.1)
  subst hcomp
  obtain ⟨kC, hkC, -⟩ := hcls.2
  refine W.aast hexec hb ha (fun q h => by cases h) (fun h => by cases h) k1 k2 rfl hkC ⟨h0, by show _ < (arrV _ _ _).slots.size; rw [arrV_size]; exact hlt⟩ g1 (fun q h => by rw [g3] at h; cases h) (by rw [g2]; exact hkC) (by rw [g2]; exact va_assign hcls) rfl rfl hdg fun H1 e z oq => ?_
  refine kk H1 _ ⟨z, ?_, oq, hS.put z oq hA⟩
  show H1[a]? = some (vp_cell _ _)
  rw [e]
  rw [vp_cell_q, vp_cell_q, arrV_store]
  congr 2
  funext q
  by_cases hq : q = i.toNatClampNeg
  · subst hq
    simp [updV, va_up, va_rf]
  · simp [updV, va_up, hq]
theorem x_astqN (hexec : p.tables.exec = Jvm.exec) (hb : c.code = cc) (hK : va_K D cl tys s) (hA : A a) (hS : va_S A H0 H locs) (t0 : Nat) {cA : ClassId} {C : String} {n : Nat} {f : Nat → Option Nat} (ha : va_at D cl (a, .inl (cA, n, .inr (.inr (.inr (.inr f))))) H) (ht : tys[t0]? = some (cA, .object C)) {i : Int32} (hin : vp_in i n) (hdg : decode cc pc = .ok (.aastore, 1))
    (kk : ∀ (H1 : Heap) (locs1 : List Loc), x_st D cl A H0 H a (.inl (cA, n, .inr (.inr (.inr (.inr (va_up f i.toNatClampNeg none)))))) H1 locs1 → W p l e R s m args below meth c H1 locs1 cells slots Q (F0 m (pc + 1) ls rest)) : W p l e R s m args below meth c H locs cells slots Q (F0 m pc ls (.null :: .int i :: .ref a :: rest)) := by
  refine va_WaastN (C := C) hexec hb ha ((hK.2 t0 _ ht).1 n (fun j => va_rf (f j))) (fun h => by cases h) (by show ¬ (i < 0 ∨ (arrV _ _ _).slots.size ≤ _); rw [arrV_size]; exact hin) rfl rfl hdg fun H1 e z oq => ?_
  refine kk H1 _ ⟨z, ?_, oq, hS.put z oq hA⟩
  show H1[a]? = some (vp_cell _ _)
  rw [e]
  rw [vp_cell_q, vp_cell_q, arrV_store]
  congr 2
  funext q
  by_cases hq : q = i.toNatClampNeg
  · subst hq
    simp [updV, va_up, va_rf]
  · simp [updV, va_up, hq]
/-- a place of an array of any references -/
theorem x_aald (hexec : p.tables.exec = Jvm.exec) (hb : c.code = cc) (hK : va_K D cl tys s) (t0 : Nat) {cA : ClassId} {ty : FieldType} {n : Nat} {f : Nat → Option Nat} (ha : va_at D cl (a, .inl (cA, n, .inr (.inr (.inr (.inr f))))) H) (ht : tys[t0]? = some (cA, ty)) (hty : ty.isReference = true) {i : Int32} (hin : vp_in i n) (hdg : decode cc pc = .ok (.aaload, 1))
    (kk : W p l e R s m args below meth c H locs cells slots Q (F0 m (pc + 1) ls (va_rf (f i.toNatClampNeg) :: rest))) : W p l e R s m args below meth c H locs cells slots Q (F0 m pc ls (.int i :: .ref a :: rest)) := by
  have hlt : i.toNatClampNeg < n := Nat.not_le.mp fun q => hin (Or.inr q)
  exact W.aald (v := va_rf (f i.toNatClampNeg)) (ty := ty) hexec hb ha ((hK.2 t0 _ ht).1 n (fun j => va_rf (f j))) hty (fun q => by cases q) (by show ¬ (i < 0 ∨ (arrV _ _ _).slots.size ≤ _); rw [arrV_size]; exact hin) (by show (arrV _ _ _).slots[_]? = _; rw [arrV_read _ _ hlt]) rfl rfl hdg kk
/-- what a new cell leaves -/
def x_nw (D : va_G) (cl : List vw_C) (A : Nat → Prop) (H0 H : Heap) (e : va_E) (H1 : Heap) (locs1 : List Loc) : Prop :=
  H1.size = H.size + 1 ∧ va_at D cl (H.size, e) H1 ∧ (∀ q : Nat, q < H.size → H1[q]? = H[q]?) ∧ va_S A H0 H1 locs1
theorem x_new {c0 : Code} (hexec : p.tables.exec = Jvm.exec) (hb : c0.code = cc) {own C : String} {T : u_T} {N ci index : Nat} {Ts : List Jvm.Cond} (hts : ∀ w ∈ Ts, w.before args s = true) (hin : ∀ w ∈ u_ws C T N, w ∈ Ts) (ty : Nat → FieldType) (hty : ∀ k, k < N → parseFieldDescriptor (T k).2.2.1 = some (ty k)) (hown : s.vm.findClass own = some m.cls) (hcl : (Jvm.Cond.classLink own index C).before args s = true) (hinst : (Jvm.Cond.instantiable C N).before args s = true) (hini : (Jvm.Cond.initialized C).before args s = true)
    (hK : va_K D cl tys s) (hS : va_S A H0 H locs) (hc : cl[ci]? = some (C, T, N)) {fs : List Value} (hfs : ∀ j, j < N → defaultValue (ty j) = vp_V fs j) (hcells : cells + 1 ≤ R.cells) (hslots : slots + N ≤ R.slots) (hdg : decode cc pc = .ok (.new index, 3))
    (kk : ∀ (H1 : Heap), x_nw D cl A H0 H (.inr (ci, fs)) H1 locs → W p l e R s m args below meth c0 H1 locs (cells + 1) (slots + N) Q (F0 m (pc + 3) ls (.ref H.size :: rest))) : W p l e R s m args below meth c0 H locs cells slots Q (F0 m pc ls rest) := by
  have hKn := hK.1 ci _ hc
  refine W.newcK hexec hb hown hcl hinst hini rfl hdg hcells hslots hKn.2.1 rfl fun H1 kC hkC e1 z1 o1 => ?_
  exact kk H1 ⟨z1, ⟨_, hc, (u_born ty hts hin hKn hkC e1 hty).to hfs⟩, o1, ⟨Nat.le_trans hS.1 (by omega), fun x h1 h2 => (o1 x (Nat.lt_of_lt_of_le h1 hS.1)).trans (hS.2.1 x h1 h2), hS.2.2⟩⟩
theorem x_newa (hexec : p.tables.exec = Jvm.exec) (hb : c.code = cc) {atype : ArrayType} (harr : (Jvm.Cond.arrayClass (newarray.typeOf atype)).before args s = true) {ty : FieldType} (hty : newarray.typeOf atype = ty) {cA : ClassId} (hcA : s.vm.findClass ("[" ++ ty.toString) = some cA) (hS : va_S A H0 H locs)
    {n : Int32} {N' : Nat} {a0 : vp_A} (ha : vp_cell cA a0 = arrV cA N' (fun _ => defaultValue ty)) (hn : ¬ n < 0) (hN : n.toNatClampNeg = N') (hbytes : N' * componentBytes ty ≤ 536870912) (hcells : cells + 1 ≤ R.cells) (hslots : slots + N' ≤ R.slots) (hdg : decode cc pc = .ok (.newarray atype, 2))
    (kk : ∀ (H1 : Heap), x_nw D cl A H0 H (.inl (cA, a0)) H1 locs →
      W p l e R s m args below meth c H1 locs (cells + 1) (slots + N') Q (F0 m (pc + 2) ls (.ref H.size :: rest))) : W p l e R s m args below meth c H locs cells slots Q (F0 m pc ls (.int n :: rest)) := by
  subst hty
  refine va_newaK hexec hb harr rfl hdg rfl hn hN hbytes hcells hslots rfl fun H1 cA' e1 z1 o1 hAr hNm => ?_
  have hcc : cA' = cA := Option.some.inj (hNm.symm.trans hcA)
  subst hcc
  refine kk H1 ⟨z1, ?_, o1, ⟨Nat.le_trans hS.1 (by omega), fun x h1 h2 => (o1 x (Nat.lt_of_lt_of_le h1 hS.1)).trans (hS.2.1 x h1 h2), hS.2.2⟩⟩
  show H1[H.size]? = some (vp_cell _ _)
  rw [ha]
  exact e1
theorem x_newq (hexec : p.tables.exec = Jvm.exec) (hb : c.code = cc) {own C : String} {index : Nat} (hown : s.vm.findClass own = some m.cls) (hclink : (Jvm.Cond.classLink own index C).before args s = true) (hover : va_AO C s) {cA : ClassId} (hcA : s.vm.findClass ("[" ++ (FieldType.object C).toString) = some cA) (hS : va_S A H0 H locs)
    {n : Int32} {N' : Nat} (hn : ¬ n < 0) (hN : n.toNatClampNeg = N') (hbytes : N' * 4 ≤ 536870912) (hcells : cells + 1 ≤ R.cells) (hslots : slots + N' ≤ R.slots) (hdg : decode cc pc = .ok (.anewarray index, 3))
    (kk : ∀ (H1 : Heap), x_nw D cl A H0 H (.inl (cA, N', .inr (.inr (.inr (.inr (fun _ => none)))))) H1 locs →
      W p l e R s m args below meth c H1 locs (cells + 1) (slots + N') Q (F0 m (pc + 3) ls (.ref H.size :: rest))) : W p l e R s m args below meth c H locs cells slots Q (F0 m pc ls (.int n :: rest)) := by
  subst hN
  refine W.anew hexec hb hown hclink (va_AO.use hover) rfl hdg rfl hn hbytes hcells hslots fun cA' kA comp f1 f2 f3 f4 => ?_
  have hcc : cA' = cA := Option.some.inj (f1.symm.trans hcA)
  subst hcc
  generalize hH1 : H.push ({ cls := cA', slots := Array.replicate n.toNatClampNeg .null, vm := .none } : Cell) = H1
  have z1 : H1.size = H.size + 1 := by rw [← hH1, Array.size_push]
  have e1 : H1[H.size]? = some (arrV cA' n.toNatClampNeg (fun _ => .null)) := by rw [← hH1, Array.getElem?_push_size, ← arrV_new]
  have o1 : ∀ q : Nat, q < H.size → H1[q]? = H[q]? := fun q hq => by rw [← hH1, Array.getElem?_push, if_neg (Nat.ne_of_lt hq)]
  refine kk H1 ⟨z1, ?_, o1, ⟨Nat.le_trans hS.1 (by omega), fun x h1 h2 => (o1 x (Nat.lt_of_lt_of_le h1 hS.1)).trans (hS.2.1 x h1 h2), hS.2.2⟩⟩
  show H1[H.size]? = some (vp_cell _ _)
  rw [vp_cell_q]
  exact e1
end XROWS
end
section
/-! new int[n][m]: the outer array at the heap's end, its rows behind it (began as the printed row va_mna) -/
theorem x_outer (c : ClassId) (N h0 : Nat) : ∀ i : Nat, Jvm.Free.Multi.outerC c N h0 i = arrV c N (fun j => va_rf (if j < i then some (h0 + 1 + j) else none))
  | 0 => by
    show ({ cls := c, slots := Array.replicate N .null, vm := .none } : Cell) = _
    rw [arrV_new]
    refine congrArg (arrV c N) (funext fun j => ?_)
    simp [va_rf]
  | i + 1 => by
    show (Jvm.Free.Multi.outerC c N h0 i).setSlot i (.ref (h0 + 1 + i)) = _
    rw [x_outer c N h0 i, arrV_store]
    refine congrArg (arrV c N) (funext fun j => ?_)
    by_cases e : j = i
    · subst e
      simp [updV, va_rf]
    · by_cases h : j < i
      · simp [updV, e, h, Nat.lt_succ_of_lt h]
      · simp [updV, e, h, show ¬ j < i + 1 by omega]
section XMNA
variable {p : Program} {l : Launch} {e : Env} {R : Room} {s : State} {m : MethodId} {args : Array Value} {below : List Frame} {meth : Method} {c : Code} {H : Heap} {locs : List Loc} {cells slots : Nat} {Q : State → Prop}
variable {cc : ByteArray} {pc : Nat} {ls : Array Slot} {rest : List Value} {D : va_G} {cl : List vw_C} {A : Nat → Prop} {a : Nat} {tys : List (ClassId × FieldType)} {H0 : Heap}
theorem x_mna (hexec : p.tables.exec = Jvm.exec) (hb : c.code = cc) {own : String} {index : Nat} {ty : FieldType} {cy cA : ClassId} (hown : s.vm.findClass own = some m.cls) (hclink : (Jvm.Cond.classLink own index ("[" ++ (FieldType.array ty).toString)).before args s = true) (hover : (Jvm.Cond.arrayOver (.array ty)).before args s = true) (harr : (Jvm.Cond.arrayClass ty).before args s = true) (hcy : s.vm.findClass (FieldType.array ty).toString = some cy) (hcA : s.vm.findClass ("[" ++ (FieldType.array ty).toString) = some cA)
    (hS : va_S A H0 H locs) {n k : Int32} {N' K' : Nat} {z : vp_A} (hn : ¬ n < 0) (hk : ¬ k < 0) (hN : n.toNatClampNeg = N') (hM : k.toNatClampNeg = K')
    (hb1 : N' * 4 ≤ 536870912) (hb2 : K' * componentBytes ty ≤ 536870912) (hb3 : K' ≤ 536870912) (hdf : fits ty (defaultValue ty) = true) (hdd : (defaultValue ty).isDefault = true) (hcells : cells + (1 + N') ≤ R.cells) (hslots : slots + (N' + N' * K') ≤ R.slots) (hz : ∀ c : ClassId, Jvm.Free.Multi.innerC c K' (defaultValue ty) = vp_cell c z) (hdg : decode cc pc = .ok (.multianewarray index 2, 4))
    (kk : ∀ (H1 : Heap), H1.size = H.size + (1 + N') → va_at D cl (H.size, .inl (cA, N', .inr (.inr (.inr (.inr (fun i => if i < N' then some (H.size + 1 + i) else none)))))) H1 → (∀ j, j < N' → va_at D cl (H.size + 1 + j, .inl (cy, z)) H1) → (∀ q : Nat, q < H.size → H1[q]? = H[q]?) → va_S A H0 H1 locs →
      W p l e R s m args below meth c H1 locs (cells + 1 + N') (slots + N' + N' * K') Q (F0 m (pc + 4) ls (.ref H.size :: rest))) : W p l e R s m args below meth c H locs cells slots Q (F0 m pc ls (.int k :: .int n :: rest)) := by
  subst hN
  subst hM
  intro T hT Xs
  obtain ⟨vm₁, cA', comp, -, fA, fC, hO, -, X', step⟩ := Xs.multianewarray2F hexec hown hclink hover harr (g := F0 m pc ls (.int k :: .int n :: rest)) rfl (by rw [hb]; exact hdg) rfl hn hk hb1 hb2 hb3 hdf hdd hcells hslots
  have ec : some cy = some comp := hcy.symm.trans fC
  cases ec
  have ea : some cA = some cA' := hcA.symm.trans fA
  cases ea
  generalize hF : Jvm.Free.Multi.fill (T.setVm vm₁) cA cy n.toNatClampNeg k.toNatClampNeg (defaultValue ty) n.toNatClampNeg = F at X' step
  have hTh : (T.setVm vm₁).heap = H := hT
  obtain ⟨f1, f2, -, -⟩ := Jvm.Free.Multi.fill_facts (T.setVm vm₁) cA cy n.toNatClampNeg k.toNatClampNeg (defaultValue ty) n.toNatClampNeg
  rw [hF, hTh] at f1 f2
  have hold : ∀ x : Nat, x < H.size → F.heap[x]? = H[x]? := fun x hx => by
    have := Jvm.Free.Multi.fill_old (T.setVm vm₁) cA cy n.toNatClampNeg k.toNatClampNeg (defaultValue ty) (a := x) (by rw [hTh]; exact hx) n.toNatClampNeg
    rw [hF, hTh] at this
    exact this
  have hrow : ∀ j : Nat, j < n.toNatClampNeg → F.heap[H.size + 1 + j]? = some (vp_cell cy z) := fun j hj => by
    have := Jvm.Free.Multi.fill_inner (T.setVm vm₁) cA cy n.toNatClampNeg k.toNatClampNeg (defaultValue ty) n.toNatClampNeg j hj
    rw [hF, hTh, hz] at this
    exact this
  have hout : Jvm.Free.Multi.outerC cA n.toNatClampNeg H.size n.toNatClampNeg = vp_cell cA (n.toNatClampNeg, .inr (.inr (.inr (.inr (fun i => if i < n.toNatClampNeg then some (H.size + 1 + i) else none))))) := by
    rw [vp_cell_q]
    exact x_outer cA n.toNatClampNeg H.size n.toNatClampNeg
  rw [hout] at f2
  obtain ⟨t, a1, b1⟩ := kk F.heap (by rw [f1]; omega) f2 (fun j hj => hrow j hj) hold ⟨by rw [f1]; have := hS.1; omega, fun x h1 h2 => (hold x (Nat.lt_of_lt_of_le h1 hS.1)).trans (hS.2.1 x h1 h2), hS.2.2⟩ F rfl X'
  refine ⟨t, step t ?_, b1⟩
  have e : T.heap.size = H.size := by rw [hT]
  rw [e]
  exact a1
end XMNA
end
section
/-! THE TWO MACHINES' STATES, side by side -/
def g_ad (xs : Nat → Nat) (b q : Nat) : Nat := if q < 4 then xs q else b + (q - 4)
def g_V (g : Nat → Nat) (v : Value) : Value := match v with
  | .ref q => .ref (g q)
  | v => v
def g_E (g : Nat → Nat) (aC : Nat → ClassId) (e : mE) : va_E := match e with
  | .inl (t, (n, .inl f)) => .inl (aC t, (n, .inl f))
  | .inl (t, (n, .inr (.inl f))) => .inl (aC t, (n, .inr (.inl f)))
  | .inl (t, (n, .inr (.inr (.inl f)))) => .inl (aC t, (n, .inr (.inr (.inl f))))
  | .inl (t, (n, .inr (.inr (.inr (.inl f))))) => .inl (aC t, (n, .inr (.inr (.inr (.inl f)))))
  | .inl (t, (n, .inr (.inr (.inr (.inr f))))) => .inl (aC t, (n, .inr (.inr (.inr (.inr (fun j => (f j).map g))))))
  | .inr (ci, fs) => .inr (ci, fs.map (g_V g))
/-- the real heap holds the cells h, from b on, and nothing behind them -/
def g_W (xs : Nat → Nat) (b : Nat) (aC : Nat → ClassId) (D : va_G) (h : List mE) (H : Heap) : Prop :=
  H.size = b + h.length ∧ ∀ (i : Nat) (e : mE), h[i]? = some e → va_at D vwCl (b + i, g_E (g_ad xs b) aC e) H
abbrev g_A (b : Nat) : Nat → Prop := fun q => b ≤ q
theorem g_cat (g : Nat → Nat) (v : Value) : (g_V g v).category = v.category := by cases v <;> rfl
theorem g_mcat (g : Nat → Nat) (S : List Value) : ((S.map (g_V g)).map fun v => v.category).sum = mcat S := by
  unfold mcat
  rw [List.map_map]
  congr 1
  exact List.map_congr_left fun v _ => g_cat g v
theorem g_ad4 {xs : Nat → Nat} {b q : Nat} (h : 4 ≤ q) : g_ad xs b q = b + (q - 4) := by
  unfold g_ad
  rw [if_neg (by omega)]
theorem g_own {h : List mE} {q : Nat} {e : mE} (hq : mown h q = some e) : 4 ≤ q ∧ h[q - 4]? = some e := by
  unfold mown at hq
  by_cases h4 : q < 4
  · rw [if_pos h4] at hq; cases hq
  · rw [if_neg h4] at hq; exact ⟨by omega, hq⟩
section GW
variable {xs : Nat → Nat} {b : Nat} {aC : Nat → ClassId} {D : va_G} {h : List mE} {H H1 : Heap}
theorem g_at {q : Nat} {e : mE} (hW : g_W xs b aC D h H) (hq : mown h q = some e) : va_at D vwCl (g_ad xs b q, g_E (g_ad xs b) aC e) H := by
  obtain ⟨h4, hq⟩ := g_own hq
  rw [g_ad4 h4]
  exact hW.2 _ _ hq
theorem g_Aq {q : Nat} (h4 : 4 ≤ q) : g_A b (g_ad xs b q) := by
  show b ≤ g_ad xs b q
  rw [g_ad4 h4]
  omega
theorem g_set {q : Nat} {e0 e : mE} {A : Nat → Prop} {H0 : Heap} {locs1 : List Loc} (hW : g_W xs b aC D h H) (hq : mown h q = some e0) (hst : x_st D vwCl A H0 H (g_ad xs b q) (g_E (g_ad xs b) aC e) H1 locs1) : g_W xs b aC D (mput h q e) H1 := by
  obtain ⟨h4, hq⟩ := g_own hq
  obtain ⟨z, ha, o, -⟩ := hst
  rw [g_ad4 h4] at ha o
  have hl : q - 4 < h.length := (List.getElem?_eq_some_iff.mp hq).1
  refine ⟨by rw [z, hW.1, mput, List.length_set], fun i x hi => ?_⟩
  unfold mput at hi
  by_cases hk : i = q - 4
  · subst hk
    rw [List.getElem?_set_self hl] at hi
    cases hi
    exact ha
  · rw [List.getElem?_set_ne (Ne.symm hk)] at hi
    refine (hW.2 i x hi).kept (o _ ?_)
    intro e
    exact hk (by omega)
theorem g_push {e : mE} {A : Nat → Prop} {H0 : Heap} {locs1 : List Loc} (hW : g_W xs b aC D h H) (hn : x_nw D vwCl A H0 H (g_E (g_ad xs b) aC e) H1 locs1) : g_W xs b aC D (h ++ [e]) H1 := by
  obtain ⟨z, ha, o, -⟩ := hn
  rw [hW.1] at ha
  refine ⟨by rw [z, hW.1, List.length_append]; rfl, fun i x hi => ?_⟩
  by_cases hl : i < h.length
  · rw [List.getElem?_append_left hl] at hi
    exact (hW.2 i x hi).kept (o _ (by rw [hW.1]; show b + i < b + h.length; omega))
  · rw [List.getElem?_append_right (by omega)] at hi
    have hz : i - h.length < 1 := (List.getElem?_eq_some_iff.mp hi).1
    have e1 : i = h.length := by omega
    subst e1
    rw [Nat.sub_self] at hi
    cases hi
    exact ha
theorem g_ref (hW : g_W xs b aC D h H) : (Value.ref H.size) = g_V (g_ad xs b) (.ref (h.length + 4)) := by
  show _ = Value.ref (g_ad xs b (h.length + 4))
  rw [g_ad4 (by omega), hW.1]
  congr 1
end GW
/-! locals -/
def g_L (g : Nat → Nat) (L : mL) : List (Nat × Value) := (List.range L.length).filterMap fun i => match L[i]? with
  | some (some v) => some (i, g_V g v)
  | _ => none
theorem g_L_mem {g : Nat → Nat} {L : mL} {q : Nat × Value} : q ∈ g_L g L ↔ ∃ v, L[q.1]? = some (some v) ∧ q.2 = g_V g v := by
  obtain ⟨i, w⟩ := q
  unfold g_L
  rw [List.mem_filterMap]
  constructor
  · rintro ⟨a, -, h⟩
    split at h
    · rename_i v hv
      cases h
      exact ⟨v, hv, rfl⟩
    · cases h
  · rintro ⟨v, hv, hw⟩
    refine ⟨i, List.mem_range.mpr (List.getElem?_eq_some_iff.mp hv).1, ?_⟩
    show (match L[i]? with
      | some (some v) => some (i, g_V g v)
      | _ => none) = _
    have hv' : L[i]? = some (some v) := hv
    rw [hv']
    show some (i, g_V g v) = some (i, w)
    rw [show w = g_V g v from hw]
/-- the real locals ls hold what L lists -/
def g_H (g : Nat → Nat) (ls : Array Slot) (L : mL) : Prop := lv_has ls L.length (g_L g L)
theorem g_lget {L : mL} {i : Nat} {v : Value} (h : lget L i = some v) : L[i]? = some (some v) := by
  unfold lget at h
  split at h
  · rename_i w hw
    cases h
    exact hw
  · cases h
theorem g_rd {g : Nat → Nat} {ls : Array Slot} {L : mL} {i : Nat} {v : Value} (h : g_H g ls L) (hi : lget L i = some v) : ls[i]? = some (.val (g_V g v)) := h.2.2 (i, g_V g v) (g_L_mem.mpr ⟨v, g_lget hi, rfl⟩)
theorem lclr_s (L : mL) (i : Nat) : lclr L (i + 1) = (match L[i]? with
    | some (some (.long _)) => L.set i none
    | some (some (.double _)) => L.set i none
    | _ => L) := rfl
theorem lclr_len (L : mL) (i : Nat) : (lclr L i).length = L.length := by
  cases i with
  | zero => rfl
  | succ i =>
    rw [lclr_s]
    split <;> simp
theorem lset1_len (L : mL) (i : Nat) (v : Value) : (lset1 L i v).length = L.length := by simp [lset1, lclr_len]
theorem lset2_len (L : mL) (i : Nat) (v : Value) : (lset2 L i v).length = L.length := by simp [lset2, lclr_len]
theorem lclr_get {L : mL} {i j : Nat} {v : Value} (h : (lclr L i)[j]? = some (some v)) : L[j]? = some (some v) ∧ ¬ (j + 1 = i ∧ v.category = 2) := by
  cases i with
  | zero => exact ⟨h, fun z => by omega⟩
  | succ i =>
    rw [lclr_s] at h
    by_cases hj : j = i
    · subst hj
      split at h
      · rename_i x hx
        rw [List.getElem?_set] at h
        simp at h
      · rename_i x hx
        rw [List.getElem?_set] at h
        simp at h
      · rename_i h1 h2
        refine ⟨h, fun z => ?_⟩
        cases v with
        | long x => exact h1 x h
        | double x => exact h2 x h
        | _ => simp [Value.category] at z
    · have hne : L[j]? = some (some v) := by
        split at h
        · rwa [List.getElem?_set_ne (Ne.symm hj)] at h
        · rwa [List.getElem?_set_ne (Ne.symm hj)] at h
        · exact h
      exact ⟨hne, fun z => hj (by omega)⟩
theorem lset1_get {L : mL} {i j : Nat} {v w : Value} (h : (lset1 L i v)[j]? = some (some w)) : (j = i ∧ w = v) ∨ (j ≠ i ∧ L[j]? = some (some w) ∧ ¬ (j + 1 = i ∧ w.category = 2)) := by
  unfold lset1 at h
  by_cases hj : j = i
  · subst hj
    rw [List.getElem?_set] at h
    simp at h
    exact Or.inl ⟨rfl, h.2.symm⟩
  · rw [List.getElem?_set_ne (Ne.symm hj)] at h
    have := lclr_get h
    exact Or.inr ⟨hj, this.1, this.2⟩
theorem lset2_get {L : mL} {i j : Nat} {v w : Value} (h : (lset2 L i v)[j]? = some (some w)) : (j = i ∧ w = v) ∨ (j ≠ i ∧ j ≠ i + 1 ∧ L[j]? = some (some w) ∧ ¬ (j + 1 = i ∧ w.category = 2)) := by
  unfold lset2 at h
  by_cases hj1 : j = i + 1
  · subst hj1
    rw [List.getElem?_set] at h
    simp at h
  · rw [List.getElem?_set_ne (Ne.symm hj1)] at h
    by_cases hj : j = i
    · subst hj
      rw [List.getElem?_set] at h
      simp at h
      exact Or.inl ⟨rfl, h.2.symm⟩
    · rw [List.getElem?_set_ne (Ne.symm hj)] at h
      have := lclr_get h
      exact Or.inr ⟨hj, hj1, this.1, this.2⟩
theorem g_st1 {g : Nat → Nat} {ls : Array Slot} {L : mL} {i : Nat} {v : Value} (h : lv_has ls L.length ((i, g_V g v) :: (g_L g L).filter (fun q => !(q.1 == i) && !(q.1 + 1 == i && q.2.category == 2)))) : g_H g ls (lset1 L i v) := by
  refine ⟨by rw [lset1_len]; exact h.1, h.2.1, fun q hq => h.2.2 q ?_⟩
  obtain ⟨w, hw, he⟩ := g_L_mem.mp hq
  rcases lset1_get hw with ⟨h1, h2⟩ | ⟨h1, h2, h3⟩
  · obtain ⟨q1, q2⟩ := q
    cases h1; cases h2; cases he
    exact List.mem_cons_self
  · refine List.mem_cons_of_mem _ (List.mem_filter.mpr ⟨g_L_mem.mpr ⟨w, h2, he⟩, ?_⟩)
    rw [he, g_cat]
    simp only [Bool.and_eq_true, Bool.not_eq_true', beq_eq_false_iff_ne, Bool.and_eq_false_iff, ne_eq]
    refine ⟨h1, ?_⟩
    by_cases z : q.1 + 1 = i
    · exact Or.inr (fun y => h3 ⟨z, y⟩)
    · exact Or.inl z
theorem g_st2 {g : Nat → Nat} {ls : Array Slot} {L : mL} {i : Nat} {v : Value} (h : lv_has ls L.length ((i, g_V g v) :: (g_L g L).filter (fun q => !(q.1 == i) && (!(q.1 == i + 1) && !(q.1 + 1 == i && q.2.category == 2))))) : g_H g ls (lset2 L i v) := by
  refine ⟨by rw [lset2_len]; exact h.1, h.2.1, fun q hq => h.2.2 q ?_⟩
  obtain ⟨w, hw, he⟩ := g_L_mem.mp hq
  rcases lset2_get hw with ⟨h1, h2⟩ | ⟨h1, h0, h2, h3⟩
  · obtain ⟨q1, q2⟩ := q
    cases h1; cases h2; cases he
    exact List.mem_cons_self
  · refine List.mem_cons_of_mem _ (List.mem_filter.mpr ⟨g_L_mem.mpr ⟨w, h2, he⟩, ?_⟩)
    rw [he, g_cat]
    simp only [Bool.and_eq_true, Bool.not_eq_true', beq_eq_false_iff_ne, Bool.and_eq_false_iff, ne_eq]
    refine ⟨h1, h0, ?_⟩
    by_cases z : q.1 + 1 = i
    · exact Or.inr (fun y => h3 ⟨z, y⟩)
    · exact Or.inl z
theorem lent1_len (g : Nat → Nat) (vs : List Value) : (lg_sl (vs.map (g_V g))).length = (lent1 vs).length := by
  induction vs with
  | nil => rfl
  | cons v vs ih =>
    have e : lg_sl ((v :: vs).map (g_V g)) = (if (g_V g v).category = 2 then [.val (g_V g v), .second] else [.val (g_V g v)]) ++ lg_sl (vs.map (g_V g)) := rfl
    rw [e, g_cat, lent1]
    by_cases hc : v.category = 2
    · simp [hc, ih]
    · simp [hc, ih]
theorem lent1_get (g : Nat → Nat) : ∀ (vs : List Value) (k i : Nat) (v : Value), (lent1 vs)[i]? = some (some v) → (k + i, g_V g v) ∈ lv_args k (vs.map (g_V g))
  | [], k, i, v, h => by simp [lent1] at h
  | w :: vs, k, i, v, h => by
    rw [List.map_cons, lv_args, g_cat]
    rw [lent1] at h
    by_cases hc : w.category = 2
    · rw [if_pos hc] at h ⊢
      match i, h with
      | 0, h => simp at h; subst h; exact List.mem_cons_self
      | 1, h => simp at h
      | i + 2, h =>
        have h2 : (lent1 vs)[i]? = some (some v) := by simpa using h
        have := lent1_get g vs (k + 2) i v h2
        rw [show k + (i + 2) = k + 2 + i by omega]
        exact List.mem_cons_of_mem _ this
    · rw [if_neg hc] at h ⊢
      match i, h with
      | 0, h => simp at h; subst h; exact List.mem_cons_self
      | i + 1, h =>
        have h2 : (lent1 vs)[i]? = some (some v) := by simpa using h
        have := lent1_get g vs (k + 1) i v h2
        rw [show k + (i + 1) = k + 1 + i by omega]
        exact List.mem_cons_of_mem _ this
theorem lent_len {vs : List Value} {n : Nat} (h : (lent1 vs).length ≤ n) : (lent vs n).length = n := by
  simp [lent]; omega
theorem lent_get {vs : List Value} {n i : Nat} {v : Value} (h : (lent vs n)[i]? = some (some v)) : (lent1 vs)[i]? = some (some v) := by
  unfold lent at h
  by_cases hl : i < (lent1 vs).length
  · rwa [List.getElem?_append_left hl] at h
  · rw [List.getElem?_append_right (by omega)] at h
    have := List.eq_of_mem_replicate (List.mem_of_getElem? h)
    cases this
theorem g_ent {g : Nat → Nat} {vs : List Value} {n : Nat} (h : (lent1 vs).length ≤ n) : g_H g ((lg_sl (vs.map (g_V g)) ++ List.replicate (n - (lg_sl (vs.map (g_V g))).length) Slot.unset).toArray) (lent vs n) := by
  have h1 := lv_entry (vs.map (g_V g)) (n := n) (by rw [lent1_len]; exact h)
  refine ⟨by rw [lent_len h]; exact h1.1, h1.2.1, fun q hq => h1.2.2 q ?_⟩
  obtain ⟨w, hw, he⟩ := g_L_mem.mp hq
  have := lent1_get g vs 0 q.1 w (lent_get hw)
  rw [Nat.zero_add] at this
  rw [show q = (q.1, q.2) from rfl, he]
  exact this
end
section
/-! WHAT A FRAME STANDS ON: the tables' words, the classes, the given cells -/
def g_nest (w : Jvm.Cond) : Bool := match w with
  | .fieldLinkNest .. => true
  | .methodLinkNest .. => true
  | _ => false
def g_ty (aC : Nat → ClassId) : List (ClassId × FieldType) := (List.range 9).map fun t => (aC t, mAT.getD t .int)
theorem g_ty_at {aC : Nat → ClassId} {t : Nat} {ty : FieldType} (h : mAT[t]? = some ty) : (g_ty aC)[t]? = some (aC t, ty) := by
  have hl : t < 9 := (List.getElem?_eq_some_iff.mp h).1
  unfold g_ty
  rw [List.getElem?_map, List.getElem?_range hl]
  simp [h]
def g_X (xs : Nat → Nat) (ex : List mE) (A : Nat → Prop) (U : State) (H : Heap) : Prop :=
  (∀ (q n : Nat) (f : Nat → Int32), ex[q]? = some (.inl (0, (n, .inl f))) → va_T .int (xs q) n (fun j => .int (f j)) A U H) ∧
  (∀ (q n : Nat) (f : Nat → Int64), ex[q]? = some (.inl (2, (n, .inr (.inl f)))) → va_T .long (xs q) n (fun j => .long (f j)) A U H) ∧
  (∀ (q : Nat) (e : mE), ex[q]? = some e → (∃ n f, e = .inl (0, (n, .inl f))) ∨ (∃ n f, e = .inl (2, (n, .inr (.inl f)))))
def g_S (xs : Nat → Nat) (A : Nat → Prop) (U : State) (H : Heap) : Prop := ∀ (a : Nat) (C n d : String), mStc[a]? = some (C, n, d) → va_Z C n d (.ref (xs (a + 1))) A U H
def g_Env (xs : Nat → Nat) (b : Nat) (aC : Nat → ClassId) (D : va_G) (ex : List mE) (U : State) (H : Heap) : Prop :=
  (∀ w ∈ lw_tbl, goodWord w = true → ∀ a, w.before a U = true) ∧ (∀ w ∈ lw_tbl, g_nest w = true → va_Nw w U) ∧
  (∀ ty, Jvm.Cond.arrayOver ty ∈ lw_tbl → ((∃ C, ty = .object C) ∨ ∃ t, ty = .array t) → ∀ a, (Jvm.Cond.arrayOver ty).before a U = true) ∧ va_K D vwCl (g_ty aC) U ∧ g_X xs ex (g_A b) U H ∧ g_S xs (g_A b) U H
theorem g_overA {t : FieldType} {a a' : Array Value} {u U : State} (hvm : u.vm.Alike U.vm) (h : (Jvm.Cond.arrayOver (.array t)).before a u = true) : (Jvm.Cond.arrayOver (.array t)).before a' U = true := by
  unfold Cond.before at h ⊢
  simp only [Cond.holds, Cond.value, beq_iff_eq] at h ⊢
  cases hc : u.vm.findClass (FieldType.array t).toString with
  | none => simp [hc] at h
  | some comp =>
    simp only [hc, Option.bind_some, Option.bind_eq_some_iff, Option.map_eq_some_iff] at h
    obtain ⟨c, hi, k, hk, hb⟩ := h
    obtain ⟨k', hk', he⟩ := hvm.2.2 _ _ hk
    have f1 : U.vm.findClass (FieldType.array t).toString = some comp := by rw [hvm.findClass]; exact hc
    have e3 : U.vm.bare = u.vm.bare := by first | exact hvm.bare_eq | exact hvm.bare_eq.symm
    have e1 := va_idx_bare U.vm comp
    have e2 := va_idx_bare u.vm comp
    rw [e3] at e1
    have hi' := (e1.symm.trans e2).trans hi
    rw [f1]
    simp only [Option.bind_some, Option.bind_eq_some_iff, Option.map_eq_some_iff]
    refine ⟨c, hi', k', hk', ?_⟩
    have hkk : k'.kind = k.kind := by rw [he]
    rw [hkk, hvm.findClass]
    exact hb
theorem g_over {ty : FieldType} {a a' : Array Value} {s U : State} (hW : s.WarmedH U.vm) (h : (Jvm.Cond.arrayOver ty).before a s = true) (hty : (∃ C, ty = .object C) ∨ ∃ t, ty = .array t) : (Jvm.Cond.arrayOver ty).before a' U = true := by
  rcases hty with ⟨C, rfl⟩ | ⟨t, rfl⟩
  · exact va_AO.use (A := a') (va_AO.moved hW.alike (va_AO.of (A := a) h))
  · exact g_overA hW.alike h
section GENV
variable {xs : Nat → Nat} {b : Nat} {aC : Nat → ClassId} {D : va_G} {ex : List mE}
theorem g_warm {s U : State} {H H1 : Heap} (hE : g_Env xs b aC D ex s H) (hW : s.WarmedH U.vm) (hk : ∀ a : Nat, a < H.size → ¬ g_A b a → H1[a]? = H[a]?) : g_Env xs b aC D ex U H1 := by
  obtain ⟨h1, h2, h3, h4, ⟨h5, h6, h8⟩, h7⟩ := hE
  refine ⟨fun w hw hg a => word_at (args := #[]) hW (good_of_word hg) (h1 w hw hg _), fun w hw hn => ?_, fun ty hw ht a => g_over hW (h3 ty hw ht #[]) ht, va_K.moved hW.alike h4, ⟨fun q n f hq => ((h5 q n f hq).moved hW.alike).kept hk, fun q n f hq => ((h6 q n f hq).moved hW.alike).kept hk, h8⟩, fun a C n d ha => ((h7 a C n d ha).moved hW.alike).kept hk⟩
  have h := h2 w hw hn
  cases w with
  | fieldLinkNest a i c n d e => exact va_Nw.warmF hW h
  | methodLinkNest a i x e => exact va_Nw.warmM hW h
  | _ => cases hn
theorem g_blind {U : State} {g : JFrame} {mk : MethodId} {a : Array Value} {H : Heap} (hE : g_Env xs b aC D ex U H) : g_Env xs b aC D ex (U.calling g mk a) H :=
  g_warm hE (show U.WarmedH U.vm from State.WarmedH.refl U) (fun _ _ _ => rfl)
end GENV
/-! the pools' and the methods' words -/
theorem mow_pg {o q : Nat} {e : mPE} (h : mPg o q = some e) : ∃ own l, mOw[o]? = some (own, l) ∧ okP own e = true := by
  unfold mPg at h
  split at h
  · rename_i own l ho
    refine ⟨own, l, ho, ?_⟩
    split at h
    · rename_i l2 hl
      have h1 := List.all_eq_true.mp ck_P _ (List.mem_of_getElem? ho)
      have h2 := List.all_eq_true.mp h1 _ (List.mem_of_getElem? hl)
      exact List.all_eq_true.mp h2 _ (List.mem_of_getElem? h)
    · cases h
  · cases h
theorem okL_get {o : Nat} {y : MethodName} {cc : ByteArray} : ∀ (l : List (Option mR)) (pc j : Nat) (r : mR), okL o y cc pc l = true → l[j]? = some (some r) → okI o y cc (pc + j) r = true
  | [], _, _, _, _, h => by simp at h
  | none :: l, pc, 0, r, _, h => by simp at h
  | none :: l, pc, j + 1, r, hk, h => by
    have := okL_get l (pc + 1) j r hk (by simpa using h)
    rwa [show pc + (j + 1) = pc + 1 + j by omega]
  | some x :: l, pc, 0, r, hk, h => by
    have e : x = r := by simpa using h
    subst e
    exact (Bool.and_eq_true _ _ ▸ hk : _ ∧ _).1
  | some x :: l, pc, j + 1, r, hk, h => by
    have := okL_get l (pc + 1) j r (Bool.and_eq_true _ _ ▸ hk : _ ∧ _).2 (by simpa using h)
    rwa [show pc + (j + 1) = pc + 1 + j by omega]
theorem okC_get {o : Nat} {y : MethodName} {cc : ByteArray} : ∀ (k : List (List (Option mR))) (pc i j : Nat) (l : List (Option mR)) (r : mR), okC o y cc pc k = true → k[i]? = some l → l[j]? = some (some r) → okI o y cc (pc + 16 * i + j) r = true
  | [], _, _, _, _, _, _, h, _ => by simp at h
  | x :: k, pc, 0, j, l, r, hk, h, hj => by
    have e : x = l := by simpa using h
    subst e
    have := okL_get x pc j r (Bool.and_eq_true _ _ ▸ hk : _ ∧ _).1 hj
    simpa using this
  | x :: k, pc, i + 1, j, l, r, hk, h, hj => by
    have := okC_get k (pc + 16) i j l r (Bool.and_eq_true _ _ ▸ hk : _ ∧ _).2 (by simpa using h) hj
    rwa [show pc + 16 * (i + 1) + j = pc + 16 + 16 * i + j by omega]
theorem mcd_ok {o : Nat} {y : MethodName} {cc : ByteArray} {k : List (List (Option mR))} {pc : Nat} {r : mR} (hk : okC o y cc 0 k = true) (h : mcd k pc = some r) : okI o y cc pc r = true := by
  unfold mcd at h
  split at h
  · rename_i l hl
    split at h
    · rename_i x hx
      cases h
      have := okC_get k 0 (pc / 16) (pc % 16) l r hk hl hx
      rwa [show 0 + 16 * (pc / 16) + pc % 16 = pc by omega] at this
    · cases h
  · cases h
/-- what is known of a method of the table -/
def g_M (R : mMR) : Prop := okC R.2.2.2.2.1 R.1 R.2.1 0 R.2.2.2.2.2.2.2 = true ∧ (mOw[R.2.2.2.2.1]?).map (fun q => q.1) = some R.1.cls
/-- .. of one that is called -/
def g_MW (R : mMR) : Prop := Jvm.Cond.code R.1 R.2.1 R.2.2.1 R.2.2.2.1 ∈ lw_tbl ∧ Jvm.Cond.initialized R.1.cls ∈ lw_tbl ∧
  (R.1.cls ≠ "java/lang/invoke/MethodHandle" ∧ R.1.cls ≠ "java/lang/invoke/VarHandle" ∧ (parseMethodDescriptor R.1.desc).map (fun d => d.parameters.length) = some R.2.2.2.2.2.2.1) ∧ plainName R.1.cls = true ∧ R.2.2.1 ≤ 45 ∧
  (R.2.2.2.2.2.1 = 1 → Jvm.Cond.static R.1 ∈ lw_tbl) ∧ (R.2.2.2.2.2.1 ≠ 1 → Jvm.Cond.instanceMethod R.1 ∈ lw_tbl ∧ (R.1.name = "<init>" ∨ Jvm.Cond.selects R.1.cls R.1 R.1 ∈ lw_tbl) ∧ (R.1.name = "<init>" → R.2.2.2.1 = none))
theorem g_of_okM {R : mMR} {t : Nat × Nat × Nat × Nat} (h : okM R t = true) : g_M R ∧ g_MW R := by
  obtain ⟨y, cc, mx, ret, o, st, na, k⟩ := R
  obtain ⟨t1, t2, t3, t4⟩ := t
  simp only [okM, Bool.and_eq_true, decide_eq_true_eq] at h
  obtain ⟨⟨⟨⟨⟨⟨⟨h1, h2⟩, h3⟩, h4⟩, h5⟩, h6⟩, h7⟩, h8⟩ := h
  refine ⟨⟨h1, h2⟩, mwd_in h3, mwd_in h4, h5, h6, h7, fun hs => ?_, fun hs => ?_⟩
  · rw [if_pos hs] at h8
    exact mwd_in (of_decide_eq_true h8)
  · rw [if_neg hs] at h8
    simp only [Bool.and_eq_true, Bool.or_eq_true, decide_eq_true_eq] at h8
    obtain ⟨⟨a1, a2⟩, a3⟩ := h8
    exact ⟨mwd_in a1, a2.imp id mwd_in, fun z => a3.resolve_left (fun w => w z)⟩
end
section
/-! ONE INSTRUCTION: what the small machine does, the real one does -/
section GST
variable {p : Program} {l : Launch} {e : Env} {R : Room} {s : State} {m : MethodId} {args : Array Value} {below : List Frame} {meth : Method} {c : Code} {H : Heap} {locs : List Loc} {cells slots : Nat} {Q : State → Prop}
variable {cc : ByteArray} {pc : Nat} {ls : Array Slot} {ret : Option FieldType} {ex : List mE} {a1 b1 q1 : Nat} {L : mL} {S : List Value} {h : List mE} {pc' : Nat} {L' : mL} {S' : List Value} {h' : List mE} {g : Nat → Nat}
theorem s_iadd (hx : p.tables.exec = Jvm.exec) (hb : c.code = cc) (hd : decode cc pc = .ok (.iadd, 1)) (hm : mx ret ex (.iadd, 1, a1, b1, q1) pc L S h = some (.inl (pc', L', S', h'))) (kk : h' = h → L' = L → W p l e R s m args below meth c H locs cells slots Q (F0 m pc' ls (S'.map (g_V g)))) : W p l e R s m args below meth c H locs cells slots Q (F0 m pc ls (S.map (g_V g))) := by
  replace hm : (match S with
    | .int y :: .int x :: T => mgo (pc + 1) L (.int (x + y) :: T) h
    | _ => none) = some (.inl (pc', L', S', h')) := hm
  split at hm
  · rename_i y x T
    simp only [mgo, Option.some.injEq, Sum.inl.injEq, Prod.mk.injEq] at hm
    obtain ⟨rfl, rfl, rfl, rfl⟩ := hm
    exact lv_iadd hx hb hd (kk rfl rfl)
  · cases hm
theorem s_isub (hx : p.tables.exec = Jvm.exec) (hb : c.code = cc) (hd : decode cc pc = .ok (.isub, 1)) (hm : mx ret ex (.isub, 1, a1, b1, q1) pc L S h = some (.inl (pc', L', S', h'))) (kk : h' = h → L' = L → W p l e R s m args below meth c H locs cells slots Q (F0 m pc' ls (S'.map (g_V g)))) : W p l e R s m args below meth c H locs cells slots Q (F0 m pc ls (S.map (g_V g))) := by
  replace hm : (match S with
    | .int y :: .int x :: T => mgo (pc + 1) L (.int (x - y) :: T) h
    | _ => none) = some (.inl (pc', L', S', h')) := hm
  split at hm
  · rename_i y x T
    simp only [mgo, Option.some.injEq, Sum.inl.injEq, Prod.mk.injEq] at hm
    obtain ⟨rfl, rfl, rfl, rfl⟩ := hm
    exact lv_isub hx hb hd (kk rfl rfl)
  · cases hm
theorem s_imul (hx : p.tables.exec = Jvm.exec) (hb : c.code = cc) (hd : decode cc pc = .ok (.imul, 1)) (hm : mx ret ex (.imul, 1, a1, b1, q1) pc L S h = some (.inl (pc', L', S', h'))) (kk : h' = h → L' = L → W p l e R s m args below meth c H locs cells slots Q (F0 m pc' ls (S'.map (g_V g)))) : W p l e R s m args below meth c H locs cells slots Q (F0 m pc ls (S.map (g_V g))) := by
  replace hm : (match S with
    | .int y :: .int x :: T => mgo (pc + 1) L (.int (x * y) :: T) h
    | _ => none) = some (.inl (pc', L', S', h')) := hm
  split at hm
  · rename_i y x T
    simp only [mgo, Option.some.injEq, Sum.inl.injEq, Prod.mk.injEq] at hm
    obtain ⟨rfl, rfl, rfl, rfl⟩ := hm
    exact lv_imul hx hb hd (kk rfl rfl)
  · cases hm
theorem s_iand (hx : p.tables.exec = Jvm.exec) (hb : c.code = cc) (hd : decode cc pc = .ok (.iand, 1)) (hm : mx ret ex (.iand, 1, a1, b1, q1) pc L S h = some (.inl (pc', L', S', h'))) (kk : h' = h → L' = L → W p l e R s m args below meth c H locs cells slots Q (F0 m pc' ls (S'.map (g_V g)))) : W p l e R s m args below meth c H locs cells slots Q (F0 m pc ls (S.map (g_V g))) := by
  replace hm : (match S with
    | .int y :: .int x :: T => mgo (pc + 1) L (.int (x &&& y) :: T) h
    | _ => none) = some (.inl (pc', L', S', h')) := hm
  split at hm
  · rename_i y x T
    simp only [mgo, Option.some.injEq, Sum.inl.injEq, Prod.mk.injEq] at hm
    obtain ⟨rfl, rfl, rfl, rfl⟩ := hm
    exact lv_iand hx hb hd (kk rfl rfl)
  · cases hm
theorem s_ior (hx : p.tables.exec = Jvm.exec) (hb : c.code = cc) (hd : decode cc pc = .ok (.ior, 1)) (hm : mx ret ex (.ior, 1, a1, b1, q1) pc L S h = some (.inl (pc', L', S', h'))) (kk : h' = h → L' = L → W p l e R s m args below meth c H locs cells slots Q (F0 m pc' ls (S'.map (g_V g)))) : W p l e R s m args below meth c H locs cells slots Q (F0 m pc ls (S.map (g_V g))) := by
  replace hm : (match S with
    | .int y :: .int x :: T => mgo (pc + 1) L (.int (x ||| y) :: T) h
    | _ => none) = some (.inl (pc', L', S', h')) := hm
  split at hm
  · rename_i y x T
    simp only [mgo, Option.some.injEq, Sum.inl.injEq, Prod.mk.injEq] at hm
    obtain ⟨rfl, rfl, rfl, rfl⟩ := hm
    exact lv_ior hx hb hd (kk rfl rfl)
  · cases hm
theorem s_ixor (hx : p.tables.exec = Jvm.exec) (hb : c.code = cc) (hd : decode cc pc = .ok (.ixor, 1)) (hm : mx ret ex (.ixor, 1, a1, b1, q1) pc L S h = some (.inl (pc', L', S', h'))) (kk : h' = h → L' = L → W p l e R s m args below meth c H locs cells slots Q (F0 m pc' ls (S'.map (g_V g)))) : W p l e R s m args below meth c H locs cells slots Q (F0 m pc ls (S.map (g_V g))) := by
  replace hm : (match S with
    | .int y :: .int x :: T => mgo (pc + 1) L (.int (x ^^^ y) :: T) h
    | _ => none) = some (.inl (pc', L', S', h')) := hm
  split at hm
  · rename_i y x T
    simp only [mgo, Option.some.injEq, Sum.inl.injEq, Prod.mk.injEq] at hm
    obtain ⟨rfl, rfl, rfl, rfl⟩ := hm
    exact lv_ixor hx hb hd (kk rfl rfl)
  · cases hm
theorem s_ishl (hx : p.tables.exec = Jvm.exec) (hb : c.code = cc) (hd : decode cc pc = .ok (.ishl, 1)) (hm : mx ret ex (.ishl, 1, a1, b1, q1) pc L S h = some (.inl (pc', L', S', h'))) (kk : h' = h → L' = L → W p l e R s m args below meth c H locs cells slots Q (F0 m pc' ls (S'.map (g_V g)))) : W p l e R s m args below meth c H locs cells slots Q (F0 m pc ls (S.map (g_V g))) := by
  replace hm : (match S with
    | .int y :: .int x :: T => mgo (pc + 1) L (.int (x <<< (y &&& 31)) :: T) h
    | _ => none) = some (.inl (pc', L', S', h')) := hm
  split at hm
  · rename_i y x T
    simp only [mgo, Option.some.injEq, Sum.inl.injEq, Prod.mk.injEq] at hm
    obtain ⟨rfl, rfl, rfl, rfl⟩ := hm
    exact lv_ishl hx hb hd (kk rfl rfl)
  · cases hm
theorem s_ishr (hx : p.tables.exec = Jvm.exec) (hb : c.code = cc) (hd : decode cc pc = .ok (.ishr, 1)) (hm : mx ret ex (.ishr, 1, a1, b1, q1) pc L S h = some (.inl (pc', L', S', h'))) (kk : h' = h → L' = L → W p l e R s m args below meth c H locs cells slots Q (F0 m pc' ls (S'.map (g_V g)))) : W p l e R s m args below meth c H locs cells slots Q (F0 m pc ls (S.map (g_V g))) := by
  replace hm : (match S with
    | .int y :: .int x :: T => mgo (pc + 1) L (.int (x >>> (y &&& 31)) :: T) h
    | _ => none) = some (.inl (pc', L', S', h')) := hm
  split at hm
  · rename_i y x T
    simp only [mgo, Option.some.injEq, Sum.inl.injEq, Prod.mk.injEq] at hm
    obtain ⟨rfl, rfl, rfl, rfl⟩ := hm
    exact lv_ishr hx hb hd (kk rfl rfl)
  · cases hm
theorem s_iushr (hx : p.tables.exec = Jvm.exec) (hb : c.code = cc) (hd : decode cc pc = .ok (.iushr, 1)) (hm : mx ret ex (.iushr, 1, a1, b1, q1) pc L S h = some (.inl (pc', L', S', h'))) (kk : h' = h → L' = L → W p l e R s m args below meth c H locs cells slots Q (F0 m pc' ls (S'.map (g_V g)))) : W p l e R s m args below meth c H locs cells slots Q (F0 m pc ls (S.map (g_V g))) := by
  replace hm : (match S with
    | .int y :: .int x :: T => mgo (pc + 1) L (.int ((x.toUInt32 >>> (y.toUInt32 &&& Int32.toUInt32 31)).toInt32) :: T) h
    | _ => none) = some (.inl (pc', L', S', h')) := hm
  split at hm
  · rename_i y x T
    simp only [mgo, Option.some.injEq, Sum.inl.injEq, Prod.mk.injEq] at hm
    obtain ⟨rfl, rfl, rfl, rfl⟩ := hm
    exact lv_iushr hx hb hd rfl (kk rfl rfl)
  · cases hm
theorem s_idiv (hx : p.tables.exec = Jvm.exec) (hb : c.code = cc) (hd : decode cc pc = .ok (.idiv, 1)) (hm : mx ret ex (.idiv, 1, a1, b1, q1) pc L S h = some (.inl (pc', L', S', h'))) (kk : h' = h → L' = L → W p l e R s m args below meth c H locs cells slots Q (F0 m pc' ls (S'.map (g_V g)))) : W p l e R s m args below meth c H locs cells slots Q (F0 m pc ls (S.map (g_V g))) := by
  replace hm : (match S with
    | .int y :: .int x :: T => if y = 0 then none else mgo (pc + 1) L (.int (x / y) :: T) h
    | _ => none) = some (.inl (pc', L', S', h')) := hm
  split at hm
  · rename_i y x T
    by_cases hy : y = 0
    · rw [if_pos hy] at hm; cases hm
    rw [if_neg hy] at hm
    simp only [mgo, Option.some.injEq, Sum.inl.injEq, Prod.mk.injEq] at hm
    obtain ⟨rfl, rfl, rfl, rfl⟩ := hm
    exact lv_idiv hx hb hd hy (kk rfl rfl)
  · cases hm
theorem s_irem (hx : p.tables.exec = Jvm.exec) (hb : c.code = cc) (hd : decode cc pc = .ok (.irem, 1)) (hm : mx ret ex (.irem, 1, a1, b1, q1) pc L S h = some (.inl (pc', L', S', h'))) (kk : h' = h → L' = L → W p l e R s m args below meth c H locs cells slots Q (F0 m pc' ls (S'.map (g_V g)))) : W p l e R s m args below meth c H locs cells slots Q (F0 m pc ls (S.map (g_V g))) := by
  replace hm : (match S with
    | .int y :: .int x :: T => if y = 0 then none else mgo (pc + 1) L (.int (x - x / y * y) :: T) h
    | _ => none) = some (.inl (pc', L', S', h')) := hm
  split at hm
  · rename_i y x T
    by_cases hy : y = 0
    · rw [if_pos hy] at hm; cases hm
    rw [if_neg hy] at hm
    simp only [mgo, Option.some.injEq, Sum.inl.injEq, Prod.mk.injEq] at hm
    obtain ⟨rfl, rfl, rfl, rfl⟩ := hm
    exact lv_irem hx hb hd hy (kk rfl rfl)
  · cases hm
theorem s_ldiv (hx : p.tables.exec = Jvm.exec) (hb : c.code = cc) (hd : decode cc pc = .ok (.ldiv, 1)) (hm : mx ret ex (.ldiv, 1, a1, b1, q1) pc L S h = some (.inl (pc', L', S', h'))) (kk : h' = h → L' = L → W p l e R s m args below meth c H locs cells slots Q (F0 m pc' ls (S'.map (g_V g)))) : W p l e R s m args below meth c H locs cells slots Q (F0 m pc ls (S.map (g_V g))) := by
  replace hm : (match S with
    | .long y :: .long x :: T => if y = 0 then none else mgo (pc + 1) L (.long (x / y) :: T) h
    | _ => none) = some (.inl (pc', L', S', h')) := hm
  split at hm
  · rename_i y x T
    by_cases hy : y = 0
    · rw [if_pos hy] at hm; cases hm
    rw [if_neg hy] at hm
    simp only [mgo, Option.some.injEq, Sum.inl.injEq, Prod.mk.injEq] at hm
    obtain ⟨rfl, rfl, rfl, rfl⟩ := hm
    exact lv_ldiv hx hb hd hy (kk rfl rfl)
  · cases hm
theorem s_lrem (hx : p.tables.exec = Jvm.exec) (hb : c.code = cc) (hd : decode cc pc = .ok (.lrem, 1)) (hm : mx ret ex (.lrem, 1, a1, b1, q1) pc L S h = some (.inl (pc', L', S', h'))) (kk : h' = h → L' = L → W p l e R s m args below meth c H locs cells slots Q (F0 m pc' ls (S'.map (g_V g)))) : W p l e R s m args below meth c H locs cells slots Q (F0 m pc ls (S.map (g_V g))) := by
  replace hm : (match S with
    | .long y :: .long x :: T => if y = 0 then none else mgo (pc + 1) L (.long (x - x / y * y) :: T) h
    | _ => none) = some (.inl (pc', L', S', h')) := hm
  split at hm
  · rename_i y x T
    by_cases hy : y = 0
    · rw [if_pos hy] at hm; cases hm
    rw [if_neg hy] at hm
    simp only [mgo, Option.some.injEq, Sum.inl.injEq, Prod.mk.injEq] at hm
    obtain ⟨rfl, rfl, rfl, rfl⟩ := hm
    exact lv_lrem hx hb hd hy (kk rfl rfl)
  · cases hm
theorem s_ladd (hx : p.tables.exec = Jvm.exec) (hb : c.code = cc) (hd : decode cc pc = .ok (.ladd, 1)) (hm : mx ret ex (.ladd, 1, a1, b1, q1) pc L S h = some (.inl (pc', L', S', h'))) (kk : h' = h → L' = L → W p l e R s m args below meth c H locs cells slots Q (F0 m pc' ls (S'.map (g_V g)))) : W p l e R s m args below meth c H locs cells slots Q (F0 m pc ls (S.map (g_V g))) := by
  replace hm : (match S with
    | .long y :: .long x :: T => mgo (pc + 1) L (.long (x + y) :: T) h
    | _ => none) = some (.inl (pc', L', S', h')) := hm
  split at hm
  · rename_i y x T
    simp only [mgo, Option.some.injEq, Sum.inl.injEq, Prod.mk.injEq] at hm
    obtain ⟨rfl, rfl, rfl, rfl⟩ := hm
    exact lv_ladd hx hb hd (kk rfl rfl)
  · cases hm
theorem s_lsub (hx : p.tables.exec = Jvm.exec) (hb : c.code = cc) (hd : decode cc pc = .ok (.lsub, 1)) (hm : mx ret ex (.lsub, 1, a1, b1, q1) pc L S h = some (.inl (pc', L', S', h'))) (kk : h' = h → L' = L → W p l e R s m args below meth c H locs cells slots Q (F0 m pc' ls (S'.map (g_V g)))) : W p l e R s m args below meth c H locs cells slots Q (F0 m pc ls (S.map (g_V g))) := by
  replace hm : (match S with
    | .long y :: .long x :: T => mgo (pc + 1) L (.long (x - y) :: T) h
    | _ => none) = some (.inl (pc', L', S', h')) := hm
  split at hm
  · rename_i y x T
    simp only [mgo, Option.some.injEq, Sum.inl.injEq, Prod.mk.injEq] at hm
    obtain ⟨rfl, rfl, rfl, rfl⟩ := hm
    exact lv_lsub hx hb hd (kk rfl rfl)
  · cases hm
theorem s_lmul (hx : p.tables.exec = Jvm.exec) (hb : c.code = cc) (hd : decode cc pc = .ok (.lmul, 1)) (hm : mx ret ex (.lmul, 1, a1, b1, q1) pc L S h = some (.inl (pc', L', S', h'))) (kk : h' = h → L' = L → W p l e R s m args below meth c H locs cells slots Q (F0 m pc' ls (S'.map (g_V g)))) : W p l e R s m args below meth c H locs cells slots Q (F0 m pc ls (S.map (g_V g))) := by
  replace hm : (match S with
    | .long y :: .long x :: T => mgo (pc + 1) L (.long (x * y) :: T) h
    | _ => none) = some (.inl (pc', L', S', h')) := hm
  split at hm
  · rename_i y x T
    simp only [mgo, Option.some.injEq, Sum.inl.injEq, Prod.mk.injEq] at hm
    obtain ⟨rfl, rfl, rfl, rfl⟩ := hm
    exact lv_lmul hx hb hd (kk rfl rfl)
  · cases hm
theorem s_lcmp (hx : p.tables.exec = Jvm.exec) (hb : c.code = cc) (hd : decode cc pc = .ok (.lcmp, 1)) (hm : mx ret ex (.lcmp, 1, a1, b1, q1) pc L S h = some (.inl (pc', L', S', h'))) (kk : h' = h → L' = L → W p l e R s m args below meth c H locs cells slots Q (F0 m pc' ls (S'.map (g_V g)))) : W p l e R s m args below meth c H locs cells slots Q (F0 m pc ls (S.map (g_V g))) := by
  replace hm : (match S with
    | .long y :: .long x :: T => mgo (pc + 1) L (.int (lg_cmp x y) :: T) h
    | _ => none) = some (.inl (pc', L', S', h')) := hm
  split at hm
  · rename_i y x T
    simp only [mgo, Option.some.injEq, Sum.inl.injEq, Prod.mk.injEq] at hm
    obtain ⟨rfl, rfl, rfl, rfl⟩ := hm
    exact W.lcmp hx hb hd (kk rfl rfl)
  · cases hm
theorem s_ineg (hx : p.tables.exec = Jvm.exec) (hb : c.code = cc) (hd : decode cc pc = .ok (.ineg, 1)) (hm : mx ret ex (.ineg, 1, a1, b1, q1) pc L S h = some (.inl (pc', L', S', h'))) (kk : h' = h → L' = L → W p l e R s m args below meth c H locs cells slots Q (F0 m pc' ls (S'.map (g_V g)))) : W p l e R s m args below meth c H locs cells slots Q (F0 m pc ls (S.map (g_V g))) := by
  replace hm : (match S with
    | .int x :: T => mgo (pc + 1) L (.int (-x) :: T) h
    | _ => none) = some (.inl (pc', L', S', h')) := hm
  split at hm
  · rename_i x T
    simp only [mgo, Option.some.injEq, Sum.inl.injEq, Prod.mk.injEq] at hm
    obtain ⟨rfl, rfl, rfl, rfl⟩ := hm
    exact lv_ineg hx hb hd (kk rfl rfl)
  · cases hm
theorem s_i2l (hx : p.tables.exec = Jvm.exec) (hb : c.code = cc) (hd : decode cc pc = .ok (.i2l, 1)) (hm : mx ret ex (.i2l, 1, a1, b1, q1) pc L S h = some (.inl (pc', L', S', h'))) (kk : h' = h → L' = L → W p l e R s m args below meth c H locs cells slots Q (F0 m pc' ls (S'.map (g_V g)))) : W p l e R s m args below meth c H locs cells slots Q (F0 m pc ls (S.map (g_V g))) := by
  replace hm : (match S with
    | .int x :: T => mgo (pc + 1) L (.long x.toInt64 :: T) h
    | _ => none) = some (.inl (pc', L', S', h')) := hm
  split at hm
  · rename_i x T
    simp only [mgo, Option.some.injEq, Sum.inl.injEq, Prod.mk.injEq] at hm
    obtain ⟨rfl, rfl, rfl, rfl⟩ := hm
    exact lv_i2l hx hb hd rfl (kk rfl rfl)
  · cases hm
theorem s_i2b (hx : p.tables.exec = Jvm.exec) (hb : c.code = cc) (hd : decode cc pc = .ok (.i2b, 1)) (hm : mx ret ex (.i2b, 1, a1, b1, q1) pc L S h = some (.inl (pc', L', S', h'))) (kk : h' = h → L' = L → W p l e R s m args below meth c H locs cells slots Q (F0 m pc' ls (S'.map (g_V g)))) : W p l e R s m args below meth c H locs cells slots Q (F0 m pc ls (S.map (g_V g))) := by
  replace hm : (match S with
    | .int x :: T => mgo (pc + 1) L (.int x.toInt8.toInt32 :: T) h
    | _ => none) = some (.inl (pc', L', S', h')) := hm
  split at hm
  · rename_i x T
    simp only [mgo, Option.some.injEq, Sum.inl.injEq, Prod.mk.injEq] at hm
    obtain ⟨rfl, rfl, rfl, rfl⟩ := hm
    exact lv_i2b hx hb hd rfl (kk rfl rfl)
  · cases hm
theorem s_l2i (hx : p.tables.exec = Jvm.exec) (hb : c.code = cc) (hd : decode cc pc = .ok (.l2i, 1)) (hm : mx ret ex (.l2i, 1, a1, b1, q1) pc L S h = some (.inl (pc', L', S', h'))) (kk : h' = h → L' = L → W p l e R s m args below meth c H locs cells slots Q (F0 m pc' ls (S'.map (g_V g)))) : W p l e R s m args below meth c H locs cells slots Q (F0 m pc ls (S.map (g_V g))) := by
  replace hm : (match S with
    | .long x :: T => mgo (pc + 1) L (.int x.toInt32 :: T) h
    | _ => none) = some (.inl (pc', L', S', h')) := hm
  split at hm
  · rename_i x T
    simp only [mgo, Option.some.injEq, Sum.inl.injEq, Prod.mk.injEq] at hm
    obtain ⟨rfl, rfl, rfl, rfl⟩ := hm
    exact lv_l2i hx hb hd rfl (kk rfl rfl)
  · cases hm
theorem s_pop (hx : p.tables.exec = Jvm.exec) (hb : c.code = cc) (hd : decode cc pc = .ok (.pop, 1)) (hm : mx ret ex (.pop, 1, a1, b1, q1) pc L S h = some (.inl (pc', L', S', h'))) (kk : h' = h → L' = L → W p l e R s m args below meth c H locs cells slots Q (F0 m pc' ls (S'.map (g_V g)))) : W p l e R s m args below meth c H locs cells slots Q (F0 m pc ls (S.map (g_V g))) := by
  replace hm : (match S with
    | v :: T => if v.category = 1 then mgo (pc + 1) L T h else none
    | _ => none) = some (.inl (pc', L', S', h')) := hm
  split at hm
  · rename_i v T
    by_cases hv : v.category = 1
    · rw [if_pos hv] at hm
      simp only [mgo, Option.some.injEq, Sum.inl.injEq, Prod.mk.injEq] at hm
      obtain ⟨rfl, rfl, rfl, rfl⟩ := hm
      exact lv_pop hx hb hd (by rw [g_cat]; exact hv) (kk rfl rfl)
    · rw [if_neg hv] at hm; cases hm
  · cases hm
theorem s_dup (hx : p.tables.exec = Jvm.exec) (hb : c.code = cc) (hd : decode cc pc = .ok (.dup, 1)) (hm : mx ret ex (.dup, 1, a1, b1, q1) pc L S h = some (.inl (pc', L', S', h'))) (kk : h' = h → L' = L → W p l e R s m args below meth c H locs cells slots Q (F0 m pc' ls (S'.map (g_V g)))) : W p l e R s m args below meth c H locs cells slots Q (F0 m pc ls (S.map (g_V g))) := by
  replace hm : (match S with
    | v :: T => if v.category = 1 then mgo (pc + 1) L (v :: v :: T) h else none
    | _ => none) = some (.inl (pc', L', S', h')) := hm
  split at hm
  · rename_i v T
    by_cases hv : v.category = 1
    · rw [if_pos hv] at hm
      simp only [mgo, Option.some.injEq, Sum.inl.injEq, Prod.mk.injEq] at hm
      obtain ⟨rfl, rfl, rfl, rfl⟩ := hm
      exact lv_dup hx hb hd (by rw [g_cat]; exact hv) (kk rfl rfl)
    · rw [if_neg hv] at hm; cases hm
  · cases hm
theorem s_dup_x1 (hx : p.tables.exec = Jvm.exec) (hb : c.code = cc) (hd : decode cc pc = .ok (.dup_x1, 1)) (hm : mx ret ex (.dup_x1, 1, a1, b1, q1) pc L S h = some (.inl (pc', L', S', h'))) (kk : h' = h → L' = L → W p l e R s m args below meth c H locs cells slots Q (F0 m pc' ls (S'.map (g_V g)))) : W p l e R s m args below meth c H locs cells slots Q (F0 m pc ls (S.map (g_V g))) := by
  replace hm : (match S with
    | v :: w :: T => if v.category = 1 ∧ w.category = 1 then mgo (pc + 1) L (v :: w :: v :: T) h else none
    | _ => none) = some (.inl (pc', L', S', h')) := hm
  split at hm
  · rename_i v w T
    by_cases hv : v.category = 1 ∧ w.category = 1
    · rw [if_pos hv] at hm
      simp only [mgo, Option.some.injEq, Sum.inl.injEq, Prod.mk.injEq] at hm
      obtain ⟨rfl, rfl, rfl, rfl⟩ := hm
      exact lv_dup_x1 hx hb hd (by rw [g_cat]; exact hv.1) (by rw [g_cat]; exact hv.2) (kk rfl rfl)
    · rw [if_neg hv] at hm; cases hm
  · cases hm
theorem s_dup2 (hx : p.tables.exec = Jvm.exec) (hb : c.code = cc) (hd : decode cc pc = .ok (.dup2, 1)) (hm : mx ret ex (.dup2, 1, a1, b1, q1) pc L S h = some (.inl (pc', L', S', h'))) (kk : h' = h → L' = L → W p l e R s m args below meth c H locs cells slots Q (F0 m pc' ls (S'.map (g_V g)))) : W p l e R s m args below meth c H locs cells slots Q (F0 m pc ls (S.map (g_V g))) := by
  replace hm : (match S with
    | v :: w :: T => if v.category = 1 ∧ w.category = 1 then mgo (pc + 1) L (v :: w :: v :: w :: T) h else none
    | _ => none) = some (.inl (pc', L', S', h')) := hm
  split at hm
  · rename_i v w T
    by_cases hv : v.category = 1 ∧ w.category = 1
    · rw [if_pos hv] at hm
      simp only [mgo, Option.some.injEq, Sum.inl.injEq, Prod.mk.injEq] at hm
      obtain ⟨rfl, rfl, rfl, rfl⟩ := hm
      exact lv_dup2_11 hx hb hd (by rw [g_cat]; exact hv.1) (by rw [g_cat]; exact hv.2) (kk rfl rfl)
    · rw [if_neg hv] at hm; cases hm
  · cases hm
theorem s_iconst {v : Int} (hx : p.tables.exec = Jvm.exec) (hb : c.code = cc) (hd : decode cc pc = .ok (.iconst v, 1)) (hm : mx ret ex (.iconst v, 1, a1, b1, q1) pc L S h = some (.inl (pc', L', S', h'))) (kk : h' = h → L' = L → W p l e R s m args below meth c H locs cells slots Q (F0 m pc' ls (S'.map (g_V g)))) : W p l e R s m args below meth c H locs cells slots Q (F0 m pc ls (S.map (g_V g))) := by
  replace hm : mgo (pc + 1) L (.int (Int32.ofInt v) :: S) h = some (.inl (pc', L', S', h')) := hm
  simp only [mgo, Option.some.injEq, Sum.inl.injEq, Prod.mk.injEq] at hm
  obtain ⟨rfl, rfl, rfl, rfl⟩ := hm
  exact lv_iconst hx hb hd rfl (kk rfl rfl)
theorem s_bipush {v : Int} (hx : p.tables.exec = Jvm.exec) (hb : c.code = cc) (hv : (Int8.ofInt v).toInt32 = Int32.ofInt v) (hd : decode cc pc = .ok (.bipush v, 2)) (hm : mx ret ex (.iconst v, 2, a1, b1, q1) pc L S h = some (.inl (pc', L', S', h'))) (kk : h' = h → L' = L → W p l e R s m args below meth c H locs cells slots Q (F0 m pc' ls (S'.map (g_V g)))) : W p l e R s m args below meth c H locs cells slots Q (F0 m pc ls (S.map (g_V g))) := by
  replace hm : mgo (pc + 2) L (.int (Int32.ofInt v) :: S) h = some (.inl (pc', L', S', h')) := hm
  simp only [mgo, Option.some.injEq, Sum.inl.injEq, Prod.mk.injEq] at hm
  obtain ⟨rfl, rfl, rfl, rfl⟩ := hm
  exact lv_bipush hx hb hd hv (kk rfl rfl)
theorem s_sipush {v : Int} (hx : p.tables.exec = Jvm.exec) (hb : c.code = cc) (hv : (Int16.ofInt v).toInt32 = Int32.ofInt v) (hd : decode cc pc = .ok (.sipush v, 3)) (hm : mx ret ex (.iconst v, 3, a1, b1, q1) pc L S h = some (.inl (pc', L', S', h'))) (kk : h' = h → L' = L → W p l e R s m args below meth c H locs cells slots Q (F0 m pc' ls (S'.map (g_V g)))) : W p l e R s m args below meth c H locs cells slots Q (F0 m pc ls (S.map (g_V g))) := by
  replace hm : mgo (pc + 3) L (.int (Int32.ofInt v) :: S) h = some (.inl (pc', L', S', h')) := hm
  simp only [mgo, Option.some.injEq, Sum.inl.injEq, Prod.mk.injEq] at hm
  obtain ⟨rfl, rfl, rfl, rfl⟩ := hm
  exact lv_sipush hx hb hd hv (kk rfl rfl)
theorem s_ldc {v : Int} {i : Nat} {own : String} (hx : p.tables.exec = Jvm.exec) (hb : c.code = cc) (hown : s.vm.findClass own = some m.cls) (hv : (Jvm.Cond.constant own i (Int32.ofInt v)).before args s = true) (hd : decode cc pc = .ok (.ldc i, 2)) (hm : mx ret ex (.iconst v, 2, a1, b1, q1) pc L S h = some (.inl (pc', L', S', h'))) (kk : h' = h → L' = L → W p l e R s m args below meth c H locs cells slots Q (F0 m pc' ls (S'.map (g_V g)))) : W p l e R s m args below meth c H locs cells slots Q (F0 m pc ls (S.map (g_V g))) := by
  replace hm : mgo (pc + 2) L (.int (Int32.ofInt v) :: S) h = some (.inl (pc', L', S', h')) := hm
  simp only [mgo, Option.some.injEq, Sum.inl.injEq, Prod.mk.injEq] at hm
  obtain ⟨rfl, rfl, rfl, rfl⟩ := hm
  exact lv_ldc hx hb hown hv hd (kk rfl rfl)
theorem s_ldc_w {v : Int} {i : Nat} {own : String} (hx : p.tables.exec = Jvm.exec) (hb : c.code = cc) (hown : s.vm.findClass own = some m.cls) (hv : (Jvm.Cond.constant own i (Int32.ofInt v)).before args s = true) (hd : decode cc pc = .ok (.ldc_w i, 3)) (hm : mx ret ex (.iconst v, 3, a1, b1, q1) pc L S h = some (.inl (pc', L', S', h'))) (kk : h' = h → L' = L → W p l e R s m args below meth c H locs cells slots Q (F0 m pc' ls (S'.map (g_V g)))) : W p l e R s m args below meth c H locs cells slots Q (F0 m pc ls (S.map (g_V g))) := by
  replace hm : mgo (pc + 3) L (.int (Int32.ofInt v) :: S) h = some (.inl (pc', L', S', h')) := hm
  simp only [mgo, Option.some.injEq, Sum.inl.injEq, Prod.mk.injEq] at hm
  obtain ⟨rfl, rfl, rfl, rfl⟩ := hm
  exact lv_ldcw hx hb hown hv hd (kk rfl rfl)
theorem s_lconst {v : Fin 2} (hx : p.tables.exec = Jvm.exec) (hb : c.code = cc) (hd : decode cc pc = .ok (.lconst v, 1)) (hm : mx ret ex (.jsr_w ((v : Nat) : Int), 1, a1, b1, q1) pc L S h = some (.inl (pc', L', S', h'))) (kk : h' = h → L' = L → W p l e R s m args below meth c H locs cells slots Q (F0 m pc' ls (S'.map (g_V g)))) : W p l e R s m args below meth c H locs cells slots Q (F0 m pc ls (S.map (g_V g))) := by
  replace hm : mgo (pc + 1) L (.long (Int64.ofInt ((v : Nat) : Int)) :: S) h = some (.inl (pc', L', S', h')) := hm
  simp only [mgo, Option.some.injEq, Sum.inl.injEq, Prod.mk.injEq] at hm
  obtain ⟨rfl, rfl, rfl, rfl⟩ := hm
  exact lv_lconst hx hb hd (by clear hd kk; revert v; decide) (kk rfl rfl)
theorem s_ldc2_w {v : Int} {i : Nat} {own : String} (hx : p.tables.exec = Jvm.exec) (hb : c.code = cc) (hown : s.vm.findClass own = some m.cls) (hv : (Jvm.Cond.constantLong own i (Int64.ofInt v)).before args s = true) (hd : decode cc pc = .ok (.ldc2_w i, 3)) (hm : mx ret ex (.jsr_w v, 3, a1, b1, q1) pc L S h = some (.inl (pc', L', S', h'))) (kk : h' = h → L' = L → W p l e R s m args below meth c H locs cells slots Q (F0 m pc' ls (S'.map (g_V g)))) : W p l e R s m args below meth c H locs cells slots Q (F0 m pc ls (S.map (g_V g))) := by
  replace hm : mgo (pc + 3) L (.long (Int64.ofInt v) :: S) h = some (.inl (pc', L', S', h')) := hm
  simp only [mgo, Option.some.injEq, Sum.inl.injEq, Prod.mk.injEq] at hm
  obtain ⟨rfl, rfl, rfl, rfl⟩ := hm
  exact lv_ldc2 hx hb hown hv hd (kk rfl rfl)
theorem s_aconst_null (hx : p.tables.exec = Jvm.exec) (hb : c.code = cc) (hd : decode cc pc = .ok (.aconst_null, 1)) (hm : mx ret ex (.aconst_null, 1, a1, b1, q1) pc L S h = some (.inl (pc', L', S', h'))) (kk : h' = h → L' = L → W p l e R s m args below meth c H locs cells slots Q (F0 m pc' ls (S'.map (g_V g)))) : W p l e R s m args below meth c H locs cells slots Q (F0 m pc ls (S.map (g_V g))) := by
  replace hm : mgo (pc + 1) L (.null :: S) h = some (.inl (pc', L', S', h')) := hm
  simp only [mgo, Option.some.injEq, Sum.inl.injEq, Prod.mk.injEq] at hm
  obtain ⟨rfl, rfl, rfl, rfl⟩ := hm
  exact lv_null hx hb hd (kk rfl rfl)
theorem s_iload_n {k : Fin 4} (hx : p.tables.exec = Jvm.exec) (hb : c.code = cc) (hL : g_H g ls L) (hd : decode cc pc = .ok (.iload_n k, 1)) (hm : mx ret ex (.iload (k : Nat), 1, a1, b1, q1) pc L S h = some (.inl (pc', L', S', h'))) (kk : h' = h → L' = L → W p l e R s m args below meth c H locs cells slots Q (F0 m pc' ls (S'.map (g_V g)))) : W p l e R s m args below meth c H locs cells slots Q (F0 m pc ls (S.map (g_V g))) := by
  replace hm : (match lget L (k : Nat) with
    | some (.int x) => mgo (pc + 1) L (.int x :: S) h
    | _ => none) = some (.inl (pc', L', S', h')) := hm
  split at hm
  · rename_i x hl
    simp only [mgo, Option.some.injEq, Sum.inl.injEq, Prod.mk.injEq] at hm
    obtain ⟨rfl, rfl, rfl, rfl⟩ := hm
    exact lv_iload_n hx hb hd rfl (g_rd hL hl) (kk rfl rfl)
  · cases hm
theorem s_iload {k : Nat} (hx : p.tables.exec = Jvm.exec) (hb : c.code = cc) (hL : g_H g ls L) (hd : decode cc pc = .ok (.iload k, 2)) (hm : mx ret ex (.iload k, 2, a1, b1, q1) pc L S h = some (.inl (pc', L', S', h'))) (kk : h' = h → L' = L → W p l e R s m args below meth c H locs cells slots Q (F0 m pc' ls (S'.map (g_V g)))) : W p l e R s m args below meth c H locs cells slots Q (F0 m pc ls (S.map (g_V g))) := by
  replace hm : (match lget L k with
    | some (.int x) => mgo (pc + 2) L (.int x :: S) h
    | _ => none) = some (.inl (pc', L', S', h')) := hm
  split at hm
  · rename_i x hl
    simp only [mgo, Option.some.injEq, Sum.inl.injEq, Prod.mk.injEq] at hm
    obtain ⟨rfl, rfl, rfl, rfl⟩ := hm
    exact lv_iload hx hb hd (g_rd hL hl) (kk rfl rfl)
  · cases hm
theorem s_lload_n {k : Fin 4} (hx : p.tables.exec = Jvm.exec) (hb : c.code = cc) (hL : g_H g ls L) (hd : decode cc pc = .ok (.lload_n k, 1)) (hm : mx ret ex (.lload (k : Nat), 1, a1, b1, q1) pc L S h = some (.inl (pc', L', S', h'))) (kk : h' = h → L' = L → W p l e R s m args below meth c H locs cells slots Q (F0 m pc' ls (S'.map (g_V g)))) : W p l e R s m args below meth c H locs cells slots Q (F0 m pc ls (S.map (g_V g))) := by
  replace hm : (match lget L (k : Nat) with
    | some (.long x) => mgo (pc + 1) L (.long x :: S) h
    | _ => none) = some (.inl (pc', L', S', h')) := hm
  split at hm
  · rename_i x hl
    simp only [mgo, Option.some.injEq, Sum.inl.injEq, Prod.mk.injEq] at hm
    obtain ⟨rfl, rfl, rfl, rfl⟩ := hm
    exact lv_lload_n hx hb hd rfl (g_rd hL hl) (kk rfl rfl)
  · cases hm
theorem s_lload {k : Nat} (hx : p.tables.exec = Jvm.exec) (hb : c.code = cc) (hL : g_H g ls L) (hd : decode cc pc = .ok (.lload k, 2)) (hm : mx ret ex (.lload k, 2, a1, b1, q1) pc L S h = some (.inl (pc', L', S', h'))) (kk : h' = h → L' = L → W p l e R s m args below meth c H locs cells slots Q (F0 m pc' ls (S'.map (g_V g)))) : W p l e R s m args below meth c H locs cells slots Q (F0 m pc ls (S.map (g_V g))) := by
  replace hm : (match lget L k with
    | some (.long x) => mgo (pc + 2) L (.long x :: S) h
    | _ => none) = some (.inl (pc', L', S', h')) := hm
  split at hm
  · rename_i x hl
    simp only [mgo, Option.some.injEq, Sum.inl.injEq, Prod.mk.injEq] at hm
    obtain ⟨rfl, rfl, rfl, rfl⟩ := hm
    exact lv_lload hx hb hd (g_rd hL hl) (kk rfl rfl)
  · cases hm
theorem s_aload_n {k : Fin 4} (hx : p.tables.exec = Jvm.exec) (hb : c.code = cc) (hL : g_H g ls L) (hd : decode cc pc = .ok (.aload_n k, 1)) (hm : mx ret ex (.aload (k : Nat), 1, a1, b1, q1) pc L S h = some (.inl (pc', L', S', h'))) (kk : h' = h → L' = L → W p l e R s m args below meth c H locs cells slots Q (F0 m pc' ls (S'.map (g_V g)))) : W p l e R s m args below meth c H locs cells slots Q (F0 m pc ls (S.map (g_V g))) := by
  replace hm : (match lget L (k : Nat) with
    | some (.ref x) => mgo (pc + 1) L (.ref x :: S) h
    | some .null => mgo (pc + 1) L (.null :: S) h
    | _ => none) = some (.inl (pc', L', S', h')) := hm
  split at hm
  · rename_i x hl
    simp only [mgo, Option.some.injEq, Sum.inl.injEq, Prod.mk.injEq] at hm
    obtain ⟨rfl, rfl, rfl, rfl⟩ := hm
    exact lv_aload_n hx hb hd rfl (g_rd hL hl) (kk rfl rfl)
  · rename_i hl
    simp only [mgo, Option.some.injEq, Sum.inl.injEq, Prod.mk.injEq] at hm
    obtain ⟨rfl, rfl, rfl, rfl⟩ := hm
    exact lv_aload_nN hx hb hd rfl (g_rd hL hl) (kk rfl rfl)
  · cases hm
theorem s_aload {k : Nat} (hx : p.tables.exec = Jvm.exec) (hb : c.code = cc) (hL : g_H g ls L) (hd : decode cc pc = .ok (.aload k, 2)) (hm : mx ret ex (.aload k, 2, a1, b1, q1) pc L S h = some (.inl (pc', L', S', h'))) (kk : h' = h → L' = L → W p l e R s m args below meth c H locs cells slots Q (F0 m pc' ls (S'.map (g_V g)))) : W p l e R s m args below meth c H locs cells slots Q (F0 m pc ls (S.map (g_V g))) := by
  replace hm : (match lget L k with
    | some (.ref x) => mgo (pc + 2) L (.ref x :: S) h
    | some .null => mgo (pc + 2) L (.null :: S) h
    | _ => none) = some (.inl (pc', L', S', h')) := hm
  split at hm
  · rename_i x hl
    simp only [mgo, Option.some.injEq, Sum.inl.injEq, Prod.mk.injEq] at hm
    obtain ⟨rfl, rfl, rfl, rfl⟩ := hm
    exact lv_aload hx hb hd (g_rd hL hl) (kk rfl rfl)
  · rename_i hl
    simp only [mgo, Option.some.injEq, Sum.inl.injEq, Prod.mk.injEq] at hm
    obtain ⟨rfl, rfl, rfl, rfl⟩ := hm
    exact lv_aloadN hx hb hd (g_rd hL hl) (kk rfl rfl)
  · cases hm
theorem s_istore_n {k : Fin 4} (hx : p.tables.exec = Jvm.exec) (hb : c.code = cc) (hL : g_H g ls L) (hd : decode cc pc = .ok (.istore_n k, 1)) (hm : mx ret ex (.istore (k : Nat), 1, a1, b1, q1) pc L S h = some (.inl (pc', L', S', h'))) (kk : ∀ ls1 : Array Slot, h' = h → L'.length = L.length → g_H g ls1 L' → W p l e R s m args below meth c H locs cells slots Q (F0 m pc' ls1 (S'.map (g_V g)))) : W p l e R s m args below meth c H locs cells slots Q (F0 m pc ls (S.map (g_V g))) := by
  replace hm : (match S with
    | .int x :: T => if (k : Nat) < L.length then mgo (pc + 1) (lset1 L (k : Nat) (.int x)) T h else none
    | _ => none) = some (.inl (pc', L', S', h')) := hm
  split at hm
  · rename_i x T
    by_cases hi : (k : Nat) < L.length
    · rw [if_pos hi] at hm
      simp only [mgo, Option.some.injEq, Sum.inl.injEq, Prod.mk.injEq] at hm
      obtain ⟨rfl, rfl, rfl, rfl⟩ := hm
      exact lv_istore_n hx hb hd rfl hL hi rfl (fun ls1 h1 => kk ls1 rfl (lset1_len _ _ _) (g_st1 h1))
    · rw [if_neg hi] at hm; cases hm
  · cases hm
theorem s_istore {k : Nat} (hx : p.tables.exec = Jvm.exec) (hb : c.code = cc) (hL : g_H g ls L) (hd : decode cc pc = .ok (.istore k, 2)) (hm : mx ret ex (.istore k, 2, a1, b1, q1) pc L S h = some (.inl (pc', L', S', h'))) (kk : ∀ ls1 : Array Slot, h' = h → L'.length = L.length → g_H g ls1 L' → W p l e R s m args below meth c H locs cells slots Q (F0 m pc' ls1 (S'.map (g_V g)))) : W p l e R s m args below meth c H locs cells slots Q (F0 m pc ls (S.map (g_V g))) := by
  replace hm : (match S with
    | .int x :: T => if k < L.length then mgo (pc + 2) (lset1 L k (.int x)) T h else none
    | _ => none) = some (.inl (pc', L', S', h')) := hm
  split at hm
  · rename_i x T
    by_cases hi : k < L.length
    · rw [if_pos hi] at hm
      simp only [mgo, Option.some.injEq, Sum.inl.injEq, Prod.mk.injEq] at hm
      obtain ⟨rfl, rfl, rfl, rfl⟩ := hm
      exact lv_istore hx hb hd hL hi rfl (fun ls1 h1 => kk ls1 rfl (lset1_len _ _ _) (g_st1 h1))
    · rw [if_neg hi] at hm; cases hm
  · cases hm
theorem s_lstore_n {k : Fin 4} (hx : p.tables.exec = Jvm.exec) (hb : c.code = cc) (hL : g_H g ls L) (hd : decode cc pc = .ok (.lstore_n k, 1)) (hm : mx ret ex (.lstore (k : Nat), 1, a1, b1, q1) pc L S h = some (.inl (pc', L', S', h'))) (kk : ∀ ls1 : Array Slot, h' = h → L'.length = L.length → g_H g ls1 L' → W p l e R s m args below meth c H locs cells slots Q (F0 m pc' ls1 (S'.map (g_V g)))) : W p l e R s m args below meth c H locs cells slots Q (F0 m pc ls (S.map (g_V g))) := by
  replace hm : (match S with
    | .long x :: T => if (k : Nat) + 1 < L.length then mgo (pc + 1) (lset2 L (k : Nat) (.long x)) T h else none
    | _ => none) = some (.inl (pc', L', S', h')) := hm
  split at hm
  · rename_i x T
    by_cases hi : (k : Nat) + 1 < L.length
    · rw [if_pos hi] at hm
      simp only [mgo, Option.some.injEq, Sum.inl.injEq, Prod.mk.injEq] at hm
      obtain ⟨rfl, rfl, rfl, rfl⟩ := hm
      exact lv_lstore_n hx hb hd rfl hL hi rfl (fun ls1 h1 => kk ls1 rfl (lset2_len _ _ _) (g_st2 h1))
    · rw [if_neg hi] at hm; cases hm
  · cases hm
theorem s_lstore {k : Nat} (hx : p.tables.exec = Jvm.exec) (hb : c.code = cc) (hL : g_H g ls L) (hd : decode cc pc = .ok (.lstore k, 2)) (hm : mx ret ex (.lstore k, 2, a1, b1, q1) pc L S h = some (.inl (pc', L', S', h'))) (kk : ∀ ls1 : Array Slot, h' = h → L'.length = L.length → g_H g ls1 L' → W p l e R s m args below meth c H locs cells slots Q (F0 m pc' ls1 (S'.map (g_V g)))) : W p l e R s m args below meth c H locs cells slots Q (F0 m pc ls (S.map (g_V g))) := by
  replace hm : (match S with
    | .long x :: T => if k + 1 < L.length then mgo (pc + 2) (lset2 L k (.long x)) T h else none
    | _ => none) = some (.inl (pc', L', S', h')) := hm
  split at hm
  · rename_i x T
    by_cases hi : k + 1 < L.length
    · rw [if_pos hi] at hm
      simp only [mgo, Option.some.injEq, Sum.inl.injEq, Prod.mk.injEq] at hm
      obtain ⟨rfl, rfl, rfl, rfl⟩ := hm
      exact lv_lstore hx hb hd hL hi rfl (fun ls1 h1 => kk ls1 rfl (lset2_len _ _ _) (g_st2 h1))
    · rw [if_neg hi] at hm; cases hm
  · cases hm
theorem s_astore_n {k : Fin 4} (hx : p.tables.exec = Jvm.exec) (hb : c.code = cc) (hL : g_H g ls L) (hd : decode cc pc = .ok (.astore_n k, 1)) (hm : mx ret ex (.astore (k : Nat), 1, a1, b1, q1) pc L S h = some (.inl (pc', L', S', h'))) (kk : ∀ ls1 : Array Slot, h' = h → L'.length = L.length → g_H g ls1 L' → W p l e R s m args below meth c H locs cells slots Q (F0 m pc' ls1 (S'.map (g_V g)))) : W p l e R s m args below meth c H locs cells slots Q (F0 m pc ls (S.map (g_V g))) := by
  replace hm : (match S with
    | .ref x :: T => if (k : Nat) < L.length then mgo (pc + 1) (lset1 L (k : Nat) (.ref x)) T h else none
    | .null :: T => if (k : Nat) < L.length then mgo (pc + 1) (lset1 L (k : Nat) .null) T h else none
    | _ => none) = some (.inl (pc', L', S', h')) := hm
  split at hm
  · rename_i x T
    by_cases hi : (k : Nat) < L.length
    · rw [if_pos hi] at hm
      simp only [mgo, Option.some.injEq, Sum.inl.injEq, Prod.mk.injEq] at hm
      obtain ⟨rfl, rfl, rfl, rfl⟩ := hm
      exact lv_astore_n hx hb hd rfl hL hi rfl (fun ls1 h1 => kk ls1 rfl (lset1_len _ _ _) (g_st1 h1))
    · rw [if_neg hi] at hm; cases hm
  · rename_i T
    by_cases hi : (k : Nat) < L.length
    · rw [if_pos hi] at hm
      simp only [mgo, Option.some.injEq, Sum.inl.injEq, Prod.mk.injEq] at hm
      obtain ⟨rfl, rfl, rfl, rfl⟩ := hm
      exact lv_astore_nN hx hb hd rfl hL hi rfl (fun ls1 h1 => kk ls1 rfl (lset1_len _ _ _) (g_st1 h1))
    · rw [if_neg hi] at hm; cases hm
  · cases hm
theorem s_astore {k : Nat} (hx : p.tables.exec = Jvm.exec) (hb : c.code = cc) (hL : g_H g ls L) (hd : decode cc pc = .ok (.astore k, 2)) (hm : mx ret ex (.astore k, 2, a1, b1, q1) pc L S h = some (.inl (pc', L', S', h'))) (kk : ∀ ls1 : Array Slot, h' = h → L'.length = L.length → g_H g ls1 L' → W p l e R s m args below meth c H locs cells slots Q (F0 m pc' ls1 (S'.map (g_V g)))) : W p l e R s m args below meth c H locs cells slots Q (F0 m pc ls (S.map (g_V g))) := by
  replace hm : (match S with
    | .ref x :: T => if k < L.length then mgo (pc + 2) (lset1 L k (.ref x)) T h else none
    | .null :: T => if k < L.length then mgo (pc + 2) (lset1 L k .null) T h else none
    | _ => none) = some (.inl (pc', L', S', h')) := hm
  split at hm
  · rename_i x T
    by_cases hi : k < L.length
    · rw [if_pos hi] at hm
      simp only [mgo, Option.some.injEq, Sum.inl.injEq, Prod.mk.injEq] at hm
      obtain ⟨rfl, rfl, rfl, rfl⟩ := hm
      exact lv_astore hx hb hd hL hi rfl (fun ls1 h1 => kk ls1 rfl (lset1_len _ _ _) (g_st1 h1))
    · rw [if_neg hi] at hm; cases hm
  · rename_i T
    by_cases hi : k < L.length
    · rw [if_pos hi] at hm
      simp only [mgo, Option.some.injEq, Sum.inl.injEq, Prod.mk.injEq] at hm
      obtain ⟨rfl, rfl, rfl, rfl⟩ := hm
      exact lv_astoreN hx hb hd hL hi rfl (fun ls1 h1 => kk ls1 rfl (lset1_len _ _ _) (g_st1 h1))
    · rw [if_neg hi] at hm; cases hm
  · cases hm
theorem s_iinc {i : Nat} {n : Int} (hx : p.tables.exec = Jvm.exec) (hb : c.code = cc) (hL : g_H g ls L) (hd : decode cc pc = .ok (.iinc i n, 3)) (hm : mx ret ex (.iinc i n, 3, a1, b1, q1) pc L S h = some (.inl (pc', L', S', h'))) (kk : ∀ ls1 : Array Slot, h' = h → L'.length = L.length → g_H g ls1 L' → W p l e R s m args below meth c H locs cells slots Q (F0 m pc' ls1 (S'.map (g_V g)))) : W p l e R s m args below meth c H locs cells slots Q (F0 m pc ls (S.map (g_V g))) := by
  replace hm : (match lget L i with
    | some (.int x) => if i < L.length then mgo (pc + 3) (lset1 L i (.int (x + Int32.ofInt n))) S h else none
    | _ => none) = some (.inl (pc', L', S', h')) := hm
  split at hm
  · rename_i x hl
    by_cases hi : i < L.length
    · rw [if_pos hi] at hm
      simp only [mgo, Option.some.injEq, Sum.inl.injEq, Prod.mk.injEq] at hm
      obtain ⟨rfl, rfl, rfl, rfl⟩ := hm
      obtain ⟨k, hk⟩ := List.getElem?_of_mem (g_L_mem (g := g) (q := (i, .int x)).mpr ⟨.int x, g_lget hl, rfl⟩)
      exact lv_iinc hx hb hd hL hk rfl hi rfl (fun ls1 h1 => kk ls1 rfl (lset1_len _ _ _) (g_st1 h1))
    · rw [if_neg hi] at hm; cases hm
  · cases hm
theorem s_jmp {pc : Nat} {off : Int} (h : 0 ≤ (pc : Int) + off) : (pc : Int) + off = (mjmp pc off : Int) := (Int.toNat_of_nonneg h).symm
theorem s_goto {off : Int} (hx : p.tables.exec = Jvm.exec) (hb : c.code = cc) (hj : 0 ≤ (pc : Int) + off) (hd : decode cc pc = .ok (.goto off, 3)) (hm : mx ret ex (.goto off, 3, a1, b1, q1) pc L S h = some (.inl (pc', L', S', h'))) (kk : h' = h → L' = L → W p l e R s m args below meth c H locs cells slots Q (F0 m pc' ls (S'.map (g_V g)))) : W p l e R s m args below meth c H locs cells slots Q (F0 m pc ls (S.map (g_V g))) := by
  replace hm : mgo (mjmp pc off) L S h = some (.inl (pc', L', S', h')) := hm
  simp only [mgo, Option.some.injEq, Sum.inl.injEq, Prod.mk.injEq] at hm
  obtain ⟨rfl, rfl, rfl, rfl⟩ := hm
  exact lv_goto hx hb hd (s_jmp hj) (kk rfl rfl)
theorem s_ifCond {cn : ClassFile.Cond} {off : Int} (hx : p.tables.exec = Jvm.exec) (hb : c.code = cc) (hj : 0 ≤ (pc : Int) + off) (hd : decode cc pc = .ok (.ifCond cn off, 3)) (hm : mx ret ex (.ifCond cn off, 3, a1, b1, q1) pc L S h = some (.inl (pc', L', S', h'))) (kk : h' = h → L' = L → W p l e R s m args below meth c H locs cells slots Q (F0 m pc' ls (S'.map (g_V g)))) : W p l e R s m args below meth c H locs cells slots Q (F0 m pc ls (S.map (g_V g))) := by
  replace hm : (match S with
    | .int x :: T => mgo (if mcmp cn x 0 then mjmp pc off else pc + 3) L T h
    | _ => none) = some (.inl (pc', L', S', h')) := hm
  split at hm
  · rename_i x T
    simp only [mgo, Option.some.injEq, Sum.inl.injEq, Prod.mk.injEq] at hm
    obtain ⟨rfl, rfl, rfl, rfl⟩ := hm
    cases cn with
    | eq =>
      refine lv_if_eq hx hb hd (s_jmp hj) (fun z => ?_) (fun z => ?_)
      · have e : mcmp .eq x 0 = true := decide_eq_true z
        rw [e] at kk; exact kk rfl rfl
      · have e : mcmp .eq x 0 = false := decide_eq_false z
        rw [e] at kk; exact kk rfl rfl
    | ne =>
      refine lv_if_ne hx hb hd (s_jmp hj) (fun z => ?_) (fun z => ?_)
      · have e : mcmp .ne x 0 = true := by simp [mcmp, z]
        rw [e] at kk; exact kk rfl rfl
      · have e : mcmp .ne x 0 = false := by simp [mcmp, z]
        rw [e] at kk; exact kk rfl rfl
    | lt =>
      refine lv_if_lt hx hb hd (s_jmp hj) (fun z => ?_) (fun z => ?_)
      · have e : mcmp .lt x 0 = true := decide_eq_true z
        rw [e] at kk; exact kk rfl rfl
      · have e : mcmp .lt x 0 = false := decide_eq_false z
        rw [e] at kk; exact kk rfl rfl
    | ge =>
      refine lv_if_ge hx hb hd (s_jmp hj) (fun z => ?_) (fun z => ?_)
      · have e : mcmp .ge x 0 = true := decide_eq_true z
        rw [e] at kk; exact kk rfl rfl
      · have e : mcmp .ge x 0 = false := decide_eq_false z
        rw [e] at kk; exact kk rfl rfl
    | gt =>
      refine lv_if_gt hx hb hd (s_jmp hj) (fun z => ?_) (fun z => ?_)
      · have e : mcmp .gt x 0 = true := decide_eq_true z
        rw [e] at kk; exact kk rfl rfl
      · have e : mcmp .gt x 0 = false := decide_eq_false z
        rw [e] at kk; exact kk rfl rfl
    | le =>
      refine lv_if_le hx hb hd (s_jmp hj) (fun z => ?_) (fun z => ?_)
      · have e : mcmp .le x 0 = true := decide_eq_true z
        rw [e] at kk; exact kk rfl rfl
      · have e : mcmp .le x 0 = false := decide_eq_false z
        rw [e] at kk; exact kk rfl rfl
  · cases hm
theorem s_if_icmp {cn : ClassFile.Cond} {off : Int} (hx : p.tables.exec = Jvm.exec) (hb : c.code = cc) (hj : 0 ≤ (pc : Int) + off) (hd : decode cc pc = .ok (.if_icmp cn off, 3)) (hm : mx ret ex (.if_icmp cn off, 3, a1, b1, q1) pc L S h = some (.inl (pc', L', S', h'))) (kk : h' = h → L' = L → W p l e R s m args below meth c H locs cells slots Q (F0 m pc' ls (S'.map (g_V g)))) : W p l e R s m args below meth c H locs cells slots Q (F0 m pc ls (S.map (g_V g))) := by
  replace hm : (match S with
    | .int y :: .int x :: T => mgo (if mcmp cn x y then mjmp pc off else pc + 3) L T h
    | _ => none) = some (.inl (pc', L', S', h')) := hm
  split at hm
  · rename_i y x T
    simp only [mgo, Option.some.injEq, Sum.inl.injEq, Prod.mk.injEq] at hm
    obtain ⟨rfl, rfl, rfl, rfl⟩ := hm
    cases cn with
    | eq =>
      refine lv_icmp_eq hx hb hd (s_jmp hj) (fun z => ?_) (fun z => ?_)
      · have e : mcmp .eq x y = true := decide_eq_true z
        rw [e] at kk; exact kk rfl rfl
      · have e : mcmp .eq x y = false := decide_eq_false z
        rw [e] at kk; exact kk rfl rfl
    | ne =>
      refine lv_icmp_ne hx hb hd (s_jmp hj) (fun z => ?_) (fun z => ?_)
      · have e : mcmp .ne x y = true := by simp [mcmp, z]
        rw [e] at kk; exact kk rfl rfl
      · have e : mcmp .ne x y = false := by simp [mcmp, z]
        rw [e] at kk; exact kk rfl rfl
    | lt =>
      refine lv_icmp_lt hx hb hd (s_jmp hj) (fun z => ?_) (fun z => ?_)
      · have e : mcmp .lt x y = true := decide_eq_true z
        rw [e] at kk; exact kk rfl rfl
      · have e : mcmp .lt x y = false := decide_eq_false z
        rw [e] at kk; exact kk rfl rfl
    | ge =>
      refine lv_icmp_ge hx hb hd (s_jmp hj) (fun z => ?_) (fun z => ?_)
      · have e : mcmp .ge x y = true := decide_eq_true z
        rw [e] at kk; exact kk rfl rfl
      · have e : mcmp .ge x y = false := decide_eq_false z
        rw [e] at kk; exact kk rfl rfl
    | gt =>
      refine lv_icmp_gt hx hb hd (s_jmp hj) (fun z => ?_) (fun z => ?_)
      · have e : mcmp .gt x y = true := decide_eq_true z
        rw [e] at kk; exact kk rfl rfl
      · have e : mcmp .gt x y = false := decide_eq_false z
        rw [e] at kk; exact kk rfl rfl
    | le =>
      refine lv_icmp_le hx hb hd (s_jmp hj) (fun z => ?_) (fun z => ?_)
      · have e : mcmp .le x y = true := decide_eq_true z
        rw [e] at kk; exact kk rfl rfl
      · have e : mcmp .le x y = false := decide_eq_false z
        rw [e] at kk; exact kk rfl rfl
  · cases hm
end GST
end
section
/-! ONE INSTRUCTION, on: references, switches, cells -/
theorem x_vt (v : Int32) (h : v = 0 ∨ v = 1) : narrow .boolean (.int v) = .int v := by
  rcases h with rfl | rfl <;> decide
theorem x_nar (v : Int32) (h : v = 0 ∨ v = 1) : vp_nar .boolean v = v := by
  rcases h with rfl | rfl <;> decide
theorem x_fit {ty : FieldType} {v : Value} {g : Nat → Nat} (h : mfit ty v = true) : narrow ty (g_V g v) = g_V g v ∧ fits ty (g_V g v) = true := by
  unfold mfit at h
  split at h
  · exact ⟨rfl, rfl⟩
  · exact ⟨rfl, rfl⟩
  · rename_i x
    simp only [Bool.or_eq_true, decide_eq_true_eq] at h
    exact ⟨x_vt x h, by rcases h with rfl | rfl <;> rfl⟩
  · exact ⟨rfl, rfl⟩
  · exact ⟨rfl, rfl⟩
  · exact ⟨rfl, rfl⟩
  · exact ⟨rfl, rfl⟩
  · cases h
theorem s_ad_inj (b : Nat) {x y : Nat} (h1 : 4 ≤ x) (h2 : 4 ≤ y) (h : b + (x - 4) = b + (y - 4)) : x = y := by omega
section GS2
variable {p : Program} {l : Launch} {e : Env} {R : Room} {s : State} {m : MethodId} {args : Array Value} {below : List Frame} {meth : Method} {c : Code} {H : Heap} {locs : List Loc} {cells slots : Nat} {Q : State → Prop}
variable {cc : ByteArray} {pc : Nat} {ls : Array Slot} {ret : Option FieldType} {ex : List mE} {a1 b1 q1 : Nat} {L : mL} {S : List Value} {h : List mE} {pc' : Nat} {L' : mL} {S' : List Value} {h' : List mE} {xs : Nat → Nat} {b : Nat} {aC : Nat → ClassId} {D : va_G}
theorem s_ifnull {off : Int} {g : Nat → Nat} (hx : p.tables.exec = Jvm.exec) (hb : c.code = cc) (hj : 0 ≤ (pc : Int) + off) (hd : decode cc pc = .ok (.ifnull off, 3)) (hm : mx ret ex (.ifnull off, 3, a1, b1, q1) pc L S h = some (.inl (pc', L', S', h'))) (kk : h' = h → L' = L → W p l e R s m args below meth c H locs cells slots Q (F0 m pc' ls (S'.map (g_V g)))) : W p l e R s m args below meth c H locs cells slots Q (F0 m pc ls (S.map (g_V g))) := by
  replace hm : (match S with
    | .ref _ :: T => mgo (pc + 3) L T h
    | .null :: T => mgo (mjmp pc off) L T h
    | _ => none) = some (.inl (pc', L', S', h')) := hm
  split at hm
  · simp only [mgo, Option.some.injEq, Sum.inl.injEq, Prod.mk.injEq] at hm
    obtain ⟨rfl, rfl, rfl, rfl⟩ := hm
    exact lv_ifnull hx hb hd (kk rfl rfl)
  · simp only [mgo, Option.some.injEq, Sum.inl.injEq, Prod.mk.injEq] at hm
    obtain ⟨rfl, rfl, rfl, rfl⟩ := hm
    exact lv_ifnullN hx hb hd (s_jmp hj) (kk rfl rfl)
  · cases hm
theorem s_ifnonnull {off : Int} {g : Nat → Nat} (hx : p.tables.exec = Jvm.exec) (hb : c.code = cc) (hj : 0 ≤ (pc : Int) + off) (hd : decode cc pc = .ok (.ifnonnull off, 3)) (hm : mx ret ex (.ifnonnull off, 3, a1, b1, q1) pc L S h = some (.inl (pc', L', S', h'))) (kk : h' = h → L' = L → W p l e R s m args below meth c H locs cells slots Q (F0 m pc' ls (S'.map (g_V g)))) : W p l e R s m args below meth c H locs cells slots Q (F0 m pc ls (S.map (g_V g))) := by
  replace hm : (match S with
    | .ref _ :: T => mgo (mjmp pc off) L T h
    | .null :: T => mgo (pc + 3) L T h
    | _ => none) = some (.inl (pc', L', S', h')) := hm
  split at hm
  · simp only [mgo, Option.some.injEq, Sum.inl.injEq, Prod.mk.injEq] at hm
    obtain ⟨rfl, rfl, rfl, rfl⟩ := hm
    exact lv_ifnonnull hx hb hd (s_jmp hj) (kk rfl rfl)
  · simp only [mgo, Option.some.injEq, Sum.inl.injEq, Prod.mk.injEq] at hm
    obtain ⟨rfl, rfl, rfl, rfl⟩ := hm
    exact lv_ifnonnullN hx hb hd (kk rfl rfl)
  · cases hm
theorem s_if_acmp {cn : ACond} {off : Int} (hx : p.tables.exec = Jvm.exec) (hb : c.code = cc) (hj : 0 ≤ (pc : Int) + off) (hd : decode cc pc = .ok (.if_acmp cn off, 3)) (hm : mx ret ex (.if_acmp cn off, 3, a1, b1, q1) pc L S h = some (.inl (pc', L', S', h'))) (kk : h' = h → L' = L → W p l e R s m args below meth c H locs cells slots Q (F0 m pc' ls (S'.map (g_V (g_ad xs b))))) : W p l e R s m args below meth c H locs cells slots Q (F0 m pc ls (S.map (g_V (g_ad xs b)))) := by
  replace hm : (match S with
      | .ref y :: .ref x :: T => if 4 ≤ x ∧ 4 ≤ y then mgo (macm cn (decide (x = y)) (mjmp pc off) (pc + 3)) L T h else none
      | .null :: .ref _ :: T => mgo (macm cn false (mjmp pc off) (pc + 3)) L T h
      | .ref _ :: .null :: T => mgo (macm cn false (mjmp pc off) (pc + 3)) L T h
      | .null :: .null :: T => mgo (macm cn true (mjmp pc off) (pc + 3)) L T h
      | _ => none) = some (.inl (pc', L', S', h')) := hm
  split at hm
  · rename_i y x T
    by_cases h4 : 4 ≤ x ∧ 4 ≤ y
    · rw [if_pos h4] at hm
      simp only [mgo, Option.some.injEq, Sum.inl.injEq, Prod.mk.injEq] at hm
      obtain ⟨rfl, rfl, rfl, rfl⟩ := hm
      have hxy : (some (g_ad xs b x) = some (g_ad xs b y)) ↔ x = y := by
        rw [g_ad4 h4.1, g_ad4 h4.2]
        constructor
        · intro z
          exact s_ad_inj b h4.1 h4.2 (Option.some.inj z)
        · intro z
          rw [z]
      have kk := kk rfl rfl
      cases cn with
      | eq =>
        refine lv_acmp_eq (rx := some (g_ad xs b x)) (ry := some (g_ad xs b y)) hx hb hd (s_jmp hj) (fun z => ?_) (fun z => ?_)
        · rw [decide_eq_true (hxy.mp z)] at kk
          exact kk
        · rw [decide_eq_false (fun w => z (hxy.mpr w))] at kk
          exact kk
      | ne =>
        refine lv_acmp_ne (rx := some (g_ad xs b x)) (ry := some (g_ad xs b y)) hx hb hd (s_jmp hj) (fun z => ?_) (fun z => ?_)
        · rw [decide_eq_false (fun w => z (hxy.mpr w))] at kk
          exact kk
        · rw [decide_eq_true (hxy.mp z)] at kk
          exact kk
    · rw [if_neg h4] at hm; cases hm
  · rename_i x T
    simp only [mgo, Option.some.injEq, Sum.inl.injEq, Prod.mk.injEq] at hm
    obtain ⟨rfl, rfl, rfl, rfl⟩ := hm
    have kk := kk rfl rfl
    cases cn with
    | eq => exact lv_acmp_eq (rx := some (g_ad xs b x)) (ry := none) hx hb hd (s_jmp hj) (fun z => by cases z) (fun z => kk)
    | ne => exact lv_acmp_ne (rx := some (g_ad xs b x)) (ry := none) hx hb hd (s_jmp hj) (fun z => kk) (fun z => by cases z)
  · rename_i y T
    simp only [mgo, Option.some.injEq, Sum.inl.injEq, Prod.mk.injEq] at hm
    obtain ⟨rfl, rfl, rfl, rfl⟩ := hm
    have kk := kk rfl rfl
    cases cn with
    | eq => exact lv_acmp_eq (rx := none) (ry := some (g_ad xs b y)) hx hb hd (s_jmp hj) (fun z => by cases z) (fun z => kk)
    | ne => exact lv_acmp_ne (rx := none) (ry := some (g_ad xs b y)) hx hb hd (s_jmp hj) (fun z => kk) (fun z => by cases z)
  · rename_i T
    simp only [mgo, Option.some.injEq, Sum.inl.injEq, Prod.mk.injEq] at hm
    obtain ⟨rfl, rfl, rfl, rfl⟩ := hm
    have kk := kk rfl rfl
    cases cn with
    | eq => exact lv_acmp_eq (rx := none) (ry := none) hx hb hd (s_jmp hj) (fun z => kk) (fun z => absurd rfl z)
    | ne => exact lv_acmp_ne (rx := none) (ry := none) hx hb hd (s_jmp hj) (fun z => absurd rfl z) (fun z => kk)
  · cases hm
theorem s_tableswitch {d lo hi : Int} {os : Array Int} {n : Nat} {g : Nat → Nat} (hx : p.tables.exec = Jvm.exec) (hb : c.code = cc) (hj : mjok pc (.tableswitch d lo hi os) = true) (hd : decode cc pc = .ok (.tableswitch d lo hi os, n)) (hm : mx ret ex (.tableswitch d lo hi os, n, a1, b1, q1) pc L S h = some (.inl (pc', L', S', h'))) (kk : h' = h → L' = L → W p l e R s m args below meth c H locs cells slots Q (F0 m pc' ls (S'.map (g_V g)))) : W p l e R s m args below meth c H locs cells slots Q (F0 m pc ls (S.map (g_V g))) := by
  replace hm : (match S with
      | .int x :: T => if x.toInt < lo ∨ hi < x.toInt then mgo (mjmp pc d) L T h else (match os[(x.toInt - lo).toNat]? with
          | some o => mgo (mjmp pc o) L T h
          | none => none)
      | _ => none) = some (.inl (pc', L', S', h')) := hm
  simp only [mjok, Bool.and_eq_true, decide_eq_true_eq] at hj
  split at hm
  · rename_i x T
    by_cases hr : x.toInt < lo ∨ hi < x.toInt
    · rw [if_pos hr] at hm
      simp only [mgo, Option.some.injEq, Sum.inl.injEq, Prod.mk.injEq] at hm
      obtain ⟨rfl, rfl, rfl, rfl⟩ := hm
      exact lv_tableOut hx hb hd hr (s_jmp hj.1) (kk rfl rfl)
    · rw [if_neg hr] at hm
      split at hm
      · rename_i o ho
        simp only [mgo, Option.some.injEq, Sum.inl.injEq, Prod.mk.injEq] at hm
        obtain ⟨rfl, rfl, rfl, rfl⟩ := hm
        have h1 := List.all_eq_true.mp hj.2 o (by rw [← Array.getElem?_toList] at ho; exact List.mem_of_getElem? ho)
        exact lv_tableIn hx hb hd (fun z => hr (Or.inl z)) (fun z => hr (Or.inr z)) ho (s_jmp (of_decide_eq_true h1)) (kk rfl rfl)
      · cases hm
  · cases hm
theorem s_lsw {d x : Int} {pc : Nat} : ∀ (ps : List (Int × Int)), 0 ≤ (pc : Int) + d → ps.all (fun o => decide (0 ≤ (pc : Int) + o.2)) = true → 0 ≤ (pc : Int) + Op.lookupswitch.offset ps d x
  | [], h0, _ => h0
  | (a, o) :: ps, h0, h => by
    simp only [List.all_cons, Bool.and_eq_true, decide_eq_true_eq] at h
    rw [Op.lookupswitch.offset_cons]
    split
    · exact h.1
    · exact s_lsw ps h0 h.2
theorem s_lookupswitch {d : Int} {ps : Array (Int × Int)} {n : Nat} {g : Nat → Nat} (hx : p.tables.exec = Jvm.exec) (hb : c.code = cc) (hj : mjok pc (.lookupswitch d ps) = true) (hd : decode cc pc = .ok (.lookupswitch d ps, n)) (hm : mx ret ex (.lookupswitch d ps, n, a1, b1, q1) pc L S h = some (.inl (pc', L', S', h'))) (kk : h' = h → L' = L → W p l e R s m args below meth c H locs cells slots Q (F0 m pc' ls (S'.map (g_V g)))) : W p l e R s m args below meth c H locs cells slots Q (F0 m pc ls (S.map (g_V g))) := by
  replace hm : (match S with
      | .int x :: T => mgo (mjmp pc (Op.lookupswitch.offset ps.toList d x.toInt)) L T h
      | _ => none) = some (.inl (pc', L', S', h')) := hm
  simp only [mjok, Bool.and_eq_true, decide_eq_true_eq] at hj
  split at hm
  · rename_i x T
    simp only [mgo, Option.some.injEq, Sum.inl.injEq, Prod.mk.injEq] at hm
    obtain ⟨rfl, rfl, rfl, rfl⟩ := hm
    exact lv_lookup hx hb hd hj.2 rfl (s_jmp (s_lsw _ hj.1.1 hj.1.2)) (kk rfl rfl)
  · cases hm
/-! reads -/
theorem s_getstatic {i : Nat} {own C n d : String} (hx : p.tables.exec = Jvm.exec) (hb : c.code = cc) (hown : s.vm.findClass own = some m.cls) (hS : va_S (g_A b) s.heap H locs) (hE : g_S xs (g_A b) s s.heap) (hst : mStc[a1]? = some (C, n, d)) (hl : (Jvm.Cond.fieldLink own i C n d).before args s = true) (hd : decode cc pc = .ok (.getstatic i, 3)) (hm : mx ret ex (.getstatic i, 3, a1, b1, q1) pc L S h = some (.inl (pc', L', S', h'))) (kk : h' = h → L' = L → W p l e R s m args below meth c H locs cells slots Q (F0 m pc' ls (S'.map (g_V (g_ad xs b))))) : W p l e R s m args below meth c H locs cells slots Q (F0 m pc ls (S.map (g_V (g_ad xs b)))) := by
  replace hm : mgo (pc + 3) L (.ref (a1 + 1) :: S) h = some (.inl (pc', L', S', h')) := hm
  simp only [mgo, Option.some.injEq, Sum.inl.injEq, Prod.mk.injEq] at hm
  obtain ⟨rfl, rfl, rfl, rfl⟩ := hm
  have hlt : a1 + 1 < 4 := by
    have := (List.getElem?_eq_some_iff.mp hst).1
    have e : mStc.length = 2 := rfl
    omega
  have kk := kk rfl rfl
  have e : g_V (g_ad xs b) (.ref (a1 + 1)) = .ref (xs (a1 + 1)) := by
    show Value.ref (g_ad xs b (a1 + 1)) = _
    unfold g_ad
    rw [if_pos hlt]
  rw [List.map_cons, e] at kk
  exact va_gets hx hb (hE a1 C n d hst) hS hown hl (fun _ z => z) hd kk
theorem s_vp {i : Int32} {n : Nat} (h : mib i n = true) : vp_in i n := by
  unfold mib at h
  simp only [Bool.not_eq_true', Bool.or_eq_false_iff, decide_eq_false_iff_not] at h
  exact fun z => z.elim h.1 h.2
theorem s_mget {h : List mE} {q : Nat} {e0 : mE} (hq : mget ex h q = some e0) : (q < 4 ∧ ex[q]? = some e0) ∨ mown h q = some e0 := by
  unfold mget at hq
  by_cases h4 : q < 4
  · rw [if_pos h4] at hq
    exact Or.inl ⟨h4, hq⟩
  · rw [if_neg h4] at hq
    refine Or.inr ?_
    unfold mown
    rw [if_neg h4]
    exact hq
theorem s_adx {q : Nat} (h : q < 4) : g_ad xs b q = xs q := if_pos h
theorem s_iaload (hx : p.tables.exec = Jvm.exec) (hb : c.code = cc) (hS : va_S (g_A b) s.heap H locs) (hE : g_Env xs b aC D ex s s.heap) (hW : g_W xs b aC D h H) (hd : decode cc pc = .ok (.iaload, 1)) (hm : mx ret ex (.iaload, 1, a1, b1, q1) pc L S h = some (.inl (pc', L', S', h'))) (kk : h' = h → L' = L → W p l e R s m args below meth c H locs cells slots Q (F0 m pc' ls (S'.map (g_V (g_ad xs b))))) : W p l e R s m args below meth c H locs cells slots Q (F0 m pc ls (S.map (g_V (g_ad xs b)))) := by
  replace hm : (match S with
      | .int i :: .ref q :: T => (match mget ex h q with
          | some (.inl (0, (n, .inl f))) => if mib i n then mgo (pc + 1) L (.int (f i.toNatClampNeg) :: T) h else none
          | _ => none)
      | _ => none) = some (.inl (pc', L', S', h')) := hm
  split at hm
  · rename_i i q T
    split at hm
    · rename_i n f hq
      by_cases hi : mib i n = true
      · rw [if_pos hi] at hm
        simp only [mgo, Option.some.injEq, Sum.inl.injEq, Prod.mk.injEq] at hm
        obtain ⟨rfl, rfl, rfl, rfl⟩ := hm
        rcases s_mget hq with ⟨h4, hq⟩ | hq
        · have h1 := hE.2.2.2.2.1.1 q n f hq
          have e : g_V (g_ad xs b) (.ref q) = .ref (xs q) := congrArg Value.ref (s_adx h4)
          rw [List.map_cons, List.map_cons, e]
          exact va_ti hx hb h1 hS (s_vp hi) rfl hd (kk rfl rfl)
        · exact va_iald hx hb hE.2.2.2.1 (x_one (g_at hW hq)) 0 0 rfl (g_ty_at (t := 0) rfl) (s_vp hi) hd (kk rfl rfl)
      · rw [if_neg hi] at hm; cases hm
    · cases hm
  · cases hm
theorem s_laload (hx : p.tables.exec = Jvm.exec) (hb : c.code = cc) (hS : va_S (g_A b) s.heap H locs) (hE : g_Env xs b aC D ex s s.heap) (hW : g_W xs b aC D h H) (hd : decode cc pc = .ok (.laload, 1)) (hm : mx ret ex (.laload, 1, a1, b1, q1) pc L S h = some (.inl (pc', L', S', h'))) (kk : h' = h → L' = L → W p l e R s m args below meth c H locs cells slots Q (F0 m pc' ls (S'.map (g_V (g_ad xs b))))) : W p l e R s m args below meth c H locs cells slots Q (F0 m pc ls (S.map (g_V (g_ad xs b)))) := by
  replace hm : (match S with
      | .int i :: .ref q :: T => (match mget ex h q with
          | some (.inl (2, (n, .inr (.inl f)))) => if mib i n then mgo (pc + 1) L (.long (f i.toNatClampNeg) :: T) h else none
          | _ => none)
      | _ => none) = some (.inl (pc', L', S', h')) := hm
  split at hm
  · rename_i i q T
    split at hm
    · rename_i n f hq
      by_cases hi : mib i n = true
      · rw [if_pos hi] at hm
        simp only [mgo, Option.some.injEq, Sum.inl.injEq, Prod.mk.injEq] at hm
        obtain ⟨rfl, rfl, rfl, rfl⟩ := hm
        rcases s_mget hq with ⟨h4, hq⟩ | hq
        · have h1 := hE.2.2.2.2.1.2.1 q n f hq
          have e : g_V (g_ad xs b) (.ref q) = .ref (xs q) := congrArg Value.ref (s_adx h4)
          rw [List.map_cons, List.map_cons, e]
          exact va_tl hx hb h1 hS (s_vp hi) rfl hd (kk rfl rfl)
        · exact va_lald hx hb hE.2.2.2.1 (x_one (g_at hW hq)) 0 2 rfl (g_ty_at (t := 2) rfl) (s_vp hi) hd (kk rfl rfl)
      · rw [if_neg hi] at hm; cases hm
    · cases hm
  · cases hm
theorem s_baload (hx : p.tables.exec = Jvm.exec) (hb : c.code = cc) (hE : g_Env xs b aC D ex s s.heap) (hW : g_W xs b aC D h H) (hd : decode cc pc = .ok (.baload, 1)) (hm : mx ret ex (.baload, 1, a1, b1, q1) pc L S h = some (.inl (pc', L', S', h'))) (kk : h' = h → L' = L → W p l e R s m args below meth c H locs cells slots Q (F0 m pc' ls (S'.map (g_V (g_ad xs b))))) : W p l e R s m args below meth c H locs cells slots Q (F0 m pc ls (S.map (g_V (g_ad xs b)))) := by
  replace hm : (match S with
      | .int i :: .ref q :: T => (match mown h q with
          | some (.inl (1, (n, .inl f))) => if mib i n then mgo (pc + 1) L (.int (f i.toNatClampNeg) :: T) h else none
          | some (.inl (8, (n, .inl f))) => if mib i n then mgo (pc + 1) L (.int (f i.toNatClampNeg) :: T) h else none
          | _ => none)
      | _ => none) = some (.inl (pc', L', S', h')) := hm
  split at hm
  · rename_i i q T
    split at hm
    · rename_i n f hq
      by_cases hi : mib i n = true
      · rw [if_pos hi] at hm
        simp only [mgo, Option.some.injEq, Sum.inl.injEq, Prod.mk.injEq] at hm
        obtain ⟨rfl, rfl, rfl, rfl⟩ := hm
        exact va_zald hx hb hE.2.2.2.1 (x_one (g_at hW hq)) 0 1 rfl (g_ty_at (t := 1) rfl) (s_vp hi) hd (kk rfl rfl)
      · rw [if_neg hi] at hm; cases hm
    · rename_i n f hq
      by_cases hi : mib i n = true
      · rw [if_pos hi] at hm
        simp only [mgo, Option.some.injEq, Sum.inl.injEq, Prod.mk.injEq] at hm
        obtain ⟨rfl, rfl, rfl, rfl⟩ := hm
        exact va_bald hx hb hE.2.2.2.1 (x_one (g_at hW hq)) 0 8 rfl (g_ty_at (t := 8) rfl) (s_vp hi) hd (kk rfl rfl)
      · rw [if_neg hi] at hm; cases hm
    · cases hm
  · cases hm
theorem s_rf {g : Nat → Nat} (r : Option Nat) : va_rf (r.map g) = g_V g (va_rf r) := by cases r <;> rfl
theorem s_aty {t : Nat} (h : 3 ≤ t ∧ t < 8) : ∃ ty, mAT[t]? = some ty ∧ ty.isReference = true := by
  obtain ⟨h1, h2⟩ := h
  rcases (by omega : t = 3 ∨ t = 4 ∨ t = 5 ∨ t = 6 ∨ t = 7) with rfl | rfl | rfl | rfl | rfl <;> exact ⟨_, rfl, rfl⟩
theorem s_aaload (hx : p.tables.exec = Jvm.exec) (hb : c.code = cc) (hE : g_Env xs b aC D ex s s.heap) (hW : g_W xs b aC D h H) (hd : decode cc pc = .ok (.aaload, 1)) (hm : mx ret ex (.aaload, 1, a1, b1, q1) pc L S h = some (.inl (pc', L', S', h'))) (kk : h' = h → L' = L → W p l e R s m args below meth c H locs cells slots Q (F0 m pc' ls (S'.map (g_V (g_ad xs b))))) : W p l e R s m args below meth c H locs cells slots Q (F0 m pc ls (S.map (g_V (g_ad xs b)))) := by
  replace hm : (match S with
      | .int i :: .ref q :: T => (match mown h q with
          | some (.inl (t, (n, .inr (.inr (.inr (.inr f)))))) => if mib i n && decide (3 ≤ t ∧ t < 8) then mgo (pc + 1) L (va_rf (f i.toNatClampNeg) :: T) h else none
          | _ => none)
      | _ => none) = some (.inl (pc', L', S', h')) := hm
  split at hm
  · rename_i i q T
    split at hm
    · rename_i t n f hq
      by_cases hi : (mib i n && decide (3 ≤ t ∧ t < 8)) = true
      · rw [if_pos hi] at hm
        simp only [mgo, Option.some.injEq, Sum.inl.injEq, Prod.mk.injEq] at hm
        obtain ⟨rfl, rfl, rfl, rfl⟩ := hm
        simp only [Bool.and_eq_true, decide_eq_true_eq] at hi
        obtain ⟨ty, h1, h2⟩ := s_aty hi.2
        refine x_aald (f := fun j => (f j).map (g_ad xs b)) hx hb hE.2.2.2.1 t (g_at hW hq) (g_ty_at h1) h2 (s_vp hi.1) hd ?_
        rw [s_rf]
        exact kk rfl rfl
      · rw [if_neg hi] at hm; cases hm
    · cases hm
  · cases hm
theorem s_arraylength (hx : p.tables.exec = Jvm.exec) (hb : c.code = cc) (hS : va_S (g_A b) s.heap H locs) (hE : g_Env xs b aC D ex s s.heap) (hW : g_W xs b aC D h H) (hd : decode cc pc = .ok (.arraylength, 1)) (hm : mx ret ex (.arraylength, 1, a1, b1, q1) pc L S h = some (.inl (pc', L', S', h'))) (kk : h' = h → L' = L → W p l e R s m args below meth c H locs cells slots Q (F0 m pc' ls (S'.map (g_V (g_ad xs b))))) : W p l e R s m args below meth c H locs cells slots Q (F0 m pc ls (S.map (g_V (g_ad xs b)))) := by
  replace hm : (match S with
      | .ref q :: T => (match mget ex h q with
          | some (.inl (t, (n, _))) => if t < 9 then mgo (pc + 1) L (.int (Int32.ofNat n) :: T) h else none
          | _ => none)
      | _ => none) = some (.inl (pc', L', S', h')) := hm
  split at hm
  · rename_i q T
    split at hm
    · rename_i t n v hq
      by_cases ht : t < 9
      · rw [if_pos ht] at hm
        simp only [mgo, Option.some.injEq, Sum.inl.injEq, Prod.mk.injEq] at hm
        obtain ⟨rfl, rfl, rfl, rfl⟩ := hm
        rcases s_mget hq with ⟨h4, hq⟩ | hq
        · have e : g_V (g_ad xs b) (.ref q) = .ref (xs q) := congrArg Value.ref (s_adx h4)
          rw [List.map_cons, e]
          rcases hE.2.2.2.2.1.2.2 q _ hq with ⟨n', f, e'⟩ | ⟨n', f, e'⟩
          · cases e'
            exact va_tlen hx hb (hE.2.2.2.2.1.1 q n f hq) hS rfl hd (kk rfl rfl)
          · cases e'
            exact va_tlen hx hb (hE.2.2.2.2.1.2.1 q n f hq) hS rfl hd (kk rfl rfl)
        · have h1 := g_at hW hq
          obtain ⟨ty, hty⟩ : ∃ ty, mAT[t]? = some ty := ⟨_, List.getElem?_eq_getElem (show t < mAT.length from ht)⟩
          rcases v with f | f | f | f | f
          · exact va_alen hx hb hE.2.2.2.1 (x_one h1) 0 t rfl (g_ty_at hty) rfl hd (kk rfl rfl)
          · exact va_alen hx hb hE.2.2.2.1 (x_one h1) 0 t rfl (g_ty_at hty) rfl hd (kk rfl rfl)
          · exact va_alen hx hb hE.2.2.2.1 (x_one h1) 0 t rfl (g_ty_at hty) rfl hd (kk rfl rfl)
          · exact va_alen hx hb hE.2.2.2.1 (x_one h1) 0 t rfl (g_ty_at hty) rfl hd (kk rfl rfl)
          · exact va_alen hx hb hE.2.2.2.1 (x_one h1) 0 t rfl (g_ty_at hty) rfl hd (kk rfl rfl)
      · rw [if_neg ht] at hm; cases hm
    · cases hm
  · cases hm
end GS2
end
section
/-! ONE INSTRUCTION, on: fields, stores, new cells -/
theorem g_nm : ∀ (ci : Nat) (C : String) (T : u_T) (N : Nat), vwCl[ci]? = some (C, T, N) → ∀ a, a < N → ∀ b, b < N → a ≠ b → (T a).2.1 ≠ (T b).2.1
  | 0, _, _, _, h => by cases h; exact nmX0
  | 1, _, _, _, h => by cases h; exact nmX1
  | 2, _, _, _, h => by cases h; exact nmX2
  | 3, _, _, _, h => by cases h; exact nmX3
  | 4, _, _, _, h => by cases h; exact nmX4
  | 5, _, _, _, h => by cases h; exact nmX5
  | 6, _, _, _, h => by cases h; exact nmX6
  | 7, _, _, _, h => by cases h; exact nmX7
  | 8, _, _, _, h => by cases h; exact nmX8
  | 9, _, _, _, h => by cases h; exact nmX9
  | 10, _, _, _, h => by cases h; exact nmX10
  | 11, _, _, _, h => by cases h; exact nmX11
  | 12, _, _, _, h => by cases h; exact nmX12
  | n + 13, _, _, _, h => by cases h
/-- what is known of a class -/
theorem g_cls {ci N : Nat} {C : String} {T : u_T} (h : vwCl[ci]? = some (C, T, N)) : Jvm.Cond.instantiable C N ∈ lw_tbl ∧ Jvm.Cond.initialized C ∈ lw_tbl ∧ (∀ w ∈ u_ws C T N, w ∈ lw_tbl.filter goodWord) ∧ ∃ ty, mTy[ci]? = some ty ∧ ty.length = N ∧ ∀ k, k < N → parseFieldDescriptor (T k).2.2.1 = some (ty.getD k .int) := by
  have hl : ci < 13 := (List.getElem?_eq_some_iff.mp h).1
  obtain ⟨⟨t1, t2, l⟩, hh⟩ : ∃ t, mCh[ci]? = some t := ⟨_, List.getElem?_eq_getElem (show ci < mCh.length from hl)⟩
  obtain ⟨ty, ht⟩ : ∃ t, mTy[ci]? = some t := ⟨_, List.getElem?_eq_getElem (show ci < mTy.length from hl)⟩
  have hz : (vwCl.zip (mCh.zip mTy))[ci]? = some ((C, T, N), (t1, t2, l), ty) := List.getElem?_zip_eq_some.mpr ⟨h, List.getElem?_zip_eq_some.mpr ⟨hh, ht⟩⟩
  have hk := List.all_eq_true.mp ck_F _ (List.mem_of_getElem? hz)
  simp only [Bool.and_eq_true, decide_eq_true_eq] at hk
  obtain ⟨⟨⟨⟨⟨h1, h2⟩, h3⟩, h4⟩, h5⟩, h6⟩ := hk
  refine ⟨mwd_in h1, mwd_in h2, fun w hw => List.mem_filter.mpr ⟨?_, List.all_eq_true.mp h6 w hw⟩, ty, ht, h4, fun k hkN => ?_⟩
  · have hs : some w ∈ (u_ws C T N).map some := List.mem_map.mpr ⟨w, hw, rfl⟩
    rw [← h3] at hs
    obtain ⟨i, -, hi⟩ := List.mem_map.mp hs
    exact mwd_in hi
  · have e : ((List.range N).map (fun k => parseFieldDescriptor (T k).2.2.1))[k]? = (ty.map some)[k]? := by rw [h5]
    rw [List.getElem?_map, List.getElem?_range hkN, List.getElem?_map] at e
    have hkt : k < ty.length := by rw [h4]; exact hkN
    rw [List.getElem?_eq_getElem hkt] at e
    simp only [Option.map_some, Option.some.injEq] at e
    rw [e, List.getD_eq_getElem?_getD, List.getElem?_eq_getElem hkt]
    rfl
/-- a frame of a method of the table -/
def g_C (xs : Nat → Nat) (b : Nat) (aC : Nat → ClassId) (D : va_G) (ex : List mE) (p : Program) (s : State) (m : MethodId) (meth : Method) (c : Code) (M : mMR) : Prop :=
  p.tables.exec = Jvm.exec ∧ c.code = M.2.1 ∧ c.maxLocals = M.2.2.1 ∧ s.vm.findClass M.1.cls = some m.cls ∧ meth.sig.returnType = M.2.2.2.1 ∧ meth.locks = false ∧ (M.1.name = "<init>" → meth.name = M.1.name) ∧ b ≤ s.heap.size ∧ g_Env xs b aC D ex s s.heap ∧ g_M M
theorem g_hts {xs : Nat → Nat} {b : Nat} {aC : Nat → ClassId} {D : va_G} {ex : List mE} {U : State} {H : Heap} (hE : g_Env xs b aC D ex U H) (a : Array Value) : ∀ w ∈ lw_tbl.filter goodWord, w.before a U = true := fun w hw => hE.1 w (List.mem_filter.mp hw).1 (List.mem_filter.mp hw).2 a
theorem mhs_put {h : List mE} {q : Nat} {e0 e : mE} (hq : mown h q = some e0) (hz : msz e = msz e0) : mhs (mput h q e) = mhs h ∧ (mput h q e).length = h.length := by
  refine ⟨?_, by simp [mput]⟩
  have hq2 := (g_own hq).2
  clear hq
  unfold mhs mput
  generalize q - 4 = i at hq2 ⊢
  induction h generalizing i with
  | nil => rfl
  | cons x h ih =>
    cases i with
    | zero =>
      have e1 : x = e0 := by simpa using hq2
      subst e1
      simp [hz]
    | succ i =>
      have := ih i (by simpa using hq2)
      simp only [List.set_cons_succ, List.map_cons, List.sum_cons]
      rw [this]
theorem mhs_app (h t : List mE) : mhs (h ++ t) = mhs h + mhs t := by simp [mhs]
theorem mpk_of {o q i a b : Nat} {ks : List Nat} (h : mpk o q i a b ks = true) : ∃ k q2 v, mPg o q = some (i, k, a, b, q2, v) ∧ k ∈ ks := by
  unfold mpk at h
  split at h
  · rename_i i2 k a2 b2 q2 v hp
    simp only [Bool.and_eq_true, beq_iff_eq] at h
    obtain ⟨⟨⟨rfl, h2⟩, rfl⟩, rfl⟩ := h
    exact ⟨k, q2, v, hp, by simpa using h2⟩
  · cases h
/-- the link of a field's entry: plain, or of a nest mate -/
def g_lf (own : String) (i ci k : Nat) (C : String) (T : u_T) (N : Nat) : Prop := vwCl[ci]? = some (C, T, N) ∧ k < N ∧ (Jvm.Cond.fieldLink own i (T k).1 (T k).2.1 (T k).2.2.1 ∈ lw_tbl ∨ ∃ host, Jvm.Cond.fieldLinkNest own i (T k).1 (T k).2.1 (T k).2.2.1 host ∈ lw_tbl)
theorem mow_own {M : mMR} (hM : g_M M) {own : String} {l : List (List mPE)} (h : mOw[M.2.2.2.2.1]? = some (own, l)) : own = M.1.cls := by
  have h2 := hM.2
  rw [h] at h2
  exact Option.some.inj h2
theorem g_lf0 {M : mMR} (hM : g_M M) {q i a b : Nat} (h : mpk M.2.2.2.2.1 q i a b [0] = true) : ∃ C T N, vwCl[a]? = some (C, T, N) ∧ b < N ∧ Jvm.Cond.fieldLink M.1.cls i (T b).1 (T b).2.1 (T b).2.2.1 ∈ lw_tbl := by
  obtain ⟨k, q2, v, hp, hk⟩ := mpk_of h
  obtain ⟨own, l, ho, hok⟩ := mow_pg hp
  have e := mow_own hM ho
  subst e
  simp only [List.mem_cons, List.not_mem_nil, or_false] at hk
  subst hk
  simp only [okP] at hok
  split at hok
  · rename_i C T N hc
    simp only [Bool.and_eq_true, decide_eq_true_eq] at hok
    exact ⟨C, T, N, hc, hok.1, mwd_in hok.2⟩
  · cases hok
theorem g_lf1 {M : mMR} (hM : g_M M) {q i a b : Nat} (h : mpk M.2.2.2.2.1 q i a b [1] = true) : ∃ C T N host, vwCl[a]? = some (C, T, N) ∧ b < N ∧ Jvm.Cond.fieldLinkNest M.1.cls i (T b).1 (T b).2.1 (T b).2.2.1 host ∈ lw_tbl := by
  obtain ⟨k, q2, v, hp, hk⟩ := mpk_of h
  obtain ⟨own, l, ho, hok⟩ := mow_pg hp
  have e := mow_own hM ho
  subst e
  simp only [List.mem_cons, List.not_mem_nil, or_false] at hk
  subst hk
  simp only [okP] at hok
  split at hok
  · rename_i C T N o2 i2 r n d host hc hw
    simp only [Bool.and_eq_true, decide_eq_true_eq, beq_iff_eq] at hok
    obtain ⟨⟨⟨⟨⟨h1, h2⟩, h3⟩, h4⟩, h5⟩, h6⟩ := hok
    refine ⟨C, T, N, host, hc, h1, ?_⟩
    rw [← h2, ← h3, ← h4, ← h5, ← h6]
    exact mwd_in hw
  · cases hok
theorem mpk_or {o q i a b : Nat} (h : mpk o q i a b [0, 1] = true) : mpk o q i a b [0] = true ∨ mpk o q i a b [1] = true := by
  unfold mpk at h ⊢
  split at h
  · rename_i i2 k a2 b2 q2 v hp
    simp only [Bool.and_eq_true, beq_iff_eq, List.contains_cons, Bool.or_eq_true, List.contains_nil, Bool.or_false] at h ⊢
    obtain ⟨⟨⟨h1, h2⟩, h3⟩, h4⟩ := h
    rcases h2 with h2 | h2
    · exact Or.inl ⟨⟨⟨h1, h2⟩, h3⟩, h4⟩
    · exact Or.inr ⟨⟨⟨h1, h2⟩, h3⟩, h4⟩
  · cases h
section GS3
variable {p : Program} {l : Launch} {e : Env} {R : Room} {s : State} {m : MethodId} {args : Array Value} {below : List Frame} {meth : Method} {c : Code} {H : Heap} {locs : List Loc} {cells slots : Nat} {Q : State → Prop}
variable {pc : Nat} {ls : Array Slot} {ret : Option FieldType} {ex : List mE} {a1 b1 q1 : Nat} {L : mL} {S : List Value} {h : List mE} {pc' : Nat} {L' : mL} {S' : List Value} {h' : List mE} {xs : Nat → Nat} {b : Nat} {aC : Nat → ClassId} {D : va_G} {M : mMR}
theorem s_getfield {i : Nat} (C : g_C xs b aC D ex p s m meth c M) (hW : g_W xs b aC D h H) (hk : mpk M.2.2.2.2.1 q1 i a1 b1 [0, 1] = true) (hd : decode M.2.1 pc = .ok (.getfield i, 3)) (hm : mx ret ex (.getfield i, 3, a1, b1, q1) pc L S h = some (.inl (pc', L', S', h'))) (kk : h' = h → L' = L → W p l e R s m args below meth c H locs cells slots Q (F0 m pc' ls (S'.map (g_V (g_ad xs b))))) : W p l e R s m args below meth c H locs cells slots Q (F0 m pc ls (S.map (g_V (g_ad xs b)))) := by
  obtain ⟨hx, hb, -, hown, -, -, -, -, hE, hM⟩ := C
  replace hm : (match S with
      | .ref q :: T => (match mown h q with
          | some (.inr (ci, fs)) => if ci = a1 then (match fs[b1]? with
              | some v => mgo (pc + 3) L (v :: T) h
              | none => none) else none
          | _ => none)
      | _ => none) = some (.inl (pc', L', S', h')) := hm
  split at hm
  · rename_i q T
    split at hm
    · rename_i ci fs hq
      by_cases hci : ci = a1
      · rw [if_pos hci] at hm
        split at hm
        · rename_i v hv
          simp only [mgo, Option.some.injEq, Sum.inl.injEq, Prod.mk.injEq] at hm
          obtain ⟨rfl, rfl, rfl, rfl⟩ := hm
          subst hci
          have hv' : (fs.map (g_V (g_ad xs b)))[b1]? = some (g_V (g_ad xs b) v) := by rw [List.getElem?_map, hv]; rfl
          rcases mpk_or hk with hk | hk
          · obtain ⟨Cn, T0, N, hc, hbN, hl⟩ := g_lf0 hM hk
            exact va_get hx hb (g_hts hE args) (g_cls hc).2.2.1 hown hE.2.2.2.1 (x_one (g_at hW hq)) 0 rfl hc b1 hbN (hE.1 _ hl rfl args) (fun _ z => z) hv' hd (kk rfl rfl)
          · obtain ⟨Cn, T0, N, host, hc, hbN, hl⟩ := g_lf1 hM hk
            exact va_getN hx hb (g_hts hE args) (g_cls hc).2.2.1 hown hE.2.2.2.1 (x_one (g_at hW hq)) 0 rfl hc b1 hbN (va_Nw.use rfl (hE.2.1 _ hl rfl)) (fun _ z => z) hv' hd (kk rfl rfl)
        · cases hm
      · rw [if_neg hci] at hm; cases hm
    · cases hm
  · cases hm
theorem s_same {h' h : List mE} (hz : mhs h' = mhs h) (hl : h'.length = h.length) {H1 : Heap} {locs1 : List Loc} {g : JFrame} (k : W p l e R s m args below meth c H1 locs1 (cells + (h'.length - h.length)) (slots + (mhs h' - mhs h)) Q g) : W p l e R s m args below meth c H1 locs1 cells slots Q g := by
  rw [hz, hl, Nat.sub_self, Nat.sub_self] at k
  exact k
theorem s_putfield {i : Nat} (C : g_C xs b aC D ex p s m meth c M) (hW : g_W xs b aC D h H) (hS : va_S (g_A b) s.heap H locs) (hk : ((mpk M.2.2.2.2.1 q1 i a1 b1 [0] && (mnf a1 b1 || mfin M.1 a1 b1)) || (mpk M.2.2.2.2.1 q1 i a1 b1 [1] && mnf a1 b1)) = true) (hd : decode M.2.1 pc = .ok (.putfield i, 3)) (hm : mx ret ex (.putfield i, 3, a1, b1, q1) pc L S h = some (.inl (pc', L', S', h')))
    (kk : ∀ (H1 : Heap) (locs1 : List Loc), g_W xs b aC D h' H1 → va_S (g_A b) s.heap H1 locs1 → L' = L → W p l e R s m args below meth c H1 locs1 (cells + (h'.length - h.length)) (slots + (mhs h' - mhs h)) Q (F0 m pc' ls (S'.map (g_V (g_ad xs b))))) : W p l e R s m args below meth c H locs cells slots Q (F0 m pc ls (S.map (g_V (g_ad xs b)))) := by
  obtain ⟨hx, hb, -, hown, -, -, hnm, -, hE, hM⟩ := C
  replace hm : (match S with
      | v :: .ref q :: T => (match mown h q with
          | some (.inr (ci, fs)) => if ci = a1 ∧ b1 < fs.length then (match mfty a1 b1 with
              | some ty => if mfit ty v then mgo (pc + 3) L T (mput h q (.inr (ci, fs.set b1 v))) else none
              | none => none) else none
          | _ => none)
      | _ => none) = some (.inl (pc', L', S', h')) := hm
  split at hm
  · rename_i v q T
    split at hm
    · rename_i ci fs hq
      by_cases hci : ci = a1 ∧ b1 < fs.length
      · rw [if_pos hci] at hm
        split at hm
        · rename_i ty hty
          by_cases hf : mfit ty v = true
          · rw [if_pos hf] at hm
            simp only [mgo, Option.some.injEq, Sum.inl.injEq, Prod.mk.injEq] at hm
            obtain ⟨rfl, rfl, rfl, rfl⟩ := hm
            obtain ⟨rfl, hlen⟩ := hci
            have hz := mhs_put hq (e := .inr (ci, fs.set b1 v)) (by simp [msz])
            have hlen' : b1 < (fs.map (g_V (g_ad xs b))).length := by rw [List.length_map]; exact hlen
            have hA := g_Aq (xs := xs) (b := b) (g_own hq).1
            obtain ⟨hn, hfit⟩ := x_fit (g := g_ad xs b) hf
            have fin : ∀ (H1 : Heap) (locs1 : List Loc), x_st D vwCl (g_A b) s.heap H (g_ad xs b q) (.inr (ci, (fs.map (g_V (g_ad xs b))).set b1 (g_V (g_ad xs b) v))) H1 locs1 → W p l e R s m args below meth c H1 locs1 cells slots Q (F0 m (pc + 3) ls (T.map (g_V (g_ad xs b)))) := fun H1 locs1 hst => by
              refine s_same hz.1 hz.2 (kk H1 locs1 (g_set (A := g_A b) (H0 := s.heap) (locs1 := locs1) hW hq (e := .inr (ci, fs.set b1 v)) ?_) hst.2.2.2 rfl)
              have e : g_E (g_ad xs b) aC (.inr (ci, fs.set b1 v)) = .inr (ci, (fs.map (g_V (g_ad xs b))).set b1 (g_V (g_ad xs b) v)) := by
                show Sum.inr (ci, (fs.set b1 v).map (g_V (g_ad xs b))) = _
                rw [List.map_set]
              rw [e]
              exact hst
            have tyk : ∀ {Cn : String} {T0 : u_T} {N : Nat}, vwCl[ci]? = some (Cn, T0, N) → b1 < N → parseFieldDescriptor (T0 b1).2.2.1 = some ty := fun hc hbN => by
              obtain ⟨-, -, -, tl, h1, h2, h3⟩ := g_cls hc
              rw [h3 b1 hbN]
              unfold mfty at hty
              rw [h1] at hty
              dsimp only at hty
              rw [List.getD_eq_getElem?_getD, hty]
              rfl
            simp only [Bool.or_eq_true, Bool.and_eq_true] at hk
            rcases hk with ⟨hk, hfin⟩ | ⟨hk, hfin⟩
            · obtain ⟨Cn, T0, N, hc, hbN, hl⟩ := g_lf0 hM hk
              obtain ⟨-, -, hin, tl, -, -, h3⟩ := g_cls hc
              refine x_put hx hb (g_hts hE args) hin _ h3 (g_nm _ _ _ _ hc) hown hE.2.2.2.1 (g_at hW hq) hA hS hc b1 hbN (hE.1 _ hl rfl args) ?_ (tyk hc hbN) hn hfit hlen' hd fin
              rcases hfin with hf2 | hf2
              · unfold mnf at hf2
                rw [hc] at hf2
                exact Or.inl (of_decide_eq_true hf2)
              · unfold mfin at hf2
                rw [hc] at hf2
                simp only [Bool.and_eq_true, decide_eq_true_eq] at hf2
                exact Or.inr ⟨(hnm hf2.1).trans hf2.1, hf2.2⟩
            · obtain ⟨Cn, T0, N, host, hc, hbN, hl⟩ := g_lf1 hM hk
              obtain ⟨-, -, hin, tl, -, -, h3⟩ := g_cls hc
              refine x_putN hx hb (g_hts hE args) hin _ h3 (g_nm _ _ _ _ hc) hown hE.2.2.2.1 (g_at hW hq) hA hS hc b1 hbN (va_Nw.use rfl (hE.2.1 _ hl rfl)) ?_ (tyk hc hbN) hn hfit hlen' hd fin
              unfold mnf at hfin
              rw [hc] at hfin
              exact of_decide_eq_true hfin
          · rw [if_neg hf] at hm; cases hm
        · cases hm
      · rw [if_neg hci] at hm; cases hm
    · cases hm
  · cases hm

theorem s_iastore (C : g_C xs b aC D ex p s m meth c M) (hW : g_W xs b aC D h H) (hS : va_S (g_A b) s.heap H locs) (hd : decode M.2.1 pc = .ok (.iastore, 1)) (hm : mx ret ex (.iastore, 1, a1, b1, q1) pc L S h = some (.inl (pc', L', S', h')))
    (kk : ∀ (H1 : Heap) (locs1 : List Loc), g_W xs b aC D h' H1 → va_S (g_A b) s.heap H1 locs1 → L' = L → W p l e R s m args below meth c H1 locs1 (cells + (h'.length - h.length)) (slots + (mhs h' - mhs h)) Q (F0 m pc' ls (S'.map (g_V (g_ad xs b))))) : W p l e R s m args below meth c H locs cells slots Q (F0 m pc ls (S.map (g_V (g_ad xs b)))) := by
  obtain ⟨hx, hb, -, hown, -, -, hnm, -, hE, hM⟩ := C
  replace hm : (match S with
      | .int x :: .int i :: .ref q :: T => (match mown h q with
          | some (.inl (0, (n, .inl f))) => if mib i n then mgo (pc + 1) L T (mput h q (.inl (0, (n, .inl (upd f i.toNatClampNeg x))))) else none
          | _ => none)
      | _ => none) = some (.inl (pc', L', S', h')) := hm
  split at hm
  · rename_i x i q T
    split at hm
    · rename_i n f hq
      by_cases hi : (mib i n) = true
      · rw [if_pos hi] at hm
        simp only [mgo, Option.some.injEq, Sum.inl.injEq, Prod.mk.injEq] at hm
        obtain ⟨rfl, rfl, rfl, rfl⟩ := hm
        have hz := mhs_put hq (e := .inl (0, (n, .inl (upd f i.toNatClampNeg x)))) rfl
        have hA := g_Aq (xs := xs) (b := b) (g_own hq).1
        skip
        exact x_iast hx hb hE.2.2.2.1 hA hS 0 (g_at hW hq) (g_ty_at (t := 0) rfl) (s_vp hi) hd (fun H1 locs1 hst => s_same hz.1 hz.2 (kk H1 locs1 (g_set hW hq hst) hst.2.2.2 rfl))
      · rw [if_neg hi] at hm; cases hm
    · cases hm
  · cases hm
theorem s_lastore (C : g_C xs b aC D ex p s m meth c M) (hW : g_W xs b aC D h H) (hS : va_S (g_A b) s.heap H locs) (hd : decode M.2.1 pc = .ok (.lastore, 1)) (hm : mx ret ex (.lastore, 1, a1, b1, q1) pc L S h = some (.inl (pc', L', S', h')))
    (kk : ∀ (H1 : Heap) (locs1 : List Loc), g_W xs b aC D h' H1 → va_S (g_A b) s.heap H1 locs1 → L' = L → W p l e R s m args below meth c H1 locs1 (cells + (h'.length - h.length)) (slots + (mhs h' - mhs h)) Q (F0 m pc' ls (S'.map (g_V (g_ad xs b))))) : W p l e R s m args below meth c H locs cells slots Q (F0 m pc ls (S.map (g_V (g_ad xs b)))) := by
  obtain ⟨hx, hb, -, hown, -, -, hnm, -, hE, hM⟩ := C
  replace hm : (match S with
      | .long x :: .int i :: .ref q :: T => (match mown h q with
          | some (.inl (2, (n, .inr (.inl f)))) => if mib i n then mgo (pc + 1) L T (mput h q (.inl (2, (n, .inr (.inl (vp_updL f i.toNatClampNeg x)))))) else none
          | _ => none)
      | _ => none) = some (.inl (pc', L', S', h')) := hm
  split at hm
  · rename_i x i q T
    split at hm
    · rename_i n f hq
      by_cases hi : (mib i n) = true
      · rw [if_pos hi] at hm
        simp only [mgo, Option.some.injEq, Sum.inl.injEq, Prod.mk.injEq] at hm
        obtain ⟨rfl, rfl, rfl, rfl⟩ := hm
        have hz := mhs_put hq (e := .inl (2, (n, .inr (.inl (vp_updL f i.toNatClampNeg x))))) rfl
        have hA := g_Aq (xs := xs) (b := b) (g_own hq).1
        skip
        exact x_last hx hb hE.2.2.2.1 hA hS 2 (g_at hW hq) (g_ty_at (t := 2) rfl) (s_vp hi) hd (fun H1 locs1 hst => s_same hz.1 hz.2 (kk H1 locs1 (g_set hW hq hst) hst.2.2.2 rfl))
      · rw [if_neg hi] at hm; cases hm
    · cases hm
  · cases hm
theorem s_bastore (C : g_C xs b aC D ex p s m meth c M) (hW : g_W xs b aC D h H) (hS : va_S (g_A b) s.heap H locs) (hd : decode M.2.1 pc = .ok (.bastore, 1)) (hm : mx ret ex (.bastore, 1, a1, b1, q1) pc L S h = some (.inl (pc', L', S', h')))
    (kk : ∀ (H1 : Heap) (locs1 : List Loc), g_W xs b aC D h' H1 → va_S (g_A b) s.heap H1 locs1 → L' = L → W p l e R s m args below meth c H1 locs1 (cells + (h'.length - h.length)) (slots + (mhs h' - mhs h)) Q (F0 m pc' ls (S'.map (g_V (g_ad xs b))))) : W p l e R s m args below meth c H locs cells slots Q (F0 m pc ls (S.map (g_V (g_ad xs b)))) := by
  obtain ⟨hx, hb, -, hown, -, -, hnm, -, hE, hM⟩ := C
  replace hm : (match S with
      | .int x :: .int i :: .ref q :: T => (match mown h q with
          | some (.inl (1, (n, .inl f))) => if mib i n && (decide (x = 0) || decide (x = 1)) then mgo (pc + 1) L T (mput h q (.inl (1, (n, .inl (upd f i.toNatClampNeg x))))) else none
          | some (.inl (8, (n, .inl f))) => if mib i n then mgo (pc + 1) L T (mput h q (.inl (8, (n, .inl (upd f i.toNatClampNeg x.toInt8.toInt32))))) else none
          | _ => none)
      | _ => none) = some (.inl (pc', L', S', h')) := hm
  split at hm
  · rename_i x i q T
    split at hm
    · rename_i n f hq
      by_cases hi : (mib i n && (decide (x = 0) || decide (x = 1))) = true
      · rw [if_pos hi] at hm
        simp only [mgo, Option.some.injEq, Sum.inl.injEq, Prod.mk.injEq] at hm
        obtain ⟨rfl, rfl, rfl, rfl⟩ := hm
        have hz := mhs_put hq (e := .inl (1, (n, .inl (upd f i.toNatClampNeg x)))) rfl
        have hA := g_Aq (xs := xs) (b := b) (g_own hq).1
        simp only [Bool.and_eq_true, Bool.or_eq_true, decide_eq_true_eq] at hi
        exact x_zast hx hb hE.2.2.2.1 hA hS 1 (g_at hW hq) (g_ty_at (t := 1) rfl) (s_vp hi.1) (x_nar x hi.2) hd (fun H1 locs1 hst => s_same hz.1 hz.2 (kk H1 locs1 (g_set hW hq hst) hst.2.2.2 rfl))
      · rw [if_neg hi] at hm; cases hm
    · rename_i n f hq
      by_cases hi : (mib i n) = true
      · rw [if_pos hi] at hm
        simp only [mgo, Option.some.injEq, Sum.inl.injEq, Prod.mk.injEq] at hm
        obtain ⟨rfl, rfl, rfl, rfl⟩ := hm
        have hz := mhs_put hq (e := .inl (8, (n, .inl (upd f i.toNatClampNeg x.toInt8.toInt32)))) rfl
        have hA := g_Aq (xs := xs) (b := b) (g_own hq).1
        exact x_bast hx hb hE.2.2.2.1 hA hS 8 (g_at hW hq) (g_ty_at (t := 8) rfl) (s_vp hi) hd (fun H1 locs1 hst => s_same hz.1 hz.2 (kk H1 locs1 (g_set hW hq hst) hst.2.2.2 rfl))
      · rw [if_neg hi] at hm; cases hm
    · cases hm
  · cases hm
theorem s_ups {f : Nat → Option Nat} {g : Nat → Nat} {k : Nat} {v : Option Nat} : (fun j => (va_up f k v j).map g) = va_up (fun j => (f j).map g) k (v.map g) := by
  funext j
  unfold va_up
  split <;> rfl
theorem s_el {t ci : Nat} (h : mEl[t]? = some (some ci)) : ∃ C T N, vwCl[ci]? = some (C, T, N) ∧ mAT[t]? = some (.object C) := by
  have hl : t < 9 := (List.getElem?_eq_some_iff.mp h).1
  rcases (by omega : t = 0 ∨ t = 1 ∨ t = 2 ∨ t = 3 ∨ t = 4 ∨ t = 5 ∨ t = 6 ∨ t = 7 ∨ t = 8) with rfl | rfl | rfl | rfl | rfl | rfl | rfl | rfl | rfl
  all_goals first | (cases h; done) | (cases h; exact ⟨_, _, _, rfl, rfl⟩)
theorem s_ob {t : Nat} (h : 3 ≤ t ∧ t < 7) : ∃ C, mAT[t]? = some (.object C) := by
  obtain ⟨h1, h2⟩ := h
  rcases (by omega : t = 3 ∨ t = 4 ∨ t = 5 ∨ t = 6) with rfl | rfl | rfl | rfl <;> exact ⟨_, rfl⟩
theorem s_aastore (C : g_C xs b aC D ex p s m meth c M) (hW : g_W xs b aC D h H) (hS : va_S (g_A b) s.heap H locs) (hd : decode M.2.1 pc = .ok (.aastore, 1)) (hm : mx ret ex (.aastore, 1, a1, b1, q1) pc L S h = some (.inl (pc', L', S', h')))
    (kk : ∀ (H1 : Heap) (locs1 : List Loc), g_W xs b aC D h' H1 → va_S (g_A b) s.heap H1 locs1 → L' = L → W p l e R s m args below meth c H1 locs1 (cells + (h'.length - h.length)) (slots + (mhs h' - mhs h)) Q (F0 m pc' ls (S'.map (g_V (g_ad xs b))))) : W p l e R s m args below meth c H locs cells slots Q (F0 m pc ls (S.map (g_V (g_ad xs b)))) := by
  obtain ⟨hx, hb, -, hown, -, -, hnm, -, hE, hM⟩ := C
  replace hm : (match S with
      | .ref v :: .int i :: .ref q :: T => (match mown h q, mown h v with
          | some (.inl (t, (n, .inr (.inr (.inr (.inr f)))))), some (.inr (ci, _)) =>
              if mib i n && decide (mEl[t]? = some (some ci)) then mgo (pc + 1) L T (mput h q (.inl (t, (n, .inr (.inr (.inr (.inr (va_up f i.toNatClampNeg (some v))))))))) else none
          | _, _ => none)
      | .null :: .int i :: .ref q :: T => (match mown h q with
          | some (.inl (t, (n, .inr (.inr (.inr (.inr f)))))) => if mib i n && decide (3 ≤ t ∧ t < 7) then mgo (pc + 1) L T (mput h q (.inl (t, (n, .inr (.inr (.inr (.inr (va_up f i.toNatClampNeg none)))))))) else none
          | _ => none)
      | _ => none) = some (.inl (pc', L', S', h')) := hm
  split at hm
  · rename_i v i q T
    split at hm
    · rename_i t n f ci fs hq hv
      by_cases hi : (mib i n && decide (mEl[t]? = some (some ci))) = true
      · rw [if_pos hi] at hm
        simp only [mgo, Option.some.injEq, Sum.inl.injEq, Prod.mk.injEq] at hm
        obtain ⟨rfl, rfl, rfl, rfl⟩ := hm
        simp only [Bool.and_eq_true, decide_eq_true_eq] at hi
        have hz := mhs_put hq (e := .inl (t, (n, .inr (.inr (.inr (.inr (va_up f i.toNatClampNeg (some v)))))))) rfl
        have hA := g_Aq (xs := xs) (b := b) (g_own hq).1
        obtain ⟨Cn, T0, N, hc, hat⟩ := s_el hi.2
        refine x_astq (r := (Cn, T0, N)) (f := fun j => (f j).map (g_ad xs b)) (n := n) (cA := aC t) hx hb hE.2.2.2.1 hA hS t ci (g_at hW hq) (g_ty_at hat) (g_at hW hv) hc (s_vp hi.1) hd (fun H1 locs1 hst => s_same hz.1 hz.2 (kk H1 locs1 (g_set (A := g_A b) (H0 := s.heap) (locs1 := locs1) hW hq ?_) hst.2.2.2 rfl))
        show x_st D vwCl (g_A b) s.heap H (g_ad xs b q) (.inl (aC t, (n, .inr (.inr (.inr (.inr (fun j => (va_up f i.toNatClampNeg (some v) j).map (g_ad xs b)))))))) H1 locs1
        rw [s_ups]
        exact hst
      · rw [if_neg hi] at hm; cases hm
    · cases hm
  · rename_i i q T
    split at hm
    · rename_i t n f hq
      by_cases hi : (mib i n && decide (3 ≤ t ∧ t < 7)) = true
      · rw [if_pos hi] at hm
        simp only [mgo, Option.some.injEq, Sum.inl.injEq, Prod.mk.injEq] at hm
        obtain ⟨rfl, rfl, rfl, rfl⟩ := hm
        simp only [Bool.and_eq_true, decide_eq_true_eq] at hi
        have hz := mhs_put hq (e := .inl (t, (n, .inr (.inr (.inr (.inr (va_up f i.toNatClampNeg none))))))) rfl
        have hA := g_Aq (xs := xs) (b := b) (g_own hq).1
        obtain ⟨Cn, hat⟩ := s_ob hi.2
        refine x_astqN (C := Cn) (f := fun j => (f j).map (g_ad xs b)) (n := n) (cA := aC t) hx hb hE.2.2.2.1 hA hS t (g_at hW hq) (g_ty_at hat) (s_vp hi.1) hd (fun H1 locs1 hst => s_same hz.1 hz.2 (kk H1 locs1 (g_set (A := g_A b) (H0 := s.heap) (locs1 := locs1) hW hq ?_) hst.2.2.2 rfl))
        show x_st D vwCl (g_A b) s.heap H (g_ad xs b q) (.inl (aC t, (n, .inr (.inr (.inr (.inr (fun j => (va_up f i.toNatClampNeg none j).map (g_ad xs b)))))))) H1 locs1
        rw [s_ups]
        exact hst
      · rw [if_neg hi] at hm; cases hm
    · cases hm
  · cases hm
theorem s_grow {h t : List mE} {H1 : Heap} {locs1 : List Loc} {g : JFrame} {k n : Nat} (hk : t.length = k) (hn : mhs t = n) (kk : W p l e R s m args below meth c H1 locs1 (cells + ((h ++ t).length - h.length)) (slots + (mhs (h ++ t) - mhs h)) Q g) : W p l e R s m args below meth c H1 locs1 (cells + k) (slots + n) Q g := by
  rw [List.length_append, mhs_app, Nat.add_sub_cancel_left, Nat.add_sub_cancel_left, hk, hn] at kk
  exact kk
theorem s_growc {h t : List mE} {k : Nat} (hk : t.length = k) (hc : cells + ((h ++ t).length - h.length) ≤ R.cells) : cells + k ≤ R.cells := by
  rw [List.length_append, Nat.add_sub_cancel_left, hk] at hc
  exact hc
theorem s_grows {h t : List mE} {n : Nat} (hn : mhs t = n) (hs : slots + (mhs (h ++ t) - mhs h) ≤ R.slots) : slots + n ≤ R.slots := by
  rw [mhs_app, Nat.add_sub_cancel_left, hn] at hs
  exact hs
theorem s_aC {t : Nat} {ty : FieldType} {U : State} {H : Heap} (hE : g_Env xs b aC D ex U H) (h : mAT[t]? = some ty) : U.vm.findClass ("[" ++ ty.toString) = some (aC t) := by
  have h1 := (hE.2.2.2.1.2 t _ (g_ty_at h)).2
  cases ty with
  | object C => exact h1.choose_spec.choose_spec.2.2.2
  | _ => exact h1
theorem s_newarray {at_ : ArrayType} (C : g_C xs b aC D ex p s m meth c M) (hW : g_W xs b aC D h H) (hS : va_S (g_A b) s.heap H locs) (hd : decode M.2.1 pc = .ok (.newarray at_, 2)) (hm : mx ret ex (.newarray at_, 2, a1, b1, q1) pc L S h = some (.inl (pc', L', S', h'))) (hc : cells + (h'.length - h.length) ≤ R.cells) (hs : slots + (mhs h' - mhs h) ≤ R.slots) 
    (kk : ∀ (H1 : Heap) (locs1 : List Loc), g_W xs b aC D h' H1 → va_S (g_A b) s.heap H1 locs1 → L' = L → W p l e R s m args below meth c H1 locs1 (cells + (h'.length - h.length)) (slots + (mhs h' - mhs h)) Q (F0 m pc' ls (S'.map (g_V (g_ad xs b))))) : W p l e R s m args below meth c H locs cells slots Q (F0 m pc ls (S.map (g_V (g_ad xs b)))) := by
  obtain ⟨hx, hb, -, hown, -, -, hnm, -, hE, hM⟩ := C
  have aw : ∀ ty, Jvm.Cond.arrayClass ty ∈ lw_tbl → (Jvm.Cond.arrayClass ty).before args s = true := fun ty hw => hE.1 _ hw rfl args
  replace hm : (match S with
      | .int n :: T => if ¬ n < 0 ∧ n.toNatClampNeg ≤ 4000000 then (match at_ with
          | .int => mgo (pc + 2) L (.ref (h.length + 4) :: T) (h ++ [.inl (0, (n.toNatClampNeg, .inl (fun _ => 0)))])
          | .boolean => mgo (pc + 2) L (.ref (h.length + 4) :: T) (h ++ [.inl (1, (n.toNatClampNeg, .inl (fun _ => 0)))])
          | .byte => mgo (pc + 2) L (.ref (h.length + 4) :: T) (h ++ [.inl (8, (n.toNatClampNeg, .inl (fun _ => 0)))])
          | .long => mgo (pc + 2) L (.ref (h.length + 4) :: T) (h ++ [.inl (2, (n.toNatClampNeg, .inr (.inl (fun _ => 0))))])
          | _ => none) else none
      | _ => none) = some (.inl (pc', L', S', h')) := hm
  split at hm
  · rename_i n T
    by_cases hn : ¬ n < 0 ∧ n.toNatClampNeg ≤ 4000000
    · rw [if_pos hn] at hm
      cases at_ with
      | int =>
        simp only [mgo, Option.some.injEq, Sum.inl.injEq, Prod.mk.injEq] at hm
        obtain ⟨rfl, rfl, rfl, rfl⟩ := hm
        refine x_newa (atype := .int) (ty := .int) (a0 := (n.toNatClampNeg, .inl (fun _ => 0))) (cA := aC 0) (D := D) (cl := vwCl) hx hb (aw _ ck_ai) rfl (s_aC hE (t := 0) rfl) hS rfl hn.1 rfl (Nat.le_trans (Nat.mul_le_mul_right _ hn.2) (Nat.le_of_ble_eq_true rfl)) (s_growc (k := 1) rfl hc) (s_grows (n := n.toNatClampNeg) (by simp [mhs, msz]) hs) hd (fun H1 hn1 => ?_)
        rw [g_ref hW]
        exact s_grow rfl (by simp [mhs, msz]) (kk H1 locs (g_push hW hn1) hn1.2.2.2 rfl)
      | boolean =>
        simp only [mgo, Option.some.injEq, Sum.inl.injEq, Prod.mk.injEq] at hm
        obtain ⟨rfl, rfl, rfl, rfl⟩ := hm
        refine x_newa (atype := .boolean) (ty := .boolean) (a0 := (n.toNatClampNeg, .inl (fun _ => 0))) (cA := aC 1) (D := D) (cl := vwCl) hx hb (aw _ ck_az) rfl (s_aC hE (t := 1) rfl) hS rfl hn.1 rfl (Nat.le_trans (Nat.mul_le_mul_right _ hn.2) (Nat.le_of_ble_eq_true rfl)) (s_growc (k := 1) rfl hc) (s_grows (n := n.toNatClampNeg) (by simp [mhs, msz]) hs) hd (fun H1 hn1 => ?_)
        rw [g_ref hW]
        exact s_grow rfl (by simp [mhs, msz]) (kk H1 locs (g_push hW hn1) hn1.2.2.2 rfl)
      | byte =>
        simp only [mgo, Option.some.injEq, Sum.inl.injEq, Prod.mk.injEq] at hm
        obtain ⟨rfl, rfl, rfl, rfl⟩ := hm
        refine x_newa (atype := .byte) (ty := .byte) (a0 := (n.toNatClampNeg, .inl (fun _ => 0))) (cA := aC 8) (D := D) (cl := vwCl) hx hb (aw _ ck_ab) rfl (s_aC hE (t := 8) rfl) hS rfl hn.1 rfl (Nat.le_trans (Nat.mul_le_mul_right _ hn.2) (Nat.le_of_ble_eq_true rfl)) (s_growc (k := 1) rfl hc) (s_grows (n := n.toNatClampNeg) (by simp [mhs, msz]) hs) hd (fun H1 hn1 => ?_)
        rw [g_ref hW]
        exact s_grow rfl (by simp [mhs, msz]) (kk H1 locs (g_push hW hn1) hn1.2.2.2 rfl)
      | long =>
        simp only [mgo, Option.some.injEq, Sum.inl.injEq, Prod.mk.injEq] at hm
        obtain ⟨rfl, rfl, rfl, rfl⟩ := hm
        refine x_newa (atype := .long) (ty := .long) (a0 := (n.toNatClampNeg, .inr (.inl (fun _ => 0)))) (cA := aC 2) (D := D) (cl := vwCl) hx hb (aw _ ck_al) rfl (s_aC hE (t := 2) rfl) hS rfl hn.1 rfl (Nat.le_trans (Nat.mul_le_mul_right _ hn.2) (Nat.le_of_ble_eq_true rfl)) (s_growc (k := 1) rfl hc) (s_grows (n := n.toNatClampNeg) (by simp [mhs, msz]) hs) hd (fun H1 hn1 => ?_)
        rw [g_ref hW]
        exact s_grow rfl (by simp [mhs, msz]) (kk H1 locs (g_push hW hn1) hn1.2.2.2 rfl)
      | _ => cases hm
    · rw [if_neg hn] at hm; cases hm
  · cases hm
theorem s_anewarray {i : Nat} (C : g_C xs b aC D ex p s m meth c M) (hW : g_W xs b aC D h H) (hS : va_S (g_A b) s.heap H locs) (hk : mpk M.2.2.2.2.1 q1 i a1 b1 [10] = true) (hd : decode M.2.1 pc = .ok (.anewarray i, 3)) (hm : mx ret ex (.anewarray i, 3, a1, b1, q1) pc L S h = some (.inl (pc', L', S', h'))) (hc : cells + (h'.length - h.length) ≤ R.cells) (hs : slots + (mhs h' - mhs h) ≤ R.slots) 
    (kk : ∀ (H1 : Heap) (locs1 : List Loc), g_W xs b aC D h' H1 → va_S (g_A b) s.heap H1 locs1 → L' = L → W p l e R s m args below meth c H1 locs1 (cells + (h'.length - h.length)) (slots + (mhs h' - mhs h)) Q (F0 m pc' ls (S'.map (g_V (g_ad xs b))))) : W p l e R s m args below meth c H locs cells slots Q (F0 m pc ls (S.map (g_V (g_ad xs b)))) := by
  obtain ⟨hx, hb, -, hown, -, -, hnm, -, hE, hM⟩ := C
  obtain ⟨k, q2, v, hp, hk⟩ := mpk_of hk
  obtain ⟨own, l2, ho, hok⟩ := mow_pg hp
  have eo := mow_own hM ho
  subst eo
  simp only [List.mem_cons, List.not_mem_nil, or_false] at hk
  subst hk
  simp only [okP] at hok
  split at hok
  · rename_i Cn T0 N ty hcl hty
    simp only [Bool.and_eq_true, decide_eq_true_eq] at hok
    obtain ⟨⟨hcw, rfl⟩, hel⟩ := hok
    replace hm : (match S with
      | .int n :: T => if ¬ n < 0 ∧ n.toNatClampNeg ≤ 4000000 then (match mEl[a1]? with
          | some (some _) => mgo (pc + 3) L (.ref (h.length + 4) :: T) (h ++ [.inl (a1, (n.toNatClampNeg, .inr (.inr (.inr (.inr (fun _ => none))))))])
          | _ => none) else none
      | _ => none) = some (.inl (pc', L', S', h')) := hm
    rw [hel] at hm
    split at hm
    · rename_i n T
      by_cases hn : ¬ n < 0 ∧ n.toNatClampNeg ≤ 4000000
      · rw [if_pos hn] at hm
        simp only [mgo, Option.some.injEq, Sum.inl.injEq, Prod.mk.injEq] at hm
        obtain ⟨rfl, rfl, rfl, rfl⟩ := hm
        have hov : Jvm.Cond.arrayOver (.object Cn) ∈ lw_tbl := ck_ao a1 Cn hty
        refine x_newq (cA := aC a1) (D := D) (cl := vwCl) hx hb hown (hE.1 _ (mwd_in hcw) rfl args) (va_AO.of (A := #[]) (hE.2.2.1 _ hov (Or.inl ⟨Cn, rfl⟩) #[])) (s_aC hE hty) hS hn.1 rfl (Nat.le_trans (Nat.mul_le_mul_right _ hn.2) (Nat.le_of_ble_eq_true rfl)) (s_growc (k := 1) rfl hc) (s_grows (n := n.toNatClampNeg) (by simp [mhs, msz]) hs) hd (fun H1 hn1 => ?_)
        rw [g_ref hW]
        exact s_grow rfl (by simp [mhs, msz]) (kk H1 locs (g_push hW hn1) hn1.2.2.2 rfl)
      · rw [if_neg hn] at hm; cases hm
    · cases hm
  · cases hok
theorem s_new {i : Nat} (C : g_C xs b aC D ex p s m meth c M) (hW : g_W xs b aC D h H) (hS : va_S (g_A b) s.heap H locs) (hk : mpk M.2.2.2.2.1 q1 i a1 b1 [4] = true) (hd : decode M.2.1 pc = .ok (.new i, 3)) (hm : mx ret ex (.new i, 3, a1, b1, q1) pc L S h = some (.inl (pc', L', S', h'))) (hc : cells + (h'.length - h.length) ≤ R.cells) (hs : slots + (mhs h' - mhs h) ≤ R.slots) 
    (kk : ∀ (H1 : Heap) (locs1 : List Loc), g_W xs b aC D h' H1 → va_S (g_A b) s.heap H1 locs1 → L' = L → W p l e R s m args below meth c H1 locs1 (cells + (h'.length - h.length)) (slots + (mhs h' - mhs h)) Q (F0 m pc' ls (S'.map (g_V (g_ad xs b))))) : W p l e R s m args below meth c H locs cells slots Q (F0 m pc ls (S.map (g_V (g_ad xs b)))) := by
  obtain ⟨hx, hb, -, hown, -, -, hnm, -, hE, hM⟩ := C
  obtain ⟨k, q2, v, hp, hk⟩ := mpk_of hk
  obtain ⟨own, l2, ho, hok⟩ := mow_pg hp
  have eo := mow_own hM ho
  subst eo
  simp only [List.mem_cons, List.not_mem_nil, or_false] at hk
  subst hk
  simp only [okP] at hok
  split at hok
  · rename_i Cn T0 N hcl
    simp only [decide_eq_true_eq] at hok
    obtain ⟨hinst, hini, hin, ty, h1, h2, h3⟩ := g_cls hcl
    replace hm : (match mTy[a1]? with
      | some l => mgo (pc + 3) L (.ref (h.length + 4) :: S) (h ++ [.inr (a1, l.map defaultValue)])
      | none => none) = some (.inl (pc', L', S', h')) := hm
    rw [h1] at hm
    simp only [mgo, Option.some.injEq, Sum.inl.injEq, Prod.mk.injEq] at hm
    obtain ⟨rfl, rfl, rfl, rfl⟩ := hm
    refine x_new (fs := (ty.map defaultValue).map (g_V (g_ad xs b))) (D := D) (cl := vwCl) hx hb (g_hts hE args) hin _ h3 hown (hE.1 _ (mwd_in hok) rfl args) (hE.1 _ hinst rfl args) (hE.1 _ hini rfl args) hE.2.2.2.1 hS hcl (fun j hj => ?_) (s_growc (k := 1) rfl hc) (s_grows (n := N) (by simp [mhs, msz, h2]) hs) hd (fun H1 hn1 => ?_)
    · have hj2 : j < ty.length := by rw [h2]; exact hj
      have e1 : vp_V ((ty.map defaultValue).map (g_V (g_ad xs b))) j = g_V (g_ad xs b) (defaultValue (ty.getD j .int)) := by
        unfold vp_V
        rw [List.getD_eq_getElem?_getD, List.getElem?_map, List.getElem?_map, List.getD_eq_getElem?_getD, List.getElem?_eq_getElem hj2]
        rfl
      rw [e1]
      generalize ty.getD j .int = t
      cases t <;> rfl
    · rw [g_ref hW]
      exact s_grow rfl (by simp [mhs, msz, h2]) (kk H1 locs (g_push hW hn1) hn1.2.2.2 rfl)
  · cases hok

end GS3
end
section
/-! ONE INSTRUCTION, whichever -/
theorem g_pushN {xs : Nat → Nat} {b : Nat} {aC : Nat → ClassId} {D : va_G} {h t : List mE} {H H1 : Heap} (hW : g_W xs b aC D h H) (hz : H1.size = H.size + t.length) (ha : ∀ (j : Nat) (e : mE), t[j]? = some e → va_at D vwCl (H.size + j, g_E (g_ad xs b) aC e) H1) (o : ∀ q : Nat, q < H.size → H1[q]? = H[q]?) : g_W xs b aC D (h ++ t) H1 := by
  refine ⟨by rw [hz, hW.1, List.length_append]; omega, fun i x hi => ?_⟩
  by_cases hl : i < h.length
  · rw [List.getElem?_append_left hl] at hi
    exact (hW.2 i x hi).kept (o _ (by rw [hW.1]; show b + i < b + h.length; omega))
  · rw [List.getElem?_append_right (by omega)] at hi
    have := ha _ _ hi
    rw [hW.1, show b + h.length + (i - h.length) = b + i by omega] at this
    exact this
theorem g_inn (c : ClassId) (k : Nat) : Jvm.Free.Multi.innerC c k (defaultValue .int) = vp_cell c (k, .inl (fun _ => 0)) := by
  rw [vp_cell_i]
  show ({ cls := c, slots := Array.replicate k (.int 0), vm := .none } : Cell) = _
  rw [arrV_new]
/-- what an end returns -/
def g_ret (I : Instr) (ret : Option FieldType) (v : Option Value) : Prop :=
  (I = .ireturn ∧ ∃ x, v = some (.int x) ∧ (ret = some .int ∨ (ret = some .boolean ∧ (x = 0 ∨ x = 1)))) ∨ (I = .lreturn ∧ ret = some .long ∧ ∃ x, v = some (.long x)) ∨
  (I = .areturn ∧ ((∃ C, ret = some (.object C)) ∨ ∃ t, ret = some (.array t)) ∧ (v = some .null ∨ ∃ q, v = some (.ref q))) ∨ (I = .return_ ∧ ret = none ∧ v = none)
theorem s_ret {ret : Option FieldType} {ex : List mE} {I : Instr} {n a1 b1 q1 pc : Nat} {L : mL} {S : List Value} {h : List mE} {z : mO} (hI : I = .ireturn ∨ I = .lreturn ∨ I = .areturn ∨ I = .return_) (hm : mx ret ex (I, n, a1, b1, q1) pc L S h = some z) : ∃ v, z = .inr (.inr v) ∧ S = v.toList ∧ g_ret I ret v := by
  rcases hI with rfl | rfl | rfl | rfl
  · replace hm : (match (generalizing := false) S with
      | [.int x] => (match (generalizing := false) ret with
          | some .int => some (.inr (.inr (some (.int x))))
          | some .boolean => if decide (x = 0) || decide (x = 1) then some (.inr (.inr (some (.int x)))) else none
          | _ => none)
      | _ => none) = some z := hm
    split at hm
    · rename_i x
      split at hm
      · cases hm
        exact ⟨_, rfl, rfl, Or.inl ⟨rfl, x, rfl, Or.inl rfl⟩⟩
      · split at hm
        · rename_i hx
          cases hm
          simp only [Bool.or_eq_true, decide_eq_true_eq] at hx
          exact ⟨_, rfl, rfl, Or.inl ⟨rfl, x, rfl, Or.inr ⟨rfl, hx⟩⟩⟩
        · cases hm
      · cases hm
    · cases hm
  · replace hm : (match (generalizing := false) S with
      | [.long x] => (match (generalizing := false) ret with
          | some .long => some (.inr (.inr (some (.long x))))
          | _ => none)
      | _ => none) = some z := hm
    split at hm
    · rename_i x
      split at hm
      · cases hm
        exact ⟨_, rfl, rfl, Or.inr (Or.inl ⟨rfl, rfl, x, rfl⟩)⟩
      · cases hm
    · cases hm
  · replace hm : (match (generalizing := false) S with
      | [.ref x] => (match (generalizing := false) ret with
          | some (.object _) => some (.inr (.inr (some (.ref x))))
          | some (.array _) => some (.inr (.inr (some (.ref x))))
          | _ => none)
      | [.null] => (match (generalizing := false) ret with
          | some (.object _) => some (.inr (.inr (some .null)))
          | some (.array _) => some (.inr (.inr (some .null)))
          | _ => none)
      | _ => none) = some z := hm
    split at hm
    · rename_i x
      split at hm
      · cases hm
        exact ⟨_, rfl, rfl, Or.inr (Or.inr (Or.inl ⟨rfl, Or.inl ⟨_, rfl⟩, Or.inr ⟨x, rfl⟩⟩))⟩
      · cases hm
        exact ⟨_, rfl, rfl, Or.inr (Or.inr (Or.inl ⟨rfl, Or.inr ⟨_, rfl⟩, Or.inr ⟨x, rfl⟩⟩))⟩
      · cases hm
    · split at hm
      · cases hm
        exact ⟨_, rfl, rfl, Or.inr (Or.inr (Or.inl ⟨rfl, Or.inl ⟨_, rfl⟩, Or.inl rfl⟩))⟩
      · cases hm
        exact ⟨_, rfl, rfl, Or.inr (Or.inr (Or.inl ⟨rfl, Or.inr ⟨_, rfl⟩, Or.inl rfl⟩))⟩
      · cases hm
    · cases hm
  · replace hm : (match (generalizing := false) S with
      | [] => (match (generalizing := false) ret with
          | none => some (.inr (.inr none))
          | _ => none)
      | _ => none) = some z := hm
    split at hm
    · split at hm
      · cases hm
        exact ⟨_, rfl, rfl, Or.inr (Or.inr (Or.inr ⟨rfl, rfl, rfl⟩))⟩
      · cases hm
    · cases hm
theorem s_nret {ret : Option FieldType} {ex : List mE} {I : Instr} {n a1 b1 q1 pc : Nat} {L : mL} {S : List Value} {h : List mE} {z : Nat × mL × List Value × List mE} (hI : I = .ireturn ∨ I = .lreturn ∨ I = .areturn ∨ I = .return_) (hm : mx ret ex (I, n, a1, b1, q1) pc L S h = some (.inl z)) : False := by
  obtain ⟨v, hz, -⟩ := s_ret hI hm
  cases hz
section GS4
variable {p : Program} {l : Launch} {e : Env} {R : Room} {s : State} {m : MethodId} {args : Array Value} {below : List Frame} {meth : Method} {c : Code} {H : Heap} {locs : List Loc} {cells slots : Nat} {Q : State → Prop}
variable {pc : Nat} {ls : Array Slot} {ret : Option FieldType} {ex : List mE} {a1 b1 q1 : Nat} {L : mL} {S : List Value} {h : List mE} {pc' : Nat} {L' : mL} {S' : List Value} {h' : List mE} {xs : Nat → Nat} {b : Nat} {aC : Nat → ClassId} {D : va_G} {M : mMR}
theorem s_multi {i : Nat} (C : g_C xs b aC D ex p s m meth c M) (hW : g_W xs b aC D h H) (hS : va_S (g_A b) s.heap H locs) (hk : mpk M.2.2.2.2.1 q1 i a1 b1 [5] = true) (hd : decode M.2.1 pc = .ok (.multianewarray i 2, 4)) (hm : mx ret ex (.multianewarray i 2, 4, a1, b1, q1) pc L S h = some (.inl (pc', L', S', h'))) (hc : cells + (h'.length - h.length) ≤ R.cells) (hs : slots + (mhs h' - mhs h) ≤ R.slots)
    (kk : ∀ (H1 : Heap) (locs1 : List Loc), g_W xs b aC D h' H1 → va_S (g_A b) s.heap H1 locs1 → L' = L → W p l e R s m args below meth c H1 locs1 (cells + (h'.length - h.length)) (slots + (mhs h' - mhs h)) Q (F0 m pc' ls (S'.map (g_V (g_ad xs b))))) : W p l e R s m args below meth c H locs cells slots Q (F0 m pc ls (S.map (g_V (g_ad xs b)))) := by
  obtain ⟨hx, hb, -, hown, -, -, hnm, -, hE, hM⟩ := C
  obtain ⟨k, q2, v, hp, hk⟩ := mpk_of hk
  obtain ⟨own, l2, ho, hok⟩ := mow_pg hp
  have eo := mow_own hM ho
  subst eo
  simp only [List.mem_cons, List.not_mem_nil, or_false] at hk
  subst hk
  simp only [okP, decide_eq_true_eq] at hok
  replace hm : (match S with
      | .int k :: .int n :: T => if (¬ n < 0 ∧ n.toNatClampNeg ≤ 4000000) ∧ (¬ k < 0 ∧ k.toNatClampNeg ≤ 4000000) then
          mgo (pc + 4) L (.ref (h.length + 4) :: T) (h ++ (.inl (7, (n.toNatClampNeg, .inr (.inr (.inr (.inr (fun i => if i < n.toNatClampNeg then some (h.length + 4 + 1 + i) else none)))))) :: List.replicate n.toNatClampNeg (.inl (0, (k.toNatClampNeg, .inl (fun _ => 0))))))
          else none
      | _ => none) = some (.inl (pc', L', S', h')) := hm
  split at hm
  · rename_i k n T
    by_cases hn : (¬ n < 0 ∧ n.toNatClampNeg ≤ 4000000) ∧ (¬ k < 0 ∧ k.toNatClampNeg ≤ 4000000)
    · rw [if_pos hn] at hm
      simp only [mgo, Option.some.injEq, Sum.inl.injEq, Prod.mk.injEq] at hm
      obtain ⟨rfl, rfl, rfl, rfl⟩ := hm
      obtain ⟨⟨n1, n2⟩, k1, k2⟩ := hn
      have hl1 : ∀ (e0 : mE), (e0 :: List.replicate n.toNatClampNeg (Sum.inl (0, (k.toNatClampNeg, Sum.inl (fun _ => (0 : Int32)))) : mE)).length = 1 + n.toNatClampNeg := fun e0 => by simp; omega
      have hl2 : mhs ((.inl (7, (n.toNatClampNeg, .inr (.inr (.inr (.inr (fun i => if i < n.toNatClampNeg then some (h.length + 4 + 1 + i) else none)))))) : mE) :: List.replicate n.toNatClampNeg (.inl (0, (k.toNatClampNeg, .inl (fun _ => 0))))) = n.toNatClampNeg + n.toNatClampNeg * k.toNatClampNeg := by
        simp [mhs, msz, List.map_replicate, List.sum_replicate_nat]
      have hc2 := s_growc (hl1 _) hc
      have hs2 := s_grows hl2 hs
      refine x_mna (ty := .int) (cA := aC 7) (cy := aC 0) (z := (k.toNatClampNeg, .inl (fun _ => 0))) (D := D) (cl := vwCl) hx hb hown (hE.1 _ (mwd_in hok) rfl args) (hE.2.2.1 _ ck_am (Or.inr ⟨.int, rfl⟩) args) (hE.1 _ ck_ai rfl args) (s_aC hE (t := 0) rfl) (s_aC hE (t := 7) rfl) hS n1 k1 rfl rfl
        (Nat.le_trans (Nat.mul_le_mul_right _ n2) (Nat.le_of_ble_eq_true rfl)) (Nat.le_trans (Nat.mul_le_mul_right _ k2) (Nat.le_of_ble_eq_true rfl)) (Nat.le_trans k2 (Nat.le_of_ble_eq_true rfl)) rfl rfl hc2 hs2 (fun c => g_inn c _) hd (fun H1 z1 ha hr o1 hS1 => ?_)
      rw [g_ref hW]
      have hW1 := g_pushN (t := (.inl (7, (n.toNatClampNeg, .inr (.inr (.inr (.inr (fun i => if i < n.toNatClampNeg then some (h.length + 4 + 1 + i) else none)))))) : mE) :: List.replicate n.toNatClampNeg (.inl (0, (k.toNatClampNeg, .inl (fun _ => 0))))) hW (by rw [z1, hl1]) (fun j e0 he => ?_) o1
      · have kk := s_grow (hl1 _) hl2 (kk H1 locs hW1 hS1 rfl)
        rw [← Nat.add_assoc, ← Nat.add_assoc] at kk
        exact kk
      · cases j with
        | zero =>
          have e1 : (.inl (7, (n.toNatClampNeg, .inr (.inr (.inr (.inr (fun i => if i < n.toNatClampNeg then some (h.length + 4 + 1 + i) else none)))))) : mE) = e0 := by simpa using he
          subst e1
          have e2 : (fun j => (if j < n.toNatClampNeg then some (h.length + 4 + 1 + j) else none).map (g_ad xs b)) = (fun i => if i < n.toNatClampNeg then some (H.size + 1 + i) else none) := by
            funext j
            by_cases hj : j < n.toNatClampNeg
            · rw [if_pos hj, if_pos hj, Option.map_some, g_ad4 (by omega), hW.1]
              congr 1
              omega
            · rw [if_neg hj, if_neg hj]; rfl
          show va_at D vwCl (H.size + 0, .inl (aC 7, (n.toNatClampNeg, .inr (.inr (.inr (.inr (fun j => (if j < n.toNatClampNeg then some (h.length + 4 + 1 + j) else none).map (g_ad xs b)))))))) H1
          rw [e2]
          exact ha
        | succ j =>
          have he2 : (List.replicate n.toNatClampNeg (.inl (0, (k.toNatClampNeg, .inl (fun _ => 0))) : mE))[j]? = some e0 := by simpa using he
          have hj : j < n.toNatClampNeg := by simpa using (List.getElem?_eq_some_iff.mp he2).1
          have e1 := List.eq_of_mem_replicate (List.mem_of_getElem? he2)
          subst e1
          rw [show H.size + (j + 1) = H.size + 1 + j by omega]
          exact hr j hj
    · rw [if_neg hn] at hm; cases hm
  · cases hm
theorem s_objinit {i : Nat} (C : g_C xs b aC D ex p s m meth c M) (hL : g_H (g_ad xs b) ls L) (hl : L.length = M.2.2.1) (hR : 1 ≤ R.frames ∧ 20 ≤ R.locals) (hk : mpk M.2.2.2.2.1 q1 i 0 0 [9] = true) (hd : decode M.2.1 pc = .ok (.invokespecial i, 3)) (hm : mx ret ex (.pop2, 3, a1, b1, q1) pc L S h = some (.inl (pc', L', S', h'))) (kk : h' = h → L' = L → W p l e R s m args below meth c H locs cells slots Q (F0 m pc' ls (S'.map (g_V (g_ad xs b))))) : W p l e R s m args below meth c H locs cells slots Q (F0 m pc ls (S.map (g_V (g_ad xs b)))) := by
  obtain ⟨hx, hb, hml, hown, -, -, hnm, -, hE, hM⟩ := C
  obtain ⟨k, q2, v, hp, hk⟩ := mpk_of hk
  obtain ⟨own, l2, ho, hok⟩ := mow_pg hp
  have eo := mow_own hM ho
  subst eo
  simp only [List.mem_cons, List.not_mem_nil, or_false] at hk
  subst hk
  simp only [okP, decide_eq_true_eq] at hok
  replace hm : (match S with
      | .ref _ :: T => if mcat T ≤ 8 then mgo (pc + 3) L T h else none
      | _ => none) = some (.inl (pc', L', S', h')) := hm
  split at hm
  · rename_i q T
    by_cases h8 : mcat T ≤ 8
    · rw [if_pos h8] at hm
      simp only [mgo, Option.some.injEq, Sum.inl.injEq, Prod.mk.injEq] at hm
      obtain ⟨rfl, rfl, rfl, rfl⟩ := hm
      refine W.objInit hx hb hown (hE.1 _ (mwd_in hok) rfl args) (hE.1 _ ck_oi rfl args) (hE.1 _ ck_oc rfl args) rfl (by show ls.size = _; rw [hL.1, hl, hml]) rfl hd hR.1 ?_ (kk rfl rfl)
      rw [g_mcat]
      show 2 * 0 + mcat T + 12 ≤ R.locals
      have := hR.2
      omega
    · rw [if_neg h8] at hm; cases hm
  · cases hm
theorem mpv_of {o q i k : Nat} {v : Int} (h : mpv o q i k v = true) : ∃ a b q2, mPg o q = some (i, k, a, b, q2, v) := by
  unfold mpv at h
  split at h
  · rename_i i2 k2 a2 b2 q2 v2 hp
    simp only [Bool.and_eq_true, beq_iff_eq] at h
    obtain ⟨⟨rfl, rfl⟩, rfl⟩ := h
    exact ⟨a2, b2, q2, hp⟩
  · cases h
theorem g_cst {i : Nat} {v : Int} (hM : g_M M) (hE : g_Env xs b aC D ex s s.heap) (hk : mpv M.2.2.2.2.1 q1 i 6 v = true) : (Jvm.Cond.constant M.1.cls i (Int32.ofInt v)).before args s = true := by
  obtain ⟨a, b2, q2, hp⟩ := mpv_of hk
  obtain ⟨own, l2, ho, hok⟩ := mow_pg hp
  have eo := mow_own hM ho
  subst eo
  simp only [okP, decide_eq_true_eq] at hok
  exact hE.1 _ (mwd_in hok) rfl args
theorem g_csl {i : Nat} {v : Int} (hM : g_M M) (hE : g_Env xs b aC D ex s s.heap) (hk : mpv M.2.2.2.2.1 q1 i 7 v = true) : (Jvm.Cond.constantLong M.1.cls i (Int64.ofInt v)).before args s = true := by
  obtain ⟨a, b2, q2, hp⟩ := mpv_of hk
  obtain ⟨own, l2, ho, hok⟩ := mow_pg hp
  have eo := mow_own hM ho
  subst eo
  simp only [okP, decide_eq_true_eq] at hok
  exact hE.1 _ (mwd_in hok) rfl args
theorem g_stl {i : Nat} (hM : g_M M) (hE : g_Env xs b aC D ex s s.heap) (hk : mpk M.2.2.2.2.1 q1 i a1 b1 [8] = true) : ∃ Cn n d, mStc[a1]? = some (Cn, n, d) ∧ (Jvm.Cond.fieldLink M.1.cls i Cn n d).before args s = true := by
  obtain ⟨k, q2, v, hp, hk⟩ := mpk_of hk
  obtain ⟨own, l2, ho, hok⟩ := mow_pg hp
  have eo := mow_own hM ho
  subst eo
  simp only [List.mem_cons, List.not_mem_nil, or_false] at hk
  subst hk
  simp only [okP] at hok
  split at hok
  · rename_i Cn n d hst
    exact ⟨Cn, n, d, hst, hE.1 _ (mwd_in (of_decide_eq_true hok)) rfl args⟩
  · cases hok
theorem g_step {r : mR} (C : g_C xs b aC D ex p s m meth c M) (hW : g_W xs b aC D h H) (hS : va_S (g_A b) s.heap H locs) (hL : g_H (g_ad xs b) ls L) (hl : L.length = M.2.2.1) (hR : 1 ≤ R.frames ∧ 20 ≤ R.locals) (hk : okI M.2.2.2.2.1 M.1 M.2.1 pc r = true) (hm : mx ret ex r pc L S h = some (.inl (pc', L', S', h'))) (hc : cells + (h'.length - h.length) ≤ R.cells) (hs : slots + (mhs h' - mhs h) ≤ R.slots)
    (kk : ∀ (H1 : Heap) (locs1 : List Loc) (ls1 : Array Slot), g_W xs b aC D h' H1 → va_S (g_A b) s.heap H1 locs1 → g_H (g_ad xs b) ls1 L' → L'.length = L.length → W p l e R s m args below meth c H1 locs1 (cells + (h'.length - h.length)) (slots + (mhs h' - mhs h)) Q (F0 m pc' ls1 (S'.map (g_V (g_ad xs b))))) : W p l e R s m args below meth c H locs cells slots Q (F0 m pc ls (S.map (g_V (g_ad xs b)))) := by
  have k0 : h' = h → L' = L → W p l e R s m args below meth c H locs cells slots Q (F0 m pc' ls (S'.map (g_V (g_ad xs b)))) := fun e1 e2 => by
    subst e1; subst e2
    exact s_same rfl rfl (kk H locs ls hW hS hL rfl)
  have kS : ∀ ls1 : Array Slot, h' = h → L'.length = L.length → g_H (g_ad xs b) ls1 L' → W p l e R s m args below meth c H locs cells slots Q (F0 m pc' ls1 (S'.map (g_V (g_ad xs b)))) := fun ls1 e1 e2 w => by
    subst e1
    exact s_same rfl rfl (kk H locs ls1 hW hS w e2)
  have kG : ∀ (H1 : Heap) (locs1 : List Loc), g_W xs b aC D h' H1 → va_S (g_A b) s.heap H1 locs1 → L' = L → W p l e R s m args below meth c H1 locs1 (cells + (h'.length - h.length)) (slots + (mhs h' - mhs h)) Q (F0 m pc' ls (S'.map (g_V (g_ad xs b)))) := fun H1 locs1 w st e1 => by
    subst e1
    exact kk H1 locs1 ls w st hL rfl
  have C0 := C
  obtain ⟨hx, hb, hml, hown, -, -, hnm, -, hE, hM⟩ := C
  obtain ⟨I, n, a1, b1, q1⟩ := r
  simp only [okI] at hk
  split at hk
  · cases hk
  rename_i J n2 hd
  simp only [Bool.and_eq_true, beq_iff_eq, Bool.or_eq_true] at hk
  obtain ⟨⟨rfl, hlen⟩, hk⟩ := hk
  cases J with
  | iadd =>
    replace hlen : n2 = 1 := by simpa [mlen] using hlen
    subst hlen
    simp only [mnorm, Bool.and_eq_true, decide_eq_true_eq, Option.some.injEq] at hk
    obtain ⟨rfl, hj⟩ := hk
    exact s_iadd hx hb hd hm k0
  | isub =>
    replace hlen : n2 = 1 := by simpa [mlen] using hlen
    subst hlen
    simp only [mnorm, Bool.and_eq_true, decide_eq_true_eq, Option.some.injEq] at hk
    obtain ⟨rfl, hj⟩ := hk
    exact s_isub hx hb hd hm k0
  | imul =>
    replace hlen : n2 = 1 := by simpa [mlen] using hlen
    subst hlen
    simp only [mnorm, Bool.and_eq_true, decide_eq_true_eq, Option.some.injEq] at hk
    obtain ⟨rfl, hj⟩ := hk
    exact s_imul hx hb hd hm k0
  | iand =>
    replace hlen : n2 = 1 := by simpa [mlen] using hlen
    subst hlen
    simp only [mnorm, Bool.and_eq_true, decide_eq_true_eq, Option.some.injEq] at hk
    obtain ⟨rfl, hj⟩ := hk
    exact s_iand hx hb hd hm k0
  | ior =>
    replace hlen : n2 = 1 := by simpa [mlen] using hlen
    subst hlen
    simp only [mnorm, Bool.and_eq_true, decide_eq_true_eq, Option.some.injEq] at hk
    obtain ⟨rfl, hj⟩ := hk
    exact s_ior hx hb hd hm k0
  | ixor =>
    replace hlen : n2 = 1 := by simpa [mlen] using hlen
    subst hlen
    simp only [mnorm, Bool.and_eq_true, decide_eq_true_eq, Option.some.injEq] at hk
    obtain ⟨rfl, hj⟩ := hk
    exact s_ixor hx hb hd hm k0
  | ishl =>
    replace hlen : n2 = 1 := by simpa [mlen] using hlen
    subst hlen
    simp only [mnorm, Bool.and_eq_true, decide_eq_true_eq, Option.some.injEq] at hk
    obtain ⟨rfl, hj⟩ := hk
    exact s_ishl hx hb hd hm k0
  | ishr =>
    replace hlen : n2 = 1 := by simpa [mlen] using hlen
    subst hlen
    simp only [mnorm, Bool.and_eq_true, decide_eq_true_eq, Option.some.injEq] at hk
    obtain ⟨rfl, hj⟩ := hk
    exact s_ishr hx hb hd hm k0
  | iushr =>
    replace hlen : n2 = 1 := by simpa [mlen] using hlen
    subst hlen
    simp only [mnorm, Bool.and_eq_true, decide_eq_true_eq, Option.some.injEq] at hk
    obtain ⟨rfl, hj⟩ := hk
    exact s_iushr hx hb hd hm k0
  | idiv =>
    replace hlen : n2 = 1 := by simpa [mlen] using hlen
    subst hlen
    simp only [mnorm, Bool.and_eq_true, decide_eq_true_eq, Option.some.injEq] at hk
    obtain ⟨rfl, hj⟩ := hk
    exact s_idiv hx hb hd hm k0
  | irem =>
    replace hlen : n2 = 1 := by simpa [mlen] using hlen
    subst hlen
    simp only [mnorm, Bool.and_eq_true, decide_eq_true_eq, Option.some.injEq] at hk
    obtain ⟨rfl, hj⟩ := hk
    exact s_irem hx hb hd hm k0
  | ldiv =>
    replace hlen : n2 = 1 := by simpa [mlen] using hlen
    subst hlen
    simp only [mnorm, Bool.and_eq_true, decide_eq_true_eq, Option.some.injEq] at hk
    obtain ⟨rfl, hj⟩ := hk
    exact s_ldiv hx hb hd hm k0
  | lrem =>
    replace hlen : n2 = 1 := by simpa [mlen] using hlen
    subst hlen
    simp only [mnorm, Bool.and_eq_true, decide_eq_true_eq, Option.some.injEq] at hk
    obtain ⟨rfl, hj⟩ := hk
    exact s_lrem hx hb hd hm k0
  | ladd =>
    replace hlen : n2 = 1 := by simpa [mlen] using hlen
    subst hlen
    simp only [mnorm, Bool.and_eq_true, decide_eq_true_eq, Option.some.injEq] at hk
    obtain ⟨rfl, hj⟩ := hk
    exact s_ladd hx hb hd hm k0
  | lsub =>
    replace hlen : n2 = 1 := by simpa [mlen] using hlen
    subst hlen
    simp only [mnorm, Bool.and_eq_true, decide_eq_true_eq, Option.some.injEq] at hk
    obtain ⟨rfl, hj⟩ := hk
    exact s_lsub hx hb hd hm k0
  | lmul =>
    replace hlen : n2 = 1 := by simpa [mlen] using hlen
    subst hlen
    simp only [mnorm, Bool.and_eq_true, decide_eq_true_eq, Option.some.injEq] at hk
    obtain ⟨rfl, hj⟩ := hk
    exact s_lmul hx hb hd hm k0
  | lcmp =>
    replace hlen : n2 = 1 := by simpa [mlen] using hlen
    subst hlen
    simp only [mnorm, Bool.and_eq_true, decide_eq_true_eq, Option.some.injEq] at hk
    obtain ⟨rfl, hj⟩ := hk
    exact s_lcmp hx hb hd hm k0
  | ineg =>
    replace hlen : n2 = 1 := by simpa [mlen] using hlen
    subst hlen
    simp only [mnorm, Bool.and_eq_true, decide_eq_true_eq, Option.some.injEq] at hk
    obtain ⟨rfl, hj⟩ := hk
    exact s_ineg hx hb hd hm k0
  | i2l =>
    replace hlen : n2 = 1 := by simpa [mlen] using hlen
    subst hlen
    simp only [mnorm, Bool.and_eq_true, decide_eq_true_eq, Option.some.injEq] at hk
    obtain ⟨rfl, hj⟩ := hk
    exact s_i2l hx hb hd hm k0
  | i2b =>
    replace hlen : n2 = 1 := by simpa [mlen] using hlen
    subst hlen
    simp only [mnorm, Bool.and_eq_true, decide_eq_true_eq, Option.some.injEq] at hk
    obtain ⟨rfl, hj⟩ := hk
    exact s_i2b hx hb hd hm k0
  | l2i =>
    replace hlen : n2 = 1 := by simpa [mlen] using hlen
    subst hlen
    simp only [mnorm, Bool.and_eq_true, decide_eq_true_eq, Option.some.injEq] at hk
    obtain ⟨rfl, hj⟩ := hk
    exact s_l2i hx hb hd hm k0
  | pop =>
    replace hlen : n2 = 1 := by simpa [mlen] using hlen
    subst hlen
    simp only [mnorm, Bool.and_eq_true, decide_eq_true_eq, Option.some.injEq] at hk
    obtain ⟨rfl, hj⟩ := hk
    exact s_pop hx hb hd hm k0
  | dup =>
    replace hlen : n2 = 1 := by simpa [mlen] using hlen
    subst hlen
    simp only [mnorm, Bool.and_eq_true, decide_eq_true_eq, Option.some.injEq] at hk
    obtain ⟨rfl, hj⟩ := hk
    exact s_dup hx hb hd hm k0
  | dup_x1 =>
    replace hlen : n2 = 1 := by simpa [mlen] using hlen
    subst hlen
    simp only [mnorm, Bool.and_eq_true, decide_eq_true_eq, Option.some.injEq] at hk
    obtain ⟨rfl, hj⟩ := hk
    exact s_dup_x1 hx hb hd hm k0
  | dup2 =>
    replace hlen : n2 = 1 := by simpa [mlen] using hlen
    subst hlen
    simp only [mnorm, Bool.and_eq_true, decide_eq_true_eq, Option.some.injEq] at hk
    obtain ⟨rfl, hj⟩ := hk
    exact s_dup2 hx hb hd hm k0
  | aconst_null =>
    replace hlen : n2 = 1 := by simpa [mlen] using hlen
    subst hlen
    simp only [mnorm, Bool.and_eq_true, decide_eq_true_eq, Option.some.injEq] at hk
    obtain ⟨rfl, hj⟩ := hk
    exact s_aconst_null hx hb hd hm k0
  | iload_n k =>
    replace hlen : n2 = 1 := by simpa [mlen] using hlen
    subst hlen
    simp only [mnorm, Bool.and_eq_true, decide_eq_true_eq, Option.some.injEq] at hk
    obtain ⟨rfl, hj⟩ := hk
    exact s_iload_n hx hb hL hd hm k0
  | lload_n k =>
    replace hlen : n2 = 1 := by simpa [mlen] using hlen
    subst hlen
    simp only [mnorm, Bool.and_eq_true, decide_eq_true_eq, Option.some.injEq] at hk
    obtain ⟨rfl, hj⟩ := hk
    exact s_lload_n hx hb hL hd hm k0
  | aload_n k =>
    replace hlen : n2 = 1 := by simpa [mlen] using hlen
    subst hlen
    simp only [mnorm, Bool.and_eq_true, decide_eq_true_eq, Option.some.injEq] at hk
    obtain ⟨rfl, hj⟩ := hk
    exact s_aload_n hx hb hL hd hm k0
  | iload k =>
    replace hlen : n2 = 2 := by simpa [mlen] using hlen
    subst hlen
    simp only [mnorm, Bool.and_eq_true, decide_eq_true_eq, Option.some.injEq] at hk
    obtain ⟨rfl, hj⟩ := hk
    exact s_iload hx hb hL hd hm k0
  | lload k =>
    replace hlen : n2 = 2 := by simpa [mlen] using hlen
    subst hlen
    simp only [mnorm, Bool.and_eq_true, decide_eq_true_eq, Option.some.injEq] at hk
    obtain ⟨rfl, hj⟩ := hk
    exact s_lload hx hb hL hd hm k0
  | aload k =>
    replace hlen : n2 = 2 := by simpa [mlen] using hlen
    subst hlen
    simp only [mnorm, Bool.and_eq_true, decide_eq_true_eq, Option.some.injEq] at hk
    obtain ⟨rfl, hj⟩ := hk
    exact s_aload hx hb hL hd hm k0
  | istore_n k =>
    replace hlen : n2 = 1 := by simpa [mlen] using hlen
    subst hlen
    simp only [mnorm, Bool.and_eq_true, decide_eq_true_eq, Option.some.injEq] at hk
    obtain ⟨rfl, hj⟩ := hk
    exact s_istore_n hx hb hL hd hm kS
  | lstore_n k =>
    replace hlen : n2 = 1 := by simpa [mlen] using hlen
    subst hlen
    simp only [mnorm, Bool.and_eq_true, decide_eq_true_eq, Option.some.injEq] at hk
    obtain ⟨rfl, hj⟩ := hk
    exact s_lstore_n hx hb hL hd hm kS
  | astore_n k =>
    replace hlen : n2 = 1 := by simpa [mlen] using hlen
    subst hlen
    simp only [mnorm, Bool.and_eq_true, decide_eq_true_eq, Option.some.injEq] at hk
    obtain ⟨rfl, hj⟩ := hk
    exact s_astore_n hx hb hL hd hm kS
  | istore k =>
    replace hlen : n2 = 2 := by simpa [mlen] using hlen
    subst hlen
    simp only [mnorm, Bool.and_eq_true, decide_eq_true_eq, Option.some.injEq] at hk
    obtain ⟨rfl, hj⟩ := hk
    exact s_istore hx hb hL hd hm kS
  | lstore k =>
    replace hlen : n2 = 2 := by simpa [mlen] using hlen
    subst hlen
    simp only [mnorm, Bool.and_eq_true, decide_eq_true_eq, Option.some.injEq] at hk
    obtain ⟨rfl, hj⟩ := hk
    exact s_lstore hx hb hL hd hm kS
  | astore k =>
    replace hlen : n2 = 2 := by simpa [mlen] using hlen
    subst hlen
    simp only [mnorm, Bool.and_eq_true, decide_eq_true_eq, Option.some.injEq] at hk
    obtain ⟨rfl, hj⟩ := hk
    exact s_astore hx hb hL hd hm kS
  | iinc i k =>
    replace hlen : n2 = 3 := by simpa [mlen] using hlen
    subst hlen
    simp only [mnorm, Bool.and_eq_true, decide_eq_true_eq, Option.some.injEq] at hk
    obtain ⟨rfl, hj⟩ := hk
    exact s_iinc hx hb hL hd hm kS
  | iconst k =>
    replace hlen : n2 = 1 := by simpa [mlen] using hlen
    subst hlen
    simp only [mnorm, Bool.and_eq_true, decide_eq_true_eq, Option.some.injEq] at hk
    obtain ⟨rfl, hj⟩ := hk
    exact s_iconst hx hb hd hm k0
  | lconst k =>
    replace hlen : n2 = 1 := by simpa [mlen] using hlen
    subst hlen
    simp only [mnorm, Bool.and_eq_true, decide_eq_true_eq, Option.some.injEq] at hk
    obtain ⟨rfl, hj⟩ := hk
    exact s_lconst hx hb hd hm k0
  | bipush v =>
    replace hlen : n2 = 2 := by simpa [mlen] using hlen
    subst hlen
    rw [Bool.and_eq_true] at hk
    obtain ⟨hk, hj⟩ := hk
    replace hk := of_decide_eq_true hk
    simp only [mnorm] at hk
    by_cases hv : (Int8.ofInt v).toInt32 = Int32.ofInt v
    · rw [if_pos hv] at hk
      cases hk
      exact s_bipush hx hb hv hd hm k0
    · rw [if_neg hv] at hk
      cases hk
  | sipush v =>
    replace hlen : n2 = 3 := by simpa [mlen] using hlen
    subst hlen
    rw [Bool.and_eq_true] at hk
    obtain ⟨hk, hj⟩ := hk
    replace hk := of_decide_eq_true hk
    simp only [mnorm] at hk
    by_cases hv : (Int16.ofInt v).toInt32 = Int32.ofInt v
    · rw [if_pos hv] at hk
      cases hk
      exact s_sipush hx hb hv hd hm k0
    · rw [if_neg hv] at hk
      cases hk
  | ifCond cn off =>
    replace hlen : n2 = 3 := by simpa [mlen] using hlen
    subst hlen
    simp only [mnorm, mjok, Bool.and_eq_true, decide_eq_true_eq, Option.some.injEq] at hk
    obtain ⟨rfl, hj⟩ := hk
    exact s_ifCond hx hb hj hd hm k0
  | if_icmp cn off =>
    replace hlen : n2 = 3 := by simpa [mlen] using hlen
    subst hlen
    simp only [mnorm, mjok, Bool.and_eq_true, decide_eq_true_eq, Option.some.injEq] at hk
    obtain ⟨rfl, hj⟩ := hk
    exact s_if_icmp hx hb hj hd hm k0
  | if_acmp cn off =>
    replace hlen : n2 = 3 := by simpa [mlen] using hlen
    subst hlen
    simp only [mnorm, mjok, Bool.and_eq_true, decide_eq_true_eq, Option.some.injEq] at hk
    obtain ⟨rfl, hj⟩ := hk
    exact s_if_acmp hx hb hj hd hm k0
  | ifnull off =>
    replace hlen : n2 = 3 := by simpa [mlen] using hlen
    subst hlen
    simp only [mnorm, mjok, Bool.and_eq_true, decide_eq_true_eq, Option.some.injEq] at hk
    obtain ⟨rfl, hj⟩ := hk
    exact s_ifnull hx hb hj hd hm k0
  | ifnonnull off =>
    replace hlen : n2 = 3 := by simpa [mlen] using hlen
    subst hlen
    simp only [mnorm, mjok, Bool.and_eq_true, decide_eq_true_eq, Option.some.injEq] at hk
    obtain ⟨rfl, hj⟩ := hk
    exact s_ifnonnull hx hb hj hd hm k0
  | goto off =>
    replace hlen : n2 = 3 := by simpa [mlen] using hlen
    subst hlen
    simp only [mnorm, mjok, Bool.and_eq_true, decide_eq_true_eq, Option.some.injEq] at hk
    obtain ⟨rfl, hj⟩ := hk
    exact s_goto hx hb hj hd hm k0
  | tableswitch d lo hi os =>
    rw [Bool.and_eq_true, decide_eq_true_eq] at hk
    obtain ⟨hk, hj⟩ := hk
    cases hk
    exact s_tableswitch hx hb hj hd hm k0
  | lookupswitch d ps =>
    rw [Bool.and_eq_true, decide_eq_true_eq] at hk
    obtain ⟨hk, hj⟩ := hk
    cases hk
    exact s_lookupswitch hx hb hj hd hm k0
  | iaload =>
    replace hlen : n2 = 1 := by simpa [mlen] using hlen
    subst hlen
    simp only [mnorm, Bool.and_eq_true, decide_eq_true_eq, Option.some.injEq] at hk
    obtain ⟨rfl, hj⟩ := hk
    exact s_iaload hx hb hS hE hW hd hm k0
  | laload =>
    replace hlen : n2 = 1 := by simpa [mlen] using hlen
    subst hlen
    simp only [mnorm, Bool.and_eq_true, decide_eq_true_eq, Option.some.injEq] at hk
    obtain ⟨rfl, hj⟩ := hk
    exact s_laload hx hb hS hE hW hd hm k0
  | baload =>
    replace hlen : n2 = 1 := by simpa [mlen] using hlen
    subst hlen
    simp only [mnorm, Bool.and_eq_true, decide_eq_true_eq, Option.some.injEq] at hk
    obtain ⟨rfl, hj⟩ := hk
    exact s_baload hx hb hE hW hd hm k0
  | aaload =>
    replace hlen : n2 = 1 := by simpa [mlen] using hlen
    subst hlen
    simp only [mnorm, Bool.and_eq_true, decide_eq_true_eq, Option.some.injEq] at hk
    obtain ⟨rfl, hj⟩ := hk
    exact s_aaload hx hb hE hW hd hm k0
  | arraylength =>
    replace hlen : n2 = 1 := by simpa [mlen] using hlen
    subst hlen
    simp only [mnorm, Bool.and_eq_true, decide_eq_true_eq, Option.some.injEq] at hk
    obtain ⟨rfl, hj⟩ := hk
    exact s_arraylength hx hb hS hE hW hd hm k0
  | iastore =>
    replace hlen : n2 = 1 := by simpa [mlen] using hlen
    subst hlen
    simp only [mnorm, Bool.and_eq_true, decide_eq_true_eq, Option.some.injEq] at hk
    obtain ⟨rfl, hj⟩ := hk
    exact s_iastore C0 hW hS hd hm kG
  | lastore =>
    replace hlen : n2 = 1 := by simpa [mlen] using hlen
    subst hlen
    simp only [mnorm, Bool.and_eq_true, decide_eq_true_eq, Option.some.injEq] at hk
    obtain ⟨rfl, hj⟩ := hk
    exact s_lastore C0 hW hS hd hm kG
  | bastore =>
    replace hlen : n2 = 1 := by simpa [mlen] using hlen
    subst hlen
    simp only [mnorm, Bool.and_eq_true, decide_eq_true_eq, Option.some.injEq] at hk
    obtain ⟨rfl, hj⟩ := hk
    exact s_bastore C0 hW hS hd hm kG
  | aastore =>
    replace hlen : n2 = 1 := by simpa [mlen] using hlen
    subst hlen
    simp only [mnorm, Bool.and_eq_true, decide_eq_true_eq, Option.some.injEq] at hk
    obtain ⟨rfl, hj⟩ := hk
    exact s_aastore C0 hW hS hd hm kG
  | newarray t =>
    replace hlen : n2 = 2 := by simpa [mlen] using hlen
    subst hlen
    simp only [mnorm, Bool.and_eq_true, decide_eq_true_eq, Option.some.injEq] at hk
    obtain ⟨rfl, hj⟩ := hk
    exact s_newarray C0 hW hS hd hm hc hs kG
  | getfield i =>
    replace hlen : n2 = 3 := by simpa [mlen] using hlen
    subst hlen
    dsimp only at hk
    split at hk
    · rename_i k
      rw [Bool.and_eq_true, beq_iff_eq] at hk
      obtain ⟨rfl, hk⟩ := hk
      exact s_getfield C0 hW hk hd hm k0
    · cases hk
  | putfield i =>
    replace hlen : n2 = 3 := by simpa [mlen] using hlen
    subst hlen
    dsimp only at hk
    split at hk
    · rename_i k
      rw [Bool.and_eq_true, beq_iff_eq] at hk
      obtain ⟨rfl, hk⟩ := hk
      exact s_putfield C0 hW hS hk hd hm kG
    · cases hk
  | getstatic i =>
    replace hlen : n2 = 3 := by simpa [mlen] using hlen
    subst hlen
    dsimp only at hk
    split at hk
    · rename_i k
      rw [Bool.and_eq_true, beq_iff_eq] at hk
      obtain ⟨rfl, hk⟩ := hk
      obtain ⟨Cn, nn, dd, h1, h2⟩ := g_stl (args := args) hM hE hk
      exact s_getstatic hx hb hown hS hE.2.2.2.2.2 h1 h2 hd hm k0
    · cases hk
  | new i =>
    replace hlen : n2 = 3 := by simpa [mlen] using hlen
    subst hlen
    dsimp only at hk
    split at hk
    · rename_i k
      rw [Bool.and_eq_true, beq_iff_eq] at hk
      obtain ⟨rfl, hk⟩ := hk
      exact s_new C0 hW hS hk hd hm hc hs kG
    · cases hk
  | anewarray i =>
    replace hlen : n2 = 3 := by simpa [mlen] using hlen
    subst hlen
    dsimp only at hk
    split at hk
    · rename_i k
      rw [Bool.and_eq_true, beq_iff_eq] at hk
      obtain ⟨rfl, hk⟩ := hk
      exact s_anewarray C0 hW hS hk hd hm hc hs kG
    · cases hk
  | multianewarray i d =>
    replace hlen : n2 = 4 := by simpa [mlen] using hlen
    subst hlen
    dsimp only at hk
    split at hk
    · rename_i k e2
      simp only [Bool.and_eq_true, beq_iff_eq] at hk
      obtain ⟨⟨⟨rfl, rfl⟩, rfl⟩, hk⟩ := hk
      exact s_multi C0 hW hS hk hd hm hc hs kG
    · cases hk
  | ldc i =>
    replace hlen : n2 = 2 := by simpa [mlen] using hlen
    subst hlen
    dsimp only at hk
    split at hk
    · rename_i v
      exact s_ldc hx hb hown (g_cst hM hE hk) hd hm k0
    · cases hk
  | ldc_w i =>
    replace hlen : n2 = 3 := by simpa [mlen] using hlen
    subst hlen
    dsimp only at hk
    split at hk
    · rename_i v
      exact s_ldc_w hx hb hown (g_cst hM hE hk) hd hm k0
    · cases hk
  | ldc2_w i =>
    replace hlen : n2 = 3 := by simpa [mlen] using hlen
    subst hlen
    dsimp only at hk
    split at hk
    · rename_i v
      exact s_ldc2_w hx hb hown (g_csl hM hE hk) hd hm k0
    · cases hk
  | invokespecial i =>
    replace hlen : n2 = 3 := by simpa [mlen] using hlen
    subst hlen
    dsimp only at hk
    split at hk
    · exfalso
      replace hm : (match mtake b1 S [] with
        | some (as, .ref q :: T) => if mcat T ≤ 8 then mcall a1 (.ref q :: as) T else none
        | _ => none) = some (.inl (pc', L', S', h')) := hm
      split at hm
      · split at hm <;> simp [mcall] at hm
      · cases hm
    · exact s_objinit C0 hL hl hR hk hd hm k0
    · cases hk
  | invokevirtual i =>
    exfalso
    dsimp only at hk
    split at hk
    · replace hm : (match mtake b1 S [] with
        | some (as, .ref q :: T) => (match mown h q, mrec a1 with
          | some (.inr (ci, _)), some R => if ci = R.2.2.2.2.1 ∧ mcat T ≤ 8 then mcall a1 (.ref q :: as) T else none
          | _, _ => none)
        | _ => none) = some (.inl (pc', L', S', h')) := hm
      split at hm
      · split at hm
        · split at hm <;> simp [mcall] at hm
        · cases hm
      · cases hm
    · cases hk
  | invokestatic i =>
    exfalso
    dsimp only at hk
    split at hk
    · replace hm : (match mtake b1 S [] with
        | some (as, T) => if mcat T ≤ 8 then mcall a1 as T else none
        | none => none) = some (.inl (pc', L', S', h')) := hm
      split at hm
      · split at hm <;> simp [mcall] at hm
      · cases hm
    · cases hk
  | pop2 => cases hk
  | jsr_w _ => cases hk
  | ireturn =>
    exfalso
    simp only [mnorm, Bool.and_eq_true, decide_eq_true_eq, Option.some.injEq] at hk
    obtain ⟨rfl, hj⟩ := hk
    exact s_nret (Or.inl rfl) hm
  | lreturn =>
    exfalso
    simp only [mnorm, Bool.and_eq_true, decide_eq_true_eq, Option.some.injEq] at hk
    obtain ⟨rfl, hj⟩ := hk
    exact s_nret (Or.inr (Or.inl rfl)) hm
  | areturn =>
    exfalso
    simp only [mnorm, Bool.and_eq_true, decide_eq_true_eq, Option.some.injEq] at hk
    obtain ⟨rfl, hj⟩ := hk
    exact s_nret (Or.inr (Or.inr (Or.inl rfl))) hm
  | return_ =>
    exfalso
    simp only [mnorm, Bool.and_eq_true, decide_eq_true_eq, Option.some.injEq] at hk
    obtain ⟨rfl, hj⟩ := hk
    exact s_nret (Or.inr (Or.inr (Or.inr rfl))) hm
  | _ =>
    exfalso
    simp only [mnorm, Bool.and_eq_true, decide_eq_true_eq, Option.some.injEq] at hk
    obtain ⟨rfl, hj⟩ := hk
    cases hm
end GS4
end
section
/-! A RUN OF THE SMALL MACHINE IS A RUN OF THE REAL ONE -/
theorem mtake_spec : ∀ (n : Nat) (S acc as T : List Value), mtake n S acc = some (as, T) → ∃ zs, zs.length = n ∧ S = zs ++ T ∧ as = zs.reverse ++ acc
  | 0, S, acc, as, T, h => by
    simp only [mtake, Option.some.injEq, Prod.mk.injEq] at h
    obtain ⟨rfl, rfl⟩ := h
    exact ⟨[], rfl, rfl, rfl⟩
  | n + 1, [], acc, as, T, h => by cases h
  | n + 1, v :: S, acc, as, T, h => by
    obtain ⟨zs, h1, h2, h3⟩ := mtake_spec n S (v :: acc) as T h
    refine ⟨v :: zs, by simp [h1], by simp [h2], ?_⟩
    rw [h3]
    simp
theorem mtake_0 {n : Nat} {S as T : List Value} (h : mtake n S [] = some (as, T)) : as.length = n ∧ S = as.reverse ++ T := by
  obtain ⟨zs, h1, h2, h3⟩ := mtake_spec n S [] as T h
  rw [List.append_nil] at h3
  subst h3
  exact ⟨by simp [h1], by simp [h2]⟩
def g_ws (M : mMR) : List Jvm.Cond := .code M.1 M.2.1 M.2.2.1 M.2.2.2.1 :: lw_tbl.filter goodWord
def g_rm (d mc ms : Nat) : Room := { frames := d + 1, cells := mc, slots := ms, locals := 64 * (d + 1) }
/-- what a call finds, and leaves -/
def g_Pc (xs : Nat → Nat) (b : Nat) (aC : Nat → ClassId) (D : va_G) (ex : List mE) (as : List Value) (h : List mE) : Array Value → State → Prop := va_Pc (as.map (g_V (g_ad xs b))) (fun U => g_W xs b aC D h U.heap ∧ g_Env xs b aC D ex U U.heap)
def g_Qc (xs : Nat → Nat) (b : Nat) (aC : Nat → ClassId) (D : va_G) (v : Option Value) (h1 : List mE) : Array Value → State → Outcome → State → Prop := fun _ st oc t => oc = .returned (v.map (g_V (g_ad xs b))) ∧ g_W xs b aC D h1 t.heap ∧ va_F (g_A b) st t
/-- what a run of fuel f is worth -/
def g_Sim (ex : List mE) (f : Nat) : Prop := ∀ (d mi pc : Nat) (L : mL) (S : List Value) (h : List mE) (v : Option Value) (h1 : List mE), mrun ex f d mi pc L S h = some (v, h1) → h.length ≤ h1.length ∧ mhs h ≤ mhs h1 ∧
  ∀ (p : Program) (l : Launch) (e : Env) (R : Room) (s : State) (m : MethodId) (args : Array Value) (below : List Frame) (meth : Method) (c : Code) (H : Heap) (locs : List Loc) (cells slots : Nat) (Q : State → Prop) (ls : Array Slot) (xs : Nat → Nat) (b : Nat) (aC : Nat → ClassId) (D : va_G) (M : mMR),
    mrec mi = some M → g_C xs b aC D ex p s m meth c M → d + 1 ≤ R.frames → 64 * (d + 1) ≤ R.locals → g_W xs b aC D h H → va_S (g_A b) s.heap H locs → g_H (g_ad xs b) ls L → L.length = M.2.2.1 → cells + (h1.length - h.length) ≤ R.cells → slots + (mhs h1 - mhs h) ≤ R.slots →
    (∀ (H1 : Heap) (locs1 : List Loc) (ls1 : Array Slot) (pc1 : Nat) (I : Instr), g_W xs b aC D h1 H1 → va_S (g_A b) s.heap H1 locs1 → decode M.2.1 pc1 = .ok (I, 1) → g_ret I M.2.2.2.1 v → W p l e R s m args below meth c H1 locs1 (cells + (h1.length - h.length)) (slots + (mhs h1 - mhs h)) Q (F0 m pc1 ls1 (v.map (g_V (g_ad xs b))).toList)) →
    W p l e R s m args below meth c H locs cells slots Q (F0 m pc ls (S.map (g_V (g_ad xs b))))
section GSIM
variable {p : Program} {l : Launch} {e : Env} {R : Room} {s : State} {m : MethodId} {args : Array Value} {below : List Frame} {meth : Method} {c : Code} {H : Heap} {locs : List Loc} {cells slots : Nat} {Q : State → Prop}
variable {pc : Nat} {ls : Array Slot} {ex : List mE} {xs : Nat → Nat} {b : Nat} {aC : Nat → ClassId} {D : va_G} {M : mMR}
theorem x_call {h1 : List mE} {v : Option Value} {mc ms : Nat} {Qa : State → Outcome → State → Prop} {free : Addr → Prop} {rest st0 : List Value} {H0 : Heap} (hr : va_Run p l e R s m args below meth c H locs cells slots mc ms (F0 m pc ls st0) rest Qa free) (hQ : ∀ (st : State) (oc : Outcome) (t : State), st.heap = H → Qa st oc t → oc = .returned v ∧ g_W xs b aC D h1 t.heap ∧ va_F (g_A b) st t) (hS : va_S (g_A b) H0 H locs) (hf : ∀ q, free q → g_A b q)
    (kk : ∀ (H1 : Heap) (locs1 : List Loc), g_W xs b aC D h1 H1 → va_S (g_A b) H0 H1 locs1 → W p l e R s m args below meth c H1 locs1 (cells + mc) (slots + ms) Q (F0 m (pc + 3) ls (v.toList ++ rest))) : W p l e R s m args below meth c H locs cells slots Q (F0 m pc ls st0) := by
  intro T hT X
  obtain ⟨v', st₀, t, T', L, h0, X', hL, e1, e2, hq, st⟩ := hr T hT X
  obtain ⟨hv, hw, hz, hk⟩ := hQ st₀ _ t h0 hq
  have hv := (Outcome.returned.inj hv)
  subst hv
  rw [h0] at hz hk
  obtain ⟨t2, a1, b1⟩ := kk T'.heap (locs ++ L) (by rw [e1]; exact hw)
    ⟨Nat.le_trans hS.1 (by rw [e1]; exact hz), fun q h1 h2 => by rw [e1, hk q (Nat.lt_of_lt_of_le h1 hS.1) h2]; exact hS.2.1 q h1 h2, fun q hq => by
      rcases List.mem_append.mp hq with h | h
      · exact hS.2.2 q h
      · exact hf _ (hL q h)⟩ T' rfl X'
  exact ⟨t2, st t2 a1, b1⟩
theorem g_met {f d mi : Nat} {as : List Value} {h h1 : List mE} {v : Option Value} (hf : g_Sim ex f) (hrun : mrun ex f d mi 0 (lent as M.2.2.1) [] h = some (v, h1)) (hm : mrec mi = some M) (hM : g_M M) (hMW : g_MW M) (hlen : (lent1 as).length ≤ M.2.2.1) :
    Met l M.1 (g_ws M) (g_rm d (h1.length - h.length) (mhs h1 - mhs h)) (g_Pc xs b aC D ex as h) (g_Qc xs b aC D v h1) (h1.length - h.length) (mhs h1 - mhs h) (g_A b) := by
  refine Met.ofW (cc := M.2.1) (maxL := M.2.2.1) (ret := M.2.2.2.1) hMW.2.2.2.1 rfl ?_
  intro p e s m args below meth c s₁ B hml hv
  obtain ⟨rfl, hW, hE⟩ := hv
  have hL := g_ent (g := g_ad xs b) hlen
  rw [lg_entry_eq]
  obtain ⟨-, -, hsim⟩ := hf d mi 0 _ [] h v h1 hrun
  have hC : g_C xs b aC D ex p s m meth c M := ⟨B.exec, B.bytes, hml, findClass_of_methodNamed B.named, B.returns, B.notSynchronized, fun _ => (name_of_methodNamed B.named B.method).1, by rw [hW.1]; omega, hE, hM⟩
  refine hsim p l e _ s m _ below meth c s.heap [] 0 0 _ _ xs b aC D M hm hC (Nat.le_refl _) (Nat.le_refl _) hW va_S.rf hL (lent_len hlen) (by show 0 + _ ≤ h1.length - h.length; omega) (by show 0 + _ ≤ mhs h1 - mhs h; omega) ?_
  intro H1 locs1 ls1 pc1 I hW1 hS1 hd hr
  rw [Nat.zero_add, Nat.zero_add]
  have hfr : ∀ t : State, t.heap = H1 → g_Qc xs b aC D v h1 (as.map (g_V (g_ad xs b))).toArray s (.returned (v.map (g_V (g_ad xs b)))) t := fun t ht => ⟨rfl, by rw [ht]; exact hW1, hS1.F ht⟩
  rcases hr with ⟨rfl, z, rfl, hr⟩ | ⟨rfl, hr, z, rfl⟩ | ⟨rfl, hr, hz⟩ | ⟨rfl, hr, rfl⟩
  · rcases hr with hr | ⟨hr, hz⟩
    · exact W.iret B.exec B.bytes (B.returns.trans hr) (fun t ht _ => hfr t ht) hS1.2.2 hd B.notSynchronized
    · exact W.zret B.exec B.bytes (B.returns.trans hr) (x_vt z hz) (fun t ht _ => hfr t ht) hS1.2.2 hd B.notSynchronized
  · exact W.lret B.exec B.bytes (B.returns.trans hr) (fun t ht _ => hfr t ht) hS1.2.2 hd B.notSynchronized
  · obtain ⟨rt, hrt, hrr⟩ : ∃ rt, M.2.2.2.1 = some rt ∧ ((∃ n, rt = .object n) ∨ ∃ t, rt = .array t) := by
      rcases hr with ⟨C, hr⟩ | ⟨t, hr⟩
      · exact ⟨_, hr, Or.inl ⟨C, rfl⟩⟩
      · exact ⟨_, hr, Or.inr ⟨t, rfl⟩⟩
    rcases hz with rfl | ⟨q, rfl⟩
    · exact W.aret B.exec B.bytes (B.returns.trans hrt) hrr (Or.inl rfl) (fun t ht _ => hfr t ht) hS1.2.2 hd B.notSynchronized
    · exact W.aret B.exec B.bytes (B.returns.trans hrt) hrr (Or.inr ⟨_, rfl⟩) (fun t ht _ => hfr t ht) hS1.2.2 hd B.notSynchronized
  · exact W.vret B.exec B.bytes (B.returns.trans hr) (fun t ht _ => hfr t ht) hS1.2.2 hd B.notSynchronized
theorem g_good {M' : mMR} (hMW : g_MW M') (hcw : goodWord (Jvm.Cond.code M'.1 M'.2.1 M'.2.2.1 M'.2.2.2.1) = true) : GoodIn (lw_tbl.filter goodWord) (g_ws M') := by
  intro w hw
  rcases List.mem_cons.mp hw with rfl | hw
  · exact ⟨List.mem_filter.mpr ⟨hMW.1, hcw⟩, good_of_word hcw⟩
  · exact ⟨hw, good_of_word (List.mem_filter.mp hw).2⟩
theorem g_pcb {as : List Value} {h : List mE} : FrameBlind (g_Pc xs b aC D ex as h) := fun _ _ _ _ q => ⟨q.1, q.2.1, g_blind q.2.2⟩
theorem g_pcs {as : List Value} {h : List mE} (hE : g_Env xs b aC D ex s s.heap) (hW : g_W xs b aC D h H) (hS : va_S (g_A b) s.heap H locs) : ∀ U : State, U.heap = H → s.WarmedH U.vm → g_Pc xs b aC D ex as h (as.map (g_V (g_ad xs b))).toArray U := fun U hU hw => ⟨rfl, by rw [hU]; exact hW, by rw [hU]; exact g_warm hE hw (fun a h1 h2 => hS.2.1 a h1 h2)⟩
/-- the link of a call -/
theorem g_lm {q i a : Nat} {M' : mMR} (hM : g_M M) (hE : g_Env xs b aC D ex s s.heap) (hm : mrec a = some M') (hk : mpk M.2.2.2.2.1 q i a 0 [2, 3] = true) : (Jvm.Cond.methodLink M.1.cls i M'.1).before args s = true ∨ ∃ host, va_Nw (.methodLinkNest M.1.cls i M'.1 host) s := by
  obtain ⟨k, q2, v, hp, hk⟩ := mpk_of hk
  obtain ⟨own, l2, ho, hok⟩ := mow_pg hp
  have eo := mow_own hM ho
  subst eo
  simp only [List.mem_cons, List.not_mem_nil, or_false] at hk
  rcases hk with rfl | rfl
  · simp only [okP, hm, decide_eq_true_eq] at hok
    exact Or.inl (hE.1 _ (mwd_in hok) rfl args)
  · simp only [okP, hm] at hok
    split at hok
    · rename_i o2 i2 y host hR hw
      cases hR
      simp only [Bool.and_eq_true, decide_eq_true_eq, beq_iff_eq] at hok
      obtain ⟨⟨h1, h2⟩, h3⟩ := hok
      refine Or.inr ⟨host, ?_⟩
      rw [← h1, ← h2, ← h3]
      exact hE.2.1 _ (mwd_in hw) rfl
    · cases hok
end GSIM
end
section
/-! .. BY FUEL -/
theorem mx_out {ret : Option FieldType} {ex : List mE} {I : Instr} {n a1 b1 q1 pc : Nat} {L : mL} {S : List Value} {h : List mE} {z : (Nat × List Value × List Value) ⊕ Option Value} (hm : mx ret ex (I, n, a1, b1, q1) pc L S h = some (.inr z)) :
    (∃ i, I = .invokestatic i) ∨ (∃ i, I = .invokevirtual i) ∨ (∃ i, I = .invokespecial i) ∨ I = .ireturn ∨ I = .lreturn ∨ I = .areturn ∨ I = .return_ := by
  cases I with
  | invokestatic i => exact Or.inl ⟨i, rfl⟩
  | invokevirtual i => exact Or.inr (Or.inl ⟨i, rfl⟩)
  | invokespecial i => exact Or.inr (Or.inr (Or.inl ⟨i, rfl⟩))
  | ireturn => exact Or.inr (Or.inr (Or.inr (Or.inl rfl)))
  | lreturn => exact Or.inr (Or.inr (Or.inr (Or.inr (Or.inl rfl))))
  | areturn => exact Or.inr (Or.inr (Or.inr (Or.inr (Or.inr (Or.inl rfl)))))
  | return_ => exact Or.inr (Or.inr (Or.inr (Or.inr (Or.inr (Or.inr rfl)))))
  | _ =>
    exfalso
    dsimp only [mx] at hm
    first
      | (cases hm; done)
      | (simp [mgo] at hm; done)
      | (repeat' (split at hm)) <;> first | (cases hm; done) | (simp [mgo] at hm; done)
section GRUN
variable {p : Program} {l : Launch} {e : Env} {R : Room} {s : State} {m : MethodId} {args : Array Value} {below : List Frame} {meth : Method} {c : Code} {H : Heap} {locs : List Loc} {cells slots : Nat} {Q : State → Prop}
variable {pc : Nat} {ls : Array Slot} {ex : List mE} {a1 b1 q1 : Nat} {L : mL} {S : List Value} {h : List mE} {xs : Nat → Nat} {b : Nat} {aC : Nat → ClassId} {D : va_G} {M M' : mMR}
theorem mmk_of {a b st : Nat} {ini : Bool} (hm : mrec a = some M') (h : mmk a b st ini = true) : a < mLaw ∧ M'.2.2.2.2.2.1 = st ∧ M'.2.2.2.2.2.2.1 = b ∧ (decide (M'.1.name = "<init>") = ini) := by
  unfold mmk at h
  rw [hm] at h
  simp only [Bool.and_eq_true, beq_iff_eq] at h
  obtain ⟨⟨⟨h1, h2⟩, h3⟩, h4⟩ := h
  exact ⟨Nat.blt_eq.mp h1, h2, h3, h4⟩
/-- what stands on a call, whichever -/
theorem g_run {f d' m' : Nat} {as T : List Value} {v : Option Value} {h1 : List mE}
    (hr : ∀ hM : Met l M'.1 (g_ws M') (g_rm d' (h1.length - h.length) (mhs h1 - mhs h)) (g_Pc xs b aC D ex as h) (g_Qc xs b aC D v h1) (h1.length - h.length) (mhs h1 - mhs h) (g_A b), va_Run p l e R s m args below meth c H locs cells slots (h1.length - h.length) (mhs h1 - mhs h) (F0 m pc ls (S.map (g_V (g_ad xs b)))) (T.map (g_V (g_ad xs b))) (g_Qc xs b aC D v h1 (as.map (g_V (g_ad xs b))).toArray) (g_A b))
    (hm' : mrec m' = some M') (hM' : g_M M') (hMW : g_MW M') (hlen : (lent1 as).length ≤ M'.2.2.1) (hf : g_Sim ex f) (hrun : mrun ex f d' m' 0 (lent as M'.2.2.1) [] h = some (v, h1)) (hS : va_S (g_A b) s.heap H locs)
    (kk : ∀ (H1 : Heap) (locs1 : List Loc), g_W xs b aC D h1 H1 → va_S (g_A b) s.heap H1 locs1 → W p l e R s m args below meth c H1 locs1 (cells + (h1.length - h.length)) (slots + (mhs h1 - mhs h)) Q (F0 m (pc + 3) ls ((mpush v T).map (g_V (g_ad xs b))))) : W p l e R s m args below meth c H locs cells slots Q (F0 m pc ls (S.map (g_V (g_ad xs b)))) := by
  refine x_call (hr (g_met hf hrun hm' hM' hMW hlen)) (fun st oc t h0 hq => hq) hS (fun _ z => z) (fun H1 locs1 w st => ?_)
  have kk := kk H1 locs1 w st
  cases v with
  | none => exact kk
  | some v => exact kk
theorem g_call {r : mR} {f d' m' : Nat} {as T : List Value} {v : Option Value} {h1 : List mE} (C : g_C xs b aC D ex p s m meth c M) (hW : g_W xs b aC D h H) (hS : va_S (g_A b) s.heap H locs) (hL : g_H (g_ad xs b) ls L) (hl : L.length = M.2.2.1) (hR1 : d' + 2 ≤ R.frames) (hR2 : 64 * (d' + 2) ≤ R.locals) (hk : okI M.2.2.2.2.1 M.1 M.2.1 pc r = true)
    (hm : mx M.2.2.2.1 ex r pc L S h = some (.inr (.inl (m', as, T)))) (hm' : mrec m' = some M') (hMM : m' < mLaw → g_M M' ∧ g_MW M') (hlen : (lent1 as).length ≤ M'.2.2.1) (hf : g_Sim ex f) (hrun : mrun ex f d' m' 0 (lent as M'.2.2.1) [] h = some (v, h1)) (hc : cells + (h1.length - h.length) ≤ R.cells) (hs : slots + (mhs h1 - mhs h) ≤ R.slots)
    (kk : ∀ (H1 : Heap) (locs1 : List Loc), g_W xs b aC D h1 H1 → va_S (g_A b) s.heap H1 locs1 → W p l e R s m args below meth c H1 locs1 (cells + (h1.length - h.length)) (slots + (mhs h1 - mhs h)) Q (F0 m (pc + r.2.1) ls ((mpush v T).map (g_V (g_ad xs b))))) : W p l e R s m args below meth c H locs cells slots Q (F0 m pc ls (S.map (g_V (g_ad xs b)))) := by
  obtain ⟨hx, hb, hml, hown, -, -, hnm, -, hE, hM⟩ := C
  obtain ⟨I, n, a1, b1, q1⟩ := r
  have hsz : (F0 m pc ls (S.map (g_V (g_ad xs b)))).locals.size = M.2.2.1 := by show ls.size = _; rw [hL.1, hl]
  have hTs : ∀ w ∈ lw_tbl.filter goodWord, w.before args s = true := g_hts hE args
  have hcw : goodWord (Jvm.Cond.code M'.1 M'.2.1 M'.2.2.1 M'.2.2.2.1) = true := rfl
  have e45 : ∀ hMW : g_MW M', (g_rm d' (h1.length - h.length) (mhs h1 - mhs h)).frames + 1 ≤ R.frames ∧ 8 + (M'.2.2.1 + 11) + (g_rm d' (h1.length - h.length) (mhs h1 - mhs h)).locals ≤ R.locals := fun hMW => by
    have h5 := hMW.2.2.2.2.1
    refine ⟨by show d' + 1 + 1 ≤ _; omega, ?_⟩
    show 8 + (M'.2.2.1 + 11) + 64 * (d' + 1) ≤ R.locals
    omega
  rcases mx_out hm with ⟨i, rfl⟩ | ⟨i, rfl⟩ | ⟨i, rfl⟩ | hI
  · replace hm : (match mtake b1 S [] with
        | some (as, T) => if mcat T ≤ 8 then mcall a1 as T else none
        | none => none) = some (.inr (.inl (m', as, T))) := hm
    simp only [okI] at hk
    split at hk
    · cases hk
    rename_i J n2 hd
    simp only [Bool.and_eq_true, beq_iff_eq, Bool.or_eq_true] at hk
    obtain ⟨⟨rfl, hlen2⟩, hk⟩ := hk
    obtain ⟨i2, rfl⟩ : ∃ i2, J = .invokestatic i2 := by
      cases J with
      | invokestatic i2 => exact ⟨i2, rfl⟩
      | _ => first | (cases hk; done) | (simp [mnorm] at hk; done) | (simp only [mnorm, Bool.and_eq_true, decide_eq_true_eq] at hk; split at hk <;> simp at hk)
    simp only [Bool.and_eq_true, beq_iff_eq] at hk
    obtain ⟨⟨rfl, hk⟩, hmk⟩ := hk
    replace hlen2 : n2 = 3 := by simpa [mlen] using hlen2
    subst hlen2
    split at hm
    · rename_i as2 T2 ht
      by_cases h8 : mcat T2 ≤ 8
      · rw [if_pos h8] at hm
        simp only [mcall, Option.some.injEq, Sum.inr.injEq, Sum.inl.injEq, Prod.mk.injEq] at hm
        obtain ⟨rfl, rfl, rfl⟩ := hm
        obtain ⟨hlaw, hst, hna, -⟩ := mmk_of hm' hmk
        obtain ⟨hM', hMW⟩ := hMM hlaw
        obtain ⟨ta, tb⟩ := mtake_0 ht
        have hd3 := hMW.2.2.1
        have hstw := hMW.2.2.2.2.2.1 hst
        refine g_run (fun hMet => ?_) hm' hM' hMW hlen hf hrun hS kk
        have hstk : (F0 m pc ls (S.map (g_V (g_ad xs b)))).stack = (as2.map (g_V (g_ad xs b))).reverse ++ T2.map (g_V (g_ad xs b)) := by
          show S.map _ = _
          rw [tb, List.map_append, List.map_reverse]
        have hpr : PreS s H (g_Pc xs b aC D ex as2 h) (as2.map (g_V (g_ad xs b))) := ⟨g_pcb, g_pcs hE hW hS⟩
        rcases g_lm (args := args) hM hE hm' hk with hl2 | ⟨host, hl2⟩
        · exact va_runS ⟨hx, hb, hml, hown, hTs⟩ hMet ⟨callB_of (n := M'.2.2.2.2.2.2.1) hTs (g_good hMW hcw) rfl rfl rfl (hE.1 _ hMW.2.1 rfl args) hl2 hd3 (e45 hMW), hE.1 _ hstw rfl args⟩ hpr rfl (by rw [List.length_map, ta, hna]) hsz hstk (lv_room (by rw [g_mcat]; exact h8)) hd ⟨hc, hs⟩
        · exact va_runSN ⟨hx, hb, hml, hown, hTs⟩ hMet ⟨va_cnB (n := M'.2.2.2.2.2.2.1) hTs (g_good hMW hcw) rfl rfl rfl hl2 (hE.1 _ hMW.2.1 rfl args) hd3 (e45 hMW), hE.1 _ hstw rfl args, trivial⟩ hpr rfl (by rw [List.length_map, ta, hna]) hsz hstk (lv_room (by rw [g_mcat]; exact h8)) hd ⟨hc, hs⟩
      · rw [if_neg h8] at hm; cases hm
    · cases hm
  · replace hm : (match mtake b1 S [] with
      | some (as, .ref q :: T) => (match mown h q, mrec a1 with
          | some (.inr (ci, _)), some R => if ci = R.2.2.2.2.1 ∧ mcat T ≤ 8 then mcall a1 (.ref q :: as) T else none
          | _, _ => none)
      | _ => none) = some (.inr (.inl (m', as, T))) := hm
    simp only [okI] at hk
    split at hk
    · cases hk
    rename_i J n2 hd
    simp only [Bool.and_eq_true, beq_iff_eq, Bool.or_eq_true] at hk
    obtain ⟨⟨rfl, hlen2⟩, hk⟩ := hk
    obtain ⟨i2, rfl⟩ : ∃ i2, J = .invokevirtual i2 := by
      cases J with
      | invokevirtual i2 => exact ⟨i2, rfl⟩
      | _ => first | (cases hk; done) | (simp [mnorm] at hk; done) | (simp only [mnorm, Bool.and_eq_true, decide_eq_true_eq] at hk; split at hk <;> simp at hk)
    simp only [Bool.and_eq_true, beq_iff_eq] at hk
    obtain ⟨⟨rfl, hk⟩, hmk⟩ := hk
    replace hlen2 : n2 = 3 := by simpa [mlen] using hlen2
    subst hlen2
    split at hm
    · rename_i as2 q T2 ht
      split at hm
      · rename_i ci fs R2 hq hR2'
        by_cases h8 : ci = R2.2.2.2.2.1 ∧ mcat T2 ≤ 8
        · rw [if_pos h8] at hm
          simp only [mcall, Option.some.injEq, Sum.inr.injEq, Sum.inl.injEq, Prod.mk.injEq] at hm
          obtain ⟨rfl, rfl, rfl⟩ := hm
          cases hm'.symm.trans hR2'
          obtain ⟨h7, h8⟩ := h8
          obtain ⟨hlaw, hst, hna, hni⟩ := mmk_of hm' hmk
          obtain ⟨hM', hMW⟩ := hMM hlaw
          obtain ⟨ta, tb⟩ := mtake_0 ht
          have hd3 := hMW.2.2.1
          obtain ⟨hiw, hsw, -⟩ := hMW.2.2.2.2.2.2 (by rw [hst]; decide)
          have hsw := hsw.resolve_left (of_decide_eq_false hni)
          refine g_run (fun hMet => ?_) hm' hM' hMW hlen hf hrun hS kk
          have hstk : (F0 m pc ls (S.map (g_V (g_ad xs b)))).stack = (as2.map (g_V (g_ad xs b))).reverse ++ .ref (g_ad xs b q) :: T2.map (g_V (g_ad xs b)) := by
            show S.map _ = _
            rw [tb, List.map_append, List.map_reverse]
            rfl
          have hrecv : ∃ cellB : Cell, H[g_ad xs b q]? = some cellB ∧ cellB.vm.isStatics = false ∧ s.vm.findClass M'.1.cls = some cellB.cls := by
            have h0 := hM'.2
            obtain ⟨⟨Cn, T0, N⟩, hcl⟩ : ∃ t, vwCl[ci]? = some t := by
              obtain ⟨r, hr1, -⟩ := g_at hW hq
              exact ⟨r, hr1⟩
            have h1 := va_recv hE.2.2.2.1 (x_one (g_at hW hq)) hcl (q0 := 0) rfl
            have h2 := ck_ow ci Cn T0 N hcl
            rw [← h7, h2] at h0
            have h3 : Cn = M'.1.cls := Option.some.inj h0
            rw [← h3]
            exact h1
          have hpr : PreV s H M'.1.cls (g_ad xs b q) (g_Pc xs b aC D ex (.ref q :: as2) h) (as2.map (g_V (g_ad xs b))) := ⟨g_pcb, hrecv, g_pcs hE hW hS⟩
          rcases g_lm (args := args) hM hE hm' hk with hl2 | ⟨host, hl2⟩
          · exact va_runV ⟨hx, hb, hml, hown, hTs⟩ hMet ⟨callB_of (n := M'.2.2.2.2.2.2.1) hTs (g_good hMW hcw) rfl rfl rfl (hE.1 _ hMW.2.1 rfl args) hl2 hd3 (e45 hMW), hE.1 _ hiw rfl args, hE.1 _ hsw rfl args⟩ hpr rfl (by rw [List.length_map, ta, hna]) hsz hstk (lv_room (by rw [g_mcat]; exact h8)) hd ⟨hc, hs⟩
          · exact va_runVN ⟨hx, hb, hml, hown, hTs⟩ hMet ⟨va_cnB (n := M'.2.2.2.2.2.2.1) hTs (g_good hMW hcw) rfl rfl rfl hl2 (hE.1 _ hMW.2.1 rfl args) hd3 (e45 hMW), hE.1 _ hiw rfl args, hE.1 _ hsw rfl args⟩ hpr rfl (by rw [List.length_map, ta, hna]) hsz hstk (lv_room (by rw [g_mcat]; exact h8)) hd ⟨hc, hs⟩
        · rw [if_neg h8] at hm; cases hm
      · cases hm
    · cases hm
  · replace hm : (match mtake b1 S [] with
      | some (as, .ref q :: T) => if mcat T ≤ 8 then mcall a1 (.ref q :: as) T else none
      | _ => none) = some (.inr (.inl (m', as, T))) := hm
    simp only [okI] at hk
    split at hk
    · cases hk
    rename_i J n2 hd
    simp only [Bool.and_eq_true, beq_iff_eq, Bool.or_eq_true] at hk
    obtain ⟨⟨rfl, hlen2⟩, hk⟩ := hk
    obtain ⟨i2, rfl⟩ : ∃ i2, J = .invokespecial i2 := by
      cases J with
      | invokespecial i2 => exact ⟨i2, rfl⟩
      | _ => first | (cases hk; done) | (simp [mnorm] at hk; done) | (simp only [mnorm, Bool.and_eq_true, decide_eq_true_eq] at hk; split at hk <;> simp at hk)
    simp only [Bool.and_eq_true, beq_iff_eq] at hk
    obtain ⟨⟨rfl, hk⟩, hmk⟩ := hk
    replace hlen2 : n2 = 3 := by simpa [mlen] using hlen2
    subst hlen2
    split at hm
    · rename_i as2 q T2 ht
      by_cases h8 : mcat T2 ≤ 8
      · rw [if_pos h8] at hm
        simp only [mcall, Option.some.injEq, Sum.inr.injEq, Sum.inl.injEq, Prod.mk.injEq] at hm
        obtain ⟨rfl, rfl, rfl⟩ := hm
        obtain ⟨hlaw, hst, hna, hni⟩ := mmk_of hm' hmk
        obtain ⟨hM', hMW⟩ := hMM hlaw
        obtain ⟨ta, tb⟩ := mtake_0 ht
        have hd3 := hMW.2.2.1
        obtain ⟨hiw, -, hret⟩ := hMW.2.2.2.2.2.2 (by rw [hst]; decide)
        have hin := of_decide_eq_true hni
        have hret := hret hin
        refine g_run (fun hMet => ?_) hm' hM' hMW hlen hf hrun hS kk
        have hstk : (F0 m pc ls (S.map (g_V (g_ad xs b)))).stack = (as2.map (g_V (g_ad xs b))).reverse ++ .ref (g_ad xs b q) :: T2.map (g_V (g_ad xs b)) := by
          show S.map _ = _
          rw [tb, List.map_append, List.map_reverse]
          rfl
        have hpr : PreS s H (g_Pc xs b aC D ex (.ref q :: as2) h) (.ref (g_ad xs b q) :: as2.map (g_V (g_ad xs b))) := ⟨g_pcb, g_pcs hE hW hS⟩
        have hw0 : g_ws M' = .code M'.1 M'.2.1 M'.2.2.1 none :: lw_tbl.filter goodWord := by unfold g_ws; rw [hret]
        rcases g_lm (args := args) hM hE hm' hk with hl2 | ⟨host, hl2⟩
        · exact va_runI ⟨hx, hb, hml, hown, hTs⟩ hMet ⟨callB_of (n := M'.2.2.2.2.2.2.1) hTs (g_good hMW hcw) hw0 rfl rfl (hE.1 _ hMW.2.1 rfl args) hl2 hd3 (e45 hMW), hin, hE.1 _ hiw rfl args⟩ hpr rfl (by rw [List.length_map, ta, hna]) hsz hstk (lv_room (by rw [g_mcat]; exact h8)) hd ⟨hc, hs⟩
        · exact va_runIN ⟨hx, hb, hml, hown, hTs⟩ hMet ⟨va_cnB (n := M'.2.2.2.2.2.2.1) hTs (g_good hMW hcw) hw0 rfl rfl hl2 (hE.1 _ hMW.2.1 rfl args) hd3 (e45 hMW), hin, hE.1 _ hiw rfl args⟩ hpr rfl (by rw [List.length_map, ta, hna]) hsz hstk (lv_room (by rw [g_mcat]; exact h8)) hd ⟨hc, hs⟩
      · rw [if_neg h8] at hm; cases hm
    · cases hm
  · obtain ⟨v2, hz, -⟩ := s_ret hI hm
    cases hz
end GRUN
end
section
/-! THE SMALL MACHINE'S RUNS ARE THE REAL ONE'S -/
theorem mono_put {h : List mE} {q : Nat} {e0 e : mE} (hq : mown h q = some e0) (hz : msz e = msz e0) : h.length ≤ (mput h q e).length ∧ mhs h ≤ mhs (mput h q e) := by
  have := mhs_put hq hz
  exact ⟨Nat.le_of_eq this.2.symm, Nat.le_of_eq this.1.symm⟩
theorem mono_app (h t : List mE) : h.length ≤ (h ++ t).length ∧ mhs h ≤ mhs (h ++ t) := by
  rw [List.length_append, mhs_app]
  exact ⟨Nat.le_add_right _ _, Nat.le_add_right _ _⟩
theorem mx_mono {ret : Option FieldType} {ex : List mE} {I : Instr} {n a1 b1 q1 pc : Nat} {L : mL} {S : List Value} {h : List mE} {pc' : Nat} {L' : mL} {S' : List Value} {h' : List mE} (hm : mx ret ex (I, n, a1, b1, q1) pc L S h = some (.inl (pc', L', S', h'))) : h.length ≤ h'.length ∧ mhs h ≤ mhs h' := by
  cases I with
  | _ =>
    dsimp only [mx] at hm
    first
      | (cases hm; done)
      | (simp only [mgo, Option.some.injEq, Sum.inl.injEq, Prod.mk.injEq] at hm; obtain ⟨rfl, rfl, rfl, rfl⟩ := hm; exact ⟨Nat.le_refl _, Nat.le_refl _⟩)
      | (repeat' (split at hm)) <;> first
          | (cases hm; done)
          | (simp [mcall] at hm; done)
          | (simp only [mgo, Option.some.injEq, Sum.inl.injEq, Prod.mk.injEq] at hm
             obtain ⟨rfl, rfl, rfl, rfl⟩ := hm
             first
               | exact ⟨Nat.le_refl _, Nat.le_refl _⟩
               | exact mono_app _ _
               | exact mono_put (by assumption) rfl
               | exact mono_put (by assumption) (by simp [msz]))
theorem g_sim (mchk : ∀ (m : Nat) (M : mMR), mrec m = some M → m < mLaw → g_M M ∧ g_MW M) (ex : List mE) : ∀ f, g_Sim ex f := by
  intro f
  induction f with
  | zero =>
    intro d mi pc L S h v h1 hrun
    cases hrun
  | succ f ih =>
    intro d mi pc L S h v h1 hrun
    have hrun0 := hrun
    unfold mrun at hrun
    cases hM : mrec mi with
    | none => rw [hM] at hrun; cases hrun
    | some M =>
    rw [hM] at hrun
    try dsimp only at hrun
    cases hr : mcd M.2.2.2.2.2.2.2 pc with
    | none => rw [hr] at hrun; cases hrun
    | some r =>
    rw [hr] at hrun
    try dsimp only at hrun
    cases hm : mx M.2.2.2.1 ex r pc L S h with
    | none => rw [hm] at hrun; cases hrun
    | some z =>
    rw [hm] at hrun
    try dsimp only at hrun
    rcases z with ⟨pc', L', S', h'⟩ | ⟨m', as, T⟩ | v'
    · try dsimp only at hrun
      obtain ⟨i1, i2, i3⟩ := ih d mi pc' L' S' h' v h1 hrun
      obtain ⟨I, n, a1, b1, q1⟩ := r
      have hmono := mx_mono hm
      refine ⟨Nat.le_trans hmono.1 i1, Nat.le_trans hmono.2 i2, ?_⟩
      intro p l e R s m args below meth c H locs cells slots Q ls xs b aC D M2 hM2 C hR1 hR2 hW hS hL hl hc hs kk
      cases hM2
      refine g_step C hW hS hL hl ⟨by omega, by omega⟩ (mcd_ok C.2.2.2.2.2.2.2.2.2.1 hr) hm (by omega) (by omega) (fun H1 locs1 ls1 w st hL1 hl1 => ?_)
      refine i3 p l e R s m args below meth c H1 locs1 _ _ Q ls1 xs b aC D M hM C hR1 hR2 w st hL1 (hl1.trans hl) (by omega) (by omega) (fun H2 locs2 ls2 pc2 I2 w2 st2 hd2 hr2 => ?_)
      have kk := kk H2 locs2 ls2 pc2 I2 w2 st2 hd2 hr2
      rw [show cells + (h1.length - h.length) = cells + (h'.length - h.length) + (h1.length - h'.length) by omega, show slots + (mhs h1 - mhs h) = slots + (mhs h' - mhs h) + (mhs h1 - mhs h') by omega] at kk
      exact kk
    · try dsimp only at hrun
      cases d with
      | zero => cases hrun
      | succ d =>
      cases hM' : mrec m' with
      | none => rw [hM'] at hrun; cases hrun
      | some M' =>
      rw [hM'] at hrun
      try dsimp only at hrun
      by_cases hlen : M'.2.2.1 < (lent1 as).length
      · rw [if_pos hlen] at hrun; cases hrun
      rw [if_neg hlen] at hrun
      cases hcall : mrun ex f d m' 0 (lent as M'.2.2.1) [] h with
      | none => rw [hcall] at hrun; cases hrun
      | some z =>
      obtain ⟨v2, h2⟩ := z
      rw [hcall] at hrun
      try dsimp only at hrun
      obtain ⟨j1, j2, -⟩ := ih d m' 0 _ [] h v2 h2 hcall
      obtain ⟨i1, i2, i3⟩ := ih (d + 1) mi _ L _ h2 v h1 hrun
      refine ⟨Nat.le_trans j1 i1, Nat.le_trans j2 i2, ?_⟩
      intro p l e R s m args below meth c H locs cells slots Q ls xs b aC D M2 hM2 C hR1 hR2 hW hS hL hl hc hs kk
      cases hM2
      refine g_call C hW hS hL hl (by omega) (by omega) (mcd_ok C.2.2.2.2.2.2.2.2.2.1 hr) hm hM' (mchk m' M' hM') (Nat.not_lt.mp hlen) ih hcall (by omega) (by omega) (fun H1 locs1 w st => ?_)
      refine i3 p l e R s m args below meth c H1 locs1 _ _ Q ls xs b aC D M hM C hR1 hR2 w st hL hl (by omega) (by omega) (fun H2 locs2 ls2 pc2 I2 w2 st2 hd2 hr2 => ?_)
      have kk := kk H2 locs2 ls2 pc2 I2 w2 st2 hd2 hr2
      rw [show cells + (h1.length - h.length) = cells + (h2.length - h.length) + (h1.length - h2.length) by omega, show slots + (mhs h1 - mhs h) = slots + (mhs h2 - mhs h) + (mhs h1 - mhs h2) by omega] at kk
      exact kk
    · try dsimp only at hrun
      simp only [Option.some.injEq, Prod.mk.injEq] at hrun
      obtain ⟨rfl, rfl⟩ := hrun
      refine ⟨Nat.le_refl _, Nat.le_refl _, ?_⟩
      intro p l e R s m args below meth c H locs cells slots Q ls xs b aC D M2 hM2 C hR1 hR2 hW hS hL hl hc hs kk
      cases hM2
      obtain ⟨I, n, a1, b1, q1⟩ := r
      have hok := mcd_ok C.2.2.2.2.2.2.2.2.2.1 hr
      have hI : I = .ireturn ∨ I = .lreturn ∨ I = .areturn ∨ I = .return_ := by
        rcases mx_out hm with ⟨i, rfl⟩ | ⟨i, rfl⟩ | ⟨i, rfl⟩ | hI
        · exfalso
          dsimp only [mx] at hm
          (repeat' (split at hm)) <;> first | (cases hm; done) | (simp [mcall] at hm; done)
        · exfalso
          dsimp only [mx] at hm
          (repeat' (split at hm)) <;> first | (cases hm; done) | (simp [mcall] at hm; done)
        · exfalso
          dsimp only [mx] at hm
          (repeat' (split at hm)) <;> first | (cases hm; done) | (simp [mcall] at hm; done)
        · exact hI
      obtain ⟨v2, hz, hS2, hr2⟩ := s_ret hI hm
      have hv2 : v' = v2 := Sum.inr.inj (Sum.inr.inj hz)
      subst hv2
      simp only [okI] at hok
      split at hok
      · cases hok
      rename_i J n2 hd
      simp only [Bool.and_eq_true, beq_iff_eq, Bool.or_eq_true] at hok
      obtain ⟨⟨rfl, hlen⟩, hok⟩ := hok
      have hJ : J = I ∧ n2 = 1 := by
        rcases hI with rfl | rfl | rfl | rfl <;> (
          cases J <;> first
            | exact ⟨rfl, by simpa [mlen] using hlen⟩
            | (exfalso; cases hok; done)
            | (exfalso; simp [mnorm] at hok; done)
            | (exfalso; simp only [mnorm, Bool.and_eq_true, decide_eq_true_eq] at hok; split at hok <;> simp at hok))
      obtain ⟨rfl, rfl⟩ := hJ
      have kk := kk H locs ls pc J hW hS hd hr2
      rw [Nat.sub_self, Nat.sub_self, Nat.add_zero, Nat.add_zero] at kk
      rw [hS2]
      cases v' with
      | none => exact kk
      | some v' => exact kk
end
section
-- ===== end of PART A; then your names; then what follows =====
/-! THE CLAIM OUT OF ONE WALK OF THE LAW'S BODY. Your part is whole_start (and what it stands on); all else here is the same for every law, but numbers. -/
def R_law : String := "HireYardLaw"
def lw_P (b : Addr) (xs : List Int32) (args : Array Value) (s : State) : Prop := args = #[.ref b] ∧ s.IntsAt b xs ∧ xs.length ≤ 6 ∧ (Jvm.Cond.and given_1 narrow_1).before args s = true
def lw_Q (_ : Array Value) (s : State) (o : Outcome) (t : State) : Prop := o = .returned (some (.int 1)) ∧ Framed s o t [] 600000 7302250
def lw_Z (below : List Frame) (a : Array Value) (s : State) : State → Prop := fun t => ∃ o, t.status = .running ∧ Ended t below o ∧ lw_Q a s o t
/-- the law's own end, with 1 on the stack, nothing written that was there before, its room as the claim has it -/
theorem lw_ret {p : Program} {l : Launch} {e : Env} {s : State} {m : MethodId} {below : List Frame} {meth : Method} {c : Code} {b : Nat} (hx : p.tables.exec = Jvm.exec) (hb : c.code = code) (hr : meth.sig.returnType = ret) (hlocks : meth.locks = false) {pc : Nat} {H : Heap} {ls : Array Slot} (hdg : decode code pc = .ok (.ireturn, 1)) : W p l e room_1 s m #[Value.ref b] below meth c H [] 600000 7302250 (lw_Z below #[Value.ref b] s) (F0 m pc ls [.int 1]) := by
  intro T hT X
  obtain ⟨fs, hret, hrun, hended, hW, hframe⟩ := X.leave (v := some (.int 1)) (hlocks := hlocks) (fun h => by rw [hr] at h; cases h)
  have hmeth' : T.vm.method? m = some meth := X.method'
  refine ⟨T.setFrames fs, ?_, .returned (some (.int 1)), hrun, hended, rfl, ⟨_, rfl⟩, hW, hframe⟩
  jvm_step X.here [X.here.top, hx, hb, hdg, hmeth', hr, ret, narrow_b1]
  (try refine ⟨rfl, ?_⟩); (try refine ⟨rfl, ?_⟩)
  first | (intro acts; rw [hret _ acts rfl rfl rfl]) | rw [hret _ _ rfl rfl rfl]
  exact Steps.refl _
/-- what holds at the law's entry: the machine, the code, the tables' words (any of lw_tbl by 'hts w (by decide +kernel)'), the script of L ints xs at the cell b, what the Statement gives of the start (any of its parts by flat_of_before) -/
def lw_At (p : Program) (s : State) (m : MethodId) (meth : Method) (c : Code) (b L : Nat) (xs : Nat → Int32) : Prop :=
  p.tables.exec = Jvm.exec ∧ c.code = code ∧ meth.sig.returnType = ret ∧ c.maxLocals = 4 ∧ s.vm.findClass R_law = some m.cls ∧ (∀ w ∈ lw_tbl, w.before #[Value.ref b] s = true) ∧ va_X b L xs s s.heap ∧ b < s.heap.size ∧ meth.locks = false ∧ (Jvm.Cond.and given_1 narrow_1).before #[Value.ref b] s = true

/-- the two given tables, and the cells that are given -/
def mDg : List Int64 := [6240321451, 68574961, 753571, 8281, 91, 1]
def mNm : List Int64 := [80155, 1065, 12325519, 358472, 355568, 4562587, 311436, 355280, 38567165, 133554, 158692, 12532058, 11570, 14420]
def mex (L : Nat) (xs : Nat → Int32) : List mE := [.inl (0, (L, .inl xs)), .inl (2, (6, .inr (.inl (fun j => mDg.getD j 0)))), .inl (2, (14, .inr (.inl (fun j => mNm.getD j 0))))]
theorem t_dg {args : Array Value} {s : State} {A : Nat → Prop} (hs : (Jvm.Cond.and given_1 narrow_1).before args s = true) (hA : ∀ a : Nat, a < s.heap.size → ¬ A a) : ∃ t : Nat, (Jvm.Term.static "HireYard$Match" "DIGIT" "[J").eval args s none [] s = some (.ref t) ∧ va_T .long t 6 (fun j => .long (mDg.getD j 0)) A s s.heap := by
  have hq := flat_of_before _ hs
  refine va_Tof (by decide) (hq (Jvm.Cond.arrayOf (Jvm.Term.static "HireYard$Match" "DIGIT" "[J") .long) (by decide +kernel)) (va_eqt (hq (Jvm.Cond.eq (Jvm.Term.length (Jvm.Term.static "HireYard$Match" "DIGIT" "[J")) (Jvm.Term.int 6)) (by decide +kernel))) (fun j hj => ?_) hA
  match j, hj with
  | 0, _ => exact va_eqtl (hq (Jvm.Cond.eq (Jvm.Term.elem (Jvm.Term.static "HireYard$Match" "DIGIT" "[J") (Jvm.Term.int 0)) (Jvm.Term.long 6240321451)) (by decide +kernel))
  | 1, _ => exact va_eqtl (hq (Jvm.Cond.eq (Jvm.Term.elem (Jvm.Term.static "HireYard$Match" "DIGIT" "[J") (Jvm.Term.int 1)) (Jvm.Term.long 68574961)) (by decide +kernel))
  | 2, _ => exact va_eqtl (hq (Jvm.Cond.eq (Jvm.Term.elem (Jvm.Term.static "HireYard$Match" "DIGIT" "[J") (Jvm.Term.int 2)) (Jvm.Term.long 753571)) (by decide +kernel))
  | 3, _ => exact va_eqtl (hq (Jvm.Cond.eq (Jvm.Term.elem (Jvm.Term.static "HireYard$Match" "DIGIT" "[J") (Jvm.Term.int 3)) (Jvm.Term.long 8281)) (by decide +kernel))
  | 4, _ => exact va_eqtl (hq (Jvm.Cond.eq (Jvm.Term.elem (Jvm.Term.static "HireYard$Match" "DIGIT" "[J") (Jvm.Term.int 4)) (Jvm.Term.long 91)) (by decide +kernel))
  | 5, _ => exact va_eqtl (hq (Jvm.Cond.eq (Jvm.Term.elem (Jvm.Term.static "HireYard$Match" "DIGIT" "[J") (Jvm.Term.int 5)) (Jvm.Term.long 1)) (by decide +kernel))
  | n + 6, hj => exact absurd hj (by omega)
theorem t_nm {args : Array Value} {s : State} {A : Nat → Prop} (hs : (Jvm.Cond.and given_1 narrow_1).before args s = true) (hA : ∀ a : Nat, a < s.heap.size → ¬ A a) : ∃ t : Nat, (Jvm.Term.static "HireYardModel" "NAMES" "[J").eval args s none [] s = some (.ref t) ∧ va_T .long t 14 (fun j => .long (mNm.getD j 0)) A s s.heap := by
  have hq := flat_of_before _ hs
  refine va_Tof (by decide) (hq (Jvm.Cond.arrayOf (Jvm.Term.static "HireYardModel" "NAMES" "[J") .long) (by decide +kernel)) (va_eqt (hq (Jvm.Cond.eq (Jvm.Term.length (Jvm.Term.static "HireYardModel" "NAMES" "[J")) (Jvm.Term.int 14)) (by decide +kernel))) (fun j hj => ?_) hA
  match j, hj with
  | 0, _ => exact va_eqtl (hq (Jvm.Cond.eq (Jvm.Term.elem (Jvm.Term.static "HireYardModel" "NAMES" "[J") (Jvm.Term.int 0)) (Jvm.Term.long 80155)) (by decide +kernel))
  | 1, _ => exact va_eqtl (hq (Jvm.Cond.eq (Jvm.Term.elem (Jvm.Term.static "HireYardModel" "NAMES" "[J") (Jvm.Term.int 1)) (Jvm.Term.long 1065)) (by decide +kernel))
  | 2, _ => exact va_eqtl (hq (Jvm.Cond.eq (Jvm.Term.elem (Jvm.Term.static "HireYardModel" "NAMES" "[J") (Jvm.Term.int 2)) (Jvm.Term.long 12325519)) (by decide +kernel))
  | 3, _ => exact va_eqtl (hq (Jvm.Cond.eq (Jvm.Term.elem (Jvm.Term.static "HireYardModel" "NAMES" "[J") (Jvm.Term.int 3)) (Jvm.Term.long 358472)) (by decide +kernel))
  | 4, _ => exact va_eqtl (hq (Jvm.Cond.eq (Jvm.Term.elem (Jvm.Term.static "HireYardModel" "NAMES" "[J") (Jvm.Term.int 4)) (Jvm.Term.long 355568)) (by decide +kernel))
  | 5, _ => exact va_eqtl (hq (Jvm.Cond.eq (Jvm.Term.elem (Jvm.Term.static "HireYardModel" "NAMES" "[J") (Jvm.Term.int 5)) (Jvm.Term.long 4562587)) (by decide +kernel))
  | 6, _ => exact va_eqtl (hq (Jvm.Cond.eq (Jvm.Term.elem (Jvm.Term.static "HireYardModel" "NAMES" "[J") (Jvm.Term.int 6)) (Jvm.Term.long 311436)) (by decide +kernel))
  | 7, _ => exact va_eqtl (hq (Jvm.Cond.eq (Jvm.Term.elem (Jvm.Term.static "HireYardModel" "NAMES" "[J") (Jvm.Term.int 7)) (Jvm.Term.long 355280)) (by decide +kernel))
  | 8, _ => exact va_eqtl (hq (Jvm.Cond.eq (Jvm.Term.elem (Jvm.Term.static "HireYardModel" "NAMES" "[J") (Jvm.Term.int 8)) (Jvm.Term.long 38567165)) (by decide +kernel))
  | 9, _ => exact va_eqtl (hq (Jvm.Cond.eq (Jvm.Term.elem (Jvm.Term.static "HireYardModel" "NAMES" "[J") (Jvm.Term.int 9)) (Jvm.Term.long 133554)) (by decide +kernel))
  | 10, _ => exact va_eqtl (hq (Jvm.Cond.eq (Jvm.Term.elem (Jvm.Term.static "HireYardModel" "NAMES" "[J") (Jvm.Term.int 10)) (Jvm.Term.long 158692)) (by decide +kernel))
  | 11, _ => exact va_eqtl (hq (Jvm.Cond.eq (Jvm.Term.elem (Jvm.Term.static "HireYardModel" "NAMES" "[J") (Jvm.Term.int 11)) (Jvm.Term.long 12532058)) (by decide +kernel))
  | 12, _ => exact va_eqtl (hq (Jvm.Cond.eq (Jvm.Term.elem (Jvm.Term.static "HireYardModel" "NAMES" "[J") (Jvm.Term.int 12)) (Jvm.Term.long 11570)) (by decide +kernel))
  | 13, _ => exact va_eqtl (hq (Jvm.Cond.eq (Jvm.Term.elem (Jvm.Term.static "HireYardModel" "NAMES" "[J") (Jvm.Term.int 13)) (Jvm.Term.long 14420)) (by decide +kernel))
  | n + 14, hj => exact absurd hj (by omega)
end
section
/-! FROM A RUN OF THE LAW IN THE SMALL MACHINE TO THE WALK THAT IS OWED -/
theorem t_D {s : State} {a : Array Value} (hts : ∀ w ∈ lw_tbl, w.before a s = true) : ∃ D : va_G, ∀ (c : Nat) (q : vw_C), vwCl[c]? = some q → u_Kn s q.1 q.2.1 q.2.2 (D.1 c) (D.2 c) := by
  have h : ∀ c : Nat, ∃ z : ClassId × (Nat → Nat), ∀ q : vw_C, vwCl[c]? = some q → u_Kn s q.1 q.2.1 q.2.2 z.1 z.2 := by
    intro c
    cases hc : vwCl[c]? with
    | none => exact ⟨(0, fun _ => 0), fun q h => by cases h⟩
    | some q =>
      obtain ⟨C, T, N⟩ := q
      obtain ⟨h1, h2, h3, -⟩ := g_cls hc
      obtain ⟨cC, iS, hk⟩ := u_known (C := C) (T := T) (N := N) (n := N) (ws := lw_tbl) hts (fun w hw => (List.mem_filter.mp (h3 w hw)).1) (hts _ h1)
      exact ⟨(cC, iS), fun q h => by cases h; exact hk⟩
  obtain ⟨f, hf⟩ := Classical.axiomOfChoice h
  exact ⟨(fun c => (f c).1, fun c => (f c).2), hf⟩
theorem t_aC {s : State} {a : Array Value} (hts : ∀ w ∈ lw_tbl, w.before a s = true) : ∃ aC : Nat → ClassId, ∀ (t : Nat) (ty : FieldType), mAT[t]? = some ty → ArrOfT s (aC t) ty ∧ va_RA s (aC t) ty := by
  have prim : ∀ ty : FieldType, Jvm.Cond.arrayClass ty ∈ lw_tbl → (∀ C, ty ≠ .object C) → ∃ cA : ClassId, ArrOfT s cA ty ∧ va_RA s cA ty := by
    intro ty hw hn
    obtain ⟨cA, kA, comp, h1, h2, h3⟩ := Cond.arrayClass_spec (hts _ hw)
    refine ⟨cA, fun n z => ⟨fun k h => (by cases h), kA, h2, comp, h3⟩, ?_⟩
    cases ty with
    | object C => exact absurd rfl (hn C)
    | _ => exact h1
  have obj : ∀ C : String, Jvm.Cond.arrayOver (.object C) ∈ lw_tbl → ∃ cA : ClassId, ArrOfT s cA (.object C) ∧ va_RA s cA (.object C) := by
    intro C hw
    obtain ⟨comp, cA, kA, h1, -, h3, h4, h5⟩ := Cond.arrayOver_spec (hts _ hw)
    exact ⟨cA, fun n z => ⟨fun k h => (by cases h), kA, h3, comp, h4⟩, kA, comp, h3, h4, h1, h5⟩
  have h : ∀ t : Nat, ∃ cA : ClassId, ∀ ty : FieldType, mAT[t]? = some ty → ArrOfT s cA ty ∧ va_RA s cA ty := by
    intro t
    match t with
    | 0 => obtain ⟨cA, h⟩ := prim .int ck_ai (fun C h => by cases h); exact ⟨cA, fun ty e => by cases e; exact h⟩
    | 1 => obtain ⟨cA, h⟩ := prim .boolean ck_az (fun C h => by cases h); exact ⟨cA, fun ty e => by cases e; exact h⟩
    | 2 => obtain ⟨cA, h⟩ := prim .long ck_al (fun C h => by cases h); exact ⟨cA, fun ty e => by cases e; exact h⟩
    | 3 => obtain ⟨cA, h⟩ := obj _ (ck_ao 3 _ rfl); exact ⟨cA, fun ty e => by cases e; exact h⟩
    | 4 => obtain ⟨cA, h⟩ := obj _ (ck_ao 4 _ rfl); exact ⟨cA, fun ty e => by cases e; exact h⟩
    | 5 => obtain ⟨cA, h⟩ := obj _ (ck_ao 5 _ rfl); exact ⟨cA, fun ty e => by cases e; exact h⟩
    | 6 => obtain ⟨cA, h⟩ := obj _ (ck_ao 6 _ rfl); exact ⟨cA, fun ty e => by cases e; exact h⟩
    | 7 =>
      obtain ⟨comp, cA, kA, h1, h3, h4, h5⟩ := Cond.arrayOver_specA (hts _ ck_am)
      exact ⟨cA, fun ty e => by cases e; exact ⟨fun n z => ⟨fun k h => (by cases h), kA, h3, comp, h4⟩, h5⟩⟩
    | 8 => obtain ⟨cA, h⟩ := prim .byte ck_ab (fun C h => by cases h); exact ⟨cA, fun ty e => by cases e; exact h⟩
    | n + 9 => exact ⟨0, fun ty e => by cases e⟩
  exact Classical.axiomOfChoice h
theorem t_X {s : State} {b L : Nat} {xs : Nat → Int32} {A : Nat → Prop} (hX : va_X b L xs s s.heap) (hA : ¬ A b) : va_T .int b L (fun j => .int (xs j)) A s s.heap := by
  obtain ⟨scr, h1, h2, h3, h4, h5⟩ := hX
  exact ⟨scr, h1, h2, h3, Nat.le_of_eq h4.symm, by rw [h4] <;> rfl, h5, hA⟩
/-- if the law runs to 1 in the small machine, within the room, the walk that is owed stands -/
theorem whole_of_run (mchk : ∀ (m : Nat) (M : mMR), mrec m = some M → m < mLaw → g_M M ∧ g_MW M) (hlaw : ∃ M, mrec mLaw = some M ∧ g_M M ∧ M.1.cls = R_law ∧ M.1.name ≠ "<init>" ∧ M.2.1 = code ∧ M.2.2.1 = 4 ∧ M.2.2.2.1 = ret)
    {p : Program} {e : Env} {s : State} {m : MethodId} {below : List Frame} {meth : Method} {c : Code} (l : Launch) {b L : Nat} {xs : Nat → Int32} (C0 : lw_At p s m meth c b L xs) {f d : Nat} {h1 : List mE} (hd1 : d + 1 ≤ 2048) (hd2 : 64 * (d + 1) ≤ 84000)
    (hrun : mrun (mex L xs) f d mLaw 0 (lent [.ref 0] 4) [] [] = some (some (.int 1), h1)) (hc : h1.length ≤ 600000) (hs : mhs h1 ≤ 7302250) : W p l e room_1 s m #[Value.ref b] below meth c s.heap [] 0 0 (lw_Z below #[Value.ref b] s) (entryFrame m ([Value.ref b] : List Value).toArray 4) := by
  obtain ⟨hx, hb, hr, hml, hown, hts, hX, hbl, hlocks, hgv⟩ := C0
  obtain ⟨M, hM, hgM, hMc, hMn, hMb, hM4, hMr⟩ := hlaw
  obtain ⟨D, hD⟩ := t_D hts
  obtain ⟨aC, haC⟩ := t_aC hts
  have hA : ∀ a : Nat, a < s.heap.size → ¬ g_A s.heap.size a := fun a h1 h2 => Nat.lt_irrefl _ (Nat.lt_of_lt_of_le h1 h2)
  obtain ⟨t1, e1, hT1⟩ := t_dg hgv hA
  obtain ⟨t2, e2, hT2⟩ := t_nm hgv hA
  let xa : Nat → Nat := fun q => if q = 0 then b else if q = 1 then t1 else t2
  have hE : g_Env xa s.heap.size aC D (mex L xs) s s.heap := by
    refine ⟨fun w hw hg a => word_at (State.WarmedH.refl s) (good_of_word hg) (hts w hw), fun w hw hn => ?_, fun ty hw ht a => g_over (State.WarmedH.refl s) (hts _ hw) ht, ⟨hD, fun k q hk => ?_⟩, ⟨fun q n f hq => ?_, fun q n f hq => ?_, fun q e hq => ?_⟩, fun a C n d ha => ?_⟩
    · cases w with
      | fieldLinkNest a i c n d e => exact va_Nw.of rfl (hts _ hw)
      | methodLinkNest a i x e => exact va_Nw.of rfl (hts _ hw)
      | _ => cases hn
    · have hl : k < 9 := by simpa [g_ty] using (List.getElem?_eq_some_iff.mp hk).1
      obtain ⟨ty, hty⟩ : ∃ ty, mAT[k]? = some ty := ⟨_, List.getElem?_eq_getElem (show k < mAT.length from hl)⟩
      cases (g_ty_at (aC := aC) hty).symm.trans hk
      exact haC k ty hty
    · match q, hq with
      | 0, hq => cases hq; exact t_X hX (hA b hbl)
      | 1, hq => cases hq
      | 2, hq => cases hq
      | n + 3, hq => cases hq
    · match q, hq with
      | 0, hq => cases hq
      | 1, hq => cases hq; exact hT1
      | 2, hq => cases hq; exact hT2
      | n + 3, hq => cases hq
    · match q, hq with
      | 0, hq => cases hq; exact Or.inl ⟨_, _, rfl⟩
      | 1, hq => cases hq; exact Or.inr ⟨_, _, rfl⟩
      | 2, hq => cases hq; exact Or.inr ⟨_, _, rfl⟩
      | n + 3, hq => cases hq
    · match a, ha with
      | 0, ha => cases ha; exact va_Zof (hts _ ck_s0) (hts _ ck_i0) e1 hA
      | 1, ha => cases ha; exact va_Zof (hts _ ck_s1) (hts _ ck_i1) e2 hA
      | n + 2, ha => cases ha
  have hW : g_W xa s.heap.size aC D [] s.heap := ⟨rfl, fun i e h => by cases h⟩
  have hC : g_C xa s.heap.size aC D (mex L xs) p s m meth c M := ⟨hx, hb.trans hMb.symm, hml.trans hM4.symm, by rw [hMc]; exact hown, hr.trans hMr.symm, hlocks, fun h => absurd h hMn, Nat.le_refl _, hE, hgM⟩
  obtain ⟨-, -, hsim⟩ := g_sim mchk (mex L xs) f d mLaw 0 _ [] [] _ h1 hrun
  have hL := g_ent (g := g_ad xa s.heap.size) (vs := [.ref 0]) (n := 4) (by decide)
  have eb : ([Value.ref 0].map (g_V (g_ad xa s.heap.size))) = [Value.ref b] := rfl
  rw [eb] at hL
  rw [lg_entry_eq]
  refine hsim p l e room_1 s m _ below meth c s.heap [] 0 0 _ _ xa s.heap.size aC D M hM hC hd1 hd2 hW va_S.rf hL (by rw [lent_len (by decide), hM4]) (by show 0 + (h1.length - 0) ≤ 600000; omega) (by show 0 + (mhs h1 - 0) ≤ 7302250; omega) ?_
  intro H1 locs1 ls1 pc1 I hW1 hS1 hd hret
  obtain ⟨rfl⟩ : I = .ireturn := by
    rcases hret with ⟨h, -⟩ | ⟨-, -, z, h⟩ | ⟨-, -, h | ⟨z, h⟩⟩ | ⟨-, -, h⟩
    · exact h
    · cases h
    · cases h
    · cases h
    · cases h
  refine va_forget (fun q hq => hS1.2.2 q hq) ?_
  refine W.widen (k := 600000) (n := 7302250) (by show 0 + (h1.length - 0) ≤ 600000; omega) (by show 0 + (mhs h1 - 0) ≤ 7302250; omega) ?_
  rw [hMb] at hd
  exact lw_ret hx hb hr hlocks hd
end
section
/-! A SYMBOLIC MACHINE: ints are constants, an input with operations behind it, or unknown; a branch that isn't decided goes both ways -/
abbrev yX : Type := Nat × List (Nat × Int32)
abbrev yI : Type := Int32 ⊕ Option yX
abbrev yV : Type := yI ⊕ Value
abbrev yC : Type := (yI × List (Nat × yI)) ⊕ ((Option Nat × List (Nat × Option Nat)) ⊕ Nat)
abbrev yE : Type := (Nat × Nat × yC) ⊕ (Nat × List yV)
abbrev yF : Type := List (yX × Int × Int) × List (yX × Int)
abbrev yL : Type := List (Option yV)
abbrev yO : Type := (Nat × yL × List yV × List yE) ⊕ ((Nat × List yV × List yV) ⊕ Option yV)
def yop (o : Nat) (c x : Int32) : Int32 := match o with
  | 0 => x + c
  | 1 => x - c
  | 2 => c - x
  | 3 => x * c
  | 4 => x / c
  | 5 => x - x / c * c
  | 6 => x &&& c
  | 7 => (x.toUInt32 >>> (c.toUInt32 &&& Int32.toUInt32 31)).toInt32
  | 8 => x >>> (c &&& 31)
  | 9 => x.toInt8.toInt32
  | _ => -x
def yev (val : Nat → Int32) (e : yX) : Int32 := e.2.foldr (fun p x => yop p.1 p.2 x) (val e.1)
/-- x op c, for an x that is not known -/
def yun (o : Nat) (x : Option yX) (c : Int32) : yI := match x with
  | some (k, l) => .inr (some (k, (o, c) :: l))
  | none => .inr none
def ybin (I : Instr) (x y : yI) : Option yI := match I, x, y with
  | .iadd, .inl a, .inl b => some (.inl (a + b))
  | .iadd, .inr a, .inl b => some (if b = 0 then .inr a else yun 0 a b)
  | .iadd, .inl a, .inr b => some (if a = 0 then .inr b else yun 0 b a)
  | .isub, .inl a, .inl b => some (.inl (a - b))
  | .isub, .inr a, .inl b => some (yun 1 a b)
  | .isub, .inl a, .inr b => some (yun 2 b a)
  | .imul, .inl a, .inl b => some (.inl (a * b))
  | .imul, .inr a, .inl b => some (yun 3 a b)
  | .idiv, .inl a, .inl b => if b = 0 then none else some (.inl (a / b))
  | .idiv, .inr a, .inl b => if b = 0 then none else some (yun 4 a b)
  | .irem, .inl a, .inl b => if b = 0 then none else some (.inl (a - a / b * b))
  | .irem, .inr a, .inl b => if b = 0 then none else some (yun 5 a b)
  | .iand, .inl a, .inl b => some (.inl (a &&& b))
  | .iand, .inr a, .inl b => some (yun 6 a b)
  | .iushr, .inl a, .inl b => some (.inl ((a.toUInt32 >>> (b.toUInt32 &&& Int32.toUInt32 31)).toInt32))
  | .iushr, .inr a, .inl b => some (yun 7 a b)
  | .ishr, .inl a, .inl b => some (.inl (a >>> (b &&& 31)))
  | .ishr, .inr a, .inl b => some (yun 8 a b)
  | .iadd, _, _ => some (.inr none)
  | .isub, _, _ => some (.inr none)
  | .imul, _, _ => some (.inr none)
  | .iand, _, _ => some (.inr none)
  | _, _, _ => none
def ylo : Int := -2147483648
def yhi : Int := 2147483647
def yfd : List (yX × Int × Int) → yX → Int × Int
  | [], _ => (ylo, yhi)
  | (e2, r) :: F, e => if e2 = e then r else yfd F e
def yexc : List (yX × Int) → yX → Int → Bool
  | [], _, _ => false
  | (e2, k2) :: G, e, k => (decide (k2 = k) && decide (e2 = e)) || yexc G e k
def yup (G : List (yX × Int)) (e : yX) : Nat → Int → Int
  | 0, lo => lo
  | n + 1, lo => if yexc G e lo then yup G e n (lo + 1) else lo
def ydn (G : List (yX × Int)) (e : yX) : Nat → Int → Int
  | 0, hi => hi
  | n + 1, hi => if yexc G e hi then ydn G e n (hi - 1) else hi
/-- between what an expression lies -/
def yiv (F : yF) (e : yX) : Int × Int := match yfd F.1 e with
  | (lo, hi) => (yup F.2 e 64 lo, ydn F.2 e 64 hi)
def yadd (F : yF) (e : yX) (lo hi : Int) : yF := ((e, (lo, hi)) :: F.1, F.2)
def ynot (F : yF) (e : yX) (k : Int) : yF := (F.1, (e, k) :: F.2)
/-- e < k -/
def ylt (F : yF) (e : yX) (k : Int) : List (yF × Bool) := match yiv F e with
  | (lo, hi) => if hi < lo then [] else if hi < k then [(F, true)] else if k ≤ lo then [(F, false)] else [(yadd F e lo (k - 1), true), (yadd F e k hi, false)]
def yeq (F : yF) (e : yX) (k : Int) : List (yF × Bool) := match yiv F e with
  | (lo, hi) => if hi < lo then [] else if k < lo ∨ hi < k then [(F, false)] else if lo = hi then [(F, true)] else [(yadd F e k k, true), (ynot F e k, false)]
def yneg (l : List (yF × Bool)) : List (yF × Bool) := l.map fun q => (q.1, !q.2)
def ycx (F : yF) (c : ClassFile.Cond) (e : yX) (k : Int) : List (yF × Bool) := match c with
  | .lt => ylt F e k
  | .ge => yneg (ylt F e k)
  | .gt => yneg (ylt F e (k + 1))
  | .le => ylt F e (k + 1)
  | .eq => yeq F e k
  | .ne => yneg (yeq F e k)
def yflip (c : ClassFile.Cond) : ClassFile.Cond := match c with
  | .lt => .gt
  | .gt => .lt
  | .le => .ge
  | .ge => .le
  | .eq => .eq
  | .ne => .ne
def yself (c : ClassFile.Cond) : Bool := match c with
  | .lt => false
  | .gt => false
  | .le => true
  | .ge => true
  | .eq => true
  | .ne => false
def ycmp (F : yF) (c : ClassFile.Cond) (x y : yI) : List (yF × Bool) := match x, y with
  | .inl a, .inl b => [(F, mcmp c a b)]
  | .inr (some e), .inl b => ycx F c e b.toInt
  | .inl a, .inr (some e) => ycx F (yflip c) e a.toInt
  | .inr (some e), .inr (some e2) => if e = e2 then [(F, yself c)] else [(F, true), (F, false)]
  | _, _ => [(F, true), (F, false)]
/-! cells -/
def yown (h : List yE) (q : Nat) : Option yE := if q < 4 then none else h[q - 4]?
def yput (h : List yE) (q : Nat) (e : yE) : List yE := h.set (q - 4) e
def yget {α : Type} (d : α) : List (Nat × α) → Nat → α
  | [], _ => d
  | (k, v) :: r, j => if k = j then v else yget d r j
def ylget (L : yL) (i : Nat) : Option yV := match L[i]? with
  | some (some v) => some v
  | _ => none
def ycat (v : yV) : Nat := match v with
  | .inr v => v.category
  | .inl _ => 1
def yclr (L : yL) : Nat → yL
  | 0 => L
  | i + 1 => match L[i]? with
    | some (some (.inr (.long _))) => L.set i none
    | some (some (.inr (.double _))) => L.set i none
    | _ => L
def yset1 (L : yL) (i : Nat) (v : yV) : yL := (yclr L i).set i (some v)
def ylent1 : List yV → yL
  | [] => []
  | v :: vs => if ycat v = 2 then some v :: none :: ylent1 vs else some v :: ylent1 vs
def ylent (vs : List yV) (n : Nat) : yL := ylent1 vs ++ List.replicate (n - (ylent1 vs).length) none
def ytake : Nat → List yV → List yV → Option (List yV × List yV)
  | 0, S, as => some (as, S)
  | n + 1, v :: S, as => ytake n S (v :: as)
  | _ + 1, [], _ => none
def ymcat (S : List yV) : Nat := (S.map ycat).sum
def ydef (ty : FieldType) : yV := match ty with
  | .long => .inr (.long 0)
  | .object _ => .inr .null
  | .array _ => .inr .null
  | .int => .inl (.inl 0)
  | .boolean => .inl (.inl 0)
  | _ => .inr (defaultValue ty)
/-- 0 or 1 -/
def y01 (F : yF) (x : yI) : Bool := match x with
  | .inl a => decide (a = 0) || decide (a = 1)
  | .inr (some e) => (match yiv F e with
    | (lo, hi) => decide (0 ≤ lo) && decide (hi ≤ 1))
  | .inr none => false
def yfit (F : yF) (ty : FieldType) (v : yV) : Bool := match ty, v with
  | .int, .inl _ => true
  | .boolean, .inl x => y01 F x
  | .long, .inr (.long _) => true
  | .object _, .inr .null => true
  | .object _, .inr (.ref _) => true
  | .array _, .inr .null => true
  | .array _, .inr (.ref _) => true
  | _, _ => false
def ygo (F : yF) (pc : Nat) (L : yL) (S : List yV) (h : List yE) : Option (List (yF × yO)) := some [(F, .inl (pc, L, S, h))]
/-- an index: is it within, and which -/
def yix (F : yF) (i : yI) (n : Nat) : Option (Option Nat) := match i with
  | .inl c => if mib c n then some (some c.toNatClampNeg) else none
  | .inr (some e) => (match yiv F e with
    | (lo, hi) => if 0 ≤ lo ∧ hi < (n : Int) then some none else none)
  | .inr none => none
def yld (d : yI) (ups : List (Nat × yI)) (j : Option Nat) : yI := match j with
  | some j => yget d ups j
  | none => if ups.isEmpty then d else .inr none
def yst (d : yI) (ups : List (Nat × yI)) (j : Option Nat) (v : yI) : yI × List (Nat × yI) := match j with
  | some j => (d, (j, v) :: ups)
  | none => (.inr none, [])
def ysw (F : yF) (e : yX) (pc : Nat) (L : yL) (T : List yV) (h : List yE) (lo hi : Int) (d : Int) : Int → List Int → List (yF × yO)
  | k, [] => (if k ≤ hi then [(yadd F e k hi, .inl (mjmp pc d, L, T, h))] else [])
  | k, o :: os => (if lo ≤ k ∧ k ≤ hi then [(yadd F e k k, .inl (mjmp pc o, L, T, h))] else []) ++ ysw F e pc L T h lo hi d (k + 1) os
def ymx (Lc : Nat) (ret : Option FieldType) (F : yF) (r : mR) (pc : Nat) (L : yL) (S : List yV) (h : List yE) : Option (List (yF × yO)) :=
  match r with
  | (I, ln, a, b, _) => match I with
    | .iconst v => ygo F (pc + ln) L (.inl (.inl (Int32.ofInt v)) :: S) h
    | .jsr_w v => ygo F (pc + ln) L (.inr (.long (Int64.ofInt v)) :: S) h
    | .aconst_null => ygo F (pc + ln) L (.inr .null :: S) h
    | .iload i => (match ylget L i with
      | some (.inl x) => ygo F (pc + ln) L (.inl x :: S) h
      | _ => none)
    | .aload i => (match ylget L i with
      | some (.inr (.ref x)) => ygo F (pc + ln) L (.inr (.ref x) :: S) h
      | some (.inr .null) => ygo F (pc + ln) L (.inr .null :: S) h
      | _ => none)
    | .istore i => (match S with
      | .inl x :: T => if i < L.length then ygo F (pc + ln) (yset1 L i (.inl x)) T h else none
      | _ => none)
    | .astore i => (match S with
      | .inr (.ref x) :: T => if i < L.length then ygo F (pc + ln) (yset1 L i (.inr (.ref x))) T h else none
      | .inr .null :: T => if i < L.length then ygo F (pc + ln) (yset1 L i (.inr .null)) T h else none
      | _ => none)
    | .iinc i n => (match ylget L i with
      | some (.inl x) => if i < L.length then (match ybin .iadd x (.inl (Int32.ofInt n)) with
          | some z => ygo F (pc + ln) (yset1 L i (.inl z)) S h
          | none => none) else none
      | _ => none)
    | .pop => (match S with
      | v :: T => if ycat v = 1 then ygo F (pc + ln) L T h else none
      | _ => none)
    | .pop2 => (match S with
      | .inr (.ref _) :: T => if ymcat T ≤ 8 then ygo F (pc + ln) L T h else none
      | _ => none)
    | .dup => (match S with
      | v :: T => if ycat v = 1 then ygo F (pc + ln) L (v :: v :: T) h else none
      | _ => none)
    | .dup_x1 => (match S with
      | v :: w :: T => if ycat v = 1 ∧ ycat w = 1 then ygo F (pc + ln) L (v :: w :: v :: T) h else none
      | _ => none)
    | .dup2 => (match S with
      | v :: w :: T => if ycat v = 1 ∧ ycat w = 1 then ygo F (pc + ln) L (v :: w :: v :: w :: T) h else none
      | _ => none)
    | .iadd => (match S with
      | .inl y :: .inl x :: T => (match ybin .iadd x y with
          | some z => ygo F (pc + ln) L (.inl z :: T) h
          | none => none)
      | _ => none)
    | .isub => (match S with
      | .inl y :: .inl x :: T => (match ybin .isub x y with
          | some z => ygo F (pc + ln) L (.inl z :: T) h
          | none => none)
      | _ => none)
    | .imul => (match S with
      | .inl y :: .inl x :: T => (match ybin .imul x y with
          | some z => ygo F (pc + ln) L (.inl z :: T) h
          | none => none)
      | _ => none)
    | .idiv => (match S with
      | .inl y :: .inl x :: T => (match ybin .idiv x y with
          | some z => ygo F (pc + ln) L (.inl z :: T) h
          | none => none)
      | _ => none)
    | .irem => (match S with
      | .inl y :: .inl x :: T => (match ybin .irem x y with
          | some z => ygo F (pc + ln) L (.inl z :: T) h
          | none => none)
      | _ => none)
    | .iand => (match S with
      | .inl y :: .inl x :: T => (match ybin .iand x y with
          | some z => ygo F (pc + ln) L (.inl z :: T) h
          | none => none)
      | _ => none)
    | .iushr => (match S with
      | .inl y :: .inl x :: T => (match ybin .iushr x y with
          | some z => ygo F (pc + ln) L (.inl z :: T) h
          | none => none)
      | _ => none)
    | .ishr => (match S with
      | .inl y :: .inl x :: T => (match ybin .ishr x y with
          | some z => ygo F (pc + ln) L (.inl z :: T) h
          | none => none)
      | _ => none)
    | .i2b => (match S with
      | .inl (.inl x) :: T => ygo F (pc + ln) L (.inl (.inl x.toInt8.toInt32) :: T) h
      | .inl (.inr x) :: T => ygo F (pc + ln) L (.inl (yun 9 x 0) :: T) h
      | _ => none)
    | .ifCond c off => (match S with
      | .inl x :: T => some ((ycmp F c x (.inl 0)).map fun q => (q.1, .inl (if q.2 then mjmp pc off else pc + ln, L, T, h)))
      | _ => none)
    | .if_icmp c off => (match S with
      | .inl y :: .inl x :: T => some ((ycmp F c x y).map fun q => (q.1, .inl (if q.2 then mjmp pc off else pc + ln, L, T, h)))
      | _ => none)
    | .ifnull off => (match S with
      | .inr (.ref _) :: T => ygo F (pc + ln) L T h
      | .inr .null :: T => ygo F (mjmp pc off) L T h
      | _ => none)
    | .ifnonnull off => (match S with
      | .inr (.ref _) :: T => ygo F (mjmp pc off) L T h
      | .inr .null :: T => ygo F (pc + ln) L T h
      | _ => none)
    | .goto off => ygo F (mjmp pc off) L S h
    | .tableswitch d lo hi offs => (match S with
      | .inl (.inl x) :: T => if x.toInt < lo ∨ hi < x.toInt then ygo F (mjmp pc d) L T h else (match offs.toList[(x.toInt - lo).toNat]? with
          | some o => ygo F (mjmp pc o) L T h
          | none => none)
      | .inl (.inr (some e)) :: T => (match yiv F e with
          | (a, z) => if a = z then (if a < lo ∨ hi < a then ygo F (mjmp pc d) L T h else (match offs.toList[(a - lo).toNat]? with
              | some o => ygo F (mjmp pc o) L T h
              | none => none)) else if hi = lo + offs.toList.length - 1 then some ((if a ≤ lo - 1 then [(yadd F e a (lo - 1), .inl (mjmp pc d, L, T, h))] else []) ++ ysw F e pc L T h a z d lo offs.toList) else none)
      | _ => none)
    | .getfield _ => (match S with
      | .inr (.ref q) :: T => (match yown h q with
          | some (.inr (ci, fs)) => if ci = a then (match fs[b]? with
              | some v => ygo F (pc + ln) L (v :: T) h
              | none => none) else none
          | _ => none)
      | _ => none)
    | .putfield _ => (match S with
      | v :: .inr (.ref q) :: T => (match yown h q with
          | some (.inr (ci, fs)) => if ci = a ∧ b < fs.length then (match mfty a b with
              | some ty => if yfit F ty v then ygo F (pc + ln) L T (yput h q (.inr (ci, fs.set b v))) else none
              | none => none) else none
          | _ => none)
      | _ => none)
    | .getstatic _ => ygo F (pc + ln) L (.inr (.ref (a + 1)) :: S) h
    | .arraylength => (match S with
      | .inr (.ref q) :: T => if q = 0 then ygo F (pc + ln) L (.inl (.inl (Int32.ofNat Lc)) :: T) h else if q = 2 then ygo F (pc + ln) L (.inl (.inl (Int32.ofNat 14)) :: T) h else (match yown h q with
          | some (.inl (t, (n, _))) => if t < 9 then ygo F (pc + ln) L (.inl (.inl (Int32.ofNat n)) :: T) h else none
          | _ => none)
      | _ => none)
    | .iaload => (match S with
      | .inl i :: .inr (.ref q) :: T => if q = 0 then (match i with
          | .inl c => if mib c Lc then ygo F (pc + ln) L (.inl (.inr (some (c.toNatClampNeg, []))) :: T) h else none
          | _ => none) else (match yown h q with
          | some (.inl (0, (n, .inl (d, ups)))) => (match yix F i n with
              | some j => ygo F (pc + ln) L (.inl (yld d ups j) :: T) h
              | none => none)
          | _ => none)
      | _ => none)
    | .baload => (match S with
      | .inl i :: .inr (.ref q) :: T => (match yown h q with
          | some (.inl (1, (n, .inl (d, ups)))) => (match yix F i n with
              | some j => ygo F (pc + ln) L (.inl (yld d ups j) :: T) h
              | none => none)
          | some (.inl (8, (n, .inl (d, ups)))) => (match yix F i n with
              | some j => ygo F (pc + ln) L (.inl (yld d ups j) :: T) h
              | none => none)
          | _ => none)
      | _ => none)
    | .laload => (match S with
      | .inl (.inl i) :: .inr (.ref q) :: T => if q = 2 then (if mib i 14 then ygo F (pc + ln) L (.inr (.long (mNm.getD i.toNatClampNeg 0)) :: T) h else none) else none
      | _ => none)
    | .aaload => (match S with
      | .inl i :: .inr (.ref q) :: T => (match yown h q with
          | some (.inl (t, (n, .inr (.inl (d, ups))))) => if 3 ≤ t ∧ t < 8 then (match yix F i n with
              | some (some j) => ygo F (pc + ln) L (.inr (va_rf (yget d ups j)) :: T) h
              | some none => if ups.isEmpty then ygo F (pc + ln) L (.inr (va_rf d) :: T) h else none
              | none => none) else none
          | _ => none)
      | _ => none)
    | .iastore => (match S with
      | .inl x :: .inl i :: .inr (.ref q) :: T => (match yown h q with
          | some (.inl (0, (n, .inl (d, ups)))) => (match yix F i n with
              | some j => ygo F (pc + ln) L T (yput h q (.inl (0, (n, .inl (yst d ups j x)))))
              | none => none)
          | _ => none)
      | _ => none)
    | .bastore => (match S with
      | .inl x :: .inl i :: .inr (.ref q) :: T => (match yown h q with
          | some (.inl (1, (n, .inl (d, ups)))) => if y01 F x then (match yix F i n with
              | some j => ygo F (pc + ln) L T (yput h q (.inl (1, (n, .inl (yst d ups j x)))))
              | none => none) else none
          | some (.inl (8, (n, .inl (d, ups)))) => (match yix F i n with
              | some j => ygo F (pc + ln) L T (yput h q (.inl (8, (n, .inl (yst d ups j (match x with
                  | .inl c => .inl c.toInt8.toInt32
                  | .inr x => yun 9 x 0))))))
              | none => none)
          | _ => none)
      | _ => none)
    | .aastore => (match S with
      | .inr (.ref v) :: .inl (.inl i) :: .inr (.ref q) :: T => (match yown h q, yown h v with
          | some (.inl (t, (n, .inr (.inl (d, ups))))), some (.inr (ci, _)) =>
              if mib i n && decide (mEl[t]? = some (some ci)) then ygo F (pc + ln) L T (yput h q (.inl (t, (n, .inr (.inl (d, (i.toNatClampNeg, some v) :: ups)))))) else none
          | _, _ => none)
      | _ => none)
    | .newarray t => (match S with
      | .inl (.inl n) :: T => if ¬ n < 0 ∧ n.toNatClampNeg ≤ 4000000 then (match t with
          | .int => ygo F (pc + ln) L (.inr (.ref (h.length + 4)) :: T) (h ++ [.inl (0, (n.toNatClampNeg, .inl (.inl 0, [])))])
          | .boolean => ygo F (pc + ln) L (.inr (.ref (h.length + 4)) :: T) (h ++ [.inl (1, (n.toNatClampNeg, .inl (.inl 0, [])))])
          | .byte => ygo F (pc + ln) L (.inr (.ref (h.length + 4)) :: T) (h ++ [.inl (8, (n.toNatClampNeg, .inl (.inl 0, [])))])
          | .long => ygo F (pc + ln) L (.inr (.ref (h.length + 4)) :: T) (h ++ [.inl (2, (n.toNatClampNeg, .inr (.inr 0)))])
          | _ => none) else none
      | _ => none)
    | .anewarray _ => (match S with
      | .inl (.inl n) :: T => if ¬ n < 0 ∧ n.toNatClampNeg ≤ 4000000 then (match mEl[a]? with
          | some (some _) => ygo F (pc + ln) L (.inr (.ref (h.length + 4)) :: T) (h ++ [.inl (a, (n.toNatClampNeg, .inr (.inl (none, []))))])
          | _ => none) else none
      | _ => none)
    | .multianewarray _ _ => (match S with
      | .inl (.inl k) :: .inl (.inl n) :: T => if (¬ n < 0 ∧ n.toNatClampNeg ≤ 4000000) ∧ (¬ k < 0 ∧ k.toNatClampNeg ≤ 4000000) then
          ygo F (pc + ln) L (.inr (.ref (h.length + 4)) :: T) (h ++ (.inl (7, (n.toNatClampNeg, .inr (.inl (none, (List.range n.toNatClampNeg).map fun i => (i, some (h.length + 4 + 1 + i)))))) :: List.replicate n.toNatClampNeg (.inl (0, (k.toNatClampNeg, .inl (.inl 0, []))))))
          else none
      | _ => none)
    | .new _ => (match mTy[a]? with
      | some l => ygo F (pc + ln) L (.inr (.ref (h.length + 4)) :: S) (h ++ [.inr (a, l.map ydef)])
      | none => none)
    | .invokestatic _ => (match ytake b S [] with
      | some (as, T) => if ymcat T ≤ 8 then some [(F, .inr (.inl (a, as, T)))] else none
      | none => none)
    | .invokevirtual _ => (match ytake b S [] with
      | some (as, .inr (.ref q) :: T) => (match yown h q, mrec a with
          | some (.inr (ci, _)), some R => if ci = R.2.2.2.2.1 ∧ ymcat T ≤ 8 then some [(F, .inr (.inl (a, .inr (.ref q) :: as, T)))] else none
          | _, _ => none)
      | _ => none)
    | .invokespecial _ => (match ytake b S [] with
      | some (as, .inr (.ref q) :: T) => if ymcat T ≤ 8 then some [(F, .inr (.inl (a, .inr (.ref q) :: as, T)))] else none
      | _ => none)
    | .ireturn => (match S with
      | [.inl x] => (match ret with
          | some .int => some [(F, .inr (.inr (some (.inl x))))]
          | some .boolean => if y01 F x then some [(F, .inr (.inr (some (.inl x))))] else none
          | _ => none)
      | _ => none)
    | .areturn => (match S with
      | [.inr (.ref x)] => (match ret with
          | some (.object _) => some [(F, .inr (.inr (some (.inr (.ref x)))))]
          | some (.array _) => some [(F, .inr (.inr (some (.inr (.ref x)))))]
          | _ => none)
      | [.inr .null] => (match ret with
          | some (.object _) => some [(F, .inr (.inr (some (.inr .null))))]
          | some (.array _) => some [(F, .inr (.inr (some (.inr .null))))]
          | _ => none)
      | _ => none)
    | .return_ => (match S with
      | [] => (match ret with
          | none => some [(F, .inr (.inr none))]
          | _ => none)
      | _ => none)
    | _ => none
def ysz (e : yE) : Nat := match e with
  | .inl (_, (n, _)) => n
  | .inr (_, fs) => fs.length
abbrev yFr : Type := Nat × Nat × yL × List yV
def ypush (v : Option yV) (S : List yV) : List yV := match v with
  | some v => v :: S
  | none => S
/-- every way ends, within the room, and the first frame returns 1 -/
def sx (Lc : Nat) : Nat → yF → List yFr → List yE → Bool
  | 0, _, _, _ => false
  | f + 1, F, fr, h => match fr with
    | [] => false
    | (m, pc, L, S) :: rest => match mrec m with
      | none => false
      | some R => match mcd R.2.2.2.2.2.2.2 pc with
        | none => false
        | some r => match ymx Lc R.2.2.2.1 F r pc L S h with
          | none => false
          | some os => os.all fun q => match q.2 with
            | .inl (pc', L', S', h') => sx Lc f q.1 ((m, pc', L', S') :: rest) h'
            | .inr (.inl (m', as, T)) => (match mrec m' with
                | none => false
                | some R' => if R'.2.2.1 < (ylent1 as).length ∨ 300 ≤ rest.length then false else sx Lc f q.1 ((m', 0, ylent as R'.2.2.1, []) :: (m, pc + r.2.1, L, T) :: rest) h)
            | .inr (.inr v) => (match rest with
                | (m2, pc2, L2, S2) :: rest2 => sx Lc f q.1 ((m2, pc2, L2, ypush v S2) :: rest2) h
                | [] => (match v with
                    | some (.inl (.inl x)) => decide (x = 1) && decide (h.length ≤ 600000) && decide ((h.map ysz).sum ≤ 7302250)
                    | _ => false))
end
section
/-! .. WHAT IT SAYS OF THE SMALL ONE -/
def rAll {α β : Type} (r : α → β → Prop) : List α → List β → Prop
  | [], [] => True
  | a :: as, b :: bs => r a b ∧ rAll r as bs
  | _, _ => False
section RALL
variable {α β : Type} {r : α → β → Prop}
theorem rAll_len : ∀ {as : List α} {bs : List β}, rAll r as bs → as.length = bs.length
  | [], [], _ => rfl
  | _ :: as, _ :: bs, h => by simp [rAll_len h.2]
  | [], _ :: _, h => h.elim
  | _ :: _, [], h => h.elim
theorem rAll_get : ∀ {as : List α} {bs : List β} {i : Nat} {a : α}, rAll r as bs → as[i]? = some a → ∃ b, bs[i]? = some b ∧ r a b
  | [], [], _, _, _, h => by simp at h
  | x :: as, y :: bs, 0, a, h, ha => by
    have e : x = a := by simpa using ha
    subst e
    exact ⟨y, rfl, h.1⟩
  | x :: as, y :: bs, i + 1, a, h, ha => by
    obtain ⟨b, h1, h2⟩ := rAll_get h.2 (by simpa using ha)
    exact ⟨b, by simpa using h1, h2⟩
  | [], _ :: _, _, _, h, _ => h.elim
  | _ :: _, [], _, _, h, _ => h.elim
theorem rAll_none {as : List α} {bs : List β} {i : Nat} (h : rAll r as bs) (ha : as[i]? = none) : bs[i]? = none := by
  rw [List.getElem?_eq_none_iff] at ha ⊢
  rw [← rAll_len h]
  exact ha
theorem rAll_set : ∀ {as : List α} {bs : List β} {i : Nat} {a : α} {b : β}, rAll r as bs → r a b → rAll r (as.set i a) (bs.set i b)
  | [], [], _, _, _, _, _ => trivial
  | x :: as, y :: bs, 0, a, b, h, hr => ⟨hr, h.2⟩
  | x :: as, y :: bs, i + 1, a, b, h, hr => ⟨h.1, rAll_set h.2 hr⟩
  | [], _ :: _, _, _, _, h, _ => h.elim
  | _ :: _, [], _, _, _, h, _ => h.elim
theorem rAll_app : ∀ {as : List α} {bs : List β} {as2 : List α} {bs2 : List β}, rAll r as bs → rAll r as2 bs2 → rAll r (as ++ as2) (bs ++ bs2)
  | [], [], _, _, _, h => h
  | x :: as, y :: bs, _, _, h, h2 => ⟨h.1, rAll_app h.2 h2⟩
  | [], _ :: _, _, _, h, _ => h.elim
  | _ :: _, [], _, _, h, _ => h.elim
theorem rAll_rep {a : α} {b : β} (h : r a b) : ∀ n, rAll r (List.replicate n a) (List.replicate n b)
  | 0 => trivial
  | n + 1 => ⟨h, rAll_rep h n⟩
end RALL
def rI (val : Nat → Int32) (i : yI) (v : Int32) : Prop := match i with
  | .inl c => v = c
  | .inr (some e) => v = yev val e
  | .inr none => True
def rV (val : Nat → Int32) (s : yV) (v : Value) : Prop := match s with
  | .inl i => ∃ z, v = .int z ∧ rI val i z
  | .inr w => v = w
def rO (val : Nat → Int32) (s : Option yV) (v : Option Value) : Prop := match s, v with
  | none, none => True
  | some a, some b => rV val a b
  | _, _ => False
def rC (val : Nat → Int32) (n : Nat) (s : yC) (c : vp_A) : Prop := match s, c.2 with
  | .inl (d, ups), .inl f => ∀ j, j < n → rI val (yget d ups j) (f j)
  | .inr (.inl (d, ups)), .inr (.inr (.inr (.inr f))) => ∀ j, j < n → f j = yget d ups j
  | .inr (.inr _), .inr (.inl _) => True
  | _, _ => False
def rE (val : Nat → Int32) (s : yE) (e : mE) : Prop := match s, e with
  | .inl (t, (n, c)), .inl (t2, c2) => t = t2 ∧ n = c2.1 ∧ rC val n c c2
  | .inr (ci, fs), .inr (ci2, fs2) => ci = ci2 ∧ rAll (rV val) fs fs2
  | _, _ => False
abbrev rS (val : Nat → Int32) := rAll (rV val)
abbrev rLo (val : Nat → Int32) := rAll (rO val)
abbrev rH (val : Nat → Int32) := rAll (rE val)
def rF (val : Nat → Int32) (F : yF) : Prop := (∀ q ∈ F.1, q.2.1 ≤ (yev val q.1).toInt ∧ (yev val q.1).toInt ≤ q.2.2) ∧ ∀ q ∈ F.2, (yev val q.1).toInt ≠ q.2
def rOut (val : Nat → Int32) (o : yO) (z : mO) : Prop := match o, z with
  | .inl (pc, L, S, h), .inl (pc2, L2, S2, h2) => pc = pc2 ∧ rLo val L L2 ∧ rS val S S2 ∧ rH val h h2
  | .inr (.inl (m, as, T)), .inr (.inl (m2, as2, T2)) => m = m2 ∧ rS val as as2 ∧ rS val T T2
  | .inr (.inr v), .inr (.inr v2) => rO val v v2
  | _, _ => False
section RS
variable {val : Nat → Int32}
theorem rS_c {v : yV} {T : List yV} {S0 : List Value} (h : rS val (v :: T) S0) : ∃ v0 T0, S0 = v0 :: T0 ∧ rV val v v0 ∧ rS val T T0 := by
  cases S0 with
  | nil => exact h.elim
  | cons v0 T0 => exact ⟨v0, T0, rfl, h.1, h.2⟩
theorem rS_i {i : yI} {T : List yV} {S0 : List Value} (h : rS val (.inl i :: T) S0) : ∃ x0 T0, S0 = .int x0 :: T0 ∧ rI val i x0 ∧ rS val T T0 := by
  obtain ⟨v0, T0, rfl, ⟨z, rfl, h1⟩, h2⟩ := rS_c h
  exact ⟨z, T0, rfl, h1, h2⟩
theorem rS_r {w : Value} {T : List yV} {S0 : List Value} (h : rS val (.inr w :: T) S0) : ∃ T0, S0 = w :: T0 ∧ rS val T T0 := by
  obtain ⟨v0, T0, rfl, h1, h2⟩ := rS_c h
  have h1 : v0 = w := h1
  subst h1
  exact ⟨T0, rfl, h2⟩
theorem rS_n {S0 : List Value} (h : rS val [] S0) : S0 = [] := by
  cases S0 with
  | nil => rfl
  | cons => exact h.elim
theorem rV_i {i : yI} {z : Int32} (h : rI val i z) : rV val (.inl i) (.int z) := ⟨z, rfl, h⟩
theorem rV_cat {v : yV} {w : Value} (h : rV val v w) : ycat v = w.category := by
  cases v with
  | inl i => obtain ⟨z, rfl, -⟩ := h; rfl
  | inr u => have h : w = u := h; subst h; rfl
theorem rS_cat : ∀ {S : List yV} {S0 : List Value}, rS val S S0 → ymcat S = mcat S0
  | [], [], _ => rfl
  | a :: as, b :: bs, h => by
    have h1 := rS_cat h.2
    have h2 := rV_cat h.1
    simp only [ymcat, mcat, List.map_cons, List.sum_cons] at h1 ⊢
    rw [h1, h2]
  | [], _ :: _, h => h.elim
  | _ :: _, [], h => h.elim
/-! intervals -/
theorem yev_lo (e : yX) : ylo ≤ (yev val e).toInt ∧ (yev val e).toInt ≤ yhi := by
  have h1 := Int32.le_toInt (yev val e)
  have h2 := Int32.toInt_lt (yev val e)
  unfold ylo yhi
  omega
theorem yfd_ok (e : yX) : ∀ F : List (yX × Int × Int), (∀ q ∈ F, q.2.1 ≤ (yev val q.1).toInt ∧ (yev val q.1).toInt ≤ q.2.2) → (yfd F e).1 ≤ (yev val e).toInt ∧ (yev val e).toInt ≤ (yfd F e).2
  | [], _ => yev_lo e
  | (e2, r) :: F, h => by
    unfold yfd
    by_cases he : e2 = e
    · rw [if_pos he]
      subst he
      exact h _ List.mem_cons_self
    · rw [if_neg he]
      exact yfd_ok e F (fun q hq => h q (List.mem_cons_of_mem _ hq))
theorem yexc_ok (e : yX) (k : Int) : ∀ G : List (yX × Int), (∀ q ∈ G, (yev val q.1).toInt ≠ q.2) → yexc G e k = true → (yev val e).toInt ≠ k
  | [], _, h => by cases h
  | (e2, k2) :: G, h, hk => by
    unfold yexc at hk
    simp only [Bool.or_eq_true, Bool.and_eq_true, decide_eq_true_eq] at hk
    rcases hk with ⟨rfl, rfl⟩ | hk
    · exact h (e2, k2) List.mem_cons_self
    · exact yexc_ok e k G (fun q hq => h q (List.mem_cons_of_mem _ hq)) hk
theorem yup_ok {G : List (yX × Int)} (hG : ∀ q ∈ G, (yev val q.1).toInt ≠ q.2) (e : yX) : ∀ (n : Nat) (lo : Int), lo ≤ (yev val e).toInt → yup G e n lo ≤ (yev val e).toInt
  | 0, lo, h => h
  | n + 1, lo, h => by
    unfold yup
    by_cases he : yexc G e lo = true
    · rw [if_pos he]
      have := yexc_ok e lo G hG he
      exact yup_ok hG e n (lo + 1) (by omega)
    · rw [if_neg he]
      exact h
theorem ydn_ok {G : List (yX × Int)} (hG : ∀ q ∈ G, (yev val q.1).toInt ≠ q.2) (e : yX) : ∀ (n : Nat) (hi : Int), (yev val e).toInt ≤ hi → (yev val e).toInt ≤ ydn G e n hi
  | 0, hi, h => h
  | n + 1, hi, h => by
    unfold ydn
    by_cases he : yexc G e hi = true
    · rw [if_pos he]
      have := yexc_ok e hi G hG he
      exact ydn_ok hG e n (hi - 1) (by omega)
    · rw [if_neg he]
      exact h
theorem yiv_ok {F : yF} (hF : rF val F) (e : yX) : (yiv F e).1 ≤ (yev val e).toInt ∧ (yev val e).toInt ≤ (yiv F e).2 := by
  have h := yfd_ok e F.1 hF.1
  unfold yiv
  exact ⟨yup_ok hF.2 e 64 _ h.1, ydn_ok hF.2 e 64 _ h.2⟩
theorem yadd_ok {F : yF} (hF : rF val F) {e : yX} {lo hi : Int} (h1 : lo ≤ (yev val e).toInt) (h2 : (yev val e).toInt ≤ hi) : rF val (yadd F e lo hi) := by
  refine ⟨fun q hq => ?_, hF.2⟩
  rcases List.mem_cons.mp hq with rfl | hq
  · exact ⟨h1, h2⟩
  · exact hF.1 q hq
theorem ynot_ok {F : yF} (hF : rF val F) {e : yX} {k : Int} (h : (yev val e).toInt ≠ k) : rF val (ynot F e k) := by
  refine ⟨hF.1, fun q hq => ?_⟩
  rcases List.mem_cons.mp hq with rfl | hq
  · exact h
  · exact hF.2 q hq
theorem ylt_ok {F : yF} (hF : rF val F) (e : yX) (k : Int) : ∃ q ∈ ylt F e k, rF val q.1 ∧ q.2 = decide ((yev val e).toInt < k) := by
  have h := yiv_ok hF e
  unfold ylt
  generalize yiv F e = r at h
  obtain ⟨lo, hi⟩ := r
  dsimp only at h ⊢
  by_cases h0 : hi < lo
  · exfalso; omega
  rw [if_neg h0]
  by_cases h1 : hi < k
  · rw [if_pos h1]
    exact ⟨_, List.mem_cons_self, hF, (decide_eq_true (by omega)).symm⟩
  rw [if_neg h1]
  by_cases h2 : k ≤ lo
  · rw [if_pos h2]
    exact ⟨_, List.mem_cons_self, hF, (decide_eq_false (by omega)).symm⟩
  rw [if_neg h2]
  by_cases h3 : (yev val e).toInt < k
  · exact ⟨_, List.mem_cons_self, yadd_ok hF h.1 (by omega), (decide_eq_true h3).symm⟩
  · exact ⟨_, List.mem_cons_of_mem _ List.mem_cons_self, yadd_ok hF (by omega) h.2, (decide_eq_false h3).symm⟩
theorem yeq_ok {F : yF} (hF : rF val F) (e : yX) (k : Int) : ∃ q ∈ yeq F e k, rF val q.1 ∧ q.2 = decide ((yev val e).toInt = k) := by
  have h := yiv_ok hF e
  unfold yeq
  generalize yiv F e = r at h
  obtain ⟨lo, hi⟩ := r
  dsimp only at h ⊢
  by_cases h0 : hi < lo
  · exfalso; omega
  rw [if_neg h0]
  by_cases h1 : k < lo ∨ hi < k
  · rw [if_pos h1]
    exact ⟨_, List.mem_cons_self, hF, (decide_eq_false (by omega)).symm⟩
  rw [if_neg h1]
  by_cases h2 : lo = hi
  · rw [if_pos h2]
    exact ⟨_, List.mem_cons_self, hF, (decide_eq_true (by omega)).symm⟩
  rw [if_neg h2]
  by_cases h3 : (yev val e).toInt = k
  · exact ⟨_, List.mem_cons_self, yadd_ok hF (by omega) (by omega), (decide_eq_true h3).symm⟩
  · exact ⟨_, List.mem_cons_of_mem _ List.mem_cons_self, ynot_ok hF h3, (decide_eq_false h3).symm⟩
theorem yneg_ok {l : List (yF × Bool)} {b : Bool} (h : ∃ q ∈ l, rF val q.1 ∧ q.2 = b) : ∃ q ∈ yneg l, rF val q.1 ∧ q.2 = !b := by
  obtain ⟨q, h1, h2, h3⟩ := h
  exact ⟨(q.1, !q.2), List.mem_map.mpr ⟨q, h1, rfl⟩, h2, by rw [← h3]⟩
theorem mcmp_i (c : ClassFile.Cond) (a b : Int32) : mcmp c a b = (match c with
    | .eq => decide (a.toInt = b.toInt)
    | .ne => !decide (a.toInt = b.toInt)
    | .lt => decide (a.toInt < b.toInt)
    | .ge => !decide (a.toInt < b.toInt)
    | .gt => !decide (a.toInt < b.toInt + 1)
    | .le => decide (a.toInt < b.toInt + 1)) := by
  cases c with
  | eq => exact decide_eq_decide.mpr (Int32.toInt_inj).symm
  | ne =>
    show (!decide (a = b)) = _
    rw [decide_eq_decide.mpr (Int32.toInt_inj (x := a) (y := b)).symm]
  | lt => exact decide_eq_decide.mpr Int32.lt_iff_toInt_lt
  | ge =>
    show decide (b ≤ a) = !decide (a.toInt < b.toInt)
    rw [← decide_not]
    refine decide_eq_decide.mpr ?_
    rw [Int32.le_iff_toInt_le]
    omega
  | gt =>
    show decide (b < a) = !decide (a.toInt < b.toInt + 1)
    rw [← decide_not]
    refine decide_eq_decide.mpr ?_
    rw [Int32.lt_iff_toInt_lt]
    omega
  | le =>
    refine decide_eq_decide.mpr ?_
    rw [Int32.le_iff_toInt_le]
    omega
theorem ycx_ok {F : yF} (hF : rF val F) (c : ClassFile.Cond) (e : yX) (b : Int32) : ∃ q ∈ ycx F c e b.toInt, rF val q.1 ∧ q.2 = mcmp c (yev val e) b := by
  rw [mcmp_i]
  cases c with
  | eq => exact yeq_ok hF e _
  | ne => exact yneg_ok (yeq_ok hF e _)
  | lt => exact ylt_ok hF e _
  | ge => exact yneg_ok (ylt_ok hF e _)
  | gt => exact yneg_ok (ylt_ok hF e _)
  | le => exact ylt_ok hF e _
theorem yflip_ok (c : ClassFile.Cond) (a b : Int32) : mcmp c a b = mcmp (yflip c) b a := by
  cases c with
  | eq => exact decide_eq_decide.mpr eq_comm
  | ne => show (!decide (a = b)) = !decide (b = a); rw [decide_eq_decide.mpr (eq_comm (a := a) (b := b))]
  | _ => rfl
theorem yself_ok (c : ClassFile.Cond) (a : Int32) : yself c = mcmp c a a := by
  rw [mcmp_i]
  cases c <;> simp [yself] <;> omega
theorem ycmp_ok {F : yF} (hF : rF val F) (c : ClassFile.Cond) {a b : yI} {u v : Int32} (ha : rI val a u) (hb : rI val b v) : ∃ q ∈ ycmp F c a b, rF val q.1 ∧ q.2 = mcmp c u v := by
  have two : ∃ q ∈ ([(F, true), (F, false)] : List (yF × Bool)), rF val q.1 ∧ q.2 = mcmp c u v := by
    cases mcmp c u v with
    | true => exact ⟨_, List.mem_cons_self, hF, rfl⟩
    | false => exact ⟨_, List.mem_cons_of_mem _ List.mem_cons_self, hF, rfl⟩
  rcases a with a | _ | e <;> rcases b with b | _ | e2
  · have ha : u = a := ha
    have hb : v = b := hb
    subst ha; subst hb
    exact ⟨_, List.mem_cons_self, hF, rfl⟩
  · exact two
  · have ha : u = a := ha
    have hb : v = yev val e2 := hb
    subst ha; subst hb
    rw [yflip_ok]
    exact ycx_ok hF _ _ _
  · exact two
  · exact two
  · exact two
  · have ha : u = yev val e := ha
    have hb : v = b := hb
    subst ha; subst hb
    exact ycx_ok hF _ _ _
  · exact two
  · have ha : u = yev val e := ha
    have hb : v = yev val e2 := hb
    subst ha; subst hb
    show ∃ q ∈ (if e = e2 then [(F, yself c)] else [(F, true), (F, false)]), _
    by_cases he : e = e2
    · rw [if_pos he]
      subst he
      exact ⟨_, List.mem_cons_self, hF, yself_ok c _⟩
    · rw [if_neg he]
      exact two
end RS
end
section
/-! .. its operations and cells -/
section RS2
variable {val : Nat → Int32}
theorem yun_ok {o : Nat} {c : Int32} {a : Option yX} {u : Int32} (h : rI val (.inr a) u) : rI val (yun o a c) (yop o c u) := by
  cases a with
  | none => trivial
  | some e =>
    obtain ⟨k, l⟩ := e
    have h : u = yev val (k, l) := h
    subst h
    rfl
theorem yb_add {x y z : yI} {u v : Int32} (h : ybin .iadd x y = some z) (hx : rI val x u) (hy : rI val y v) : rI val z (u + v) := by
  rcases x with a | a <;> rcases y with b | b
  · have hx : u = a := hx
    have hy : v = b := hy
    subst hx; subst hy
    cases h
    rfl
  · have hx : u = a := hx
    subst hx
    replace h : some (if u = 0 then .inr b else yun 0 b u) = some z := h
    cases h
    by_cases h0 : u = 0
    · rw [if_pos h0, h0, Int32.zero_add]; exact hy
    · rw [if_neg h0, Int32.add_comm]; exact yun_ok hy
  · have hy : v = b := hy
    subst hy
    replace h : some (if v = 0 then .inr a else yun 0 a v) = some z := h
    cases h
    by_cases h0 : v = 0
    · rw [if_pos h0, h0, Int32.add_zero]; exact hx
    · rw [if_neg h0]; exact yun_ok hx
  · cases h
    trivial

theorem yb_sub {x y z : yI} {u v : Int32} (h : ybin .isub x y = some z) (hx : rI val x u) (hy : rI val y v) : rI val z (u - v) := by
  rcases x with a | a <;> rcases y with b | b
  · have hx : u = a := hx
    have hy : v = b := hy
    subst hx; subst hy
    cases h
    rfl
  · have hx : u = a := hx
    subst hx
    cases h
    exact yun_ok (o := 2) hy
  · have hy : v = b := hy
    subst hy
    cases h
    exact yun_ok (o := 1) hx
  · cases h
    trivial
theorem yb_mul {x y z : yI} {u v : Int32} (h : ybin .imul x y = some z) (hx : rI val x u) (hy : rI val y v) : rI val z (u * v) := by
  rcases x with a | a <;> rcases y with b | b
  · have hx : u = a := hx
    have hy : v = b := hy
    subst hx; subst hy
    cases h
    rfl
  · cases h
    trivial
  · have hy : v = b := hy
    subst hy
    cases h
    exact yun_ok (o := 3) hx
  · cases h
    trivial
theorem yb_and {x y z : yI} {u v : Int32} (h : ybin .iand x y = some z) (hx : rI val x u) (hy : rI val y v) : rI val z (u &&& v) := by
  rcases x with a | a <;> rcases y with b | b
  · have hx : u = a := hx
    have hy : v = b := hy
    subst hx; subst hy
    cases h
    rfl
  · cases h
    trivial
  · have hy : v = b := hy
    subst hy
    cases h
    exact yun_ok (o := 6) hx
  · cases h
    trivial
theorem yb_ushr {x y z : yI} {u v : Int32} (h : ybin .iushr x y = some z) (hx : rI val x u) (hy : rI val y v) : rI val z ((u.toUInt32 >>> (v.toUInt32 &&& Int32.toUInt32 31)).toInt32) := by
  rcases x with a | a <;> rcases y with b | b
  · have hx : u = a := hx
    have hy : v = b := hy
    subst hx; subst hy
    cases h
    rfl
  · cases h
  · have hy : v = b := hy
    subst hy
    cases h
    exact yun_ok (o := 7) hx
  · cases h
theorem yb_shr {x y z : yI} {u v : Int32} (h : ybin .ishr x y = some z) (hx : rI val x u) (hy : rI val y v) : rI val z (u >>> (v &&& 31)) := by
  rcases x with a | a <;> rcases y with b | b
  · have hx : u = a := hx
    have hy : v = b := hy
    subst hx; subst hy
    cases h
    rfl
  · cases h
  · have hy : v = b := hy
    subst hy
    cases h
    exact yun_ok (o := 8) hx
  · cases h
theorem yb_div {x y z : yI} {u v : Int32} (h : ybin .idiv x y = some z) (hx : rI val x u) (hy : rI val y v) : ¬ v = 0 ∧ rI val z (u / v) := by
  rcases x with a | a <;> rcases y with b | b
  · have hx : u = a := hx
    have hy : v = b := hy
    subst hx; subst hy
    replace h : (if v = 0 then none else some (.inl (u / v))) = some z := h
    by_cases h0 : v = 0
    · rw [if_pos h0] at h; cases h
    · rw [if_neg h0] at h; cases h; exact ⟨h0, rfl⟩
  · cases h
  · have hy : v = b := hy
    subst hy
    replace h : (if v = 0 then none else some (yun 4 a v)) = some z := h
    by_cases h0 : v = 0
    · rw [if_pos h0] at h; cases h
    · rw [if_neg h0] at h; cases h; exact ⟨h0, yun_ok (o := 4) hx⟩
  · cases h
theorem yb_rem {x y z : yI} {u v : Int32} (h : ybin .irem x y = some z) (hx : rI val x u) (hy : rI val y v) : ¬ v = 0 ∧ rI val z (u - u / v * v) := by
  rcases x with a | a <;> rcases y with b | b
  · have hx : u = a := hx
    have hy : v = b := hy
    subst hx; subst hy
    replace h : (if v = 0 then none else some (.inl (u - u / v * v))) = some z := h
    by_cases h0 : v = 0
    · rw [if_pos h0] at h; cases h
    · rw [if_neg h0] at h; cases h; exact ⟨h0, rfl⟩
  · cases h
  · have hy : v = b := hy
    subst hy
    replace h : (if v = 0 then none else some (yun 5 a v)) = some z := h
    by_cases h0 : v = 0
    · rw [if_pos h0] at h; cases h
    · rw [if_neg h0] at h; cases h; exact ⟨h0, yun_ok (o := 5) hx⟩
  · cases h
theorem y01_ok {F : yF} (hF : rF val F) {i : yI} {u : Int32} (h : y01 F i = true) (hi : rI val i u) : (decide (u = 0) || decide (u = 1)) = true := by
  rcases i with a | _ | e
  · have hi : u = a := hi
    subst hi
    exact h
  · cases h
  · have hi : u = yev val e := hi
    subst hi
    have hk := yiv_ok hF e
    unfold y01 at h
    simp only [Bool.and_eq_true, decide_eq_true_eq] at h
    simp only [Bool.or_eq_true, decide_eq_true_eq, ← Int32.toInt_inj]
    have e0 : (0 : Int32).toInt = 0 := rfl
    have e1 : (1 : Int32).toInt = 1 := rfl
    omega
theorem yfit_ok {F : yF} (hF : rF val F) {ty : FieldType} {v : yV} {w : Value} (h : yfit F ty v = true) (hv : rV val v w) : mfit ty w = true := by
  unfold yfit at h
  split at h
  · obtain ⟨z, rfl, -⟩ := hv; rfl
  · obtain ⟨z, rfl, hz⟩ := hv
    exact y01_ok hF h hz
  all_goals first | (cases h; done) | (have hv : w = _ := hv; subst hv; rfl)
theorem mib_lt {i : Int32} {n : Nat} (h : mib i n = true) : i.toNatClampNeg < n := by
  have h2 := s_vp h
  exact Nat.not_le.mp fun q => h2 (Or.inr q)
theorem yix_ok {F : yF} (hF : rF val F) {i : yI} {n : Nat} {j : Option Nat} {u : Int32} (h : yix F i n = some j) (hi : rI val i u) : mib u n = true ∧ (∀ k, j = some k → u.toNatClampNeg = k) := by
  rcases i with a | _ | e
  · have hi : u = a := hi
    subst hi
    replace h : (if mib u n then some (some u.toNatClampNeg) else none) = some j := h
    by_cases hb : mib u n = true
    · rw [if_pos hb] at h
      cases h
      exact ⟨hb, fun k hk => Option.some.inj hk⟩
    · rw [if_neg hb] at h; cases h
  · cases h
  · have hi : u = yev val e := hi
    subst hi
    have hk := yiv_ok hF e
    replace h : (match yiv F e with
      | (lo, hi) => if 0 ≤ lo ∧ hi < (n : Int) then some none else none) = some j := h
    generalize yiv F e = r at hk h
    obtain ⟨lo, hi⟩ := r
    dsimp only at hk h
    by_cases hb : 0 ≤ lo ∧ hi < (n : Int)
    · rw [if_pos hb] at h
      cases h
      refine ⟨?_, fun k hk => by cases hk⟩
      have : vp_in (yev val e) n := vp_in_iff.mpr ⟨by omega, by omega⟩
      unfold mib
      simp only [Bool.not_eq_true', Bool.or_eq_false_iff, decide_eq_false_iff_not]
      exact ⟨fun q => this (Or.inl q), fun q => this (Or.inr q)⟩
    · rw [if_neg hb] at h; cases h
theorem yld_ok {n : Nat} {d : yI} {ups : List (Nat × yI)} {f : Nat → Int32} {j : Option Nat} {u : Int32} (hc : ∀ j, j < n → rI val (yget d ups j) (f j)) (hb : mib u n = true) (hj : ∀ k, j = some k → u.toNatClampNeg = k) : rI val (yld d ups j) (f u.toNatClampNeg) := by
  have hlt := mib_lt hb
  cases j with
  | some k =>
    have e := hj k rfl
    subst e
    exact hc _ hlt
  | none =>
    show rI val (if ups.isEmpty then d else .inr none) _
    by_cases he : ups.isEmpty = true
    · rw [if_pos he]
      have e : ups = [] := List.isEmpty_iff.mp he
      subst e
      exact hc _ hlt
    · rw [if_neg he]
      trivial
theorem yst_ok {n : Nat} {d : yI} {ups : List (Nat × yI)} {f : Nat → Int32} {j : Option Nat} {u w : Int32} {v : yI} (hc : ∀ j, j < n → rI val (yget d ups j) (f j)) (hj : ∀ k, j = some k → u.toNatClampNeg = k) (hv : rI val v w) : ∀ k, k < n → rI val (yget (yst d ups j v).1 (yst d ups j v).2 k) (upd f u.toNatClampNeg w k) := by
  intro k hk
  cases j with
  | some i =>
    have e := hj i rfl
    subst e
    show rI val (yget d ((u.toNatClampNeg, v) :: ups) k) _
    unfold yget upd
    by_cases he : u.toNatClampNeg = k
    · rw [if_pos he, if_pos he.symm]; exact hv
    · rw [if_neg he, if_neg (Ne.symm he)]; exact hc k hk
  | none => trivial
theorem yown_ok {h : List yE} {h0 : List mE} {q : Nat} {e : yE} (hH : rH val h h0) (hq : yown h q = some e) : ∃ e0, mown h0 q = some e0 ∧ rE val e e0 := by
  unfold yown at hq
  unfold mown
  by_cases h4 : q < 4
  · rw [if_pos h4] at hq; cases hq
  · rw [if_neg h4] at hq ⊢
    exact rAll_get hH hq
theorem yput_ok {h : List yE} {h0 : List mE} {q : Nat} {e : yE} {e0 : mE} (hH : rH val h h0) (he : rE val e e0) : rH val (yput h q e) (mput h0 q e0) := rAll_set hH he
theorem ylget_ok {L : yL} {L0 : mL} {i : Nat} {v : yV} (hL : rLo val L L0) (h : ylget L i = some v) : ∃ w, lget L0 i = some w ∧ rV val v w := by
  unfold ylget at h
  split at h
  · rename_i v2 hv
    cases h
    obtain ⟨b, h1, h2⟩ := rAll_get hL hv
    cases b with
    | none => exact h2.elim
    | some w => exact ⟨w, by unfold lget; rw [h1], h2⟩
  · cases h
theorem yclr_ok {L : yL} {L0 : mL} (hL : rLo val L L0) : ∀ i, rLo val (yclr L i) (lclr L0 i)
  | 0 => hL
  | i + 1 => by
    show rLo val (match L[i]? with
      | some (some (.inr (.long _))) => L.set i none
      | some (some (.inr (.double _))) => L.set i none
      | _ => L) _
    rw [lclr_s]
    cases hi : L[i]? with
    | none => rw [rAll_none hL hi]; exact hL
    | some a =>
      obtain ⟨b, h1, h2⟩ := rAll_get hL hi
      rw [h1]
      rcases a with _ | a
      · cases b with
        | none => exact hL
        | some b => exact h2.elim
      · cases b with
        | none => exact h2.elim
        | some b =>
          rcases a with a | a
          · obtain ⟨z, rfl, -⟩ := h2
            exact hL
          · have h2 : b = a := h2
            subst h2
            cases b with
            | long z => exact rAll_set hL trivial
            | double z => exact rAll_set hL trivial
            | _ => exact hL
theorem yset1_ok {L : yL} {L0 : mL} (hL : rLo val L L0) {i : Nat} {v : yV} {w : Value} (h : rV val v w) : rLo val (yset1 L i v) (lset1 L0 i w) := rAll_set (yclr_ok hL i) h
theorem ylent1_ok : ∀ {vs : List yV} {ws : List Value}, rS val vs ws → rLo val (ylent1 vs) (lent1 ws)
  | [], [], _ => trivial
  | v :: vs, w :: ws, h => by
    have ih := ylent1_ok h.2
    unfold ylent1 lent1
    rw [rV_cat h.1]
    by_cases hc : w.category = 2
    · rw [if_pos hc, if_pos hc]; exact ⟨h.1, trivial, ih⟩
    · rw [if_neg hc, if_neg hc]; exact ⟨h.1, ih⟩
  | [], _ :: _, h => h.elim
  | _ :: _, [], h => h.elim
theorem ylent_ok {vs : List yV} {ws : List Value} (h : rS val vs ws) (n : Nat) : rLo val (ylent vs n) (lent ws n) := by
  unfold ylent lent
  rw [rAll_len (ylent1_ok h)]
  exact rAll_app (ylent1_ok h) (rAll_rep trivial _)
theorem ytake_ok : ∀ (n : Nat) {S acc as T : List yV} {S0 acc0 : List Value}, rS val S S0 → rS val acc acc0 → ytake n S acc = some (as, T) → ∃ as0 T0, mtake n S0 acc0 = some (as0, T0) ∧ rS val as as0 ∧ rS val T T0
  | 0, S, acc, as, T, S0, acc0, hS, ha, h => by
    cases h
    exact ⟨acc0, S0, rfl, ha, hS⟩
  | n + 1, [], _, _, _, _, _, _, _, h => by cases h
  | n + 1, v :: S, acc, as, T, S0, acc0, hS, ha, h => by
    obtain ⟨v0, T0, rfl, h1, h2⟩ := rS_c hS
    exact ytake_ok n (acc := v :: acc) (acc0 := v0 :: acc0) h2 ⟨h1, ha⟩ h
theorem ydef_ok (ty : FieldType) : rV val (ydef ty) (defaultValue ty) := by
  cases ty <;> first | exact rfl | exact ⟨0, rfl, rfl⟩
theorem ydefs_ok : ∀ l : List FieldType, rS val (l.map ydef) (l.map defaultValue)
  | [] => trivial
  | ty :: l => ⟨ydef_ok ty, ydefs_ok l⟩
theorem rH_len {h : List yE} {h0 : List mE} (hH : rH val h h0) : h.length = h0.length := rAll_len hH
theorem rH_sz : ∀ {h : List yE} {h0 : List mE}, rH val h h0 → (h.map ysz).sum = mhs h0
  | [], [], _ => rfl
  | a :: as, b :: bs, h => by
    have h1 := rH_sz h.2
    have h2 : ysz a = msz b := by
      rcases a with ⟨t, n, c⟩ | ⟨ci, fs⟩ <;> rcases b with ⟨t2, n2, c2⟩ | ⟨ci2, fs2⟩
      · exact h.1.2.1
      · exact h.1.elim
      · exact h.1.elim
      · exact rAll_len h.1.2
    simp only [mhs, List.map_cons, List.sum_cons] at h1 ⊢
    rw [h1, h2]
  | [], _ :: _, h => h.elim
  | _ :: _, [], h => h.elim
end RS2
end
section
/-! .. instruction by instruction -/
/-- one of the ways is the small machine's -/
def yOK (Lc : Nat) (val : Nat → Int32) (ret : Option FieldType) (r : mR) (pc : Nat) (L0 : mL) (S0 : List Value) (h0 : List mE) (os : List (yF × yO)) : Prop := ∃ q ∈ os, rF val q.1 ∧ ∃ z, mx ret (mex Lc val) r pc L0 S0 h0 = some z ∧ rOut val q.2 z
theorem rAll_c {α β : Type} {r : α → β → Prop} {x : α} {y : β} {as : List α} {bs : List β} (h1 : r x y) (h2 : rAll r as bs) : rAll r (x :: as) (y :: bs) := ⟨h1, h2⟩
theorem rV_r {val : Nat → Int32} {w : Value} : rV val (.inr w) w := rfl
theorem rI_c {val : Nat → Int32} {c : Int32} : rI val (.inl c) c := rfl
section YOK
variable {Lc : Nat} {val : Nat → Int32} {ret : Option FieldType} {F : yF} {pc ln a b q1 : Nat} {L : yL} {S : List yV} {h : List yE} {L0 : mL} {S0 : List Value} {h0 : List mE} {os : List (yF × yO)}
theorem y_one {r : mR} {pc2 : Nat} {L1 : yL} {S1 : List yV} {h1 : List yE} {L2 : mL} {S2 : List Value} {h2 : List mE} (hF : rF val F) (hy : ygo F pc2 L1 S1 h1 = some os) (hz : mx ret (mex Lc val) r pc L0 S0 h0 = some (.inl (pc2, L2, S2, h2))) (hL : rLo val L1 L2) (hS : rS val S1 S2) (hH : rH val h1 h2) : yOK Lc val ret r pc L0 S0 h0 os := by
  cases hy
  exact ⟨_, List.mem_cons_self, hF, _, hz, rfl, hL, hS, hH⟩
theorem y_br {r : mR} {l : List (yF × Bool)} {t f : Nat} {L1 : yL} {S1 : List yV} {h1 : List yE} {L2 : mL} {S2 : List Value} {h2 : List mE} {bb : Bool} (hy : some (l.map fun q => (q.1, (.inl (if q.2 then t else f, L1, S1, h1) : yO))) = some os) (hq : ∃ q ∈ l, rF val q.1 ∧ q.2 = bb) (hz : mx ret (mex Lc val) r pc L0 S0 h0 = some (.inl (if bb then t else f, L2, S2, h2))) (hL : rLo val L1 L2) (hS : rS val S1 S2) (hH : rH val h1 h2) : yOK Lc val ret r pc L0 S0 h0 os := by
  cases hy
  obtain ⟨q, h1, h2, h3⟩ := hq
  refine ⟨_, List.mem_map.mpr ⟨q, h1, rfl⟩, h2, _, hz, ?_, hL, hS, hH⟩
  rw [h3]
theorem z_iconst {v : Int} (hF : rF val F) (hL : rLo val L L0) (hS : rS val S S0) (hH : rH val h h0) (hy : ymx Lc ret F (.iconst v, ln, a, b, q1) pc L S h = some os) : yOK Lc val ret (.iconst v, ln, a, b, q1) pc L0 S0 h0 os := by
  replace hy : (ygo F (pc + ln) L (.inl (.inl (Int32.ofInt v)) :: S) h) = some os := hy
  exact y_one hF hy rfl hL (rAll_c (rV_i rI_c) hS) hH
theorem z_jsr_w {v : Int} (hF : rF val F) (hL : rLo val L L0) (hS : rS val S S0) (hH : rH val h h0) (hy : ymx Lc ret F (.jsr_w v, ln, a, b, q1) pc L S h = some os) : yOK Lc val ret (.jsr_w v, ln, a, b, q1) pc L0 S0 h0 os := by
  replace hy : (ygo F (pc + ln) L (.inr (.long (Int64.ofInt v)) :: S) h) = some os := hy
  exact y_one hF hy rfl hL (rAll_c rV_r hS) hH
theorem z_aconst_null (hF : rF val F) (hL : rLo val L L0) (hS : rS val S S0) (hH : rH val h h0) (hy : ymx Lc ret F (.aconst_null, ln, a, b, q1) pc L S h = some os) : yOK Lc val ret (.aconst_null, ln, a, b, q1) pc L0 S0 h0 os := by
  replace hy : (ygo F (pc + ln) L (.inr .null :: S) h) = some os := hy
  exact y_one hF hy rfl hL (rAll_c rV_r hS) hH
theorem z_getstatic {i : Nat} (hF : rF val F) (hL : rLo val L L0) (hS : rS val S S0) (hH : rH val h h0) (hy : ymx Lc ret F (.getstatic i, ln, a, b, q1) pc L S h = some os) : yOK Lc val ret (.getstatic i, ln, a, b, q1) pc L0 S0 h0 os := by
  replace hy : (ygo F (pc + ln) L (.inr (.ref (a + 1)) :: S) h) = some os := hy
  exact y_one hF hy rfl hL (rAll_c rV_r hS) hH
theorem z_goto {off : Int} (hF : rF val F) (hL : rLo val L L0) (hS : rS val S S0) (hH : rH val h h0) (hy : ymx Lc ret F (.goto off, ln, a, b, q1) pc L S h = some os) : yOK Lc val ret (.goto off, ln, a, b, q1) pc L0 S0 h0 os := by
  replace hy : (ygo F (mjmp pc off) L S h) = some os := hy
  exact y_one hF hy rfl hL hS hH
theorem z_iload {i : Nat} (hF : rF val F) (hL : rLo val L L0) (hS : rS val S S0) (hH : rH val h h0) (hy : ymx Lc ret F (.iload i, ln, a, b, q1) pc L S h = some os) : yOK Lc val ret (.iload i, ln, a, b, q1) pc L0 S0 h0 os := by
  replace hy : (match (generalizing := false) ylget L i with
    | some (.inl x) => ygo F (pc + ln) L (.inl x :: S) h
    | _ => none) = some os := hy
  split at hy
  · rename_i x hl
    obtain ⟨w, hw, z, rfl, hz⟩ := ylget_ok hL hl
    exact y_one hF hy (by dsimp only [mx]; rw [hw]; rfl) hL (rAll_c (rV_i hz) hS) hH
  · cases hy
theorem z_aload {i : Nat} (hF : rF val F) (hL : rLo val L L0) (hS : rS val S S0) (hH : rH val h h0) (hy : ymx Lc ret F (.aload i, ln, a, b, q1) pc L S h = some os) : yOK Lc val ret (.aload i, ln, a, b, q1) pc L0 S0 h0 os := by
  replace hy : (match (generalizing := false) ylget L i with
    | some (.inr (.ref x)) => ygo F (pc + ln) L (.inr (.ref x) :: S) h
    | some (.inr .null) => ygo F (pc + ln) L (.inr .null :: S) h
    | _ => none) = some os := hy
  split at hy
  · rename_i x hl
    obtain ⟨w, hw, hv⟩ := ylget_ok hL hl
    have hv : w = _ := hv
    subst hv
    exact y_one hF hy (by dsimp only [mx]; rw [hw]; rfl) hL (rAll_c rV_r hS) hH
  · rename_i hl
    obtain ⟨w, hw, hv⟩ := ylget_ok hL hl
    have hv : w = _ := hv
    subst hv
    exact y_one hF hy (by dsimp only [mx]; rw [hw]; rfl) hL (rAll_c rV_r hS) hH
  · cases hy
theorem z_istore {i : Nat} (hF : rF val F) (hL : rLo val L L0) (hS : rS val S S0) (hH : rH val h h0) (hy : ymx Lc ret F (.istore i, ln, a, b, q1) pc L S h = some os) : yOK Lc val ret (.istore i, ln, a, b, q1) pc L0 S0 h0 os := by
  replace hy : (match (generalizing := false) S with
    | .inl x :: T => if i < L.length then ygo F (pc + ln) (yset1 L i (.inl x)) T h else none
    | _ => none) = some os := hy
  split at hy
  · rename_i x T
    by_cases hi : i < L.length
    · rw [if_pos hi] at hy
      obtain ⟨x0, T0, rfl, hx0, hT⟩ := rS_i hS
      exact y_one hF hy (by dsimp only [mx]; rw [if_pos (by rw [← rAll_len hL]; exact hi)]; rfl) (yset1_ok hL (rV_i hx0)) hT hH
    · rw [if_neg hi] at hy; cases hy
  · cases hy
theorem z_astore {i : Nat} (hF : rF val F) (hL : rLo val L L0) (hS : rS val S S0) (hH : rH val h h0) (hy : ymx Lc ret F (.astore i, ln, a, b, q1) pc L S h = some os) : yOK Lc val ret (.astore i, ln, a, b, q1) pc L0 S0 h0 os := by
  replace hy : (match (generalizing := false) S with
    | .inr (.ref x) :: T => if i < L.length then ygo F (pc + ln) (yset1 L i (.inr (.ref x))) T h else none
    | .inr .null :: T => if i < L.length then ygo F (pc + ln) (yset1 L i (.inr .null)) T h else none
    | _ => none) = some os := hy
  split at hy
  · rename_i x T
    by_cases hi : i < L.length
    · rw [if_pos hi] at hy
      obtain ⟨T0, rfl, hT⟩ := rS_r hS
      exact y_one hF hy (by dsimp only [mx]; rw [if_pos (by rw [← rAll_len hL]; exact hi)]; rfl) (yset1_ok hL rV_r) hT hH
    · rw [if_neg hi] at hy; cases hy
  · rename_i T
    by_cases hi : i < L.length
    · rw [if_pos hi] at hy
      obtain ⟨T0, rfl, hT⟩ := rS_r hS
      exact y_one hF hy (by dsimp only [mx]; rw [if_pos (by rw [← rAll_len hL]; exact hi)]; rfl) (yset1_ok hL rV_r) hT hH
    · rw [if_neg hi] at hy; cases hy
  · cases hy
theorem z_iinc {i : Nat} {n : Int} (hF : rF val F) (hL : rLo val L L0) (hS : rS val S S0) (hH : rH val h h0) (hy : ymx Lc ret F (.iinc i n, ln, a, b, q1) pc L S h = some os) : yOK Lc val ret (.iinc i n, ln, a, b, q1) pc L0 S0 h0 os := by
  replace hy : (match (generalizing := false) ylget L i with
    | some (.inl x) => if i < L.length then (match ybin .iadd x (.inl (Int32.ofInt n)) with
        | some z => ygo F (pc + ln) (yset1 L i (.inl z)) S h
        | none => none) else none
    | _ => none) = some os := hy
  split at hy
  · rename_i x hl
    obtain ⟨w, hw, z, rfl, hz⟩ := ylget_ok hL hl
    by_cases hi : i < L.length
    · rw [if_pos hi] at hy
      split at hy
      · rename_i z2 hz2
        exact y_one hF hy (by dsimp only [mx]; rw [hw]; dsimp only; rw [if_pos (by rw [← rAll_len hL]; exact hi)]; rfl) (yset1_ok hL (rV_i (yb_add hz2 hz rI_c))) hS hH
      · cases hy
    · rw [if_neg hi] at hy; cases hy
  · cases hy
theorem z_pop (hF : rF val F) (hL : rLo val L L0) (hS : rS val S S0) (hH : rH val h h0) (hy : ymx Lc ret F (.pop, ln, a, b, q1) pc L S h = some os) : yOK Lc val ret (.pop, ln, a, b, q1) pc L0 S0 h0 os := by
  replace hy : (match (generalizing := false) S with
    | v :: T => if ycat v = 1 then ygo F (pc + ln) L T h else none
    | _ => none) = some os := hy
  split at hy
  · rename_i v T
    by_cases hv : ycat v = 1
    · rw [if_pos hv] at hy
      obtain ⟨v0, T0, rfl, h1, hT⟩ := rS_c hS
      exact y_one hF hy (by dsimp only [mx]; rw [if_pos (by rw [← rV_cat h1]; exact hv)]; rfl) hL hT hH
    · rw [if_neg hv] at hy; cases hy
  · cases hy
theorem z_pop2 (hF : rF val F) (hL : rLo val L L0) (hS : rS val S S0) (hH : rH val h h0) (hy : ymx Lc ret F (.pop2, ln, a, b, q1) pc L S h = some os) : yOK Lc val ret (.pop2, ln, a, b, q1) pc L0 S0 h0 os := by
  replace hy : (match (generalizing := false) S with
    | .inr (.ref _) :: T => if ymcat T ≤ 8 then ygo F (pc + ln) L T h else none
    | _ => none) = some os := hy
  split at hy
  · rename_i q T
    by_cases hv : ymcat T ≤ 8
    · rw [if_pos hv] at hy
      obtain ⟨T0, rfl, hT⟩ := rS_r hS
      exact y_one hF hy (by dsimp only [mx]; rw [if_pos (by rw [← rS_cat hT]; exact hv)]; rfl) hL hT hH
    · rw [if_neg hv] at hy; cases hy
  · cases hy
theorem z_dup (hF : rF val F) (hL : rLo val L L0) (hS : rS val S S0) (hH : rH val h h0) (hy : ymx Lc ret F (.dup, ln, a, b, q1) pc L S h = some os) : yOK Lc val ret (.dup, ln, a, b, q1) pc L0 S0 h0 os := by
  replace hy : (match (generalizing := false) S with
    | v :: T => if ycat v = 1 then ygo F (pc + ln) L (v :: v :: T) h else none
    | _ => none) = some os := hy
  split at hy
  · rename_i v T
    by_cases hv : ycat v = 1
    · rw [if_pos hv] at hy
      obtain ⟨v0, T0, rfl, h1, hT⟩ := rS_c hS
      exact y_one hF hy (by dsimp only [mx]; rw [if_pos (by rw [← rV_cat h1]; exact hv)]; rfl) hL (rAll_c h1 (rAll_c h1 hT)) hH
    · rw [if_neg hv] at hy; cases hy
  · cases hy
theorem z_dup_x1 (hF : rF val F) (hL : rLo val L L0) (hS : rS val S S0) (hH : rH val h h0) (hy : ymx Lc ret F (.dup_x1, ln, a, b, q1) pc L S h = some os) : yOK Lc val ret (.dup_x1, ln, a, b, q1) pc L0 S0 h0 os := by
  replace hy : (match (generalizing := false) S with
    | v :: w :: T => if ycat v = 1 ∧ ycat w = 1 then ygo F (pc + ln) L (v :: w :: v :: T) h else none
    | _ => none) = some os := hy
  split at hy
  · rename_i v w T
    by_cases hv : ycat v = 1 ∧ ycat w = 1
    · rw [if_pos hv] at hy
      obtain ⟨v0, T1, rfl, h1, hT1⟩ := rS_c hS
      obtain ⟨w0, T0, rfl, h2, hT⟩ := rS_c hT1
      exact y_one hF hy (by dsimp only [mx]; rw [if_pos ⟨by rw [← rV_cat h1]; exact hv.1, by rw [← rV_cat h2]; exact hv.2⟩]; rfl) hL (rAll_c h1 (rAll_c h2 (rAll_c h1 hT))) hH
    · rw [if_neg hv] at hy; cases hy
  · cases hy
theorem z_dup2 (hF : rF val F) (hL : rLo val L L0) (hS : rS val S S0) (hH : rH val h h0) (hy : ymx Lc ret F (.dup2, ln, a, b, q1) pc L S h = some os) : yOK Lc val ret (.dup2, ln, a, b, q1) pc L0 S0 h0 os := by
  replace hy : (match (generalizing := false) S with
    | v :: w :: T => if ycat v = 1 ∧ ycat w = 1 then ygo F (pc + ln) L (v :: w :: v :: w :: T) h else none
    | _ => none) = some os := hy
  split at hy
  · rename_i v w T
    by_cases hv : ycat v = 1 ∧ ycat w = 1
    · rw [if_pos hv] at hy
      obtain ⟨v0, T1, rfl, h1, hT1⟩ := rS_c hS
      obtain ⟨w0, T0, rfl, h2, hT⟩ := rS_c hT1
      exact y_one hF hy (by dsimp only [mx]; rw [if_pos ⟨by rw [← rV_cat h1]; exact hv.1, by rw [← rV_cat h2]; exact hv.2⟩]; rfl) hL (rAll_c h1 (rAll_c h2 (rAll_c h1 (rAll_c h2 hT)))) hH
    · rw [if_neg hv] at hy; cases hy
  · cases hy
theorem z_iadd (hF : rF val F) (hL : rLo val L L0) (hS : rS val S S0) (hH : rH val h h0) (hy : ymx Lc ret F (.iadd, ln, a, b, q1) pc L S h = some os) : yOK Lc val ret (.iadd, ln, a, b, q1) pc L0 S0 h0 os := by
  replace hy : (match (generalizing := false) S with
    | .inl y :: .inl x :: T => (match ybin .iadd x y with
        | some z => ygo F (pc + ln) L (.inl z :: T) h
        | none => none)
    | _ => none) = some os := hy
  split at hy
  · rename_i y x T
    split at hy
    · rename_i z hz
      obtain ⟨y0, T1, rfl, hy0, hT1⟩ := rS_i hS
      obtain ⟨x0, T0, rfl, hx0, hT⟩ := rS_i hT1
      exact y_one hF hy rfl hL (rAll_c (rV_i (yb_add hz hx0 hy0)) hT) hH
    · cases hy
  · cases hy
theorem z_isub (hF : rF val F) (hL : rLo val L L0) (hS : rS val S S0) (hH : rH val h h0) (hy : ymx Lc ret F (.isub, ln, a, b, q1) pc L S h = some os) : yOK Lc val ret (.isub, ln, a, b, q1) pc L0 S0 h0 os := by
  replace hy : (match (generalizing := false) S with
    | .inl y :: .inl x :: T => (match ybin .isub x y with
        | some z => ygo F (pc + ln) L (.inl z :: T) h
        | none => none)
    | _ => none) = some os := hy
  split at hy
  · rename_i y x T
    split at hy
    · rename_i z hz
      obtain ⟨y0, T1, rfl, hy0, hT1⟩ := rS_i hS
      obtain ⟨x0, T0, rfl, hx0, hT⟩ := rS_i hT1
      exact y_one hF hy rfl hL (rAll_c (rV_i (yb_sub hz hx0 hy0)) hT) hH
    · cases hy
  · cases hy
theorem z_imul (hF : rF val F) (hL : rLo val L L0) (hS : rS val S S0) (hH : rH val h h0) (hy : ymx Lc ret F (.imul, ln, a, b, q1) pc L S h = some os) : yOK Lc val ret (.imul, ln, a, b, q1) pc L0 S0 h0 os := by
  replace hy : (match (generalizing := false) S with
    | .inl y :: .inl x :: T => (match ybin .imul x y with
        | some z => ygo F (pc + ln) L (.inl z :: T) h
        | none => none)
    | _ => none) = some os := hy
  split at hy
  · rename_i y x T
    split at hy
    · rename_i z hz
      obtain ⟨y0, T1, rfl, hy0, hT1⟩ := rS_i hS
      obtain ⟨x0, T0, rfl, hx0, hT⟩ := rS_i hT1
      exact y_one hF hy rfl hL (rAll_c (rV_i (yb_mul hz hx0 hy0)) hT) hH
    · cases hy
  · cases hy
theorem z_iand (hF : rF val F) (hL : rLo val L L0) (hS : rS val S S0) (hH : rH val h h0) (hy : ymx Lc ret F (.iand, ln, a, b, q1) pc L S h = some os) : yOK Lc val ret (.iand, ln, a, b, q1) pc L0 S0 h0 os := by
  replace hy : (match (generalizing := false) S with
    | .inl y :: .inl x :: T => (match ybin .iand x y with
        | some z => ygo F (pc + ln) L (.inl z :: T) h
        | none => none)
    | _ => none) = some os := hy
  split at hy
  · rename_i y x T
    split at hy
    · rename_i z hz
      obtain ⟨y0, T1, rfl, hy0, hT1⟩ := rS_i hS
      obtain ⟨x0, T0, rfl, hx0, hT⟩ := rS_i hT1
      exact y_one hF hy rfl hL (rAll_c (rV_i (yb_and hz hx0 hy0)) hT) hH
    · cases hy
  · cases hy
theorem z_iushr (hF : rF val F) (hL : rLo val L L0) (hS : rS val S S0) (hH : rH val h h0) (hy : ymx Lc ret F (.iushr, ln, a, b, q1) pc L S h = some os) : yOK Lc val ret (.iushr, ln, a, b, q1) pc L0 S0 h0 os := by
  replace hy : (match (generalizing := false) S with
    | .inl y :: .inl x :: T => (match ybin .iushr x y with
        | some z => ygo F (pc + ln) L (.inl z :: T) h
        | none => none)
    | _ => none) = some os := hy
  split at hy
  · rename_i y x T
    split at hy
    · rename_i z hz
      obtain ⟨y0, T1, rfl, hy0, hT1⟩ := rS_i hS
      obtain ⟨x0, T0, rfl, hx0, hT⟩ := rS_i hT1
      exact y_one hF hy rfl hL (rAll_c (rV_i (yb_ushr hz hx0 hy0)) hT) hH
    · cases hy
  · cases hy
theorem z_ishr (hF : rF val F) (hL : rLo val L L0) (hS : rS val S S0) (hH : rH val h h0) (hy : ymx Lc ret F (.ishr, ln, a, b, q1) pc L S h = some os) : yOK Lc val ret (.ishr, ln, a, b, q1) pc L0 S0 h0 os := by
  replace hy : (match (generalizing := false) S with
    | .inl y :: .inl x :: T => (match ybin .ishr x y with
        | some z => ygo F (pc + ln) L (.inl z :: T) h
        | none => none)
    | _ => none) = some os := hy
  split at hy
  · rename_i y x T
    split at hy
    · rename_i z hz
      obtain ⟨y0, T1, rfl, hy0, hT1⟩ := rS_i hS
      obtain ⟨x0, T0, rfl, hx0, hT⟩ := rS_i hT1
      exact y_one hF hy rfl hL (rAll_c (rV_i (yb_shr hz hx0 hy0)) hT) hH
    · cases hy
  · cases hy
theorem z_idiv (hF : rF val F) (hL : rLo val L L0) (hS : rS val S S0) (hH : rH val h h0) (hy : ymx Lc ret F (.idiv, ln, a, b, q1) pc L S h = some os) : yOK Lc val ret (.idiv, ln, a, b, q1) pc L0 S0 h0 os := by
  replace hy : (match (generalizing := false) S with
    | .inl y :: .inl x :: T => (match ybin .idiv x y with
        | some z => ygo F (pc + ln) L (.inl z :: T) h
        | none => none)
    | _ => none) = some os := hy
  split at hy
  · rename_i y x T
    split at hy
    · rename_i z hz
      obtain ⟨y0, T1, rfl, hy0, hT1⟩ := rS_i hS
      obtain ⟨x0, T0, rfl, hx0, hT⟩ := rS_i hT1
      obtain ⟨hn, hr⟩ := yb_div hz hx0 hy0
      exact y_one hF hy (by dsimp only [mx]; rw [if_neg hn]; rfl) hL (rAll_c (rV_i hr) hT) hH
    · cases hy
  · cases hy
theorem z_irem (hF : rF val F) (hL : rLo val L L0) (hS : rS val S S0) (hH : rH val h h0) (hy : ymx Lc ret F (.irem, ln, a, b, q1) pc L S h = some os) : yOK Lc val ret (.irem, ln, a, b, q1) pc L0 S0 h0 os := by
  replace hy : (match (generalizing := false) S with
    | .inl y :: .inl x :: T => (match ybin .irem x y with
        | some z => ygo F (pc + ln) L (.inl z :: T) h
        | none => none)
    | _ => none) = some os := hy
  split at hy
  · rename_i y x T
    split at hy
    · rename_i z hz
      obtain ⟨y0, T1, rfl, hy0, hT1⟩ := rS_i hS
      obtain ⟨x0, T0, rfl, hx0, hT⟩ := rS_i hT1
      obtain ⟨hn, hr⟩ := yb_rem hz hx0 hy0
      exact y_one hF hy (by dsimp only [mx]; rw [if_neg hn]; rfl) hL (rAll_c (rV_i hr) hT) hH
    · cases hy
  · cases hy
theorem z_i2b (hF : rF val F) (hL : rLo val L L0) (hS : rS val S S0) (hH : rH val h h0) (hy : ymx Lc ret F (.i2b, ln, a, b, q1) pc L S h = some os) : yOK Lc val ret (.i2b, ln, a, b, q1) pc L0 S0 h0 os := by
  replace hy : (match (generalizing := false) S with
    | .inl (.inl x) :: T => ygo F (pc + ln) L (.inl (.inl x.toInt8.toInt32) :: T) h
    | .inl (.inr x) :: T => ygo F (pc + ln) L (.inl (yun 9 x 0) :: T) h
    | _ => none) = some os := hy
  split at hy
  · rename_i x T
    obtain ⟨x0, T0, rfl, hx0, hT⟩ := rS_i hS
    have hx0 : x0 = _ := hx0
    subst hx0
    exact y_one hF hy rfl hL (rAll_c (rV_i rI_c) hT) hH
  · rename_i x T
    obtain ⟨x0, T0, rfl, hx0, hT⟩ := rS_i hS
    exact y_one hF hy rfl hL (rAll_c (rV_i (yun_ok (o := 9) (c := 0) hx0)) hT) hH
  · cases hy
theorem z_ifCond {c : ClassFile.Cond} {off : Int} (hF : rF val F) (hL : rLo val L L0) (hS : rS val S S0) (hH : rH val h h0) (hy : ymx Lc ret F (.ifCond c off, ln, a, b, q1) pc L S h = some os) : yOK Lc val ret (.ifCond c off, ln, a, b, q1) pc L0 S0 h0 os := by
  replace hy : (match (generalizing := false) S with
    | .inl x :: T => some ((ycmp F c x (.inl 0)).map fun q => (q.1, (.inl (if q.2 then mjmp pc off else pc + ln, L, T, h) : yO)))
    | _ => none) = some os := hy
  split at hy
  · rename_i x T
    obtain ⟨x0, T0, rfl, hx0, hT⟩ := rS_i hS
    exact y_br hy (ycmp_ok hF c hx0 (v := 0) rfl) rfl hL hT hH
  · cases hy
theorem z_if_icmp {c : ClassFile.Cond} {off : Int} (hF : rF val F) (hL : rLo val L L0) (hS : rS val S S0) (hH : rH val h h0) (hy : ymx Lc ret F (.if_icmp c off, ln, a, b, q1) pc L S h = some os) : yOK Lc val ret (.if_icmp c off, ln, a, b, q1) pc L0 S0 h0 os := by
  replace hy : (match (generalizing := false) S with
    | .inl y :: .inl x :: T => some ((ycmp F c x y).map fun q => (q.1, (.inl (if q.2 then mjmp pc off else pc + ln, L, T, h) : yO)))
    | _ => none) = some os := hy
  split at hy
  · rename_i y x T
    obtain ⟨y0, T1, rfl, hy0, hT1⟩ := rS_i hS
    obtain ⟨x0, T0, rfl, hx0, hT⟩ := rS_i hT1
    exact y_br hy (ycmp_ok hF c hx0 hy0) rfl hL hT hH
  · cases hy
theorem z_ifnull {off : Int} (hF : rF val F) (hL : rLo val L L0) (hS : rS val S S0) (hH : rH val h h0) (hy : ymx Lc ret F (.ifnull off, ln, a, b, q1) pc L S h = some os) : yOK Lc val ret (.ifnull off, ln, a, b, q1) pc L0 S0 h0 os := by
  replace hy : (match (generalizing := false) S with
    | .inr (.ref _) :: T => ygo F (pc + ln) L T h
    | .inr .null :: T => ygo F (mjmp pc off) L T h
    | _ => none) = some os := hy
  split at hy
  · rename_i q T
    obtain ⟨T0, rfl, hT⟩ := rS_r hS
    exact y_one hF hy rfl hL hT hH
  · rename_i T
    obtain ⟨T0, rfl, hT⟩ := rS_r hS
    exact y_one hF hy rfl hL hT hH
  · cases hy
theorem z_ifnonnull {off : Int} (hF : rF val F) (hL : rLo val L L0) (hS : rS val S S0) (hH : rH val h h0) (hy : ymx Lc ret F (.ifnonnull off, ln, a, b, q1) pc L S h = some os) : yOK Lc val ret (.ifnonnull off, ln, a, b, q1) pc L0 S0 h0 os := by
  replace hy : (match (generalizing := false) S with
    | .inr (.ref _) :: T => ygo F (mjmp pc off) L T h
    | .inr .null :: T => ygo F (pc + ln) L T h
    | _ => none) = some os := hy
  split at hy
  · rename_i q T
    obtain ⟨T0, rfl, hT⟩ := rS_r hS
    exact y_one hF hy rfl hL hT hH
  · rename_i T
    obtain ⟨T0, rfl, hT⟩ := rS_r hS
    exact y_one hF hy rfl hL hT hH
  · cases hy
theorem ysw_ok {e : yX} {T : List yV} {T0 : List Value} {lo hi d : Int} (hF : rF val F) (hL : rLo val L L0) (hS : rS val T T0) (hH : rH val h h0) (h1 : lo ≤ (yev val e).toInt) (h2 : (yev val e).toInt ≤ hi) : ∀ (os : List Int) (k : Int), k ≤ (yev val e).toInt → ∃ q ∈ ysw F e pc L T h lo hi d k os, rF val q.1 ∧ rOut val q.2 (.inl (mjmp pc (match os[((yev val e).toInt - k).toNat]? with
    | some o => o
    | none => d), L0, T0, h0))
  | [], k, hk => by
    unfold ysw
    rw [if_pos (show k ≤ hi by omega)]
    exact ⟨_, List.mem_cons_self, yadd_ok hF hk h2, rfl, hL, hS, hH⟩
  | o :: os, k, hk => by
    unfold ysw
    by_cases he : (yev val e).toInt = k
    · rw [if_pos (show lo ≤ k ∧ k ≤ hi by omega)]
      refine ⟨_, List.mem_append_left _ List.mem_cons_self, yadd_ok hF hk (by omega), ?_, hL, hS, hH⟩
      rw [he, Int.sub_self]
      rfl
    · obtain ⟨q, q1, q2, q3⟩ := ysw_ok hF hL hS hH h1 h2 os (k + 1) (by omega)
      refine ⟨q, List.mem_append_right _ q1, q2, ?_⟩
      have e1 : ((yev val e).toInt - k).toNat = ((yev val e).toInt - (k + 1)).toNat + 1 := by omega
      rw [e1, List.getElem?_cons_succ]
      exact q3
theorem z_tableswitch {d lo hi : Int} {offs : Array Int} (hF : rF val F) (hL : rLo val L L0) (hS : rS val S S0) (hH : rH val h h0) (hy : ymx Lc ret F (.tableswitch d lo hi offs, ln, a, b, q1) pc L S h = some os) : yOK Lc val ret (.tableswitch d lo hi offs, ln, a, b, q1) pc L0 S0 h0 os := by
  replace hy : (match (generalizing := false) S with
      | .inl (.inl x) :: T => if x.toInt < lo ∨ hi < x.toInt then ygo F (mjmp pc d) L T h else (match offs.toList[(x.toInt - lo).toNat]? with
          | some o => ygo F (mjmp pc o) L T h
          | none => none)
      | .inl (.inr (some e)) :: T => (match yiv F e with
          | (a, z) => if a = z then (if a < lo ∨ hi < a then ygo F (mjmp pc d) L T h else (match offs.toList[(a - lo).toNat]? with
              | some o => ygo F (mjmp pc o) L T h
              | none => none)) else if hi = lo + offs.toList.length - 1 then some ((if a ≤ lo - 1 then [(yadd F e a (lo - 1), (.inl (mjmp pc d, L, T, h) : yO))] else []) ++ ysw F e pc L T h a z d lo offs.toList) else none)
      | _ => none) = some os := hy
  split at hy
  · rename_i x T
    obtain ⟨x0, T0, rfl, hx0, hT⟩ := rS_i hS
    have hx0 : x0 = _ := hx0
    subst hx0
    by_cases hr : x0.toInt < lo ∨ hi < x0.toInt
    · rw [if_pos hr] at hy
      exact y_one hF hy (by dsimp only [mx]; rw [if_pos hr]; rfl) hL hT hH
    · rw [if_neg hr] at hy
      split at hy
      · rename_i o ho
        rw [Array.getElem?_toList] at ho
        exact y_one hF hy (by dsimp only [mx]; rw [if_neg hr, ho]; rfl) hL hT hH
      · cases hy
  · rename_i e T
    obtain ⟨x0, T0, rfl, hx0, hT⟩ := rS_i hS
    have hx0 : x0 = yev val e := hx0
    subst hx0
    have hk := yiv_ok hF e
    generalize yiv F e = r at hk hy
    obtain ⟨u, v⟩ := r
    dsimp only at hk hy
    by_cases huv : u = v
    · rw [if_pos huv] at hy
      have hu : (yev val e).toInt = u := by omega
      by_cases hr : u < lo ∨ hi < u
      · rw [if_pos hr] at hy
        exact y_one hF hy (by dsimp only [mx]; rw [if_pos (by rw [hu]; exact hr)]; rfl) hL hT hH
      · rw [if_neg hr] at hy
        split at hy
        · rename_i o ho
          rw [Array.getElem?_toList] at ho
          exact y_one hF hy (by dsimp only [mx]; rw [if_neg (by rw [hu]; exact hr), hu, ho]; rfl) hL hT hH
        · cases hy
    · rw [if_neg huv] at hy
      by_cases hlen : hi = lo + offs.toList.length - 1
      · rw [if_pos hlen] at hy
        cases hy
        by_cases hlo : (yev val e).toInt < lo
        · rw [if_pos (show u ≤ lo - 1 by omega)]
          exact ⟨_, List.mem_append_left _ List.mem_cons_self, yadd_ok hF hk.1 (by omega), .inl (mjmp pc d, L0, T0, h0), by dsimp only [mx]; rw [if_pos (Or.inl hlo)]; rfl, rfl, hL, hT, hH⟩
        · obtain ⟨q, q1, q2, q3⟩ := ysw_ok (pc := pc) (d := d) hF hL hT hH hk.1 hk.2 offs.toList lo (by omega)
          refine ⟨q, List.mem_append_right _ q1, q2, _, ?_, q3⟩
          dsimp only [mx]
          by_cases hhi : hi < (yev val e).toInt
          · rw [if_pos (Or.inr hhi)]
            have e1 : offs.toList[((yev val e).toInt - lo).toNat]? = none := List.getElem?_eq_none (by omega)
            rw [e1]
            rfl
          · rw [if_neg (by omega)]
            have hlt : ((yev val e).toInt - lo).toNat < offs.toList.length := by omega
            rw [← Array.getElem?_toList, List.getElem?_eq_getElem hlt]
            rfl
      · rw [if_neg hlen] at hy; cases hy
  · cases hy
end YOK
end
section
/-! .. cells, calls, ends -/
section YOK2
variable {Lc : Nat} {val : Nat → Int32} {ret : Option FieldType} {F : yF} {pc ln a b q1 : Nat} {L : yL} {S : List yV} {h : List yE} {L0 : mL} {S0 : List Value} {h0 : List mE} {os : List (yF × yO)}
theorem rE_o {ci : Nat} {fs : List yV} {e0 : mE} (h : rE val (.inr (ci, fs)) e0) : ∃ fs0, e0 = .inr (ci, fs0) ∧ rS val fs fs0 := by
  rcases e0 with ⟨t, c⟩ | ⟨ci0, fs0⟩
  · exact h.elim
  · obtain ⟨rfl, h2⟩ := h
    exact ⟨fs0, rfl, h2⟩
theorem rE_a {t n : Nat} {c : yC} {e0 : mE} (h : rE val (.inl (t, (n, c))) e0) : ∃ c0, e0 = .inl (t, (n, c0)) ∧ rC val n c (n, c0) := by
  rcases e0 with ⟨t0, n0, c0⟩ | ⟨ci0, fs0⟩
  · obtain ⟨rfl, h2, h3⟩ := h
    have h2 : n = n0 := h2
    subst h2
    exact ⟨c0, rfl, h3⟩
  · exact h.elim
theorem rC_i {n : Nat} {d : yI} {ups : List (Nat × yI)} {c0} (h : rC val n (.inl (d, ups)) (n, c0)) : ∃ f, c0 = .inl f ∧ ∀ j, j < n → rI val (yget d ups j) (f j) := by
  rcases c0 with f | f | f | f | f
  · exact ⟨f, rfl, h⟩
  all_goals exact h.elim
theorem rC_r {n : Nat} {d : Option Nat} {ups : List (Nat × Option Nat)} {c0} (h : rC val n (.inr (.inl (d, ups))) (n, c0)) : ∃ f, c0 = .inr (.inr (.inr (.inr f))) ∧ ∀ j, j < n → f j = yget d ups j := by
  rcases c0 with f | f | f | f | f
  · exact h.elim
  · exact h.elim
  · exact h.elim
  · exact h.elim
  · exact ⟨f, rfl, h⟩
theorem rH_app1 {e : yE} {e0 : mE} (hH : rH val h h0) (he : rE val e e0) : rH val (h ++ [e]) (h0 ++ [e0]) := rAll_app hH ⟨he, trivial⟩
theorem rH_ref (hH : rH val h h0) : rV val (.inr (.ref (h.length + 4))) (.ref (h0.length + 4)) := by
  rw [rH_len hH]
  exact rfl
theorem nE_i (t n : Nat) : rE val (.inl (t, (n, .inl (.inl 0, [])))) (.inl (t, (n, .inl (fun _ => 0)))) := ⟨rfl, rfl, fun _ _ => rfl⟩
theorem nE_l (t n : Nat) : rE val (.inl (t, (n, .inr (.inr 0)))) (.inl (t, (n, .inr (.inl (fun _ => 0))))) := ⟨rfl, rfl, trivial⟩
theorem nE_r (t n : Nat) : rE val (.inl (t, (n, .inr (.inl (none, []))))) (.inl (t, (n, .inr (.inr (.inr (.inr (fun _ => none))))))) := ⟨rfl, rfl, fun _ _ => rfl⟩
theorem nE_o (ci : Nat) (l : List FieldType) : rE val (.inr (ci, l.map ydef)) (.inr (ci, l.map defaultValue)) := ⟨rfl, ydefs_ok l⟩
theorem own_get {ex h : List mE} {q : Nat} {e : mE} (h1 : mown h q = some e) : mget ex h q = some e := by
  unfold mown at h1
  unfold mget
  by_cases h4 : q < 4
  · rw [if_pos h4] at h1; cases h1
  · rw [if_neg h4] at h1 ⊢; exact h1
theorem ext0 {h : List mE} : mget (mex Lc val) h 0 = some (.inl (0, (Lc, .inl val))) := rfl
theorem ext2 {h : List mE} : mget (mex Lc val) h 2 = some (.inl (2, (14, .inr (.inl (fun j => mNm.getD j 0))))) := rfl
theorem z_getfield {i : Nat} (hF : rF val F) (hL : rLo val L L0) (hS : rS val S S0) (hH : rH val h h0) (hy : ymx Lc ret F (.getfield i, ln, a, b, q1) pc L S h = some os) : yOK Lc val ret (.getfield i, ln, a, b, q1) pc L0 S0 h0 os := by
  replace hy : (match (generalizing := false) S with
    | .inr (.ref q) :: T => (match yown h q with
        | some (.inr (ci, fs)) => if ci = a then (match fs[b]? with
            | some v => ygo F (pc + ln) L (v :: T) h
            | none => none) else none
        | _ => none)
    | _ => none) = some os := hy
  split at hy
  · rename_i q T
    split at hy
    · rename_i ci fs hq
      by_cases hc : ci = a
      · rw [if_pos hc] at hy
        split at hy
        · rename_i v hv
          obtain ⟨T0, rfl, hT⟩ := rS_r hS
          obtain ⟨e0, hq0, he⟩ := yown_ok hH hq
          obtain ⟨fs0, rfl, hfs⟩ := rE_o he
          obtain ⟨v0, hv0, hr⟩ := rAll_get hfs hv
          exact y_one hF hy (by dsimp only [mx]; rw [hq0]; (try dsimp only); rw [if_pos hc, hv0]; rfl) hL (rAll_c hr hT) hH
        · cases hy
      · rw [if_neg hc] at hy; cases hy
    · cases hy
  · cases hy
theorem z_putfield {i : Nat} (hF : rF val F) (hL : rLo val L L0) (hS : rS val S S0) (hH : rH val h h0) (hy : ymx Lc ret F (.putfield i, ln, a, b, q1) pc L S h = some os) : yOK Lc val ret (.putfield i, ln, a, b, q1) pc L0 S0 h0 os := by
  replace hy : (match (generalizing := false) S with
    | v :: .inr (.ref q) :: T => (match yown h q with
        | some (.inr (ci, fs)) => if ci = a ∧ b < fs.length then (match mfty a b with
            | some ty => if yfit F ty v then ygo F (pc + ln) L T (yput h q (.inr (ci, fs.set b v))) else none
            | none => none) else none
        | _ => none)
    | _ => none) = some os := hy
  split at hy
  · rename_i v q T
    split at hy
    · rename_i ci fs hq
      by_cases hc : ci = a ∧ b < fs.length
      · rw [if_pos hc] at hy
        split at hy
        · rename_i ty hty
          by_cases hf : yfit F ty v = true
          · rw [if_pos hf] at hy
            obtain ⟨v0, T1, rfl, hr, hT1⟩ := rS_c hS
            obtain ⟨T0, rfl, hT⟩ := rS_r hT1
            obtain ⟨e0, hq0, he⟩ := yown_ok hH hq
            obtain ⟨fs0, rfl, hfs⟩ := rE_o he
            exact y_one hF hy (by dsimp only [mx]; rw [hq0]; (try dsimp only); rw [if_pos ⟨hc.1, by rw [← rAll_len hfs]; exact hc.2⟩, hty]; (try dsimp only); rw [if_pos (yfit_ok hF hf hr)]; rfl) hL hT (yput_ok (e0 := .inr (ci, fs0.set b v0)) hH ⟨rfl, rAll_set hfs hr⟩)
          · rw [if_neg hf] at hy; cases hy
        · cases hy
      · rw [if_neg hc] at hy; cases hy
    · cases hy
  · cases hy
theorem z_arraylength (hF : rF val F) (hL : rLo val L L0) (hS : rS val S S0) (hH : rH val h h0) (hy : ymx Lc ret F (.arraylength, ln, a, b, q1) pc L S h = some os) : yOK Lc val ret (.arraylength, ln, a, b, q1) pc L0 S0 h0 os := by
  replace hy : (match (generalizing := false) S with
    | .inr (.ref q) :: T => if q = 0 then ygo F (pc + ln) L (.inl (.inl (Int32.ofNat Lc)) :: T) h else if q = 2 then ygo F (pc + ln) L (.inl (.inl (Int32.ofNat 14)) :: T) h else (match yown h q with
        | some (.inl (t, (n, _))) => if t < 9 then ygo F (pc + ln) L (.inl (.inl (Int32.ofNat n)) :: T) h else none
        | _ => none)
    | _ => none) = some os := hy
  split at hy
  · rename_i q T
    obtain ⟨T0, rfl, hT⟩ := rS_r hS
    by_cases h0q : q = 0
    · rw [if_pos h0q] at hy
      subst h0q
      exact y_one hF hy (by dsimp only [mx]; rw [ext0]; rfl) hL (rAll_c (rV_i rI_c) hT) hH
    rw [if_neg h0q] at hy
    by_cases h2q : q = 2
    · rw [if_pos h2q] at hy
      subst h2q
      exact y_one hF hy (by dsimp only [mx]; rw [ext2]; rfl) hL (rAll_c (rV_i rI_c) hT) hH
    rw [if_neg h2q] at hy
    split at hy
    · rename_i t n c hq
      by_cases ht : t < 9
      · rw [if_pos ht] at hy
        obtain ⟨e0, hq0, he⟩ := yown_ok hH hq
        obtain ⟨c0, rfl, hc⟩ := rE_a he
        exact y_one hF hy (by dsimp only [mx]; rw [own_get hq0]; (try dsimp only); rw [if_pos ht]; rfl) hL (rAll_c (rV_i rI_c) hT) hH
      · rw [if_neg ht] at hy; cases hy
    · cases hy
  · cases hy
theorem z_iaload (hF : rF val F) (hL : rLo val L L0) (hS : rS val S S0) (hH : rH val h h0) (hy : ymx Lc ret F (.iaload, ln, a, b, q1) pc L S h = some os) : yOK Lc val ret (.iaload, ln, a, b, q1) pc L0 S0 h0 os := by
  replace hy : (match (generalizing := false) S with
    | .inl i :: .inr (.ref q) :: T => if q = 0 then (match i with
        | .inl c => if mib c Lc then ygo F (pc + ln) L (.inl (.inr (some (c.toNatClampNeg, []))) :: T) h else none
        | _ => none) else (match yown h q with
        | some (.inl (0, (n, .inl (d, ups)))) => (match yix F i n with
            | some j => ygo F (pc + ln) L (.inl (yld d ups j) :: T) h
            | none => none)
        | _ => none)
    | _ => none) = some os := hy
  split at hy
  · rename_i i q T
    obtain ⟨i0, T1, rfl, hi0, hT1⟩ := rS_i hS
    obtain ⟨T0, rfl, hT⟩ := rS_r hT1
    by_cases h0q : q = 0
    · rw [if_pos h0q] at hy
      subst h0q
      split at hy
      · rename_i c
        have hi0 : i0 = c := hi0
        subst hi0
        by_cases hb : mib i0 Lc = true
        · rw [if_pos hb] at hy
          exact y_one hF hy (by dsimp only [mx]; rw [ext0]; exact if_pos hb) hL (rAll_c (rV_i (show rI val (.inr (some (i0.toNatClampNeg, []))) (val i0.toNatClampNeg) from rfl)) hT) hH
        · rw [if_neg hb] at hy; cases hy
      · cases hy
    rw [if_neg h0q] at hy
    split at hy
    · rename_i n d ups hq
      split at hy
      · rename_i j hj
        obtain ⟨e0, hq0, he⟩ := yown_ok hH hq
        obtain ⟨c0, rfl, hc⟩ := rE_a he
        obtain ⟨f, rfl, hf⟩ := rC_i hc
        obtain ⟨hb, hk⟩ := yix_ok hF hj hi0
        exact y_one hF hy (by dsimp only [mx]; rw [own_get hq0]; exact if_pos hb) hL (rAll_c (rV_i (yld_ok hf hb hk)) hT) hH
      · cases hy
    · cases hy
  · cases hy
theorem z_baload (hF : rF val F) (hL : rLo val L L0) (hS : rS val S S0) (hH : rH val h h0) (hy : ymx Lc ret F (.baload, ln, a, b, q1) pc L S h = some os) : yOK Lc val ret (.baload, ln, a, b, q1) pc L0 S0 h0 os := by
  replace hy : (match (generalizing := false) S with
    | .inl i :: .inr (.ref q) :: T => (match yown h q with
        | some (.inl (1, (n, .inl (d, ups)))) => (match yix F i n with
            | some j => ygo F (pc + ln) L (.inl (yld d ups j) :: T) h
            | none => none)
        | some (.inl (8, (n, .inl (d, ups)))) => (match yix F i n with
            | some j => ygo F (pc + ln) L (.inl (yld d ups j) :: T) h
            | none => none)
        | _ => none)
    | _ => none) = some os := hy
  split at hy
  · rename_i i q T
    obtain ⟨i0, T1, rfl, hi0, hT1⟩ := rS_i hS
    obtain ⟨T0, rfl, hT⟩ := rS_r hT1
    split at hy
    · rename_i n d ups hq
      split at hy
      · rename_i j hj
        obtain ⟨e0, hq0, he⟩ := yown_ok hH hq
        obtain ⟨c0, rfl, hc⟩ := rE_a he
        obtain ⟨f, rfl, hf⟩ := rC_i hc
        obtain ⟨hb, hk⟩ := yix_ok hF hj hi0
        exact y_one hF hy (by dsimp only [mx]; rw [hq0]; exact if_pos hb) hL (rAll_c (rV_i (yld_ok hf hb hk)) hT) hH
      · cases hy
    · rename_i n d ups hq
      split at hy
      · rename_i j hj
        obtain ⟨e0, hq0, he⟩ := yown_ok hH hq
        obtain ⟨c0, rfl, hc⟩ := rE_a he
        obtain ⟨f, rfl, hf⟩ := rC_i hc
        obtain ⟨hb, hk⟩ := yix_ok hF hj hi0
        exact y_one hF hy (by dsimp only [mx]; rw [hq0]; exact if_pos hb) hL (rAll_c (rV_i (yld_ok hf hb hk)) hT) hH
      · cases hy
    · cases hy
  · cases hy
theorem z_laload (hF : rF val F) (hL : rLo val L L0) (hS : rS val S S0) (hH : rH val h h0) (hy : ymx Lc ret F (.laload, ln, a, b, q1) pc L S h = some os) : yOK Lc val ret (.laload, ln, a, b, q1) pc L0 S0 h0 os := by
  replace hy : (match (generalizing := false) S with
    | .inl (.inl i) :: .inr (.ref q) :: T => if q = 2 then (if mib i 14 then ygo F (pc + ln) L (.inr (.long (mNm.getD i.toNatClampNeg 0)) :: T) h else none) else none
    | _ => none) = some os := hy
  split at hy
  · rename_i i q T
    obtain ⟨i0, T1, rfl, hi0, hT1⟩ := rS_i hS
    obtain ⟨T0, rfl, hT⟩ := rS_r hT1
    have hi0 : i0 = i := hi0
    subst hi0
    by_cases h2q : q = 2
    · rw [if_pos h2q] at hy
      subst h2q
      by_cases hb : mib i0 14 = true
      · rw [if_pos hb] at hy
        exact y_one hF hy (by dsimp only [mx]; rw [ext2]; exact if_pos hb) hL (rAll_c rV_r hT) hH
      · rw [if_neg hb] at hy; cases hy
    · rw [if_neg h2q] at hy; cases hy
  · cases hy
theorem z_aaload (hF : rF val F) (hL : rLo val L L0) (hS : rS val S S0) (hH : rH val h h0) (hy : ymx Lc ret F (.aaload, ln, a, b, q1) pc L S h = some os) : yOK Lc val ret (.aaload, ln, a, b, q1) pc L0 S0 h0 os := by
  replace hy : (match (generalizing := false) S with
    | .inl i :: .inr (.ref q) :: T => (match yown h q with
        | some (.inl (t, (n, .inr (.inl (d, ups))))) => if 3 ≤ t ∧ t < 8 then (match yix F i n with
            | some (some j) => ygo F (pc + ln) L (.inr (va_rf (yget d ups j)) :: T) h
            | some none => if ups.isEmpty then ygo F (pc + ln) L (.inr (va_rf d) :: T) h else none
            | none => none) else none
        | _ => none)
    | _ => none) = some os := hy
  split at hy
  · rename_i i q T
    obtain ⟨i0, T1, rfl, hi0, hT1⟩ := rS_i hS
    obtain ⟨T0, rfl, hT⟩ := rS_r hT1
    split at hy
    · rename_i t n d ups hq
      by_cases ht : 3 ≤ t ∧ t < 8
      · rw [if_pos ht] at hy
        obtain ⟨e0, hq0, he⟩ := yown_ok hH hq
        obtain ⟨c0, rfl, hc⟩ := rE_a he
        obtain ⟨f, rfl, hf⟩ := rC_r hc
        split at hy
        · rename_i j hj
          obtain ⟨hb, hk⟩ := yix_ok hF hj hi0
          have e := hk j rfl
          have hv := hf _ (mib_lt hb)
          rw [e] at hv
          exact y_one hF hy (by dsimp only [mx]; rw [hq0]; (try dsimp only); rw [if_pos (by rw [hb, decide_eq_true ht]; rfl), e, hv]; rfl) hL (rAll_c rV_r hT) hH
        · rename_i hj
          obtain ⟨hb, hk⟩ := yix_ok hF hj hi0
          by_cases hu : ups.isEmpty = true
          · rw [if_pos hu] at hy
            have e : ups = [] := List.isEmpty_iff.mp hu
            subst e
            have hv : f i0.toNatClampNeg = d := hf _ (mib_lt hb)
            exact y_one hF hy (by dsimp only [mx]; rw [hq0]; (try dsimp only); rw [if_pos (by rw [hb, decide_eq_true ht]; rfl), hv]; rfl) hL (rAll_c rV_r hT) hH
          · rw [if_neg hu] at hy; cases hy
        · cases hy
      · rw [if_neg ht] at hy; cases hy
    · cases hy
  · cases hy
theorem z_iastore (hF : rF val F) (hL : rLo val L L0) (hS : rS val S S0) (hH : rH val h h0) (hy : ymx Lc ret F (.iastore, ln, a, b, q1) pc L S h = some os) : yOK Lc val ret (.iastore, ln, a, b, q1) pc L0 S0 h0 os := by
  replace hy : (match (generalizing := false) S with
    | .inl x :: .inl i :: .inr (.ref q) :: T => (match yown h q with
        | some (.inl (0, (n, .inl (d, ups)))) => (match yix F i n with
            | some j => ygo F (pc + ln) L T (yput h q (.inl (0, (n, .inl (yst d ups j x)))))
            | none => none)
        | _ => none)
    | _ => none) = some os := hy
  split at hy
  · rename_i x i q T
    obtain ⟨x0, T2, rfl, hx0, hT2⟩ := rS_i hS
    obtain ⟨i0, T1, rfl, hi0, hT1⟩ := rS_i hT2
    obtain ⟨T0, rfl, hT⟩ := rS_r hT1
    split at hy
    · rename_i n d ups hq
      split at hy
      · rename_i j hj
        obtain ⟨e0, hq0, he⟩ := yown_ok hH hq
        obtain ⟨c0, rfl, hc⟩ := rE_a he
        obtain ⟨f, rfl, hf⟩ := rC_i hc
        obtain ⟨hb, hk⟩ := yix_ok hF hj hi0
        exact y_one hF hy (by dsimp only [mx]; rw [hq0]; exact if_pos hb) hL hT (yput_ok (e0 := .inl (0, (n, .inl (upd f i0.toNatClampNeg x0)))) hH ⟨rfl, rfl, yst_ok hf hk hx0⟩)
      · cases hy
    · cases hy
  · cases hy
theorem z_bastore (hF : rF val F) (hL : rLo val L L0) (hS : rS val S S0) (hH : rH val h h0) (hy : ymx Lc ret F (.bastore, ln, a, b, q1) pc L S h = some os) : yOK Lc val ret (.bastore, ln, a, b, q1) pc L0 S0 h0 os := by
  replace hy : (match (generalizing := false) S with
    | .inl x :: .inl i :: .inr (.ref q) :: T => (match yown h q with
        | some (.inl (1, (n, .inl (d, ups)))) => if y01 F x then (match yix F i n with
            | some j => ygo F (pc + ln) L T (yput h q (.inl (1, (n, .inl (yst d ups j x)))))
            | none => none) else none
        | some (.inl (8, (n, .inl (d, ups)))) => (match yix F i n with
            | some j => ygo F (pc + ln) L T (yput h q (.inl (8, (n, .inl (yst d ups j (match (generalizing := false) x with
                | .inl c => .inl c.toInt8.toInt32
                | .inr x => yun 9 x 0))))))
            | none => none)
        | _ => none)
    | _ => none) = some os := hy
  split at hy
  · rename_i x i q T
    obtain ⟨x0, T2, rfl, hx0, hT2⟩ := rS_i hS
    obtain ⟨i0, T1, rfl, hi0, hT1⟩ := rS_i hT2
    obtain ⟨T0, rfl, hT⟩ := rS_r hT1
    split at hy
    · rename_i n d ups hq
      by_cases h1 : y01 F x = true
      · rw [if_pos h1] at hy
        split at hy
        · rename_i j hj
          have h01 := y01_ok hF h1 hx0
          obtain ⟨e0, hq0, he⟩ := yown_ok hH hq
          obtain ⟨c0, rfl, hc⟩ := rE_a he
          obtain ⟨f, rfl, hf⟩ := rC_i hc
          obtain ⟨hb, hk⟩ := yix_ok hF hj hi0
          exact y_one hF hy (by dsimp only [mx]; rw [hq0]; exact if_pos (by rw [hb, h01]; rfl)) hL hT (yput_ok (e0 := .inl (1, (n, .inl (upd f i0.toNatClampNeg x0)))) hH ⟨rfl, rfl, yst_ok hf hk hx0⟩)
        · cases hy
      · rw [if_neg h1] at hy; cases hy
    · rename_i n d ups hq
      split at hy
      · rename_i j hj
        have hx1 : rI val (match (generalizing := false) x with
            | .inl c => .inl c.toInt8.toInt32
            | .inr x => yun 9 x 0) x0.toInt8.toInt32 := by
          rcases x with c | x
          · have hx0 : x0 = c := hx0
            subst hx0
            rfl
          · exact yun_ok (o := 9) (c := 0) hx0
        obtain ⟨e0, hq0, he⟩ := yown_ok hH hq
        obtain ⟨c0, rfl, hc⟩ := rE_a he
        obtain ⟨f, rfl, hf⟩ := rC_i hc
        obtain ⟨hb, hk⟩ := yix_ok hF hj hi0
        exact y_one hF hy (by dsimp only [mx]; rw [hq0]; exact if_pos hb) hL hT (yput_ok (e0 := .inl (8, (n, .inl (upd f i0.toNatClampNeg x0.toInt8.toInt32)))) hH ⟨rfl, rfl, yst_ok hf hk hx1⟩)
      · cases hy
    · cases hy
  · cases hy
theorem z_aastore (hF : rF val F) (hL : rLo val L L0) (hS : rS val S S0) (hH : rH val h h0) (hy : ymx Lc ret F (.aastore, ln, a, b, q1) pc L S h = some os) : yOK Lc val ret (.aastore, ln, a, b, q1) pc L0 S0 h0 os := by
  replace hy : (match (generalizing := false) S with
    | .inr (.ref v) :: .inl (.inl i) :: .inr (.ref q) :: T => (match yown h q, yown h v with
        | some (.inl (t, (n, .inr (.inl (d, ups))))), some (.inr (ci, _)) =>
            if mib i n && decide (mEl[t]? = some (some ci)) then ygo F (pc + ln) L T (yput h q (.inl (t, (n, .inr (.inl (d, (i.toNatClampNeg, some v) :: ups)))))) else none
        | _, _ => none)
    | _ => none) = some os := hy
  split at hy
  · rename_i v i q T
    obtain ⟨T2, rfl, hT2⟩ := rS_r hS
    obtain ⟨i0, T1, rfl, hi0, hT1⟩ := rS_i hT2
    obtain ⟨T0, rfl, hT⟩ := rS_r hT1
    have hi0 : i0 = i := hi0
    subst hi0
    split at hy
    · rename_i t n d ups ci fs hq hv
      by_cases hb : (mib i0 n && decide (mEl[t]? = some (some ci))) = true
      · rw [if_pos hb] at hy
        obtain ⟨e0, hq0, he⟩ := yown_ok hH hq
        obtain ⟨c0, rfl, hc⟩ := rE_a he
        obtain ⟨f, rfl, hf⟩ := rC_r hc
        obtain ⟨e1, hv0, he1⟩ := yown_ok hH hv
        obtain ⟨fs0, rfl, -⟩ := rE_o he1
        refine y_one hF hy (by dsimp only [mx]; rw [hq0, hv0]; exact if_pos hb) hL hT (yput_ok (e0 := .inl (t, (n, .inr (.inr (.inr (.inr (va_up f i0.toNatClampNeg (some v)))))))) hH ⟨rfl, rfl, fun k hk => ?_⟩)
        show va_up f i0.toNatClampNeg (some v) k = yget d ((i0.toNatClampNeg, some v) :: ups) k
        unfold va_up yget
        by_cases he : i0.toNatClampNeg = k
        · rw [if_pos he.symm, if_pos he]
        · rw [if_neg (Ne.symm he), if_neg he]; exact hf k hk
      · rw [if_neg hb] at hy; cases hy
    · cases hy
  · cases hy
theorem z_newarray {t : ArrayType} (hF : rF val F) (hL : rLo val L L0) (hS : rS val S S0) (hH : rH val h h0) (hy : ymx Lc ret F (.newarray t, ln, a, b, q1) pc L S h = some os) : yOK Lc val ret (.newarray t, ln, a, b, q1) pc L0 S0 h0 os := by
  replace hy : (match (generalizing := false) S with
    | .inl (.inl n) :: T => if ¬ n < 0 ∧ n.toNatClampNeg ≤ 4000000 then (match (generalizing := false) t with
        | .int => ygo F (pc + ln) L (.inr (.ref (h.length + 4)) :: T) (h ++ [.inl (0, (n.toNatClampNeg, .inl (.inl 0, [])))])
        | .boolean => ygo F (pc + ln) L (.inr (.ref (h.length + 4)) :: T) (h ++ [.inl (1, (n.toNatClampNeg, .inl (.inl 0, [])))])
        | .byte => ygo F (pc + ln) L (.inr (.ref (h.length + 4)) :: T) (h ++ [.inl (8, (n.toNatClampNeg, .inl (.inl 0, [])))])
        | .long => ygo F (pc + ln) L (.inr (.ref (h.length + 4)) :: T) (h ++ [.inl (2, (n.toNatClampNeg, .inr (.inr 0)))])
        | _ => none) else none
    | _ => none) = some os := hy
  split at hy
  · rename_i n T
    obtain ⟨n0, T0, rfl, hn0, hT⟩ := rS_i hS
    have hn0 : n0 = n := hn0
    subst hn0
    by_cases hn : ¬ n0 < 0 ∧ n0.toNatClampNeg ≤ 4000000
    · rw [if_pos hn] at hy
      cases t with
      | int =>
        exact y_one hF hy (by dsimp only [mx]; rw [if_pos hn]; rfl) hL (rAll_c (rH_ref hH) hT) (rH_app1 hH (nE_i 0 _))
      | boolean =>
        exact y_one hF hy (by dsimp only [mx]; rw [if_pos hn]; rfl) hL (rAll_c (rH_ref hH) hT) (rH_app1 hH (nE_i 1 _))
      | byte =>
        exact y_one hF hy (by dsimp only [mx]; rw [if_pos hn]; rfl) hL (rAll_c (rH_ref hH) hT) (rH_app1 hH (nE_i 8 _))
      | long =>
        exact y_one hF hy (by dsimp only [mx]; rw [if_pos hn]; rfl) hL (rAll_c (rH_ref hH) hT) (rH_app1 hH (nE_l 2 _))
      | _ => cases hy
    · rw [if_neg hn] at hy; cases hy
  · cases hy
theorem z_anewarray {i : Nat} (hF : rF val F) (hL : rLo val L L0) (hS : rS val S S0) (hH : rH val h h0) (hy : ymx Lc ret F (.anewarray i, ln, a, b, q1) pc L S h = some os) : yOK Lc val ret (.anewarray i, ln, a, b, q1) pc L0 S0 h0 os := by
  replace hy : (match (generalizing := false) S with
    | .inl (.inl n) :: T => if ¬ n < 0 ∧ n.toNatClampNeg ≤ 4000000 then (match mEl[a]? with
        | some (some _) => ygo F (pc + ln) L (.inr (.ref (h.length + 4)) :: T) (h ++ [.inl (a, (n.toNatClampNeg, .inr (.inl (none, []))))])
        | _ => none) else none
    | _ => none) = some os := hy
  split at hy
  · rename_i n T
    obtain ⟨n0, T0, rfl, hn0, hT⟩ := rS_i hS
    have hn0 : n0 = n := hn0
    subst hn0
    by_cases hn : ¬ n0 < 0 ∧ n0.toNatClampNeg ≤ 4000000
    · rw [if_pos hn] at hy
      split at hy
      · rename_i ci hel
        exact y_one hF hy (by dsimp only [mx]; rw [if_pos hn, hel]; rfl) hL (rAll_c (rH_ref hH) hT) (rH_app1 hH (nE_r a _))
      · cases hy
    · rw [if_neg hn] at hy; cases hy
  · cases hy
theorem yget_map (g : Nat → Option Nat) (j : Nat) : ∀ l : List Nat, j ∈ l → yget none (l.map fun i => (i, g i)) j = g j
  | [], h => absurd h List.not_mem_nil
  | i :: l, h => by
    show (if i = j then g i else yget none (l.map fun i => (i, g i)) j) = g j
    by_cases e : i = j
    · rw [if_pos e, e]
    · rw [if_neg e]
      exact yget_map g j l ((List.mem_cons.mp h).resolve_left (fun z => e z.symm))
theorem nE_m {p p0 : Nat} (e : p = p0) (n : Nat) : rE val (.inl (7, (n, .inr (.inl (none, (List.range n).map fun i => (i, some (p + 4 + 1 + i))))))) (.inl (7, (n, .inr (.inr (.inr (.inr (fun i => if i < n then some (p0 + 4 + 1 + i) else none))))))) := by
  subst e
  refine ⟨rfl, rfl, fun j hj => ?_⟩
  show (if j < n then some (p + 4 + 1 + j) else none) = _
  rw [if_pos hj]
  exact (yget_map (fun i => some (p + 4 + 1 + i)) j _ (List.mem_range.mpr hj)).symm
theorem z_multi {i d : Nat} (hF : rF val F) (hL : rLo val L L0) (hS : rS val S S0) (hH : rH val h h0) (hy : ymx Lc ret F (.multianewarray i d, ln, a, b, q1) pc L S h = some os) : yOK Lc val ret (.multianewarray i d, ln, a, b, q1) pc L0 S0 h0 os := by
  replace hy : (match (generalizing := false) S with
    | .inl (.inl k) :: .inl (.inl n) :: T => if (¬ n < 0 ∧ n.toNatClampNeg ≤ 4000000) ∧ (¬ k < 0 ∧ k.toNatClampNeg ≤ 4000000) then
        ygo F (pc + ln) L (.inr (.ref (h.length + 4)) :: T) (h ++ (.inl (7, (n.toNatClampNeg, .inr (.inl (none, (List.range n.toNatClampNeg).map fun i => (i, some (h.length + 4 + 1 + i)))))) :: List.replicate n.toNatClampNeg (.inl (0, (k.toNatClampNeg, .inl (.inl 0, []))))))
        else none
    | _ => none) = some os := hy
  split at hy
  · rename_i k n T
    obtain ⟨k0, T1, rfl, hk0, hT1⟩ := rS_i hS
    obtain ⟨n0, T0, rfl, hn0, hT⟩ := rS_i hT1
    have hn0 : n0 = n := hn0
    have hk0 : k0 = k := hk0
    subst hn0
    subst hk0
    by_cases hn : (¬ n0 < 0 ∧ n0.toNatClampNeg ≤ 4000000) ∧ (¬ k0 < 0 ∧ k0.toNatClampNeg ≤ 4000000)
    · rw [if_pos hn] at hy
      exact y_one hF hy (by dsimp only [mx]; rw [if_pos hn]; rfl) hL (rAll_c (rH_ref hH) hT) (rAll_app hH (rAll_c (nE_m (rH_len hH) _) (rAll_rep (nE_i 0 _) _)))
    · rw [if_neg hn] at hy; cases hy
  · cases hy
theorem z_new {i : Nat} (hF : rF val F) (hL : rLo val L L0) (hS : rS val S S0) (hH : rH val h h0) (hy : ymx Lc ret F (.new i, ln, a, b, q1) pc L S h = some os) : yOK Lc val ret (.new i, ln, a, b, q1) pc L0 S0 h0 os := by
  replace hy : (match mTy[a]? with
    | some l => ygo F (pc + ln) L (.inr (.ref (h.length + 4)) :: S) (h ++ [.inr (a, l.map ydef)])
    | none => none) = some os := hy
  split at hy
  · rename_i l hl
    exact y_one hF hy (by dsimp only [mx]; rw [hl]; rfl) hL (rAll_c (rH_ref hH) hS) (rH_app1 hH (nE_o a l))
  · cases hy
theorem z_invokestatic {i : Nat} (hF : rF val F) (hL : rLo val L L0) (hS : rS val S S0) (hH : rH val h h0) (hy : ymx Lc ret F (.invokestatic i, ln, a, b, q1) pc L S h = some os) : yOK Lc val ret (.invokestatic i, ln, a, b, q1) pc L0 S0 h0 os := by
  replace hy : (match ytake b S [] with
    | some (as, T) => if ymcat T ≤ 8 then some [(F, (.inr (.inl (a, as, T)) : yO))] else none
    | none => none) = some os := hy
  split at hy
  · rename_i as T ht
    by_cases h8 : ymcat T ≤ 8
    · rw [if_pos h8] at hy
      cases hy
      obtain ⟨as0, T0, ht0, h1, h2⟩ := ytake_ok b hS (acc := []) (acc0 := []) trivial ht
      refine ⟨_, List.mem_cons_self, hF, .inr (.inl (a, as0, T0)), ?_, rfl, h1, h2⟩
      dsimp only [mx]
      rw [ht0]
      dsimp only
      rw [if_pos (by rw [← rS_cat h2]; exact h8)]
      rfl
    · rw [if_neg h8] at hy; cases hy
  · cases hy
theorem z_invokevirtual {i : Nat} (hF : rF val F) (hL : rLo val L L0) (hS : rS val S S0) (hH : rH val h h0) (hy : ymx Lc ret F (.invokevirtual i, ln, a, b, q1) pc L S h = some os) : yOK Lc val ret (.invokevirtual i, ln, a, b, q1) pc L0 S0 h0 os := by
  replace hy : (match ytake b S [] with
    | some (as, .inr (.ref q) :: T) => (match yown h q, mrec a with
        | some (.inr (ci, _)), some R => if ci = R.2.2.2.2.1 ∧ ymcat T ≤ 8 then some [(F, (.inr (.inl (a, .inr (.ref q) :: as, T)) : yO))] else none
        | _, _ => none)
    | _ => none) = some os := hy
  split at hy
  · rename_i as q T ht
    split at hy
    · rename_i ci fs R hq hR
      by_cases h8 : ci = R.2.2.2.2.1 ∧ ymcat T ≤ 8
      · rw [if_pos h8] at hy
        cases hy
        obtain ⟨as0, T1, ht0, h1, h2⟩ := ytake_ok b hS (acc := []) (acc0 := []) trivial ht
        obtain ⟨T0, rfl, h3⟩ := rS_r h2
        obtain ⟨e0, hq0, he⟩ := yown_ok hH hq
        obtain ⟨fs0, rfl, -⟩ := rE_o he
        refine ⟨_, List.mem_cons_self, hF, .inr (.inl (a, .ref q :: as0, T0)), ?_, rfl, ⟨rfl, h1⟩, h3⟩
        dsimp only [mx]
        rw [ht0]
        dsimp only
        rw [hq0, hR]
        dsimp only
        rw [if_pos ⟨h8.1, by rw [← rS_cat h3]; exact h8.2⟩]
        rfl
      · rw [if_neg h8] at hy; cases hy
    · cases hy
  · cases hy
theorem z_invokespecial {i : Nat} (hF : rF val F) (hL : rLo val L L0) (hS : rS val S S0) (hH : rH val h h0) (hy : ymx Lc ret F (.invokespecial i, ln, a, b, q1) pc L S h = some os) : yOK Lc val ret (.invokespecial i, ln, a, b, q1) pc L0 S0 h0 os := by
  replace hy : (match ytake b S [] with
    | some (as, .inr (.ref q) :: T) => if ymcat T ≤ 8 then some [(F, (.inr (.inl (a, .inr (.ref q) :: as, T)) : yO))] else none
    | _ => none) = some os := hy
  split at hy
  · rename_i as q T ht
    by_cases h8 : ymcat T ≤ 8
    · rw [if_pos h8] at hy
      cases hy
      obtain ⟨as0, T1, ht0, h1, h2⟩ := ytake_ok b hS (acc := []) (acc0 := []) trivial ht
      obtain ⟨T0, rfl, h3⟩ := rS_r h2
      refine ⟨_, List.mem_cons_self, hF, .inr (.inl (a, .ref q :: as0, T0)), ?_, rfl, ⟨rfl, h1⟩, h3⟩
      dsimp only [mx]
      rw [ht0]
      dsimp only
      rw [if_pos (by rw [← rS_cat h3]; exact h8)]
      rfl
    · rw [if_neg h8] at hy; cases hy
  · cases hy
theorem y_ret {r : mR} {v : Option yV} {v0 : Option Value} (hF : rF val F) (hy : some [(F, (.inr (.inr v) : yO))] = some os) (hz : mx ret (mex Lc val) r pc L0 S0 h0 = some (.inr (.inr v0))) (hv : rO val v v0) : yOK Lc val ret r pc L0 S0 h0 os := by
  cases hy
  exact ⟨_, List.mem_cons_self, hF, _, hz, hv⟩
theorem z_ireturn (hF : rF val F) (hL : rLo val L L0) (hS : rS val S S0) (hH : rH val h h0) (hy : ymx Lc ret F (.ireturn, ln, a, b, q1) pc L S h = some os) : yOK Lc val ret (.ireturn, ln, a, b, q1) pc L0 S0 h0 os := by
  replace hy : (match (generalizing := false) S with
    | [.inl x] => (match (generalizing := false) ret with
        | some .int => some [(F, (.inr (.inr (some (.inl x))) : yO))]
        | some .boolean => if y01 F x then some [(F, (.inr (.inr (some (.inl x))) : yO))] else none
        | _ => none)
    | _ => none) = some os := hy
  split at hy
  · rename_i x
    obtain ⟨x0, T0, rfl, hx0, hT⟩ := rS_i hS
    have hT := rS_n hT
    subst hT
    split at hy
    · exact y_ret (v0 := some (.int x0)) hF hy rfl (rV_i hx0)
    · by_cases h1 : y01 F x = true
      · rw [if_pos h1] at hy
        exact y_ret (v0 := some (.int x0)) hF hy (by dsimp only [mx]; rw [if_pos (y01_ok hF h1 hx0)]) (rV_i hx0)
      · rw [if_neg h1] at hy; cases hy
    · cases hy
  · cases hy
theorem z_areturn (hF : rF val F) (hL : rLo val L L0) (hS : rS val S S0) (hH : rH val h h0) (hy : ymx Lc ret F (.areturn, ln, a, b, q1) pc L S h = some os) : yOK Lc val ret (.areturn, ln, a, b, q1) pc L0 S0 h0 os := by
  replace hy : (match (generalizing := false) S with
    | [.inr (.ref x)] => (match (generalizing := false) ret with
        | some (.object _) => some [(F, (.inr (.inr (some (.inr (.ref x)))) : yO))]
        | some (.array _) => some [(F, (.inr (.inr (some (.inr (.ref x)))) : yO))]
        | _ => none)
    | [.inr .null] => (match (generalizing := false) ret with
        | some (.object _) => some [(F, (.inr (.inr (some (.inr .null))) : yO))]
        | some (.array _) => some [(F, (.inr (.inr (some (.inr .null))) : yO))]
        | _ => none)
    | _ => none) = some os := hy
  split at hy
  · rename_i x
    obtain ⟨T0, rfl, hT⟩ := rS_r hS
    have hT := rS_n hT
    subst hT
    split at hy
    · exact y_ret (v0 := some (.ref x)) hF hy rfl rfl
    · exact y_ret (v0 := some (.ref x)) hF hy rfl rfl
    · cases hy
  · obtain ⟨T0, rfl, hT⟩ := rS_r hS
    have hT := rS_n hT
    subst hT
    split at hy
    · exact y_ret (v0 := some .null) hF hy rfl rfl
    · exact y_ret (v0 := some .null) hF hy rfl rfl
    · cases hy
  · cases hy
theorem z_return (hF : rF val F) (hL : rLo val L L0) (hS : rS val S S0) (hH : rH val h h0) (hy : ymx Lc ret F (.return_, ln, a, b, q1) pc L S h = some os) : yOK Lc val ret (.return_, ln, a, b, q1) pc L0 S0 h0 os := by
  replace hy : (match (generalizing := false) S with
    | [] => (match (generalizing := false) ret with
        | none => some [(F, (.inr (.inr none) : yO))]
        | _ => none)
    | _ => none) = some os := hy
  split at hy
  · have hT := rS_n hS
    subst hT
    split at hy
    · exact y_ret (v0 := none) hF hy rfl trivial
    · cases hy
  · cases hy
theorem ymx_ok {r : mR} (hF : rF val F) (hL : rLo val L L0) (hS : rS val S S0) (hH : rH val h h0) (hy : ymx Lc ret F r pc L S h = some os) : yOK Lc val ret r pc L0 S0 h0 os := by
  obtain ⟨I, ln, a, b, q1⟩ := r
  cases I with
  | aconst_null => exact z_aconst_null hF hL hS hH hy
  | pop => exact z_pop hF hL hS hH hy
  | pop2 => exact z_pop2 hF hL hS hH hy
  | dup => exact z_dup hF hL hS hH hy
  | dup_x1 => exact z_dup_x1 hF hL hS hH hy
  | dup2 => exact z_dup2 hF hL hS hH hy
  | iadd => exact z_iadd hF hL hS hH hy
  | isub => exact z_isub hF hL hS hH hy
  | imul => exact z_imul hF hL hS hH hy
  | idiv => exact z_idiv hF hL hS hH hy
  | irem => exact z_irem hF hL hS hH hy
  | iand => exact z_iand hF hL hS hH hy
  | iushr => exact z_iushr hF hL hS hH hy
  | ishr => exact z_ishr hF hL hS hH hy
  | i2b => exact z_i2b hF hL hS hH hy
  | arraylength => exact z_arraylength hF hL hS hH hy
  | iaload => exact z_iaload hF hL hS hH hy
  | baload => exact z_baload hF hL hS hH hy
  | laload => exact z_laload hF hL hS hH hy
  | aaload => exact z_aaload hF hL hS hH hy
  | iastore => exact z_iastore hF hL hS hH hy
  | bastore => exact z_bastore hF hL hS hH hy
  | aastore => exact z_aastore hF hL hS hH hy
  | ireturn => exact z_ireturn hF hL hS hH hy
  | areturn => exact z_areturn hF hL hS hH hy
  | iconst k => exact z_iconst hF hL hS hH hy
  | jsr_w k => exact z_jsr_w hF hL hS hH hy
  | iload k => exact z_iload hF hL hS hH hy
  | aload k => exact z_aload hF hL hS hH hy
  | istore k => exact z_istore hF hL hS hH hy
  | astore k => exact z_astore hF hL hS hH hy
  | goto k => exact z_goto hF hL hS hH hy
  | ifnull k => exact z_ifnull hF hL hS hH hy
  | ifnonnull k => exact z_ifnonnull hF hL hS hH hy
  | getfield k => exact z_getfield hF hL hS hH hy
  | putfield k => exact z_putfield hF hL hS hH hy
  | getstatic k => exact z_getstatic hF hL hS hH hy
  | newarray k => exact z_newarray hF hL hS hH hy
  | anewarray k => exact z_anewarray hF hL hS hH hy
  | new k => exact z_new hF hL hS hH hy
  | invokestatic k => exact z_invokestatic hF hL hS hH hy
  | invokevirtual k => exact z_invokevirtual hF hL hS hH hy
  | invokespecial k => exact z_invokespecial hF hL hS hH hy
  | iinc k n => exact z_iinc hF hL hS hH hy
  | ifCond k n => exact z_ifCond hF hL hS hH hy
  | if_icmp k n => exact z_if_icmp hF hL hS hH hy
  | multianewarray k n => exact z_multi hF hL hS hH hy
  | tableswitch d lo hi offs => exact z_tableswitch hF hL hS hH hy
  | return_ => exact z_return hF hL hS hH hy
  | _ => cases hy
end YOK2
end
section
/-! .. AND ITS RUNS -/
section YRUN
variable {ex : List mE} {f d m pc : Nat} {L : mL} {S : List Value} {h : List mE} {R : mMR} {r : mR}
theorem mr_go {pc' : Nat} {L' : mL} {S' : List Value} {h' : List mE} (h1 : mrec m = some R) (h2 : mcd R.2.2.2.2.2.2.2 pc = some r) (h3 : mx R.2.2.2.1 ex r pc L S h = some (.inl (pc', L', S', h'))) : mrun ex (f + 1) d m pc L S h = mrun ex f d m pc' L' S' h' := by
  show (match mrec m with
    | none => none
    | some R => match mcd R.2.2.2.2.2.2.2 pc with
      | none => none
      | some r => match mx R.2.2.2.1 ex r pc L S h with
        | none => none
        | some (.inl (pc', L', S', h')) => mrun ex f d m pc' L' S' h'
        | some (.inr (.inr v)) => some (v, h)
        | some (.inr (.inl (m', as, T))) => match d, mrec m' with
          | d' + 1, some R' => if R'.2.2.1 < (lent1 as).length then none else (match mrun ex f d' m' 0 (lent as R'.2.2.1) [] h with
            | some (v, h') => mrun ex f d m (pc + r.2.1) L (mpush v T) h'
            | none => none)
          | _, _ => none) = _
  rw [h1]; dsimp only; rw [h2]; dsimp only; rw [h3]
theorem mr_ret {v : Option Value} (h1 : mrec m = some R) (h2 : mcd R.2.2.2.2.2.2.2 pc = some r) (h3 : mx R.2.2.2.1 ex r pc L S h = some (.inr (.inr v))) : mrun ex (f + 1) d m pc L S h = some (v, h) := by
  show (match mrec m with
    | none => none
    | some R => match mcd R.2.2.2.2.2.2.2 pc with
      | none => none
      | some r => match mx R.2.2.2.1 ex r pc L S h with
        | none => none
        | some (.inl (pc', L', S', h')) => mrun ex f d m pc' L' S' h'
        | some (.inr (.inr v)) => some (v, h)
        | some (.inr (.inl (m', as, T))) => match d, mrec m' with
          | d' + 1, some R' => if R'.2.2.1 < (lent1 as).length then none else (match mrun ex f d' m' 0 (lent as R'.2.2.1) [] h with
            | some (v, h') => mrun ex f d m (pc + r.2.1) L (mpush v T) h'
            | none => none)
          | _, _ => none) = _
  rw [h1]; dsimp only; rw [h2]; dsimp only; rw [h3]
theorem mr_call {m' : Nat} {as T : List Value} {R' : mMR} (h1 : mrec m = some R) (h2 : mcd R.2.2.2.2.2.2.2 pc = some r) (h3 : mx R.2.2.2.1 ex r pc L S h = some (.inr (.inl (m', as, T)))) (h4 : mrec m' = some R') (h5 : ¬ R'.2.2.1 < (lent1 as).length) : mrun ex (f + 1) (d + 1) m pc L S h = (match mrun ex f d m' 0 (lent as R'.2.2.1) [] h with
            | some (v, h') => mrun ex f (d + 1) m (pc + r.2.1) L (mpush v T) h'
            | none => none) := by
  show (match mrec m with
    | none => none
    | some R => match mcd R.2.2.2.2.2.2.2 pc with
      | none => none
      | some r => match mx R.2.2.2.1 ex r pc L S h with
        | none => none
        | some (.inl (pc', L', S', h')) => mrun ex f (d + 1) m pc' L' S' h'
        | some (.inr (.inr v)) => some (v, h)
        | some (.inr (.inl (m', as, T))) => match d + 1, mrec m' with
          | d' + 1, some R' => if R'.2.2.1 < (lent1 as).length then none else (match mrun ex f d' m' 0 (lent as R'.2.2.1) [] h with
            | some (v, h') => mrun ex f (d + 1) m (pc + r.2.1) L (mpush v T) h'
            | none => none)
          | _, _ => none) = _
  rw [h1]; dsimp only; rw [h2]; dsimp only; rw [h3]; dsimp only; rw [h4]; dsimp only; rw [if_neg h5]
end YRUN
theorem mrun_s {ex : List mE} : ∀ (f d m pc : Nat) (L : mL) (S : List Value) (h : List mE) (z : Option Value × List mE), mrun ex f d m pc L S h = some z → mrun ex (f + 1) d m pc L S h = some z
  | 0, _, _, _, _, _, _, _, hr => by cases hr
  | f + 1, d, m, pc, L, S, h, z, hr => by
    have ih := mrun_s (ex := ex) f
    cases h1 : mrec m with
    | none => unfold mrun at hr; rw [h1] at hr; cases hr
    | some R =>
      cases h2 : mcd R.2.2.2.2.2.2.2 pc with
      | none => unfold mrun at hr; rw [h1] at hr; dsimp only at hr; rw [h2] at hr; cases hr
      | some r =>
        rcases h3 : mx R.2.2.2.1 ex r pc L S h with _ | ⟨pc', L', S', h'⟩ | ⟨m', as, T⟩ | v
        · unfold mrun at hr; rw [h1] at hr; dsimp only at hr; rw [h2] at hr; dsimp only at hr; rw [h3] at hr; cases hr
        · rw [mr_go h1 h2 h3] at hr ⊢
          exact ih _ _ _ _ _ _ _ hr
        · have hr0 := hr
          unfold mrun at hr
          rw [h1] at hr; dsimp only at hr; rw [h2] at hr; dsimp only at hr; rw [h3] at hr; dsimp only at hr
          cases d with
          | zero => cases hr
          | succ d =>
            cases h4 : mrec m' with
            | none => rw [h4] at hr; cases hr
            | some R' =>
              by_cases h5 : R'.2.2.1 < (lent1 as).length
              · rw [h4] at hr; dsimp only at hr; rw [if_pos h5] at hr; cases hr
              · rw [mr_call h1 h2 h3 h4 h5] at hr0 ⊢
                cases h6 : mrun ex f d m' 0 (lent as R'.2.2.1) [] h with
                | none => rw [h6] at hr0; cases hr0
                | some w =>
                  obtain ⟨v, h'⟩ := w
                  rw [h6] at hr0
                  rw [ih _ _ _ _ _ _ _ h6]
                  exact ih _ _ _ _ _ _ _ hr0
        · rw [mr_ret h1 h2 h3] at hr ⊢
          exact hr
theorem mrun_k {ex : List mE} {f d m pc : Nat} {L : mL} {S : List Value} {h : List mE} {z : Option Value × List mE} (hr : mrun ex f d m pc L S h = some z) : ∀ k, mrun ex (f + k) d m pc L S h = some z
  | 0 => hr
  | k + 1 => mrun_s (f + k) _ _ _ _ _ _ _ (mrun_k hr k)
abbrev mFr : Type := Nat × Nat × mL × List Value
def cOK (ex : List mE) : mFr → List mFr → List mE → Prop
  | (m, pc, L, S), [], h => ∃ f h1, mrun ex f 300 m pc L S h = some (some (.int 1), h1) ∧ h1.length ≤ 600000 ∧ mhs h1 ≤ 7302250
  | (m, pc, L, S), (m2, pc2, L2, S2) :: rest, h => ∃ f v h1, mrun ex f (300 - (rest.length + 1)) m pc L S h = some (v, h1) ∧ cOK ex (m2, pc2, L2, mpush v S2) rest h1
theorem cOK_of {ex : List mE} {m pc m2 pc2 : Nat} {L L2 : mL} {S S2 : List Value} {rest : List mFr} {h h2 : List mE} (hn : ∀ f z, mrun ex f (300 - rest.length) m2 pc2 L2 S2 h2 = some z → ∃ f, mrun ex f (300 - rest.length) m pc L S h = some z) (hc : cOK ex (m2, pc2, L2, S2) rest h2) : cOK ex (m, pc, L, S) rest h := by
  cases rest with
  | nil =>
    obtain ⟨f, h1, hr, hb⟩ := hc
    obtain ⟨f', hr'⟩ := hn f _ hr
    exact ⟨f', h1, hr', hb⟩
  | cons fr rest =>
    obtain ⟨m3, pc3, L3, S3⟩ := fr
    obtain ⟨f, v, h1, hr, hb⟩ := hc
    obtain ⟨f', hr'⟩ := hn f _ hr
    exact ⟨f', v, h1, hr', hb⟩
def rFr (val : Nat → Int32) (a : yFr) (b : mFr) : Prop := a.1 = b.1 ∧ a.2.1 = b.2.1 ∧ rLo val a.2.2.1 b.2.2.1 ∧ rS val a.2.2.2 b.2.2.2
theorem rS_push {val : Nat → Int32} {v : Option yV} {v0 : Option Value} {S : List yV} {S0 : List Value} (hv : rO val v v0) (hS : rS val S S0) : rS val (ypush v S) (mpush v0 S0) := by
  cases v with
  | none => cases v0 with
    | none => exact hS
    | some w => exact hv.elim
  | some v => cases v0 with
    | none => exact hv.elim
    | some w => exact ⟨hv, hS⟩
theorem yl1_len {val : Nat → Int32} {as : List yV} {as0 : List Value} (h : rS val as as0) : (ylent1 as).length = (lent1 as0).length := rAll_len (ylent1_ok h)
theorem sx_ok {Lc : Nat} {val : Nat → Int32} : ∀ (f : Nat) (F : yF) (m pc : Nat) (L : yL) (S : List yV) (rest : List yFr) (h : List yE), sx Lc f F ((m, pc, L, S) :: rest) h = true → rF val F → ∀ (L0 : mL) (S0 : List Value) (rest0 : List mFr) (h0 : List mE), rLo val L L0 → rS val S S0 → rAll (rFr val) rest rest0 → rH val h h0 → cOK (mex Lc val) (m, pc, L0, S0) rest0 h0
  | 0, _, _, _, _, _, _, _, hs, _ => by cases hs
  | f + 1, F, m, pc, L, S, rest, h, hs, hF => by
    intro L0 S0 rest0 h0 hL hS hR hH
    have ih := sx_ok (Lc := Lc) (val := val) f
    unfold sx at hs
    dsimp only at hs
    cases h1 : mrec m with
    | none => rw [h1] at hs; cases hs
    | some R =>
      rw [h1] at hs
      dsimp only at hs
      cases h2 : mcd R.2.2.2.2.2.2.2 pc with
      | none => rw [h2] at hs; cases hs
      | some r =>
        rw [h2] at hs
        dsimp only at hs
        cases h3 : ymx Lc R.2.2.2.1 F r pc L S h with
        | none => rw [h3] at hs; cases hs
        | some os =>
          rw [h3] at hs
          dsimp only at hs
          obtain ⟨q, hq, hqF, z, hz, hqz⟩ := ymx_ok hF hL hS hH h3
          have hs := List.all_eq_true.mp hs q hq
          obtain ⟨F1, o⟩ := q
          dsimp only at hs hqF hqz
          rcases o with ⟨pc1, L1, S1, h1'⟩ | ⟨m1, as, T⟩ | v
          · rcases z with ⟨pc2, L2, S2, h2'⟩ | ⟨m2, as2, T2⟩ | v2
            · obtain ⟨rfl, hL1, hS1, hH1⟩ := hqz
              exact cOK_of (fun f z hr => ⟨f + 1, by rw [mr_go h1 h2 hz]; exact hr⟩) (ih _ _ _ _ _ _ _ hs hqF _ _ _ _ hL1 hS1 hR hH1)
            · exact hqz.elim
            · exact hqz.elim
          · rcases z with ⟨pc2, L2, S2, h2'⟩ | ⟨m2, as2, T2⟩ | v2
            · exact hqz.elim
            · obtain ⟨rfl, hA, hT⟩ := hqz
              dsimp only at hs
              cases h4 : mrec m1 with
              | none => rw [h4] at hs; cases hs
              | some R' =>
                rw [h4] at hs
                dsimp only at hs
                by_cases h5 : R'.2.2.1 < (ylent1 as).length ∨ 300 ≤ rest.length
                · rw [if_pos h5] at hs; cases hs
                · rw [if_neg h5] at hs
                  have hlen := rAll_len hR
                  have h6 : ¬ R'.2.2.1 < (lent1 as2).length := by rw [← yl1_len hA]; exact fun z => h5 (.inl z)
                  have h7 : rest0.length < 300 := by rw [← hlen]; exact Nat.lt_of_not_le (fun z => h5 (.inr z))
                  have hc := ih _ _ _ _ _ _ _ hs hqF (lent as2 R'.2.2.1) [] ((m, pc + r.2.1, L0, T2) :: rest0) h0 (ylent_ok hA _) trivial ⟨⟨rfl, rfl, hL, hT⟩, hR⟩ hH
                  obtain ⟨f1, v, h8, hr1, hc⟩ := hc
                  refine cOK_of (fun f2 z hr2 => ⟨f1 + f2 + 1, ?_⟩) hc
                  have e : 300 - rest0.length = (300 - (rest0.length + 1)) + 1 := by omega
                  rw [e] at hr2 ⊢
                  rw [mr_call h1 h2 hz h4 h6, mrun_k hr1 f2]
                  dsimp only
                  rw [Nat.add_comm f1 f2]
                  exact mrun_k hr2 f1
            · exact hqz.elim
          · rcases z with ⟨pc2, L2, S2, h2'⟩ | ⟨m2, as2, T2⟩ | v2
            · exact hqz.elim
            · exact hqz.elim
            · replace hqz : rO val v v2 := hqz
              dsimp only at hs
              cases rest with
              | nil =>
                cases rest0 with
                | cons => exact hR.elim
                | nil =>
                  dsimp only at hs
                  split at hs
                  · rename_i x
                    simp only [Bool.and_eq_true, decide_eq_true_eq] at hs
                    obtain ⟨⟨rfl, hc1⟩, hc2⟩ := hs
                    cases v2 with
                    | none => exact hqz.elim
                    | some w =>
                      obtain ⟨x, rfl, hx⟩ := hqz
                      have hx : x = 1 := hx
                      subst hx
                      exact ⟨1, h0, mr_ret h1 h2 hz, by rw [← rH_len hH]; exact hc1, by rw [← rH_sz hH]; exact hc2⟩
                  · cases hs
              | cons fr rest =>
                cases rest0 with
                | nil => exact hR.elim
                | cons fr0 rest0 =>
                  obtain ⟨m3, pc3, L3, S3⟩ := fr
                  obtain ⟨m4, pc4, L4, S4⟩ := fr0
                  obtain ⟨⟨h5, h6, hL3, hS3⟩, hR⟩ := hR
                  dsimp only at hs h5 h6 hL3 hS3
                  subst h5 h6
                  exact ⟨1, v2, h0, mr_ret h1 h2 hz, ih _ _ _ _ _ _ _ hs hqF _ _ _ _ hL3 (rS_push hqz hS3) hR hH⟩
/-- what the symbolic machine says of the law -/
theorem sx_run {Lc : Nat} {val : Nat → Int32} {f : Nat} {F : yF} (hs : sx Lc f F [(mLaw, 0, ylent [.inr (.ref 0)] 4, [])] [] = true) (hF : rF val F) : ∃ f h1, mrun (mex Lc val) f 300 mLaw 0 (lent [.ref 0] 4) [] [] = some (some (.int 1), h1) ∧ h1.length ≤ 600000 ∧ mhs h1 ≤ 7302250 :=
  sx_ok f F _ _ _ _ [] [] hs hF _ _ [] [] (ylent_ok (vs := [.inr (.ref 0)]) (ws := [.ref 0]) ⟨rfl, trivial⟩ 4) trivial trivial trivial
end
section
/-! checks of long methods, piece by piece -/
theorem okC_split {o : Nat} {y : MethodName} {cc : ByteArray} : ∀ {k : List (List (Option mR))} {a pc n : Nat}, okC o y cc pc ((k.drop a).take n) = true → okC o y cc (pc + 16 * n) (k.drop (a + n)) = true → okC o y cc pc (k.drop a) = true := by
  have h : ∀ (l : List (List (Option mR))) (pc n : Nat), okC o y cc pc (l.take n) = true → okC o y cc (pc + 16 * n) (l.drop n) = true → okC o y cc pc l = true := by
    intro l
    induction l with
    | nil => intro pc n _ _; rfl
    | cons x l ih =>
      intro pc n h1 h2
      cases n with
      | zero => exact h2
      | succ n =>
        have h1 : (okL o y cc pc x && okC o y cc (pc + 16) (l.take n)) = true := h1
        have h2 : okC o y cc (pc + 16 * (n + 1)) (l.drop n) = true := h2
        rw [Bool.and_eq_true] at h1
        show (okL o y cc pc x && okC o y cc (pc + 16) l) = true
        rw [Bool.and_eq_true]
        exact ⟨h1.1, ih (pc + 16) n h1.2 (by rw [show pc + 16 + 16 * n = pc + 16 * (n + 1) by omega]; exact h2)⟩
  intro k a pc n h1 h2
  exact h _ pc n h1 (by rw [List.drop_drop]; exact h2)
theorem okC_last {o : Nat} {y : MethodName} {cc : ByteArray} {k : List (List (Option mR))} {a pc n : Nat} (h : okC o y cc pc ((k.drop a).take n) = true) (hl : k.length ≤ a + n) : okC o y cc pc (k.drop a) = true := by
  rw [List.take_of_length_le (by rw [List.length_drop]; omega)] at h
  exact h
theorem okM_of {y : MethodName} {cc : ByteArray} {mx : Nat} {ret : Option FieldType} {o st na : Nat} {k : List (List (Option mR))} {t : Nat × Nat × Nat × Nat} (h : okC o y cc 0 (k.drop 0) = true) (h2 : okM (y, cc, mx, ret, o, st, na, []) t = true) : okM (y, cc, mx, ret, o, st, na, k) t = true := by
  obtain ⟨t1, t2, t3, t4⟩ := t
  rw [List.drop_zero] at h
  unfold okM at h2 ⊢
  dsimp only at h2 ⊢
  rw [h]
  exact h2
end
section
theorem ck_0_0 : okM (yX0_init, cX0_init, 1, none, 0, 0, 0, kX0_init) (1206, 1031, 1205, 0) = true := by decide +kernel
theorem ck_0_1 : okM (yX0_isFull, cX0_isFull, 1, (some .boolean), 0, 0, 0, kX0_isFull) (5120, 1031, 4334, 4335) = true := by decide +kernel
theorem ck_0_2 : okM (yX0_has, cX0_has, 2, (some .boolean), 0, 0, 1, kX0_has) (5276, 1031, 5274, 5275) = true := by decide +kernel
theorem ck_0_3 : okM (yX0_add, cX0_add, 2, (some .int), 0, 0, 1, kX0_add) (5267, 1031, 5265, 5266) = true := by decide +kernel
theorem ck_0_4 : okM (yX0_learn, cX0_learn, 3, none, 0, 0, 2, kX0_learn) (5284, 1031, 5282, 5283) = true := by decide +kernel
theorem ck_0_5 : okM (yX0_learnTroubles, cX0_learnTroubles, 8, none, 0, 0, 4, kX0_learnTroubles) (5316, 1031, 5314, 5315) = true := by decide +kernel
theorem ck_0_6 : okM (yX0_setDays, cX0_setDays, 2, none, 0, 0, 1, kX0_setDays) (5327, 1031, 5325, 5326) = true := by decide +kernel
theorem ck_0_7 : okM (yX0_setAll, cX0_setAll, 3, none, 0, 0, 2, kX0_setAll) (5293, 1031, 5291, 5292) = true := by decide +kernel
theorem ck_0_8 : okM (yX0_amount, cX0_amount, 3, (some .int), 0, 0, 1, kX0_amount) (5331, 1031, 5329, 5330) = true := by decide +kernel
theorem ck_0_9 : okM (yX0_inForce, cX0_inForce, 8, (some .int), 0, 0, 3, kX0_inForce) (5354, 1031, 5352, 5353) = true := by decide +kernel
theorem ck_0_10 : okM (yX1_init, cX1_init, 6, none, 1, 0, 5, kX1_init) (2126, 1033, 2125, 0) = true := by decide +kernel
theorem ck_0_11 : okM (yX1_standsFor, cX1_standsFor, 2, (some .boolean), 1, 0, 1, kX1_standsFor) (4102, 1033, 4100, 4101) = true := by decide +kernel
theorem ck_0_12 : okM (yX2_init, cX2_init, 1, none, 2, 0, 0, kX2_init) (1087, 1027, 1086, 0) = true := by decide +kernel
theorem ck_0_13 : okM (yX2_addTrack, cX2_addTrack, 4, (some .int), 2, 0, 3, kX2_addTrack) (3192, 1027, 3190, 3191) = true := by decide +kernel
theorem ck_0_14 : okM (yX2_countsFor, cX2_countsFor, 3, (some .boolean), 2, 0, 2, kX2_countsFor) (3208, 1027, 3207, 6) = true := by decide +kernel
theorem ck_0_15 : okM (yX2_elsewhere, cX2_elsewhere, 3, (some .int), 2, 0, 1, kX2_elsewhere) (3204, 1027, 3203, 5) = true := by decide +kernel
theorem ck_1_0 : okM (yX2_firstElsewhere, cX2_firstElsewhere, 3, (some .int), 2, 0, 1, kX2_firstElsewhere) (3212, 1027, 3210, 3211) = true := by decide +kernel
theorem ck_1_1 : okM (yX2_lastThere, cX2_lastThere, 3, (some .int), 2, 0, 1, kX2_lastThere) (3200, 1027, 3198, 3199) = true := by decide +kernel
theorem ck_1_2 : okM (yX2_beginBreak, cX2_beginBreak, 3, (some .boolean), 2, 0, 2, kX2_beginBreak) (3128, 1027, 3126, 3127) = true := by decide +kernel
theorem ck_1_3 : okM (yX2_endBreak, cX2_endBreak, 4, none, 2, 0, 2, kX2_endBreak) (3124, 1027, 3122, 3123) = true := by decide +kernel
theorem ck_1_4 : okM (yX2_hoursBroken, cX2_hoursBroken, 7, (some .int), 2, 0, 3, kX2_hoursBroken) (5321, 1027, 5319, 5320) = true := by decide +kernel
theorem ck_1_5 : okM (yX3_init, cX3_init, 1, none, 3, 0, 0, kX3_init) (1145, 1029, 1144, 0) = true := by decide +kernel
theorem ck_1_6 : okM (yX3_isPromised, cX3_isPromised, 1, (some .boolean), 3, 1, 1, kX3_isPromised) (4189, 1029, 4188, 0) = true := by decide +kernel
theorem ck_1_7 : okM (yX3_joins, cX3_joins, 3, (some .boolean), 3, 0, 1, kX3_joins) (4230, 1029, 4229, 19) = true := by decide +kernel
theorem ck_1_8 : okM (yX3_add, cX3_add, 2, (some .int), 3, 0, 1, kX3_add) (4226, 1029, 4224, 4225) = true := by decide +kernel
theorem cq_1_9_0 : okC 3 yX3_drive cX3_drive 0 ((kX3_drive.drop 0).take 10) = true := by decide +kernel
theorem cq_1_9_10 : okC 3 yX3_drive cX3_drive 160 ((kX3_drive.drop 10).take 10) = true := by decide +kernel
theorem cc_1_9 : okC 3 yX3_drive cX3_drive 0 (kX3_drive.drop 0) = true := (okC_split cq_1_9_0 (okC_last cq_1_9_10 (by decide +kernel)))
theorem ck_1_9 : okM (yX3_drive, cX3_drive, 8, (some .int), 3, 0, 1, kX3_drive) (4182, 1029, 4180, 4181) = true := okM_of (k := kX3_drive) cc_1_9 (by decide +kernel)
theorem ck_1_10 : okM (yX3_rowAt, cX3_rowAt, 2, (some (.object "HireYard$Machine")), 3, 0, 1, kX3_rowAt) (4238, 1029, 4236, 4237) = true := by decide +kernel
theorem ck_1_11 : okM (yX3_dropOthers, cX3_dropOthers, 3, none, 3, 0, 0, kX3_dropOthers) (4186, 1029, 4185, 11) = true := by decide +kernel
theorem ck_1_12 : okM (yX3_weight, cX3_weight, 4, (some .int), 3, 0, 1, kX3_weight) (4193, 1029, 4192, 12) = true := by decide +kernel
theorem ck_1_13 : okM (yX3_sortByNumber, cX3_sortByNumber, 6, none, 3, 0, 1, kX3_sortByNumber) (4197, 1029, 4196, 13) = true := by decide +kernel
theorem ck_1_14 : okM (yX3_rowMiles, cX3_rowMiles, 9, (some .int), 3, 0, 3, kX3_rowMiles) (4201, 1029, 4200, 14) = true := by decide +kernel
theorem ck_1_15 : okM (yX3_customerTown, cX3_customerTown, 3, (some .int), 3, 0, 1, kX3_customerTown) (4205, 1029, 4204, 15) = true := by decide +kernel
theorem ck_2_0 : okM (yX3_keepRow, cX3_keepRow, 3, none, 3, 0, 1, kX3_keepRow) (4210, 1029, 4209, 16) = true := by decide +kernel
theorem ck_2_1 : okM (yX3_nextTurn, cX3_nextTurn, 6, (some .boolean), 3, 0, 1, kX3_nextTurn) (4214, 1029, 4213, 17) = true := by decide +kernel
theorem ck_2_2 : okM (yX3_swapTurns, cX3_swapTurns, 4, none, 3, 0, 2, kX3_swapTurns) (4218, 1029, 4217, 18) = true := by decide +kernel
theorem ck_2_3 : okM (yX4_init, cX4_init, 6, none, 4, 0, 5, kX4_init) (2185, 1034, 2184, 0) = true := by decide +kernel
theorem ck_2_4 : okM (yX4_isFree, cX4_isFree, 1, (some .boolean), 4, 0, 0, kX4_isFree) (3112, 1034, 3110, 3111) = true := by decide +kernel
end
section
theorem ck_2_5 : okM (yX4_sinceLook, cX4_sinceLook, 1, (some .int), 4, 0, 0, kX4_sinceLook) (3095, 1034, 3093, 3094) = true := by decide +kernel
theorem ck_2_6 : okM (yX4_hoursToLook, cX4_hoursToLook, 1, (some .int), 4, 0, 0, kX4_hoursToLook) (3100, 1034, 3098, 3099) = true := by decide +kernel
theorem ck_2_7 : okM (yX4_lookDue, cX4_lookDue, 1, (some .boolean), 4, 0, 0, kX4_lookDue) (4106, 1034, 4104, 4105) = true := by decide +kernel
theorem ck_2_8 : okM (yX4_lookLapses, cX4_lookLapses, 2, (some .boolean), 4, 0, 1, kX4_lookLapses) (4110, 1034, 4108, 4109) = true := by decide +kernel
theorem ck_2_9 : okM (yX4_beginLook, cX4_beginLook, 2, none, 4, 0, 1, kX4_beginLook) (3116, 1034, 3114, 3115) = true := by decide +kernel
theorem ck_2_10 : okM (yX4_load, cX4_load, 4, none, 4, 0, 3, kX4_load) (4248, 1034, 4246, 4247) = true := by decide +kernel
theorem ck_2_11 : okM (yX4_settle, cX4_settle, 2, none, 4, 0, 1, kX4_settle) (2113, 1034, 2111, 2112) = true := by decide +kernel
theorem ck_2_12 : okM (yX4_leave, cX4_leave, 3, none, 4, 0, 2, kX4_leave) (3148, 1034, 3146, 3147) = true := by decide +kernel
theorem ck_2_13 : okM (yX4_addLink, cX4_addLink, 3, (some .int), 4, 0, 2, kX4_addLink) (3078, 1034, 3076, 3077) = true := by decide +kernel
theorem ck_2_14 : okM (yX4_ownerOf, cX4_ownerOf, 2, (some .int), 4, 0, 1, kX4_ownerOf) (6192, 1034, 6190, 6191) = true := by decide +kernel
theorem ck_2_15 : okM (yX4_rateOf, cX4_rateOf, 2, (some .int), 4, 0, 1, kX4_rateOf) (6184, 1034, 6182, 6183) = true := by decide +kernel
theorem ck_3_0 : okM (yX5_init, cX5_init, 1, none, 5, 0, 0, kX5_init) (1119, 1028, 1118, 0) = true := by decide +kernel
theorem ck_3_1 : okM (yX5_isListed, cX5_isListed, 3, (some .boolean), 5, 0, 1, kX5_isListed) (4127, 1028, 4126, 9) = true := by decide +kernel
theorem ck_3_2 : okM (yX5_add, cX5_add, 2, (some .int), 5, 0, 1, kX5_add) (4123, 1028, 4121, 4122) = true := by decide +kernel
theorem ck_3_3 : okM (yX5_begin, cX5_begin, 1, none, 5, 0, 0, kX5_begin) (4135, 1028, 4133, 4134) = true := by decide +kernel
theorem cq_3_4_0 : okC 5 yX5_offer cX5_offer 0 ((kX5_offer.drop 0).take 10) = true := by decide +kernel
theorem cq_3_4_10 : okC 5 yX5_offer cX5_offer 160 ((kX5_offer.drop 10).take 10) = true := by decide +kernel
theorem cc_3_4 : okC 5 yX5_offer cX5_offer 0 (kX5_offer.drop 0) = true := (okC_split cq_3_4_0 (okC_last cq_3_4_10 (by decide +kernel)))
theorem ck_3_4 : okM (yX5_offer, cX5_offer, 8, none, 5, 0, 3, kX5_offer) (4143, 1028, 4141, 4142) = true := okM_of (k := kX5_offer) cc_3_4 (by decide +kernel)
theorem ck_3_5 : okM (yX5_costOf, cX5_costOf, 7, (some .long), 5, 1, 5, kX5_costOf) (4146, 1028, 4145, 0) = true := by decide +kernel
theorem ck_3_6 : okM (yX5_leastCost, cX5_leastCost, 7, (some .long), 5, 0, 0, kX5_leastCost) (4163, 1028, 4162, 10) = true := by decide +kernel
theorem ck_3_7 : okM (yX5_promise, cX5_promise, 9, (some .int), 5, 0, 2, kX5_promise) (4159, 1028, 4157, 4158) = true := by decide +kernel
theorem ck_3_8 : okM (yX6_init, cX6_init, 3, none, 6, 0, 2, kX6_init) (2191, 1035, 2190, 0) = true := by decide +kernel
theorem ck_3_9 : okM (yX6_size, cX6_size, 1, (some .int), 6, 0, 0, kX6_size) (4307, 1035, 4305, 4306) = true := by decide +kernel
theorem ck_3_10 : okM (yX6_last, cX6_last, 1, (some .int), 6, 0, 0, kX6_last) (3087, 1035, 3085, 3086) = true := by decide +kernel
theorem ck_3_11 : okM (yX6_valueAt, cX6_valueAt, 2, (some .int), 6, 0, 1, kX6_valueAt) (3091, 1035, 3089, 3090) = true := by decide +kernel
theorem ck_3_12 : okM (yX6_toldAt, cX6_toldAt, 2, (some .boolean), 6, 0, 1, kX6_toldAt) (3160, 1035, 3159, 3) = true := by decide +kernel
theorem ck_3_13 : okM (yX6_isAnother, cX6_isAnother, 2, (some .boolean), 6, 0, 1, kX6_isAnother) (3156, 1035, 3154, 3155) = true := by decide +kernel
theorem ck_3_14 : okM (yX6_tell, cX6_tell, 3, none, 6, 0, 2, kX6_tell) (3164, 1035, 3162, 3163) = true := by decide +kernel
theorem ck_3_15 : okM (yX6_grow, cX6_grow, 1, none, 6, 0, 0, kX6_grow) (3168, 1035, 3167, 4) = true := by decide +kernel
theorem ck_4_0 : okM (yX6_latestUpTo, cX6_latestUpTo, 6, (some .int), 6, 0, 1, kX6_latestUpTo) (4301, 1035, 4299, 4300) = true := by decide +kernel
theorem ck_4_1 : okM (yX6_earliestFrom, cX6_earliestFrom, 2, (some .int), 6, 0, 1, kX6_earliestFrom) (4297, 1035, 4295, 4296) = true := by decide +kernel
theorem ck_4_2 : okM (yX7_init, cX7_init, 7, none, 7, 0, 6, kX7_init) (3228, 1039, 3227, 0) = true := by decide +kernel
theorem ck_4_3 : okM (yX7_objection, cX7_objection, 5, (some .int), 7, 0, 3, kX7_objection) (4098, 1039, 4096, 4097) = true := by decide +kernel
theorem ck_4_4 : okM (yX7_begun, cX7_begun, 2, (some .boolean), 7, 0, 1, kX7_begun) (3140, 1039, 3138, 3139) = true := by decide +kernel
theorem ck_4_5 : okM (yX7_isSubstitute, cX7_isSubstitute, 1, (some .boolean), 7, 0, 0, kX7_isSubstitute) (5312, 1039, 5310, 5311) = true := by decide +kernel
theorem ck_4_6 : okM (yX7_promise, cX7_promise, 2, none, 7, 0, 1, kX7_promise) (4170, 1039, 4168, 4169) = true := by decide +kernel
theorem ck_4_7 : okM (yX7_finish, cX7_finish, 2, none, 7, 0, 1, kX7_finish) (3144, 1039, 3142, 3143) = true := by decide +kernel
theorem ck_4_8 : okM (yX7_loseMachine, cX7_loseMachine, 2, none, 7, 0, 1, kX7_loseMachine) (3136, 1039, 3134, 3135) = true := by decide +kernel
theorem ck_4_9 : okM (yX7_endBy, cX7_endBy, 2, (some .int), 7, 0, 1, kX7_endBy) (4283, 1039, 4281, 4282) = true := by decide +kernel
theorem ck_4_10 : okM (yX7_dayCount, cX7_dayCount, 2, (some .int), 7, 0, 1, kX7_dayCount) (4279, 1039, 4277, 4278) = true := by decide +kernel
end
section
theorem cq_4_11_0 : okC 7 yX7_knownOfDay cX7_knownOfDay 0 ((kX7_knownOfDay.drop 0).take 10) = true := by decide +kernel
theorem cq_4_11_10 : okC 7 yX7_knownOfDay cX7_knownOfDay 160 ((kX7_knownOfDay.drop 10).take 10) = true := by decide +kernel
theorem cc_4_11 : okC 7 yX7_knownOfDay cX7_knownOfDay 0 (kX7_knownOfDay.drop 0) = true := (okC_split cq_4_11_0 (okC_last cq_4_11_10 (by decide +kernel)))
theorem ck_4_11 : okM (yX7_knownOfDay, cX7_knownOfDay, 11, (some .int), 7, 0, 2, kX7_knownOfDay) (4292, 1039, 4290, 4291) = true := okM_of (k := kX7_knownOfDay) cc_4_11 (by decide +kernel)
theorem ck_4_12 : okM (yX7_daysWorked, cX7_daysWorked, 8, (some .int), 7, 0, 2, kX7_daysWorked) (4287, 1039, 4285, 4286) = true := by decide +kernel
theorem ck_4_13 : okM (yX7_hoursWorked, cX7_hoursWorked, 4, (some .int), 7, 0, 1, kX7_hoursWorked) (5288, 1039, 5286, 5287) = true := by decide +kernel
theorem ck_4_14 : okM (yX7_mayTell, cX7_mayTell, 2, (some .boolean), 7, 0, 1, kX7_mayTell) (6165, 1039, 6164, 40) = true := by decide +kernel
theorem ck_4_15 : okM (yX7_tell, cX7_tell, 4, (some .int), 7, 0, 3, kX7_tell) (6161, 1039, 6159, 6160) = true := by decide +kernel
theorem ck_5_0 : okM (yX7_newMarks, cX7_newMarks, 1, (some .int), 7, 0, 0, kX7_newMarks) (5308, 1039, 5306, 5307) = true := by decide +kernel
theorem ck_5_1 : okM (yX7_harmCoins, cX7_harmCoins, 4, (some .int), 7, 0, 0, kX7_harmCoins) (5304, 1039, 5302, 5303) = true := by decide +kernel
theorem ck_5_2 : okM (yX7_litresMissing, cX7_litresMissing, 1, (some .int), 7, 0, 0, kX7_litresMissing) (5299, 1039, 5297, 5298) = true := by decide +kernel
theorem ck_5_3 : okM (yX8_init, cX8_init, 1, none, 8, 0, 0, kX8_init) (1057, 1026, 1056, 0) = true := by decide +kernel
theorem ck_5_4 : okM (yX8_found, cX8_found, 3, (some .int), 8, 0, 1, kX8_found) (2073, 1026, 2071, 2072) = true := by decide +kernel
theorem ck_5_5 : okM (yX8_has, cX8_has, 2, (some .boolean), 8, 0, 1, kX8_has) (2081, 1026, 2079, 2080) = true := by decide +kernel
theorem ck_5_6 : okM (yX8_hasYard, cX8_hasYard, 2, (some .boolean), 8, 0, 1, kX8_hasYard) (2181, 1026, 2179, 2180) = true := by decide +kernel
theorem ck_5_7 : okM (yX8_lay, cX8_lay, 6, (some .int), 8, 0, 3, kX8_lay) (2088, 1026, 2086, 2087) = true := by decide +kernel
theorem ck_5_8 : okM (yX8_shorten, cX8_shorten, 7, none, 8, 0, 5, kX8_shorten) (2093, 1026, 2092, 0) = true := by decide +kernel
theorem ck_5_9 : okM (yX8_way, cX8_way, 3, (some .int), 8, 0, 2, kX8_way) (2101, 1026, 2099, 2100) = true := by decide +kernel
theorem ck_5_10 : okM (yX8_rideHours, cX8_rideHours, 4, (some .int), 8, 0, 2, kX8_rideHours) (4114, 1026, 4112, 4113) = true := by decide +kernel
theorem ck_5_11 : okM (yX9_init, cX9_init, 1, none, 9, 0, 0, kX9_init) (1168, 1030, 1167, 0) = true := by decide +kernel
theorem ck_5_12 : okM (yX9_hasRoom, cX9_hasRoom, 1, (some .boolean), 9, 0, 0, kX9_hasRoom) (4320, 1030, 4318, 4319) = true := by decide +kernel
theorem ck_5_13 : okM (yX9_append, cX9_append, 3, none, 9, 0, 1, kX9_append) (4324, 1030, 4322, 4323) = true := by decide +kernel
theorem ck_5_14 : okM (yX9_compile, cX9_compile, 3, (some .int), 9, 0, 0, kX9_compile) (5124, 1030, 5122, 5123) = true := by decide +kernel
theorem ck_5_15 : okM (yX9_copyOfCode, cX9_copyOfCode, 1, (some (.array .int)), 9, 0, 0, kX9_copyOfCode) (5244, 1030, 5242, 5243) = true := by decide +kernel
theorem cq_6_0_0 : okC 9 yX9_cut cX9_cut 0 ((kX9_cut.drop 0).take 10) = true := by decide +kernel
theorem cq_6_0_10 : okC 9 yX9_cut cX9_cut 160 ((kX9_cut.drop 10).take 10) = true := by decide +kernel
theorem cc_6_0 : okC 9 yX9_cut cX9_cut 0 (kX9_cut.drop 0) = true := (okC_split cq_6_0_0 (okC_last cq_6_0_10 (by decide +kernel)))
theorem ck_6_0 : okM (yX9_cut, cX9_cut, 4, none, 9, 0, 0, kX9_cut) (5128, 1030, 5127, 21) = true := okM_of (k := kX9_cut) cc_6_0 (by decide +kernel)
theorem ck_6_1 : okM (yX9_isLetter, cX9_isLetter, 2, (some .boolean), 9, 0, 1, kX9_isLetter) (5132, 1030, 5131, 22) = true := by decide +kernel
theorem ck_6_2 : okM (yX9_isDigit, cX9_isDigit, 2, (some .boolean), 9, 0, 1, kX9_isDigit) (5193, 1030, 5192, 25) = true := by decide +kernel
theorem ck_6_3 : okM (yX9_addToken, cX9_addToken, 4, none, 9, 0, 3, kX9_addToken) (5189, 1030, 5188, 24) = true := by decide +kernel
theorem ck_6_4 : okM (yX9_numberOf, cX9_numberOf, 5, (some .int), 9, 0, 2, kX9_numberOf) (5197, 1030, 5196, 26) = true := by decide +kernel
theorem ck_6_5 : okM (yX9_wordSort, cX9_wordSort, 8, (some .int), 9, 0, 2, kX9_wordSort) (5136, 1030, 5135, 23) = true := by decide +kernel
theorem ck_6_6 : okM (yX9_sort, cX9_sort, 1, (some .int), 9, 0, 0, kX9_sort) (5210, 1030, 5209, 29) = true := by decide +kernel
theorem ck_6_7 : okM (yX9_take, cX9_take, 2, (some .boolean), 9, 0, 1, kX9_take) (5206, 1030, 5205, 28) = true := by decide +kernel
theorem ck_6_8 : okM (yX9_need, cX9_need, 2, none, 9, 0, 1, kX9_need) (5222, 1030, 5221, 32) = true := by decide +kernel
theorem ck_6_9 : okM (yX9_fail, cX9_fail, 1, none, 9, 0, 0, kX9_fail) (5218, 1030, 5217, 31) = true := by decide +kernel
theorem ck_6_10 : okM (yX9_number, cX9_number, 1, (some .int), 9, 0, 0, kX9_number) (5214, 1030, 5213, 30) = true := by decide +kernel
theorem ck_6_11 : okM (yX9_emit, cX9_emit, 2, none, 9, 0, 1, kX9_emit) (5226, 1030, 5225, 33) = true := by decide +kernel
end
section
theorem ck_6_12 : okM (yX9_step, cX9_step, 4, none, 9, 0, 0, kX9_step) (5201, 1030, 5200, 27) = true := by decide +kernel
theorem ck_6_13 : okM (yX9_sum, cX9_sum, 4, none, 9, 0, 1, kX9_sum) (5230, 1030, 5229, 34) = true := by decide +kernel
theorem ck_6_14 : okM (yX9_product, cX9_product, 4, none, 9, 0, 1, kX9_product) (5234, 1030, 5233, 35) = true := by decide +kernel
theorem ck_6_15 : okM (yX9_operand, cX9_operand, 4, none, 9, 0, 1, kX9_operand) (5238, 1030, 5237, 36) = true := by decide +kernel
theorem ck_7_0 : okM (yX10_init, cX10_init, 5, none, 10, 0, 4, kX10_init) (5248, 1044, 5247, 0) = true := by decide +kernel
theorem ck_7_1 : okM (yX10_inForce, cX10_inForce, 4, (some .boolean), 10, 0, 3, kX10_inForce) (5358, 1044, 5356, 5357) = true := by decide +kernel
theorem ck_7_2 : okM (yX10_give, cX10_give, 7, (some .int), 10, 0, 2, kX10_give) (5336, 1044, 5334, 5335) = true := by decide +kernel
theorem ck_7_3 : okM (yX10_run, cX10_run, 8, (some .int), 10, 0, 4, kX10_run) (5341, 1044, 5340, 38) = true := by decide +kernel
theorem ck_7_4 : okM (yX10_work, cX10_work, 3, (some .int), 10, 1, 3, kX10_work) (5344, 1044, 5343, 0) = true := by decide +kernel
theorem ck_7_5 : okM (yX11_init, cX11_init, 1, none, 11, 0, 0, kX11_init) (1049, 1025, 1048, 0) = true := by decide +kernel
theorem ck_7_6 : okM (yX11_town, cX11_town, 2, (some .int), 11, 0, 1, kX11_town) (2066, 1025, 2064, 2065) = true := by decide +kernel
theorem ck_7_7 : okM (yX11_road, cX11_road, 4, (some .int), 11, 0, 3, kX11_road) (2077, 1025, 2075, 2076) = true := by decide +kernel
theorem ck_7_8 : okM (yX11_far, cX11_far, 4, (some .int), 11, 0, 2, kX11_far) (2097, 1025, 2095, 2096) = true := by decide +kernel
theorem ck_7_9 : okM (yX11_hours, cX11_hours, 4, (some .int), 11, 0, 1, kX11_hours) (2105, 1025, 2103, 2104) = true := by decide +kernel
theorem ck_7_10 : okM (yX11_rain, cX11_rain, 4, (some .int), 11, 0, 2, kX11_rain) (2117, 1025, 2115, 2116) = true := by decide +kernel
theorem ck_7_11 : okM (yX11_type, cX11_type, 6, (some .int), 11, 0, 4, kX11_type) (2121, 1025, 2119, 2120) = true := by decide +kernel
theorem ck_7_12 : okM (yX11_instead, cX11_instead, 6, (some .int), 11, 0, 3, kX11_instead) (2165, 1025, 2163, 2164) = true := by decide +kernel
theorem ck_7_13 : okM (yX11_mark, cX11_mark, 6, (some .int), 11, 0, 3, kX11_mark) (2173, 1025, 2171, 2172) = true := by decide +kernel
theorem ck_7_14 : okM (yX11_machine, cX11_machine, 5, (some .int), 11, 0, 3, kX11_machine) (2177, 1025, 2175, 2176) = true := by decide +kernel
theorem ck_7_15 : okM (yX11_link, cX11_link, 5, (some .int), 11, 0, 3, kX11_link) (3074, 1025, 3072, 3073) = true := by decide +kernel
theorem ck_8_0 : okM (yX11_ofMachine, cX11_ofMachine, 4, (some .int), 11, 0, 2, kX11_ofMachine) (3082, 1025, 3080, 3081) = true := by decide +kernel
theorem ck_8_1 : okM (yX11_look, cX11_look, 4, (some .int), 11, 0, 2, kX11_look) (3108, 1025, 3106, 3107) = true := by decide +kernel
theorem ck_8_2 : okM (yX11_broken, cX11_broken, 4, (some .int), 11, 0, 2, kX11_broken) (3120, 1025, 3118, 3119) = true := by decide +kernel
theorem ck_8_3 : okM (yX11_gone, cX11_gone, 4, (some .int), 11, 0, 2, kX11_gone) (3132, 1025, 3130, 3131) = true := by decide +kernel
theorem ck_8_4 : okM (yX11_read, cX11_read, 5, (some .int), 11, 0, 2, kX11_read) (3152, 1025, 3150, 3151) = true := by decide +kernel
theorem ck_8_5 : okM (yX11_track, cX11_track, 3, (some .int), 11, 0, 2, kX11_track) (3188, 1025, 3186, 3187) = true := by decide +kernel
end
section
theorem ck_8_6 : okM (yX11_theft, cX11_theft, 4, (some .int), 11, 0, 2, kX11_theft) (3196, 1025, 3194, 3195) = true := by decide +kernel
theorem ck_8_7 : okM (yX11_customer, cX11_customer, 3, (some .int), 11, 0, 2, kX11_customer) (3216, 1025, 3214, 3215) = true := by decide +kernel
theorem ck_8_8 : okM (yX11_order, cX11_order, 9, (some .int), 11, 0, 5, kX11_order) (3220, 1025, 3218, 3219) = true := by decide +kernel
theorem ck_8_9 : okM (yX11_why, cX11_why, 5, (some .int), 11, 0, 2, kX11_why) (3306, 1025, 3304, 3305) = true := by decide +kernel
theorem ck_8_10 : okM (yX11_list, cX11_list, 3, (some .int), 11, 0, 1, kX11_list) (4119, 1025, 4117, 4118) = true := by decide +kernel
theorem ck_8_11 : okM (yX11_best, cX11_best, 3, (some .int), 11, 0, 0, kX11_best) (4131, 1025, 4129, 4130) = true := by decide +kernel
theorem ck_8_12 : okM (yX11_miles, cX11_miles, 1, (some .int), 11, 0, 0, kX11_miles) (4174, 1025, 4172, 4173) = true := by decide +kernel
theorem ck_8_13 : okM (yX11_round, cX11_round, 1, (some .int), 11, 0, 0, kX11_round) (4178, 1025, 4176, 4177) = true := by decide +kernel
theorem ck_8_14 : okM (yX11_stop, cX11_stop, 3, (some .int), 11, 0, 1, kX11_stop) (4222, 1025, 4220, 4221) = true := by decide +kernel
theorem ck_8_15 : okM (yX11_stopped, cX11_stopped, 3, (some .int), 11, 0, 1, kX11_stopped) (4234, 1025, 4232, 4233) = true := by decide +kernel
theorem ck_9_0 : okM (yX11_send, cX11_send, 5, (some .int), 11, 0, 1, kX11_send) (4242, 1025, 4240, 4241) = true := by decide +kernel
theorem ck_9_1 : okM (yX11_fetch, cX11_fetch, 6, (some .int), 11, 0, 2, kX11_fetch) (4253, 1025, 4251, 4252) = true := by decide +kernel
theorem ck_9_2 : okM (yX11_off, cX11_off, 3, (some .int), 11, 0, 1, kX11_off) (4259, 1025, 4257, 4258) = true := by decide +kernel
theorem ck_9_3 : okM (yX11_ofOrder, cX11_ofOrder, 4, (some .int), 11, 0, 2, kX11_ofOrder) (4263, 1025, 4261, 4262) = true := by decide +kernel
theorem ck_9_4 : okM (yX11_said, cX11_said, 5, (some .int), 11, 0, 3, kX11_said) (4267, 1025, 4265, 4266) = true := by decide +kernel
theorem ck_9_5 : okM (yX11_days, cX11_days, 4, (some .int), 11, 0, 2, kX11_days) (4271, 1025, 4269, 4270) = true := by decide +kernel
theorem ck_9_6 : okM (yX11_dayOf, cX11_dayOf, 4, (some .int), 11, 0, 2, kX11_dayOf) (4311, 1025, 4309, 4310) = true := by decide +kernel
theorem ck_9_7 : okM (yX11_feed, cX11_feed, 6, (some .int), 11, 0, 5, kX11_feed) (4316, 1025, 4314, 4315) = true := by decide +kernel
theorem ck_9_8 : okM (yX11_end, cX11_end, 2, (some .int), 11, 0, 1, kX11_end) (4328, 1025, 4326, 4327) = true := by decide +kernel
theorem ck_9_9 : okM (yX11_terms, cX11_terms, 4, (some .int), 11, 0, 2, kX11_terms) (4332, 1025, 4330, 4331) = true := by decide +kernel
theorem ck_9_10 : okM (yX11_gives, cX11_gives, 5, (some .int), 11, 0, 3, kX11_gives) (5272, 1025, 5270, 5271) = true := by decide +kernel
theorem cq_9_11_0 : okC 11 yX11_bill cX11_bill 0 ((kX11_bill.drop 0).take 10) = true := by decide +kernel
theorem cq_9_11_10 : okC 11 yX11_bill cX11_bill 160 ((kX11_bill.drop 10).take 10) = true := by decide +kernel
theorem cc_9_11 : okC 11 yX11_bill cX11_bill 0 (kX11_bill.drop 0) = true := (okC_split cq_9_11_0 (okC_last cq_9_11_10 (by decide +kernel)))
theorem ck_9_11 : okM (yX11_bill, cX11_bill, 6, (some .int), 11, 0, 3, kX11_bill) (5350, 1025, 5348, 5349) = true := okM_of (k := kX11_bill) cc_9_11 (by decide +kernel)
theorem ck_9_12 : okM (yX11_next, cX11_next, 6, (some .int), 11, 0, 2, kX11_next) (6147, 1025, 6145, 6146) = true := by decide +kernel
theorem ck_9_13 : okM (yX11_looked, cX11_looked, 5, (some .int), 11, 0, 3, kX11_looked) (6156, 1025, 6154, 6155) = true := by decide +kernel
theorem ck_9_14 : okM (yX11_fuel, cX11_fuel, 5, (some .int), 11, 0, 3, kX11_fuel) (6169, 1025, 6167, 6168) = true := by decide +kernel
theorem ck_9_15 : okM (yX11_harm, cX11_harm, 4, (some .int), 11, 0, 2, kX11_harm) (6173, 1025, 6171, 6172) = true := by decide +kernel
end
section
theorem ck_10_0 : okM (yX11_share, cX11_share, 5, (some .int), 11, 0, 2, kX11_share) (6180, 1025, 6178, 6179) = true := by decide +kernel
theorem ck_10_1 : okM (yX11_chain, cX11_chain, 5, (some .int), 11, 0, 3, kX11_chain) (6188, 1025, 6186, 6187) = true := by decide +kernel
theorem ck_10_2 : okM (yX11_rank, cX11_rank, 4, (some .int), 11, 0, 2, kX11_rank) (6196, 1025, 6194, 6195) = true := by decide +kernel
theorem ck_10_3 : okM (yX11_idle, cX11_idle, 5, (some .int), 11, 0, 3, kX11_idle) (6200, 1025, 6198, 6199) = true := by decide +kernel
theorem ck_10_4 : okM (yX11_move, cX11_move, 9, (some .int), 11, 0, 1, kX11_move) (6212, 1025, 6210, 6211) = true := by decide +kernel
theorem ck_10_5 : okM (yX11_count, cX11_count, 2, (some .int), 11, 0, 1, kX11_count) (6216, 1025, 6214, 6215) = true := by decide +kernel
theorem ck_10_6 : okM (yX11_within, cX11_within, 3, (some .boolean), 11, 1, 3, kX11_within) (2084, 1025, 2083, 0) = true := by decide +kernel
theorem ck_10_7 : okM (yX11_isFlag, cX11_isFlag, 1, (some .boolean), 11, 1, 1, kX11_isFlag) (2069, 1025, 2068, 0) = true := by decide +kernel
theorem ck_10_8 : okM (yX11_kindOf, cX11_kindOf, 2, (some (.object "HireYard$Kind")), 11, 0, 1, kX11_kindOf) (2169, 1025, 2168, 2) = true := by decide +kernel
theorem ck_10_9 : okM (yX11_machineOf, cX11_machineOf, 2, (some (.object "HireYard$Machine")), 11, 0, 1, kX11_machineOf) (2109, 1025, 2108, 1) = true := by decide +kernel
theorem ck_10_10 : okM (yX11_orderOf, cX11_orderOf, 2, (some (.object "HireYard$Order")), 11, 0, 1, kX11_orderOf) (3310, 1025, 3309, 8) = true := by decide +kernel
theorem ck_10_11 : okM (yX11_isCustomer, cX11_isCustomer, 2, (some .boolean), 11, 0, 1, kX11_isCustomer) (3224, 1025, 3223, 7) = true := by decide +kernel
theorem ck_10_12 : okM (yX11_begunOrder, cX11_begunOrder, 3, (some (.object "HireYard$Order")), 11, 0, 1, kX11_begunOrder) (4275, 1025, 4274, 20) = true := by decide +kernel
theorem ck_10_13 : okM (yX11_learn, cX11_learn, 2, none, 11, 0, 1, kX11_learn) (5280, 1025, 5279, 37) = true := by decide +kernel
theorem ck_10_14 : okM (yX11_priceOf, cX11_priceOf, 3, (some .int), 11, 0, 2, kX11_priceOf) (6151, 1025, 6150, 39) = true := by decide +kernel
theorem ck_10_15 : okM (yX11_idleIn, cX11_idleIn, 6, (some .int), 11, 0, 2, kX11_idleIn) (6204, 1025, 6203, 41) = true := by decide +kernel
theorem ck_11_0 : okM (yX11_wantedIn, cX11_wantedIn, 6, (some .int), 11, 0, 2, kX11_wantedIn) (6208, 1025, 6207, 42) = true := by decide +kernel
theorem ck_11_1 : okM (yX11_machinesThatAre, cX11_machinesThatAre, 5, (some .int), 11, 0, 1, kX11_machinesThatAre) (6220, 1025, 6219, 43) = true := by decide +kernel
theorem ck_11_2 : okM (yX11_ordersThatAre, cX11_ordersThatAre, 5, (some .int), 11, 0, 1, kX11_ordersThatAre) (6224, 1025, 6223, 44) = true := by decide +kernel
end
section
theorem cq_11_3_0 : okC 12 yX12_init cX12_init 0 ((kX12_init.drop 0).take 10) = true := by decide +kernel
theorem cq_11_3_10 : okC 12 yX12_init cX12_init 160 ((kX12_init.drop 10).take 10) = true := by decide +kernel
theorem cq_11_3_20 : okC 12 yX12_init cX12_init 320 ((kX12_init.drop 20).take 10) = true := by decide +kernel
theorem cq_11_3_30 : okC 12 yX12_init cX12_init 480 ((kX12_init.drop 30).take 10) = true := by decide +kernel
theorem cc_11_3 : okC 12 yX12_init cX12_init 0 (kX12_init.drop 0) = true := (okC_split cq_11_3_0 (okC_split cq_11_3_10 (okC_split cq_11_3_20 (okC_last cq_11_3_30 (by decide +kernel)))))
theorem ck_11_3 : okM (yX12_init, cX12_init, 1, none, 12, 0, 0, kX12_init) (6229, 1032, 6228, 0) = true := okM_of (k := kX12_init) cc_11_3 (by decide +kernel)
end
section
theorem ck_11_4 : okM (yX12_in, cX12_in, 3, (some .boolean), 12, 1, 3, kX12_in) (7312, 1032, 7311, 0) = true := by decide +kernel
theorem ck_11_5 : okM (yX12_isDay, cX12_isDay, 1, (some .boolean), 12, 1, 1, kX12_isDay) (7340, 1032, 7339, 0) = true := by decide +kernel
theorem ck_11_6 : okM (yX12_today, cX12_today, 1, (some .int), 12, 0, 0, kX12_today) (9224, 1032, 9223, 89) = true := by decide +kernel
theorem ck_11_7 : okM (yX12_isTown, cX12_isTown, 2, (some .boolean), 12, 0, 1, kX12_isTown) (7329, 1032, 7328, 47) = true := by decide +kernel
theorem ck_11_8 : okM (yX12_farOf, cX12_farOf, 3, (some .int), 12, 0, 2, kX12_farOf) (7321, 1032, 7320, 46) = true := by decide +kernel
theorem cq_11_9_0 : okC 12 yX12_findFars cX12_findFars 0 ((kX12_findFars.drop 0).take 10) = true := by decide +kernel
theorem cq_11_9_10 : okC 12 yX12_findFars cX12_findFars 160 ((kX12_findFars.drop 10).take 10) = true := by decide +kernel
theorem cc_11_9 : okC 12 yX12_findFars cX12_findFars 0 (kX12_findFars.drop 0) = true := (okC_split cq_11_9_0 (okC_last cq_11_9_10 (by decide +kernel)))
theorem ck_11_9 : okM (yX12_findFars, cX12_findFars, 5, none, 12, 0, 0, kX12_findFars) (7316, 1032, 7315, 45) = true := okM_of (k := kX12_findFars) cc_11_9 (by decide +kernel)
theorem ck_11_10 : okM (yX12_town, cX12_town, 2, (some .int), 12, 0, 1, kX12_town) (7309, 1032, 7307, 7308) = true := by decide +kernel
theorem ck_11_11 : okM (yX12_road, cX12_road, 6, (some .int), 12, 0, 3, kX12_road) (7325, 1032, 7323, 7324) = true := by decide +kernel
theorem ck_11_12 : okM (yX12_far, cX12_far, 3, (some .int), 12, 0, 2, kX12_far) (7333, 1032, 7331, 7332) = true := by decide +kernel
theorem ck_11_13 : okM (yX12_rain, cX12_rain, 4, (some .int), 12, 0, 2, kX12_rain) (7337, 1032, 7335, 7336) = true := by decide +kernel
theorem ck_11_14 : okM (yX12_isType, cX12_isType, 2, (some .boolean), 12, 0, 1, kX12_isType) (7353, 1032, 7352, 48) = true := by decide +kernel
theorem ck_11_15 : okM (yX12_isMachine, cX12_isMachine, 2, (some .boolean), 12, 0, 1, kX12_isMachine) (7373, 1032, 7372, 50) = true := by decide +kernel
theorem ck_12_0 : okM (yX12_type, cX12_type, 5, (some .int), 12, 0, 4, kX12_type) (7344, 1032, 7342, 7343) = true := by decide +kernel
theorem ck_12_1 : okM (yX12_instead, cX12_instead, 5, (some .int), 12, 0, 3, kX12_instead) (7349, 1032, 7347, 7348) = true := by decide +kernel
theorem ck_12_2 : okM (yX12_mark, cX12_mark, 5, (some .int), 12, 0, 3, kX12_mark) (7357, 1032, 7355, 7356) = true := by decide +kernel
theorem ck_12_3 : okM (yX12_addReading, cX12_addReading, 3, none, 12, 0, 2, kX12_addReading) (7365, 1032, 7364, 49) = true := by decide +kernel
theorem ck_12_4 : okM (yX12_readBy, cX12_readBy, 4, (some .int), 12, 0, 2, kX12_readBy) (8198, 1032, 8197, 55) = true := by decide +kernel
theorem ck_12_5 : okM (yX12_readFrom, cX12_readFrom, 4, (some .int), 12, 0, 2, kX12_readFrom) (8353, 1032, 8352, 75) = true := by decide +kernel
theorem ck_12_6 : okM (yX12_machine, cX12_machine, 5, (some .int), 12, 0, 3, kX12_machine) (7361, 1032, 7359, 7360) = true := by decide +kernel
theorem ck_12_7 : okM (yX12_link, cX12_link, 4, (some .int), 12, 0, 3, kX12_link) (7369, 1032, 7367, 7368) = true := by decide +kernel
theorem ck_12_8 : okM (yX12_sinceLook, cX12_sinceLook, 2, (some .int), 12, 0, 1, kX12_sinceLook) (7382, 1032, 7381, 51) = true := by decide +kernel
theorem ck_12_9 : okM (yX12_isDue, cX12_isDue, 2, (some .boolean), 12, 0, 1, kX12_isDue) (8242, 1032, 8241, 60) = true := by decide +kernel
theorem ck_12_10 : okM (yX12_lapses, cX12_lapses, 3, (some .boolean), 12, 0, 2, kX12_lapses) (8246, 1032, 8245, 61) = true := by decide +kernel
theorem cq_12_11_0 : okC 12 yX12_ofMachine cX12_ofMachine 0 ((kX12_ofMachine.drop 0).take 10) = true := by decide +kernel
theorem cq_12_11_10 : okC 12 yX12_ofMachine cX12_ofMachine 160 ((kX12_ofMachine.drop 10).take 10) = true := by decide +kernel
theorem cc_12_11 : okC 12 yX12_ofMachine cX12_ofMachine 0 (kX12_ofMachine.drop 0) = true := (okC_split cq_12_11_0 (okC_last cq_12_11_10 (by decide +kernel)))
theorem ck_12_11 : okM (yX12_ofMachine, cX12_ofMachine, 4, (some .int), 12, 0, 2, kX12_ofMachine) (7377, 1032, 7375, 7376) = true := okM_of (k := kX12_ofMachine) cc_12_11 (by decide +kernel)
theorem ck_12_12 : okM (yX12_isFree, cX12_isFree, 2, (some .boolean), 12, 0, 1, kX12_isFree) (7390, 1032, 7389, 52) = true := by decide +kernel
theorem ck_12_13 : okM (yX12_look, cX12_look, 3, (some .int), 12, 0, 2, kX12_look) (7386, 1032, 7384, 7385) = true := by decide +kernel
theorem ck_12_14 : okM (yX12_endSpan, cX12_endSpan, 3, none, 12, 0, 1, kX12_endSpan) (7398, 1032, 7397, 53) = true := by decide +kernel
end
section
theorem ck_12_15 : okM (yX12_broken, cX12_broken, 3, (some .int), 12, 0, 2, kX12_broken) (7394, 1032, 7392, 7393) = true := by decide +kernel
theorem ck_13_0 : okM (yX12_gone, cX12_gone, 4, (some .int), 12, 0, 2, kX12_gone) (7402, 1032, 7400, 7401) = true := by decide +kernel
theorem ck_13_1 : okM (yX12_read, cX12_read, 4, (some .int), 12, 0, 2, kX12_read) (8194, 1032, 8192, 8193) = true := by decide +kernel
theorem ck_13_2 : okM (yX12_track, cX12_track, 3, (some .int), 12, 0, 2, kX12_track) (8202, 1032, 8200, 8201) = true := by decide +kernel
theorem cq_13_3_0 : okC 12 yX12_theft cX12_theft 0 ((kX12_theft.drop 0).take 10) = true := by decide +kernel
theorem cq_13_3_10 : okC 12 yX12_theft cX12_theft 160 ((kX12_theft.drop 10).take 10) = true := by decide +kernel
theorem cc_13_3 : okC 12 yX12_theft cX12_theft 0 (kX12_theft.drop 0) = true := (okC_split cq_13_3_0 (okC_last cq_13_3_10 (by decide +kernel)))
theorem ck_13_3 : okM (yX12_theft, cX12_theft, 5, (some .int), 12, 0, 2, kX12_theft) (8206, 1032, 8204, 8205) = true := okM_of (k := kX12_theft) cc_13_3 (by decide +kernel)
theorem ck_13_4 : okM (yX12_hours, cX12_hours, 3, (some .int), 12, 0, 1, kX12_hours) (8210, 1032, 8208, 8209) = true := by decide +kernel
theorem ck_13_5 : okM (yX12_arrive, cX12_arrive, 2, none, 12, 0, 1, kX12_arrive) (8214, 1032, 8213, 56) = true := by decide +kernel
theorem ck_13_6 : okM (yX12_load, cX12_load, 5, none, 12, 0, 3, kX12_load) (8313, 1032, 8312, 70) = true := by decide +kernel
theorem ck_13_7 : okM (yX12_isCustomer, cX12_isCustomer, 2, (some .boolean), 12, 0, 1, kX12_isCustomer) (8226, 1032, 8225, 57) = true := by decide +kernel
theorem ck_13_8 : okM (yX12_isOrder, cX12_isOrder, 2, (some .boolean), 12, 0, 1, kX12_isOrder) (8234, 1032, 8233, 58) = true := by decide +kernel
theorem ck_13_9 : okM (yX12_customer, cX12_customer, 3, (some .int), 12, 0, 2, kX12_customer) (8218, 1032, 8216, 8217) = true := by decide +kernel
theorem cq_13_10_0 : okC 12 yX12_order cX12_order 0 ((kX12_order.drop 0).take 10) = true := by decide +kernel
theorem cq_13_10_10 : okC 12 yX12_order cX12_order 160 ((kX12_order.drop 10).take 10) = true := by decide +kernel
theorem cc_13_10 : okC 12 yX12_order cX12_order 0 (kX12_order.drop 0) = true := (okC_split cq_13_10_0 (okC_last cq_13_10_10 (by decide +kernel)))
theorem ck_13_10 : okM (yX12_order, cX12_order, 8, (some .int), 12, 0, 5, kX12_order) (8222, 1032, 8220, 8221) = true := okM_of (k := kX12_order) cc_13_10 (by decide +kernel)
theorem ck_13_11 : okM (yX12_townOfOrder, cX12_townOfOrder, 2, (some .int), 12, 0, 1, kX12_townOfOrder) (8250, 1032, 8249, 62) = true := by decide +kernel
theorem cq_13_12_0 : okC 12 yX12_whyNot cX12_whyNot 0 ((kX12_whyNot.drop 0).take 10) = true := by decide +kernel
theorem cq_13_12_10 : okC 12 yX12_whyNot cX12_whyNot 160 ((kX12_whyNot.drop 10).take 10) = true := by decide +kernel
theorem cc_13_12 : okC 12 yX12_whyNot cX12_whyNot 0 (kX12_whyNot.drop 0) = true := (okC_split cq_13_12_0 (okC_last cq_13_12_10 (by decide +kernel)))
theorem ck_13_12 : okM (yX12_whyNot, cX12_whyNot, 5, (some .int), 12, 0, 2, kX12_whyNot) (8238, 1032, 8237, 59) = true := okM_of (k := kX12_whyNot) cc_13_12 (by decide +kernel)
theorem ck_13_13 : okM (yX12_why, cX12_why, 3, (some .int), 12, 0, 2, kX12_why) (8230, 1032, 8228, 8229) = true := by decide +kernel
theorem ck_13_14 : okM (yX12_list, cX12_list, 3, (some .int), 12, 0, 1, kX12_list) (8254, 1032, 8252, 8253) = true := by decide +kernel
end
section
theorem ck_13_15 : okM (yX12_mayHave, cX12_mayHave, 3, (some .boolean), 12, 0, 2, kX12_mayHave) (8277, 1032, 8276, 66) = true := by decide +kernel
theorem ck_14_0 : okM (yX12_findWorths, cX12_findWorths, 3, none, 12, 0, 0, kX12_findWorths) (8262, 1032, 8261, 63) = true := by decide +kernel
theorem ck_14_1 : okM (yX12_worthBy, cX12_worthBy, 3, (some .long), 12, 0, 2, kX12_worthBy) (8266, 1032, 8265, 64) = true := by decide +kernel
theorem cq_14_2_0 : okC 12 yX12_most cX12_most 0 ((kX12_most.drop 0).take 10) = true := by decide +kernel
theorem cq_14_2_10 : okC 12 yX12_most cX12_most 160 ((kX12_most.drop 10).take 10) = true := by decide +kernel
theorem cc_14_2 : okC 12 yX12_most cX12_most 0 (kX12_most.drop 0) = true := (okC_split cq_14_2_0 (okC_last cq_14_2_10 (by decide +kernel)))
theorem ck_14_2 : okM (yX12_most, cX12_most, 8, (some .long), 12, 0, 1, kX12_most) (8273, 1032, 8272, 65) = true := okM_of (k := kX12_most) cc_14_2 (by decide +kernel)
theorem cq_14_3_0 : okC 12 yX12_best cX12_best 0 ((kX12_best.drop 0).take 10) = true := by decide +kernel
theorem cq_14_3_10 : okC 12 yX12_best cX12_best 160 ((kX12_best.drop 10).take 10) = true := by decide +kernel
theorem cc_14_3 : okC 12 yX12_best cX12_best 0 (kX12_best.drop 0) = true := (okC_split cq_14_3_0 (okC_last cq_14_3_10 (by decide +kernel)))
theorem ck_14_3 : okM (yX12_best, cX12_best, 6, (some .int), 12, 0, 0, kX12_best) (8258, 1032, 8256, 8257) = true := okM_of (k := kX12_best) cc_14_3 (by decide +kernel)
theorem ck_14_4 : okM (yX12_miles, cX12_miles, 1, (some .int), 12, 0, 0, kX12_miles) (8281, 1032, 8279, 8280) = true := by decide +kernel
theorem ck_14_5 : okM (yX12_isPromised, cX12_isPromised, 2, (some .boolean), 12, 0, 1, kX12_isPromised) (8289, 1032, 8288, 67) = true := by decide +kernel
theorem ck_14_6 : okM (yX12_stop, cX12_stop, 3, (some .int), 12, 0, 1, kX12_stop) (8285, 1032, 8283, 8284) = true := by decide +kernel
theorem ck_14_7 : okM (yX12_milesOfRow, cX12_milesOfRow, 6, (some .int), 12, 0, 1, kX12_milesOfRow) (8301, 1032, 8300, 69) = true := by decide +kernel
theorem ck_14_8 : okM (yX12_isUsed, cX12_isUsed, 3, (some .boolean), 12, 0, 1, kX12_isUsed) (8297, 1032, 8296, 68) = true := by decide +kernel
end
section
theorem cq_14_9_0 : okC 12 yX12_round cX12_round 0 ((kX12_round.drop 0).take 10) = true := by decide +kernel
theorem cq_14_9_10 : okC 12 yX12_round cX12_round 160 ((kX12_round.drop 10).take 10) = true := by decide +kernel
theorem cc_14_9 : okC 12 yX12_round cX12_round 0 (kX12_round.drop 0) = true := (okC_split cq_14_9_0 (okC_last cq_14_9_10 (by decide +kernel)))
theorem ck_14_9 : okM (yX12_round, cX12_round, 7, (some .int), 12, 0, 0, kX12_round) (8293, 1032, 8291, 8292) = true := okM_of (k := kX12_round) cc_14_9 (by decide +kernel)
theorem ck_14_10 : okM (yX12_stopped, cX12_stopped, 2, (some .int), 12, 0, 1, kX12_stopped) (8305, 1032, 8303, 8304) = true := by decide +kernel
theorem ck_14_11 : okM (yX12_send, cX12_send, 3, (some .int), 12, 0, 1, kX12_send) (8309, 1032, 8307, 8308) = true := by decide +kernel
theorem ck_14_12 : okM (yX12_hasBegun, cX12_hasBegun, 2, (some .boolean), 12, 0, 1, kX12_hasBegun) (7406, 1032, 7405, 54) = true := by decide +kernel
theorem ck_14_13 : okM (yX12_fetch, cX12_fetch, 4, (some .int), 12, 0, 2, kX12_fetch) (8317, 1032, 8315, 8316) = true := by decide +kernel
theorem ck_14_14 : okM (yX12_off, cX12_off, 2, (some .int), 12, 0, 1, kX12_off) (8321, 1032, 8319, 8320) = true := by decide +kernel
theorem ck_14_15 : okM (yX12_ofOrder, cX12_ofOrder, 3, (some .int), 12, 0, 2, kX12_ofOrder) (8325, 1032, 8323, 8324) = true := by decide +kernel
theorem ck_15_0 : okM (yX12_endOf, cX12_endOf, 2, (some .int), 12, 0, 1, kX12_endOf) (8341, 1032, 8340, 72) = true := by decide +kernel
theorem ck_15_1 : okM (yX12_daysOf, cX12_daysOf, 2, (some .int), 12, 0, 1, kX12_daysOf) (8337, 1032, 8336, 71) = true := by decide +kernel
theorem ck_15_2 : okM (yX12_said, cX12_said, 4, (some .int), 12, 0, 3, kX12_said) (8329, 1032, 8327, 8328) = true := by decide +kernel
theorem cq_15_3_0 : okC 12 yX12_dayIs cX12_dayIs 0 ((kX12_dayIs.drop 0).take 10) = true := by decide +kernel
theorem cq_15_3_10 : okC 12 yX12_dayIs cX12_dayIs 160 ((kX12_dayIs.drop 10).take 10) = true := by decide +kernel
theorem cc_15_3 : okC 12 yX12_dayIs cX12_dayIs 0 (kX12_dayIs.drop 0) = true := (okC_split cq_15_3_0 (okC_last cq_15_3_10 (by decide +kernel)))
theorem ck_15_3 : okM (yX12_dayIs, cX12_dayIs, 10, (some .int), 12, 0, 2, kX12_dayIs) (8349, 1032, 8348, 74) = true := okM_of (k := kX12_dayIs) cc_15_3 (by decide +kernel)
theorem ck_15_4 : okM (yX12_worked, cX12_worked, 6, (some .int), 12, 0, 2, kX12_worked) (8345, 1032, 8344, 73) = true := by decide +kernel
theorem ck_15_5 : okM (yX12_days, cX12_days, 3, (some .int), 12, 0, 2, kX12_days) (8333, 1032, 8331, 8332) = true := by decide +kernel
theorem ck_15_6 : okM (yX12_dayOf, cX12_dayOf, 3, (some .int), 12, 0, 2, kX12_dayOf) (8357, 1032, 8355, 8356) = true := by decide +kernel
theorem ck_15_7 : okM (yX12_feed, cX12_feed, 6, (some .int), 12, 0, 5, kX12_feed) (8361, 1032, 8359, 8360) = true := by decide +kernel
theorem ck_15_8 : okM (yX12_feedOne, cX12_feedOne, 3, none, 12, 0, 1, kX12_feedOne) (8365, 1032, 8364, 76) = true := by decide +kernel
theorem ck_15_9 : okM (yX12_end, cX12_end, 2, (some .int), 12, 0, 1, kX12_end) (8369, 1032, 8367, 8368) = true := by decide +kernel
theorem ck_15_10 : okM (yX12_isLetter, cX12_isLetter, 1, (some .boolean), 12, 1, 1, kX12_isLetter) (8380, 1032, 8379, 0) = true := by decide +kernel
end
section
theorem ck_15_11 : okM (yX12_isDigit, cX12_isDigit, 1, (some .boolean), 12, 1, 1, kX12_isDigit) (8383, 1032, 8382, 0) = true := by decide +kernel
theorem cq_15_12_0 : okC 12 yX12_nextToken cX12_nextToken 0 ((kX12_nextToken.drop 0).take 10) = true := by decide +kernel
theorem cq_15_12_10 : okC 12 yX12_nextToken cX12_nextToken 160 ((kX12_nextToken.drop 10).take 10) = true := by decide +kernel
theorem cc_15_12 : okC 12 yX12_nextToken cX12_nextToken 0 (kX12_nextToken.drop 0) = true := (okC_split cq_15_12_0 (okC_last cq_15_12_10 (by decide +kernel)))
theorem ck_15_12 : okM (yX12_nextToken, cX12_nextToken, 1, none, 12, 0, 0, kX12_nextToken) (8377, 1032, 8376, 77) = true := okM_of (k := kX12_nextToken) cc_15_12 (by decide +kernel)
theorem ck_15_13 : okM (yX12_isWord, cX12_isWord, 6, (some .boolean), 12, 0, 1, kX12_isWord) (8392, 1032, 8391, 79) = true := by decide +kernel
theorem ck_15_14 : okM (yX12_wrong, cX12_wrong, 1, none, 12, 0, 0, kX12_wrong) (8402, 1032, 8401, 81) = true := by decide +kernel
theorem ck_15_15 : okM (yX12_lay, cX12_lay, 4, none, 12, 0, 3, kX12_lay) (8408, 1032, 8407, 82) = true := by decide +kernel
theorem ck_16_0 : okM (yX12_takes, cX12_takes, 2, (some .boolean), 12, 0, 1, kX12_takes) (8398, 1032, 8397, 80) = true := by decide +kernel
theorem ck_16_1 : okM (yX12_opens, cX12_opens, 1, (some .boolean), 12, 0, 0, kX12_opens) (9216, 1032, 8431, 87) = true := by decide +kernel
theorem ck_16_2 : okM (yX12_closes, cX12_closes, 1, (some .boolean), 12, 0, 0, kX12_closes) (9220, 1032, 9219, 88) = true := by decide +kernel
theorem ck_16_3 : okM (yX12_nameOf, cX12_nameOf, 2, (some .int), 12, 0, 0, kX12_nameOf) (8424, 1032, 8423, 86) = true := by decide +kernel
theorem cq_16_4_0 : okC 12 yX12_operand cX12_operand 0 ((kX12_operand.drop 0).take 10) = true := by decide +kernel
theorem cq_16_4_10 : okC 12 yX12_operand cX12_operand 160 ((kX12_operand.drop 10).take 10) = true := by decide +kernel
theorem cc_16_4 : okC 12 yX12_operand cX12_operand 0 (kX12_operand.drop 0) = true := (okC_split cq_16_4_0 (okC_last cq_16_4_10 (by decide +kernel)))
theorem ck_16_4 : okM (yX12_operand, cX12_operand, 2, none, 12, 0, 0, kX12_operand) (8420, 1032, 8419, 85) = true := okM_of (k := kX12_operand) cc_16_4 (by decide +kernel)
theorem ck_16_5 : okM (yX12_product, cX12_product, 2, none, 12, 0, 0, kX12_product) (8416, 1032, 8415, 84) = true := by decide +kernel
theorem ck_16_6 : okM (yX12_sum, cX12_sum, 2, none, 12, 0, 0, kX12_sum) (8412, 1032, 8411, 83) = true := by decide +kernel
theorem ck_16_7 : okM (yX12_step, cX12_step, 3, none, 12, 0, 0, kX12_step) (8387, 1032, 8386, 78) = true := by decide +kernel
theorem cq_16_8_0 : okC 12 yX12_terms cX12_terms 0 ((kX12_terms.drop 0).take 10) = true := by decide +kernel
theorem cq_16_8_10 : okC 12 yX12_terms cX12_terms 160 ((kX12_terms.drop 10).take 10) = true := by decide +kernel
theorem cc_16_8 : okC 12 yX12_terms cX12_terms 0 (kX12_terms.drop 0) = true := (okC_split cq_16_8_0 (okC_last cq_16_8_10 (by decide +kernel)))
theorem ck_16_8 : okM (yX12_terms, cX12_terms, 3, (some .int), 12, 0, 2, kX12_terms) (8373, 1032, 8371, 8372) = true := okM_of (k := kX12_terms) cc_16_8 (by decide +kernel)
theorem ck_16_9 : okM (yX12_both, cX12_both, 3, (some .int), 12, 1, 3, kX12_both) (9264, 1032, 9263, 0) = true := by decide +kernel
end
section
theorem cq_16_10_0 : okC 12 yX12_works cX12_works 0 ((kX12_works.drop 0).take 10) = true := by decide +kernel
theorem cq_16_10_10 : okC 12 yX12_works cX12_works 160 ((kX12_works.drop 10).take 10) = true := by decide +kernel
theorem cc_16_10 : okC 12 yX12_works cX12_works 0 (kX12_works.drop 0) = true := (okC_split cq_16_10_0 (okC_last cq_16_10_10 (by decide +kernel)))
theorem ck_16_10 : okM (yX12_works, cX12_works, 6, (some .int), 12, 0, 1, kX12_works) (9260, 1032, 9259, 97) = true := okM_of (k := kX12_works) cc_16_10 (by decide +kernel)
theorem ck_16_11 : okM (yX12_hoursOf, cX12_hoursOf, 4, (some .int), 12, 0, 1, kX12_hoursOf) (9236, 1032, 9235, 91) = true := by decide +kernel
theorem ck_16_12 : okM (yX12_rainOf, cX12_rainOf, 4, (some .int), 12, 0, 1, kX12_rainOf) (9240, 1032, 9239, 92) = true := by decide +kernel
theorem ck_16_13 : okM (yX12_brokenOf, cX12_brokenOf, 7, (some .int), 12, 0, 1, kX12_brokenOf) (9244, 1032, 9243, 93) = true := by decide +kernel
theorem ck_16_14 : okM (yX12_marksFound, cX12_marksFound, 2, (some .int), 12, 0, 1, kX12_marksFound) (9256, 1032, 9255, 96) = true := by decide +kernel
theorem ck_16_15 : okM (yX12_harmOf, cX12_harmOf, 4, (some .int), 12, 0, 1, kX12_harmOf) (9252, 1032, 9251, 95) = true := by decide +kernel
theorem ck_17_0 : okM (yX12_fuelOf, cX12_fuelOf, 2, (some .int), 12, 0, 1, kX12_fuelOf) (9248, 1032, 9247, 94) = true := by decide +kernel
theorem cq_17_1_0 : okC 12 yX12_tell cX12_tell 0 ((kX12_tell.drop 0).take 10) = true := by decide +kernel
theorem cq_17_1_10 : okC 12 yX12_tell cX12_tell 160 ((kX12_tell.drop 10).take 10) = true := by decide +kernel
theorem cc_17_1 : okC 12 yX12_tell cX12_tell 0 (kX12_tell.drop 0) = true := (okC_split cq_17_1_0 (okC_last cq_17_1_10 (by decide +kernel)))
theorem ck_17_1 : okM (yX12_tell, cX12_tell, 6, none, 12, 0, 3, kX12_tell) (9232, 1032, 9231, 90) = true := okM_of (k := kX12_tell) cc_17_1 (by decide +kernel)
theorem ck_17_2 : okM (yX12_gives, cX12_gives, 4, (some .int), 12, 0, 3, kX12_gives) (9228, 1032, 9226, 9227) = true := by decide +kernel
theorem ck_17_3 : okM (yX12_lesser, cX12_lesser, 8, (some .int), 12, 0, 3, kX12_lesser) (9272, 1032, 9271, 98) = true := by decide +kernel
theorem ck_17_4 : okM (yX12_bill, cX12_bill, 5, (some .int), 12, 0, 3, kX12_bill) (9268, 1032, 9266, 9267) = true := by decide +kernel
theorem ck_17_5 : okM (yX12_next, cX12_next, 5, (some .int), 12, 0, 2, kX12_next) (9276, 1032, 9274, 9275) = true := by decide +kernel
theorem ck_17_6 : okM (yX12_mayTell, cX12_mayTell, 3, (some .boolean), 12, 0, 2, kX12_mayTell) (9285, 1032, 9284, 99) = true := by decide +kernel
theorem ck_17_7 : okM (yX12_looked, cX12_looked, 4, (some .int), 12, 0, 3, kX12_looked) (9280, 1032, 9278, 9279) = true := by decide +kernel
theorem ck_17_8 : okM (yX12_fuel, cX12_fuel, 4, (some .int), 12, 0, 3, kX12_fuel) (9289, 1032, 9287, 9288) = true := by decide +kernel
theorem ck_17_9 : okM (yX12_harm, cX12_harm, 3, (some .int), 12, 0, 2, kX12_harm) (9293, 1032, 9291, 9292) = true := by decide +kernel
theorem ck_17_10 : okM (yX12_share, cX12_share, 5, (some .int), 12, 0, 2, kX12_share) (9297, 1032, 9295, 9296) = true := by decide +kernel
theorem ck_17_11 : okM (yX12_chain, cX12_chain, 4, (some .int), 12, 0, 3, kX12_chain) (9301, 1032, 9299, 9300) = true := by decide +kernel
theorem ck_17_12 : okM (yX12_rank, cX12_rank, 3, (some .int), 12, 0, 2, kX12_rank) (9305, 1032, 9303, 9304) = true := by decide +kernel
end
section
theorem ck_17_13 : okM (yX12_idleOf, cX12_idleOf, 5, (some .int), 12, 0, 2, kX12_idleOf) (9313, 1032, 9312, 100) = true := by decide +kernel
theorem ck_17_14 : okM (yX12_wantedOf, cX12_wantedOf, 5, (some .int), 12, 0, 2, kX12_wantedOf) (9317, 1032, 9316, 101) = true := by decide +kernel
theorem ck_17_15 : okM (yX12_idle, cX12_idle, 4, (some .int), 12, 0, 3, kX12_idle) (9309, 1032, 9307, 9308) = true := by decide +kernel
theorem ck_18_0 : okM (yX12_move, cX12_move, 8, (some .int), 12, 0, 1, kX12_move) (9321, 1032, 9319, 9320) = true := by decide +kernel
theorem cq_18_1_0 : okC 12 yX12_count cX12_count 0 ((kX12_count.drop 0).take 10) = true := by decide +kernel
theorem cq_18_1_10 : okC 12 yX12_count cX12_count 160 ((kX12_count.drop 10).take 10) = true := by decide +kernel
theorem cc_18_1 : okC 12 yX12_count cX12_count 0 (kX12_count.drop 0) = true := (okC_split cq_18_1_0 (okC_last cq_18_1_10 (by decide +kernel)))
theorem ck_18_1 : okM (yX12_count, cX12_count, 4, (some .int), 12, 0, 1, kX12_count) (9325, 1032, 9323, 9324) = true := okM_of (k := kX12_count) cc_18_1 (by decide +kernel)
theorem ck_18_2 : okM (yJ7_fill_d0a16, cJ7_fill_d0a16, 5, none, 15, 1, 2, kJ7_fill_d0a16) (4139, 1037, 4138, 0) = true := by decide +kernel
theorem ck_18_3 : okM (yJ7_copyOf_59c91, cJ7_copyOf_59c91, 3, (some (.array .int)), 15, 1, 2, kJ7_copyOf_59c91) (3171, 1037, 3170, 0) = true := by decide +kernel
end
section
theorem cq_18_4_0 : okC 13 yL_law cL_law 0 ((kL_law.drop 0).take 10) = true := by decide +kernel
theorem cq_18_4_10 : okC 13 yL_law cL_law 160 ((kL_law.drop 10).take 10) = true := by decide +kernel
theorem cq_18_4_20 : okC 13 yL_law cL_law 320 ((kL_law.drop 20).take 10) = true := by decide +kernel
theorem cq_18_4_30 : okC 13 yL_law cL_law 480 ((kL_law.drop 30).take 10) = true := by decide +kernel
theorem cq_18_4_40 : okC 13 yL_law cL_law 640 ((kL_law.drop 40).take 10) = true := by decide +kernel
theorem cq_18_4_50 : okC 13 yL_law cL_law 800 ((kL_law.drop 50).take 10) = true := by decide +kernel
theorem cq_18_4_60 : okC 13 yL_law cL_law 960 ((kL_law.drop 60).take 10) = true := by decide +kernel
theorem cq_18_4_70 : okC 13 yL_law cL_law 1120 ((kL_law.drop 70).take 10) = true := by decide +kernel
theorem cq_18_4_80 : okC 13 yL_law cL_law 1280 ((kL_law.drop 80).take 10) = true := by decide +kernel
theorem cq_18_4_90 : okC 13 yL_law cL_law 1440 ((kL_law.drop 90).take 10) = true := by decide +kernel
theorem cq_18_4_100 : okC 13 yL_law cL_law 1600 ((kL_law.drop 100).take 10) = true := by decide +kernel
theorem cq_18_4_110 : okC 13 yL_law cL_law 1760 ((kL_law.drop 110).take 10) = true := by decide +kernel
theorem cc_18_4 : okC 13 yL_law cL_law 0 (kL_law.drop 0) = true := (okC_split cq_18_4_0 (okC_split cq_18_4_10 (okC_split cq_18_4_20 (okC_split cq_18_4_30 (okC_split cq_18_4_40 (okC_split cq_18_4_50 (okC_split cq_18_4_60 (okC_split cq_18_4_70 (okC_split cq_18_4_80 (okC_split cq_18_4_90 (okC_split cq_18_4_100 (okC_last cq_18_4_110 (by decide +kernel)))))))))))))
end
section
/-! EVERY METHOD OF THE TABLE IS WHAT THE TABLES SAY; THE LAW TOO -/
theorem cg_0 (j : Nat) (M : mMR) (hj : mM_0[j]? = some M) : g_M M ∧ g_MW M := by
  match j, hj with
  | 0, hj => have hj : some (yX0_init, cX0_init, 1, none, 0, 0, 0, kX0_init) = some M := hj; cases hj; exact g_of_okM ck_0_0
  | 1, hj => have hj : some (yX0_isFull, cX0_isFull, 1, (some .boolean), 0, 0, 0, kX0_isFull) = some M := hj; cases hj; exact g_of_okM ck_0_1
  | 2, hj => have hj : some (yX0_has, cX0_has, 2, (some .boolean), 0, 0, 1, kX0_has) = some M := hj; cases hj; exact g_of_okM ck_0_2
  | 3, hj => have hj : some (yX0_add, cX0_add, 2, (some .int), 0, 0, 1, kX0_add) = some M := hj; cases hj; exact g_of_okM ck_0_3
  | 4, hj => have hj : some (yX0_learn, cX0_learn, 3, none, 0, 0, 2, kX0_learn) = some M := hj; cases hj; exact g_of_okM ck_0_4
  | 5, hj => have hj : some (yX0_learnTroubles, cX0_learnTroubles, 8, none, 0, 0, 4, kX0_learnTroubles) = some M := hj; cases hj; exact g_of_okM ck_0_5
  | 6, hj => have hj : some (yX0_setDays, cX0_setDays, 2, none, 0, 0, 1, kX0_setDays) = some M := hj; cases hj; exact g_of_okM ck_0_6
  | 7, hj => have hj : some (yX0_setAll, cX0_setAll, 3, none, 0, 0, 2, kX0_setAll) = some M := hj; cases hj; exact g_of_okM ck_0_7
  | 8, hj => have hj : some (yX0_amount, cX0_amount, 3, (some .int), 0, 0, 1, kX0_amount) = some M := hj; cases hj; exact g_of_okM ck_0_8
  | 9, hj => have hj : some (yX0_inForce, cX0_inForce, 8, (some .int), 0, 0, 3, kX0_inForce) = some M := hj; cases hj; exact g_of_okM ck_0_9
  | 10, hj => have hj : some (yX1_init, cX1_init, 6, none, 1, 0, 5, kX1_init) = some M := hj; cases hj; exact g_of_okM ck_0_10
  | 11, hj => have hj : some (yX1_standsFor, cX1_standsFor, 2, (some .boolean), 1, 0, 1, kX1_standsFor) = some M := hj; cases hj; exact g_of_okM ck_0_11
  | 12, hj => have hj : some (yX2_init, cX2_init, 1, none, 2, 0, 0, kX2_init) = some M := hj; cases hj; exact g_of_okM ck_0_12
  | 13, hj => have hj : some (yX2_addTrack, cX2_addTrack, 4, (some .int), 2, 0, 3, kX2_addTrack) = some M := hj; cases hj; exact g_of_okM ck_0_13
  | 14, hj => have hj : some (yX2_countsFor, cX2_countsFor, 3, (some .boolean), 2, 0, 2, kX2_countsFor) = some M := hj; cases hj; exact g_of_okM ck_0_14
  | 15, hj => have hj : some (yX2_elsewhere, cX2_elsewhere, 3, (some .int), 2, 0, 1, kX2_elsewhere) = some M := hj; cases hj; exact g_of_okM ck_0_15
  | n + 16, hj => cases hj
theorem cg_1 (j : Nat) (M : mMR) (hj : mM_1[j]? = some M) : g_M M ∧ g_MW M := by
  match j, hj with
  | 0, hj => have hj : some (yX2_firstElsewhere, cX2_firstElsewhere, 3, (some .int), 2, 0, 1, kX2_firstElsewhere) = some M := hj; cases hj; exact g_of_okM ck_1_0
  | 1, hj => have hj : some (yX2_lastThere, cX2_lastThere, 3, (some .int), 2, 0, 1, kX2_lastThere) = some M := hj; cases hj; exact g_of_okM ck_1_1
  | 2, hj => have hj : some (yX2_beginBreak, cX2_beginBreak, 3, (some .boolean), 2, 0, 2, kX2_beginBreak) = some M := hj; cases hj; exact g_of_okM ck_1_2
  | 3, hj => have hj : some (yX2_endBreak, cX2_endBreak, 4, none, 2, 0, 2, kX2_endBreak) = some M := hj; cases hj; exact g_of_okM ck_1_3
  | 4, hj => have hj : some (yX2_hoursBroken, cX2_hoursBroken, 7, (some .int), 2, 0, 3, kX2_hoursBroken) = some M := hj; cases hj; exact g_of_okM ck_1_4
  | 5, hj => have hj : some (yX3_init, cX3_init, 1, none, 3, 0, 0, kX3_init) = some M := hj; cases hj; exact g_of_okM ck_1_5
  | 6, hj => have hj : some (yX3_isPromised, cX3_isPromised, 1, (some .boolean), 3, 1, 1, kX3_isPromised) = some M := hj; cases hj; exact g_of_okM ck_1_6
  | 7, hj => have hj : some (yX3_joins, cX3_joins, 3, (some .boolean), 3, 0, 1, kX3_joins) = some M := hj; cases hj; exact g_of_okM ck_1_7
  | 8, hj => have hj : some (yX3_add, cX3_add, 2, (some .int), 3, 0, 1, kX3_add) = some M := hj; cases hj; exact g_of_okM ck_1_8
  | 9, hj => have hj : some (yX3_drive, cX3_drive, 8, (some .int), 3, 0, 1, kX3_drive) = some M := hj; cases hj; exact g_of_okM ck_1_9
  | 10, hj => have hj : some (yX3_rowAt, cX3_rowAt, 2, (some (.object "HireYard$Machine")), 3, 0, 1, kX3_rowAt) = some M := hj; cases hj; exact g_of_okM ck_1_10
  | 11, hj => have hj : some (yX3_dropOthers, cX3_dropOthers, 3, none, 3, 0, 0, kX3_dropOthers) = some M := hj; cases hj; exact g_of_okM ck_1_11
  | 12, hj => have hj : some (yX3_weight, cX3_weight, 4, (some .int), 3, 0, 1, kX3_weight) = some M := hj; cases hj; exact g_of_okM ck_1_12
  | 13, hj => have hj : some (yX3_sortByNumber, cX3_sortByNumber, 6, none, 3, 0, 1, kX3_sortByNumber) = some M := hj; cases hj; exact g_of_okM ck_1_13
  | 14, hj => have hj : some (yX3_rowMiles, cX3_rowMiles, 9, (some .int), 3, 0, 3, kX3_rowMiles) = some M := hj; cases hj; exact g_of_okM ck_1_14
  | 15, hj => have hj : some (yX3_customerTown, cX3_customerTown, 3, (some .int), 3, 0, 1, kX3_customerTown) = some M := hj; cases hj; exact g_of_okM ck_1_15
  | n + 16, hj => cases hj
theorem cg_2 (j : Nat) (M : mMR) (hj : mM_2[j]? = some M) : g_M M ∧ g_MW M := by
  match j, hj with
  | 0, hj => have hj : some (yX3_keepRow, cX3_keepRow, 3, none, 3, 0, 1, kX3_keepRow) = some M := hj; cases hj; exact g_of_okM ck_2_0
  | 1, hj => have hj : some (yX3_nextTurn, cX3_nextTurn, 6, (some .boolean), 3, 0, 1, kX3_nextTurn) = some M := hj; cases hj; exact g_of_okM ck_2_1
  | 2, hj => have hj : some (yX3_swapTurns, cX3_swapTurns, 4, none, 3, 0, 2, kX3_swapTurns) = some M := hj; cases hj; exact g_of_okM ck_2_2
  | 3, hj => have hj : some (yX4_init, cX4_init, 6, none, 4, 0, 5, kX4_init) = some M := hj; cases hj; exact g_of_okM ck_2_3
  | 4, hj => have hj : some (yX4_isFree, cX4_isFree, 1, (some .boolean), 4, 0, 0, kX4_isFree) = some M := hj; cases hj; exact g_of_okM ck_2_4
  | 5, hj => have hj : some (yX4_sinceLook, cX4_sinceLook, 1, (some .int), 4, 0, 0, kX4_sinceLook) = some M := hj; cases hj; exact g_of_okM ck_2_5
  | 6, hj => have hj : some (yX4_hoursToLook, cX4_hoursToLook, 1, (some .int), 4, 0, 0, kX4_hoursToLook) = some M := hj; cases hj; exact g_of_okM ck_2_6
  | 7, hj => have hj : some (yX4_lookDue, cX4_lookDue, 1, (some .boolean), 4, 0, 0, kX4_lookDue) = some M := hj; cases hj; exact g_of_okM ck_2_7
  | 8, hj => have hj : some (yX4_lookLapses, cX4_lookLapses, 2, (some .boolean), 4, 0, 1, kX4_lookLapses) = some M := hj; cases hj; exact g_of_okM ck_2_8
  | 9, hj => have hj : some (yX4_beginLook, cX4_beginLook, 2, none, 4, 0, 1, kX4_beginLook) = some M := hj; cases hj; exact g_of_okM ck_2_9
  | 10, hj => have hj : some (yX4_load, cX4_load, 4, none, 4, 0, 3, kX4_load) = some M := hj; cases hj; exact g_of_okM ck_2_10
  | 11, hj => have hj : some (yX4_settle, cX4_settle, 2, none, 4, 0, 1, kX4_settle) = some M := hj; cases hj; exact g_of_okM ck_2_11
  | 12, hj => have hj : some (yX4_leave, cX4_leave, 3, none, 4, 0, 2, kX4_leave) = some M := hj; cases hj; exact g_of_okM ck_2_12
  | 13, hj => have hj : some (yX4_addLink, cX4_addLink, 3, (some .int), 4, 0, 2, kX4_addLink) = some M := hj; cases hj; exact g_of_okM ck_2_13
  | 14, hj => have hj : some (yX4_ownerOf, cX4_ownerOf, 2, (some .int), 4, 0, 1, kX4_ownerOf) = some M := hj; cases hj; exact g_of_okM ck_2_14
  | 15, hj => have hj : some (yX4_rateOf, cX4_rateOf, 2, (some .int), 4, 0, 1, kX4_rateOf) = some M := hj; cases hj; exact g_of_okM ck_2_15
  | n + 16, hj => cases hj
theorem cg_3 (j : Nat) (M : mMR) (hj : mM_3[j]? = some M) : g_M M ∧ g_MW M := by
  match j, hj with
  | 0, hj => have hj : some (yX5_init, cX5_init, 1, none, 5, 0, 0, kX5_init) = some M := hj; cases hj; exact g_of_okM ck_3_0
  | 1, hj => have hj : some (yX5_isListed, cX5_isListed, 3, (some .boolean), 5, 0, 1, kX5_isListed) = some M := hj; cases hj; exact g_of_okM ck_3_1
  | 2, hj => have hj : some (yX5_add, cX5_add, 2, (some .int), 5, 0, 1, kX5_add) = some M := hj; cases hj; exact g_of_okM ck_3_2
  | 3, hj => have hj : some (yX5_begin, cX5_begin, 1, none, 5, 0, 0, kX5_begin) = some M := hj; cases hj; exact g_of_okM ck_3_3
  | 4, hj => have hj : some (yX5_offer, cX5_offer, 8, none, 5, 0, 3, kX5_offer) = some M := hj; cases hj; exact g_of_okM ck_3_4
  | 5, hj => have hj : some (yX5_costOf, cX5_costOf, 7, (some .long), 5, 1, 5, kX5_costOf) = some M := hj; cases hj; exact g_of_okM ck_3_5
  | 6, hj => have hj : some (yX5_leastCost, cX5_leastCost, 7, (some .long), 5, 0, 0, kX5_leastCost) = some M := hj; cases hj; exact g_of_okM ck_3_6
  | 7, hj => have hj : some (yX5_promise, cX5_promise, 9, (some .int), 5, 0, 2, kX5_promise) = some M := hj; cases hj; exact g_of_okM ck_3_7
  | 8, hj => have hj : some (yX6_init, cX6_init, 3, none, 6, 0, 2, kX6_init) = some M := hj; cases hj; exact g_of_okM ck_3_8
  | 9, hj => have hj : some (yX6_size, cX6_size, 1, (some .int), 6, 0, 0, kX6_size) = some M := hj; cases hj; exact g_of_okM ck_3_9
  | 10, hj => have hj : some (yX6_last, cX6_last, 1, (some .int), 6, 0, 0, kX6_last) = some M := hj; cases hj; exact g_of_okM ck_3_10
  | 11, hj => have hj : some (yX6_valueAt, cX6_valueAt, 2, (some .int), 6, 0, 1, kX6_valueAt) = some M := hj; cases hj; exact g_of_okM ck_3_11
  | 12, hj => have hj : some (yX6_toldAt, cX6_toldAt, 2, (some .boolean), 6, 0, 1, kX6_toldAt) = some M := hj; cases hj; exact g_of_okM ck_3_12
  | 13, hj => have hj : some (yX6_isAnother, cX6_isAnother, 2, (some .boolean), 6, 0, 1, kX6_isAnother) = some M := hj; cases hj; exact g_of_okM ck_3_13
  | 14, hj => have hj : some (yX6_tell, cX6_tell, 3, none, 6, 0, 2, kX6_tell) = some M := hj; cases hj; exact g_of_okM ck_3_14
  | 15, hj => have hj : some (yX6_grow, cX6_grow, 1, none, 6, 0, 0, kX6_grow) = some M := hj; cases hj; exact g_of_okM ck_3_15
  | n + 16, hj => cases hj
theorem cg_4 (j : Nat) (M : mMR) (hj : mM_4[j]? = some M) : g_M M ∧ g_MW M := by
  match j, hj with
  | 0, hj => have hj : some (yX6_latestUpTo, cX6_latestUpTo, 6, (some .int), 6, 0, 1, kX6_latestUpTo) = some M := hj; cases hj; exact g_of_okM ck_4_0
  | 1, hj => have hj : some (yX6_earliestFrom, cX6_earliestFrom, 2, (some .int), 6, 0, 1, kX6_earliestFrom) = some M := hj; cases hj; exact g_of_okM ck_4_1
  | 2, hj => have hj : some (yX7_init, cX7_init, 7, none, 7, 0, 6, kX7_init) = some M := hj; cases hj; exact g_of_okM ck_4_2
  | 3, hj => have hj : some (yX7_objection, cX7_objection, 5, (some .int), 7, 0, 3, kX7_objection) = some M := hj; cases hj; exact g_of_okM ck_4_3
  | 4, hj => have hj : some (yX7_begun, cX7_begun, 2, (some .boolean), 7, 0, 1, kX7_begun) = some M := hj; cases hj; exact g_of_okM ck_4_4
  | 5, hj => have hj : some (yX7_isSubstitute, cX7_isSubstitute, 1, (some .boolean), 7, 0, 0, kX7_isSubstitute) = some M := hj; cases hj; exact g_of_okM ck_4_5
  | 6, hj => have hj : some (yX7_promise, cX7_promise, 2, none, 7, 0, 1, kX7_promise) = some M := hj; cases hj; exact g_of_okM ck_4_6
  | 7, hj => have hj : some (yX7_finish, cX7_finish, 2, none, 7, 0, 1, kX7_finish) = some M := hj; cases hj; exact g_of_okM ck_4_7
  | 8, hj => have hj : some (yX7_loseMachine, cX7_loseMachine, 2, none, 7, 0, 1, kX7_loseMachine) = some M := hj; cases hj; exact g_of_okM ck_4_8
  | 9, hj => have hj : some (yX7_endBy, cX7_endBy, 2, (some .int), 7, 0, 1, kX7_endBy) = some M := hj; cases hj; exact g_of_okM ck_4_9
  | 10, hj => have hj : some (yX7_dayCount, cX7_dayCount, 2, (some .int), 7, 0, 1, kX7_dayCount) = some M := hj; cases hj; exact g_of_okM ck_4_10
  | 11, hj => have hj : some (yX7_knownOfDay, cX7_knownOfDay, 11, (some .int), 7, 0, 2, kX7_knownOfDay) = some M := hj; cases hj; exact g_of_okM ck_4_11
  | 12, hj => have hj : some (yX7_daysWorked, cX7_daysWorked, 8, (some .int), 7, 0, 2, kX7_daysWorked) = some M := hj; cases hj; exact g_of_okM ck_4_12
  | 13, hj => have hj : some (yX7_hoursWorked, cX7_hoursWorked, 4, (some .int), 7, 0, 1, kX7_hoursWorked) = some M := hj; cases hj; exact g_of_okM ck_4_13
  | 14, hj => have hj : some (yX7_mayTell, cX7_mayTell, 2, (some .boolean), 7, 0, 1, kX7_mayTell) = some M := hj; cases hj; exact g_of_okM ck_4_14
  | 15, hj => have hj : some (yX7_tell, cX7_tell, 4, (some .int), 7, 0, 3, kX7_tell) = some M := hj; cases hj; exact g_of_okM ck_4_15
  | n + 16, hj => cases hj
theorem cg_5 (j : Nat) (M : mMR) (hj : mM_5[j]? = some M) : g_M M ∧ g_MW M := by
  match j, hj with
  | 0, hj => have hj : some (yX7_newMarks, cX7_newMarks, 1, (some .int), 7, 0, 0, kX7_newMarks) = some M := hj; cases hj; exact g_of_okM ck_5_0
  | 1, hj => have hj : some (yX7_harmCoins, cX7_harmCoins, 4, (some .int), 7, 0, 0, kX7_harmCoins) = some M := hj; cases hj; exact g_of_okM ck_5_1
  | 2, hj => have hj : some (yX7_litresMissing, cX7_litresMissing, 1, (some .int), 7, 0, 0, kX7_litresMissing) = some M := hj; cases hj; exact g_of_okM ck_5_2
  | 3, hj => have hj : some (yX8_init, cX8_init, 1, none, 8, 0, 0, kX8_init) = some M := hj; cases hj; exact g_of_okM ck_5_3
  | 4, hj => have hj : some (yX8_found, cX8_found, 3, (some .int), 8, 0, 1, kX8_found) = some M := hj; cases hj; exact g_of_okM ck_5_4
  | 5, hj => have hj : some (yX8_has, cX8_has, 2, (some .boolean), 8, 0, 1, kX8_has) = some M := hj; cases hj; exact g_of_okM ck_5_5
  | 6, hj => have hj : some (yX8_hasYard, cX8_hasYard, 2, (some .boolean), 8, 0, 1, kX8_hasYard) = some M := hj; cases hj; exact g_of_okM ck_5_6
  | 7, hj => have hj : some (yX8_lay, cX8_lay, 6, (some .int), 8, 0, 3, kX8_lay) = some M := hj; cases hj; exact g_of_okM ck_5_7
  | 8, hj => have hj : some (yX8_shorten, cX8_shorten, 7, none, 8, 0, 5, kX8_shorten) = some M := hj; cases hj; exact g_of_okM ck_5_8
  | 9, hj => have hj : some (yX8_way, cX8_way, 3, (some .int), 8, 0, 2, kX8_way) = some M := hj; cases hj; exact g_of_okM ck_5_9
  | 10, hj => have hj : some (yX8_rideHours, cX8_rideHours, 4, (some .int), 8, 0, 2, kX8_rideHours) = some M := hj; cases hj; exact g_of_okM ck_5_10
  | 11, hj => have hj : some (yX9_init, cX9_init, 1, none, 9, 0, 0, kX9_init) = some M := hj; cases hj; exact g_of_okM ck_5_11
  | 12, hj => have hj : some (yX9_hasRoom, cX9_hasRoom, 1, (some .boolean), 9, 0, 0, kX9_hasRoom) = some M := hj; cases hj; exact g_of_okM ck_5_12
  | 13, hj => have hj : some (yX9_append, cX9_append, 3, none, 9, 0, 1, kX9_append) = some M := hj; cases hj; exact g_of_okM ck_5_13
  | 14, hj => have hj : some (yX9_compile, cX9_compile, 3, (some .int), 9, 0, 0, kX9_compile) = some M := hj; cases hj; exact g_of_okM ck_5_14
  | 15, hj => have hj : some (yX9_copyOfCode, cX9_copyOfCode, 1, (some (.array .int)), 9, 0, 0, kX9_copyOfCode) = some M := hj; cases hj; exact g_of_okM ck_5_15
  | n + 16, hj => cases hj
theorem cg_6 (j : Nat) (M : mMR) (hj : mM_6[j]? = some M) : g_M M ∧ g_MW M := by
  match j, hj with
  | 0, hj => have hj : some (yX9_cut, cX9_cut, 4, none, 9, 0, 0, kX9_cut) = some M := hj; cases hj; exact g_of_okM ck_6_0
  | 1, hj => have hj : some (yX9_isLetter, cX9_isLetter, 2, (some .boolean), 9, 0, 1, kX9_isLetter) = some M := hj; cases hj; exact g_of_okM ck_6_1
  | 2, hj => have hj : some (yX9_isDigit, cX9_isDigit, 2, (some .boolean), 9, 0, 1, kX9_isDigit) = some M := hj; cases hj; exact g_of_okM ck_6_2
  | 3, hj => have hj : some (yX9_addToken, cX9_addToken, 4, none, 9, 0, 3, kX9_addToken) = some M := hj; cases hj; exact g_of_okM ck_6_3
  | 4, hj => have hj : some (yX9_numberOf, cX9_numberOf, 5, (some .int), 9, 0, 2, kX9_numberOf) = some M := hj; cases hj; exact g_of_okM ck_6_4
  | 5, hj => have hj : some (yX9_wordSort, cX9_wordSort, 8, (some .int), 9, 0, 2, kX9_wordSort) = some M := hj; cases hj; exact g_of_okM ck_6_5
  | 6, hj => have hj : some (yX9_sort, cX9_sort, 1, (some .int), 9, 0, 0, kX9_sort) = some M := hj; cases hj; exact g_of_okM ck_6_6
  | 7, hj => have hj : some (yX9_take, cX9_take, 2, (some .boolean), 9, 0, 1, kX9_take) = some M := hj; cases hj; exact g_of_okM ck_6_7
  | 8, hj => have hj : some (yX9_need, cX9_need, 2, none, 9, 0, 1, kX9_need) = some M := hj; cases hj; exact g_of_okM ck_6_8
  | 9, hj => have hj : some (yX9_fail, cX9_fail, 1, none, 9, 0, 0, kX9_fail) = some M := hj; cases hj; exact g_of_okM ck_6_9
  | 10, hj => have hj : some (yX9_number, cX9_number, 1, (some .int), 9, 0, 0, kX9_number) = some M := hj; cases hj; exact g_of_okM ck_6_10
  | 11, hj => have hj : some (yX9_emit, cX9_emit, 2, none, 9, 0, 1, kX9_emit) = some M := hj; cases hj; exact g_of_okM ck_6_11
  | 12, hj => have hj : some (yX9_step, cX9_step, 4, none, 9, 0, 0, kX9_step) = some M := hj; cases hj; exact g_of_okM ck_6_12
  | 13, hj => have hj : some (yX9_sum, cX9_sum, 4, none, 9, 0, 1, kX9_sum) = some M := hj; cases hj; exact g_of_okM ck_6_13
  | 14, hj => have hj : some (yX9_product, cX9_product, 4, none, 9, 0, 1, kX9_product) = some M := hj; cases hj; exact g_of_okM ck_6_14
  | 15, hj => have hj : some (yX9_operand, cX9_operand, 4, none, 9, 0, 1, kX9_operand) = some M := hj; cases hj; exact g_of_okM ck_6_15
  | n + 16, hj => cases hj
theorem cg_7 (j : Nat) (M : mMR) (hj : mM_7[j]? = some M) : g_M M ∧ g_MW M := by
  match j, hj with
  | 0, hj => have hj : some (yX10_init, cX10_init, 5, none, 10, 0, 4, kX10_init) = some M := hj; cases hj; exact g_of_okM ck_7_0
  | 1, hj => have hj : some (yX10_inForce, cX10_inForce, 4, (some .boolean), 10, 0, 3, kX10_inForce) = some M := hj; cases hj; exact g_of_okM ck_7_1
  | 2, hj => have hj : some (yX10_give, cX10_give, 7, (some .int), 10, 0, 2, kX10_give) = some M := hj; cases hj; exact g_of_okM ck_7_2
  | 3, hj => have hj : some (yX10_run, cX10_run, 8, (some .int), 10, 0, 4, kX10_run) = some M := hj; cases hj; exact g_of_okM ck_7_3
  | 4, hj => have hj : some (yX10_work, cX10_work, 3, (some .int), 10, 1, 3, kX10_work) = some M := hj; cases hj; exact g_of_okM ck_7_4
  | 5, hj => have hj : some (yX11_init, cX11_init, 1, none, 11, 0, 0, kX11_init) = some M := hj; cases hj; exact g_of_okM ck_7_5
  | 6, hj => have hj : some (yX11_town, cX11_town, 2, (some .int), 11, 0, 1, kX11_town) = some M := hj; cases hj; exact g_of_okM ck_7_6
  | 7, hj => have hj : some (yX11_road, cX11_road, 4, (some .int), 11, 0, 3, kX11_road) = some M := hj; cases hj; exact g_of_okM ck_7_7
  | 8, hj => have hj : some (yX11_far, cX11_far, 4, (some .int), 11, 0, 2, kX11_far) = some M := hj; cases hj; exact g_of_okM ck_7_8
  | 9, hj => have hj : some (yX11_hours, cX11_hours, 4, (some .int), 11, 0, 1, kX11_hours) = some M := hj; cases hj; exact g_of_okM ck_7_9
  | 10, hj => have hj : some (yX11_rain, cX11_rain, 4, (some .int), 11, 0, 2, kX11_rain) = some M := hj; cases hj; exact g_of_okM ck_7_10
  | 11, hj => have hj : some (yX11_type, cX11_type, 6, (some .int), 11, 0, 4, kX11_type) = some M := hj; cases hj; exact g_of_okM ck_7_11
  | 12, hj => have hj : some (yX11_instead, cX11_instead, 6, (some .int), 11, 0, 3, kX11_instead) = some M := hj; cases hj; exact g_of_okM ck_7_12
  | 13, hj => have hj : some (yX11_mark, cX11_mark, 6, (some .int), 11, 0, 3, kX11_mark) = some M := hj; cases hj; exact g_of_okM ck_7_13
  | 14, hj => have hj : some (yX11_machine, cX11_machine, 5, (some .int), 11, 0, 3, kX11_machine) = some M := hj; cases hj; exact g_of_okM ck_7_14
  | 15, hj => have hj : some (yX11_link, cX11_link, 5, (some .int), 11, 0, 3, kX11_link) = some M := hj; cases hj; exact g_of_okM ck_7_15
  | n + 16, hj => cases hj
theorem cg_8 (j : Nat) (M : mMR) (hj : mM_8[j]? = some M) : g_M M ∧ g_MW M := by
  match j, hj with
  | 0, hj => have hj : some (yX11_ofMachine, cX11_ofMachine, 4, (some .int), 11, 0, 2, kX11_ofMachine) = some M := hj; cases hj; exact g_of_okM ck_8_0
  | 1, hj => have hj : some (yX11_look, cX11_look, 4, (some .int), 11, 0, 2, kX11_look) = some M := hj; cases hj; exact g_of_okM ck_8_1
  | 2, hj => have hj : some (yX11_broken, cX11_broken, 4, (some .int), 11, 0, 2, kX11_broken) = some M := hj; cases hj; exact g_of_okM ck_8_2
  | 3, hj => have hj : some (yX11_gone, cX11_gone, 4, (some .int), 11, 0, 2, kX11_gone) = some M := hj; cases hj; exact g_of_okM ck_8_3
  | 4, hj => have hj : some (yX11_read, cX11_read, 5, (some .int), 11, 0, 2, kX11_read) = some M := hj; cases hj; exact g_of_okM ck_8_4
  | 5, hj => have hj : some (yX11_track, cX11_track, 3, (some .int), 11, 0, 2, kX11_track) = some M := hj; cases hj; exact g_of_okM ck_8_5
  | 6, hj => have hj : some (yX11_theft, cX11_theft, 4, (some .int), 11, 0, 2, kX11_theft) = some M := hj; cases hj; exact g_of_okM ck_8_6
  | 7, hj => have hj : some (yX11_customer, cX11_customer, 3, (some .int), 11, 0, 2, kX11_customer) = some M := hj; cases hj; exact g_of_okM ck_8_7
  | 8, hj => have hj : some (yX11_order, cX11_order, 9, (some .int), 11, 0, 5, kX11_order) = some M := hj; cases hj; exact g_of_okM ck_8_8
  | 9, hj => have hj : some (yX11_why, cX11_why, 5, (some .int), 11, 0, 2, kX11_why) = some M := hj; cases hj; exact g_of_okM ck_8_9
  | 10, hj => have hj : some (yX11_list, cX11_list, 3, (some .int), 11, 0, 1, kX11_list) = some M := hj; cases hj; exact g_of_okM ck_8_10
  | 11, hj => have hj : some (yX11_best, cX11_best, 3, (some .int), 11, 0, 0, kX11_best) = some M := hj; cases hj; exact g_of_okM ck_8_11
  | 12, hj => have hj : some (yX11_miles, cX11_miles, 1, (some .int), 11, 0, 0, kX11_miles) = some M := hj; cases hj; exact g_of_okM ck_8_12
  | 13, hj => have hj : some (yX11_round, cX11_round, 1, (some .int), 11, 0, 0, kX11_round) = some M := hj; cases hj; exact g_of_okM ck_8_13
  | 14, hj => have hj : some (yX11_stop, cX11_stop, 3, (some .int), 11, 0, 1, kX11_stop) = some M := hj; cases hj; exact g_of_okM ck_8_14
  | 15, hj => have hj : some (yX11_stopped, cX11_stopped, 3, (some .int), 11, 0, 1, kX11_stopped) = some M := hj; cases hj; exact g_of_okM ck_8_15
  | n + 16, hj => cases hj
theorem cg_9 (j : Nat) (M : mMR) (hj : mM_9[j]? = some M) : g_M M ∧ g_MW M := by
  match j, hj with
  | 0, hj => have hj : some (yX11_send, cX11_send, 5, (some .int), 11, 0, 1, kX11_send) = some M := hj; cases hj; exact g_of_okM ck_9_0
  | 1, hj => have hj : some (yX11_fetch, cX11_fetch, 6, (some .int), 11, 0, 2, kX11_fetch) = some M := hj; cases hj; exact g_of_okM ck_9_1
  | 2, hj => have hj : some (yX11_off, cX11_off, 3, (some .int), 11, 0, 1, kX11_off) = some M := hj; cases hj; exact g_of_okM ck_9_2
  | 3, hj => have hj : some (yX11_ofOrder, cX11_ofOrder, 4, (some .int), 11, 0, 2, kX11_ofOrder) = some M := hj; cases hj; exact g_of_okM ck_9_3
  | 4, hj => have hj : some (yX11_said, cX11_said, 5, (some .int), 11, 0, 3, kX11_said) = some M := hj; cases hj; exact g_of_okM ck_9_4
  | 5, hj => have hj : some (yX11_days, cX11_days, 4, (some .int), 11, 0, 2, kX11_days) = some M := hj; cases hj; exact g_of_okM ck_9_5
  | 6, hj => have hj : some (yX11_dayOf, cX11_dayOf, 4, (some .int), 11, 0, 2, kX11_dayOf) = some M := hj; cases hj; exact g_of_okM ck_9_6
  | 7, hj => have hj : some (yX11_feed, cX11_feed, 6, (some .int), 11, 0, 5, kX11_feed) = some M := hj; cases hj; exact g_of_okM ck_9_7
  | 8, hj => have hj : some (yX11_end, cX11_end, 2, (some .int), 11, 0, 1, kX11_end) = some M := hj; cases hj; exact g_of_okM ck_9_8
  | 9, hj => have hj : some (yX11_terms, cX11_terms, 4, (some .int), 11, 0, 2, kX11_terms) = some M := hj; cases hj; exact g_of_okM ck_9_9
  | 10, hj => have hj : some (yX11_gives, cX11_gives, 5, (some .int), 11, 0, 3, kX11_gives) = some M := hj; cases hj; exact g_of_okM ck_9_10
  | 11, hj => have hj : some (yX11_bill, cX11_bill, 6, (some .int), 11, 0, 3, kX11_bill) = some M := hj; cases hj; exact g_of_okM ck_9_11
  | 12, hj => have hj : some (yX11_next, cX11_next, 6, (some .int), 11, 0, 2, kX11_next) = some M := hj; cases hj; exact g_of_okM ck_9_12
  | 13, hj => have hj : some (yX11_looked, cX11_looked, 5, (some .int), 11, 0, 3, kX11_looked) = some M := hj; cases hj; exact g_of_okM ck_9_13
  | 14, hj => have hj : some (yX11_fuel, cX11_fuel, 5, (some .int), 11, 0, 3, kX11_fuel) = some M := hj; cases hj; exact g_of_okM ck_9_14
  | 15, hj => have hj : some (yX11_harm, cX11_harm, 4, (some .int), 11, 0, 2, kX11_harm) = some M := hj; cases hj; exact g_of_okM ck_9_15
  | n + 16, hj => cases hj
theorem cg_10 (j : Nat) (M : mMR) (hj : mM_10[j]? = some M) : g_M M ∧ g_MW M := by
  match j, hj with
  | 0, hj => have hj : some (yX11_share, cX11_share, 5, (some .int), 11, 0, 2, kX11_share) = some M := hj; cases hj; exact g_of_okM ck_10_0
  | 1, hj => have hj : some (yX11_chain, cX11_chain, 5, (some .int), 11, 0, 3, kX11_chain) = some M := hj; cases hj; exact g_of_okM ck_10_1
  | 2, hj => have hj : some (yX11_rank, cX11_rank, 4, (some .int), 11, 0, 2, kX11_rank) = some M := hj; cases hj; exact g_of_okM ck_10_2
  | 3, hj => have hj : some (yX11_idle, cX11_idle, 5, (some .int), 11, 0, 3, kX11_idle) = some M := hj; cases hj; exact g_of_okM ck_10_3
  | 4, hj => have hj : some (yX11_move, cX11_move, 9, (some .int), 11, 0, 1, kX11_move) = some M := hj; cases hj; exact g_of_okM ck_10_4
  | 5, hj => have hj : some (yX11_count, cX11_count, 2, (some .int), 11, 0, 1, kX11_count) = some M := hj; cases hj; exact g_of_okM ck_10_5
  | 6, hj => have hj : some (yX11_within, cX11_within, 3, (some .boolean), 11, 1, 3, kX11_within) = some M := hj; cases hj; exact g_of_okM ck_10_6
  | 7, hj => have hj : some (yX11_isFlag, cX11_isFlag, 1, (some .boolean), 11, 1, 1, kX11_isFlag) = some M := hj; cases hj; exact g_of_okM ck_10_7
  | 8, hj => have hj : some (yX11_kindOf, cX11_kindOf, 2, (some (.object "HireYard$Kind")), 11, 0, 1, kX11_kindOf) = some M := hj; cases hj; exact g_of_okM ck_10_8
  | 9, hj => have hj : some (yX11_machineOf, cX11_machineOf, 2, (some (.object "HireYard$Machine")), 11, 0, 1, kX11_machineOf) = some M := hj; cases hj; exact g_of_okM ck_10_9
  | 10, hj => have hj : some (yX11_orderOf, cX11_orderOf, 2, (some (.object "HireYard$Order")), 11, 0, 1, kX11_orderOf) = some M := hj; cases hj; exact g_of_okM ck_10_10
  | 11, hj => have hj : some (yX11_isCustomer, cX11_isCustomer, 2, (some .boolean), 11, 0, 1, kX11_isCustomer) = some M := hj; cases hj; exact g_of_okM ck_10_11
  | 12, hj => have hj : some (yX11_begunOrder, cX11_begunOrder, 3, (some (.object "HireYard$Order")), 11, 0, 1, kX11_begunOrder) = some M := hj; cases hj; exact g_of_okM ck_10_12
  | 13, hj => have hj : some (yX11_learn, cX11_learn, 2, none, 11, 0, 1, kX11_learn) = some M := hj; cases hj; exact g_of_okM ck_10_13
  | 14, hj => have hj : some (yX11_priceOf, cX11_priceOf, 3, (some .int), 11, 0, 2, kX11_priceOf) = some M := hj; cases hj; exact g_of_okM ck_10_14
  | 15, hj => have hj : some (yX11_idleIn, cX11_idleIn, 6, (some .int), 11, 0, 2, kX11_idleIn) = some M := hj; cases hj; exact g_of_okM ck_10_15
  | n + 16, hj => cases hj
theorem cg_11 (j : Nat) (M : mMR) (hj : mM_11[j]? = some M) : g_M M ∧ g_MW M := by
  match j, hj with
  | 0, hj => have hj : some (yX11_wantedIn, cX11_wantedIn, 6, (some .int), 11, 0, 2, kX11_wantedIn) = some M := hj; cases hj; exact g_of_okM ck_11_0
  | 1, hj => have hj : some (yX11_machinesThatAre, cX11_machinesThatAre, 5, (some .int), 11, 0, 1, kX11_machinesThatAre) = some M := hj; cases hj; exact g_of_okM ck_11_1
  | 2, hj => have hj : some (yX11_ordersThatAre, cX11_ordersThatAre, 5, (some .int), 11, 0, 1, kX11_ordersThatAre) = some M := hj; cases hj; exact g_of_okM ck_11_2
  | 3, hj => have hj : some (yX12_init, cX12_init, 1, none, 12, 0, 0, kX12_init) = some M := hj; cases hj; exact g_of_okM ck_11_3
  | 4, hj => have hj : some (yX12_in, cX12_in, 3, (some .boolean), 12, 1, 3, kX12_in) = some M := hj; cases hj; exact g_of_okM ck_11_4
  | 5, hj => have hj : some (yX12_isDay, cX12_isDay, 1, (some .boolean), 12, 1, 1, kX12_isDay) = some M := hj; cases hj; exact g_of_okM ck_11_5
  | 6, hj => have hj : some (yX12_today, cX12_today, 1, (some .int), 12, 0, 0, kX12_today) = some M := hj; cases hj; exact g_of_okM ck_11_6
  | 7, hj => have hj : some (yX12_isTown, cX12_isTown, 2, (some .boolean), 12, 0, 1, kX12_isTown) = some M := hj; cases hj; exact g_of_okM ck_11_7
  | 8, hj => have hj : some (yX12_farOf, cX12_farOf, 3, (some .int), 12, 0, 2, kX12_farOf) = some M := hj; cases hj; exact g_of_okM ck_11_8
  | 9, hj => have hj : some (yX12_findFars, cX12_findFars, 5, none, 12, 0, 0, kX12_findFars) = some M := hj; cases hj; exact g_of_okM ck_11_9
  | 10, hj => have hj : some (yX12_town, cX12_town, 2, (some .int), 12, 0, 1, kX12_town) = some M := hj; cases hj; exact g_of_okM ck_11_10
  | 11, hj => have hj : some (yX12_road, cX12_road, 6, (some .int), 12, 0, 3, kX12_road) = some M := hj; cases hj; exact g_of_okM ck_11_11
  | 12, hj => have hj : some (yX12_far, cX12_far, 3, (some .int), 12, 0, 2, kX12_far) = some M := hj; cases hj; exact g_of_okM ck_11_12
  | 13, hj => have hj : some (yX12_rain, cX12_rain, 4, (some .int), 12, 0, 2, kX12_rain) = some M := hj; cases hj; exact g_of_okM ck_11_13
  | 14, hj => have hj : some (yX12_isType, cX12_isType, 2, (some .boolean), 12, 0, 1, kX12_isType) = some M := hj; cases hj; exact g_of_okM ck_11_14
  | 15, hj => have hj : some (yX12_isMachine, cX12_isMachine, 2, (some .boolean), 12, 0, 1, kX12_isMachine) = some M := hj; cases hj; exact g_of_okM ck_11_15
  | n + 16, hj => cases hj
theorem cg_12 (j : Nat) (M : mMR) (hj : mM_12[j]? = some M) : g_M M ∧ g_MW M := by
  match j, hj with
  | 0, hj => have hj : some (yX12_type, cX12_type, 5, (some .int), 12, 0, 4, kX12_type) = some M := hj; cases hj; exact g_of_okM ck_12_0
  | 1, hj => have hj : some (yX12_instead, cX12_instead, 5, (some .int), 12, 0, 3, kX12_instead) = some M := hj; cases hj; exact g_of_okM ck_12_1
  | 2, hj => have hj : some (yX12_mark, cX12_mark, 5, (some .int), 12, 0, 3, kX12_mark) = some M := hj; cases hj; exact g_of_okM ck_12_2
  | 3, hj => have hj : some (yX12_addReading, cX12_addReading, 3, none, 12, 0, 2, kX12_addReading) = some M := hj; cases hj; exact g_of_okM ck_12_3
  | 4, hj => have hj : some (yX12_readBy, cX12_readBy, 4, (some .int), 12, 0, 2, kX12_readBy) = some M := hj; cases hj; exact g_of_okM ck_12_4
  | 5, hj => have hj : some (yX12_readFrom, cX12_readFrom, 4, (some .int), 12, 0, 2, kX12_readFrom) = some M := hj; cases hj; exact g_of_okM ck_12_5
  | 6, hj => have hj : some (yX12_machine, cX12_machine, 5, (some .int), 12, 0, 3, kX12_machine) = some M := hj; cases hj; exact g_of_okM ck_12_6
  | 7, hj => have hj : some (yX12_link, cX12_link, 4, (some .int), 12, 0, 3, kX12_link) = some M := hj; cases hj; exact g_of_okM ck_12_7
  | 8, hj => have hj : some (yX12_sinceLook, cX12_sinceLook, 2, (some .int), 12, 0, 1, kX12_sinceLook) = some M := hj; cases hj; exact g_of_okM ck_12_8
  | 9, hj => have hj : some (yX12_isDue, cX12_isDue, 2, (some .boolean), 12, 0, 1, kX12_isDue) = some M := hj; cases hj; exact g_of_okM ck_12_9
  | 10, hj => have hj : some (yX12_lapses, cX12_lapses, 3, (some .boolean), 12, 0, 2, kX12_lapses) = some M := hj; cases hj; exact g_of_okM ck_12_10
  | 11, hj => have hj : some (yX12_ofMachine, cX12_ofMachine, 4, (some .int), 12, 0, 2, kX12_ofMachine) = some M := hj; cases hj; exact g_of_okM ck_12_11
  | 12, hj => have hj : some (yX12_isFree, cX12_isFree, 2, (some .boolean), 12, 0, 1, kX12_isFree) = some M := hj; cases hj; exact g_of_okM ck_12_12
  | 13, hj => have hj : some (yX12_look, cX12_look, 3, (some .int), 12, 0, 2, kX12_look) = some M := hj; cases hj; exact g_of_okM ck_12_13
  | 14, hj => have hj : some (yX12_endSpan, cX12_endSpan, 3, none, 12, 0, 1, kX12_endSpan) = some M := hj; cases hj; exact g_of_okM ck_12_14
  | 15, hj => have hj : some (yX12_broken, cX12_broken, 3, (some .int), 12, 0, 2, kX12_broken) = some M := hj; cases hj; exact g_of_okM ck_12_15
  | n + 16, hj => cases hj
theorem cg_13 (j : Nat) (M : mMR) (hj : mM_13[j]? = some M) : g_M M ∧ g_MW M := by
  match j, hj with
  | 0, hj => have hj : some (yX12_gone, cX12_gone, 4, (some .int), 12, 0, 2, kX12_gone) = some M := hj; cases hj; exact g_of_okM ck_13_0
  | 1, hj => have hj : some (yX12_read, cX12_read, 4, (some .int), 12, 0, 2, kX12_read) = some M := hj; cases hj; exact g_of_okM ck_13_1
  | 2, hj => have hj : some (yX12_track, cX12_track, 3, (some .int), 12, 0, 2, kX12_track) = some M := hj; cases hj; exact g_of_okM ck_13_2
  | 3, hj => have hj : some (yX12_theft, cX12_theft, 5, (some .int), 12, 0, 2, kX12_theft) = some M := hj; cases hj; exact g_of_okM ck_13_3
  | 4, hj => have hj : some (yX12_hours, cX12_hours, 3, (some .int), 12, 0, 1, kX12_hours) = some M := hj; cases hj; exact g_of_okM ck_13_4
  | 5, hj => have hj : some (yX12_arrive, cX12_arrive, 2, none, 12, 0, 1, kX12_arrive) = some M := hj; cases hj; exact g_of_okM ck_13_5
  | 6, hj => have hj : some (yX12_load, cX12_load, 5, none, 12, 0, 3, kX12_load) = some M := hj; cases hj; exact g_of_okM ck_13_6
  | 7, hj => have hj : some (yX12_isCustomer, cX12_isCustomer, 2, (some .boolean), 12, 0, 1, kX12_isCustomer) = some M := hj; cases hj; exact g_of_okM ck_13_7
  | 8, hj => have hj : some (yX12_isOrder, cX12_isOrder, 2, (some .boolean), 12, 0, 1, kX12_isOrder) = some M := hj; cases hj; exact g_of_okM ck_13_8
  | 9, hj => have hj : some (yX12_customer, cX12_customer, 3, (some .int), 12, 0, 2, kX12_customer) = some M := hj; cases hj; exact g_of_okM ck_13_9
  | 10, hj => have hj : some (yX12_order, cX12_order, 8, (some .int), 12, 0, 5, kX12_order) = some M := hj; cases hj; exact g_of_okM ck_13_10
  | 11, hj => have hj : some (yX12_townOfOrder, cX12_townOfOrder, 2, (some .int), 12, 0, 1, kX12_townOfOrder) = some M := hj; cases hj; exact g_of_okM ck_13_11
  | 12, hj => have hj : some (yX12_whyNot, cX12_whyNot, 5, (some .int), 12, 0, 2, kX12_whyNot) = some M := hj; cases hj; exact g_of_okM ck_13_12
  | 13, hj => have hj : some (yX12_why, cX12_why, 3, (some .int), 12, 0, 2, kX12_why) = some M := hj; cases hj; exact g_of_okM ck_13_13
  | 14, hj => have hj : some (yX12_list, cX12_list, 3, (some .int), 12, 0, 1, kX12_list) = some M := hj; cases hj; exact g_of_okM ck_13_14
  | 15, hj => have hj : some (yX12_mayHave, cX12_mayHave, 3, (some .boolean), 12, 0, 2, kX12_mayHave) = some M := hj; cases hj; exact g_of_okM ck_13_15
  | n + 16, hj => cases hj
theorem cg_14 (j : Nat) (M : mMR) (hj : mM_14[j]? = some M) : g_M M ∧ g_MW M := by
  match j, hj with
  | 0, hj => have hj : some (yX12_findWorths, cX12_findWorths, 3, none, 12, 0, 0, kX12_findWorths) = some M := hj; cases hj; exact g_of_okM ck_14_0
  | 1, hj => have hj : some (yX12_worthBy, cX12_worthBy, 3, (some .long), 12, 0, 2, kX12_worthBy) = some M := hj; cases hj; exact g_of_okM ck_14_1
  | 2, hj => have hj : some (yX12_most, cX12_most, 8, (some .long), 12, 0, 1, kX12_most) = some M := hj; cases hj; exact g_of_okM ck_14_2
  | 3, hj => have hj : some (yX12_best, cX12_best, 6, (some .int), 12, 0, 0, kX12_best) = some M := hj; cases hj; exact g_of_okM ck_14_3
  | 4, hj => have hj : some (yX12_miles, cX12_miles, 1, (some .int), 12, 0, 0, kX12_miles) = some M := hj; cases hj; exact g_of_okM ck_14_4
  | 5, hj => have hj : some (yX12_isPromised, cX12_isPromised, 2, (some .boolean), 12, 0, 1, kX12_isPromised) = some M := hj; cases hj; exact g_of_okM ck_14_5
  | 6, hj => have hj : some (yX12_stop, cX12_stop, 3, (some .int), 12, 0, 1, kX12_stop) = some M := hj; cases hj; exact g_of_okM ck_14_6
  | 7, hj => have hj : some (yX12_milesOfRow, cX12_milesOfRow, 6, (some .int), 12, 0, 1, kX12_milesOfRow) = some M := hj; cases hj; exact g_of_okM ck_14_7
  | 8, hj => have hj : some (yX12_isUsed, cX12_isUsed, 3, (some .boolean), 12, 0, 1, kX12_isUsed) = some M := hj; cases hj; exact g_of_okM ck_14_8
  | 9, hj => have hj : some (yX12_round, cX12_round, 7, (some .int), 12, 0, 0, kX12_round) = some M := hj; cases hj; exact g_of_okM ck_14_9
  | 10, hj => have hj : some (yX12_stopped, cX12_stopped, 2, (some .int), 12, 0, 1, kX12_stopped) = some M := hj; cases hj; exact g_of_okM ck_14_10
  | 11, hj => have hj : some (yX12_send, cX12_send, 3, (some .int), 12, 0, 1, kX12_send) = some M := hj; cases hj; exact g_of_okM ck_14_11
  | 12, hj => have hj : some (yX12_hasBegun, cX12_hasBegun, 2, (some .boolean), 12, 0, 1, kX12_hasBegun) = some M := hj; cases hj; exact g_of_okM ck_14_12
  | 13, hj => have hj : some (yX12_fetch, cX12_fetch, 4, (some .int), 12, 0, 2, kX12_fetch) = some M := hj; cases hj; exact g_of_okM ck_14_13
  | 14, hj => have hj : some (yX12_off, cX12_off, 2, (some .int), 12, 0, 1, kX12_off) = some M := hj; cases hj; exact g_of_okM ck_14_14
  | 15, hj => have hj : some (yX12_ofOrder, cX12_ofOrder, 3, (some .int), 12, 0, 2, kX12_ofOrder) = some M := hj; cases hj; exact g_of_okM ck_14_15
  | n + 16, hj => cases hj
theorem cg_15 (j : Nat) (M : mMR) (hj : mM_15[j]? = some M) : g_M M ∧ g_MW M := by
  match j, hj with
  | 0, hj => have hj : some (yX12_endOf, cX12_endOf, 2, (some .int), 12, 0, 1, kX12_endOf) = some M := hj; cases hj; exact g_of_okM ck_15_0
  | 1, hj => have hj : some (yX12_daysOf, cX12_daysOf, 2, (some .int), 12, 0, 1, kX12_daysOf) = some M := hj; cases hj; exact g_of_okM ck_15_1
  | 2, hj => have hj : some (yX12_said, cX12_said, 4, (some .int), 12, 0, 3, kX12_said) = some M := hj; cases hj; exact g_of_okM ck_15_2
  | 3, hj => have hj : some (yX12_dayIs, cX12_dayIs, 10, (some .int), 12, 0, 2, kX12_dayIs) = some M := hj; cases hj; exact g_of_okM ck_15_3
  | 4, hj => have hj : some (yX12_worked, cX12_worked, 6, (some .int), 12, 0, 2, kX12_worked) = some M := hj; cases hj; exact g_of_okM ck_15_4
  | 5, hj => have hj : some (yX12_days, cX12_days, 3, (some .int), 12, 0, 2, kX12_days) = some M := hj; cases hj; exact g_of_okM ck_15_5
  | 6, hj => have hj : some (yX12_dayOf, cX12_dayOf, 3, (some .int), 12, 0, 2, kX12_dayOf) = some M := hj; cases hj; exact g_of_okM ck_15_6
  | 7, hj => have hj : some (yX12_feed, cX12_feed, 6, (some .int), 12, 0, 5, kX12_feed) = some M := hj; cases hj; exact g_of_okM ck_15_7
  | 8, hj => have hj : some (yX12_feedOne, cX12_feedOne, 3, none, 12, 0, 1, kX12_feedOne) = some M := hj; cases hj; exact g_of_okM ck_15_8
  | 9, hj => have hj : some (yX12_end, cX12_end, 2, (some .int), 12, 0, 1, kX12_end) = some M := hj; cases hj; exact g_of_okM ck_15_9
  | 10, hj => have hj : some (yX12_isLetter, cX12_isLetter, 1, (some .boolean), 12, 1, 1, kX12_isLetter) = some M := hj; cases hj; exact g_of_okM ck_15_10
  | 11, hj => have hj : some (yX12_isDigit, cX12_isDigit, 1, (some .boolean), 12, 1, 1, kX12_isDigit) = some M := hj; cases hj; exact g_of_okM ck_15_11
  | 12, hj => have hj : some (yX12_nextToken, cX12_nextToken, 1, none, 12, 0, 0, kX12_nextToken) = some M := hj; cases hj; exact g_of_okM ck_15_12
  | 13, hj => have hj : some (yX12_isWord, cX12_isWord, 6, (some .boolean), 12, 0, 1, kX12_isWord) = some M := hj; cases hj; exact g_of_okM ck_15_13
  | 14, hj => have hj : some (yX12_wrong, cX12_wrong, 1, none, 12, 0, 0, kX12_wrong) = some M := hj; cases hj; exact g_of_okM ck_15_14
  | 15, hj => have hj : some (yX12_lay, cX12_lay, 4, none, 12, 0, 3, kX12_lay) = some M := hj; cases hj; exact g_of_okM ck_15_15
  | n + 16, hj => cases hj
theorem cg_16 (j : Nat) (M : mMR) (hj : mM_16[j]? = some M) : g_M M ∧ g_MW M := by
  match j, hj with
  | 0, hj => have hj : some (yX12_takes, cX12_takes, 2, (some .boolean), 12, 0, 1, kX12_takes) = some M := hj; cases hj; exact g_of_okM ck_16_0
  | 1, hj => have hj : some (yX12_opens, cX12_opens, 1, (some .boolean), 12, 0, 0, kX12_opens) = some M := hj; cases hj; exact g_of_okM ck_16_1
  | 2, hj => have hj : some (yX12_closes, cX12_closes, 1, (some .boolean), 12, 0, 0, kX12_closes) = some M := hj; cases hj; exact g_of_okM ck_16_2
  | 3, hj => have hj : some (yX12_nameOf, cX12_nameOf, 2, (some .int), 12, 0, 0, kX12_nameOf) = some M := hj; cases hj; exact g_of_okM ck_16_3
  | 4, hj => have hj : some (yX12_operand, cX12_operand, 2, none, 12, 0, 0, kX12_operand) = some M := hj; cases hj; exact g_of_okM ck_16_4
  | 5, hj => have hj : some (yX12_product, cX12_product, 2, none, 12, 0, 0, kX12_product) = some M := hj; cases hj; exact g_of_okM ck_16_5
  | 6, hj => have hj : some (yX12_sum, cX12_sum, 2, none, 12, 0, 0, kX12_sum) = some M := hj; cases hj; exact g_of_okM ck_16_6
  | 7, hj => have hj : some (yX12_step, cX12_step, 3, none, 12, 0, 0, kX12_step) = some M := hj; cases hj; exact g_of_okM ck_16_7
  | 8, hj => have hj : some (yX12_terms, cX12_terms, 3, (some .int), 12, 0, 2, kX12_terms) = some M := hj; cases hj; exact g_of_okM ck_16_8
  | 9, hj => have hj : some (yX12_both, cX12_both, 3, (some .int), 12, 1, 3, kX12_both) = some M := hj; cases hj; exact g_of_okM ck_16_9
  | 10, hj => have hj : some (yX12_works, cX12_works, 6, (some .int), 12, 0, 1, kX12_works) = some M := hj; cases hj; exact g_of_okM ck_16_10
  | 11, hj => have hj : some (yX12_hoursOf, cX12_hoursOf, 4, (some .int), 12, 0, 1, kX12_hoursOf) = some M := hj; cases hj; exact g_of_okM ck_16_11
  | 12, hj => have hj : some (yX12_rainOf, cX12_rainOf, 4, (some .int), 12, 0, 1, kX12_rainOf) = some M := hj; cases hj; exact g_of_okM ck_16_12
  | 13, hj => have hj : some (yX12_brokenOf, cX12_brokenOf, 7, (some .int), 12, 0, 1, kX12_brokenOf) = some M := hj; cases hj; exact g_of_okM ck_16_13
  | 14, hj => have hj : some (yX12_marksFound, cX12_marksFound, 2, (some .int), 12, 0, 1, kX12_marksFound) = some M := hj; cases hj; exact g_of_okM ck_16_14
  | 15, hj => have hj : some (yX12_harmOf, cX12_harmOf, 4, (some .int), 12, 0, 1, kX12_harmOf) = some M := hj; cases hj; exact g_of_okM ck_16_15
  | n + 16, hj => cases hj
theorem cg_17 (j : Nat) (M : mMR) (hj : mM_17[j]? = some M) : g_M M ∧ g_MW M := by
  match j, hj with
  | 0, hj => have hj : some (yX12_fuelOf, cX12_fuelOf, 2, (some .int), 12, 0, 1, kX12_fuelOf) = some M := hj; cases hj; exact g_of_okM ck_17_0
  | 1, hj => have hj : some (yX12_tell, cX12_tell, 6, none, 12, 0, 3, kX12_tell) = some M := hj; cases hj; exact g_of_okM ck_17_1
  | 2, hj => have hj : some (yX12_gives, cX12_gives, 4, (some .int), 12, 0, 3, kX12_gives) = some M := hj; cases hj; exact g_of_okM ck_17_2
  | 3, hj => have hj : some (yX12_lesser, cX12_lesser, 8, (some .int), 12, 0, 3, kX12_lesser) = some M := hj; cases hj; exact g_of_okM ck_17_3
  | 4, hj => have hj : some (yX12_bill, cX12_bill, 5, (some .int), 12, 0, 3, kX12_bill) = some M := hj; cases hj; exact g_of_okM ck_17_4
  | 5, hj => have hj : some (yX12_next, cX12_next, 5, (some .int), 12, 0, 2, kX12_next) = some M := hj; cases hj; exact g_of_okM ck_17_5
  | 6, hj => have hj : some (yX12_mayTell, cX12_mayTell, 3, (some .boolean), 12, 0, 2, kX12_mayTell) = some M := hj; cases hj; exact g_of_okM ck_17_6
  | 7, hj => have hj : some (yX12_looked, cX12_looked, 4, (some .int), 12, 0, 3, kX12_looked) = some M := hj; cases hj; exact g_of_okM ck_17_7
  | 8, hj => have hj : some (yX12_fuel, cX12_fuel, 4, (some .int), 12, 0, 3, kX12_fuel) = some M := hj; cases hj; exact g_of_okM ck_17_8
  | 9, hj => have hj : some (yX12_harm, cX12_harm, 3, (some .int), 12, 0, 2, kX12_harm) = some M := hj; cases hj; exact g_of_okM ck_17_9
  | 10, hj => have hj : some (yX12_share, cX12_share, 5, (some .int), 12, 0, 2, kX12_share) = some M := hj; cases hj; exact g_of_okM ck_17_10
  | 11, hj => have hj : some (yX12_chain, cX12_chain, 4, (some .int), 12, 0, 3, kX12_chain) = some M := hj; cases hj; exact g_of_okM ck_17_11
  | 12, hj => have hj : some (yX12_rank, cX12_rank, 3, (some .int), 12, 0, 2, kX12_rank) = some M := hj; cases hj; exact g_of_okM ck_17_12
  | 13, hj => have hj : some (yX12_idleOf, cX12_idleOf, 5, (some .int), 12, 0, 2, kX12_idleOf) = some M := hj; cases hj; exact g_of_okM ck_17_13
  | 14, hj => have hj : some (yX12_wantedOf, cX12_wantedOf, 5, (some .int), 12, 0, 2, kX12_wantedOf) = some M := hj; cases hj; exact g_of_okM ck_17_14
  | 15, hj => have hj : some (yX12_idle, cX12_idle, 4, (some .int), 12, 0, 3, kX12_idle) = some M := hj; cases hj; exact g_of_okM ck_17_15
  | n + 16, hj => cases hj
theorem cg_18 (j : Nat) (M : mMR) (hj : mM_18[j]? = some M) (hn : j < 4) : g_M M ∧ g_MW M := by
  match j, hj, hn with
  | 0, hj, _ => have hj : some (yX12_move, cX12_move, 8, (some .int), 12, 0, 1, kX12_move) = some M := hj; cases hj; exact g_of_okM ck_18_0
  | 1, hj, _ => have hj : some (yX12_count, cX12_count, 4, (some .int), 12, 0, 1, kX12_count) = some M := hj; cases hj; exact g_of_okM ck_18_1
  | 2, hj, _ => have hj : some (yJ7_fill_d0a16, cJ7_fill_d0a16, 5, none, 15, 1, 2, kJ7_fill_d0a16) = some M := hj; cases hj; exact g_of_okM ck_18_2
  | 3, hj, _ => have hj : some (yJ7_copyOf_59c91, cJ7_copyOf_59c91, 3, (some (.array .int)), 15, 1, 2, kJ7_copyOf_59c91) = some M := hj; cases hj; exact g_of_okM ck_18_3
  | 4, _, hn => omega
  | n + 5, hj, hn => omega
theorem mchk (m : Nat) (M : mMR) (h : mrec m = some M) (hm : m < mLaw) : g_M M ∧ g_MW M := by
  have hm : m < 292 := hm
  unfold mrec at h
  split at h
  · rename_i l hl
    have hc : m / 16 < 19 := by omega
    have hj : m / 16 = 18 → m % 16 < 4 := by omega
    generalize m / 16 = c at hl hc hj
    generalize m % 16 = j at h hj
    match c, hc, hl, hj with
    | 0, _, hl, _ => have hl : some mM_0 = some l := hl; cases hl; exact cg_0 j M h
    | 1, _, hl, _ => have hl : some mM_1 = some l := hl; cases hl; exact cg_1 j M h
    | 2, _, hl, _ => have hl : some mM_2 = some l := hl; cases hl; exact cg_2 j M h
    | 3, _, hl, _ => have hl : some mM_3 = some l := hl; cases hl; exact cg_3 j M h
    | 4, _, hl, _ => have hl : some mM_4 = some l := hl; cases hl; exact cg_4 j M h
    | 5, _, hl, _ => have hl : some mM_5 = some l := hl; cases hl; exact cg_5 j M h
    | 6, _, hl, _ => have hl : some mM_6 = some l := hl; cases hl; exact cg_6 j M h
    | 7, _, hl, _ => have hl : some mM_7 = some l := hl; cases hl; exact cg_7 j M h
    | 8, _, hl, _ => have hl : some mM_8 = some l := hl; cases hl; exact cg_8 j M h
    | 9, _, hl, _ => have hl : some mM_9 = some l := hl; cases hl; exact cg_9 j M h
    | 10, _, hl, _ => have hl : some mM_10 = some l := hl; cases hl; exact cg_10 j M h
    | 11, _, hl, _ => have hl : some mM_11 = some l := hl; cases hl; exact cg_11 j M h
    | 12, _, hl, _ => have hl : some mM_12 = some l := hl; cases hl; exact cg_12 j M h
    | 13, _, hl, _ => have hl : some mM_13 = some l := hl; cases hl; exact cg_13 j M h
    | 14, _, hl, _ => have hl : some mM_14 = some l := hl; cases hl; exact cg_14 j M h
    | 15, _, hl, _ => have hl : some mM_15 = some l := hl; cases hl; exact cg_15 j M h
    | 16, _, hl, _ => have hl : some mM_16 = some l := hl; cases hl; exact cg_16 j M h
    | 17, _, hl, _ => have hl : some mM_17 = some l := hl; cases hl; exact cg_17 j M h
    | 18, _, hl, hj => have hl : some mM_18 = some l := hl; cases hl; exact cg_18 j M h (hj rfl)
    | n + 19, hc, _, _ => omega
  · cases h
theorem hlaw : ∃ M, mrec mLaw = some M ∧ g_M M ∧ M.1.cls = R_law ∧ M.1.name ≠ "<init>" ∧ M.2.1 = code ∧ M.2.2.1 = 4 ∧ M.2.2.2.1 = ret :=
  ⟨(yL_law, cL_law, 4, (some .boolean), 13, 1, 1, kL_law), rfl, ⟨cc_18_4, by decide +kernel⟩, rfl, by decide +kernel, rfl, rfl, rfl⟩
end
section
def sxk (a z : Int) : Bool := sx 6 3500 ([((0, [(6, 63)]), (a, z))], []) [(mLaw, 0, ylent [.inr (.ref 0)] 4, [])] []
set_option maxRecDepth 100000 in
theorem sx_k0 : sxk 0 0 = true := by decide +kernel
set_option maxRecDepth 100000 in
theorem sx_k1 : sxk 1 1 = true := by decide +kernel
set_option maxRecDepth 100000 in
theorem sx_k2 : sxk 2 2 = true := by decide +kernel
set_option maxRecDepth 100000 in
theorem sx_k3 : sxk 3 3 = true := by decide +kernel
set_option maxRecDepth 100000 in
theorem sx_k4 : sxk 4 4 = true := by decide +kernel
set_option maxRecDepth 100000 in
theorem sx_k5 : sxk 5 5 = true := by decide +kernel
set_option maxRecDepth 100000 in
theorem sx_k6 : sxk 6 6 = true := by decide +kernel
set_option maxRecDepth 100000 in
theorem sx_k7 : sxk 7 7 = true := by decide +kernel
set_option maxRecDepth 100000 in
theorem sx_k8 : sxk 8 8 = true := by decide +kernel
set_option maxRecDepth 100000 in
theorem sx_k9 : sxk 9 9 = true := by decide +kernel
set_option maxRecDepth 100000 in
theorem sx_k10 : sxk 10 10 = true := by decide +kernel
set_option maxRecDepth 100000 in
theorem sx_k11 : sxk 11 11 = true := by decide +kernel
set_option maxRecDepth 100000 in
theorem sx_k12 : sxk 12 12 = true := by decide +kernel
set_option maxRecDepth 100000 in
theorem sx_k13 : sxk 13 13 = true := by decide +kernel
set_option maxRecDepth 100000 in
theorem sx_k14 : sxk 14 14 = true := by decide +kernel
set_option maxRecDepth 100000 in
theorem sx_k15 : sxk 15 15 = true := by decide +kernel
set_option maxRecDepth 100000 in
theorem sx_k16 : sxk 16 16 = true := by decide +kernel
set_option maxRecDepth 100000 in
theorem sx_k17 : sxk 17 17 = true := by decide +kernel
set_option maxRecDepth 100000 in
theorem sx_k18 : sxk 18 18 = true := by decide +kernel
set_option maxRecDepth 100000 in
theorem sx_k19 : sxk 19 19 = true := by decide +kernel
set_option maxRecDepth 100000 in
theorem sx_k20 : sxk 20 20 = true := by decide +kernel
set_option maxRecDepth 100000 in
theorem sx_k21 : sxk 21 21 = true := by decide +kernel
set_option maxRecDepth 100000 in
theorem sx_k22 : sxk 22 22 = true := by decide +kernel
set_option maxRecDepth 100000 in
theorem sx_k23 : sxk 23 23 = true := by decide +kernel
end
section
set_option maxRecDepth 100000 in
theorem sx_k24 : sxk 24 24 = true := by decide +kernel
set_option maxRecDepth 100000 in
theorem sx_k25 : sxk 25 25 = true := by decide +kernel
set_option maxRecDepth 100000 in
theorem sx_k26 : sxk 26 26 = true := by decide +kernel
set_option maxRecDepth 100000 in
theorem sx_k27 : sxk 27 27 = true := by decide +kernel
set_option maxRecDepth 100000 in
theorem sx_k28 : sxk 28 28 = true := by decide +kernel
set_option maxRecDepth 100000 in
theorem sx_k29 : sxk 29 29 = true := by decide +kernel
set_option maxRecDepth 100000 in
theorem sx_k30 : sxk 30 30 = true := by decide +kernel
set_option maxRecDepth 100000 in
theorem sx_k31 : sxk 31 31 = true := by decide +kernel
set_option maxRecDepth 100000 in
theorem sx_k32 : sxk 32 32 = true := by decide +kernel
set_option maxRecDepth 100000 in
theorem sx_k33 : sxk 33 33 = true := by decide +kernel
set_option maxRecDepth 100000 in
theorem sx_k34 : sxk 34 34 = true := by decide +kernel
set_option maxRecDepth 100000 in
theorem sx_k35 : sxk 35 35 = true := by decide +kernel
set_option maxRecDepth 100000 in
theorem sx_k36 : sxk 36 36 = true := by decide +kernel
set_option maxRecDepth 100000 in
theorem sx_k37 : sxk 37 37 = true := by decide +kernel
set_option maxRecDepth 100000 in
theorem sx_k38 : sxk 38 38 = true := by decide +kernel
set_option maxRecDepth 100000 in
theorem sx_k39 : sxk 39 39 = true := by decide +kernel
set_option maxRecDepth 100000 in
theorem sx_k40 : sxk 40 40 = true := by decide +kernel
set_option maxRecDepth 100000 in
theorem sx_k41 : sxk 41 41 = true := by decide +kernel
set_option maxRecDepth 100000 in
theorem sx_k42 : sxk 42 42 = true := by decide +kernel
set_option maxRecDepth 100000 in
theorem sx_k43 : sxk 43 43 = true := by decide +kernel
set_option maxRecDepth 100000 in
theorem sx_k44 : sxk 44 44 = true := by decide +kernel
set_option maxRecDepth 100000 in
theorem sx_k45 : sxk 45 45 = true := by decide +kernel
set_option maxRecDepth 100000 in
theorem sx_k46 : sxk 46 46 = true := by decide +kernel
set_option maxRecDepth 100000 in
theorem sx_k47 : sxk 47 47 = true := by decide +kernel
set_option maxRecDepth 100000 in
theorem sx_k48 : sxk 48 63 = true := by decide +kernel
set_option maxRecDepth 100000 in
theorem sx_L0 : sx 0 3500 ([], []) [(mLaw, 0, ylent [.inr (.ref 0)] 4, [])] [] = true := by decide +kernel
set_option maxRecDepth 100000 in
theorem sx_L1 : sx 1 3500 ([], []) [(mLaw, 0, ylent [.inr (.ref 0)] 4, [])] [] = true := by decide +kernel
set_option maxRecDepth 100000 in
theorem sx_L2 : sx 2 3500 ([], []) [(mLaw, 0, ylent [.inr (.ref 0)] 4, [])] [] = true := by decide +kernel
set_option maxRecDepth 100000 in
theorem sx_L3 : sx 3 3500 ([], []) [(mLaw, 0, ylent [.inr (.ref 0)] 4, [])] [] = true := by decide +kernel
set_option maxRecDepth 100000 in
theorem sx_L4 : sx 4 3500 ([], []) [(mLaw, 0, ylent [.inr (.ref 0)] 4, [])] [] = true := by decide +kernel
set_option maxRecDepth 100000 in
theorem sx_L5 : sx 5 3500 ([], []) [(mLaw, 0, ylent [.inr (.ref 0)] 4, [])] [] = true := by decide +kernel
end
section
/-! THE LAW, FOR EVERY SCRIPT OF AT MOST SIX INTS -/
theorem and63 (x : Int32) : ∃ k : Nat, k < 64 ∧ (x &&& 63).toInt = k := by
  have h : (x &&& 63).toBitVec.toNat ≤ 63 := by
    rw [Int32.toBitVec_and, BitVec.toNat_and]
    exact Nat.le_trans Nat.and_le_right (by decide)
  exact ⟨(x &&& 63).toBitVec.toNat, by omega, BitVec.toInt_eq_toNat_of_lt (by omega)⟩
theorem rF_nil {val : Nat → Int32} : rF val ([], []) := ⟨fun _ h => absurd h List.not_mem_nil, fun _ h => absurd h List.not_mem_nil⟩
theorem rF_k {val : Nat → Int32} {k : Nat} {a z : Int} (h : (val 0 &&& 63).toInt = k) (h1 : a ≤ k) (h2 : (k : Int) ≤ z) : rF val ([((0, [(6, 63)]), (a, z))], []) := by
  refine ⟨fun q hq => ?_, fun _ h => absurd h List.not_mem_nil⟩
  have e : q = ((0, [(6, 63)]), (a, z)) := List.mem_singleton.mp hq
  subst e
  show a ≤ (val 0 &&& 63).toInt ∧ (val 0 &&& 63).toInt ≤ z
  rw [h]
  exact ⟨h1, h2⟩
theorem run_6 (val : Nat → Int32) : ∃ f h1, mrun (mex 6 val) f 300 mLaw 0 (lent [.ref 0] 4) [] [] = some (some (.int 1), h1) ∧ h1.length ≤ 600000 ∧ mhs h1 ≤ 7302250 := by
  obtain ⟨k, hk, h⟩ := and63 (val 0)
  match k, hk, h with
  | 0, _, h => exact sx_run sx_k0 (rF_k h (by decide) (by decide))
  | 1, _, h => exact sx_run sx_k1 (rF_k h (by decide) (by decide))
  | 2, _, h => exact sx_run sx_k2 (rF_k h (by decide) (by decide))
  | 3, _, h => exact sx_run sx_k3 (rF_k h (by decide) (by decide))
  | 4, _, h => exact sx_run sx_k4 (rF_k h (by decide) (by decide))
  | 5, _, h => exact sx_run sx_k5 (rF_k h (by decide) (by decide))
  | 6, _, h => exact sx_run sx_k6 (rF_k h (by decide) (by decide))
  | 7, _, h => exact sx_run sx_k7 (rF_k h (by decide) (by decide))
  | 8, _, h => exact sx_run sx_k8 (rF_k h (by decide) (by decide))
  | 9, _, h => exact sx_run sx_k9 (rF_k h (by decide) (by decide))
  | 10, _, h => exact sx_run sx_k10 (rF_k h (by decide) (by decide))
  | 11, _, h => exact sx_run sx_k11 (rF_k h (by decide) (by decide))
  | 12, _, h => exact sx_run sx_k12 (rF_k h (by decide) (by decide))
  | 13, _, h => exact sx_run sx_k13 (rF_k h (by decide) (by decide))
  | 14, _, h => exact sx_run sx_k14 (rF_k h (by decide) (by decide))
  | 15, _, h => exact sx_run sx_k15 (rF_k h (by decide) (by decide))
  | 16, _, h => exact sx_run sx_k16 (rF_k h (by decide) (by decide))
  | 17, _, h => exact sx_run sx_k17 (rF_k h (by decide) (by decide))
  | 18, _, h => exact sx_run sx_k18 (rF_k h (by decide) (by decide))
  | 19, _, h => exact sx_run sx_k19 (rF_k h (by decide) (by decide))
  | 20, _, h => exact sx_run sx_k20 (rF_k h (by decide) (by decide))
  | 21, _, h => exact sx_run sx_k21 (rF_k h (by decide) (by decide))
  | 22, _, h => exact sx_run sx_k22 (rF_k h (by decide) (by decide))
  | 23, _, h => exact sx_run sx_k23 (rF_k h (by decide) (by decide))
  | 24, _, h => exact sx_run sx_k24 (rF_k h (by decide) (by decide))
  | 25, _, h => exact sx_run sx_k25 (rF_k h (by decide) (by decide))
  | 26, _, h => exact sx_run sx_k26 (rF_k h (by decide) (by decide))
  | 27, _, h => exact sx_run sx_k27 (rF_k h (by decide) (by decide))
  | 28, _, h => exact sx_run sx_k28 (rF_k h (by decide) (by decide))
  | 29, _, h => exact sx_run sx_k29 (rF_k h (by decide) (by decide))
  | 30, _, h => exact sx_run sx_k30 (rF_k h (by decide) (by decide))
  | 31, _, h => exact sx_run sx_k31 (rF_k h (by decide) (by decide))
  | 32, _, h => exact sx_run sx_k32 (rF_k h (by decide) (by decide))
  | 33, _, h => exact sx_run sx_k33 (rF_k h (by decide) (by decide))
  | 34, _, h => exact sx_run sx_k34 (rF_k h (by decide) (by decide))
  | 35, _, h => exact sx_run sx_k35 (rF_k h (by decide) (by decide))
  | 36, _, h => exact sx_run sx_k36 (rF_k h (by decide) (by decide))
  | 37, _, h => exact sx_run sx_k37 (rF_k h (by decide) (by decide))
  | 38, _, h => exact sx_run sx_k38 (rF_k h (by decide) (by decide))
  | 39, _, h => exact sx_run sx_k39 (rF_k h (by decide) (by decide))
  | 40, _, h => exact sx_run sx_k40 (rF_k h (by decide) (by decide))
  | 41, _, h => exact sx_run sx_k41 (rF_k h (by decide) (by decide))
  | 42, _, h => exact sx_run sx_k42 (rF_k h (by decide) (by decide))
  | 43, _, h => exact sx_run sx_k43 (rF_k h (by decide) (by decide))
  | 44, _, h => exact sx_run sx_k44 (rF_k h (by decide) (by decide))
  | 45, _, h => exact sx_run sx_k45 (rF_k h (by decide) (by decide))
  | 46, _, h => exact sx_run sx_k46 (rF_k h (by decide) (by decide))
  | 47, _, h => exact sx_run sx_k47 (rF_k h (by decide) (by decide))
  | n + 48, hk, h => exact sx_run sx_k48 (rF_k h (by omega) (by omega))
theorem run_any (L : Nat) (hL : L ≤ 6) (val : Nat → Int32) : ∃ f h1, mrun (mex L val) f 300 mLaw 0 (lent [.ref 0] 4) [] [] = some (some (.int 1), h1) ∧ h1.length ≤ 600000 ∧ mhs h1 ≤ 7302250 := by
  match L, hL with
  | 0, _ => exact sx_run sx_L0 rF_nil
  | 1, _ => exact sx_run sx_L1 rF_nil
  | 2, _ => exact sx_run sx_L2 rF_nil
  | 3, _ => exact sx_run sx_L3 rF_nil
  | 4, _ => exact sx_run sx_L4 rF_nil
  | 5, _ => exact sx_run sx_L5 rF_nil
  | 6, _ => exact run_6 val
  | n + 7, hL => omega
theorem whole_start {p : Program} {e : Env} {s : State} {m : MethodId} {below : List Frame} {meth : Method} {c : Code} (l : Launch) (hflags : l.flags = flags0) {b L : Nat} {xs : Nat → Int32} (hL : L ≤ 6) (C0 : lw_At p s m meth c b L xs) : W p l e room_1 s m #[Value.ref b] below meth c s.heap [] 0 0 (lw_Z below #[Value.ref b] s) (entryFrame m ([Value.ref b] : List Value).toArray 4) := by
  obtain ⟨f, h1, hr, hc, hs⟩ := run_any L hL xs
  exact whole_of_run mchk hlaw l C0 (by decide) (by decide) hr hc hs
end
section
-- ===== YOUR PART ENDS =====
set_option maxHeartbeats 4000000 in
theorem lw_walk (l : Launch) (hflags : l.flags = flags0) (b : Addr) (xs : List Int32) : MetFree l x (headSpec (Jvm.Cond.code x code maxLocals ret :: tables_1) room_1) (lw_P b xs) (fun _ _ _ _ _ => True) lw_Q := by
  refine MetFree.of_bodyS (code := code) (maxLocals := maxLocals) (ret := ret) (by decide) ?_ ?_
  · intro args s m h hn
    obtain ⟨meth, c, h1, h2, h3, h4, h5, h6, -, -⟩ := Cond.code_spec hn (atoms_spec (ws := Jvm.Cond.code x code maxLocals ret :: tables_1) h _ List.mem_cons_self)
    exact ⟨meth, c, h1, h2, h3, h4, h5, h6⟩
  · intro p e s m args below meth c s₁ B hml0 hP _
    obtain ⟨rfl, hx, hbd, hgv⟩ := hP
    obtain ⟨scr, harrAt, hlist, hof, hsmall⟩ := hx
    obtain ⟨hcb, hkn, -, -⟩ := State.arrayAt?_spec harrAt
    have hown : s.vm.findClass R_law = some m.cls := findClass_of_methodNamed B.named
    have hts0 : ∀ c ∈ (Jvm.Cond.code x code maxLocals ret :: tables_1), c.before #[Value.ref b] s = true := atoms_spec (ws := Jvm.Cond.code x code maxLocals ret :: tables_1) B.pre
    have hts : ∀ w ∈ lw_tbl, w.before #[Value.ref b] s = true := k2_hts_sels lw_privs (fun w hw => hts0 w (List.mem_cons_of_mem _ hw)) lw_privs_ok
    have hml : c.maxLocals = 4 := B.maxLocals_eq (hts0 _ List.mem_cons_self)
    have X₀ : Stand p l e room_1 s m #[Value.ref b] below meth c s₁ [] 0 0 := Stand.of_body B
    have hh0 : s₁.heap = s.heap := by rw [B.state]; rfl
    have hsz : scr.slots.size = xs.length := by rw [← Array.length_toList, hlist, List.length_map]
    have hval : ∀ j : Nat, j < xs.length → scr.slots[j]? = some (.int (xs.getD j 0)) := fun j hj => by
      rw [← Array.getElem?_toList, hlist]
      simp [hj]
    have hbl : b < s.heap.size := (Array.getElem?_eq_some_iff.mp hcb).1
    have hX : va_X b xs.length (fun j => xs.getD j 0) s s.heap := ⟨scr, hcb, hof, hkn, hsz, hval⟩
    have K : W p l e room_1 s m #[Value.ref b] below meth c s₁.heap [] 0 0 (lw_Z below #[Value.ref b] s) (entryFrame m ([Value.ref b] : List Value).toArray 4) := by
      rw [hh0]
      exact whole_start l hflags hbd ⟨B.exec, B.bytes, B.returns, hml, hown, hts, hX, hbl, B.notSynchronized, hgv⟩
    obtain ⟨t, a1, o, b1, b2, b3⟩ := K s₁ rfl X₀
    exact ⟨t, o, a1, b1, b2, b3⟩
theorem lw_pre_spec {args : Array Value} {s : State} (h : (Jvm.Cond.and given_1 narrow_1).before args s = true) (hr : rest_1_c.before args s = true) : ∃ (b : Addr) (xs : List Int32), lw_P b xs args s := by
  have hs := flat_of_before _ h
  have hq := flat_of_before _ hr
  have hc : (Cond.count 1).before args s = true := hs _ (by decide +kernel)
  have harr : (Cond.arrayOf (.arg 0) .int).before args s = true := hs _ (by decide +kernel)
  have hle : (Cond.le (.length (.arg 0)) (.int 6)).before args s = true := hs _ (by decide +kernel)
  have hlen : (Cond.isInt (.length (.arg 0))).before args s = true := hq _ (by decide +kernel)
  have hall : (Cond.all (.arg 0) (.isInt (.elem (.arg 0) (.index 0)))).before args s = true := hq _ (by decide +kernel)
  obtain ⟨b, xs, hb, hx⟩ := State.ints_of_pre rfl harr hlen hall
  have hsm : xs.length < 2 ^ 31 := hx.choose_spec.2.2.2
  have hev : (Term.length (.arg 0)).eval args s none [] s = some (.int xs.length.toInt32) := hx.length_eval hb
  have hv := Cond.le_ints hev (show (Term.int 6).eval args s none [] s = some (.int 6) from rfl)
  have hd : xs.length.toInt32 ≤ 6 := by
    simpa [Cond.before, Cond.holds, hv] using hle
  have hN : xs.length ≤ 6 := (Int32.ofNat_le_ofNat hsm (by decide)).mp (show Int32.ofNat xs.length ≤ Int32.ofNat 6 from hd)
  exact ⟨b, xs, Cond.one_arg hc (show args[0]? = some (.ref b) from hb), hx, hN, h⟩
theorem lw_comes (l : Launch) (hflags : l.flags = flags0) : Comes l x (Jvm.Cond.code x code maxLocals ret :: tables_1) room_1 (fun tb e args s => Calls_1 tb e args s ∧ rest_1 tb e args s ∧ Pre_1 tb e args s)
    (fun _ _ args s o t => lw_Q args s o t) := by
  intro p e ha hc hk s m args below hf hfit hheap happ hpre
  obtain ⟨b, xs, hP⟩ := lw_pre_spec hpre.2.2 hpre.2.1
  obtain ⟨k, o, h1, h2, h3, hQ⟩ := lw_walk l hflags b xs p e ha hc hk s m args below hf ((Spec.applies_iff_loose hf).mp happ).1 hP trivial
  exact ⟨k, o, h1, h2, h3, hQ⟩
theorem lw_frame {s t : State} {o : Outcome} {args : Array Value} (h : Framed s o t [] 600000 7302250) :
    Framed s o t (fieldLocs frame_1_writes args s ++ arrayLocs frame_1_arrays args s ++ staticLocs frame_1_statics s) 600000 7302250 := h
theorem lw_limb (L : Cond) (hL : ∀ (args : Array Value) (s t : State), L.after args s (.returned (some (.int 1))) t = true) :
    ArmFor flags0 classFile x code maxLocals ret World_1 tables_1 room_1 Calls_1 rest_1 Pre_1
      (fun tb e a s o t => postC L tb e a s o t ∧ Framed s o t (fieldLocs frame_1_writes a s ++ arrayLocs frame_1_arrays a s ++ staticLocs frame_1_statics s) 600000 7302250) := by
  intro l hflags _ _ p e ha hc hk s m args below hf hfit hheap happ hpre
  obtain ⟨k, o, h1, h2, h3, rfl, hF⟩ := lw_comes l hflags p e ha hc hk s m args below hf hfit hheap happ hpre
  exact ⟨k, _, h1, h2, h3, hL args s _, lw_frame hF⟩
theorem i_vc : Claimed_1_1 ∧ Claimed_1_2 := ⟨lw_limb limb_1_1 (fun args s t => by simp [limb_1_1, Cond.after, Cond.holds, Cond.value]), lw_limb limb_1_2 (fun args s t => Cond.after_iff.mpr (by
  first | (rw [show limb_1_2 = Cond.eq .result (.int 1) from rfl, Cond.eq_ints (x := 1) (y := 1) rfl rfl]; simp; done) | (simp [limb_1_2, Cond.value, Term.eval]; done)))⟩
end
