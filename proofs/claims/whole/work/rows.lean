section
-- ===== PART A: goes FIRST, ahead of the names: the tables' words, and 'selects' of the private methods out of them =====
/-- a private method of a class that the tables say can be made, by its rows of tables_1 -/
def lw_okq (q : MethodName × Nat) : Prop := (q.1.cls ≠ "java/lang/invoke/MethodHandle" ∧ q.1.cls ≠ "java/lang/invoke/VarHandle") ∧ Cond.instantiable q.1.cls q.2 ∈ tables_1 ∧ Cond.privateMethod q.1 ∈ tables_1 ∧ Cond.instanceMethod q.1 ∈ tables_1
theorem lw_p0 : lw_okq (⟨"LevyPhases$Orders", "readSign", "(C)Z"⟩, 7) := ⟨⟨by decide +kernel, by decide +kernel⟩, List.mem_of_getElem? (i := 127) (by decide +kernel), List.mem_of_getElem? (i := 198) (by decide +kernel), List.mem_of_getElem? (i := 199) (by decide +kernel)⟩
theorem lw_p1 : lw_okq (⟨"LevyPhases$Orders", "readOrder", "()Z"⟩, 7) := ⟨⟨by decide +kernel, by decide +kernel⟩, List.mem_of_getElem? (i := 127) (by decide +kernel), List.mem_of_getElem? (i := 202) (by decide +kernel), List.mem_of_getElem? (i := 203) (by decide +kernel)⟩
theorem lw_p2 : lw_okq (⟨"LevyPhases$Orders", "readPhase", "()Z"⟩, 7) := ⟨⟨by decide +kernel, by decide +kernel⟩, List.mem_of_getElem? (i := 127) (by decide +kernel), List.mem_of_getElem? (i := 206) (by decide +kernel), List.mem_of_getElem? (i := 207) (by decide +kernel)⟩
theorem lw_p3 : lw_okq (⟨"LevyPhases$Orders", "readDigit", "(II)I"⟩, 7) := ⟨⟨by decide +kernel, by decide +kernel⟩, List.mem_of_getElem? (i := 127) (by decide +kernel), List.mem_of_getElem? (i := 210) (by decide +kernel), List.mem_of_getElem? (i := 211) (by decide +kernel)⟩
theorem lw_p4 : lw_okq (⟨"LevyPhases$Orders", "isDigit", "(II)Z"⟩, 7) := ⟨⟨by decide +kernel, by decide +kernel⟩, List.mem_of_getElem? (i := 127) (by decide +kernel), List.mem_of_getElem? (i := 214) (by decide +kernel), List.mem_of_getElem? (i := 215) (by decide +kernel)⟩
theorem lw_p5 : lw_okq (⟨"LevyPhases$Orders", "readUse", "()Z"⟩, 7) := ⟨⟨by decide +kernel, by decide +kernel⟩, List.mem_of_getElem? (i := 127) (by decide +kernel), List.mem_of_getElem? (i := 218) (by decide +kernel), List.mem_of_getElem? (i := 219) (by decide +kernel)⟩
theorem lw_p6 : lw_okq (⟨"LevyPhases$Orders", "readNumber", "(II)Z"⟩, 7) := ⟨⟨by decide +kernel, by decide +kernel⟩, List.mem_of_getElem? (i := 127) (by decide +kernel), List.mem_of_getElem? (i := 222) (by decide +kernel), List.mem_of_getElem? (i := 223) (by decide +kernel)⟩
theorem lw_p7 : lw_okq (⟨"LevyPhases$Levy", "numberOf", "(LLevyPhases$Phase;I)I"⟩, 5) := ⟨⟨by decide +kernel, by decide +kernel⟩, List.mem_of_getElem? (i := 23) (by decide +kernel), List.mem_of_getElem? (i := 271) (by decide +kernel), List.mem_of_getElem? (i := 272) (by decide +kernel)⟩
theorem lw_p8 : lw_okq (⟨"java/lang/Throwable", "fillInStackTrace", "(I)Ljava/lang/Throwable;"⟩, 6) := ⟨⟨by decide +kernel, by decide +kernel⟩, List.mem_of_getElem? (i := 334) (by decide +kernel), List.mem_of_getElem? (i := 332) (by decide +kernel), List.mem_of_getElem? (i := 333) (by decide +kernel)⟩
theorem lw_p9 : lw_okq (⟨"LevyPhases", "hashOfPhase", "(JI)J"⟩, 5) := ⟨⟨by decide +kernel, by decide +kernel⟩, List.mem_of_getElem? (i := 15) (by decide +kernel), List.mem_of_getElem? (i := 364) (by decide +kernel), List.mem_of_getElem? (i := 365) (by decide +kernel)⟩
theorem lw_p10 : lw_okq (⟨"LevyPhases", "demandPhase", "(I)V"⟩, 5) := ⟨⟨by decide +kernel, by decide +kernel⟩, List.mem_of_getElem? (i := 15) (by decide +kernel), List.mem_of_getElem? (i := 372) (by decide +kernel), List.mem_of_getElem? (i := 373) (by decide +kernel)⟩
theorem lw_p11 : lw_okq (⟨"LevyPhases", "saveState", "()V"⟩, 5) := ⟨⟨by decide +kernel, by decide +kernel⟩, List.mem_of_getElem? (i := 15) (by decide +kernel), List.mem_of_getElem? (i := 514) (by decide +kernel), List.mem_of_getElem? (i := 515) (by decide +kernel)⟩
theorem lw_p12 : lw_okq (⟨"LevyPhases", "demandNoReason", "(III)V"⟩, 5) := ⟨⟨by decide +kernel, by decide +kernel⟩, List.mem_of_getElem? (i := 15) (by decide +kernel), List.mem_of_getElem? (i := 539) (by decide +kernel), List.mem_of_getElem? (i := 540) (by decide +kernel)⟩
theorem lw_p13 : lw_okq (⟨"LevyPhases$Phase", "settle", "(I)V"⟩, 13) := ⟨⟨by decide +kernel, by decide +kernel⟩, List.mem_of_getElem? (i := 41) (by decide +kernel), List.mem_of_getElem? (i := 617) (by decide +kernel), List.mem_of_getElem? (i := 618) (by decide +kernel)⟩
theorem lw_p14 : lw_okq (⟨"LevyPhases", "carryOutOrder", "()Z"⟩, 5) := ⟨⟨by decide +kernel, by decide +kernel⟩, List.mem_of_getElem? (i := 15) (by decide +kernel), List.mem_of_getElem? (i := 684) (by decide +kernel), List.mem_of_getElem? (i := 685) (by decide +kernel)⟩
theorem lw_p15 : lw_okq (⟨"LevyPhasesModel", "save", "()V"⟩, 12) := ⟨⟨by decide +kernel, by decide +kernel⟩, List.mem_of_getElem? (i := 745) (by decide +kernel), List.mem_of_getElem? (i := 796) (by decide +kernel), List.mem_of_getElem? (i := 797) (by decide +kernel)⟩
def lw_privs_1 : List (MethodName × Nat) := [(⟨"LevyPhases$Orders", "readSign", "(C)Z"⟩, 7), (⟨"LevyPhases$Orders", "readOrder", "()Z"⟩, 7), (⟨"LevyPhases$Orders", "readPhase", "()Z"⟩, 7), (⟨"LevyPhases$Orders", "readDigit", "(II)I"⟩, 7), (⟨"LevyPhases$Orders", "isDigit", "(II)Z"⟩, 7), (⟨"LevyPhases$Orders", "readUse", "()Z"⟩, 7), (⟨"LevyPhases$Orders", "readNumber", "(II)Z"⟩, 7), (⟨"LevyPhases$Levy", "numberOf", "(LLevyPhases$Phase;I)I"⟩, 5), (⟨"java/lang/Throwable", "fillInStackTrace", "(I)Ljava/lang/Throwable;"⟩, 6), (⟨"LevyPhases", "hashOfPhase", "(JI)J"⟩, 5), (⟨"LevyPhases", "demandPhase", "(I)V"⟩, 5), (⟨"LevyPhases", "saveState", "()V"⟩, 5), (⟨"LevyPhases", "demandNoReason", "(III)V"⟩, 5), (⟨"LevyPhases$Phase", "settle", "(I)V"⟩, 13), (⟨"LevyPhases", "carryOutOrder", "()Z"⟩, 5), (⟨"LevyPhasesModel", "save", "()V"⟩, 12)]
theorem lw_r1 : ∀ q ∈ lw_privs_1, lw_okq q := List.forall_mem_cons.mpr ⟨lw_p0, List.forall_mem_cons.mpr ⟨lw_p1, List.forall_mem_cons.mpr ⟨lw_p2, List.forall_mem_cons.mpr ⟨lw_p3, List.forall_mem_cons.mpr ⟨lw_p4, List.forall_mem_cons.mpr ⟨lw_p5, List.forall_mem_cons.mpr ⟨lw_p6, List.forall_mem_cons.mpr ⟨lw_p7, List.forall_mem_cons.mpr ⟨lw_p8, List.forall_mem_cons.mpr ⟨lw_p9, List.forall_mem_cons.mpr ⟨lw_p10, List.forall_mem_cons.mpr ⟨lw_p11, List.forall_mem_cons.mpr ⟨lw_p12, List.forall_mem_cons.mpr ⟨lw_p13, List.forall_mem_cons.mpr ⟨lw_p14, List.forall_mem_cons.mpr ⟨lw_p15, fun _ h => absurd h List.not_mem_nil⟩⟩⟩⟩⟩⟩⟩⟩⟩⟩⟩⟩⟩⟩⟩⟩
theorem lw_p16 : lw_okq (⟨"LevyPhasesModel", "put", "(III)V"⟩, 12) := ⟨⟨by decide +kernel, by decide +kernel⟩, List.mem_of_getElem? (i := 745) (by decide +kernel), List.mem_of_getElem? (i := 800) (by decide +kernel), List.mem_of_getElem? (i := 801) (by decide +kernel)⟩
theorem lw_p17 : lw_okq (⟨"LevyPhasesModel", "isPhase", "(I)Z"⟩, 12) := ⟨⟨by decide +kernel, by decide +kernel⟩, List.mem_of_getElem? (i := 745) (by decide +kernel), List.mem_of_getElem? (i := 808) (by decide +kernel), List.mem_of_getElem? (i := 809) (by decide +kernel)⟩
theorem lw_p18 : lw_okq (⟨"LevyPhasesModel", "hasBegun", "(I)Z"⟩, 12) := ⟨⟨by decide +kernel, by decide +kernel⟩, List.mem_of_getElem? (i := 745) (by decide +kernel), List.mem_of_getElem? (i := 821) (by decide +kernel), List.mem_of_getElem? (i := 822) (by decide +kernel)⟩
theorem lw_p19 : lw_okq (⟨"LevyPhasesModel", "of", "(II)I"⟩, 12) := ⟨⟨by decide +kernel, by decide +kernel⟩, List.mem_of_getElem? (i := 745) (by decide +kernel), List.mem_of_getElem? (i := 825) (by decide +kernel), List.mem_of_getElem? (i := 826) (by decide +kernel)⟩
theorem lw_p20 : lw_okq (⟨"LevyPhasesModel", "changeArea", "(III)V"⟩, 12) := ⟨⟨by decide +kernel, by decide +kernel⟩, List.mem_of_getElem? (i := 745) (by decide +kernel), List.mem_of_getElem? (i := 829) (by decide +kernel), List.mem_of_getElem? (i := 830) (by decide +kernel)⟩
theorem lw_p21 : lw_okq (⟨"LevyPhasesModel", "whyNoBeginning", "(I)I"⟩, 12) := ⟨⟨by decide +kernel, by decide +kernel⟩, List.mem_of_getElem? (i := 745) (by decide +kernel), List.mem_of_getElem? (i := 855) (by decide +kernel), List.mem_of_getElem? (i := 856) (by decide +kernel)⟩
theorem lw_p22 : lw_okq (⟨"LevyPhasesModel", "areaOf", "(I)I"⟩, 12) := ⟨⟨by decide +kernel, by decide +kernel⟩, List.mem_of_getElem? (i := 745) (by decide +kernel), List.mem_of_getElem? (i := 859) (by decide +kernel), List.mem_of_getElem? (i := 860) (by decide +kernel)⟩
theorem lw_p23 : lw_okq (⟨"LevyPhasesModel", "begins", "(I)I"⟩, 12) := ⟨⟨by decide +kernel, by decide +kernel⟩, List.mem_of_getElem? (i := 745) (by decide +kernel), List.mem_of_getElem? (i := 863) (by decide +kernel), List.mem_of_getElem? (i := 864) (by decide +kernel)⟩
theorem lw_p24 : lw_okq (⟨"LevyPhasesModel", "charge", "(I)I"⟩, 12) := ⟨⟨by decide +kernel, by decide +kernel⟩, List.mem_of_getElem? (i := 745) (by decide +kernel), List.mem_of_getElem? (i := 867) (by decide +kernel), List.mem_of_getElem? (i := 868) (by decide +kernel)⟩
theorem lw_p25 : lw_okq (⟨"LevyPhasesModel", "chargeOf", "(II)I"⟩, 12) := ⟨⟨by decide +kernel, by decide +kernel⟩, List.mem_of_getElem? (i := 745) (by decide +kernel), List.mem_of_getElem? (i := 871) (by decide +kernel), List.mem_of_getElem? (i := 872) (by decide +kernel)⟩
theorem lw_p26 : lw_okq (⟨"LevyPhasesModel", "rateOf", "(II)I"⟩, 12) := ⟨⟨by decide +kernel, by decide +kernel⟩, List.mem_of_getElem? (i := 745) (by decide +kernel), List.mem_of_getElem? (i := 875) (by decide +kernel), List.mem_of_getElem? (i := 876) (by decide +kernel)⟩
theorem lw_p27 : lw_okq (⟨"LevyPhasesModel", "relief", "(I)I"⟩, 12) := ⟨⟨by decide +kernel, by decide +kernel⟩, List.mem_of_getElem? (i := 745) (by decide +kernel), List.mem_of_getElem? (i := 879) (by decide +kernel), List.mem_of_getElem? (i := 880) (by decide +kernel)⟩
theorem lw_p28 : lw_okq (⟨"LevyPhasesModel", "reliefOf", "(II)I"⟩, 12) := ⟨⟨by decide +kernel, by decide +kernel⟩, List.mem_of_getElem? (i := 745) (by decide +kernel), List.mem_of_getElem? (i := 883) (by decide +kernel), List.mem_of_getElem? (i := 884) (by decide +kernel)⟩
theorem lw_p29 : lw_okq (⟨"LevyPhasesModel", "whyNoPayment", "(I)I"⟩, 12) := ⟨⟨by decide +kernel, by decide +kernel⟩, List.mem_of_getElem? (i := 745) (by decide +kernel), List.mem_of_getElem? (i := 901) (by decide +kernel), List.mem_of_getElem? (i := 902) (by decide +kernel)⟩
theorem lw_p30 : lw_okq (⟨"LevyPhasesModel", "owed", "(I)I"⟩, 12) := ⟨⟨by decide +kernel, by decide +kernel⟩, List.mem_of_getElem? (i := 745) (by decide +kernel), List.mem_of_getElem? (i := 905) (by decide +kernel), List.mem_of_getElem? (i := 906) (by decide +kernel)⟩
theorem lw_p31 : lw_okq (⟨"LevyPhasesModel", "takes", "(III)I"⟩, 12) := ⟨⟨by decide +kernel, by decide +kernel⟩, List.mem_of_getElem? (i := 745) (by decide +kernel), List.mem_of_getElem? (i := 909) (by decide +kernel), List.mem_of_getElem? (i := 910) (by decide +kernel)⟩
def lw_privs_2 : List (MethodName × Nat) := [(⟨"LevyPhasesModel", "put", "(III)V"⟩, 12), (⟨"LevyPhasesModel", "isPhase", "(I)Z"⟩, 12), (⟨"LevyPhasesModel", "hasBegun", "(I)Z"⟩, 12), (⟨"LevyPhasesModel", "of", "(II)I"⟩, 12), (⟨"LevyPhasesModel", "changeArea", "(III)V"⟩, 12), (⟨"LevyPhasesModel", "whyNoBeginning", "(I)I"⟩, 12), (⟨"LevyPhasesModel", "areaOf", "(I)I"⟩, 12), (⟨"LevyPhasesModel", "begins", "(I)I"⟩, 12), (⟨"LevyPhasesModel", "charge", "(I)I"⟩, 12), (⟨"LevyPhasesModel", "chargeOf", "(II)I"⟩, 12), (⟨"LevyPhasesModel", "rateOf", "(II)I"⟩, 12), (⟨"LevyPhasesModel", "relief", "(I)I"⟩, 12), (⟨"LevyPhasesModel", "reliefOf", "(II)I"⟩, 12), (⟨"LevyPhasesModel", "whyNoPayment", "(I)I"⟩, 12), (⟨"LevyPhasesModel", "owed", "(I)I"⟩, 12), (⟨"LevyPhasesModel", "takes", "(III)I"⟩, 12)]
theorem lw_r2 : ∀ q ∈ lw_privs_2, lw_okq q := List.forall_mem_cons.mpr ⟨lw_p16, List.forall_mem_cons.mpr ⟨lw_p17, List.forall_mem_cons.mpr ⟨lw_p18, List.forall_mem_cons.mpr ⟨lw_p19, List.forall_mem_cons.mpr ⟨lw_p20, List.forall_mem_cons.mpr ⟨lw_p21, List.forall_mem_cons.mpr ⟨lw_p22, List.forall_mem_cons.mpr ⟨lw_p23, List.forall_mem_cons.mpr ⟨lw_p24, List.forall_mem_cons.mpr ⟨lw_p25, List.forall_mem_cons.mpr ⟨lw_p26, List.forall_mem_cons.mpr ⟨lw_p27, List.forall_mem_cons.mpr ⟨lw_p28, List.forall_mem_cons.mpr ⟨lw_p29, List.forall_mem_cons.mpr ⟨lw_p30, List.forall_mem_cons.mpr ⟨lw_p31, fun _ h => absurd h List.not_mem_nil⟩⟩⟩⟩⟩⟩⟩⟩⟩⟩⟩⟩⟩⟩⟩⟩
theorem lw_p32 : lw_okq (⟨"LevyPhasesModel", "settle", "(III)I"⟩, 12) := ⟨⟨by decide +kernel, by decide +kernel⟩, List.mem_of_getElem? (i := 745) (by decide +kernel), List.mem_of_getElem? (i := 913) (by decide +kernel), List.mem_of_getElem? (i := 914) (by decide +kernel)⟩
theorem lw_p33 : lw_okq (⟨"LevyPhasesModel", "add", "(III)V"⟩, 12) := ⟨⟨by decide +kernel, by decide +kernel⟩, List.mem_of_getElem? (i := 745) (by decide +kernel), List.mem_of_getElem? (i := 917) (by decide +kernel), List.mem_of_getElem? (i := 918) (by decide +kernel)⟩
theorem lw_p34 : lw_okq (⟨"LevyPhasesModel", "whyNoLand", "(I)I"⟩, 12) := ⟨⟨by decide +kernel, by decide +kernel⟩, List.mem_of_getElem? (i := 745) (by decide +kernel), List.mem_of_getElem? (i := 925) (by decide +kernel), List.mem_of_getElem? (i := 926) (by decide +kernel)⟩
theorem lw_p35 : lw_okq (⟨"LevyPhasesModel", "roomForLand", "(I)I"⟩, 12) := ⟨⟨by decide +kernel, by decide +kernel⟩, List.mem_of_getElem? (i := 745) (by decide +kernel), List.mem_of_getElem? (i := 929) (by decide +kernel), List.mem_of_getElem? (i := 930) (by decide +kernel)⟩
theorem lw_p36 : lw_okq (⟨"LevyPhasesModel", "whyNoLapse", "(II)I"⟩, 12) := ⟨⟨by decide +kernel, by decide +kernel⟩, List.mem_of_getElem? (i := 745) (by decide +kernel), List.mem_of_getElem? (i := 938) (by decide +kernel), List.mem_of_getElem? (i := 939) (by decide +kernel)⟩
theorem lw_p37 : lw_okq (⟨"LevyPhasesModel", "canPass", "(I)Z"⟩, 12) := ⟨⟨by decide +kernel, by decide +kernel⟩, List.mem_of_getElem? (i := 745) (by decide +kernel), List.mem_of_getElem? (i := 946) (by decide +kernel), List.mem_of_getElem? (i := 947) (by decide +kernel)⟩
theorem lw_p38 : lw_okq (⟨"LevyPhasesModel", "daysPass", "(I)I"⟩, 12) := ⟨⟨by decide +kernel, by decide +kernel⟩, List.mem_of_getElem? (i := 745) (by decide +kernel), List.mem_of_getElem? (i := 950) (by decide +kernel), List.mem_of_getElem? (i := 951) (by decide +kernel)⟩
theorem lw_p39 : lw_okq (⟨"LevyPhasesModel", "dayPasses", "()I"⟩, 12) := ⟨⟨by decide +kernel, by decide +kernel⟩, List.mem_of_getElem? (i := 745) (by decide +kernel), List.mem_of_getElem? (i := 954) (by decide +kernel), List.mem_of_getElem? (i := 955) (by decide +kernel)⟩
theorem lw_p40 : lw_okq (⟨"LevyPhasesModel", "canBreak", "(I)Z"⟩, 12) := ⟨⟨by decide +kernel, by decide +kernel⟩, List.mem_of_getElem? (i := 745) (by decide +kernel), List.mem_of_getElem? (i := 958) (by decide +kernel), List.mem_of_getElem? (i := 959) (by decide +kernel)⟩
theorem lw_p41 : lw_okq (⟨"LevyPhasesModel", "firstDue", "(I)I"⟩, 12) := ⟨⟨by decide +kernel, by decide +kernel⟩, List.mem_of_getElem? (i := 745) (by decide +kernel), List.mem_of_getElem? (i := 962) (by decide +kernel), List.mem_of_getElem? (i := 963) (by decide +kernel)⟩
theorem lw_p42 : lw_okq (⟨"LevyPhasesModel", "rightUpTo", "()I"⟩, 12) := ⟨⟨by decide +kernel, by decide +kernel⟩, List.mem_of_getElem? (i := 745) (by decide +kernel), List.mem_of_getElem? (i := 978) (by decide +kernel), List.mem_of_getElem? (i := 979) (by decide +kernel)⟩
theorem lw_p43 : lw_okq (⟨"LevyPhasesModel", "takesNext", "(I)Z"⟩, 12) := ⟨⟨by decide +kernel, by decide +kernel⟩, List.mem_of_getElem? (i := 745) (by decide +kernel), List.mem_of_getElem? (i := 982) (by decide +kernel), List.mem_of_getElem? (i := 983) (by decide +kernel)⟩
theorem lw_p44 : lw_okq (⟨"LevyPhasesModel", "isEnded", "()Z"⟩, 12) := ⟨⟨by decide +kernel, by decide +kernel⟩, List.mem_of_getElem? (i := 745) (by decide +kernel), List.mem_of_getElem? (i := 986) (by decide +kernel), List.mem_of_getElem? (i := 987) (by decide +kernel)⟩
theorem lw_p45 : lw_okq (⟨"LevyPhasesModel", "beginsOrder", "(I)Z"⟩, 12) := ⟨⟨by decide +kernel, by decide +kernel⟩, List.mem_of_getElem? (i := 745) (by decide +kernel), List.mem_of_getElem? (i := 990) (by decide +kernel), List.mem_of_getElem? (i := 991) (by decide +kernel)⟩
theorem lw_p46 : lw_okq (⟨"LevyPhasesModel", "takesPhase", "(I)Z"⟩, 12) := ⟨⟨by decide +kernel, by decide +kernel⟩, List.mem_of_getElem? (i := 745) (by decide +kernel), List.mem_of_getElem? (i := 994) (by decide +kernel), List.mem_of_getElem? (i := 995) (by decide +kernel)⟩
theorem lw_p47 : lw_okq (⟨"LevyPhasesModel", "takesUse", "(I)Z"⟩, 12) := ⟨⟨by decide +kernel, by decide +kernel⟩, List.mem_of_getElem? (i := 745) (by decide +kernel), List.mem_of_getElem? (i := 998) (by decide +kernel), List.mem_of_getElem? (i := 999) (by decide +kernel)⟩
def lw_privs_3 : List (MethodName × Nat) := [(⟨"LevyPhasesModel", "settle", "(III)I"⟩, 12), (⟨"LevyPhasesModel", "add", "(III)V"⟩, 12), (⟨"LevyPhasesModel", "whyNoLand", "(I)I"⟩, 12), (⟨"LevyPhasesModel", "roomForLand", "(I)I"⟩, 12), (⟨"LevyPhasesModel", "whyNoLapse", "(II)I"⟩, 12), (⟨"LevyPhasesModel", "canPass", "(I)Z"⟩, 12), (⟨"LevyPhasesModel", "daysPass", "(I)I"⟩, 12), (⟨"LevyPhasesModel", "dayPasses", "()I"⟩, 12), (⟨"LevyPhasesModel", "canBreak", "(I)Z"⟩, 12), (⟨"LevyPhasesModel", "firstDue", "(I)I"⟩, 12), (⟨"LevyPhasesModel", "rightUpTo", "()I"⟩, 12), (⟨"LevyPhasesModel", "takesNext", "(I)Z"⟩, 12), (⟨"LevyPhasesModel", "isEnded", "()Z"⟩, 12), (⟨"LevyPhasesModel", "beginsOrder", "(I)Z"⟩, 12), (⟨"LevyPhasesModel", "takesPhase", "(I)Z"⟩, 12), (⟨"LevyPhasesModel", "takesUse", "(I)Z"⟩, 12)]
theorem lw_r3 : ∀ q ∈ lw_privs_3, lw_okq q := List.forall_mem_cons.mpr ⟨lw_p32, List.forall_mem_cons.mpr ⟨lw_p33, List.forall_mem_cons.mpr ⟨lw_p34, List.forall_mem_cons.mpr ⟨lw_p35, List.forall_mem_cons.mpr ⟨lw_p36, List.forall_mem_cons.mpr ⟨lw_p37, List.forall_mem_cons.mpr ⟨lw_p38, List.forall_mem_cons.mpr ⟨lw_p39, List.forall_mem_cons.mpr ⟨lw_p40, List.forall_mem_cons.mpr ⟨lw_p41, List.forall_mem_cons.mpr ⟨lw_p42, List.forall_mem_cons.mpr ⟨lw_p43, List.forall_mem_cons.mpr ⟨lw_p44, List.forall_mem_cons.mpr ⟨lw_p45, List.forall_mem_cons.mpr ⟨lw_p46, List.forall_mem_cons.mpr ⟨lw_p47, fun _ h => absurd h List.not_mem_nil⟩⟩⟩⟩⟩⟩⟩⟩⟩⟩⟩⟩⟩⟩⟩⟩
theorem lw_p48 : lw_okq (⟨"LevyPhasesModel", "takesDigit", "(I)Z"⟩, 12) := ⟨⟨by decide +kernel, by decide +kernel⟩, List.mem_of_getElem? (i := 745) (by decide +kernel), List.mem_of_getElem? (i := 1002) (by decide +kernel), List.mem_of_getElem? (i := 1003) (by decide +kernel)⟩
theorem lw_p49 : lw_okq (⟨"LevyPhasesModel", "carries", "(I)Z"⟩, 12) := ⟨⟨by decide +kernel, by decide +kernel⟩, List.mem_of_getElem? (i := 745) (by decide +kernel), List.mem_of_getElem? (i := 1010) (by decide +kernel), List.mem_of_getElem? (i := 1011) (by decide +kernel)⟩
theorem lw_p50 : lw_okq (⟨"LevyPhasesModel", "canCarry", "(II)Z"⟩, 12) := ⟨⟨by decide +kernel, by decide +kernel⟩, List.mem_of_getElem? (i := 745) (by decide +kernel), List.mem_of_getElem? (i := 1014) (by decide +kernel), List.mem_of_getElem? (i := 1015) (by decide +kernel)⟩
theorem lw_p51 : lw_okq (⟨"LevyPhasesModel", "phaseNow", "(II)I"⟩, 12) := ⟨⟨by decide +kernel, by decide +kernel⟩, List.mem_of_getElem? (i := 745) (by decide +kernel), List.mem_of_getElem? (i := 1026) (by decide +kernel), List.mem_of_getElem? (i := 1027) (by decide +kernel)⟩
theorem lw_p52 : lw_okq (⟨"LevyPhasesModel", "dueNow", "(I)I"⟩, 12) := ⟨⟨by decide +kernel, by decide +kernel⟩, List.mem_of_getElem? (i := 745) (by decide +kernel), List.mem_of_getElem? (i := 1030) (by decide +kernel), List.mem_of_getElem? (i := 1031) (by decide +kernel)⟩
theorem lw_p53 : lw_okq (⟨"LevyPhasesModel", "paidWhole", "(I)I"⟩, 12) := ⟨⟨by decide +kernel, by decide +kernel⟩, List.mem_of_getElem? (i := 745) (by decide +kernel), List.mem_of_getElem? (i := 1034) (by decide +kernel), List.mem_of_getElem? (i := 1035) (by decide +kernel)⟩
theorem lw_p54 : lw_okq (⟨"LevyPhasesModel", "useNow", "(III)I"⟩, 12) := ⟨⟨by decide +kernel, by decide +kernel⟩, List.mem_of_getElem? (i := 745) (by decide +kernel), List.mem_of_getElem? (i := 1042) (by decide +kernel), List.mem_of_getElem? (i := 1043) (by decide +kernel)⟩
theorem lw_p55 : lw_okq (⟨"LevyPhasesModel", "instalmentNow", "(III)I"⟩, 12) := ⟨⟨by decide +kernel, by decide +kernel⟩, List.mem_of_getElem? (i := 745) (by decide +kernel), List.mem_of_getElem? (i := 1050) (by decide +kernel), List.mem_of_getElem? (i := 1051) (by decide +kernel)⟩
theorem lw_p56 : lw_okq (⟨"LevyPhasesModel", "counted", "(I)I"⟩, 12) := ⟨⟨by decide +kernel, by decide +kernel⟩, List.mem_of_getElem? (i := 745) (by decide +kernel), List.mem_of_getElem? (i := 1058) (by decide +kernel), List.mem_of_getElem? (i := 1059) (by decide +kernel)⟩
theorem lw_p57 : lw_okq (⟨"LevyPhasesModel", "begunOnes", "()I"⟩, 12) := ⟨⟨by decide +kernel, by decide +kernel⟩, List.mem_of_getElem? (i := 745) (by decide +kernel), List.mem_of_getElem? (i := 1062) (by decide +kernel), List.mem_of_getElem? (i := 1063) (by decide +kernel)⟩
theorem lw_p58 : lw_okq (⟨"LevyPhasesModel", "sumOf", "(I)I"⟩, 12) := ⟨⟨by decide +kernel, by decide +kernel⟩, List.mem_of_getElem? (i := 745) (by decide +kernel), List.mem_of_getElem? (i := 1066) (by decide +kernel), List.mem_of_getElem? (i := 1067) (by decide +kernel)⟩
theorem lw_p59 : lw_okq (⟨"LevyPhasesModel", "whyNotNow", "(III)I"⟩, 12) := ⟨⟨by decide +kernel, by decide +kernel⟩, List.mem_of_getElem? (i := 745) (by decide +kernel), List.mem_of_getElem? (i := 1078) (by decide +kernel), List.mem_of_getElem? (i := 1079) (by decide +kernel)⟩
theorem lw_p60 : lw_okq (⟨"LevyPhasesModel", "begunThen", "(II)I"⟩, 12) := ⟨⟨by decide +kernel, by decide +kernel⟩, List.mem_of_getElem? (i := 745) (by decide +kernel), List.mem_of_getElem? (i := 1086) (by decide +kernel), List.mem_of_getElem? (i := 1087) (by decide +kernel)⟩
theorem lw_p61 : lw_okq (⟨"LevyPhasesModel", "breaksNow", "(I)I"⟩, 12) := ⟨⟨by decide +kernel, by decide +kernel⟩, List.mem_of_getElem? (i := 745) (by decide +kernel), List.mem_of_getElem? (i := 1094) (by decide +kernel), List.mem_of_getElem? (i := 1095) (by decide +kernel)⟩
theorem lw_p62 : lw_okq (⟨"LevyPhasesModel", "surchargesThen", "(I)I"⟩, 12) := ⟨⟨by decide +kernel, by decide +kernel⟩, List.mem_of_getElem? (i := 745) (by decide +kernel), List.mem_of_getElem? (i := 1102) (by decide +kernel), List.mem_of_getElem? (i := 1103) (by decide +kernel)⟩
theorem lw_p63 : lw_okq (⟨"LevyPhasesModel", "keep", "()V"⟩, 12) := ⟨⟨by decide +kernel, by decide +kernel⟩, List.mem_of_getElem? (i := 745) (by decide +kernel), List.mem_of_getElem? (i := 1106) (by decide +kernel), List.mem_of_getElem? (i := 1107) (by decide +kernel)⟩
def lw_privs_4 : List (MethodName × Nat) := [(⟨"LevyPhasesModel", "takesDigit", "(I)Z"⟩, 12), (⟨"LevyPhasesModel", "carries", "(I)Z"⟩, 12), (⟨"LevyPhasesModel", "canCarry", "(II)Z"⟩, 12), (⟨"LevyPhasesModel", "phaseNow", "(II)I"⟩, 12), (⟨"LevyPhasesModel", "dueNow", "(I)I"⟩, 12), (⟨"LevyPhasesModel", "paidWhole", "(I)I"⟩, 12), (⟨"LevyPhasesModel", "useNow", "(III)I"⟩, 12), (⟨"LevyPhasesModel", "instalmentNow", "(III)I"⟩, 12), (⟨"LevyPhasesModel", "counted", "(I)I"⟩, 12), (⟨"LevyPhasesModel", "begunOnes", "()I"⟩, 12), (⟨"LevyPhasesModel", "sumOf", "(I)I"⟩, 12), (⟨"LevyPhasesModel", "whyNotNow", "(III)I"⟩, 12), (⟨"LevyPhasesModel", "begunThen", "(II)I"⟩, 12), (⟨"LevyPhasesModel", "breaksNow", "(I)I"⟩, 12), (⟨"LevyPhasesModel", "surchargesThen", "(I)I"⟩, 12), (⟨"LevyPhasesModel", "keep", "()V"⟩, 12)]
theorem lw_r4 : ∀ q ∈ lw_privs_4, lw_okq q := List.forall_mem_cons.mpr ⟨lw_p48, List.forall_mem_cons.mpr ⟨lw_p49, List.forall_mem_cons.mpr ⟨lw_p50, List.forall_mem_cons.mpr ⟨lw_p51, List.forall_mem_cons.mpr ⟨lw_p52, List.forall_mem_cons.mpr ⟨lw_p53, List.forall_mem_cons.mpr ⟨lw_p54, List.forall_mem_cons.mpr ⟨lw_p55, List.forall_mem_cons.mpr ⟨lw_p56, List.forall_mem_cons.mpr ⟨lw_p57, List.forall_mem_cons.mpr ⟨lw_p58, List.forall_mem_cons.mpr ⟨lw_p59, List.forall_mem_cons.mpr ⟨lw_p60, List.forall_mem_cons.mpr ⟨lw_p61, List.forall_mem_cons.mpr ⟨lw_p62, List.forall_mem_cons.mpr ⟨lw_p63, fun _ h => absurd h List.not_mem_nil⟩⟩⟩⟩⟩⟩⟩⟩⟩⟩⟩⟩⟩⟩⟩⟩
theorem lw_p64 : lw_okq (⟨"LevyPhasesModel", "layBack", "()V"⟩, 12) := ⟨⟨by decide +kernel, by decide +kernel⟩, List.mem_of_getElem? (i := 745) (by decide +kernel), List.mem_of_getElem? (i := 1110) (by decide +kernel), List.mem_of_getElem? (i := 1111) (by decide +kernel)⟩
theorem lw_p65 : lw_okq (⟨"LevyPhasesModel", "urgentNow", "()I"⟩, 12) := ⟨⟨by decide +kernel, by decide +kernel⟩, List.mem_of_getElem? (i := 745) (by decide +kernel), List.mem_of_getElem? (i := 1118) (by decide +kernel), List.mem_of_getElem? (i := 1119) (by decide +kernel)⟩
theorem lw_p66 : lw_okq (⟨"LevyPhasesModel", "dueThen", "(II)I"⟩, 12) := ⟨⟨by decide +kernel, by decide +kernel⟩, List.mem_of_getElem? (i := 745) (by decide +kernel), List.mem_of_getElem? (i := 1126) (by decide +kernel), List.mem_of_getElem? (i := 1127) (by decide +kernel)⟩
theorem lw_p67 : lw_okq (⟨"LevyPhasesModel", "share", "()D"⟩, 12) := ⟨⟨by decide +kernel, by decide +kernel⟩, List.mem_of_getElem? (i := 745) (by decide +kernel), List.mem_of_getElem? (i := 1134) (by decide +kernel), List.mem_of_getElem? (i := 1135) (by decide +kernel)⟩
theorem lw_p68 : lw_okq (⟨"LevyPhasesModel", "mix", "(J)V"⟩, 12) := ⟨⟨by decide +kernel, by decide +kernel⟩, List.mem_of_getElem? (i := 745) (by decide +kernel), List.mem_of_getElem? (i := 1143) (by decide +kernel), List.mem_of_getElem? (i := 1144) (by decide +kernel)⟩
theorem lw_p69 : lw_okq (⟨"LevyPhasesModel", "mixPhase", "(I)V"⟩, 12) := ⟨⟨by decide +kernel, by decide +kernel⟩, List.mem_of_getElem? (i := 745) (by decide +kernel), List.mem_of_getElem? (i := 1148) (by decide +kernel), List.mem_of_getElem? (i := 1149) (by decide +kernel)⟩
def lw_privs_5 : List (MethodName × Nat) := [(⟨"LevyPhasesModel", "layBack", "()V"⟩, 12), (⟨"LevyPhasesModel", "urgentNow", "()I"⟩, 12), (⟨"LevyPhasesModel", "dueThen", "(II)I"⟩, 12), (⟨"LevyPhasesModel", "share", "()D"⟩, 12), (⟨"LevyPhasesModel", "mix", "(J)V"⟩, 12), (⟨"LevyPhasesModel", "mixPhase", "(I)V"⟩, 12)]
theorem lw_r5 : ∀ q ∈ lw_privs_5, lw_okq q := List.forall_mem_cons.mpr ⟨lw_p64, List.forall_mem_cons.mpr ⟨lw_p65, List.forall_mem_cons.mpr ⟨lw_p66, List.forall_mem_cons.mpr ⟨lw_p67, List.forall_mem_cons.mpr ⟨lw_p68, List.forall_mem_cons.mpr ⟨lw_p69, fun _ h => absurd h List.not_mem_nil⟩⟩⟩⟩⟩⟩
def lw_privs : List (MethodName × Nat) := lw_privs_1 ++ (lw_privs_2 ++ (lw_privs_3 ++ (lw_privs_4 ++ (lw_privs_5))))
def lw_tbl : List Cond := k2_sels lw_privs ++ tables_1
theorem lw_privs_ok : ∀ q ∈ lw_privs, lw_okq q := by
  show ∀ q ∈ lw_privs_1 ++ (lw_privs_2 ++ (lw_privs_3 ++ (lw_privs_4 ++ (lw_privs_5)))), lw_okq q
  exact List.forall_mem_append.mpr ⟨lw_r1, List.forall_mem_append.mpr ⟨lw_r2, List.forall_mem_append.mpr ⟨lw_r3, List.forall_mem_append.mpr ⟨lw_r4, lw_r5⟩⟩⟩⟩
/-- the streams that the claim lets the run draw from -/
abbrev lw_cs : List Choice := [Jvm.Choice.named "NaN.bits"]
theorem lw_bits : nanBits ∈ lw_cs := by first | decide | exact List.mem_cons_self | simp [lw_cs, nanBits]

/-! ===== BEGIN words of one list among another's, by their places ===== -/
theorem goodIn_r {big : List Cond} (ws : List Cond) (ps : List Nat) (hp : ws = ps.filterMap (fun i => big[i]?)) (h : ws.all goodWord = true) : GoodIn big ws := by
  intro w hw
  have h1 := List.all_eq_true.mp h w hw
  rw [hp] at hw
  obtain ⟨i, -, hi⟩ := List.mem_filterMap.mp hw
  have hm : w ∈ big := by first | exact List.mem_of_getElem? hi | exact List.getElem?_mem hi
  exact ⟨hm, good_of_word h1⟩
theorem goodIn_app {big a b : List Cond} (ha : GoodIn big a) (hb : GoodIn big b) : GoodIn big (a ++ b) := fun w h => (List.mem_append.mp h).elim (ha w) (hb w)
theorem goodIn_ca {big a b : List Cond} {c : Cond} (ha : GoodIn big (c :: a)) (hb : GoodIn big b) : GoodIn big (c :: (a ++ b)) := fun w h => (List.mem_cons.mp h).elim (fun e => ha w (List.mem_cons.mpr (Or.inl e))) (fun h => (List.mem_append.mp h).elim (fun h => ha w (List.mem_cons.mpr (Or.inr h))) (hb w))
theorem goodIn_sub {big ws : List Cond} (hm : ∀ w ∈ ws, w ∈ big) (h : ws.all goodWord = true) : GoodIn big ws := fun w hw => ⟨hm w hw, good_of_word (List.all_eq_true.mp h w hw)⟩
/-! ===== END ===== -/

/-! ===== BEGIN exceptions that leave a method, and their catching by the caller (launches without stack traces) ===== -/
section VXA
/-! The laws vx_back, vx_callV, vx_callS, vx_callSW, vx_throw0, vx_throwS follow proofs of the library, with one case more: JvmDerived/Free/Laws.lean (Back.of_free), Shelf42/LK1.lean (callV, callS), Shelf/KitTraced.lean (throwNew0V, throwNewS). -/
/-- where a method has thrown q: the class by its name, the cell, what was written, the world -/
def vx_T (XC : String → State → State → Prop) (st : State) (q : Addr) (t : State) (mc ms : Nat) (free : Addr → Prop) : Prop :=
  ∃ (E : String) (ce : Cell) (L : List Loc), XC E st t ∧ t.heap[q]? = some ce ∧ ce.vm = .none ∧ st.vm.findClass E = some ce.cls ∧ st.WarmedH t.vm ∧ st.sameButNew ({ t with vm := st.vm } : State) L mc ms ∧ ∀ z ∈ L, free z.base
def vx_Q (Qc : Array Value → State → Outcome → State → Prop) (XC : String → State → State → Prop) (mc ms : Nat) (free : Addr → Prop) : Array Value → State → Outcome → State → Prop := fun a st o t =>
  (Qc a st o t ∧ ∃ L, FrameEnd st o t L mc ms ∧ ∀ q ∈ L, free q.base) ∨ ∃ q, o = .threw q ∧ vx_T XC st q t mc ms free
/-- a callee that returns or throws -/
def vx_Met (l : Launch) (y : MethodName) (ws : List Cond) (rm : Room) (Pc : Array Value → State → Prop) (Qc : Array Value → State → Outcome → State → Prop) (XC : String → State → State → Prop) (mc ms : Nat) (free : Addr → Prop) : Prop :=
  MetFree l y (headSpec ws rm) Pc (fun _ _ _ _ _ => True) (vx_Q Qc XC mc ms free)
def vx_Post (XC : String → State → State → Prop) (mc ms : Nat) (free : Addr → Prop) : Pt → Array Value → Addr → Pt → Prop := fun A a q B =>
  ∃ (g : JFrame) (mk : MethodId) (t : State) (L : List Loc) (E : String) (ce : Cell), B.U.heap = t.heap ∧ B.U.vm = t.vm ∧ XC E (A.U.calling g mk a) t ∧ t.heap[q]? = some ce ∧ ce.vm = .none ∧ A.U.vm.findClass E = some ce.cls ∧ B.locs = A.locs ++ L ∧ (∀ z ∈ L, free z.base) ∧ B.cells = A.cells + mc ∧ B.slots = A.slots + ms
def vx_Back (l : Launch) (R : Room) (p : Program) (e : Env) (below : List Frame) (s : State) (sargs : Array Value) (y : MethodName) (len W9 : Nat)
    (Pre : Pt → Array Value → Prop) (Post : Pt → Array Value → Option Value → Pt → Prop) (PostX : Pt → Array Value → Addr → Pt → Prop) : Prop :=
  ∀ (m : MethodId) (meth : Method) (c : Code) (A : Pt) (g : JFrame) (ig : Instr) (mk : MethodId) (a : Array Value),
    Stand p l e R s m sargs below meth c A.U A.locs A.cells A.slots → g.method = m → g.locals.size = c.maxLocals → decode c.code g.pc = .ok (ig, len) →
    2 * g.monitorRoom + (g.stack.map fun v => v.category).sum ≤ W9 → A.U.methodNamed? y = some mk → Pre A a →
    (∃ (v : Option Value) (B : Pt), Stand p l e R s m sargs below meth c B.U B.locs B.cells B.slots ∧ Post A a v B ∧
      Steps p.tables e below (doInvoke e (A.U.setTop g) [] mk a).1 (B.U.setTop { g with pc := g.pc + len, stack := v.toList ++ g.stack })) ∨
    (∃ (q : Addr) (B : Pt), Stand p l e R s m sargs below meth c B.U B.locs B.cells B.slots ∧ PostX A a q B ∧
      Steps p.tables e below (doInvoke e (A.U.setTop g) [] mk a).1 ((B.U.setTop g).pushFrame (.throwing q)))
section Payer
variable {l : Launch} {R : Room} {p : Program} {e : Env} {below : List Frame} {s : State} {sargs : Array Value} {y : MethodName} {len W9 : Nat}
theorem vx_back {ws : List Cond} {rm : Room} {Pc : Array Value → State → Prop} {Qc : Array Value → State → Outcome → State → Prop} {XC : String → State → State → Prop} {mc ms : Nat} {free : Addr → Prop} {bytes : ByteArray} {maxL : Nat} {ret : Option FieldType}
    (hM : vx_Met l y ws rm Pc Qc XC mc ms free) (hblind : FrameBlind Pc) (hrc : rm.cells = mc) (hrs : rm.slots = ms)
    (hframes : rm.frames + 1 ≤ R.frames) (hlocals : W9 + (maxL + 11) + rm.locals ≤ R.locals)
    (hws : ∀ w ∈ ws, ∀ a' U, s.WarmedH U.vm → w.before a' U = true) (hcode : Cond.code y bytes maxL ret ∈ ws) (hinit : ∀ a' U, s.WarmedH U.vm → (Cond.initialized y.cls).before a' U = true) :
    vx_Back l R p e below s sargs y len W9 (PreOf R mc ms Pc) (PostOf Qc mc ms free) (vx_Post XC mc ms free) := by
  intro m meth c A g ig mk a X hg hsize hdg hW hn hp
  have h1 : (headSpec ws rm).pre.before a A.U = true := atoms_intro fun w hw => hws w hw _ _ X.warmed
  have h2 : (Cond.code y bytes maxL ret).before a A.U = true := hws _ hcode _ _ X.warmed
  have h3 : (Cond.initialized y.cls).before a A.U = true := hinit _ _ X.warmed
  have h4 : A.cells + (headSpec ws rm).room.cells ≤ R.cells := by rw [show (headSpec ws rm).room.cells = mc from hrc]; exact hp.1
  have h5 : A.slots + (headSpec ws rm).room.slots ≤ R.slots := by rw [show (headSpec ws rm).room.slots = ms from hrs]; exact hp.2.1
  have hPc : Pc a (A.U.calling g mk a) := hblind _ _ _ _ hp.2.2
  obtain ⟨U, Ls, c0, s0⟩ := A
  dsimp only [Pt.U, Pt.locs, Pt.cells, Pt.slots] at h1 h2 h3 h4 h5 X hn hPc ⊢
  obtain ⟨methY, cY, hmY, hcY, -, hlY, -, -, -, -⟩ := Cond.code_spec hn h2
  obtain ⟨kY, hkY, -⟩ := className_of_methodNamed hn
  have hinitY : kY.init = .initialized := Cond.initialized_spec (findClass_of_methodNamed hn) hkY h3
  have h : At U g.method c below := by rw [hg]; exact X.here
  have hlocals9 : W9 + (maxL + 11) + (headSpec ws rm).room.locals ≤ R.locals := hlocals
  have happ : (headSpec ws rm).appliesLoose y e.platform (U.calling g mk a) = true :=
    Spec.appliesLoose_calling (g := g) h hdg hn hkY hinitY
      (X.room_calling (g := g) (R' := (headSpec ws rm).room) hsize hmY hcY hframes (by rw [hlY]; omega) h4 h5) h1
  obtain ⟨mid, hmid⟩ := h.above
  have hfr : (U.setTop g).frames = (.java g :: mid) ++ below := by rw [State.frames_setTop' g h.top, hmid]; rfl
  obtain ⟨o, s₂, hsteps, -, hend, hq⟩ := Steps.callFree hM p X.admits X.cas X.clock (acts := []) hfr happ hPc trivial
  have hq' : vx_Q Qc XC mc ms free a (U.calling g mk a) o s₂ := hq
  rw [State.frames_setTop' g h.top] at hend
  obtain ⟨g₀, hg0⟩ := Option.isSome_iff_exists.mp h.top
  obtain ⟨r, hr⟩ := State.topJava?_eq_some.mp hg0
  have hr' : (({ U with heap := s₂.heap, slotsUsed := s₂.slotsUsed } : State).setVm s₂.vm).frames = .java g₀ :: r := hr
  rcases hq' with ⟨hqc, L, hfe, hL⟩ | ⟨q, rfl, E, ce, L, hx, hce, hcv, hcl, hW₂, hsm, hL⟩
  · obtain ⟨⟨v, rfl⟩, hW₂, e2, q2, q3, q4, q5, q6⟩ := id hfe
    have e3 : s₂ = ({ (U.calling g mk a).setFrames s₂.frames with heap := s₂.heap, slotsUsed := s₂.slotsUsed } : State).setVm s₂.vm := by
      have : s₂ = ({ s₂ with vm := (U.calling g mk a).vm } : State).setVm s₂.vm := rfl
      rw [e2] at this
      exact this
    obtain ⟨c₂, i₂, len₂, hc₂, hd₂, hf₂⟩ := hend
    have hW' : U.WarmedH s₂.vm := hW₂
    have hcc : c₂ = c := by
      have h1 : s₂.code? g.method = U.code? g.method := by
        rw [State.code?_eq, State.code?_eq, hW'.alike.method?]
      exact Option.some.inj (hc₂.symm.trans (h1.trans h.code))
    subst hcc
    have hlen : len₂ = len := by rw [hdg] at hd₂; cases hd₂; rfl
    subst hlen
    have hs₂ : s₂ = (({ U with heap := s₂.heap, slotsUsed := s₂.slotsUsed } : State).setVm s₂.vm).setTop { g with pc := g.pc + len₂, stack := v.toList ++ g.stack } := by
      refine e3.trans ?_
      rw [hf₂, State.calling_eq h.top, State.setFrames_setFrames, State.setTop_of_frames _ hr', hr]
      rfl
    have hsame : U.sameButNew ({ U with heap := s₂.heap, slotsUsed := s₂.slotsUsed } : State) L mc ms := by
      refine ⟨?_, q2, q3, q4, q5, q6⟩
      obtain ⟨t, ht, -⟩ := State.frames_cons hr
      show ({ U with heap := s₂.heap, slotsUsed := s₂.slotsUsed } : State) = { U.setFrames U.frames with heap := s₂.heap, slotsUsed := s₂.slotsUsed }
      rw [State.setFrames_self ht]
    subst hg
    refine Or.inl ⟨v, ⟨(({ U with heap := s₂.heap, slotsUsed := s₂.slotsUsed } : State).setVm s₂.vm), Ls ++ L, c0 + mc, s0 + ms⟩,
      ⟨X.admits, X.cas, X.clock, X.frames, X.room, X.hears, X.method, X.code, (X.here.setHeapUsed s₂.heap s₂.slotsUsed).setVm hW'.alike, X.tail, State.WarmedH.trans X.warmed hW', X.limits, X.bytes, X.same.trans (hsame.setVm s.vm)⟩,
      ⟨g, mk, s₂, L, rfl, rfl, hqc, rfl, hL, rfl, rfl⟩, ?_⟩
    show Steps p.tables e below _ ((({ U with heap := s₂.heap, slotsUsed := s₂.slotsUsed } : State).setVm s₂.vm).setTop { g with pc := g.pc + len₂, stack := v.toList ++ g.stack })
    rw [← hs₂]
    exact hsteps
  · obtain ⟨e2, q2, q3, q4, q5, q6⟩ := id hsm
    have e3 : s₂ = ({ (U.calling g mk a).setFrames s₂.frames with heap := s₂.heap, slotsUsed := s₂.slotsUsed } : State).setVm s₂.vm := by
      have : s₂ = ({ s₂ with vm := (U.calling g mk a).vm } : State).setVm s₂.vm := rfl
      rw [e2] at this
      exact this
    have hf₂ : s₂.frames = .throwing q :: .java g :: U.frames.tail := hend
    have hW' : U.WarmedH s₂.vm := hW₂
    have hs₂ : s₂ = ((({ U with heap := s₂.heap, slotsUsed := s₂.slotsUsed } : State).setVm s₂.vm).setTop g).pushFrame (.throwing q) := by
      refine e3.trans ?_
      rw [hf₂, State.calling_eq h.top, State.setFrames_setFrames, State.pushFrame, State.frames_setTop _ hr', State.setTop_of_frames _ hr', State.setFrames_setFrames, hr]
      rfl
    have hsame : U.sameButNew ({ U with heap := s₂.heap, slotsUsed := s₂.slotsUsed } : State) L mc ms := by
      refine ⟨?_, q2, q3, q4, q5, q6⟩
      obtain ⟨t, ht, -⟩ := State.frames_cons hr
      show ({ U with heap := s₂.heap, slotsUsed := s₂.slotsUsed } : State) = { U.setFrames U.frames with heap := s₂.heap, slotsUsed := s₂.slotsUsed }
      rw [State.setFrames_self ht]
    subst hg
    refine Or.inr ⟨q, ⟨(({ U with heap := s₂.heap, slotsUsed := s₂.slotsUsed } : State).setVm s₂.vm), Ls ++ L, c0 + mc, s0 + ms⟩,
      ⟨X.admits, X.cas, X.clock, X.frames, X.room, X.hears, X.method, X.code, (X.here.setHeapUsed s₂.heap s₂.slotsUsed).setVm hW'.alike, X.tail, State.WarmedH.trans X.warmed hW', X.limits, X.bytes, X.same.trans (hsame.setVm s.vm)⟩,
      ⟨g, mk, s₂, L, E, ce, rfl, rfl, hx, hce, hcv, hcl, rfl, hL, rfl, rfl⟩, ?_⟩
    show Steps p.tables e below _ (((({ U with heap := s₂.heap, slotsUsed := s₂.slotsUsed } : State).setVm s₂.vm).setTop g).pushFrame (.throwing q))
    rw [← hs₂]
    exact hsteps
end Payer
section Calls
variable {p : Program} {l : Launch} {e : Env} {R : Room} {s : State} {m : MethodId} {args : Array Value} {below : List Frame} {meth : Method} {c : Code} {T : State} {locs : List Loc} {cells slots : Nat}
theorem vx_callV (X : Stand p l e R s m args below meth c T locs cells slots) (hexec : p.tables.exec = Jvm.exec) {own C : String} {index : Nat} {y : MethodName} {bytes : ByteArray} {maxL : Nat} {ret : Option FieldType}
    (hown : s.vm.findClass own = some m.cls) (hlink : (Cond.methodLink own index y).before args s = true) (hinst : (Cond.instanceMethod y).before args s = true) (hsel : (Cond.selects C y y).before args s = true)
    (hcode : (Cond.code y bytes maxL ret).before args s = true) (hy : y.cls ≠ "java/lang/invoke/MethodHandle" ∧ y.cls ≠ "java/lang/invoke/VarHandle")
    {W9 : Nat} {Pre : Pt → Array Value → Prop} {Post : Pt → Array Value → Option Value → Pt → Prop} {PostX : Pt → Array Value → Addr → Pt → Prop} (hK : vx_Back l R p e below s args y 3 W9 Pre Post PostX)
    {b : Addr} {cellB : Cell} (hcell : T.heap[b]? = some cellB) (hobj : cellB.vm.isStatics = false) (hcls : s.vm.findClass C = some cellB.cls)
    {g : JFrame} (hg : g.method = m) (hsize : g.locals.size = c.maxLocals) {argsL rest : List Value} (hlen : ∀ sig, parseMethodDescriptor y.desc = some sig → argsL.length = sig.parameters.length)
    (hstack : g.stack = argsL.reverse ++ .ref b :: rest) (hW : 2 * g.monitorRoom + (rest.map fun v => v.category).sum ≤ W9) (hdg : decode c.code g.pc = .ok (.invokevirtual index, 3))
    (hpre : ∀ vm₁, s.WarmedH vm₁ → Pre ⟨T.setVm vm₁, locs, cells, slots⟩ (Value.ref b :: argsL).toArray) :
    (∃ (v : Option Value) (vm₁ : Vm) (B : Pt), s.WarmedH vm₁ ∧ Stand p l e R s m args below meth c B.U B.locs B.cells B.slots ∧ Post ⟨T.setVm vm₁, locs, cells, slots⟩ (Value.ref b :: argsL).toArray v B ∧
      ∀ target, Steps p.tables e below (B.U.setTop { g with pc := g.pc + 3, stack := v.toList ++ rest }) target → Steps p.tables e below (T.setTop g) target) ∨
    (∃ (q : Addr) (vm₁ : Vm) (B : Pt), s.WarmedH vm₁ ∧ Stand p l e R s m args below meth c B.U B.locs B.cells B.slots ∧ PostX ⟨T.setVm vm₁, locs, cells, slots⟩ (Value.ref b :: argsL).toArray q B ∧
      Steps p.tables e below (T.setTop g) ((B.U.setTop { g with stack := rest }).pushFrame (.throwing q))) := by
  obtain ⟨mk, methM, hnamed, hmethM, hstM, habM⟩ := Cond.instanceMethod_spec hinst
  obtain ⟨methM', cM, hmethM', -, -, -, -, -, -, hsigM⟩ := Cond.code_spec hnamed hcode
  cases hmethM.symm.trans hmethM'
  obtain ⟨c2, r2, m2, q1, q2, q3, q4, kP, hkP, hkPi⟩ := Cond.selects_spec hsel
  cases hcls.symm.trans q1
  cases (State.methodFound?_of_named hnamed hy).symm.trans q2
  cases hnamed.symm.trans q3
  have hselP : selectMethod e.platform s.vm cellB.cls mk = .method mk := by rw [Launch.admits_selectMethod X.admits]; exact q4
  obtain ⟨vm₁, X₁, hstep₁⟩ := X.invokevirtual hexec hown hlink hnamed hmethM hstM hkP hkPi hy (a := b) (cell := cellB) hcell
    (fun z h => by rw [h] at hobj; cases hobj) hselP hmethM habM hkP hkPi (g := g) hg (argsL := argsL) (rest := rest) (hlen _ hsigM) hstack hdg
  rcases hK m meth c ⟨T.setVm vm₁, locs, cells, slots⟩ { g with stack := rest } (.invokevirtual index) mk (Value.ref b :: argsL).toArray X₁ hg hsize hdg hW (X₁.named hnamed) (hpre vm₁ X₁.warmed) with ⟨v, B, X', hpost, hsteps⟩ | ⟨q, B, X', hpost, hsteps⟩
  · exact Or.inl ⟨v, vm₁, B, X₁.warmed, X', hpost, fun target h => hstep₁ _ fun acts => by rw [doInvoke_state]; exact hsteps.trans h⟩
  · exact Or.inr ⟨q, vm₁, B, X₁.warmed, X', hpost, hstep₁ _ fun acts => by rw [doInvoke_state]; exact hsteps⟩
theorem vx_callS (X : Stand p l e R s m args below meth c T locs cells slots) (hexec : p.tables.exec = Jvm.exec) {own : String} {index : Nat} {y : MethodName} {bytes : ByteArray} {maxL : Nat} {ret : Option FieldType}
    (hown : s.vm.findClass own = some m.cls) (hlink : (Cond.methodLink own index y).before args s = true) (hstat : (Cond.static y).before args s = true) (hinit : (Cond.initialized y.cls).before args s = true)
    (hcode : (Cond.code y bytes maxL ret).before args s = true) (hy : y.cls ≠ "java/lang/invoke/MethodHandle" ∧ y.cls ≠ "java/lang/invoke/VarHandle")
    {W9 : Nat} {Pre : Pt → Array Value → Prop} {Post : Pt → Array Value → Option Value → Pt → Prop} {PostX : Pt → Array Value → Addr → Pt → Prop} (hK : vx_Back l R p e below s args y 3 W9 Pre Post PostX)
    {g : JFrame} (hg : g.method = m) (hsize : g.locals.size = c.maxLocals) {argsL rest : List Value} (hlen : ∀ sig, parseMethodDescriptor y.desc = some sig → argsL.length = sig.parameters.length)
    (hstack : g.stack = argsL.reverse ++ rest) (hW : 2 * g.monitorRoom + (rest.map fun v => v.category).sum ≤ W9) (hdg : decode c.code g.pc = .ok (.invokestatic index, 3))
    (hpre : ∀ vm₁, s.WarmedH vm₁ → Pre ⟨T.setVm vm₁, locs, cells, slots⟩ argsL.toArray) :
    (∃ (v : Option Value) (vm₁ : Vm) (B : Pt), s.WarmedH vm₁ ∧ Stand p l e R s m args below meth c B.U B.locs B.cells B.slots ∧ Post ⟨T.setVm vm₁, locs, cells, slots⟩ argsL.toArray v B ∧
      ∀ target, Steps p.tables e below (B.U.setTop { g with pc := g.pc + 3, stack := v.toList ++ rest }) target → Steps p.tables e below (T.setTop g) target) ∨
    (∃ (q : Addr) (vm₁ : Vm) (B : Pt), s.WarmedH vm₁ ∧ Stand p l e R s m args below meth c B.U B.locs B.cells B.slots ∧ PostX ⟨T.setVm vm₁, locs, cells, slots⟩ argsL.toArray q B ∧
      Steps p.tables e below (T.setTop g) ((B.U.setTop { g with stack := rest }).pushFrame (.throwing q))) := by
  obtain ⟨mk, hnamed⟩ := Cond.code_named hcode
  obtain ⟨methM, cM, hmethM, -, -, -, -, -, -, hsigM⟩ := Cond.code_spec hnamed hcode
  have hstatic : methM.isStatic = true := Cond.static_spec hnamed hmethM hstat
  obtain ⟨kP, hkP, -⟩ := className_of_methodNamed hnamed
  have hinitP : kP.init = .initialized := Cond.initialized_spec (findClass_of_methodNamed hnamed) hkP hinit
  obtain ⟨vm₁, X₁, hstep₁⟩ := X.invokestatic hexec hown hlink hnamed hmethM hstatic hkP hinitP hy (g := g) hg (argsL := argsL) (rest := rest) (hlen _ hsigM) hstack hdg
  rcases hK m meth c ⟨T.setVm vm₁, locs, cells, slots⟩ { g with stack := rest } (.invokestatic index) mk argsL.toArray X₁ hg hsize hdg hW (X₁.named hnamed) (hpre vm₁ X₁.warmed) with ⟨v, B, X', hpost, hsteps⟩ | ⟨q, B, X', hpost, hsteps⟩
  · exact Or.inl ⟨v, vm₁, B, X₁.warmed, X', hpost, fun target h => hstep₁ _ fun acts => by rw [doInvoke_state]; exact hsteps.trans h⟩
  · exact Or.inr ⟨q, vm₁, B, X₁.warmed, X', hpost, hstep₁ _ fun acts => by rw [doInvoke_state]; exact hsteps⟩
end Calls
theorem vx_cls {s : State} {T : State} {vm₁ : Vm} {E : String} {k : ClassId} (hW : s.WarmedH vm₁) (h : (T.setVm vm₁).vm.findClass E = some k) : s.vm.findClass E = some k := by
  have h1 : vm₁.findClass E = some k := h
  rw [hW.alike.findClass] at h1
  exact h1
/-- the method's frame g, with q thrown over it -/
def vx_W (p : Program) (l : Launch) (e : Env) (R : Room) (s : State) (m : MethodId) (args : Array Value) (below : List Frame) (meth : Method) (c : Code) (H : Heap) (locs : List Loc) (cells slots : Nat) (Q : State → Prop) (g : JFrame) (q : Addr) : Prop :=
  ∀ T : State, T.heap = H → Stand p l e R s m args below meth c T locs cells slots → ∃ t, Steps p.tables e below ((T.setTop g).pushFrame (.throwing q)) t ∧ Q t
def vx_Run (p : Program) (l : Launch) (e : Env) (R : Room) (s : State) (m : MethodId) (args : Array Value) (below : List Frame) (meth : Method) (c : Code) (H : Heap) (locs : List Loc) (cells slots mc ms : Nat) (g : JFrame) (rest : List Value) (Qa : State → Outcome → State → Prop) (XC : String → State → State → Prop) (free : Addr → Prop) : Prop :=
  ∀ T : State, T.heap = H → Stand p l e R s m args below meth c T locs cells slots →
    (∃ (v : Option Value) (st₀ t T' : State) (L : List Loc), st₀.heap = H ∧ Stand p l e R s m args below meth c T' (locs ++ L) (cells + mc) (slots + ms) ∧ (∀ q ∈ L, free q.base) ∧ T'.heap = t.heap ∧ T'.vm = t.vm ∧ Qa st₀ (.returned v) t ∧
      Goes p e below T g T' { g with pc := g.pc + 3, stack := v.toList ++ rest }) ∨
    (∃ (q : Addr) (st₀ t T' : State) (L : List Loc) (E : String) (ce : Cell), st₀.heap = H ∧ Stand p l e R s m args below meth c T' (locs ++ L) (cells + mc) (slots + ms) ∧ (∀ z ∈ L, free z.base) ∧ T'.heap = t.heap ∧ T'.vm = t.vm ∧ XC E st₀ t ∧ t.heap[q]? = some ce ∧ ce.vm = .none ∧ s.vm.findClass E = some ce.cls ∧
      Steps p.tables e below (T.setTop g) ((T'.setTop { g with stack := rest }).pushFrame (.throwing q)))
def vx_X {S : Type} (px : S → Prop) (B : String → S → State → Prop) (A : Nat → Prop) : String → State → State → Prop := fun E st t => ∃ u : S, px u ∧ B E u t ∧ va_F A st t
section Runs
variable {p : Program} {l : Launch} {e : Env} {R : Room} {s : State} {m : MethodId} {args : Array Value} {below : List Frame} {meth : Method} {c : Code} {H : Heap} {locs : List Loc} {cells slots : Nat}
variable {y : MethodName} {bytes cc : ByteArray} {maxL nL mc ms n index : Nat} {ret : Option FieldType} {ws : List Cond} {rm : Room} {Pc : Array Value → State → Prop} {Qc : Array Value → State → Outcome → State → Prop} {XC : String → State → State → Prop} {free : Addr → Prop} {Ts : List Cond} {own C : String} {b : Addr} {As rest : List Value} {g : JFrame}
theorem vx_callBack (cb : CallB R s args own index y bytes maxL ret ws rm mc ms n) (hM : vx_Met l y ws rm Pc Qc XC mc ms free) (hbl : FrameBlind Pc) : vx_Back l R p e below s args y 3 8 (PreOf R mc ms Pc) (PostOf Qc mc ms free) (vx_Post XC mc ms free) := by
  obtain ⟨hrc, hrs, hfr, hlo, hws, hcw, -, hini, -⟩ := cb
  exact vx_back (bytes := bytes) (maxL := maxL) (ret := ret) hM hbl hrc hrs hfr hlo hws hcw (fun a' U hW => word_at hW (Or.inl (by first | rfl | simp [Cond.onTables, Cond.keeps, Cond.steady])) hini)
theorem vx_runV (S : CallFix p m c cc nL s args Ts own) (hM : vx_Met l y ws rm Pc Qc XC mc ms free) (cw : CallW R s args own C index y bytes maxL ret ws rm mc ms n) (hp : PreV s H C b Pc As)
    (hg : g.method = m) (hn : As.length = n) (hsize : g.locals.size = nL) (hstack : g.stack = As.reverse ++ .ref b :: rest) (hW : 2 * g.monitorRoom + (rest.map fun v => v.category).sum ≤ 8) (hdg : decode cc g.pc = .ok (.invokevirtual index, 3)) (hf : cells + mc ≤ R.cells ∧ slots + ms ≤ R.slots) :
    vx_Run p l e R s m args below meth c H locs cells slots mc ms g rest (Qc (Value.ref b :: As).toArray) XC free := by
  have hK : vx_Back l R p e below s args y 3 8 (PreOf R mc ms Pc) (PostOf Qc mc ms free) (vx_Post XC mc ms free) := vx_callBack cw.1 hM hp.1
  obtain ⟨⟨-, -, -, -, -, -, hcode, -, hy, hlen, hl⟩, hin, hse⟩ := cw
  obtain ⟨hx, hb, hml, ho, -⟩ := S
  obtain ⟨-, ⟨cellB, hcB, hoB, hclB⟩, hPc⟩ := hp
  intro T hT X
  rcases vx_callV X hx (C := C) (bytes := bytes) (maxL := maxL) (ret := ret) ho hl hin hse hcode hy hK (by rw [hT]; exact hcB) hoB hclB hg (hsize.trans hml.symm) (argsL := As) (rest := rest) (fun sig h => hn.trans (hlen sig h)) hstack hW (by rw [hb]; exact hdg)
    (fun vm₁ hW₁ => ⟨hf.1, hf.2, hPc (T.setVm vm₁) hT hW₁⟩) with ⟨v, vm₁, ⟨U', l2, c2, s2⟩, hW₁, X', ⟨g', mk, t, L, e1, e2, hq, h1, hL, h2, h3⟩, st⟩ | ⟨q, vm₁, ⟨U', l2, c2, s2⟩, hW₁, X', ⟨g', mk, t, L, E, ce, e1, e2, hq, hce, hcv, hcl, h1, hL, h2, h3⟩, st⟩
  · dsimp only [Pt.U, Pt.locs, Pt.cells, Pt.slots] at X' e1 e2 h1 h2 h3 st
    subst h1; subst h2; subst h3
    exact Or.inl ⟨v, (T.setVm vm₁).calling g' mk (Value.ref b :: As).toArray, t, U', L, hT, X', hL, e1, e2, hq, st⟩
  · dsimp only [Pt.U, Pt.locs, Pt.cells, Pt.slots] at X' e1 e2 h1 h2 h3 st hcl
    subst h1; subst h2; subst h3
    exact Or.inr ⟨q, (T.setVm vm₁).calling g' mk (Value.ref b :: As).toArray, t, U', L, E, ce, hT, X', hL, e1, e2, hq, hce, hcv, vx_cls hW₁ hcl, st⟩
theorem vx_runS (S : CallFix p m c cc nL s args Ts own) (hM : vx_Met l y ws rm Pc Qc XC mc ms free) (cw : CallB R s args own index y bytes maxL ret ws rm mc ms n ∧ (Cond.static y).before args s = true) (hp : PreS s H Pc As)
    (hg : g.method = m) (hn : As.length = n) (hsize : g.locals.size = nL) (hstack : g.stack = As.reverse ++ rest) (hW : 2 * g.monitorRoom + (rest.map fun v => v.category).sum ≤ 8) (hdg : decode cc g.pc = .ok (.invokestatic index, 3)) (hf : cells + mc ≤ R.cells ∧ slots + ms ≤ R.slots) :
    vx_Run p l e R s m args below meth c H locs cells slots mc ms g rest (Qc As.toArray) XC free := by
  have hK : vx_Back l R p e below s args y 3 8 (PreOf R mc ms Pc) (PostOf Qc mc ms free) (vx_Post XC mc ms free) := vx_callBack cw.1 hM hp.1
  obtain ⟨⟨-, -, -, -, -, -, hcode, hini, hy, hlen, hl⟩, hstt⟩ := cw
  obtain ⟨hx, hb, hml, ho, -⟩ := S
  intro T hT X
  rcases vx_callS X hx (bytes := bytes) (maxL := maxL) (ret := ret) ho hl hstt hini hcode hy hK hg (hsize.trans hml.symm) (argsL := As) (rest := rest) (fun sig h => hn.trans (hlen sig h)) hstack hW (by rw [hb]; exact hdg)
    (fun vm₁ hW₁ => ⟨hf.1, hf.2, hp.2 (T.setVm vm₁) hT hW₁⟩) with ⟨v, vm₁, ⟨U', l2, c2, s2⟩, hW₁, X', ⟨g', mk, t, L, e1, e2, hq, h1, hL, h2, h3⟩, st⟩ | ⟨q, vm₁, ⟨U', l2, c2, s2⟩, hW₁, X', ⟨g', mk, t, L, E, ce, e1, e2, hq, hce, hcv, hcl, h1, hL, h2, h3⟩, st⟩
  · dsimp only [Pt.U, Pt.locs, Pt.cells, Pt.slots] at X' e1 e2 h1 h2 h3 st
    subst h1; subst h2; subst h3
    exact Or.inl ⟨v, (T.setVm vm₁).calling g' mk As.toArray, t, U', L, hT, X', hL, e1, e2, hq, st⟩
  · dsimp only [Pt.U, Pt.locs, Pt.cells, Pt.slots] at X' e1 e2 h1 h2 h3 st hcl
    subst h1; subst h2; subst h3
    exact Or.inr ⟨q, (T.setVm vm₁).calling g' mk As.toArray, t, U', L, E, ce, hT, X', hL, e1, e2, hq, hce, hcv, vx_cls hW₁ hcl, st⟩
end Runs
section Rows
variable {p : Program} {l : Launch} {e : Env} {R : Room} {s : State} {m : MethodId} {args : Array Value} {below : List Frame} {meth : Method} {c : Code} {H : Heap} {locs : List Loc} {cells slots : Nat} {Q : State → Prop}
variable {mc ms : Nat} {free : Addr → Prop} {A0 A1 : Nat → Prop} {H0 : Heap} {a : Array Value} {pc : Nat} {ls : Array Slot} {st0 rest : List Value}
theorem vx_keep {st₀ t T' : State} {L : List Loc} (h0 : st₀.heap = H) (e1 : T'.heap = t.heap) (hS : va_S A0 H0 H locs) (hA : ∀ q, q < H.size → A1 q → A0 q) (hf : ∀ q, free q → A0 q) (hL : ∀ q ∈ L, free q.base) (hF : va_F A1 st₀ t) :
    H.size ≤ T'.heap.size ∧ (∀ q : Nat, q < H.size → ¬ A1 q → T'.heap[q]? = H[q]?) ∧ va_S A0 H0 T'.heap (locs ++ L) := by
  obtain ⟨hz, hk⟩ := hF
  rw [h0] at hz hk
  exact ⟨by rw [e1]; exact hz, fun q h1 h2 => by rw [e1]; exact hk q h1 h2,
    ⟨Nat.le_trans hS.1 (by rw [e1]; exact hz), fun q h1 h2 => by rw [e1, hk q (Nat.lt_of_lt_of_le h1 hS.1) (fun z => h2 (hA q (Nat.lt_of_lt_of_le h1 hS.1) z))]; exact hS.2.1 q h1 h2, fun q hq => by
      rcases List.mem_append.mp hq with h | h
      · exact hS.2.2 q h
      · exact hf _ (hL q h)⟩⟩
theorem vx_calli {S SX : Type} {post : Int32 → S → Prop} {px : SX → Prop} {B : S → State → Prop} {BX : String → SX → State → Prop} {AX : Nat → Prop} (hr : vx_Run p l e R s m args below meth c H locs cells slots mc ms (F0 m pc ls st0) rest (va_Qi post B A1 a) (vx_X px BX AX) free) (hS : va_S A0 H0 H locs) (hA : ∀ q, q < H.size → A1 q → A0 q) (hf : ∀ q, free q → A0 q) (hAX : ∀ q, q < H.size → AX q → A0 q)
    (kx : ∀ (E : String) (ce : Cell) (q9 : Addr) (u : SX) (t : State) (H1 : Heap) (locs1 : List Loc), t.heap = H1 → s.vm.Alike t.vm → px u → BX E u t → H.size ≤ H1.size → (∀ q : Nat, q < H.size → ¬ AX q → H1[q]? = H[q]?) → va_S A0 H0 H1 locs1 → H1[q9]? = some ce → ce.vm = .none → s.vm.findClass E = some ce.cls → vx_W p l e R s m args below meth c H1 locs1 (cells + mc) (slots + ms) Q (F0 m pc ls rest) q9)
    (kk : ∀ (r : Int32) (u : S) (t : State) (H1 : Heap) (locs1 : List Loc), t.heap = H1 → s.vm.Alike t.vm → post r u → B u t → H.size ≤ H1.size → (∀ q : Nat, q < H.size → ¬ A1 q → H1[q]? = H[q]?) → va_S A0 H0 H1 locs1 → W p l e R s m args below meth c H1 locs1 (cells + mc) (slots + ms) Q (F0 m (pc + 3) ls (.int r :: rest))) : W p l e R s m args below meth c H locs cells slots Q (F0 m pc ls st0) := by
  intro T hT X
  rcases hr T hT X with ⟨v, st₀, t, T', L, h0, X', hL, e1, e2, ⟨⟨r, u, hv, hp, hb⟩, hF⟩, st⟩ | ⟨q, st₀, t, T', L, E, ce, h0, X', hL, e1, e2, ⟨u, hp, hb, hF⟩, hce, hcv, hcl, st⟩
  · cases hv
    obtain ⟨k1, k2, k3⟩ := vx_keep h0 e1 hS hA hf hL hF
    obtain ⟨t2, a1, b1⟩ := kk r u t T'.heap (locs ++ L) e1.symm (by rw [← e2]; exact X'.warmed.alike) hp hb k1 k2 k3 T' rfl X'
    exact ⟨t2, st t2 a1, b1⟩
  · obtain ⟨k1, k2, k3⟩ := vx_keep h0 e1 hS hAX hf hL hF
    obtain ⟨t2, a1, b1⟩ := kx E ce q u t T'.heap (locs ++ L) e1.symm (by rw [← e2]; exact X'.warmed.alike) hp hb k1 k2 k3 (by rw [e1]; exact hce) hcv hcl T' rfl X'
    exact ⟨t2, st.trans a1, b1⟩
theorem vx_calll {S SX : Type} {post : Int64 → S → Prop} {px : SX → Prop} {B : S → State → Prop} {BX : String → SX → State → Prop} {AX : Nat → Prop} (hr : vx_Run p l e R s m args below meth c H locs cells slots mc ms (F0 m pc ls st0) rest (va_Ql post B A1 a) (vx_X px BX AX) free) (hS : va_S A0 H0 H locs) (hA : ∀ q, q < H.size → A1 q → A0 q) (hf : ∀ q, free q → A0 q) (hAX : ∀ q, q < H.size → AX q → A0 q)
    (kx : ∀ (E : String) (ce : Cell) (q9 : Addr) (u : SX) (t : State) (H1 : Heap) (locs1 : List Loc), t.heap = H1 → s.vm.Alike t.vm → px u → BX E u t → H.size ≤ H1.size → (∀ q : Nat, q < H.size → ¬ AX q → H1[q]? = H[q]?) → va_S A0 H0 H1 locs1 → H1[q9]? = some ce → ce.vm = .none → s.vm.findClass E = some ce.cls → vx_W p l e R s m args below meth c H1 locs1 (cells + mc) (slots + ms) Q (F0 m pc ls rest) q9)
    (kk : ∀ (r : Int64) (u : S) (t : State) (H1 : Heap) (locs1 : List Loc), t.heap = H1 → s.vm.Alike t.vm → post r u → B u t → H.size ≤ H1.size → (∀ q : Nat, q < H.size → ¬ A1 q → H1[q]? = H[q]?) → va_S A0 H0 H1 locs1 → W p l e R s m args below meth c H1 locs1 (cells + mc) (slots + ms) Q (F0 m (pc + 3) ls (.long r :: rest))) : W p l e R s m args below meth c H locs cells slots Q (F0 m pc ls st0) := by
  intro T hT X
  rcases hr T hT X with ⟨v, st₀, t, T', L, h0, X', hL, e1, e2, ⟨⟨r, u, hv, hp, hb⟩, hF⟩, st⟩ | ⟨q, st₀, t, T', L, E, ce, h0, X', hL, e1, e2, ⟨u, hp, hb, hF⟩, hce, hcv, hcl, st⟩
  · cases hv
    obtain ⟨k1, k2, k3⟩ := vx_keep h0 e1 hS hA hf hL hF
    obtain ⟨t2, a1, b1⟩ := kk r u t T'.heap (locs ++ L) e1.symm (by rw [← e2]; exact X'.warmed.alike) hp hb k1 k2 k3 T' rfl X'
    exact ⟨t2, st t2 a1, b1⟩
  · obtain ⟨k1, k2, k3⟩ := vx_keep h0 e1 hS hAX hf hL hF
    obtain ⟨t2, a1, b1⟩ := kx E ce q u t T'.heap (locs ++ L) e1.symm (by rw [← e2]; exact X'.warmed.alike) hp hb k1 k2 k3 (by rw [e1]; exact hce) hcv hcl T' rfl X'
    exact ⟨t2, st.trans a1, b1⟩
theorem vx_callf {S SX : Type} {post : UInt32 → S → Prop} {px : SX → Prop} {B : S → State → Prop} {BX : String → SX → State → Prop} {AX : Nat → Prop} (hr : vx_Run p l e R s m args below meth c H locs cells slots mc ms (F0 m pc ls st0) rest (va_Qf post B A1 a) (vx_X px BX AX) free) (hS : va_S A0 H0 H locs) (hA : ∀ q, q < H.size → A1 q → A0 q) (hf : ∀ q, free q → A0 q) (hAX : ∀ q, q < H.size → AX q → A0 q)
    (kx : ∀ (E : String) (ce : Cell) (q9 : Addr) (u : SX) (t : State) (H1 : Heap) (locs1 : List Loc), t.heap = H1 → s.vm.Alike t.vm → px u → BX E u t → H.size ≤ H1.size → (∀ q : Nat, q < H.size → ¬ AX q → H1[q]? = H[q]?) → va_S A0 H0 H1 locs1 → H1[q9]? = some ce → ce.vm = .none → s.vm.findClass E = some ce.cls → vx_W p l e R s m args below meth c H1 locs1 (cells + mc) (slots + ms) Q (F0 m pc ls rest) q9)
    (kk : ∀ (r : UInt32) (u : S) (t : State) (H1 : Heap) (locs1 : List Loc), t.heap = H1 → s.vm.Alike t.vm → post r u → B u t → H.size ≤ H1.size → (∀ q : Nat, q < H.size → ¬ A1 q → H1[q]? = H[q]?) → va_S A0 H0 H1 locs1 → W p l e R s m args below meth c H1 locs1 (cells + mc) (slots + ms) Q (F0 m (pc + 3) ls (.float r :: rest))) : W p l e R s m args below meth c H locs cells slots Q (F0 m pc ls st0) := by
  intro T hT X
  rcases hr T hT X with ⟨v, st₀, t, T', L, h0, X', hL, e1, e2, ⟨⟨r, u, hv, hp, hb⟩, hF⟩, st⟩ | ⟨q, st₀, t, T', L, E, ce, h0, X', hL, e1, e2, ⟨u, hp, hb, hF⟩, hce, hcv, hcl, st⟩
  · cases hv
    obtain ⟨k1, k2, k3⟩ := vx_keep h0 e1 hS hA hf hL hF
    obtain ⟨t2, a1, b1⟩ := kk r u t T'.heap (locs ++ L) e1.symm (by rw [← e2]; exact X'.warmed.alike) hp hb k1 k2 k3 T' rfl X'
    exact ⟨t2, st t2 a1, b1⟩
  · obtain ⟨k1, k2, k3⟩ := vx_keep h0 e1 hS hAX hf hL hF
    obtain ⟨t2, a1, b1⟩ := kx E ce q u t T'.heap (locs ++ L) e1.symm (by rw [← e2]; exact X'.warmed.alike) hp hb k1 k2 k3 (by rw [e1]; exact hce) hcv hcl T' rfl X'
    exact ⟨t2, st.trans a1, b1⟩
theorem vx_calld {S SX : Type} {post : UInt64 → S → Prop} {px : SX → Prop} {B : S → State → Prop} {BX : String → SX → State → Prop} {AX : Nat → Prop} (hr : vx_Run p l e R s m args below meth c H locs cells slots mc ms (F0 m pc ls st0) rest (va_Qd post B A1 a) (vx_X px BX AX) free) (hS : va_S A0 H0 H locs) (hA : ∀ q, q < H.size → A1 q → A0 q) (hf : ∀ q, free q → A0 q) (hAX : ∀ q, q < H.size → AX q → A0 q)
    (kx : ∀ (E : String) (ce : Cell) (q9 : Addr) (u : SX) (t : State) (H1 : Heap) (locs1 : List Loc), t.heap = H1 → s.vm.Alike t.vm → px u → BX E u t → H.size ≤ H1.size → (∀ q : Nat, q < H.size → ¬ AX q → H1[q]? = H[q]?) → va_S A0 H0 H1 locs1 → H1[q9]? = some ce → ce.vm = .none → s.vm.findClass E = some ce.cls → vx_W p l e R s m args below meth c H1 locs1 (cells + mc) (slots + ms) Q (F0 m pc ls rest) q9)
    (kk : ∀ (r : UInt64) (u : S) (t : State) (H1 : Heap) (locs1 : List Loc), t.heap = H1 → s.vm.Alike t.vm → post r u → B u t → H.size ≤ H1.size → (∀ q : Nat, q < H.size → ¬ A1 q → H1[q]? = H[q]?) → va_S A0 H0 H1 locs1 → W p l e R s m args below meth c H1 locs1 (cells + mc) (slots + ms) Q (F0 m (pc + 3) ls (.double r :: rest))) : W p l e R s m args below meth c H locs cells slots Q (F0 m pc ls st0) := by
  intro T hT X
  rcases hr T hT X with ⟨v, st₀, t, T', L, h0, X', hL, e1, e2, ⟨⟨r, u, hv, hp, hb⟩, hF⟩, st⟩ | ⟨q, st₀, t, T', L, E, ce, h0, X', hL, e1, e2, ⟨u, hp, hb, hF⟩, hce, hcv, hcl, st⟩
  · cases hv
    obtain ⟨k1, k2, k3⟩ := vx_keep h0 e1 hS hA hf hL hF
    obtain ⟨t2, a1, b1⟩ := kk r u t T'.heap (locs ++ L) e1.symm (by rw [← e2]; exact X'.warmed.alike) hp hb k1 k2 k3 T' rfl X'
    exact ⟨t2, st t2 a1, b1⟩
  · obtain ⟨k1, k2, k3⟩ := vx_keep h0 e1 hS hAX hf hL hF
    obtain ⟨t2, a1, b1⟩ := kx E ce q u t T'.heap (locs ++ L) e1.symm (by rw [← e2]; exact X'.warmed.alike) hp hb k1 k2 k3 (by rw [e1]; exact hce) hcv hcl T' rfl X'
    exact ⟨t2, st.trans a1, b1⟩
theorem vx_callv {S SX : Type} {post : S → Prop} {px : SX → Prop} {B : S → State → Prop} {BX : String → SX → State → Prop} {AX : Nat → Prop} (hr : vx_Run p l e R s m args below meth c H locs cells slots mc ms (F0 m pc ls st0) rest (va_Qv post B A1 a) (vx_X px BX AX) free) (hS : va_S A0 H0 H locs) (hA : ∀ q, q < H.size → A1 q → A0 q) (hf : ∀ q, free q → A0 q) (hAX : ∀ q, q < H.size → AX q → A0 q)
    (kx : ∀ (E : String) (ce : Cell) (q9 : Addr) (u : SX) (t : State) (H1 : Heap) (locs1 : List Loc), t.heap = H1 → s.vm.Alike t.vm → px u → BX E u t → H.size ≤ H1.size → (∀ q : Nat, q < H.size → ¬ AX q → H1[q]? = H[q]?) → va_S A0 H0 H1 locs1 → H1[q9]? = some ce → ce.vm = .none → s.vm.findClass E = some ce.cls → vx_W p l e R s m args below meth c H1 locs1 (cells + mc) (slots + ms) Q (F0 m pc ls rest) q9)
    (kk : ∀ (u : S) (t : State) (H1 : Heap) (locs1 : List Loc), t.heap = H1 → s.vm.Alike t.vm → post u → B u t → H.size ≤ H1.size → (∀ q : Nat, q < H.size → ¬ A1 q → H1[q]? = H[q]?) → va_S A0 H0 H1 locs1 → W p l e R s m args below meth c H1 locs1 (cells + mc) (slots + ms) Q (F0 m (pc + 3) ls (rest))) : W p l e R s m args below meth c H locs cells slots Q (F0 m pc ls st0) := by
  intro T hT X
  rcases hr T hT X with ⟨v, st₀, t, T', L, h0, X', hL, e1, e2, ⟨⟨u, hv, hp, hb⟩, hF⟩, st⟩ | ⟨q, st₀, t, T', L, E, ce, h0, X', hL, e1, e2, ⟨u, hp, hb, hF⟩, hce, hcv, hcl, st⟩
  · cases hv
    obtain ⟨k1, k2, k3⟩ := vx_keep h0 e1 hS hA hf hL hF
    obtain ⟨t2, a1, b1⟩ := kk u t T'.heap (locs ++ L) e1.symm (by rw [← e2]; exact X'.warmed.alike) hp hb k1 k2 k3 T' rfl X'
    exact ⟨t2, st t2 a1, b1⟩
  · obtain ⟨k1, k2, k3⟩ := vx_keep h0 e1 hS hAX hf hL hF
    obtain ⟨t2, a1, b1⟩ := kx E ce q u t T'.heap (locs ++ L) e1.symm (by rw [← e2]; exact X'.warmed.alike) hp hb k1 k2 k3 (by rw [e1]; exact hce) hcv hcl T' rfl X'
    exact ⟨t2, st.trans a1, b1⟩
/-- caught by the row x of this method's table; the rows ahead don't take it -/
theorem vx_catch {own name : String} {E : String} {ce : Cell} {q : Addr} (hown : s.vm.findClass own = some m.cls) (pre : List ExceptionTableEntry) (x : ExceptionTableEntry) (suf : List ExceptionTableEntry) (hsplit : c.exceptionTable.toList = pre ++ x :: suf)
    (hpass : ∀ z ∈ pre, covers z pc = false ∨ (z.catchType ≠ 0 ∧ ∃ nm : String, (Cond.classLink own z.catchType nm).before args s = true ∧ va_Nc E nm s)) (hx : covers x pc = true) (h0 : x.catchType ≠ 0)
    (hlink : (Cond.classLink own x.catchType name).before args s = true) (hcast : (Cond.castable E name).before args s = true) (hcell : H[q]? = some ce) (hv : ce.vm = .none) (hcl : s.vm.findClass E = some ce.cls)
    (kk : W p l e R s m args below meth c H locs cells slots Q (F0 m x.handlerPc ls [.ref q])) : vx_W p l e R s m args below meth c H locs cells slots Q (F0 m pc ls rest) q := by
  intro T hT X
  have hpl : e.platform.magicAccessors = ({} : Platform).magicAccessors := by rw [X.admits.platform]
  obtain ⟨c3, c4, hc3, hc4, hasg⟩ := Cond.castable_spec hcast
  cases Option.some.inj (hc3.symm.trans hcl)
  obtain ⟨c5, hc5, hcl5⟩ := Cond.classLink_spec hown hlink e.platform hpl
  cases Option.some.inj (hc4.symm.trans hc5)
  obtain ⟨vm', X', st⟩ := X.thenCaughtThrough q (g := F0 m pc ls rest) rfl (Steps.refl _) (by rw [hT]; exact hcell) (by rw [hv]; rfl) (by obtain ⟨k9, h9, -⟩ := Vm.findClass_spec hcl; exact ⟨k9, h9⟩) pre x suf hsplit
    (fun z hz => by
      rcases hpass z hz with h | ⟨hz0, nm, hl1, hn1⟩
      · exact Or.inl h
      · obtain ⟨c6, hc6, hcl6⟩ := Cond.classLink_spec hown hl1 e.platform hpl
        obtain ⟨a8, b8, h1, h2, h3⟩ := hn1
        cases Option.some.inj (h1.symm.trans hcl)
        cases Option.some.inj (h2.symm.trans hc6)
        exact Or.inr ⟨hz0, _, hcl6, h3⟩) hx (Or.inr ⟨h0, c4, hcl5, hasg⟩)
  obtain ⟨t, a1, b1⟩ := kk (T.setVm vm') hT X'
  exact ⟨t, st.trans a1, b1⟩
end Rows
section Ends
variable {p : Program} {l : Launch} {e : Env} {R : Room} {s : State} {m : MethodId} {args : Array Value} {below : List Frame} {meth : Method} {c : Code} {H : Heap} {locs : List Loc} {cells slots : Nat} {Q : State → Prop}
variable {mc ms : Nat} {free : Addr → Prop} {A0 A1 : Nat → Prop} {H0 : Heap} {a : Array Value} {ls : Array Slot} {st0 rest : List Value}
variable {Qc : Array Value → State → Outcome → State → Prop} {XC : String → State → State → Prop}
/-- what a body that may throw owes at its end -/
def vx_MQ (below : List Frame) (Qc : Array Value → State → Outcome → State → Prop) (XC : String → State → State → Prop) (a : Array Value) (s : State) (mc ms : Nat) (free : Addr → Prop) : State → Prop := fun t =>
  ∃ o, t.status = .running ∧ Ended t below o ∧ vx_Q Qc XC mc ms free a s o t
theorem vx_ret {g : JFrame} {mc ms : Nat} (k : W p l e R s m args below meth c H locs cells slots (MQ below Qc args s mc ms free) g) : W p l e R s m args below meth c H locs cells slots (vx_MQ below Qc XC args s mc ms free) g := by
  intro T hT X
  obtain ⟨t, a1, o, b1, b2, b3, b4⟩ := k T hT X
  exact ⟨t, a1, o, b1, b2, Or.inl ⟨b3, b4⟩⟩
/-- not caught here: it goes on to the caller -/
theorem vx_widen {g : JFrame} {q : Addr} {k n : Nat} (h1 : cells ≤ k) (h2 : slots ≤ n) (kk : vx_W p l e R s m args below meth c H locs k n Q g q) : vx_W p l e R s m args below meth c H locs cells slots Q g q := fun T hT X => kk T hT (stand_widen X h1 h2)
theorem vx_out {pc : Nat} {E : String} {ce : Cell} {q : Addr} {mc ms : Nat} (hout : ∀ x ∈ c.exceptionTable.toList, covers x pc = false) (hlocks : meth.locks = false) (hcell : H[q]? = some ce) (hv : ce.vm = .none) (hcl : s.vm.findClass E = some ce.cls)
    (hx : ∀ t : State, t.heap = H → s.vm.Alike t.vm → XC E s t) (hf : ∀ z ∈ locs, free z.base) (hc : cells ≤ mc) (hs : slots ≤ ms) :
    vx_W p l e R s m args below meth c H locs cells slots (vx_MQ below Qc XC args s mc ms free) (F0 m pc ls rest) q := by
  intro T hT X
  obtain ⟨st1, hrun, hend, hW, hsm⟩ := X.leaveThrown q (g := F0 m pc ls rest) rfl rfl rfl hout hlocks
  have hcell9 : (T.setFrames (.throwing q :: below)).heap[q]? = some ce := by
    show T.heap[q]? = some ce
    rw [hT]; exact hcell
  exact ⟨_, st1, .threw q, hrun, hend, Or.inr ⟨q, rfl, E, ce, locs, hx _ hT hW.alike, hcell9, hv, hcl, hW, hsm.mono hc hs, hf⟩⟩
theorem vx_frame {U : State} {k n : Nat} (h : s.sameButNew ({ U with vm := s.vm } : State) locs k n) : s.heap.size ≤ U.heap.size ∧ ∀ q : Nat, q < s.heap.size → (∀ z ∈ locs, z.base ≠ q) → U.heap[q]? = s.heap[q]? := by
  obtain ⟨-, h2, -, -, -, h6⟩ := h
  refine ⟨h2, fun q hq hz => ?_⟩
  obtain ⟨c9, e1, e2, e3, e4⟩ := h6 q _ (Array.getElem?_eq_getElem hq)
  have hs : c9.slots = (s.heap[q]).slots := Array.ext_getElem? fun i => e4 i fun hm => hz _ hm rfl
  have h9 : c9 = s.heap[q] := by
    rw [hs] at e2
    exact e2
  have e5 : U.heap[q]? = some c9 := e1
  rw [e5, h9, Array.getElem?_eq_getElem hq]
/-- the words of a throw but the four that speak of the heap -/
def vx_no (w : Cond) : Bool := decide (w ≠ .isRef (.static Bundle.tN "UNASSIGNED_STACK" Bundle.steD)) && decide (w ≠ .isRef (.static Bundle.tN "SUPPRESSED_SENTINEL" Bundle.listD)) && decide (w ≠ .laysStatic Bundle.tN "UNASSIGNED_STACK" Bundle.steD) && decide (w ≠ .laysStatic Bundle.tN "SUPPRESSED_SENTINEL" Bundle.listD)
def vx_at0 (own : String) (ic : Nat) (X : String) (names : List String) : List Cond := (Bundle.ownAtoms0 own ic X names).filter vx_no
def vx_atS (own : String) (ic : Nat) (X : String) (names : List String) : List Cond := (Bundle.ownAtoms own ic X names).filter vx_no
/-- a word that the tables alone decide, or a good one -/
def vx_ot (w : Cond) : Bool := w.onTables || goodWord w
theorem vx_ot_at {args a' : Array Value} {s U : State} {w : Cond} (hW : s.WarmedH U.vm) (hvm : s.vm = U.vm) (hg : vx_ot w = true) (h : w.before args s = true) : w.before a' U = true := by
  simp only [vx_ot, Bool.or_eq_true] at hg
  rcases hg with hg | hg
  · exact va_tabs hg hvm h
  · exact word_at hW (good_of_word hg) h
/-- a list's words: the good ones out of the method's own list, the others by premises of their own -/
theorem vx_hat {args : Array Value} {s : State} {L B : List Cond} (h1 : ∀ w ∈ L.filter goodWord, w.before args s = true) (h2 : ∀ w ∈ L.filter (fun w => !goodWord w), w ∈ B) (h3 : ∀ w ∈ B, w.before args s = true) : ∀ w ∈ L, w.before args s = true := by
  intro w hw
  by_cases g : goodWord w = true
  · exact h1 w (List.mem_filter.mpr ⟨hw, g⟩)
  · refine h3 w (h2 w (List.mem_filter.mpr ⟨hw, ?_⟩))
    show (!goodWord w) = true
    cases hgw : goodWord w
    · rfl
    · exact absurd hgw g
theorem vx_c {args : Array Value} {s : State} {w : Cond} {B : List Cond} (h : w.before args s = true) (t : ∀ w ∈ B, w.before args s = true) : ∀ w' ∈ w :: B, w'.before args s = true := fun w' h' => (List.mem_cons.mp h').elim (fun e => by rw [e]; exact h) (t w')
theorem vx_n {args : Array Value} {s : State} : ∀ w ∈ ([] : List Cond), w.before args s = true := fun _ h => nomatch h
theorem vx_own {args : Array Value} {s : State} {L : List Cond} (h1 : ∀ w ∈ L.filter vx_no, w.before args s = true)
    (hU : (Cond.isRef (.static Bundle.tN "UNASSIGNED_STACK" Bundle.steD)).before args s = true) (hN : (Cond.isRef (.static Bundle.tN "SUPPRESSED_SENTINEL" Bundle.listD)).before args s = true)
    (lU : (Cond.laysStatic Bundle.tN "UNASSIGNED_STACK" Bundle.steD).before args s = true) (lN : (Cond.laysStatic Bundle.tN "SUPPRESSED_SENTINEL" Bundle.listD).before args s = true) : ∀ w ∈ L, w.before args s = true := by
  intro w hw
  by_cases e1 : w = .isRef (.static Bundle.tN "UNASSIGNED_STACK" Bundle.steD)
  · rw [e1]; exact hU
  · by_cases e2 : w = .isRef (.static Bundle.tN "SUPPRESSED_SENTINEL" Bundle.listD)
    · rw [e2]; exact hN
    · by_cases e3 : w = .laysStatic Bundle.tN "UNASSIGNED_STACK" Bundle.steD
      · rw [e3]; exact lU
      · by_cases e4 : w = .laysStatic Bundle.tN "SUPPRESSED_SENTINEL" Bundle.listD
        · rw [e4]; exact lN
        · exact h1 w (List.mem_filter.mpr ⟨hw, by unfold vx_no; rw [decide_eq_true e1, decide_eq_true e2, decide_eq_true e3, decide_eq_true e4]; rfl⟩)
/-- where a static field lies, its class's statics cell in H -/
def vx_L (C n d : String) (A : Nat → Prop) (U : State) (H : Heap) : Prop := ∃ (c : ClassId) (k : Class) (i : Nat) (f : Field) (a : Nat) (cell : Cell), U.vm.findClass C = some c ∧ U.fieldFound? C n d = some (c, k, i, f) ∧ f.isStatic = true ∧ k.statics = some a ∧ H[a]? = some cell ∧ cell.vm.isStatics = true ∧ cell.cls = c ∧ f.slot < cell.slots.size ∧ k.staticTypes[f.slot]? = some f.type ∧ ¬ A a
theorem vx_L.moved {C n d : String} {A : Nat → Prop} {u U : State} {H : Heap} (hvm : u.vm.Alike U.vm) (h : vx_L C n d A u H) : vx_L C n d A U H := by
  obtain ⟨c, k, i, f, a, cell, h1, h2, h3, h4, h5, h6, h7, h8, h9, h10⟩ := h
  obtain ⟨k', hi', he⟩ := State.fieldFound?_setVm hvm h2
  exact ⟨c, k', i, f, a, cell, by rw [hvm.findClass]; exact h1, hi', h3, by rw [he]; exact h4, h5, h6, h7, h8, by rw [he]; exact h9, h10⟩
theorem vx_L.kept {C n d : String} {A : Nat → Prop} {U : State} {H H1 : Heap} (h : vx_L C n d A U H) (hq : ∀ a : Nat, a < H.size → ¬ A a → H1[a]? = H[a]?) : vx_L C n d A U H1 := by
  obtain ⟨c, k, i, f, a, cell, h1, h2, h3, h4, h5, h6, h7, h8, h9, h10⟩ := h
  exact ⟨c, k, i, f, a, cell, h1, h2, h3, h4, by rw [hq a (Array.getElem?_eq_some_iff.mp h5).1 h10]; exact h5, h6, h7, h8, h9, h10⟩
theorem vx_L.narrow {C n d : String} {A B : Nat → Prop} {U : State} {H : Heap} (h : vx_L C n d A U H) (hAB : ∀ q, B q → A q) : vx_L C n d B U H := by
  obtain ⟨c, k, i, f, a, cell, h1, h2, h3, h4, h5, h6, h7, h8, h9, h10⟩ := h
  exact ⟨c, k, i, f, a, cell, h1, h2, h3, h4, h5, h6, h7, h8, h9, fun z => h10 (hAB _ z)⟩
theorem vx_L.word {C n d : String} {A : Nat → Prop} {s : State} {args : Array Value} (h : vx_L C n d A s s.heap) : (Cond.laysStatic C n d).before args s = true := by
  obtain ⟨c, k, i, f, a, cell, h1, h2, h3, h4, h5, h6, h7, h8, h9, -⟩ := h
  show (Cond.laysStatic C n d).holds args s none s [] = true
  exact Cond.laysStatic_of h1 h2 h3 h4 h5 h6 h7 h8 h9
/-- .. and what it holds: null or some reference -/
def vx_Zq (C n d : String) (A : Nat → Prop) (U : State) (H : Heap) : Prop := va_Zq C n d A U H ∧ vx_L C n d A U H
theorem vx_Zq.moved {C n d : String} {A : Nat → Prop} {u U : State} {H : Heap} (hvm : u.vm.Alike U.vm) (h : vx_Zq C n d A u H) : vx_Zq C n d A U H := ⟨va_Zq.moved hvm h.1, vx_L.moved hvm h.2⟩
theorem vx_Zq.kept {C n d : String} {A : Nat → Prop} {U : State} {H H1 : Heap} (h : vx_Zq C n d A U H) (hq : ∀ a : Nat, a < H.size → ¬ A a → H1[a]? = H[a]?) : vx_Zq C n d A U H1 := ⟨va_Zq.kept h.1 hq, vx_L.kept h.2 hq⟩
theorem vx_Zq.narrow {C n d : String} {A B : Nat → Prop} {U : State} {H : Heap} (h : vx_Zq C n d A U H) (hAB : ∀ q, B q → A q) : vx_Zq C n d B U H := ⟨va_Zq.narrow h.1 hAB, vx_L.narrow h.2 hAB⟩
theorem vx_Zqof {args : Array Value} {s : State} {C n d : String} {A : Nat → Prop} (hl : (Cond.laysStatic C n d).before args s = true) (hini : (Cond.initialized C).before args s = true) (h : (Cond.isRef (.static C n d)).before args s = true) (hA : ∀ a : Nat, a < s.heap.size → ¬ A a) : vx_Zq C n d A s s.heap := by
  refine ⟨va_Zqof hl hini h hA, ?_⟩
  obtain ⟨c, k, i, f, a, cell, h1, h2, h3, h4, h5, h6, h7, h8, h9⟩ := Cond.laysStatic_spec hl
  exact ⟨c, k, i, f, a, cell, h1, h2, h3, h4, h5, h6, h7, h8, h9, hA a (Array.getElem?_eq_some_iff.mp h5).1⟩
theorem vx_isRef {C n d : String} {v : Value} {A : Nat → Prop} {s : State} {args : Array Value} (h : va_Z C n d v A s s.heap) (hv : v.isRef = true) : (Cond.isRef (.static C n d)).before args s = true := by
  obtain ⟨cf, kf, fi, f, a, cell, h1, h2, h3, h4, h5, h6, h7, -⟩ := h
  have he : (Term.static C n d).eval args s none [] s = some v := by
    simp [Term.eval, State.fieldNamed?, h1, h2, h4, h5, h6, h7]
  simp only [Cond.before, Cond.holds, Cond.value, he]
  cases v <;> simp_all [Value.isRef]
theorem vx_isRefq {C n d : String} {A : Nat → Prop} {s : State} {args : Array Value} (h : va_Zq C n d A s s.heap) : (Cond.isRef (.static C n d)).before args s = true := by
  rcases h with h | ⟨t, h⟩
  · exact vx_isRef h rfl
  · exact vx_isRef h rfl
/-- the same frame, seen from here: as if the method were called anew in this heap -/
theorem vx_rebase {T : State} (X : Stand p l e R s m args below meth c T locs cells slots) {R' : Room} (hf : R'.frames ≤ R.frames) (hl : R'.locals ≤ R.locals) (hc : cells + R'.cells ≤ R.cells) (hs : slots + R'.slots ≤ R.slots) :
    Stand p l e R' ((T.setVm s.vm).setFrames (.invoking m args :: below)) m args below meth c T [] 0 0 := by
  have htop : (T.setVm s.vm).topJava?.isSome := X.here.top
  have hF : ((T.setVm s.vm).setFrames (.invoking m args :: below)).frames = .invoking m args :: below := State.frames_setFrames _ (State.cur_lt_of_top htop)
  obtain ⟨g₀, hg0⟩ := Option.isSome_iff_exists.mp htop
  obtain ⟨r, hr⟩ := State.topJava?_eq_some.mp hg0
  have hl9 : e.platform.stackLimits (T.setVm s.vm).me = e.platform.stackLimits s.me := X.limits
  have hb9 : (T.setVm s.vm).me.stackBytes = s.me.stackBytes := X.bytes
  refine ⟨X.admits, X.cas, X.clock, hF, ?_, X.hears, X.method, X.code, X.here, X.tail, X.warmed, ?_, ?_, ?_⟩
  · have h := X.room
    have hU : ((T.setVm s.vm).setFrames (.invoking m args :: below)).localsInUse = s.localsInUse := by
      rw [State.localsInUse_invoking hF (meth := meth) (c := c) X.method X.code, State.localsInUse_invoking X.frames X.method X.code]
    simp only [State.hasRoom, Bool.and_eq_true, decide_eq_true_eq] at h ⊢
    obtain ⟨⟨⟨⟨h1, h2, h3, h4, h5, h6⟩, h7⟩, h8⟩, h9⟩ := h
    rw [X.frames, List.length_cons] at h2 h3
    have q1 := X.heapSize
    have q2 := X.used
    simp only [hF, hU, List.length_cons, State.stackLimits_setFrames, State.stackBytes_setFrames, hl9, hb9]
    refine ⟨⟨⟨⟨by omega, by omega, by omega, by omega, by omega, h6⟩, ?_⟩, ?_⟩, X.book⟩
    · show T.heap.size + R'.cells ≤ e.platform.maxCells
      omega
    · show T.slotsUsed + R'.slots ≤ e.platform.maxSlots
      omega
  · rw [State.stackLimits_setFrames]; rfl
  · rw [State.stackBytes_setFrames]; rfl
  · refine ⟨?_, Nat.le_refl _, Nat.le_refl _, ?_, ?_, fun a c9 h9 => ⟨c9, h9, rfl, rfl, fun _ _ => rfl⟩⟩
    · obtain ⟨t, ht, -⟩ := State.frames_cons hr
      show T.setVm s.vm = { ((T.setVm s.vm).setFrames (.invoking m args :: below)).setFrames (T.setVm s.vm).frames with heap := T.heap, slotsUsed := T.slotsUsed }
      rw [State.setFrames_setFrames, State.setFrames_self ht]
      rfl
    · show T.slotsUsed = T.slotsUsed + ((T.heap.toList.drop T.heap.size).map (·.slots.size)).sum
      rw [List.drop_eq_nil_of_le (Nat.le_of_eq Array.length_toList)]
      rfl
    · show ((T.heap.toList.drop T.heap.size).map (·.slots.size)).sum ≤ 0
      rw [List.drop_eq_nil_of_le (Nat.le_of_eq Array.length_toList)]
      exact Nat.le_refl _
/-- 'throw new E()': new; dup; invokespecial; athrow -/
theorem vx_throw0 {cc : ByteArray} {pc : Nat} (hexec : p.tables.exec = Jvm.exec) (hb : c.code = cc) (hl : l.stackTraces = false) {own cls : String} {names : List String} {ik ic mc ms : Nat} {A : Nat → Prop}
    (hown : s.vm.findClass own = some m.cls) (hcls : Bundle.fit cls = true) (hnames : ∀ n ∈ names, Bundle.fit n = true)
    (hk : (Cond.classLink own ik cls).before args s = true) (hini : (Cond.initialized cls).before args s = true) (hat : ∀ w ∈ vx_at0 own ic cls names, w.before args s = true)
    (hgood : ∀ w ∈ Cond.classLink own ik cls :: Cond.initialized cls :: vx_at0 own ic cls names, vx_ot w = true)
    (hU : vx_Zq Bundle.tN "UNASSIGNED_STACK" Bundle.steD A s s.heap) (hN : vx_Zq Bundle.tN "SUPPRESSED_SENTINEL" Bundle.listD A s s.heap) (hS : va_S A s.heap H locs) (hsize : ls.size = c.maxLocals)
    (d0 : decode cc pc = .ok (.new ik, 3)) (d3 : decode cc (pc + 3) = .ok (.dup, 1)) (d4 : decode cc (pc + 4) = .ok (.invokespecial ic, 3)) (d7 : decode cc (pc + 7) = .ok (.athrow, 1))
    (hout : ∀ x ∈ c.exceptionTable.toList, covers x (pc + 7) = false)
    (hRframes : names.length + 3 < R.frames) (hRlocals : (rest.map fun v => v.category).sum + (13 * (names.length + 1) + 42) ≤ R.locals) (hRcells : cells + 1 ≤ R.cells) (hRslots : slots + 6 ≤ R.slots) (hlocks : meth.locks = false)
    (hx : ∀ t : State, s.vm.Alike t.vm → H.size ≤ t.heap.size → (∀ q : Nat, q < H.size → t.heap[q]? = H[q]?) → XC cls s t)
    (hf : ∀ z ∈ locs, free z.base) (hc : cells + 1 ≤ mc) (hs : slots + 6 ≤ ms) :
    W p l e R s m args below meth c H locs cells slots (vx_MQ below Qc XC args s mc ms free) (F0 m pc ls rest) := by
  intro T hT X
  have htr : e.platform.stackTraces = false := (show e.platform.stackTraces = l.stackTraces by rw [X.admits.platform]).trans hl
  have Y := vx_rebase X (R' := { frames := R.frames, locals := R.locals, cells := 1, slots := 6 }) (Nat.le_refl _) (Nat.le_refl _) hRcells hRslots
  obtain ⟨s', hA⟩ : ∃ z, z = (T.setVm s.vm).setFrames (.invoking m args :: below) := ⟨_, rfl⟩
  rw [← hA] at Y
  have hvm : s'.vm = s.vm := by rw [hA]; rfl
  have hhp : s'.heap = H := by rw [hA]; exact hT
  have hW0 : s.WarmedH s'.vm := by rw [hvm]; exact State.WarmedH.refl s
  have hat' : ∀ w ∈ vx_at0 own ic cls names, w.before args s' = true := fun w hw => vx_ot_at hW0 hvm.symm (hgood w (List.mem_cons_of_mem _ (List.mem_cons_of_mem _ hw))) (hat w hw)
  have hk' : (Cond.classLink own ik cls).before args s' = true := vx_ot_at hW0 hvm.symm (hgood _ List.mem_cons_self) hk
  have hini' : (Cond.initialized cls).before args s' = true := vx_ot_at hW0 hvm.symm (hgood _ (List.mem_cons_of_mem _ List.mem_cons_self)) hini
  have hU' : vx_Zq Bundle.tN "UNASSIGNED_STACK" Bundle.steD A s' s'.heap := by rw [hhp]; exact vx_Zq.moved hW0.alike (hU.kept hS.2.1)
  have hN' : vx_Zq Bundle.tN "SUPPRESSED_SENTINEL" Bundle.listD A s' s'.heap := by rw [hhp]; exact vx_Zq.moved hW0.alike (hN.kept hS.2.1)
  have h : ∀ w ∈ Bundle.ownAtoms0 own ic cls names, w.before args s' = true := vx_own hat' (vx_isRefq hU'.1) (vx_isRefq hN'.1) hU'.2.word hN'.2.word
  have hown' : s'.vm.findClass own = some m.cls := by rw [hvm]; exact hown
  have hins : (Cond.instantiable cls 6).before args s' = true := h _ (by simp [Bundle.ownAtoms0])
  obtain ⟨vm₁, cX, kX, hfX, hkX, -, -, X₁, st1⟩ := Y.newCold hexec (own := own) (C := cls) (index := ik) (n := 6) hown' hk' hins hini'
    (g := F0 m pc ls rest) rfl (by rw [hb]; exact d0) (Nat.le_refl _) (Nat.le_refl _)
  generalize hT1 : (T.setVm vm₁).pushCell { cls := cX, slots := kX.instanceTypes.map defaultValue, vm := .none } = T1 at X₁ st1
  have hcat : (Value.ref T.heap.size).category = 1 := rfl
  have hcellA : T1.heap[T.heap.size]? = some (freshCell cX kX) := by rw [← hT1]; exact State.heap_pushCell_size _ _
  have d3' : decode c.code (pc + 3) = .ok (.dup, 1) := by rw [hb]; exact d3
  obtain ⟨U, hsteps, hrun, hend, hW, hsame, ce, hce, hO⟩ := X₁.ctorThrow0 hexec htr (own := own) (cls := cls) (names := names) (ic := ic) hown' hcls hnames h (fun x hx => nomatch hx) hfX hkX hcellA (by rw [hhp, hT]; exact Nat.le_refl _)
    (g := { method := m, pc := pc + 4, locals := ls, stack := .ref T.heap.size :: .ref T.heap.size :: rest, locked := none }) rfl hsize rfl rfl (rest := rest) rfl
    (by rw [hb]; exact d4) (by rw [hb]; exact d7) hout hRframes (by simp only [List.map_cons, List.sum_cons, hcat]; omega) hlocks
  obtain ⟨f1, f2⟩ := vx_frame hsame
  rw [hhp] at f1 f2
  have hWs : s.WarmedH U.vm := State.WarmedH.trans hW0 hW
  have hcl : s.vm.findClass cls = some ce.cls := by
    have h9 := hO.cls
    rw [hvm] at h9
    exact h9
  have hall : s.sameButNew ({ U with vm := s.vm } : State) locs mc ms := by
    subst hA
    obtain ⟨e1, e2⟩ := hsame
    rw [State.setFrames_setFrames] at e1
    have h2 : (T.setVm s.vm).sameButNew ({ U with vm := s.vm } : State) [] (0 + 1) (0 + 6) := ⟨e1, e2⟩
    have h3 := X.same.trans h2
    rw [List.append_nil] at h3
    exact h3.mono hc hs
  refine ⟨U, ?_, .threw T.heap.size, hrun, hend, Or.inr ⟨T.heap.size, rfl, cls, ce, locs, hx U hWs.alike f1 (fun q hq => f2 q hq (fun z hz => nomatch hz)), hce, hO.vm, hcl, hWs, hall, hf⟩⟩
  refine st1 _ ?_
  show Steps p.tables e below (T1.setTop { method := m, pc := pc + 3, locals := ls, stack := .ref T.heap.size :: rest, locked := none }) _
  jvm_step X₁.here [X₁.here.top, hexec, d3', Value.category]
  exact hsteps
/-- 'throw new E("text")': new; dup; ldc; invokespecial; athrow -/
theorem vx_throwS {cc : ByteArray} {pc : Nat} (hexec : p.tables.exec = Jvm.exec) (hb : c.code = cc) (hl : l.stackTraces = false) {own cls text : String} {names : List String} {ik is ic mc ms sa : Nat} {A : Nat → Prop}
    (hown : s.vm.findClass own = some m.cls) (hcls : Bundle.fit cls = true) (hnames : ∀ n ∈ names, Bundle.fit n = true)
    (hk : (Cond.classLink own ik cls).before args s = true) (hini : (Cond.initialized cls).before args s = true) (hstr : vk_R own is text sa s) (hat : ∀ w ∈ vx_atS own ic cls names, w.before args s = true)
    (hgood : ∀ w ∈ Cond.classLink own ik cls :: Cond.initialized cls :: vx_atS own ic cls names, vx_ot w = true)
    (hU : vx_Zq Bundle.tN "UNASSIGNED_STACK" Bundle.steD A s s.heap) (hN : vx_Zq Bundle.tN "SUPPRESSED_SENTINEL" Bundle.listD A s s.heap) (hS : va_S A s.heap H locs) (hsize : ls.size = c.maxLocals)
    (d0 : decode cc pc = .ok (.new ik, 3)) (d3 : decode cc (pc + 3) = .ok (.dup, 1)) (d4 : decode cc (pc + 4) = .ok (.ldc is, 2)) (d6 : decode cc (pc + 6) = .ok (.invokespecial ic, 3)) (d9 : decode cc (pc + 9) = .ok (.athrow, 1))
    (hout : ∀ x ∈ c.exceptionTable.toList, covers x (pc + 9) = false)
    (hRframes : names.length + 3 < R.frames) (hRlocals : (rest.map fun v => v.category).sum + (13 * (names.length + 1) + 43) ≤ R.locals) (hRcells : cells + 1 ≤ R.cells) (hRslots : slots + 6 ≤ R.slots) (hlocks : meth.locks = false)
    (hx : ∀ t : State, s.vm.Alike t.vm → H.size ≤ t.heap.size → (∀ q : Nat, q < H.size → t.heap[q]? = H[q]?) → XC cls s t)
    (hf : ∀ z ∈ locs, free z.base) (hc : cells + 1 ≤ mc) (hs : slots + 6 ≤ ms) :
    W p l e R s m args below meth c H locs cells slots (vx_MQ below Qc XC args s mc ms free) (F0 m pc ls rest) := by
  intro T hT X
  have htr : e.platform.stackTraces = false := (show e.platform.stackTraces = l.stackTraces by rw [X.admits.platform]).trans hl
  have Y := vx_rebase X (R' := { frames := R.frames, locals := R.locals, cells := 1, slots := 6 }) (Nat.le_refl _) (Nat.le_refl _) hRcells hRslots
  obtain ⟨s', hA⟩ : ∃ z, z = (T.setVm s.vm).setFrames (.invoking m args :: below) := ⟨_, rfl⟩
  rw [← hA] at Y
  have hvm : s'.vm = s.vm := by rw [hA]; rfl
  have hhp : s'.heap = H := by rw [hA]; exact hT
  have hW0 : s.WarmedH s'.vm := by rw [hvm]; exact State.WarmedH.refl s
  have hat' : ∀ w ∈ vx_atS own ic cls names, w.before args s' = true := fun w hw => vx_ot_at hW0 hvm.symm (hgood w (List.mem_cons_of_mem _ (List.mem_cons_of_mem _ hw))) (hat w hw)
  have hk' : (Cond.classLink own ik cls).before args s' = true := vx_ot_at hW0 hvm.symm (hgood _ List.mem_cons_self) hk
  have hini' : (Cond.initialized cls).before args s' = true := vx_ot_at hW0 hvm.symm (hgood _ (List.mem_cons_of_mem _ List.mem_cons_self)) hini
  have hU' : vx_Zq Bundle.tN "UNASSIGNED_STACK" Bundle.steD A s' s'.heap := by rw [hhp]; exact vx_Zq.moved hW0.alike (hU.kept hS.2.1)
  have hN' : vx_Zq Bundle.tN "SUPPRESSED_SENTINEL" Bundle.listD A s' s'.heap := by rw [hhp]; exact vx_Zq.moved hW0.alike (hN.kept hS.2.1)
  have h : ∀ w ∈ Bundle.ownAtoms own ic cls names, w.before args s' = true := vx_own hat' (vx_isRefq hU'.1) (vx_isRefq hN'.1) hU'.2.word hN'.2.word
  have hown' : s'.vm.findClass own = some m.cls := by rw [hvm]; exact hown
  have hins : (Cond.instantiable cls 6).before args s' = true := h _ (by simp [Bundle.ownAtoms])
  obtain ⟨vm₁, cX, kX, hfX, hkX, -, -, X₁, st1⟩ := Y.newCold hexec (own := own) (C := cls) (index := ik) (n := 6) hown' hk' hins hini'
    (g := F0 m pc ls rest) rfl (by rw [hb]; exact d0) (Nat.le_refl _) (Nat.le_refl _)
  generalize hT1 : (T.setVm vm₁).pushCell { cls := cX, slots := kX.instanceTypes.map defaultValue, vm := .none } = T1 at X₁ st1
  have hcat : (Value.ref T.heap.size).category = 1 := rfl
  have hcellA : T1.heap[T.heap.size]? = some (freshCell cX kX) := by rw [← hT1]; exact State.heap_pushCell_size _ _
  have d3' : decode c.code (pc + 3) = .ok (.dup, 1) := by rw [hb]; exact d3
  have d4' : decode c.code (pc + 4) = .ok (.ldc is, 2) := by rw [hb]; exact d4
  have hstr' : vk_R own is text sa s' := vk_R.warm hW0 hstr
  obtain ⟨U, hsteps, hrun, hend, hW, hsame, ce, hce, hO⟩ := X₁.ctorThrowS hexec htr (own := own) (cls := cls) (names := names) (ic := ic) hown' hcls hnames h (fun x hx => nomatch hx) hfX hkX hcellA (by rw [hhp, hT]; exact Nat.le_refl _) (msg := .ref sa) rfl
    (g := { method := m, pc := pc + 6, locals := ls, stack := .ref sa :: .ref T.heap.size :: .ref T.heap.size :: rest, locked := none }) rfl hsize rfl rfl (rest := rest) rfl
    (by rw [hb]; exact d6) (by rw [hb]; exact d9) hout hRframes (by simp only [List.map_cons, List.sum_cons, hcat]; omega) hlocks
  obtain ⟨f1, f2⟩ := vx_frame hsame
  rw [hhp] at f1 f2
  have hWs : s.WarmedH U.vm := State.WarmedH.trans hW0 hW
  have hcl : s.vm.findClass cls = some ce.cls := by
    have h9 := hO.cls
    rw [hvm] at h9
    exact h9
  have hall : s.sameButNew ({ U with vm := s.vm } : State) locs mc ms := by
    subst hA
    obtain ⟨e1, e2⟩ := hsame
    rw [State.setFrames_setFrames] at e1
    have h2 : (T.setVm s.vm).sameButNew ({ U with vm := s.vm } : State) [] (0 + 1) (0 + 6) := ⟨e1, e2⟩
    have h3 := X.same.trans h2
    rw [List.append_nil] at h3
    exact h3.mono hc hs
  refine ⟨U, ?_, .threw T.heap.size, hrun, hend, Or.inr ⟨T.heap.size, rfl, cls, ce, locs, hx U hWs.alike f1 (fun q hq => f2 q hq (fun z hz => nomatch hz)), hce, hO.vm, hcl, hWs, hall, hf⟩⟩
  refine st1 _ ?_
  show Steps p.tables e below (T1.setTop { method := m, pc := pc + 3, locals := ls, stack := .ref T.heap.size :: rest, locked := none }) _
  jvm_step X₁.here [X₁.here.top, hexec, d3', Value.category]
  exact X₁.ldcString hexec (own := own) (text := text) (index := is) (a := sa) hown' hstr'.1 hstr'.2
    (g := { method := m, pc := pc + 4, locals := ls, stack := .ref T.heap.size :: .ref T.heap.size :: rest, locked := none }) rfl d4' _ hsteps
/-- 'throw new E("text")', the text by a wide index -/
theorem vx_throwSW {cc : ByteArray} {pc : Nat} (hexec : p.tables.exec = Jvm.exec) (hb : c.code = cc) (hl : l.stackTraces = false) {own cls text : String} {names : List String} {ik is ic mc ms sa : Nat} {A : Nat → Prop}
    (hown : s.vm.findClass own = some m.cls) (hcls : Bundle.fit cls = true) (hnames : ∀ n ∈ names, Bundle.fit n = true)
    (hk : (Cond.classLink own ik cls).before args s = true) (hini : (Cond.initialized cls).before args s = true) (hstr : vk_R own is text sa s) (hat : ∀ w ∈ vx_atS own ic cls names, w.before args s = true)
    (hgood : ∀ w ∈ Cond.classLink own ik cls :: Cond.initialized cls :: vx_atS own ic cls names, vx_ot w = true)
    (hU : vx_Zq Bundle.tN "UNASSIGNED_STACK" Bundle.steD A s s.heap) (hN : vx_Zq Bundle.tN "SUPPRESSED_SENTINEL" Bundle.listD A s s.heap) (hS : va_S A s.heap H locs) (hsize : ls.size = c.maxLocals)
    (d0 : decode cc pc = .ok (.new ik, 3)) (d3 : decode cc (pc + 3) = .ok (.dup, 1)) (d4 : decode cc (pc + 4) = .ok (.ldc_w is, 3)) (d7 : decode cc (pc + 7) = .ok (.invokespecial ic, 3)) (d10 : decode cc (pc + 10) = .ok (.athrow, 1))
    (hout : ∀ x ∈ c.exceptionTable.toList, covers x (pc + 10) = false)
    (hRframes : names.length + 3 < R.frames) (hRlocals : (rest.map fun v => v.category).sum + (13 * (names.length + 1) + 43) ≤ R.locals) (hRcells : cells + 1 ≤ R.cells) (hRslots : slots + 6 ≤ R.slots) (hlocks : meth.locks = false)
    (hx : ∀ t : State, s.vm.Alike t.vm → H.size ≤ t.heap.size → (∀ q : Nat, q < H.size → t.heap[q]? = H[q]?) → XC cls s t)
    (hf : ∀ z ∈ locs, free z.base) (hc : cells + 1 ≤ mc) (hs : slots + 6 ≤ ms) :
    W p l e R s m args below meth c H locs cells slots (vx_MQ below Qc XC args s mc ms free) (F0 m pc ls rest) := by
  intro T hT X
  have htr : e.platform.stackTraces = false := (show e.platform.stackTraces = l.stackTraces by rw [X.admits.platform]).trans hl
  have Y := vx_rebase X (R' := { frames := R.frames, locals := R.locals, cells := 1, slots := 6 }) (Nat.le_refl _) (Nat.le_refl _) hRcells hRslots
  obtain ⟨s', hA⟩ : ∃ z, z = (T.setVm s.vm).setFrames (.invoking m args :: below) := ⟨_, rfl⟩
  rw [← hA] at Y
  have hvm : s'.vm = s.vm := by rw [hA]; rfl
  have hhp : s'.heap = H := by rw [hA]; exact hT
  have hW0 : s.WarmedH s'.vm := by rw [hvm]; exact State.WarmedH.refl s
  have hat' : ∀ w ∈ vx_atS own ic cls names, w.before args s' = true := fun w hw => vx_ot_at hW0 hvm.symm (hgood w (List.mem_cons_of_mem _ (List.mem_cons_of_mem _ hw))) (hat w hw)
  have hk' : (Cond.classLink own ik cls).before args s' = true := vx_ot_at hW0 hvm.symm (hgood _ List.mem_cons_self) hk
  have hini' : (Cond.initialized cls).before args s' = true := vx_ot_at hW0 hvm.symm (hgood _ (List.mem_cons_of_mem _ List.mem_cons_self)) hini
  have hU' : vx_Zq Bundle.tN "UNASSIGNED_STACK" Bundle.steD A s' s'.heap := by rw [hhp]; exact vx_Zq.moved hW0.alike (hU.kept hS.2.1)
  have hN' : vx_Zq Bundle.tN "SUPPRESSED_SENTINEL" Bundle.listD A s' s'.heap := by rw [hhp]; exact vx_Zq.moved hW0.alike (hN.kept hS.2.1)
  have h : ∀ w ∈ Bundle.ownAtoms own ic cls names, w.before args s' = true := vx_own hat' (vx_isRefq hU'.1) (vx_isRefq hN'.1) hU'.2.word hN'.2.word
  have hown' : s'.vm.findClass own = some m.cls := by rw [hvm]; exact hown
  have hins : (Cond.instantiable cls 6).before args s' = true := h _ (by simp [Bundle.ownAtoms])
  obtain ⟨vm₁, cX, kX, hfX, hkX, -, -, X₁, st1⟩ := Y.newCold hexec (own := own) (C := cls) (index := ik) (n := 6) hown' hk' hins hini'
    (g := F0 m pc ls rest) rfl (by rw [hb]; exact d0) (Nat.le_refl _) (Nat.le_refl _)
  generalize hT1 : (T.setVm vm₁).pushCell { cls := cX, slots := kX.instanceTypes.map defaultValue, vm := .none } = T1 at X₁ st1
  have hcat : (Value.ref T.heap.size).category = 1 := rfl
  have hcellA : T1.heap[T.heap.size]? = some (freshCell cX kX) := by rw [← hT1]; exact State.heap_pushCell_size _ _
  have d3' : decode c.code (pc + 3) = .ok (.dup, 1) := by rw [hb]; exact d3
  have d4' : decode c.code (pc + 4) = .ok (.ldc_w is, 3) := by rw [hb]; exact d4
  have hstr' : vk_R own is text sa s' := vk_R.warm hW0 hstr
  obtain ⟨U, hsteps, hrun, hend, hW, hsame, ce, hce, hO⟩ := X₁.ctorThrowS hexec htr (own := own) (cls := cls) (names := names) (ic := ic) hown' hcls hnames h (fun x hx => nomatch hx) hfX hkX hcellA (by rw [hhp, hT]; exact Nat.le_refl _) (msg := .ref sa) rfl
    (g := { method := m, pc := pc + 7, locals := ls, stack := .ref sa :: .ref T.heap.size :: .ref T.heap.size :: rest, locked := none }) rfl hsize rfl rfl (rest := rest) rfl
    (by rw [hb]; exact d7) (by rw [hb]; exact d10) hout hRframes (by simp only [List.map_cons, List.sum_cons, hcat]; omega) hlocks
  obtain ⟨f1, f2⟩ := vx_frame hsame
  rw [hhp] at f1 f2
  have hWs : s.WarmedH U.vm := State.WarmedH.trans hW0 hW
  have hcl : s.vm.findClass cls = some ce.cls := by
    have h9 := hO.cls
    rw [hvm] at h9
    exact h9
  have hall : s.sameButNew ({ U with vm := s.vm } : State) locs mc ms := by
    subst hA
    obtain ⟨e1, e2⟩ := hsame
    rw [State.setFrames_setFrames] at e1
    have h2 : (T.setVm s.vm).sameButNew ({ U with vm := s.vm } : State) [] (0 + 1) (0 + 6) := ⟨e1, e2⟩
    have h3 := X.same.trans h2
    rw [List.append_nil] at h3
    exact h3.mono hc hs
  refine ⟨U, ?_, .threw T.heap.size, hrun, hend, Or.inr ⟨T.heap.size, rfl, cls, ce, locs, hx U hWs.alike f1 (fun q hq => f2 q hq (fun z hz => nomatch hz)), hce, hO.vm, hcl, hWs, hall, hf⟩⟩
  refine st1 _ ?_
  show Steps p.tables e below (T1.setTop { method := m, pc := pc + 3, locals := ls, stack := .ref T.heap.size :: rest, locked := none }) _
  jvm_step X₁.here [X₁.here.top, hexec, d3', Value.category]
  exact X₁.ldcStringW hexec (own := own) (text := text) (index := is) (a := sa) hown' hstr'.1 hstr'.2
    (g := { method := m, pc := pc + 4, locals := ls, stack := .ref T.heap.size :: .ref T.heap.size :: rest, locked := none }) rfl d4' _ hsteps
end Ends
section Bodies
variable {l : Launch}
theorem vx_ofW {y : MethodName} {ws ws' : List Cond} {rm : Room} {Pc : Array Value → State → Prop} {Qc : Array Value → State → Outcome → State → Prop} {XC : String → State → State → Prop} {mc ms : Nat} {free : Addr → Prop} {cc : ByteArray} {maxL : Nat} {ret : Option FieldType}
    (hy : plainName y.cls = true) (hw : ws = Cond.code y cc maxL ret :: ws')
    (body : ∀ p e s m args below meth c s₁, BodyLoose p l y (headSpec ws rm) cc maxL ret e s m args below meth c s₁ → c.maxLocals = maxL → (∀ x ∈ c.exceptionTable.toList, False) → Pc args s →
      W p l e (headSpec ws rm).room s m args below meth c s.heap [] 0 0 (vx_MQ below Qc XC args s mc ms free) (entryFrame m args maxL)) : vx_Met l y ws rm Pc Qc XC mc ms free := by
  refine MetFree.of_bodyS (code := cc) (maxLocals := maxL) (ret := ret) hy ?_ ?_
  · intro args s m h hn
    obtain ⟨meth, c, h1, h2, h3, h4, h5, h6, -, -⟩ := Cond.code_spec hn (atoms_spec (ws := ws) h _ (by rw [hw]; exact List.mem_cons_self))
    exact ⟨meth, c, h1, h2, h3, h4, h5, h6⟩
  · intro p e s m args below meth c s₁ B hml hP _
    have hh0 : s₁.heap = s.heap := by rw [B.state]; rfl
    have ht : ∀ x ∈ c.exceptionTable.toList, False := by
      obtain ⟨meth9, c9, h1, h2, -, -, -, -, h7, -⟩ := Cond.code_spec B.named (atoms_spec (ws := ws) B.pre _ (by rw [hw]; exact List.mem_cons_self))
      cases Option.some.inj (h1.symm.trans B.method)
      cases Option.some.inj (h2.symm.trans (Stand.of_body B).code)
      intro x hx
      rw [Array.isEmpty_iff.mp h7] at hx
      cases hx
    obtain ⟨t, a1, o, b1, b2, b3⟩ := body p e s m args below meth c s₁ B hml ht hP s₁ hh0 (Stand.of_body B)
    exact ⟨t, o, a1, b1, b2, b3⟩
/-- the table of a body with handlers -/
theorem vx_table {p : Program} {x y : MethodName} {S : Spec} {cc bytes : ByteArray} {maxL maxL' : Nat} {ret ret' : Option FieldType} {e : Env} {s s₁ : State} {m : MethodId} {args : Array Value} {below : List Frame} {meth : Method} {c : Code} {hh : List (Nat × Nat × Nat × Nat)}
    (B : BodyLoose p l y S cc maxL ret e s m args below meth c s₁) (h : (Cond.codeWith y bytes maxL' ret' hh).before args s = true) : c.exceptionTable.toList = tableOf hh := by
  obtain ⟨m9, meth9, c9, hn9, h1, h2, -, -, h6, -⟩ := Cond.codeWith_spec h
  cases Option.some.inj (hn9.symm.trans B.named)
  cases Option.some.inj (h1.symm.trans B.method)
  cases Option.some.inj (h2.symm.trans (Stand.of_body B).code)
  rw [← h6, table_eq]
end Bodies
end VXA
/-! ===== END ===== -/
/-! ===== BEGIN a static call of a method with an exception table ===== -/
section VXS
variable {p : Program} {l : Launch} {e : Env} {R : Room} {s : State} {m : MethodId} {args : Array Value} {below : List Frame} {meth : Method} {c : Code} {T : State} {H : Heap} {locs : List Loc} {cells slots : Nat}
abbrev vx_CSW (R : Room) (s : State) (args : Array Value) (own : String) (index : Nat) (y : MethodName) (bytes : ByteArray) (maxL : Nat) (ret : Option FieldType) (hh : List (Nat × Nat × Nat × Nat)) (ws : List Cond) (rm : Room) (mc ms n : Nat) : Prop :=
  (rm.cells = mc ∧ rm.slots = ms ∧ rm.frames + 1 ≤ R.frames ∧ 8 + (maxL + 11) + rm.locals ≤ R.locals ∧ (∀ w ∈ ws, ∀ (a' : Array Value) (U : State), s.WarmedH U.vm → w.before a' U = true) ∧ Cond.codeWith y bytes maxL ret hh ∈ ws) ∧
  (Cond.codeWith y bytes maxL ret hh).before args s = true ∧ (Cond.initialized y.cls).before args s = true ∧ (y.cls ≠ "java/lang/invoke/MethodHandle" ∧ y.cls ≠ "java/lang/invoke/VarHandle") ∧
  (∀ sig, parseMethodDescriptor y.desc = some sig → n = sig.parameters.length) ∧ (Cond.methodLink own index y).before args s = true ∧ (Cond.static y).before args s = true
theorem vx_cwSW {own : String} {index maxL mc ms : Nat} {y : MethodName} {bytes : ByteArray} {ret : Option FieldType} {hh : List (Nat × Nat × Nat × Nat)} {Ts ws ws' : List Cond} {rm : Room} (n : Nat) (ht : ∀ w ∈ Ts, w.before args s = true) (hT : GoodIn Ts (va_wsS own index y ws)) (hw : ws = Cond.codeWith y bytes maxL ret hh :: ws') (hrc : rm.cells = mc) (hrs : rm.slots = ms)
    (hd : y.cls ≠ "java/lang/invoke/MethodHandle" ∧ y.cls ≠ "java/lang/invoke/VarHandle" ∧ (parseMethodDescriptor y.desc).map (fun d => d.parameters.length) = some n) (hR : rm.frames + 1 ≤ R.frames ∧ 8 + (maxL + 11) + rm.locals ≤ R.locals) :
    vx_CSW R s args own index y bytes maxL ret hh ws rm mc ms n := by
  have ok : ∀ w ∈ va_wsS own index y ws, w.before args s = true := fun w h => ht w (hT w h).1
  have hG : GoodIn Ts ws := fun w h => hT w (by unfold va_wsS; exact List.mem_append_right _ h)
  have hc : Cond.codeWith y bytes maxL ret hh ∈ ws := by rw [hw]; exact List.mem_cons_self
  refine ⟨⟨hrc, hrs, hR.1, hR.2, pay_in ht hG, hc⟩, ht _ (hG _ hc).1, ok _ (by simp [va_wsS]), ⟨hd.1, hd.2.1⟩, fun sig h => ?_, ok _ (by simp [va_wsS]), ok _ (by simp [va_wsS])⟩
  have h2 := hd.2.2
  rw [h] at h2
  exact (Option.some.inj h2).symm
theorem vx_callSW (X : Stand p l e R s m args below meth c T locs cells slots) (hexec : p.tables.exec = Jvm.exec) {own : String} {index : Nat} {y : MethodName} {bytes : ByteArray} {maxL : Nat} {ret : Option FieldType} {hh : List (Nat × Nat × Nat × Nat)}
    (hown : s.vm.findClass own = some m.cls) (hlink : (Cond.methodLink own index y).before args s = true) (hstat : (Cond.static y).before args s = true) (hinit : (Cond.initialized y.cls).before args s = true)
    (hcode : (Cond.codeWith y bytes maxL ret hh).before args s = true) (hy : y.cls ≠ "java/lang/invoke/MethodHandle" ∧ y.cls ≠ "java/lang/invoke/VarHandle")
    {W9 : Nat} {Pre : Pt → Array Value → Prop} {Post : Pt → Array Value → Option Value → Pt → Prop} (hK : Back l R p e below s args y 3 W9 Pre Post)
    {g : JFrame} (hg : g.method = m) (hsize : g.locals.size = c.maxLocals) {argsL rest : List Value} (hlen : ∀ sig, parseMethodDescriptor y.desc = some sig → argsL.length = sig.parameters.length)
    (hstack : g.stack = argsL.reverse ++ rest) (hW : 2 * g.monitorRoom + (rest.map fun v => v.category).sum ≤ W9) (hdg : decode c.code g.pc = .ok (.invokestatic index, 3))
    (hpre : ∀ vm₁, s.WarmedH vm₁ → Pre ⟨T.setVm vm₁, locs, cells, slots⟩ argsL.toArray) :
    ∃ (v : Option Value) (vm₁ : Vm) (B : Pt), s.WarmedH vm₁ ∧ Stand p l e R s m args below meth c B.U B.locs B.cells B.slots ∧ Post ⟨T.setVm vm₁, locs, cells, slots⟩ argsL.toArray v B ∧
      ∀ target, Steps p.tables e below (B.U.setTop { g with pc := g.pc + 3, stack := v.toList ++ rest }) target → Steps p.tables e below (T.setTop g) target := by
  obtain ⟨mk, methM, cM, hnamed, hmethM, -, -, -, -, -, -, hsigM⟩ := Cond.codeWith_spec hcode
  have hstatic : methM.isStatic = true := Cond.static_spec hnamed hmethM hstat
  obtain ⟨kP, hkP, -⟩ := className_of_methodNamed hnamed
  have hinitP : kP.init = .initialized := Cond.initialized_spec (findClass_of_methodNamed hnamed) hkP hinit
  obtain ⟨vm₁, X₁, hstep₁⟩ := X.invokestatic hexec hown hlink hnamed hmethM hstatic hkP hinitP hy (g := g) hg (argsL := argsL) (rest := rest) (hlen _ hsigM) hstack hdg
  obtain ⟨v, B, X', hpost, hsteps⟩ := hK m meth c ⟨T.setVm vm₁, locs, cells, slots⟩ { g with stack := rest } (.invokestatic index) mk argsL.toArray X₁ hg hsize hdg hW (X₁.named hnamed) (hpre vm₁ X₁.warmed)
  exact ⟨v, vm₁, B, X₁.warmed, X', hpost, fun target h => hstep₁ _ fun acts => by rw [doInvoke_state]; exact hsteps.trans h⟩
theorem vx_runSW {y : MethodName} {bytes cc : ByteArray} {maxL nL mc ms n index : Nat} {ret : Option FieldType} {hh : List (Nat × Nat × Nat × Nat)} {ws : List Cond} {rm : Room} {Pc : Array Value → State → Prop} {Qc : Array Value → State → Outcome → State → Prop} {free : Addr → Prop} {Ts : List Cond} {own : String} {As rest : List Value} {g : JFrame}
    (S : CallFix p m c cc nL s args Ts own) (hM : Met l y ws rm Pc Qc mc ms free) (cw : vx_CSW R s args own index y bytes maxL ret hh ws rm mc ms n) (hp : PreS s H Pc As)
    (hg : g.method = m) (hn : As.length = n) (hsize : g.locals.size = nL) (hstack : g.stack = As.reverse ++ rest) (hW : 2 * g.monitorRoom + (rest.map fun v => v.category).sum ≤ 8) (hdg : decode cc g.pc = .ok (.invokestatic index, 3)) (hf : cells + mc ≤ R.cells ∧ slots + ms ≤ R.slots) :
    va_Run p l e R s m args below meth c H locs cells slots mc ms g rest (Qc As.toArray) (free) := by
  obtain ⟨⟨hrc, hrs, hfr, hlo, hws, hcw⟩, hcode, hini, hy, hlen, hl, hstt⟩ := cw
  have hK : Back l R p e below s args y 3 8 (PreOf R mc ms Pc) (PostOf Qc mc ms free) := va_backW (hh := hh) (bytes := bytes) (maxL := maxL) (ret := ret) hM hp.1 hrc hrs hfr hlo hws hcw (fun a' U hW => word_at hW (Or.inl (by first | rfl | simp [Cond.onTables, Cond.keeps, Cond.steady])) hini)
  obtain ⟨hx, hb, hml, ho, -⟩ := S
  intro T hT X
  obtain ⟨v, vm₁, ⟨U', l2, c2, s2⟩, hW₁, X', ⟨g', mk, t, L, e1, e2, hq, h1, hL, h2, h3⟩, st⟩ := vx_callSW X hx (hh := hh) (bytes := bytes) (maxL := maxL) (ret := ret) ho hl hstt hini hcode hy hK hg (hsize.trans hml.symm) (argsL := As) (rest := rest) (fun sig h => hn.trans (hlen sig h)) hstack hW (by rw [hb]; exact hdg)
    (fun vm₁ hW₁ => ⟨hf.1, hf.2, hp.2 (T.setVm vm₁) hT hW₁⟩)
  dsimp only [Pt.U, Pt.locs, Pt.cells, Pt.slots] at X' e1 e2 h1 h2 h3 st
  subst h1; subst h2; subst h3
  exact ⟨v, (T.setVm vm₁).calling g' mk As.toArray, t, U', L, hT, X', hL, e1, e2, hq, st⟩
/-- not caught here, past rows that name other classes: it goes on to the caller -/
theorem vx_outP {p : Program} {l : Launch} {e : Env} {R : Room} {s : State} {m : MethodId} {args : Array Value} {below : List Frame} {meth : Method} {c : Code} {H : Heap} {locs : List Loc} {cells slots : Nat} {free : Addr → Prop} {ls : Array Slot} {rest : List Value} {Qc : Array Value → State → Outcome → State → Prop} {XC : String → State → State → Prop}
    {pc : Nat} {own E : String} {ce : Cell} {q : Addr} {mc ms : Nat} (hown : s.vm.findClass own = some m.cls) (hlocks : meth.locks = false)
    (hpass : ∀ z ∈ c.exceptionTable.toList, covers z pc = false ∨ (z.catchType ≠ 0 ∧ ∃ nm : String, (Cond.classLink own z.catchType nm).before args s = true ∧ va_Nc E nm s)) (hcell : H[q]? = some ce) (hv : ce.vm = .none) (hcl : s.vm.findClass E = some ce.cls)
    (hx : ∀ t : State, t.heap = H → s.vm.Alike t.vm → XC E s t) (hf : ∀ z ∈ locs, free z.base) (hc : cells ≤ mc) (hs : slots ≤ ms) :
    vx_W p l e R s m args below meth c H locs cells slots (vx_MQ below Qc XC args s mc ms free) (F0 m pc ls rest) q := by
  intro T hT X
  have hpl : e.platform.magicAccessors = ({} : Platform).magicAccessors := by rw [X.admits.platform]
  obtain ⟨vm', hW', X', st⟩ := X.outThrough hlocks q (g := F0 m pc ls rest) rfl rfl rfl (cell := ce) (by rw [hT]; exact hcell) (by rw [hv]; rfl)
    (by obtain ⟨k9, h9, -⟩ := Vm.findClass_spec hcl; exact ⟨k9, h9⟩) (fun z hz => by
      rcases hpass z hz with h | ⟨hz0, nm, hl1, hn1⟩
      · exact Or.inl h
      · obtain ⟨c6, hc6, hcl6⟩ := Cond.classLink_spec hown hl1 e.platform hpl
        obtain ⟨a8, b8, h1, h2, h3⟩ := hn1
        cases Option.some.inj (h1.symm.trans hcl)
        cases Option.some.inj (h2.symm.trans hc6)
        exact Or.inr ⟨hz0, _, hcl6, h3⟩)
  obtain ⟨g₀, hfr⟩ := X'.frames_eq
  have hcell9 : ((T.setVm vm').setFrames (.throwing q :: below)).heap[q]? = some ce := by
    show T.heap[q]? = some ce
    rw [hT]; exact hcell
  have hend : Ended ((T.setVm vm').setFrames (.throwing q :: below)) below (.threw q) := State.frames_setFrames _ (State.cur_lt_of_frames hfr)
  refine ⟨(T.setVm vm').setFrames (.throwing q :: below), ?_, .threw q, X'.here.running, hend, Or.inr ⟨q, rfl, E, ce, locs, hx _ hT (X'.ends _).1.alike, hcell9, hv, hcl, (X'.ends _).1, (X'.ends _).2.mono hc hs, hf⟩⟩
  rw [X.pushThrowing_eq]
  exact st
/-- a thing of a world lies in the heap -/
theorem vx_lt {D : va_G} {cl : List vw_C} {ws : va_W} {H1 : Heap} (h : va_P D cl ws H1) {k : Nat} {q : Nat × va_E} (hk : ws[k]? = some q) : q.1 < H1.size := (h k q hk).lt
end VXS
/-! ===== END ===== -/
/-! ===== BEGIN methods with a table of their own: called by a name, returning or throwing ===== -/
section VXH
/-! vx_backW, vx_callVX, vx_callSX, vx_callVW, vx_runVW, vx_runVX, vx_runSX, vx_ofWH follow the same proofs as their sisters above (Free/Laws.lean, Shelf42/LK1.lean); vx_outP calls Shelf42/NT130.lean (outThrough). -/
section
variable {l : Launch} {R : Room} {p : Program} {e : Env} {below : List Frame} {s : State} {sargs : Array Value} {y : MethodName} {len W9 : Nat}
theorem vx_backW {ws : List Cond} {rm : Room} {Pc : Array Value → State → Prop} {Qc : Array Value → State → Outcome → State → Prop} {XC : String → State → State → Prop} {mc ms : Nat} {free : Addr → Prop} {bytes : ByteArray} {maxL : Nat} {ret : Option FieldType} {hh : List (Nat × Nat × Nat × Nat)}
    (hM : vx_Met l y ws rm Pc Qc XC mc ms free) (hblind : FrameBlind Pc) (hrc : rm.cells = mc) (hrs : rm.slots = ms)
    (hframes : rm.frames + 1 ≤ R.frames) (hlocals : W9 + (maxL + 11) + rm.locals ≤ R.locals)
    (hws : ∀ w ∈ ws, ∀ a' U, s.WarmedH U.vm → w.before a' U = true) (hcode : Cond.codeWith y bytes maxL ret hh ∈ ws) (hinit : ∀ a' U, s.WarmedH U.vm → (Cond.initialized y.cls).before a' U = true) :
    vx_Back l R p e below s sargs y len W9 (PreOf R mc ms Pc) (PostOf Qc mc ms free) (vx_Post XC mc ms free) := by
  intro m meth c A g ig mk a X hg hsize hdg hW hn hp
  have h1 : (headSpec ws rm).pre.before a A.U = true := atoms_intro fun w hw => hws w hw _ _ X.warmed
  have h2 : (Cond.codeWith y bytes maxL ret hh).before a A.U = true := hws _ hcode _ _ X.warmed
  have h3 : (Cond.initialized y.cls).before a A.U = true := hinit _ _ X.warmed
  have h4 : A.cells + (headSpec ws rm).room.cells ≤ R.cells := by rw [show (headSpec ws rm).room.cells = mc from hrc]; exact hp.1
  have h5 : A.slots + (headSpec ws rm).room.slots ≤ R.slots := by rw [show (headSpec ws rm).room.slots = ms from hrs]; exact hp.2.1
  have hPc : Pc a (A.U.calling g mk a) := hblind _ _ _ _ hp.2.2
  obtain ⟨U, Ls, c0, s0⟩ := A
  dsimp only [Pt.U, Pt.locs, Pt.cells, Pt.slots] at h1 h2 h3 h4 h5 X hn hPc ⊢
  obtain ⟨m9, methY, cY, hn9, hmY, hcY, -, hlY, -⟩ := Cond.codeWith_spec h2
  cases Option.some.inj (hn9.symm.trans hn)
  obtain ⟨kY, hkY, -⟩ := className_of_methodNamed hn
  have hinitY : kY.init = .initialized := Cond.initialized_spec (findClass_of_methodNamed hn) hkY h3
  have h : At U g.method c below := by rw [hg]; exact X.here
  have hlocals9 : W9 + (maxL + 11) + (headSpec ws rm).room.locals ≤ R.locals := hlocals
  have happ : (headSpec ws rm).appliesLoose y e.platform (U.calling g mk a) = true :=
    Spec.appliesLoose_calling (g := g) h hdg hn hkY hinitY
      (X.room_calling (g := g) (R' := (headSpec ws rm).room) hsize hmY hcY hframes (by rw [hlY]; omega) h4 h5) h1
  obtain ⟨mid, hmid⟩ := h.above
  have hfr : (U.setTop g).frames = (.java g :: mid) ++ below := by rw [State.frames_setTop' g h.top, hmid]; rfl
  obtain ⟨o, s₂, hsteps, -, hend, hq⟩ := Steps.callFree hM p X.admits X.cas X.clock (acts := []) hfr happ hPc trivial
  have hq' : vx_Q Qc XC mc ms free a (U.calling g mk a) o s₂ := hq
  rw [State.frames_setTop' g h.top] at hend
  obtain ⟨g₀, hg0⟩ := Option.isSome_iff_exists.mp h.top
  obtain ⟨r, hr⟩ := State.topJava?_eq_some.mp hg0
  have hr' : (({ U with heap := s₂.heap, slotsUsed := s₂.slotsUsed } : State).setVm s₂.vm).frames = .java g₀ :: r := hr
  rcases hq' with ⟨hqc, L, hfe, hL⟩ | ⟨q, rfl, E, ce, L, hx, hce, hcv, hcl, hW₂, hsm, hL⟩
  · obtain ⟨⟨v, rfl⟩, hW₂, e2, q2, q3, q4, q5, q6⟩ := id hfe
    have e3 : s₂ = ({ (U.calling g mk a).setFrames s₂.frames with heap := s₂.heap, slotsUsed := s₂.slotsUsed } : State).setVm s₂.vm := by
      have : s₂ = ({ s₂ with vm := (U.calling g mk a).vm } : State).setVm s₂.vm := rfl
      rw [e2] at this
      exact this
    obtain ⟨c₂, i₂, len₂, hc₂, hd₂, hf₂⟩ := hend
    have hW' : U.WarmedH s₂.vm := hW₂
    have hcc : c₂ = c := by
      have h1 : s₂.code? g.method = U.code? g.method := by
        rw [State.code?_eq, State.code?_eq, hW'.alike.method?]
      exact Option.some.inj (hc₂.symm.trans (h1.trans h.code))
    subst hcc
    have hlen : len₂ = len := by rw [hdg] at hd₂; cases hd₂; rfl
    subst hlen
    have hs₂ : s₂ = (({ U with heap := s₂.heap, slotsUsed := s₂.slotsUsed } : State).setVm s₂.vm).setTop { g with pc := g.pc + len₂, stack := v.toList ++ g.stack } := by
      refine e3.trans ?_
      rw [hf₂, State.calling_eq h.top, State.setFrames_setFrames, State.setTop_of_frames _ hr', hr]
      rfl
    have hsame : U.sameButNew ({ U with heap := s₂.heap, slotsUsed := s₂.slotsUsed } : State) L mc ms := by
      refine ⟨?_, q2, q3, q4, q5, q6⟩
      obtain ⟨t, ht, -⟩ := State.frames_cons hr
      show ({ U with heap := s₂.heap, slotsUsed := s₂.slotsUsed } : State) = { U.setFrames U.frames with heap := s₂.heap, slotsUsed := s₂.slotsUsed }
      rw [State.setFrames_self ht]
    subst hg
    refine Or.inl ⟨v, ⟨(({ U with heap := s₂.heap, slotsUsed := s₂.slotsUsed } : State).setVm s₂.vm), Ls ++ L, c0 + mc, s0 + ms⟩,
      ⟨X.admits, X.cas, X.clock, X.frames, X.room, X.hears, X.method, X.code, (X.here.setHeapUsed s₂.heap s₂.slotsUsed).setVm hW'.alike, X.tail, State.WarmedH.trans X.warmed hW', X.limits, X.bytes, X.same.trans (hsame.setVm s.vm)⟩,
      ⟨g, mk, s₂, L, rfl, rfl, hqc, rfl, hL, rfl, rfl⟩, ?_⟩
    show Steps p.tables e below _ ((({ U with heap := s₂.heap, slotsUsed := s₂.slotsUsed } : State).setVm s₂.vm).setTop { g with pc := g.pc + len₂, stack := v.toList ++ g.stack })
    rw [← hs₂]
    exact hsteps
  · obtain ⟨e2, q2, q3, q4, q5, q6⟩ := id hsm
    have e3 : s₂ = ({ (U.calling g mk a).setFrames s₂.frames with heap := s₂.heap, slotsUsed := s₂.slotsUsed } : State).setVm s₂.vm := by
      have : s₂ = ({ s₂ with vm := (U.calling g mk a).vm } : State).setVm s₂.vm := rfl
      rw [e2] at this
      exact this
    have hf₂ : s₂.frames = .throwing q :: .java g :: U.frames.tail := hend
    have hW' : U.WarmedH s₂.vm := hW₂
    have hs₂ : s₂ = ((({ U with heap := s₂.heap, slotsUsed := s₂.slotsUsed } : State).setVm s₂.vm).setTop g).pushFrame (.throwing q) := by
      refine e3.trans ?_
      rw [hf₂, State.calling_eq h.top, State.setFrames_setFrames, State.pushFrame, State.frames_setTop _ hr', State.setTop_of_frames _ hr', State.setFrames_setFrames, hr]
      rfl
    have hsame : U.sameButNew ({ U with heap := s₂.heap, slotsUsed := s₂.slotsUsed } : State) L mc ms := by
      refine ⟨?_, q2, q3, q4, q5, q6⟩
      obtain ⟨t, ht, -⟩ := State.frames_cons hr
      show ({ U with heap := s₂.heap, slotsUsed := s₂.slotsUsed } : State) = { U.setFrames U.frames with heap := s₂.heap, slotsUsed := s₂.slotsUsed }
      rw [State.setFrames_self ht]
    subst hg
    refine Or.inr ⟨q, ⟨(({ U with heap := s₂.heap, slotsUsed := s₂.slotsUsed } : State).setVm s₂.vm), Ls ++ L, c0 + mc, s0 + ms⟩,
      ⟨X.admits, X.cas, X.clock, X.frames, X.room, X.hears, X.method, X.code, (X.here.setHeapUsed s₂.heap s₂.slotsUsed).setVm hW'.alike, X.tail, State.WarmedH.trans X.warmed hW', X.limits, X.bytes, X.same.trans (hsame.setVm s.vm)⟩,
      ⟨g, mk, s₂, L, E, ce, rfl, rfl, hx, hce, hcv, hcl, rfl, hL, rfl, rfl⟩, ?_⟩
    show Steps p.tables e below _ (((({ U with heap := s₂.heap, slotsUsed := s₂.slotsUsed } : State).setVm s₂.vm).setTop g).pushFrame (.throwing q))
    rw [← hs₂]
    exact hsteps
end
variable {p : Program} {l : Launch} {e : Env} {R : Room} {s : State} {m : MethodId} {args : Array Value} {below : List Frame} {meth : Method} {c : Code} {T : State} {H : Heap} {locs : List Loc} {cells slots : Nat}
theorem vx_callVX (X : Stand p l e R s m args below meth c T locs cells slots) (hexec : p.tables.exec = Jvm.exec) {own C : String} {index : Nat} {y : MethodName} {bytes : ByteArray} {maxL : Nat} {ret : Option FieldType} {hh : List (Nat × Nat × Nat × Nat)}
    (hown : s.vm.findClass own = some m.cls) (hlink : (Cond.methodLink own index y).before args s = true) (hinst : (Cond.instanceMethod y).before args s = true) (hsel : (Cond.selects C y y).before args s = true)
    (hcode : (Cond.codeWith y bytes maxL ret hh).before args s = true) (hy : y.cls ≠ "java/lang/invoke/MethodHandle" ∧ y.cls ≠ "java/lang/invoke/VarHandle")
    {W9 : Nat} {Pre : Pt → Array Value → Prop} {Post : Pt → Array Value → Option Value → Pt → Prop} {PostX : Pt → Array Value → Addr → Pt → Prop} (hK : vx_Back l R p e below s args y 3 W9 Pre Post PostX)
    {b : Addr} {cellB : Cell} (hcell : T.heap[b]? = some cellB) (hobj : cellB.vm.isStatics = false) (hcls : s.vm.findClass C = some cellB.cls)
    {g : JFrame} (hg : g.method = m) (hsize : g.locals.size = c.maxLocals) {argsL rest : List Value} (hlen : ∀ sig, parseMethodDescriptor y.desc = some sig → argsL.length = sig.parameters.length)
    (hstack : g.stack = argsL.reverse ++ .ref b :: rest) (hW : 2 * g.monitorRoom + (rest.map fun v => v.category).sum ≤ W9) (hdg : decode c.code g.pc = .ok (.invokevirtual index, 3))
    (hpre : ∀ vm₁, s.WarmedH vm₁ → Pre ⟨T.setVm vm₁, locs, cells, slots⟩ (Value.ref b :: argsL).toArray) :
    (∃ (v : Option Value) (vm₁ : Vm) (B : Pt), s.WarmedH vm₁ ∧ Stand p l e R s m args below meth c B.U B.locs B.cells B.slots ∧ Post ⟨T.setVm vm₁, locs, cells, slots⟩ (Value.ref b :: argsL).toArray v B ∧
      ∀ target, Steps p.tables e below (B.U.setTop { g with pc := g.pc + 3, stack := v.toList ++ rest }) target → Steps p.tables e below (T.setTop g) target) ∨
    (∃ (q : Addr) (vm₁ : Vm) (B : Pt), s.WarmedH vm₁ ∧ Stand p l e R s m args below meth c B.U B.locs B.cells B.slots ∧ PostX ⟨T.setVm vm₁, locs, cells, slots⟩ (Value.ref b :: argsL).toArray q B ∧
      Steps p.tables e below (T.setTop g) ((B.U.setTop { g with stack := rest }).pushFrame (.throwing q))) := by
  obtain ⟨mk, methM, hnamed, hmethM, hstM, habM⟩ := Cond.instanceMethod_spec hinst
  obtain ⟨m8, methM', cM, hn8, hmethM', -, -, -, -, -, -, hsigM⟩ := Cond.codeWith_spec hcode
  cases Option.some.inj (hn8.symm.trans hnamed)
  cases hmethM.symm.trans hmethM'
  obtain ⟨c2, r2, m2, q1, q2, q3, q4, kP, hkP, hkPi⟩ := Cond.selects_spec hsel
  cases hcls.symm.trans q1
  cases (State.methodFound?_of_named hnamed hy).symm.trans q2
  cases hnamed.symm.trans q3
  have hselP : selectMethod e.platform s.vm cellB.cls mk = .method mk := by rw [Launch.admits_selectMethod X.admits]; exact q4
  obtain ⟨vm₁, X₁, hstep₁⟩ := X.invokevirtual hexec hown hlink hnamed hmethM hstM hkP hkPi hy (a := b) (cell := cellB) hcell
    (fun z h => by rw [h] at hobj; cases hobj) hselP hmethM habM hkP hkPi (g := g) hg (argsL := argsL) (rest := rest) (hlen _ hsigM) hstack hdg
  rcases hK m meth c ⟨T.setVm vm₁, locs, cells, slots⟩ { g with stack := rest } (.invokevirtual index) mk (Value.ref b :: argsL).toArray X₁ hg hsize hdg hW (X₁.named hnamed) (hpre vm₁ X₁.warmed) with ⟨v, B, X', hpost, hsteps⟩ | ⟨q, B, X', hpost, hsteps⟩
  · exact Or.inl ⟨v, vm₁, B, X₁.warmed, X', hpost, fun target h => hstep₁ _ fun acts => by rw [doInvoke_state]; exact hsteps.trans h⟩
  · exact Or.inr ⟨q, vm₁, B, X₁.warmed, X', hpost, hstep₁ _ fun acts => by rw [doInvoke_state]; exact hsteps⟩
theorem vx_callSX (X : Stand p l e R s m args below meth c T locs cells slots) (hexec : p.tables.exec = Jvm.exec) {own : String} {index : Nat} {y : MethodName} {bytes : ByteArray} {maxL : Nat} {ret : Option FieldType} {hh : List (Nat × Nat × Nat × Nat)}
    (hown : s.vm.findClass own = some m.cls) (hlink : (Cond.methodLink own index y).before args s = true) (hstat : (Cond.static y).before args s = true) (hinit : (Cond.initialized y.cls).before args s = true)
    (hcode : (Cond.codeWith y bytes maxL ret hh).before args s = true) (hy : y.cls ≠ "java/lang/invoke/MethodHandle" ∧ y.cls ≠ "java/lang/invoke/VarHandle")
    {W9 : Nat} {Pre : Pt → Array Value → Prop} {Post : Pt → Array Value → Option Value → Pt → Prop} {PostX : Pt → Array Value → Addr → Pt → Prop} (hK : vx_Back l R p e below s args y 3 W9 Pre Post PostX)
    {g : JFrame} (hg : g.method = m) (hsize : g.locals.size = c.maxLocals) {argsL rest : List Value} (hlen : ∀ sig, parseMethodDescriptor y.desc = some sig → argsL.length = sig.parameters.length)
    (hstack : g.stack = argsL.reverse ++ rest) (hW : 2 * g.monitorRoom + (rest.map fun v => v.category).sum ≤ W9) (hdg : decode c.code g.pc = .ok (.invokestatic index, 3))
    (hpre : ∀ vm₁, s.WarmedH vm₁ → Pre ⟨T.setVm vm₁, locs, cells, slots⟩ argsL.toArray) :
    (∃ (v : Option Value) (vm₁ : Vm) (B : Pt), s.WarmedH vm₁ ∧ Stand p l e R s m args below meth c B.U B.locs B.cells B.slots ∧ Post ⟨T.setVm vm₁, locs, cells, slots⟩ argsL.toArray v B ∧
      ∀ target, Steps p.tables e below (B.U.setTop { g with pc := g.pc + 3, stack := v.toList ++ rest }) target → Steps p.tables e below (T.setTop g) target) ∨
    (∃ (q : Addr) (vm₁ : Vm) (B : Pt), s.WarmedH vm₁ ∧ Stand p l e R s m args below meth c B.U B.locs B.cells B.slots ∧ PostX ⟨T.setVm vm₁, locs, cells, slots⟩ argsL.toArray q B ∧
      Steps p.tables e below (T.setTop g) ((B.U.setTop { g with stack := rest }).pushFrame (.throwing q))) := by
  obtain ⟨mk, methM, cM, hnamed, hmethM, -, -, -, -, -, -, hsigM⟩ := Cond.codeWith_spec hcode
  have hstatic : methM.isStatic = true := Cond.static_spec hnamed hmethM hstat
  obtain ⟨kP, hkP, -⟩ := className_of_methodNamed hnamed
  have hinitP : kP.init = .initialized := Cond.initialized_spec (findClass_of_methodNamed hnamed) hkP hinit
  obtain ⟨vm₁, X₁, hstep₁⟩ := X.invokestatic hexec hown hlink hnamed hmethM hstatic hkP hinitP hy (g := g) hg (argsL := argsL) (rest := rest) (hlen _ hsigM) hstack hdg
  rcases hK m meth c ⟨T.setVm vm₁, locs, cells, slots⟩ { g with stack := rest } (.invokestatic index) mk argsL.toArray X₁ hg hsize hdg hW (X₁.named hnamed) (hpre vm₁ X₁.warmed) with ⟨v, B, X', hpost, hsteps⟩ | ⟨q, B, X', hpost, hsteps⟩
  · exact Or.inl ⟨v, vm₁, B, X₁.warmed, X', hpost, fun target h => hstep₁ _ fun acts => by rw [doInvoke_state]; exact hsteps.trans h⟩
  · exact Or.inr ⟨q, vm₁, B, X₁.warmed, X', hpost, hstep₁ _ fun acts => by rw [doInvoke_state]; exact hsteps⟩
theorem vx_callVW (X : Stand p l e R s m args below meth c T locs cells slots) (hexec : p.tables.exec = Jvm.exec) {own C : String} {index : Nat} {y : MethodName} {bytes : ByteArray} {maxL : Nat} {ret : Option FieldType} {hh : List (Nat × Nat × Nat × Nat)}
    (hown : s.vm.findClass own = some m.cls) (hlink : (Cond.methodLink own index y).before args s = true) (hinst : (Cond.instanceMethod y).before args s = true) (hsel : (Cond.selects C y y).before args s = true)
    (hcode : (Cond.codeWith y bytes maxL ret hh).before args s = true) (hy : y.cls ≠ "java/lang/invoke/MethodHandle" ∧ y.cls ≠ "java/lang/invoke/VarHandle")
    {W9 : Nat} {Pre : Pt → Array Value → Prop} {Post : Pt → Array Value → Option Value → Pt → Prop} (hK : Back l R p e below s args y 3 W9 Pre Post)
    {b : Addr} {cellB : Cell} (hcell : T.heap[b]? = some cellB) (hobj : cellB.vm.isStatics = false) (hcls : s.vm.findClass C = some cellB.cls)
    {g : JFrame} (hg : g.method = m) (hsize : g.locals.size = c.maxLocals) {argsL rest : List Value} (hlen : ∀ sig, parseMethodDescriptor y.desc = some sig → argsL.length = sig.parameters.length)
    (hstack : g.stack = argsL.reverse ++ .ref b :: rest) (hW : 2 * g.monitorRoom + (rest.map fun v => v.category).sum ≤ W9) (hdg : decode c.code g.pc = .ok (.invokevirtual index, 3))
    (hpre : ∀ vm₁, s.WarmedH vm₁ → Pre ⟨T.setVm vm₁, locs, cells, slots⟩ (Value.ref b :: argsL).toArray) :
    ∃ (v : Option Value) (vm₁ : Vm) (B : Pt), s.WarmedH vm₁ ∧ Stand p l e R s m args below meth c B.U B.locs B.cells B.slots ∧ Post ⟨T.setVm vm₁, locs, cells, slots⟩ (Value.ref b :: argsL).toArray v B ∧
      ∀ target, Steps p.tables e below (B.U.setTop { g with pc := g.pc + 3, stack := v.toList ++ rest }) target → Steps p.tables e below (T.setTop g) target := by
  obtain ⟨mk, methM, hnamed, hmethM, hstM, habM⟩ := Cond.instanceMethod_spec hinst
  obtain ⟨m8, methM', cM, hn8, hmethM', -, -, -, -, -, -, hsigM⟩ := Cond.codeWith_spec hcode
  cases Option.some.inj (hn8.symm.trans hnamed)
  cases hmethM.symm.trans hmethM'
  obtain ⟨c2, r2, m2, q1, q2, q3, q4, kP, hkP, hkPi⟩ := Cond.selects_spec hsel
  cases hcls.symm.trans q1
  cases (State.methodFound?_of_named hnamed hy).symm.trans q2
  cases hnamed.symm.trans q3
  have hselP : selectMethod e.platform s.vm cellB.cls mk = .method mk := by rw [Launch.admits_selectMethod X.admits]; exact q4
  obtain ⟨vm₁, X₁, hstep₁⟩ := X.invokevirtual hexec hown hlink hnamed hmethM hstM hkP hkPi hy (a := b) (cell := cellB) hcell
    (fun z h => by rw [h] at hobj; cases hobj) hselP hmethM habM hkP hkPi (g := g) hg (argsL := argsL) (rest := rest) (hlen _ hsigM) hstack hdg
  obtain ⟨v, B, X', hpost, hsteps⟩ := hK m meth c ⟨T.setVm vm₁, locs, cells, slots⟩ { g with stack := rest } (.invokevirtual index) mk (Value.ref b :: argsL).toArray X₁ hg hsize hdg hW (X₁.named hnamed) (hpre vm₁ X₁.warmed)
  exact ⟨v, vm₁, B, X₁.warmed, X', hpost, fun target h => hstep₁ _ fun acts => by rw [doInvoke_state]; exact hsteps.trans h⟩
abbrev vx_CVW (R : Room) (s : State) (args : Array Value) (own C : String) (index : Nat) (y : MethodName) (bytes : ByteArray) (maxL : Nat) (ret : Option FieldType) (hh : List (Nat × Nat × Nat × Nat)) (ws : List Cond) (rm : Room) (mc ms n : Nat) : Prop :=
  (rm.cells = mc ∧ rm.slots = ms ∧ rm.frames + 1 ≤ R.frames ∧ 8 + (maxL + 11) + rm.locals ≤ R.locals ∧ (∀ w ∈ ws, ∀ (a' : Array Value) (U : State), s.WarmedH U.vm → w.before a' U = true) ∧ Cond.codeWith y bytes maxL ret hh ∈ ws) ∧
  (Cond.codeWith y bytes maxL ret hh).before args s = true ∧ (Cond.initialized y.cls).before args s = true ∧ (y.cls ≠ "java/lang/invoke/MethodHandle" ∧ y.cls ≠ "java/lang/invoke/VarHandle") ∧
  (∀ sig, parseMethodDescriptor y.desc = some sig → n = sig.parameters.length) ∧ (Cond.methodLink own index y).before args s = true ∧ (Cond.instanceMethod y).before args s = true ∧ (Cond.selects C y y).before args s = true
theorem vx_cwVW {own C : String} {index maxL mc ms : Nat} {y : MethodName} {bytes : ByteArray} {ret : Option FieldType} {hh : List (Nat × Nat × Nat × Nat)} {Ts ws ws' : List Cond} {rm : Room} (n : Nat) (ht : ∀ w ∈ Ts, w.before args s = true) (hT : GoodIn Ts (wsV own index C y ws)) (hw : ws = Cond.codeWith y bytes maxL ret hh :: ws') (hrc : rm.cells = mc) (hrs : rm.slots = ms)
    (hd : y.cls = C ∧ y.cls ≠ "java/lang/invoke/MethodHandle" ∧ y.cls ≠ "java/lang/invoke/VarHandle" ∧ (parseMethodDescriptor y.desc).map (fun d => d.parameters.length) = some n) (hR : rm.frames + 1 ≤ R.frames ∧ 8 + (maxL + 11) + rm.locals ≤ R.locals) :
    vx_CVW R s args own C index y bytes maxL ret hh ws rm mc ms n := by
  obtain ⟨hC, hd⟩ := hd
  subst hC
  have ok : ∀ w ∈ wsV own index y.cls y ws, w.before args s = true := fun w h => ht w (hT w h).1
  have hG : GoodIn Ts ws := fun w h => hT w (by unfold wsV; exact List.mem_append_right _ h)
  have hc : Cond.codeWith y bytes maxL ret hh ∈ ws := by rw [hw]; exact List.mem_cons_self
  refine ⟨⟨hrc, hrs, hR.1, hR.2, pay_in ht hG, hc⟩, ht _ (hG _ hc).1, ok _ (by simp [wsV]), ⟨hd.1, hd.2.1⟩, fun sig h => ?_, ok _ (by simp [wsV]), ok _ (by simp [wsV]), ok _ (by simp [wsV])⟩
  have h2 := hd.2.2
  rw [h] at h2
  exact (Option.some.inj h2).symm
theorem vx_runVW {y : MethodName} {bytes cc : ByteArray} {maxL nL mc ms n index : Nat} {ret : Option FieldType} {hh : List (Nat × Nat × Nat × Nat)} {ws : List Cond} {rm : Room} {Pc : Array Value → State → Prop} {Qc : Array Value → State → Outcome → State → Prop} {free : Addr → Prop} {Ts : List Cond} {own C : String} {b : Addr} {As rest : List Value} {g : JFrame}
    (S : CallFix p m c cc nL s args Ts own) (hM : Met l y ws rm Pc Qc mc ms free) (cw : vx_CVW R s args own C index y bytes maxL ret hh ws rm mc ms n) (hp : PreV s H C b Pc As)
    (hg : g.method = m) (hn : As.length = n) (hsize : g.locals.size = nL) (hstack : g.stack = As.reverse ++ .ref b :: rest) (hW : 2 * g.monitorRoom + (rest.map fun v => v.category).sum ≤ 8) (hdg : decode cc g.pc = .ok (.invokevirtual index, 3)) (hf : cells + mc ≤ R.cells ∧ slots + ms ≤ R.slots) :
    va_Run p l e R s m args below meth c H locs cells slots mc ms g rest (Qc (Value.ref b :: As).toArray) free := by
  obtain ⟨⟨hrc, hrs, hfr, hlo, hws, hcw⟩, hcode, hini, hy, hlen, hl, hin, hse⟩ := cw
  have hK : Back l R p e below s args y 3 8 (PreOf R mc ms Pc) (PostOf Qc mc ms free) := va_backW (hh := hh) (bytes := bytes) (maxL := maxL) (ret := ret) hM hp.1 hrc hrs hfr hlo hws hcw (fun a' U hW => word_at hW (Or.inl (by first | rfl | simp [Cond.onTables, Cond.keeps, Cond.steady])) hini)
  obtain ⟨hx, hb, hml, ho, -⟩ := S
  obtain ⟨-, ⟨cellB, hcB, hoB, hclB⟩, hPc⟩ := hp
  intro T hT X
  obtain ⟨v, vm₁, ⟨U', l2, c2, s2⟩, hW₁, X', ⟨g', mk, t, L, e1, e2, hq, h1, hL, h2, h3⟩, st⟩ := vx_callVW X hx (C := C) (hh := hh) (bytes := bytes) (maxL := maxL) (ret := ret) ho hl hin hse hcode hy hK (by rw [hT]; exact hcB) hoB hclB hg (hsize.trans hml.symm) (argsL := As) (rest := rest) (fun sig h => hn.trans (hlen sig h)) hstack hW (by rw [hb]; exact hdg)
    (fun vm₁ hW₁ => ⟨hf.1, hf.2, hPc (T.setVm vm₁) hT hW₁⟩)
  dsimp only [Pt.U, Pt.locs, Pt.cells, Pt.slots] at X' e1 e2 h1 h2 h3 st
  subst h1; subst h2; subst h3
  exact ⟨v, (T.setVm vm₁).calling g' mk (Value.ref b :: As).toArray, t, U', L, hT, X', hL, e1, e2, hq, st⟩
section
variable {y : MethodName} {bytes cc : ByteArray} {maxL nL mc ms n index : Nat} {ret : Option FieldType} {ws : List Cond} {rm : Room} {Pc : Array Value → State → Prop} {Qc : Array Value → State → Outcome → State → Prop} {XC : String → State → State → Prop} {free : Addr → Prop} {Ts : List Cond} {own C : String} {b : Addr} {As rest : List Value} {g : JFrame}
theorem vx_runVX {hh : List (Nat × Nat × Nat × Nat)} (S : CallFix p m c cc nL s args Ts own) (hM : vx_Met l y ws rm Pc Qc XC mc ms free) (cw : vx_CVW R s args own C index y bytes maxL ret hh ws rm mc ms n) (hp : PreV s H C b Pc As)
    (hg : g.method = m) (hn : As.length = n) (hsize : g.locals.size = nL) (hstack : g.stack = As.reverse ++ .ref b :: rest) (hW : 2 * g.monitorRoom + (rest.map fun v => v.category).sum ≤ 8) (hdg : decode cc g.pc = .ok (.invokevirtual index, 3)) (hf : cells + mc ≤ R.cells ∧ slots + ms ≤ R.slots) :
    vx_Run p l e R s m args below meth c H locs cells slots mc ms g rest (Qc (Value.ref b :: As).toArray) XC free := by
  obtain ⟨⟨hrc, hrs, hfr, hlo, hws, hcw⟩, hcode, hini, hy, hlen, hl, hin, hse⟩ := cw
  have hK : vx_Back l R p e below s args y 3 8 (PreOf R mc ms Pc) (PostOf Qc mc ms free) (vx_Post XC mc ms free) := vx_backW (hh := hh) (bytes := bytes) (maxL := maxL) (ret := ret) hM hp.1 hrc hrs hfr hlo hws hcw (fun a' U hW => word_at hW (Or.inl (by first | rfl | simp [Cond.onTables, Cond.keeps, Cond.steady])) hini)
  obtain ⟨hx, hb, hml, ho, -⟩ := S
  obtain ⟨-, ⟨cellB, hcB, hoB, hclB⟩, hPc⟩ := hp
  intro T hT X
  rcases vx_callVX X hx (C := C) (hh := hh) (bytes := bytes) (maxL := maxL) (ret := ret) ho hl hin hse hcode hy hK (by rw [hT]; exact hcB) hoB hclB hg (hsize.trans hml.symm) (argsL := As) (rest := rest) (fun sig h => hn.trans (hlen sig h)) hstack hW (by rw [hb]; exact hdg)
    (fun vm₁ hW₁ => ⟨hf.1, hf.2, hPc (T.setVm vm₁) hT hW₁⟩) with ⟨v, vm₁, ⟨U', l2, c2, s2⟩, hW₁, X', ⟨g', mk, t, L, e1, e2, hq, h1, hL, h2, h3⟩, st⟩ | ⟨q, vm₁, ⟨U', l2, c2, s2⟩, hW₁, X', ⟨g', mk, t, L, E, ce, e1, e2, hq, hce, hcv, hcl, h1, hL, h2, h3⟩, st⟩
  · dsimp only [Pt.U, Pt.locs, Pt.cells, Pt.slots] at X' e1 e2 h1 h2 h3 st
    subst h1; subst h2; subst h3
    exact Or.inl ⟨v, (T.setVm vm₁).calling g' mk (Value.ref b :: As).toArray, t, U', L, hT, X', hL, e1, e2, hq, st⟩
  · dsimp only [Pt.U, Pt.locs, Pt.cells, Pt.slots] at X' e1 e2 h1 h2 h3 st hcl
    subst h1; subst h2; subst h3
    exact Or.inr ⟨q, (T.setVm vm₁).calling g' mk (Value.ref b :: As).toArray, t, U', L, E, ce, hT, X', hL, e1, e2, hq, hce, hcv, vx_cls hW₁ hcl, st⟩
theorem vx_runSX {hh : List (Nat × Nat × Nat × Nat)} (S : CallFix p m c cc nL s args Ts own) (hM : vx_Met l y ws rm Pc Qc XC mc ms free) (cw : vx_CSW R s args own index y bytes maxL ret hh ws rm mc ms n) (hp : PreS s H Pc As)
    (hg : g.method = m) (hn : As.length = n) (hsize : g.locals.size = nL) (hstack : g.stack = As.reverse ++ rest) (hW : 2 * g.monitorRoom + (rest.map fun v => v.category).sum ≤ 8) (hdg : decode cc g.pc = .ok (.invokestatic index, 3)) (hf : cells + mc ≤ R.cells ∧ slots + ms ≤ R.slots) :
    vx_Run p l e R s m args below meth c H locs cells slots mc ms g rest (Qc As.toArray) XC free := by
  obtain ⟨⟨hrc, hrs, hfr, hlo, hws, hcw⟩, hcode, hini, hy, hlen, hl, hstt⟩ := cw
  have hK : vx_Back l R p e below s args y 3 8 (PreOf R mc ms Pc) (PostOf Qc mc ms free) (vx_Post XC mc ms free) := vx_backW (hh := hh) (bytes := bytes) (maxL := maxL) (ret := ret) hM hp.1 hrc hrs hfr hlo hws hcw (fun a' U hW => word_at hW (Or.inl (by first | rfl | simp [Cond.onTables, Cond.keeps, Cond.steady])) hini)
  obtain ⟨hx, hb, hml, ho, -⟩ := S
  intro T hT X
  rcases vx_callSX X hx (hh := hh) (bytes := bytes) (maxL := maxL) (ret := ret) ho hl hstt hini hcode hy hK hg (hsize.trans hml.symm) (argsL := As) (rest := rest) (fun sig h => hn.trans (hlen sig h)) hstack hW (by rw [hb]; exact hdg)
    (fun vm₁ hW₁ => ⟨hf.1, hf.2, hp.2 (T.setVm vm₁) hT hW₁⟩) with ⟨v, vm₁, ⟨U', l2, c2, s2⟩, hW₁, X', ⟨g', mk, t, L, e1, e2, hq, h1, hL, h2, h3⟩, st⟩ | ⟨q, vm₁, ⟨U', l2, c2, s2⟩, hW₁, X', ⟨g', mk, t, L, E, ce, e1, e2, hq, hce, hcv, hcl, h1, hL, h2, h3⟩, st⟩
  · dsimp only [Pt.U, Pt.locs, Pt.cells, Pt.slots] at X' e1 e2 h1 h2 h3 st
    subst h1; subst h2; subst h3
    exact Or.inl ⟨v, (T.setVm vm₁).calling g' mk As.toArray, t, U', L, hT, X', hL, e1, e2, hq, st⟩
  · dsimp only [Pt.U, Pt.locs, Pt.cells, Pt.slots] at X' e1 e2 h1 h2 h3 st hcl
    subst h1; subst h2; subst h3
    exact Or.inr ⟨q, (T.setVm vm₁).calling g' mk As.toArray, t, U', L, E, ce, hT, X', hL, e1, e2, hq, hce, hcv, vx_cls hW₁ hcl, st⟩
end
end VXH
theorem vx_ofWH {l : Launch} {y : MethodName} {ws ws' : List Cond} {rm : Room} {Pc : Array Value → State → Prop} {Qc : Array Value → State → Outcome → State → Prop} {XC : String → State → State → Prop} {mc ms : Nat} {free : Addr → Prop} {cc : ByteArray} {maxL : Nat} {ret : Option FieldType} {hh : List (Nat × Nat × Nat × Nat)}
    (hy : plainName y.cls = true) (hw : ws = Cond.codeWith y cc maxL ret hh :: ws')
    (body : ∀ p e s m args below meth c s₁, BodyLoose p l y (headSpec ws rm) cc maxL ret e s m args below meth c s₁ → c.maxLocals = maxL → Pc args s →
      W p l e (headSpec ws rm).room s m args below meth c s.heap [] 0 0 (vx_MQ below Qc XC args s mc ms free) (entryFrame m args maxL)) : vx_Met l y ws rm Pc Qc XC mc ms free := by
  refine MetFree.of_bodyS (code := cc) (maxLocals := maxL) (ret := ret) hy ?_ ?_
  · intro args s m h hn
    obtain ⟨m9, meth, c, hn9, h1, h2, h3, h4, -, h5, h6, -⟩ := Cond.codeWith_spec (atoms_spec (ws := ws) h _ (by rw [hw]; exact List.mem_cons_self))
    cases hn.symm.trans hn9
    exact ⟨meth, c, h1, h2, h3, h4, h5, h6⟩
  · intro p e s m args below meth c s₁ B hml hP _
    have hh0 : s₁.heap = s.heap := by rw [B.state]; rfl
    obtain ⟨t, a1, o, b1, b2, b3⟩ := body p e s m args below meth c s₁ B hml hP s₁ hh0 (Stand.of_body B)
    exact ⟨t, o, a1, b1, b2, b3⟩
/-! ===== END ===== -/
end
section
def RX0 : String := "LevyPhases$Levy"
def TX0 : u_T := fun k => match k with
  | 0 => ("LevyPhases$Levy", "day", "I", false)
  | 1 => ("LevyPhases$Levy", "phaseCount", "I", false)
  | 2 => ("LevyPhases$Levy", "rates", "[I", true)
  | 3 => ("LevyPhases$Levy", "settings", "[I", true)
  | _ => ("LevyPhases$Levy", "phases", "[LLevyPhases$Phase;", true)
def tyX0 : Nat → FieldType := fun k => match k with
  | 0 => .int
  | 1 => .int
  | 2 => .array .int
  | 3 => .array .int
  | _ => .array (.object "LevyPhases$Phase")
abbrev wsX00 : List Cond := u_ws RX0 TX0 5
theorem nmX0 : ∀ a, a < 5 → ∀ b, b < 5 → a ≠ b → (TX0 a).2.1 ≠ (TX0 b).2.1 := by decide +kernel
theorem tyX0_ok : ∀ k, k < 5 → parseFieldDescriptor (TX0 k).2.2.1 = some (tyX0 k) := by decide +kernel
abbrev cX0_init : ByteArray := prog_2_method_1_code
def yX0_init : MethodName := ⟨RX0, "<init>", "()V"⟩
abbrev cX0_copyFrom : ByteArray := prog_2_method_2_code
def yX0_copyFrom : MethodName := ⟨RX0, "copyFrom", "(LLevyPhases$Levy;)V"⟩
abbrev cX0_hasPhase : ByteArray := prog_2_method_3_code
def yX0_hasPhase : MethodName := ⟨RX0, "hasPhase", "(I)Z"⟩
abbrev cX0_appendPhase : ByteArray := prog_2_method_4_code
def yX0_appendPhase : MethodName := ⟨RX0, "appendPhase", "()I"⟩
abbrev cX0_changeRate : ByteArray := prog_2_method_5_code
def yX0_changeRate : MethodName := ⟨RX0, "changeRate", "(II)I"⟩
abbrev cX0_beginPhase : ByteArray := prog_2_method_6_code
def yX0_beginPhase : MethodName := ⟨RX0, "beginPhase", "(I)I"⟩
abbrev cX0_hasDaysLeft : ByteArray := prog_2_method_7_code
def yX0_hasDaysLeft : MethodName := ⟨RX0, "hasDaysLeft", "(I)Z"⟩
abbrev cX0_letDaysPass : ByteArray := prog_2_method_8_code
def yX0_letDaysPass : MethodName := ⟨RX0, "letDaysPass", "(I)I"⟩
abbrev cX0_daysToBreak : ByteArray := prog_2_method_9_code
def yX0_daysToBreak : MethodName := ⟨RX0, "daysToBreak", "(I)I"⟩
abbrev cX0_breaksWithin : ByteArray := prog_2_method_10_code
def yX0_breaksWithin : MethodName := ⟨RX0, "breaksWithin", "(II)Z"⟩
abbrev cX0_surchargeWithin : ByteArray := prog_2_method_11_code
def yX0_surchargeWithin : MethodName := ⟨RX0, "surchargeWithin", "(II)I"⟩
abbrev cX0_allows : ByteArray := prog_2_method_12_code
def yX0_allows : MethodName := ⟨RX0, "allows", "(II)Z"⟩
abbrev cX0_reasonAgainst : ByteArray := prog_2_method_13_code
def yX0_reasonAgainst : MethodName := ⟨RX0, "reasonAgainst", "(III)I"⟩
abbrev cX0_sumOverBegunPhases : ByteArray := prog_2_method_14_code
def yX0_sumOverBegunPhases : MethodName := ⟨RX0, "sumOverBegunPhases", "(I)I"⟩
abbrev cX0_numberOf : ByteArray := prog_2_method_15_code
def yX0_numberOf : MethodName := ⟨RX0, "numberOf", "(LLevyPhases$Phase;I)I"⟩
def RX1 : String := "LevyPhases$Orders"
def TX1 : u_T := fun k => match k with
  | 0 => ("LevyPhases$Orders", "codes", "[I", true)
  | 1 => ("LevyPhases$Orders", "length", "I", false)
  | 2 => ("LevyPhases$Orders", "at", "I", false)
  | 3 => ("LevyPhases$Orders", "kind", "I", false)
  | 4 => ("LevyPhases$Orders", "phase", "I", false)
  | 5 => ("LevyPhases$Orders", "use", "I", false)
  | _ => ("LevyPhases$Orders", "number", "I", false)
def tyX1 : Nat → FieldType := fun k => match k with
  | 0 => .array .int
  | 1 => .int
  | 2 => .int
  | 3 => .int
  | 4 => .int
  | 5 => .int
  | _ => .int
abbrev wsX10 : List Cond := u_ws RX1 TX1 7
theorem nmX1 : ∀ a, a < 7 → ∀ b, b < 7 → a ≠ b → (TX1 a).2.1 ≠ (TX1 b).2.1 := by decide +kernel
theorem tyX1_ok : ∀ k, k < 7 → parseFieldDescriptor (TX1 k).2.2.1 = some (tyX1 k) := by decide +kernel
abbrev cX1_init : ByteArray := prog_3_method_1_code
def yX1_init : MethodName := ⟨RX1, "<init>", "()V"⟩
abbrev cX1_appendCode : ByteArray := prog_3_method_2_code
def yX1_appendCode : MethodName := ⟨RX1, "appendCode", "(I)I"⟩
abbrev cX1_rewind : ByteArray := prog_3_method_3_code
def yX1_rewind : MethodName := ⟨RX1, "rewind", "()V"⟩
abbrev cX1_readRow : ByteArray := prog_3_method_4_code
def yX1_readRow : MethodName := ⟨RX1, "readRow", "()Z"⟩
abbrev cX1_readNextOrder : ByteArray := prog_3_method_5_code
def yX1_readNextOrder : MethodName := ⟨RX1, "readNextOrder", "()Z"⟩
abbrev cX1_readOrder : ByteArray := prog_3_method_6_code
def yX1_readOrder : MethodName := ⟨RX1, "readOrder", "()Z"⟩
abbrev cX1_readPhase : ByteArray := prog_3_method_7_code
def yX1_readPhase : MethodName := ⟨RX1, "readPhase", "()Z"⟩
abbrev cX1_readUse : ByteArray := prog_3_method_8_code
def yX1_readUse : MethodName := ⟨RX1, "readUse", "()Z"⟩
abbrev cX1_readNumber : ByteArray := prog_3_method_9_code
def yX1_readNumber : MethodName := ⟨RX1, "readNumber", "(II)Z"⟩
abbrev cX1_readDigit : ByteArray := prog_3_method_10_code
def yX1_readDigit : MethodName := ⟨RX1, "readDigit", "(II)I"⟩
abbrev cX1_isDigit : ByteArray := prog_3_method_11_code
def yX1_isDigit : MethodName := ⟨RX1, "isDigit", "(II)Z"⟩
abbrev cX1_readSign : ByteArray := prog_3_method_12_code
def yX1_readSign : MethodName := ⟨RX1, "readSign", "(C)Z"⟩
def RX2 : String := "LevyPhases$Phase"
def TX2 : u_T := fun k => match k with
  | 0 => ("LevyPhases$Phase", "areas", "[I", true)
  | 1 => ("LevyPhases$Phase", "exemptAreas", "[I", true)
  | 2 => ("LevyPhases$Phase", "rates", "[I", true)
  | 3 => ("LevyPhases$Phase", "lapsedMoney", "[I", true)
  | 4 => ("LevyPhases$Phase", "instalmentSums", "[I", true)
  | 5 => ("LevyPhases$Phase", "openSums", "[I", true)
  | 6 => ("LevyPhases$Phase", "firstDay", "I", false)
  | 7 => ("LevyPhases$Phase", "daysBetween", "I", false)
  | 8 => ("LevyPhases$Phase", "instalments", "I", false)
  | 9 => ("LevyPhases$Phase", "paid", "I", false)
  | 10 => ("LevyPhases$Phase", "landTaken", "I", false)
  | 11 => ("LevyPhases$Phase", "surcharge", "I", false)
  | _ => ("LevyPhases$Phase", "broken", "Z", false)
def tyX2 : Nat → FieldType := fun k => match k with
  | 0 => .array .int
  | 1 => .array .int
  | 2 => .array .int
  | 3 => .array .int
  | 4 => .array .int
  | 5 => .array .int
  | 6 => .int
  | 7 => .int
  | 8 => .int
  | 9 => .int
  | 10 => .int
  | 11 => .int
  | _ => .boolean
abbrev wsX20 : List Cond := u_ws RX2 TX2 13
theorem nmX2 : ∀ a, a < 13 → ∀ b, b < 13 → a ≠ b → (TX2 a).2.1 ≠ (TX2 b).2.1 := by decide +kernel
theorem tyX2_ok : ∀ k, k < 13 → parseFieldDescriptor (TX2 k).2.2.1 = some (tyX2 k) := by decide +kernel
abbrev cX2_init : ByteArray := prog_4_method_1_code
def yX2_init : MethodName := ⟨RX2, "<init>", "()V"⟩
abbrev cX2_copyFrom : ByteArray := prog_4_method_2_code
def yX2_copyFrom : MethodName := ⟨RX2, "copyFrom", "(LLevyPhases$Phase;)V"⟩
abbrev cX2_changeArea : ByteArray := prog_4_method_3_code
def yX2_changeArea : MethodName := ⟨RX2, "changeArea", "(II)I"⟩
abbrev cX2_changeExemptArea : ByteArray := prog_4_method_4_code
def yX2_changeExemptArea : MethodName := ⟨RX2, "changeExemptArea", "(II)I"⟩
abbrev cX2_startOn : ByteArray := prog_4_method_5_code
def yX2_startOn : MethodName := ⟨RX2, "startOn", "(II)I"⟩
abbrev cX2_takeMoney : ByteArray := prog_4_method_6_code
def yX2_takeMoney : MethodName := ⟨RX2, "takeMoney", "(I)I"⟩
abbrev cX2_takeLand : ByteArray := prog_4_method_7_code
def yX2_takeLand : MethodName := ⟨RX2, "takeLand", "(II)I"⟩
abbrev cX2_settle : ByteArray := prog_4_method_8_code
def yX2_settle : MethodName := ⟨RX2, "settle", "(I)V"⟩
abbrev cX2_endRelief : ByteArray := prog_4_method_9_code
def yX2_endRelief : MethodName := ⟨RX2, "endRelief", "(I)I"⟩
abbrev cX2_hasBegun : ByteArray := prog_4_method_10_code
def yX2_hasBegun : MethodName := ⟨RX2, "hasBegun", "()Z"⟩
abbrev cX2_chargeOfUse : ByteArray := prog_4_method_11_code
def yX2_chargeOfUse : MethodName := ⟨RX2, "chargeOfUse", "(I)I"⟩
abbrev cX2_reliefOfUse : ByteArray := prog_4_method_12_code
def yX2_reliefOfUse : MethodName := ⟨RX2, "reliefOfUse", "(I)I"⟩
abbrev cX2_charge : ByteArray := prog_4_method_13_code
def yX2_charge : MethodName := ⟨RX2, "charge", "()I"⟩
abbrev cX2_relief : ByteArray := prog_4_method_14_code
def yX2_relief : MethodName := ⟨RX2, "relief", "()I"⟩
abbrev cX2_lapsedSoFar : ByteArray := prog_4_method_15_code
def yX2_lapsedSoFar : MethodName := ⟨RX2, "lapsedSoFar", "()I"⟩
abbrev cX2_areaOfAllUses : ByteArray := prog_4_method_16_code
def yX2_areaOfAllUses : MethodName := ⟨RX2, "areaOfAllUses", "()I"⟩
abbrev cX2_owed : ByteArray := prog_4_method_17_code
def yX2_owed : MethodName := ⟨RX2, "owed", "()I"⟩
abbrev cX2_roomForLand : ByteArray := prog_4_method_18_code
def yX2_roomForLand : MethodName := ⟨RX2, "roomForLand", "(I)I"⟩
abbrev cX2_lastDayOfInstalment : ByteArray := prog_4_method_19_code
def yX2_lastDayOfInstalment : MethodName := ⟨RX2, "lastDayOfInstalment", "(I)I"⟩
abbrev cX2_instalmentsPaidWhole : ByteArray := prog_4_method_20_code
def yX2_instalmentsPaidWhole : MethodName := ⟨RX2, "instalmentsPaidWhole", "()I"⟩
abbrev cX2_dueOn : ByteArray := prog_4_method_21_code
def yX2_dueOn : MethodName := ⟨RX2, "dueOn", "(I)I"⟩
abbrev cX2_dayOfBreak : ByteArray := prog_4_method_22_code
def yX2_dayOfBreak : MethodName := ⟨RX2, "dayOfBreak", "()I"⟩
def RX3 : String := "LevyPhases"
def TX3 : u_T := fun k => match k with
  | 0 => ("LevyPhases", "levy", "LLevyPhases$Levy;", true)
  | 1 => ("LevyPhases", "saved", "[LLevyPhases$Levy;", true)
  | 2 => ("LevyPhases", "savedCount", "I", false)
  | 3 => ("LevyPhases", "nextSaved", "I", false)
  | _ => ("LevyPhases", "orders", "LLevyPhases$Orders;", true)
def tyX3 : Nat → FieldType := fun k => match k with
  | 0 => .object "LevyPhases$Levy"
  | 1 => .array (.object "LevyPhases$Levy")
  | 2 => .int
  | 3 => .int
  | _ => .object "LevyPhases$Orders"
abbrev wsX30 : List Cond := u_ws RX3 TX3 5
theorem nmX3 : ∀ a, a < 5 → ∀ b, b < 5 → a ≠ b → (TX3 a).2.1 ≠ (TX3 b).2.1 := by decide +kernel
theorem tyX3_ok : ∀ k, k < 5 → parseFieldDescriptor (TX3 k).2.2.1 = some (tyX3 k) := by decide +kernel
abbrev cX3_init : ByteArray := prog_1_method_1_code
def yX3_init : MethodName := ⟨RX3, "<init>", "()V"⟩
abbrev cX3_addPhase : ByteArray := prog_1_method_2_code
def yX3_addPhase : MethodName := ⟨RX3, "addPhase", "()I"⟩
abbrev cX3_area : ByteArray := prog_1_method_3_code
def yX3_area : MethodName := ⟨RX3, "area", "(III)I"⟩
abbrev cX3_exempt : ByteArray := prog_1_method_4_code
def yX3_exempt : MethodName := ⟨RX3, "exempt", "(III)I"⟩
abbrev cX3_rate : ByteArray := prog_1_method_5_code
def yX3_rate : MethodName := ⟨RX3, "rate", "(II)I"⟩
abbrev cX3_set : ByteArray := prog_1_method_6_code
def yX3_set : MethodName := ⟨RX3, "set", "(II)I"⟩
abbrev cX3_begin : ByteArray := prog_1_method_7_code
def yX3_begin : MethodName := ⟨RX3, "begin", "(I)I"⟩
abbrev cX3_pay : ByteArray := prog_1_method_8_code
def yX3_pay : MethodName := ⟨RX3, "pay", "(II)I"⟩
abbrev cX3_land : ByteArray := prog_1_method_9_code
def yX3_land : MethodName := ⟨RX3, "land", "(II)I"⟩
abbrev cX3_lapse : ByteArray := prog_1_method_10_code
def yX3_lapse : MethodName := ⟨RX3, "lapse", "(II)I"⟩
abbrev cX3_pass : ByteArray := prog_1_method_11_code
def yX3_pass : MethodName := ⟨RX3, "pass", "(I)I"⟩
abbrev cX3_append : ByteArray := prog_1_method_12_code
def yX3_append : MethodName := ⟨RX3, "append", "(I)I"⟩
abbrev cX3_clearBuffer : ByteArray := prog_1_method_13_code
def yX3_clearBuffer : MethodName := ⟨RX3, "clearBuffer", "()I"⟩
abbrev cX3_firstError : ByteArray := prog_1_method_14_code
def yX3_firstError : MethodName := ⟨RX3, "firstError", "()I"⟩
abbrev cX3_run : ByteArray := prog_1_method_15_code
def yX3_run : MethodName := ⟨RX3, "run", "()I"⟩
abbrev cX3_undo : ByteArray := prog_1_method_16_code
def yX3_undo : MethodName := ⟨RX3, "undo", "()I"⟩
abbrev cX3_phase : ByteArray := prog_1_method_17_code
def yX3_phase : MethodName := ⟨RX3, "phase", "(II)I"⟩
abbrev cX3_use : ByteArray := prog_1_method_18_code
def yX3_use : MethodName := ⟨RX3, "use", "(III)I"⟩
abbrev cX3_instalment : ByteArray := prog_1_method_19_code
def yX3_instalment : MethodName := ⟨RX3, "instalment", "(III)I"⟩
abbrev cX3_count : ByteArray := prog_1_method_20_code
def yX3_count : MethodName := ⟨RX3, "count", "(I)I"⟩
abbrev cX3_setting : ByteArray := prog_1_method_21_code
def yX3_setting : MethodName := ⟨RX3, "setting", "(I)I"⟩
abbrev cX3_whyNot : ByteArray := prog_1_method_22_code
def yX3_whyNot : MethodName := ⟨RX3, "whyNot", "(III)I"⟩
abbrev cX3_ifBegun : ByteArray := prog_1_method_23_code
def yX3_ifBegun : MethodName := ⟨RX3, "ifBegun", "(II)I"⟩
abbrev cX3_breaksIn : ByteArray := prog_1_method_24_code
def yX3_breaksIn : MethodName := ⟨RX3, "breaksIn", "(I)I"⟩
abbrev cX3_surchargesIn : ByteArray := prog_1_method_25_code
def yX3_surchargesIn : MethodName := ⟨RX3, "surchargesIn", "(I)I"⟩
abbrev cX3_mostUrgent : ByteArray := prog_1_method_26_code
def yX3_mostUrgent : MethodName := ⟨RX3, "mostUrgent", "()I"⟩
abbrev cX3_dueIn : ByteArray := prog_1_method_27_code
def yX3_dueIn : MethodName := ⟨RX3, "dueIn", "(II)I"⟩
abbrev cX3_settledShare : ByteArray := prog_1_method_28_code
def yX3_settledShare : MethodName := ⟨RX3, "settledShare", "()D"⟩
abbrev cX3_digest : ByteArray := prog_1_method_29_code
def yX3_digest : MethodName := ⟨RX3, "digest", "()J"⟩
abbrev cX3_hashOfPhase : ByteArray := prog_1_method_30_code
def yX3_hashOfPhase : MethodName := ⟨RX3, "hashOfPhase", "(JI)J"⟩
abbrev cX3_bitsOfShare : ByteArray := prog_1_method_31_code
def yX3_bitsOfShare : MethodName := ⟨RX3, "bitsOfShare", "(D)J"⟩
abbrev cX3_saveState : ByteArray := prog_1_method_32_code
def yX3_saveState : MethodName := ⟨RX3, "saveState", "()V"⟩
abbrev cX3_carryOutOrder : ByteArray := prog_1_method_33_code
def yX3_carryOutOrder : MethodName := ⟨RX3, "carryOutOrder", "()Z"⟩
abbrev cX3_demandPhase : ByteArray := prog_1_method_34_code
def yX3_demandPhase : MethodName := ⟨RX3, "demandPhase", "(I)V"⟩
abbrev cX3_demandNoReason : ByteArray := prog_1_method_35_code
def yX3_demandNoReason : MethodName := ⟨RX3, "demandNoReason", "(III)V"⟩
abbrev cX3_demandUse : ByteArray := prog_1_method_36_code
def yX3_demandUse : MethodName := ⟨RX3, "demandUse", "(I)V"⟩
abbrev cX3_demandSetting : ByteArray := prog_1_method_37_code
def yX3_demandSetting : MethodName := ⟨RX3, "demandSetting", "(I)V"⟩
abbrev cX3_demandRange : ByteArray := prog_1_method_38_code
def yX3_demandRange : MethodName := ⟨RX3, "demandRange", "(III)V"⟩
abbrev cX3_instalmentsFor : ByteArray := prog_1_method_39_code
def yX3_instalmentsFor : MethodName := ⟨RX3, "instalmentsFor", "(I)I"⟩
abbrev cX3_partOf : ByteArray := prog_1_method_40_code
def yX3_partOf : MethodName := ⟨RX3, "partOf", "(III)I"⟩
abbrev cX3_percentOf : ByteArray := prog_1_method_41_code
def yX3_percentOf : MethodName := ⟨RX3, "percentOf", "(II)I"⟩
def RX4 : String := "LevyPhasesModel"
def TX4 : u_T := fun k => match k with
  | 0 => ("LevyPhasesModel", "z", "[I", true)
  | 1 => ("LevyPhasesModel", "states", "I", false)
  | 2 => ("LevyPhasesModel", "history", "[I", true)
  | 3 => ("LevyPhasesModel", "length", "I", false)
  | 4 => ("LevyPhasesModel", "text", "[I", true)
  | 5 => ("LevyPhasesModel", "thrown", "I", false)
  | 6 => ("LevyPhasesModel", "parts", "[I", true)
  | 7 => ("LevyPhasesModel", "read", "I", false)
  | 8 => ("LevyPhasesModel", "number", "I", false)
  | 9 => ("LevyPhasesModel", "due", "I", false)
  | 10 => ("LevyPhasesModel", "kept", "[I", true)
  | _ => ("LevyPhasesModel", "hash", "J", false)
def tyX4 : Nat → FieldType := fun k => match k with
  | 0 => .array .int
  | 1 => .int
  | 2 => .array .int
  | 3 => .int
  | 4 => .array .int
  | 5 => .int
  | 6 => .array .int
  | 7 => .int
  | 8 => .int
  | 9 => .int
  | 10 => .array .int
  | _ => .long
abbrev wsX40 : List Cond := u_ws RX4 TX4 12
theorem nmX4 : ∀ a, a < 12 → ∀ b, b < 12 → a ≠ b → (TX4 a).2.1 ≠ (TX4 b).2.1 := by decide +kernel
theorem tyX4_ok : ∀ k, k < 12 → parseFieldDescriptor (TX4 k).2.2.1 = some (tyX4 k) := by decide +kernel
abbrev cX4_init : ByteArray := prog_6_method_1_code
def yX4_init : MethodName := ⟨RX4, "<init>", "()V"⟩
abbrev cX4_thrown : ByteArray := prog_6_method_2_code
def yX4_thrown : MethodName := ⟨RX4, "thrown", "()I"⟩
abbrev cX4_within : ByteArray := prog_6_method_3_code
def yX4_within : MethodName := ⟨RX4, "within", "(III)Z"⟩
abbrev cX4_save : ByteArray := prog_6_method_4_code
def yX4_save : MethodName := ⟨RX4, "save", "()V"⟩
abbrev cX4_of : ByteArray := prog_6_method_5_code
def yX4_of : MethodName := ⟨RX4, "of", "(II)I"⟩
abbrev cX4_put : ByteArray := prog_6_method_6_code
def yX4_put : MethodName := ⟨RX4, "put", "(III)V"⟩
abbrev cX4_add : ByteArray := prog_6_method_7_code
def yX4_add : MethodName := ⟨RX4, "add", "(III)V"⟩
abbrev cX4_isPhase : ByteArray := prog_6_method_8_code
def yX4_isPhase : MethodName := ⟨RX4, "isPhase", "(I)Z"⟩
abbrev cX4_isUse : ByteArray := prog_6_method_9_code
def yX4_isUse : MethodName := ⟨RX4, "isUse", "(I)Z"⟩
abbrev cX4_hasBegun : ByteArray := prog_6_method_10_code
def yX4_hasBegun : MethodName := ⟨RX4, "hasBegun", "(I)Z"⟩
abbrev cX4_rateOf : ByteArray := prog_6_method_11_code
def yX4_rateOf : MethodName := ⟨RX4, "rateOf", "(II)I"⟩
abbrev cX4_chargeOf : ByteArray := prog_6_method_12_code
def yX4_chargeOf : MethodName := ⟨RX4, "chargeOf", "(II)I"⟩
abbrev cX4_reliefOf : ByteArray := prog_6_method_13_code
def yX4_reliefOf : MethodName := ⟨RX4, "reliefOf", "(II)I"⟩
abbrev cX4_charge : ByteArray := prog_6_method_14_code
def yX4_charge : MethodName := ⟨RX4, "charge", "(I)I"⟩
abbrev cX4_relief : ByteArray := prog_6_method_15_code
def yX4_relief : MethodName := ⟨RX4, "relief", "(I)I"⟩
abbrev cX4_areaOf : ByteArray := prog_6_method_16_code
def yX4_areaOf : MethodName := ⟨RX4, "areaOf", "(I)I"⟩
abbrev cX4_owed : ByteArray := prog_6_method_17_code
def yX4_owed : MethodName := ⟨RX4, "owed", "(I)I"⟩
abbrev cX4_dueNow : ByteArray := prog_6_method_18_code
def yX4_dueNow : MethodName := ⟨RX4, "dueNow", "(I)I"⟩
abbrev cX4_roomForLand : ByteArray := prog_6_method_19_code
def yX4_roomForLand : MethodName := ⟨RX4, "roomForLand", "(I)I"⟩
abbrev cX4_partsFor : ByteArray := prog_6_method_20_code
def yX4_partsFor : MethodName := ⟨RX4, "partsFor", "(I)I"⟩
abbrev cX4_lastOf : ByteArray := prog_6_method_21_code
def yX4_lastOf : MethodName := ⟨RX4, "lastOf", "(I)I"⟩
abbrev cX4_whyNoBeginning : ByteArray := prog_6_method_22_code
def yX4_whyNoBeginning : MethodName := ⟨RX4, "whyNoBeginning", "(I)I"⟩
abbrev cX4_whyNoPayment : ByteArray := prog_6_method_23_code
def yX4_whyNoPayment : MethodName := ⟨RX4, "whyNoPayment", "(I)I"⟩
abbrev cX4_whyNoLand : ByteArray := prog_6_method_24_code
def yX4_whyNoLand : MethodName := ⟨RX4, "whyNoLand", "(I)I"⟩
abbrev cX4_whyNoLapse : ByteArray := prog_6_method_25_code
def yX4_whyNoLapse : MethodName := ⟨RX4, "whyNoLapse", "(II)I"⟩
abbrev cX4_addPhase : ByteArray := prog_6_method_26_code
def yX4_addPhase : MethodName := ⟨RX4, "addPhase", "()I"⟩
abbrev cX4_isArea : ByteArray := prog_6_method_27_code
def yX4_isArea : MethodName := ⟨RX4, "isArea", "(I)Z"⟩
abbrev cX4_changeArea : ByteArray := prog_6_method_28_code
def yX4_changeArea : MethodName := ⟨RX4, "changeArea", "(III)V"⟩
abbrev cX4_area : ByteArray := prog_6_method_29_code
def yX4_area : MethodName := ⟨RX4, "area", "(III)I"⟩
abbrev cX4_exempt : ByteArray := prog_6_method_30_code
def yX4_exempt : MethodName := ⟨RX4, "exempt", "(III)I"⟩
abbrev cX4_rate : ByteArray := prog_6_method_31_code
def yX4_rate : MethodName := ⟨RX4, "rate", "(II)I"⟩
abbrev cX4_isSetting : ByteArray := prog_6_method_32_code
def yX4_isSetting : MethodName := ⟨RX4, "isSetting", "(I)Z"⟩
abbrev cX4_isValue : ByteArray := prog_6_method_33_code
def yX4_isValue : MethodName := ⟨RX4, "isValue", "(II)Z"⟩
abbrev cX4_set : ByteArray := prog_6_method_34_code
def yX4_set : MethodName := ⟨RX4, "set", "(II)I"⟩
abbrev cX4_begins : ByteArray := prog_6_method_35_code
def yX4_begins : MethodName := ⟨RX4, "begins", "(I)I"⟩
abbrev cX4_begin : ByteArray := prog_6_method_36_code
def yX4_begin : MethodName := ⟨RX4, "begin", "(I)I"⟩
abbrev cX4_settle : ByteArray := prog_6_method_37_code
def yX4_settle : MethodName := ⟨RX4, "settle", "(III)I"⟩
abbrev cX4_takes : ByteArray := prog_6_method_38_code
def yX4_takes : MethodName := ⟨RX4, "takes", "(III)I"⟩
abbrev cX4_isMoney : ByteArray := prog_6_method_39_code
def yX4_isMoney : MethodName := ⟨RX4, "isMoney", "(I)Z"⟩
abbrev cX4_pay : ByteArray := prog_6_method_40_code
def yX4_pay : MethodName := ⟨RX4, "pay", "(II)I"⟩
abbrev cX4_land : ByteArray := prog_6_method_41_code
def yX4_land : MethodName := ⟨RX4, "land", "(II)I"⟩
abbrev cX4_lapse : ByteArray := prog_6_method_42_code
def yX4_lapse : MethodName := ⟨RX4, "lapse", "(II)I"⟩
abbrev cX4_firstDue : ByteArray := prog_6_method_43_code
def yX4_firstDue : MethodName := ⟨RX4, "firstDue", "(I)I"⟩
abbrev cX4_canBreak : ByteArray := prog_6_method_44_code
def yX4_canBreak : MethodName := ⟨RX4, "canBreak", "(I)Z"⟩
abbrev cX4_dayPasses : ByteArray := prog_6_method_45_code
def yX4_dayPasses : MethodName := ⟨RX4, "dayPasses", "()I"⟩
abbrev cX4_daysPass : ByteArray := prog_6_method_46_code
def yX4_daysPass : MethodName := ⟨RX4, "daysPass", "(I)I"⟩
abbrev cX4_canPass : ByteArray := prog_6_method_47_code
def yX4_canPass : MethodName := ⟨RX4, "canPass", "(I)Z"⟩
abbrev cX4_pass : ByteArray := prog_6_method_48_code
def yX4_pass : MethodName := ⟨RX4, "pass", "(I)I"⟩
abbrev cX4_append : ByteArray := prog_6_method_49_code
def yX4_append : MethodName := ⟨RX4, "append", "(I)I"⟩
abbrev cX4_clearBuffer : ByteArray := prog_6_method_50_code
def yX4_clearBuffer : MethodName := ⟨RX4, "clearBuffer", "()I"⟩
abbrev cX4_beginsOrder : ByteArray := prog_6_method_51_code
def yX4_beginsOrder : MethodName := ⟨RX4, "beginsOrder", "(I)Z"⟩
abbrev cX4_takesPhase : ByteArray := prog_6_method_52_code
def yX4_takesPhase : MethodName := ⟨RX4, "takesPhase", "(I)Z"⟩
abbrev cX4_takesUse : ByteArray := prog_6_method_53_code
def yX4_takesUse : MethodName := ⟨RX4, "takesUse", "(I)Z"⟩
abbrev cX4_takesDigit : ByteArray := prog_6_method_54_code
def yX4_takesDigit : MethodName := ⟨RX4, "takesDigit", "(I)Z"⟩
abbrev cX4_isEnded : ByteArray := prog_6_method_55_code
def yX4_isEnded : MethodName := ⟨RX4, "isEnded", "()Z"⟩
abbrev cX4_takesNext : ByteArray := prog_6_method_56_code
def yX4_takesNext : MethodName := ⟨RX4, "takesNext", "(I)Z"⟩
abbrev cX4_rightUpTo : ByteArray := prog_6_method_57_code
def yX4_rightUpTo : MethodName := ⟨RX4, "rightUpTo", "()I"⟩
abbrev cX4_firstError : ByteArray := prog_6_method_58_code
def yX4_firstError : MethodName := ⟨RX4, "firstError", "()I"⟩
abbrev cX4_canCarry : ByteArray := prog_6_method_59_code
def yX4_canCarry : MethodName := ⟨RX4, "canCarry", "(II)Z"⟩
abbrev cX4_carries : ByteArray := prog_6_method_60_code
def yX4_carries : MethodName := ⟨RX4, "carries", "(I)Z"⟩
abbrev cX4_run : ByteArray := prog_6_method_61_code
def yX4_run : MethodName := ⟨RX4, "run", "()I"⟩
abbrev cX4_undo : ByteArray := prog_6_method_62_code
def yX4_undo : MethodName := ⟨RX4, "undo", "()I"⟩
abbrev cX4_paidWhole : ByteArray := prog_6_method_63_code
def yX4_paidWhole : MethodName := ⟨RX4, "paidWhole", "(I)I"⟩
abbrev cX4_phaseNow : ByteArray := prog_6_method_64_code
def yX4_phaseNow : MethodName := ⟨RX4, "phaseNow", "(II)I"⟩
abbrev cX4_phase : ByteArray := prog_6_method_65_code
def yX4_phase : MethodName := ⟨RX4, "phase", "(II)I"⟩
abbrev cX4_useNow : ByteArray := prog_6_method_66_code
def yX4_useNow : MethodName := ⟨RX4, "useNow", "(III)I"⟩
abbrev cX4_use : ByteArray := prog_6_method_67_code
def yX4_use : MethodName := ⟨RX4, "use", "(III)I"⟩
abbrev cX4_instalmentNow : ByteArray := prog_6_method_68_code
def yX4_instalmentNow : MethodName := ⟨RX4, "instalmentNow", "(III)I"⟩
abbrev cX4_instalment : ByteArray := prog_6_method_69_code
def yX4_instalment : MethodName := ⟨RX4, "instalment", "(III)I"⟩
abbrev cX4_sumOf : ByteArray := prog_6_method_70_code
def yX4_sumOf : MethodName := ⟨RX4, "sumOf", "(I)I"⟩
abbrev cX4_begunOnes : ByteArray := prog_6_method_71_code
def yX4_begunOnes : MethodName := ⟨RX4, "begunOnes", "()I"⟩
abbrev cX4_counted : ByteArray := prog_6_method_72_code
def yX4_counted : MethodName := ⟨RX4, "counted", "(I)I"⟩
abbrev cX4_count : ByteArray := prog_6_method_73_code
def yX4_count : MethodName := ⟨RX4, "count", "(I)I"⟩
abbrev cX4_setting : ByteArray := prog_6_method_74_code
def yX4_setting : MethodName := ⟨RX4, "setting", "(I)I"⟩
abbrev cX4_whyNotNow : ByteArray := prog_6_method_75_code
def yX4_whyNotNow : MethodName := ⟨RX4, "whyNotNow", "(III)I"⟩
abbrev cX4_whyNot : ByteArray := prog_6_method_76_code
def yX4_whyNot : MethodName := ⟨RX4, "whyNot", "(III)I"⟩
abbrev cX4_begunThen : ByteArray := prog_6_method_77_code
def yX4_begunThen : MethodName := ⟨RX4, "begunThen", "(II)I"⟩
abbrev cX4_ifBegun : ByteArray := prog_6_method_78_code
def yX4_ifBegun : MethodName := ⟨RX4, "ifBegun", "(II)I"⟩
abbrev cX4_breaksNow : ByteArray := prog_6_method_79_code
def yX4_breaksNow : MethodName := ⟨RX4, "breaksNow", "(I)I"⟩
abbrev cX4_breaksIn : ByteArray := prog_6_method_80_code
def yX4_breaksIn : MethodName := ⟨RX4, "breaksIn", "(I)I"⟩
abbrev cX4_keep : ByteArray := prog_6_method_81_code
def yX4_keep : MethodName := ⟨RX4, "keep", "()V"⟩
abbrev cX4_layBack : ByteArray := prog_6_method_82_code
def yX4_layBack : MethodName := ⟨RX4, "layBack", "()V"⟩
abbrev cX4_surchargesThen : ByteArray := prog_6_method_83_code
def yX4_surchargesThen : MethodName := ⟨RX4, "surchargesThen", "(I)I"⟩
abbrev cX4_surchargesIn : ByteArray := prog_6_method_84_code
def yX4_surchargesIn : MethodName := ⟨RX4, "surchargesIn", "(I)I"⟩
abbrev cX4_urgentNow : ByteArray := prog_6_method_85_code
def yX4_urgentNow : MethodName := ⟨RX4, "urgentNow", "()I"⟩
abbrev cX4_mostUrgent : ByteArray := prog_6_method_86_code
def yX4_mostUrgent : MethodName := ⟨RX4, "mostUrgent", "()I"⟩
abbrev cX4_dueThen : ByteArray := prog_6_method_87_code
def yX4_dueThen : MethodName := ⟨RX4, "dueThen", "(II)I"⟩
abbrev cX4_dueIn : ByteArray := prog_6_method_88_code
def yX4_dueIn : MethodName := ⟨RX4, "dueIn", "(II)I"⟩
abbrev cX4_share : ByteArray := prog_6_method_89_code
def yX4_share : MethodName := ⟨RX4, "share", "()D"⟩
abbrev cX4_settledShare : ByteArray := prog_6_method_90_code
def yX4_settledShare : MethodName := ⟨RX4, "settledShare", "()D"⟩
abbrev cX4_mix : ByteArray := prog_6_method_91_code
def yX4_mix : MethodName := ⟨RX4, "mix", "(J)V"⟩
abbrev cX4_mixPhase : ByteArray := prog_6_method_92_code
def yX4_mixPhase : MethodName := ⟨RX4, "mixPhase", "(I)V"⟩
abbrev cX4_digest : ByteArray := prog_6_method_93_code
def yX4_digest : MethodName := ⟨RX4, "digest", "()J"⟩
def RJx8e188 : String := "java/lang/Cloneable"
def RJxe99ae : String := "java/lang/Double"
abbrev cJxe99ae_isNaN_b9ae7 : ByteArray := prog_8_method_6_code
def yJxe99ae_isNaN_b9ae7 : MethodName := ⟨RJxe99ae, "isNaN", "(D)Z"⟩
abbrev cJxe99ae_doubleToLongBits_ccdee : ByteArray := prog_8_method_23_code
def yJxe99ae_doubleToLongBits_ccdee : MethodName := ⟨RJxe99ae, "doubleToLongBits", "(D)J"⟩
def RJ9 : String := "java/lang/Math"
abbrev cJ9_max_7cf53 : ByteArray := prog_13_method_65_code
def yJ9_max_7cf53 : MethodName := ⟨RJ9, "max", "(II)I"⟩
abbrev cJ9_min_7cf53 : ByteArray := prog_13_method_69_code
def yJ9_min_7cf53 : MethodName := ⟨RJ9, "min", "(II)I"⟩
def RJ0 : String := "java/lang/String"
def RL : String := "LevyPhasesLaw"
abbrev cL_addPhase : ByteArray := method_3_code
def yL_addPhase : MethodName := ⟨RL, "addPhase", "(LLevyPhases;[J)I"⟩
abbrev cL_area : ByteArray := method_4_code
def yL_area : MethodName := ⟨RL, "area", "(LLevyPhases;III[J)I"⟩
abbrev cL_exempt : ByteArray := method_5_code
def yL_exempt : MethodName := ⟨RL, "exempt", "(LLevyPhases;III[J)I"⟩
abbrev cL_rate : ByteArray := method_6_code
def yL_rate : MethodName := ⟨RL, "rate", "(LLevyPhases;II[J)I"⟩
abbrev cL_set : ByteArray := method_7_code
def yL_set : MethodName := ⟨RL, "set", "(LLevyPhases;II[J)I"⟩
abbrev cL_begin : ByteArray := method_8_code
def yL_begin : MethodName := ⟨RL, "begin", "(LLevyPhases;I[J)I"⟩
abbrev cL_pay : ByteArray := method_9_code
def yL_pay : MethodName := ⟨RL, "pay", "(LLevyPhases;II[J)I"⟩
abbrev cL_land : ByteArray := method_10_code
def yL_land : MethodName := ⟨RL, "land", "(LLevyPhases;II[J)I"⟩
abbrev cL_lapse : ByteArray := method_11_code
def yL_lapse : MethodName := ⟨RL, "lapse", "(LLevyPhases;II[J)I"⟩
abbrev cL_pass : ByteArray := method_12_code
def yL_pass : MethodName := ⟨RL, "pass", "(LLevyPhases;I[J)I"⟩
abbrev cL_append : ByteArray := method_13_code
def yL_append : MethodName := ⟨RL, "append", "(LLevyPhases;I[J)I"⟩
abbrev cL_run : ByteArray := method_14_code
def yL_run : MethodName := ⟨RL, "run", "(LLevyPhases;[J)I"⟩
abbrev cL_undo : ByteArray := method_15_code
def yL_undo : MethodName := ⟨RL, "undo", "(LLevyPhases;[J)I"⟩
abbrev cL_phase : ByteArray := method_16_code
def yL_phase : MethodName := ⟨RL, "phase", "(LLevyPhases;II[J)I"⟩
abbrev cL_use : ByteArray := method_17_code
def yL_use : MethodName := ⟨RL, "use", "(LLevyPhases;III[J)I"⟩
abbrev cL_instalment : ByteArray := method_18_code
def yL_instalment : MethodName := ⟨RL, "instalment", "(LLevyPhases;III[J)I"⟩
abbrev cL_count : ByteArray := method_19_code
def yL_count : MethodName := ⟨RL, "count", "(LLevyPhases;I[J)I"⟩
abbrev cL_setting : ByteArray := method_20_code
def yL_setting : MethodName := ⟨RL, "setting", "(LLevyPhases;I[J)I"⟩
abbrev cL_whyNot : ByteArray := method_21_code
def yL_whyNot : MethodName := ⟨RL, "whyNot", "(LLevyPhases;III[J)I"⟩
abbrev cL_ifBegun : ByteArray := method_22_code
def yL_ifBegun : MethodName := ⟨RL, "ifBegun", "(LLevyPhases;II[J)I"⟩
abbrev cL_breaksIn : ByteArray := method_23_code
def yL_breaksIn : MethodName := ⟨RL, "breaksIn", "(LLevyPhases;I[J)I"⟩
abbrev cL_surchargesIn : ByteArray := method_24_code
def yL_surchargesIn : MethodName := ⟨RL, "surchargesIn", "(LLevyPhases;I[J)I"⟩
abbrev cL_dueIn : ByteArray := method_25_code
def yL_dueIn : MethodName := ⟨RL, "dueIn", "(LLevyPhases;II[J)I"⟩
abbrev cL_law : ByteArray := code
def yL_law : MethodName := ⟨RL, "law", "([I)Z"⟩
abbrev vwCl : List vw_C := [(RX0, TX0, 5), (RX1, TX1, 7), (RX2, TX2, 13), (RX3, TX3, 5), (RX4, TX4, 12)]
end
section
theorem dX0_init_0 : decode cX0_init 0 = .ok (.aload_n 0, 1) := by decide +kernel
theorem dX0_init_1 : decode cX0_init 1 = .ok (.invokespecial 3, 3) := by decide +kernel
theorem dX0_init_4 : decode cX0_init 4 = .ok (.aload_n 0, 1) := by decide +kernel
theorem dX0_init_5 : decode cX0_init 5 = .ok (.iconst 0, 1) := by decide +kernel
theorem dX0_init_6 : decode cX0_init 6 = .ok (.putfield 9, 3) := by decide +kernel
theorem dX0_init_9 : decode cX0_init 9 = .ok (.aload_n 0, 1) := by decide +kernel
theorem dX0_init_10 : decode cX0_init 10 = .ok (.iconst 0, 1) := by decide +kernel
theorem dX0_init_11 : decode cX0_init 11 = .ok (.putfield 15, 3) := by decide +kernel
theorem dX0_init_14 : decode cX0_init 14 = .ok (.aload_n 0, 1) := by decide +kernel
theorem dX0_init_15 : decode cX0_init 15 = .ok (.getstatic 18, 3) := by decide +kernel
theorem dX0_init_18 : decode cX0_init 18 = .ok (.invokevirtual 22, 3) := by decide +kernel
theorem dX0_init_21 : decode cX0_init 21 = .ok (.checkcast 23, 3) := by decide +kernel
theorem dX0_init_24 : decode cX0_init 24 = .ok (.putfield 27, 3) := by decide +kernel
theorem dX0_init_27 : decode cX0_init 27 = .ok (.aload_n 0, 1) := by decide +kernel
theorem dX0_init_28 : decode cX0_init 28 = .ok (.getstatic 30, 3) := by decide +kernel
theorem dX0_init_31 : decode cX0_init 31 = .ok (.invokevirtual 22, 3) := by decide +kernel
theorem dX0_init_34 : decode cX0_init 34 = .ok (.checkcast 23, 3) := by decide +kernel
theorem dX0_init_37 : decode cX0_init 37 = .ok (.putfield 33, 3) := by decide +kernel
theorem dX0_init_40 : decode cX0_init 40 = .ok (.aload_n 0, 1) := by decide +kernel
theorem dX0_init_41 : decode cX0_init 41 = .ok (.bipush 6, 2) := by decide +kernel
theorem dX0_init_43 : decode cX0_init 43 = .ok (.anewarray 36, 3) := by decide +kernel
theorem dX0_init_46 : decode cX0_init 46 = .ok (.putfield 38, 3) := by decide +kernel
theorem dX0_init_49 : decode cX0_init 49 = .ok (.iconst 0, 1) := by decide +kernel
theorem dX0_init_50 : decode cX0_init 50 = .ok (.istore_n 1, 1) := by decide +kernel
theorem dX0_init_51 : decode cX0_init 51 = .ok (.iload_n 1, 1) := by decide +kernel
theorem dX0_init_52 : decode cX0_init 52 = .ok (.bipush 6, 2) := by decide +kernel
theorem dX0_init_54 : decode cX0_init 54 = .ok (.if_icmp .ge 22, 3) := by decide +kernel
theorem dX0_init_57 : decode cX0_init 57 = .ok (.aload_n 0, 1) := by decide +kernel
theorem dX0_init_58 : decode cX0_init 58 = .ok (.getfield 38, 3) := by decide +kernel
theorem dX0_init_61 : decode cX0_init 61 = .ok (.iload_n 1, 1) := by decide +kernel
theorem dX0_init_62 : decode cX0_init 62 = .ok (.new 36, 3) := by decide +kernel
theorem dX0_init_65 : decode cX0_init 65 = .ok (.dup, 1) := by decide +kernel
theorem dX0_init_66 : decode cX0_init 66 = .ok (.invokespecial 42, 3) := by decide +kernel
theorem dX0_init_69 : decode cX0_init 69 = .ok (.aastore, 1) := by decide +kernel
theorem dX0_init_70 : decode cX0_init 70 = .ok (.iinc 1 1, 3) := by decide +kernel
theorem dX0_init_73 : decode cX0_init 73 = .ok (.goto (-22), 3) := by decide +kernel
theorem dX0_init_76 : decode cX0_init 76 = .ok (.return_, 1) := by decide +kernel
theorem dX0_copyFrom_0 : decode cX0_copyFrom 0 = .ok (.aload_n 0, 1) := by decide +kernel
theorem dX0_copyFrom_1 : decode cX0_copyFrom 1 = .ok (.aload_n 1, 1) := by decide +kernel
theorem dX0_copyFrom_2 : decode cX0_copyFrom 2 = .ok (.getfield 9, 3) := by decide +kernel
theorem dX0_copyFrom_5 : decode cX0_copyFrom 5 = .ok (.putfield 9, 3) := by decide +kernel
theorem dX0_copyFrom_8 : decode cX0_copyFrom 8 = .ok (.aload_n 0, 1) := by decide +kernel
theorem dX0_copyFrom_9 : decode cX0_copyFrom 9 = .ok (.aload_n 1, 1) := by decide +kernel
theorem dX0_copyFrom_10 : decode cX0_copyFrom 10 = .ok (.getfield 15, 3) := by decide +kernel
theorem dX0_copyFrom_13 : decode cX0_copyFrom 13 = .ok (.putfield 15, 3) := by decide +kernel
theorem dX0_copyFrom_16 : decode cX0_copyFrom 16 = .ok (.iconst 0, 1) := by decide +kernel
theorem dX0_copyFrom_17 : decode cX0_copyFrom 17 = .ok (.istore_n 2, 1) := by decide +kernel
theorem dX0_copyFrom_18 : decode cX0_copyFrom 18 = .ok (.iload_n 2, 1) := by decide +kernel
theorem dX0_copyFrom_19 : decode cX0_copyFrom 19 = .ok (.iconst 4, 1) := by decide +kernel
theorem dX0_copyFrom_20 : decode cX0_copyFrom 20 = .ok (.if_icmp .ge 21, 3) := by decide +kernel
theorem dX0_copyFrom_23 : decode cX0_copyFrom 23 = .ok (.aload_n 0, 1) := by decide +kernel
theorem dX0_copyFrom_24 : decode cX0_copyFrom 24 = .ok (.getfield 27, 3) := by decide +kernel
theorem dX0_copyFrom_27 : decode cX0_copyFrom 27 = .ok (.iload_n 2, 1) := by decide +kernel
theorem dX0_copyFrom_28 : decode cX0_copyFrom 28 = .ok (.aload_n 1, 1) := by decide +kernel
theorem dX0_copyFrom_29 : decode cX0_copyFrom 29 = .ok (.getfield 27, 3) := by decide +kernel
theorem dX0_copyFrom_32 : decode cX0_copyFrom 32 = .ok (.iload_n 2, 1) := by decide +kernel
theorem dX0_copyFrom_33 : decode cX0_copyFrom 33 = .ok (.iaload, 1) := by decide +kernel
theorem dX0_copyFrom_34 : decode cX0_copyFrom 34 = .ok (.iastore, 1) := by decide +kernel
theorem dX0_copyFrom_35 : decode cX0_copyFrom 35 = .ok (.iinc 2 1, 3) := by decide +kernel
theorem dX0_copyFrom_38 : decode cX0_copyFrom 38 = .ok (.goto (-20), 3) := by decide +kernel
theorem dX0_copyFrom_41 : decode cX0_copyFrom 41 = .ok (.iconst 0, 1) := by decide +kernel
theorem dX0_copyFrom_42 : decode cX0_copyFrom 42 = .ok (.istore_n 2, 1) := by decide +kernel
theorem dX0_copyFrom_43 : decode cX0_copyFrom 43 = .ok (.iload_n 2, 1) := by decide +kernel
theorem dX0_copyFrom_44 : decode cX0_copyFrom 44 = .ok (.iconst 4, 1) := by decide +kernel
theorem dX0_copyFrom_45 : decode cX0_copyFrom 45 = .ok (.if_icmp .ge 21, 3) := by decide +kernel
theorem dX0_copyFrom_48 : decode cX0_copyFrom 48 = .ok (.aload_n 0, 1) := by decide +kernel
theorem dX0_copyFrom_49 : decode cX0_copyFrom 49 = .ok (.getfield 33, 3) := by decide +kernel
theorem dX0_copyFrom_52 : decode cX0_copyFrom 52 = .ok (.iload_n 2, 1) := by decide +kernel
theorem dX0_copyFrom_53 : decode cX0_copyFrom 53 = .ok (.aload_n 1, 1) := by decide +kernel
theorem dX0_copyFrom_54 : decode cX0_copyFrom 54 = .ok (.getfield 33, 3) := by decide +kernel
theorem dX0_copyFrom_57 : decode cX0_copyFrom 57 = .ok (.iload_n 2, 1) := by decide +kernel
theorem dX0_copyFrom_58 : decode cX0_copyFrom 58 = .ok (.iaload, 1) := by decide +kernel
theorem dX0_copyFrom_59 : decode cX0_copyFrom 59 = .ok (.iastore, 1) := by decide +kernel
theorem dX0_copyFrom_60 : decode cX0_copyFrom 60 = .ok (.iinc 2 1, 3) := by decide +kernel
theorem dX0_copyFrom_63 : decode cX0_copyFrom 63 = .ok (.goto (-20), 3) := by decide +kernel
theorem dX0_copyFrom_66 : decode cX0_copyFrom 66 = .ok (.iconst 0, 1) := by decide +kernel
theorem dX0_copyFrom_67 : decode cX0_copyFrom 67 = .ok (.istore_n 2, 1) := by decide +kernel
theorem dX0_copyFrom_68 : decode cX0_copyFrom 68 = .ok (.iload_n 2, 1) := by decide +kernel
theorem dX0_copyFrom_69 : decode cX0_copyFrom 69 = .ok (.bipush 6, 2) := by decide +kernel
theorem dX0_copyFrom_71 : decode cX0_copyFrom 71 = .ok (.if_icmp .ge 24, 3) := by decide +kernel
theorem dX0_copyFrom_74 : decode cX0_copyFrom 74 = .ok (.aload_n 0, 1) := by decide +kernel
theorem dX0_copyFrom_75 : decode cX0_copyFrom 75 = .ok (.getfield 38, 3) := by decide +kernel
theorem dX0_copyFrom_78 : decode cX0_copyFrom 78 = .ok (.iload_n 2, 1) := by decide +kernel
theorem dX0_copyFrom_79 : decode cX0_copyFrom 79 = .ok (.aaload, 1) := by decide +kernel
theorem dX0_copyFrom_80 : decode cX0_copyFrom 80 = .ok (.aload_n 1, 1) := by decide +kernel
theorem dX0_copyFrom_81 : decode cX0_copyFrom 81 = .ok (.getfield 38, 3) := by decide +kernel
theorem dX0_copyFrom_84 : decode cX0_copyFrom 84 = .ok (.iload_n 2, 1) := by decide +kernel
theorem dX0_copyFrom_85 : decode cX0_copyFrom 85 = .ok (.aaload, 1) := by decide +kernel
theorem dX0_copyFrom_86 : decode cX0_copyFrom 86 = .ok (.invokevirtual 43, 3) := by decide +kernel
theorem dX0_copyFrom_89 : decode cX0_copyFrom 89 = .ok (.iinc 2 1, 3) := by decide +kernel
theorem dX0_copyFrom_92 : decode cX0_copyFrom 92 = .ok (.goto (-24), 3) := by decide +kernel
theorem dX0_copyFrom_95 : decode cX0_copyFrom 95 = .ok (.return_, 1) := by decide +kernel
theorem dX0_hasPhase_0 : decode cX0_hasPhase 0 = .ok (.iload_n 1, 1) := by decide +kernel
theorem dX0_hasPhase_1 : decode cX0_hasPhase 1 = .ok (.ifCond .lt 21, 3) := by decide +kernel
theorem dX0_hasPhase_4 : decode cX0_hasPhase 4 = .ok (.iload_n 1, 1) := by decide +kernel
theorem dX0_hasPhase_5 : decode cX0_hasPhase 5 = .ok (.aload_n 0, 1) := by decide +kernel
theorem dX0_hasPhase_6 : decode cX0_hasPhase 6 = .ok (.getfield 15, 3) := by decide +kernel
theorem dX0_hasPhase_9 : decode cX0_hasPhase 9 = .ok (.if_icmp .ge 13, 3) := by decide +kernel
theorem dX0_hasPhase_12 : decode cX0_hasPhase 12 = .ok (.iload_n 1, 1) := by decide +kernel
theorem dX0_hasPhase_13 : decode cX0_hasPhase 13 = .ok (.bipush 6, 2) := by decide +kernel
theorem dX0_hasPhase_15 : decode cX0_hasPhase 15 = .ok (.if_icmp .ge 7, 3) := by decide +kernel
theorem dX0_hasPhase_18 : decode cX0_hasPhase 18 = .ok (.iconst 1, 1) := by decide +kernel
theorem dX0_hasPhase_19 : decode cX0_hasPhase 19 = .ok (.goto 4, 3) := by decide +kernel
theorem dX0_hasPhase_22 : decode cX0_hasPhase 22 = .ok (.iconst 0, 1) := by decide +kernel
theorem dX0_hasPhase_23 : decode cX0_hasPhase 23 = .ok (.ireturn, 1) := by decide +kernel
theorem dX0_appendPhase_0 : decode cX0_appendPhase 0 = .ok (.aload_n 0, 1) := by decide +kernel
theorem dX0_appendPhase_1 : decode cX0_appendPhase 1 = .ok (.getfield 15, 3) := by decide +kernel
theorem dX0_appendPhase_4 : decode cX0_appendPhase 4 = .ok (.istore_n 1, 1) := by decide +kernel
theorem dX0_appendPhase_5 : decode cX0_appendPhase 5 = .ok (.iload_n 1, 1) := by decide +kernel
theorem dX0_appendPhase_6 : decode cX0_appendPhase 6 = .ok (.bipush 6, 2) := by decide +kernel
theorem dX0_appendPhase_8 : decode cX0_appendPhase 8 = .ok (.if_icmp .ge 43, 3) := by decide +kernel
theorem dX0_appendPhase_11 : decode cX0_appendPhase 11 = .ok (.iconst 0, 1) := by decide +kernel
theorem dX0_appendPhase_12 : decode cX0_appendPhase 12 = .ok (.istore_n 2, 1) := by decide +kernel
theorem dX0_appendPhase_13 : decode cX0_appendPhase 13 = .ok (.iload_n 2, 1) := by decide +kernel
theorem dX0_appendPhase_14 : decode cX0_appendPhase 14 = .ok (.iconst 4, 1) := by decide +kernel
theorem dX0_appendPhase_15 : decode cX0_appendPhase 15 = .ok (.if_icmp .ge 26, 3) := by decide +kernel
theorem dX0_appendPhase_18 : decode cX0_appendPhase 18 = .ok (.aload_n 0, 1) := by decide +kernel
theorem dX0_appendPhase_19 : decode cX0_appendPhase 19 = .ok (.getfield 38, 3) := by decide +kernel
theorem dX0_appendPhase_22 : decode cX0_appendPhase 22 = .ok (.iload_n 1, 1) := by decide +kernel
theorem dX0_appendPhase_23 : decode cX0_appendPhase 23 = .ok (.aaload, 1) := by decide +kernel
theorem dX0_appendPhase_24 : decode cX0_appendPhase 24 = .ok (.getfield 47, 3) := by decide +kernel
theorem dX0_appendPhase_27 : decode cX0_appendPhase 27 = .ok (.iload_n 2, 1) := by decide +kernel
theorem dX0_appendPhase_28 : decode cX0_appendPhase 28 = .ok (.aload_n 0, 1) := by decide +kernel
theorem dX0_appendPhase_29 : decode cX0_appendPhase 29 = .ok (.getfield 27, 3) := by decide +kernel
theorem dX0_appendPhase_32 : decode cX0_appendPhase 32 = .ok (.iload_n 2, 1) := by decide +kernel
theorem dX0_appendPhase_33 : decode cX0_appendPhase 33 = .ok (.iaload, 1) := by decide +kernel
theorem dX0_appendPhase_34 : decode cX0_appendPhase 34 = .ok (.iastore, 1) := by decide +kernel
theorem dX0_appendPhase_35 : decode cX0_appendPhase 35 = .ok (.iinc 2 1, 3) := by decide +kernel
theorem dX0_appendPhase_38 : decode cX0_appendPhase 38 = .ok (.goto (-25), 3) := by decide +kernel
theorem dX0_appendPhase_41 : decode cX0_appendPhase 41 = .ok (.aload_n 0, 1) := by decide +kernel
theorem dX0_appendPhase_42 : decode cX0_appendPhase 42 = .ok (.dup, 1) := by decide +kernel
theorem dX0_appendPhase_43 : decode cX0_appendPhase 43 = .ok (.getfield 15, 3) := by decide +kernel
theorem dX0_appendPhase_46 : decode cX0_appendPhase 46 = .ok (.iconst 1, 1) := by decide +kernel
theorem dX0_appendPhase_47 : decode cX0_appendPhase 47 = .ok (.iadd, 1) := by decide +kernel
theorem dX0_appendPhase_48 : decode cX0_appendPhase 48 = .ok (.putfield 15, 3) := by decide +kernel
theorem dX0_appendPhase_51 : decode cX0_appendPhase 51 = .ok (.iload_n 1, 1) := by decide +kernel
theorem dX0_appendPhase_52 : decode cX0_appendPhase 52 = .ok (.ireturn, 1) := by decide +kernel
theorem dX0_changeRate_0 : decode cX0_changeRate 0 = .ok (.aload_n 0, 1) := by decide +kernel
theorem dX0_changeRate_1 : decode cX0_changeRate 1 = .ok (.getfield 27, 3) := by decide +kernel
theorem dX0_changeRate_4 : decode cX0_changeRate 4 = .ok (.iload_n 1, 1) := by decide +kernel
theorem dX0_changeRate_5 : decode cX0_changeRate 5 = .ok (.iaload, 1) := by decide +kernel
theorem dX0_changeRate_6 : decode cX0_changeRate 6 = .ok (.istore_n 3, 1) := by decide +kernel
theorem dX0_changeRate_7 : decode cX0_changeRate 7 = .ok (.aload_n 0, 1) := by decide +kernel
theorem dX0_changeRate_8 : decode cX0_changeRate 8 = .ok (.getfield 27, 3) := by decide +kernel
theorem dX0_changeRate_11 : decode cX0_changeRate 11 = .ok (.iload_n 1, 1) := by decide +kernel
theorem dX0_changeRate_12 : decode cX0_changeRate 12 = .ok (.iload_n 2, 1) := by decide +kernel
theorem dX0_changeRate_13 : decode cX0_changeRate 13 = .ok (.iastore, 1) := by decide +kernel
theorem dX0_changeRate_14 : decode cX0_changeRate 14 = .ok (.iconst 0, 1) := by decide +kernel
theorem dX0_changeRate_15 : decode cX0_changeRate 15 = .ok (.istore 4, 2) := by decide +kernel
theorem dX0_changeRate_17 : decode cX0_changeRate 17 = .ok (.iload 4, 2) := by decide +kernel
theorem dX0_changeRate_19 : decode cX0_changeRate 19 = .ok (.aload_n 0, 1) := by decide +kernel
theorem dX0_changeRate_20 : decode cX0_changeRate 20 = .ok (.getfield 15, 3) := by decide +kernel
theorem dX0_changeRate_23 : decode cX0_changeRate 23 = .ok (.if_icmp .ge 42, 3) := by decide +kernel
theorem dX0_changeRate_26 : decode cX0_changeRate 26 = .ok (.iload 4, 2) := by decide +kernel
theorem dX0_changeRate_28 : decode cX0_changeRate 28 = .ok (.bipush 6, 2) := by decide +kernel
theorem dX0_changeRate_30 : decode cX0_changeRate 30 = .ok (.if_icmp .ge 35, 3) := by decide +kernel
theorem dX0_changeRate_33 : decode cX0_changeRate 33 = .ok (.aload_n 0, 1) := by decide +kernel
theorem dX0_changeRate_34 : decode cX0_changeRate 34 = .ok (.getfield 38, 3) := by decide +kernel
theorem dX0_changeRate_37 : decode cX0_changeRate 37 = .ok (.iload 4, 2) := by decide +kernel
theorem dX0_changeRate_39 : decode cX0_changeRate 39 = .ok (.aaload, 1) := by decide +kernel
theorem dX0_changeRate_40 : decode cX0_changeRate 40 = .ok (.invokevirtual 48, 3) := by decide +kernel
theorem dX0_changeRate_43 : decode cX0_changeRate 43 = .ok (.ifCond .ne 16, 3) := by decide +kernel
theorem dX0_changeRate_46 : decode cX0_changeRate 46 = .ok (.aload_n 0, 1) := by decide +kernel
theorem dX0_changeRate_47 : decode cX0_changeRate 47 = .ok (.getfield 38, 3) := by decide +kernel
theorem dX0_changeRate_50 : decode cX0_changeRate 50 = .ok (.iload 4, 2) := by decide +kernel
theorem dX0_changeRate_52 : decode cX0_changeRate 52 = .ok (.aaload, 1) := by decide +kernel
theorem dX0_changeRate_53 : decode cX0_changeRate 53 = .ok (.getfield 47, 3) := by decide +kernel
theorem dX0_changeRate_56 : decode cX0_changeRate 56 = .ok (.iload_n 1, 1) := by decide +kernel
theorem dX0_changeRate_57 : decode cX0_changeRate 57 = .ok (.iload_n 2, 1) := by decide +kernel
theorem dX0_changeRate_58 : decode cX0_changeRate 58 = .ok (.iastore, 1) := by decide +kernel
theorem dX0_changeRate_59 : decode cX0_changeRate 59 = .ok (.iinc 4 1, 3) := by decide +kernel
theorem dX0_changeRate_62 : decode cX0_changeRate 62 = .ok (.goto (-45), 3) := by decide +kernel
theorem dX0_changeRate_65 : decode cX0_changeRate 65 = .ok (.iload_n 3, 1) := by decide +kernel
theorem dX0_changeRate_66 : decode cX0_changeRate 66 = .ok (.ireturn, 1) := by decide +kernel
theorem dX0_beginPhase_0 : decode cX0_beginPhase 0 = .ok (.aload_n 0, 1) := by decide +kernel
theorem dX0_beginPhase_1 : decode cX0_beginPhase 1 = .ok (.getfield 38, 3) := by decide +kernel
theorem dX0_beginPhase_4 : decode cX0_beginPhase 4 = .ok (.iload_n 1, 1) := by decide +kernel
theorem dX0_beginPhase_5 : decode cX0_beginPhase 5 = .ok (.aaload, 1) := by decide +kernel
theorem dX0_beginPhase_6 : decode cX0_beginPhase 6 = .ok (.aload_n 0, 1) := by decide +kernel
theorem dX0_beginPhase_7 : decode cX0_beginPhase 7 = .ok (.getfield 9, 3) := by decide +kernel
theorem dX0_beginPhase_10 : decode cX0_beginPhase 10 = .ok (.aload_n 0, 1) := by decide +kernel
theorem dX0_beginPhase_11 : decode cX0_beginPhase 11 = .ok (.getfield 33, 3) := by decide +kernel
theorem dX0_beginPhase_14 : decode cX0_beginPhase 14 = .ok (.iconst 0, 1) := by decide +kernel
theorem dX0_beginPhase_15 : decode cX0_beginPhase 15 = .ok (.iaload, 1) := by decide +kernel
theorem dX0_beginPhase_16 : decode cX0_beginPhase 16 = .ok (.invokevirtual 52, 3) := by decide +kernel
theorem dX0_beginPhase_19 : decode cX0_beginPhase 19 = .ok (.ireturn, 1) := by decide +kernel
theorem dX0_hasDaysLeft_0 : decode cX0_hasDaysLeft 0 = .ok (.iload_n 1, 1) := by decide +kernel
theorem dX0_hasDaysLeft_1 : decode cX0_hasDaysLeft 1 = .ok (.sipush 9999, 3) := by decide +kernel
theorem dX0_hasDaysLeft_4 : decode cX0_hasDaysLeft 4 = .ok (.aload_n 0, 1) := by decide +kernel
theorem dX0_hasDaysLeft_5 : decode cX0_hasDaysLeft 5 = .ok (.getfield 9, 3) := by decide +kernel
theorem dX0_hasDaysLeft_8 : decode cX0_hasDaysLeft 8 = .ok (.isub, 1) := by decide +kernel
theorem dX0_hasDaysLeft_9 : decode cX0_hasDaysLeft 9 = .ok (.if_icmp .gt 7, 3) := by decide +kernel
theorem dX0_hasDaysLeft_12 : decode cX0_hasDaysLeft 12 = .ok (.iconst 1, 1) := by decide +kernel
theorem dX0_hasDaysLeft_13 : decode cX0_hasDaysLeft 13 = .ok (.goto 4, 3) := by decide +kernel
theorem dX0_hasDaysLeft_16 : decode cX0_hasDaysLeft 16 = .ok (.iconst 0, 1) := by decide +kernel
theorem dX0_hasDaysLeft_17 : decode cX0_hasDaysLeft 17 = .ok (.ireturn, 1) := by decide +kernel
theorem dX0_letDaysPass_0 : decode cX0_letDaysPass 0 = .ok (.iconst 0, 1) := by decide +kernel
theorem dX0_letDaysPass_1 : decode cX0_letDaysPass 1 = .ok (.istore_n 2, 1) := by decide +kernel
theorem dX0_letDaysPass_2 : decode cX0_letDaysPass 2 = .ok (.iconst 0, 1) := by decide +kernel
theorem dX0_letDaysPass_3 : decode cX0_letDaysPass 3 = .ok (.istore_n 3, 1) := by decide +kernel
theorem dX0_letDaysPass_4 : decode cX0_letDaysPass 4 = .ok (.iload_n 3, 1) := by decide +kernel
theorem dX0_letDaysPass_5 : decode cX0_letDaysPass 5 = .ok (.aload_n 0, 1) := by decide +kernel
theorem dX0_letDaysPass_6 : decode cX0_letDaysPass 6 = .ok (.getfield 15, 3) := by decide +kernel
theorem dX0_letDaysPass_9 : decode cX0_letDaysPass 9 = .ok (.if_icmp .ge 58, 3) := by decide +kernel
theorem dX0_letDaysPass_12 : decode cX0_letDaysPass 12 = .ok (.iload_n 3, 1) := by decide +kernel
theorem dX0_letDaysPass_13 : decode cX0_letDaysPass 13 = .ok (.bipush 6, 2) := by decide +kernel
theorem dX0_letDaysPass_15 : decode cX0_letDaysPass 15 = .ok (.if_icmp .ge 52, 3) := by decide +kernel
theorem dX0_letDaysPass_18 : decode cX0_letDaysPass 18 = .ok (.aload_n 0, 1) := by decide +kernel
theorem dX0_letDaysPass_19 : decode cX0_letDaysPass 19 = .ok (.iload_n 3, 1) := by decide +kernel
theorem dX0_letDaysPass_20 : decode cX0_letDaysPass 20 = .ok (.iload_n 1, 1) := by decide +kernel
theorem dX0_letDaysPass_21 : decode cX0_letDaysPass 21 = .ok (.invokevirtual 56, 3) := by decide +kernel
theorem dX0_letDaysPass_24 : decode cX0_letDaysPass 24 = .ok (.ifCond .eq 37, 3) := by decide +kernel
theorem dX0_letDaysPass_27 : decode cX0_letDaysPass 27 = .ok (.aload_n 0, 1) := by decide +kernel
theorem dX0_letDaysPass_28 : decode cX0_letDaysPass 28 = .ok (.iload_n 3, 1) := by decide +kernel
theorem dX0_letDaysPass_29 : decode cX0_letDaysPass 29 = .ok (.iload_n 1, 1) := by decide +kernel
theorem dX0_letDaysPass_30 : decode cX0_letDaysPass 30 = .ok (.invokevirtual 60, 3) := by decide +kernel
theorem dX0_letDaysPass_33 : decode cX0_letDaysPass 33 = .ok (.istore 4, 2) := by decide +kernel
theorem dX0_letDaysPass_35 : decode cX0_letDaysPass 35 = .ok (.aload_n 0, 1) := by decide +kernel
theorem dX0_letDaysPass_36 : decode cX0_letDaysPass 36 = .ok (.getfield 38, 3) := by decide +kernel
theorem dX0_letDaysPass_39 : decode cX0_letDaysPass 39 = .ok (.iload_n 3, 1) := by decide +kernel
theorem dX0_letDaysPass_40 : decode cX0_letDaysPass 40 = .ok (.aaload, 1) := by decide +kernel
theorem dX0_letDaysPass_41 : decode cX0_letDaysPass 41 = .ok (.iconst 1, 1) := by decide +kernel
theorem dX0_letDaysPass_42 : decode cX0_letDaysPass 42 = .ok (.putfield 63, 3) := by decide +kernel
theorem dX0_letDaysPass_45 : decode cX0_letDaysPass 45 = .ok (.aload_n 0, 1) := by decide +kernel
theorem dX0_letDaysPass_46 : decode cX0_letDaysPass 46 = .ok (.getfield 38, 3) := by decide +kernel
theorem dX0_letDaysPass_49 : decode cX0_letDaysPass 49 = .ok (.iload_n 3, 1) := by decide +kernel
theorem dX0_letDaysPass_50 : decode cX0_letDaysPass 50 = .ok (.aaload, 1) := by decide +kernel
theorem dX0_letDaysPass_51 : decode cX0_letDaysPass 51 = .ok (.iload 4, 2) := by decide +kernel
theorem dX0_letDaysPass_53 : decode cX0_letDaysPass 53 = .ok (.putfield 67, 3) := by decide +kernel
theorem dX0_letDaysPass_56 : decode cX0_letDaysPass 56 = .ok (.iload_n 2, 1) := by decide +kernel
theorem dX0_letDaysPass_57 : decode cX0_letDaysPass 57 = .ok (.iload 4, 2) := by decide +kernel
theorem dX0_letDaysPass_59 : decode cX0_letDaysPass 59 = .ok (.iadd, 1) := by decide +kernel
theorem dX0_letDaysPass_60 : decode cX0_letDaysPass 60 = .ok (.istore_n 2, 1) := by decide +kernel
theorem dX0_letDaysPass_61 : decode cX0_letDaysPass 61 = .ok (.iinc 3 1, 3) := by decide +kernel
theorem dX0_letDaysPass_64 : decode cX0_letDaysPass 64 = .ok (.goto (-60), 3) := by decide +kernel
theorem dX0_letDaysPass_67 : decode cX0_letDaysPass 67 = .ok (.aload_n 0, 1) := by decide +kernel
theorem dX0_letDaysPass_68 : decode cX0_letDaysPass 68 = .ok (.dup, 1) := by decide +kernel
theorem dX0_letDaysPass_69 : decode cX0_letDaysPass 69 = .ok (.getfield 9, 3) := by decide +kernel
theorem dX0_letDaysPass_72 : decode cX0_letDaysPass 72 = .ok (.iload_n 1, 1) := by decide +kernel
theorem dX0_letDaysPass_73 : decode cX0_letDaysPass 73 = .ok (.iadd, 1) := by decide +kernel
theorem dX0_letDaysPass_74 : decode cX0_letDaysPass 74 = .ok (.putfield 9, 3) := by decide +kernel
theorem dX0_letDaysPass_77 : decode cX0_letDaysPass 77 = .ok (.iload_n 2, 1) := by decide +kernel
theorem dX0_letDaysPass_78 : decode cX0_letDaysPass 78 = .ok (.ireturn, 1) := by decide +kernel
theorem dX0_daysToBreak_0 : decode cX0_daysToBreak 0 = .ok (.aload_n 0, 1) := by decide +kernel
theorem dX0_daysToBreak_1 : decode cX0_daysToBreak 1 = .ok (.getfield 38, 3) := by decide +kernel
theorem dX0_daysToBreak_4 : decode cX0_daysToBreak 4 = .ok (.iload_n 1, 1) := by decide +kernel
theorem dX0_daysToBreak_5 : decode cX0_daysToBreak 5 = .ok (.aaload, 1) := by decide +kernel
theorem dX0_daysToBreak_6 : decode cX0_daysToBreak 6 = .ok (.invokevirtual 70, 3) := by decide +kernel
theorem dX0_daysToBreak_9 : decode cX0_daysToBreak 9 = .ok (.istore_n 2, 1) := by decide +kernel
theorem dX0_daysToBreak_10 : decode cX0_daysToBreak 10 = .ok (.iload_n 2, 1) := by decide +kernel
theorem dX0_daysToBreak_11 : decode cX0_daysToBreak 11 = .ok (.iconst (-1), 1) := by decide +kernel
theorem dX0_daysToBreak_12 : decode cX0_daysToBreak 12 = .ok (.if_icmp .ne 7, 3) := by decide +kernel
theorem dX0_daysToBreak_15 : decode cX0_daysToBreak 15 = .ok (.iconst (-1), 1) := by decide +kernel
theorem dX0_daysToBreak_16 : decode cX0_daysToBreak 16 = .ok (.goto 9, 3) := by decide +kernel
theorem dX0_daysToBreak_19 : decode cX0_daysToBreak 19 = .ok (.iload_n 2, 1) := by decide +kernel
theorem dX0_daysToBreak_20 : decode cX0_daysToBreak 20 = .ok (.aload_n 0, 1) := by decide +kernel
theorem dX0_daysToBreak_21 : decode cX0_daysToBreak 21 = .ok (.getfield 9, 3) := by decide +kernel
theorem dX0_daysToBreak_24 : decode cX0_daysToBreak 24 = .ok (.isub, 1) := by decide +kernel
theorem dX0_daysToBreak_25 : decode cX0_daysToBreak 25 = .ok (.ireturn, 1) := by decide +kernel
theorem dX0_breaksWithin_0 : decode cX0_breaksWithin 0 = .ok (.aload_n 0, 1) := by decide +kernel
theorem dX0_breaksWithin_1 : decode cX0_breaksWithin 1 = .ok (.getfield 38, 3) := by decide +kernel
theorem dX0_breaksWithin_4 : decode cX0_breaksWithin 4 = .ok (.iload_n 1, 1) := by decide +kernel
theorem dX0_breaksWithin_5 : decode cX0_breaksWithin 5 = .ok (.aaload, 1) := by decide +kernel
theorem dX0_breaksWithin_6 : decode cX0_breaksWithin 6 = .ok (.invokevirtual 70, 3) := by decide +kernel
theorem dX0_breaksWithin_9 : decode cX0_breaksWithin 9 = .ok (.istore_n 3, 1) := by decide +kernel
theorem dX0_breaksWithin_10 : decode cX0_breaksWithin 10 = .ok (.iload_n 3, 1) := by decide +kernel
theorem dX0_breaksWithin_11 : decode cX0_breaksWithin 11 = .ok (.iconst (-1), 1) := by decide +kernel
theorem dX0_breaksWithin_12 : decode cX0_breaksWithin 12 = .ok (.if_icmp .eq 17, 3) := by decide +kernel
theorem dX0_breaksWithin_15 : decode cX0_breaksWithin 15 = .ok (.iload_n 3, 1) := by decide +kernel
theorem dX0_breaksWithin_16 : decode cX0_breaksWithin 16 = .ok (.aload_n 0, 1) := by decide +kernel
theorem dX0_breaksWithin_17 : decode cX0_breaksWithin 17 = .ok (.getfield 9, 3) := by decide +kernel
theorem dX0_breaksWithin_20 : decode cX0_breaksWithin 20 = .ok (.isub, 1) := by decide +kernel
theorem dX0_breaksWithin_21 : decode cX0_breaksWithin 21 = .ok (.iload_n 2, 1) := by decide +kernel
theorem dX0_breaksWithin_22 : decode cX0_breaksWithin 22 = .ok (.if_icmp .gt 7, 3) := by decide +kernel
theorem dX0_breaksWithin_25 : decode cX0_breaksWithin 25 = .ok (.iconst 1, 1) := by decide +kernel
theorem dX0_breaksWithin_26 : decode cX0_breaksWithin 26 = .ok (.goto 4, 3) := by decide +kernel
theorem dX0_breaksWithin_29 : decode cX0_breaksWithin 29 = .ok (.iconst 0, 1) := by decide +kernel
theorem dX0_breaksWithin_30 : decode cX0_breaksWithin 30 = .ok (.ireturn, 1) := by decide +kernel
theorem dX0_surchargeWithin_0 : decode cX0_surchargeWithin 0 = .ok (.aload_n 0, 1) := by decide +kernel
theorem dX0_surchargeWithin_1 : decode cX0_surchargeWithin 1 = .ok (.iload_n 1, 1) := by decide +kernel
theorem dX0_surchargeWithin_2 : decode cX0_surchargeWithin 2 = .ok (.iload_n 2, 1) := by decide +kernel
theorem dX0_surchargeWithin_3 : decode cX0_surchargeWithin 3 = .ok (.invokevirtual 56, 3) := by decide +kernel
theorem dX0_surchargeWithin_6 : decode cX0_surchargeWithin 6 = .ok (.ifCond .eq 24, 3) := by decide +kernel
theorem dX0_surchargeWithin_9 : decode cX0_surchargeWithin 9 = .ok (.aload_n 0, 1) := by decide +kernel
theorem dX0_surchargeWithin_10 : decode cX0_surchargeWithin 10 = .ok (.getfield 33, 3) := by decide +kernel
theorem dX0_surchargeWithin_13 : decode cX0_surchargeWithin 13 = .ok (.iconst 1, 1) := by decide +kernel
theorem dX0_surchargeWithin_14 : decode cX0_surchargeWithin 14 = .ok (.iaload, 1) := by decide +kernel
theorem dX0_surchargeWithin_15 : decode cX0_surchargeWithin 15 = .ok (.aload_n 0, 1) := by decide +kernel
theorem dX0_surchargeWithin_16 : decode cX0_surchargeWithin 16 = .ok (.getfield 38, 3) := by decide +kernel
theorem dX0_surchargeWithin_19 : decode cX0_surchargeWithin 19 = .ok (.iload_n 1, 1) := by decide +kernel
theorem dX0_surchargeWithin_20 : decode cX0_surchargeWithin 20 = .ok (.aaload, 1) := by decide +kernel
theorem dX0_surchargeWithin_21 : decode cX0_surchargeWithin 21 = .ok (.invokevirtual 74, 3) := by decide +kernel
theorem dX0_surchargeWithin_24 : decode cX0_surchargeWithin 24 = .ok (.invokestatic 77, 3) := by decide +kernel
theorem dX0_surchargeWithin_27 : decode cX0_surchargeWithin 27 = .ok (.goto 4, 3) := by decide +kernel
theorem dX0_surchargeWithin_30 : decode cX0_surchargeWithin 30 = .ok (.iconst 0, 1) := by decide +kernel
theorem dX0_surchargeWithin_31 : decode cX0_surchargeWithin 31 = .ok (.ireturn, 1) := by decide +kernel
theorem dX0_allows_0 : decode cX0_allows 0 = .ok (.aload_n 0, 1) := by decide +kernel
theorem dX0_allows_1 : decode cX0_allows 1 = .ok (.iload_n 2, 1) := by decide +kernel
theorem dX0_allows_2 : decode cX0_allows 2 = .ok (.invokevirtual 80, 3) := by decide +kernel
theorem dX0_allows_5 : decode cX0_allows 5 = .ok (.ifCond .eq 17, 3) := by decide +kernel
theorem dX0_allows_8 : decode cX0_allows 8 = .ok (.aload_n 0, 1) := by decide +kernel
theorem dX0_allows_9 : decode cX0_allows 9 = .ok (.iload_n 1, 1) := by decide +kernel
theorem dX0_allows_10 : decode cX0_allows 10 = .ok (.iload_n 2, 1) := by decide +kernel
theorem dX0_allows_11 : decode cX0_allows 11 = .ok (.iconst 0, 1) := by decide +kernel
theorem dX0_allows_12 : decode cX0_allows 12 = .ok (.invokevirtual 84, 3) := by decide +kernel
theorem dX0_allows_15 : decode cX0_allows 15 = .ok (.ifCond .ne 7, 3) := by decide +kernel
theorem dX0_allows_18 : decode cX0_allows 18 = .ok (.iconst 1, 1) := by decide +kernel
theorem dX0_allows_19 : decode cX0_allows 19 = .ok (.goto 4, 3) := by decide +kernel
theorem dX0_allows_22 : decode cX0_allows 22 = .ok (.iconst 0, 1) := by decide +kernel
theorem dX0_allows_23 : decode cX0_allows 23 = .ok (.ireturn, 1) := by decide +kernel
theorem dX0_reasonAgainst_0 : decode cX0_reasonAgainst 0 = .ok (.aload_n 0, 1) := by decide +kernel
theorem dX0_reasonAgainst_1 : decode cX0_reasonAgainst 1 = .ok (.getfield 38, 3) := by decide +kernel
theorem dX0_reasonAgainst_4 : decode cX0_reasonAgainst 4 = .ok (.iload_n 2, 1) := by decide +kernel
theorem dX0_reasonAgainst_5 : decode cX0_reasonAgainst 5 = .ok (.aaload, 1) := by decide +kernel
theorem dX0_reasonAgainst_6 : decode cX0_reasonAgainst 6 = .ok (.astore 4, 2) := by decide +kernel
theorem dX0_reasonAgainst_8 : decode cX0_reasonAgainst 8 = .ok (.iload_n 1, 1) := by decide +kernel
theorem dX0_reasonAgainst_9 : decode cX0_reasonAgainst 9 = .ok (.ifCond .eq 8, 3) := by decide +kernel
theorem dX0_reasonAgainst_12 : decode cX0_reasonAgainst 12 = .ok (.iload_n 1, 1) := by decide +kernel
theorem dX0_reasonAgainst_13 : decode cX0_reasonAgainst 13 = .ok (.iconst 1, 1) := by decide +kernel
theorem dX0_reasonAgainst_14 : decode cX0_reasonAgainst 14 = .ok (.if_icmp .ne 7, 3) := by decide +kernel
theorem dX0_reasonAgainst_17 : decode cX0_reasonAgainst 17 = .ok (.iconst 1, 1) := by decide +kernel
theorem dX0_reasonAgainst_18 : decode cX0_reasonAgainst 18 = .ok (.goto 4, 3) := by decide +kernel
theorem dX0_reasonAgainst_21 : decode cX0_reasonAgainst 21 = .ok (.iconst 0, 1) := by decide +kernel
theorem dX0_reasonAgainst_22 : decode cX0_reasonAgainst 22 = .ok (.istore 5, 2) := by decide +kernel
theorem dX0_reasonAgainst_24 : decode cX0_reasonAgainst 24 = .ok (.iload 5, 2) := by decide +kernel
theorem dX0_reasonAgainst_26 : decode cX0_reasonAgainst 26 = .ok (.ifCond .eq 13, 3) := by decide +kernel
theorem dX0_reasonAgainst_29 : decode cX0_reasonAgainst 29 = .ok (.aload 4, 2) := by decide +kernel
theorem dX0_reasonAgainst_31 : decode cX0_reasonAgainst 31 = .ok (.invokevirtual 48, 3) := by decide +kernel
theorem dX0_reasonAgainst_34 : decode cX0_reasonAgainst 34 = .ok (.ifCond .eq 5, 3) := by decide +kernel
theorem dX0_reasonAgainst_37 : decode cX0_reasonAgainst 37 = .ok (.iconst 1, 1) := by decide +kernel
theorem dX0_reasonAgainst_38 : decode cX0_reasonAgainst 38 = .ok (.ireturn, 1) := by decide +kernel
theorem dX0_reasonAgainst_39 : decode cX0_reasonAgainst 39 = .ok (.iload 5, 2) := by decide +kernel
theorem dX0_reasonAgainst_41 : decode cX0_reasonAgainst 41 = .ok (.ifCond .ne 13, 3) := by decide +kernel
theorem dX0_reasonAgainst_44 : decode cX0_reasonAgainst 44 = .ok (.aload 4, 2) := by decide +kernel
theorem dX0_reasonAgainst_46 : decode cX0_reasonAgainst 46 = .ok (.invokevirtual 48, 3) := by decide +kernel
theorem dX0_reasonAgainst_49 : decode cX0_reasonAgainst 49 = .ok (.ifCond .ne 5, 3) := by decide +kernel
theorem dX0_reasonAgainst_52 : decode cX0_reasonAgainst 52 = .ok (.iconst 2, 1) := by decide +kernel
theorem dX0_reasonAgainst_53 : decode cX0_reasonAgainst 53 = .ok (.ireturn, 1) := by decide +kernel
theorem dX0_reasonAgainst_54 : decode cX0_reasonAgainst 54 = .ok (.iload_n 1, 1) := by decide +kernel
theorem dX0_reasonAgainst_55 : decode cX0_reasonAgainst 55 = .ok (.iconst 1, 1) := by decide +kernel
theorem dX0_reasonAgainst_56 : decode cX0_reasonAgainst 56 = .ok (.if_icmp .ne 13, 3) := by decide +kernel
theorem dX0_reasonAgainst_59 : decode cX0_reasonAgainst 59 = .ok (.aload 4, 2) := by decide +kernel
theorem dX0_reasonAgainst_61 : decode cX0_reasonAgainst 61 = .ok (.invokevirtual 88, 3) := by decide +kernel
theorem dX0_reasonAgainst_64 : decode cX0_reasonAgainst 64 = .ok (.ifCond .ne 5, 3) := by decide +kernel
theorem dX0_reasonAgainst_67 : decode cX0_reasonAgainst 67 = .ok (.iconst 3, 1) := by decide +kernel
theorem dX0_reasonAgainst_68 : decode cX0_reasonAgainst 68 = .ok (.ireturn, 1) := by decide +kernel
theorem dX0_reasonAgainst_69 : decode cX0_reasonAgainst 69 = .ok (.iload_n 1, 1) := by decide +kernel
theorem dX0_reasonAgainst_70 : decode cX0_reasonAgainst 70 = .ok (.iconst 2, 1) := by decide +kernel
theorem dX0_reasonAgainst_71 : decode cX0_reasonAgainst 71 = .ok (.if_icmp .eq 8, 3) := by decide +kernel
theorem dX0_reasonAgainst_74 : decode cX0_reasonAgainst 74 = .ok (.iload_n 1, 1) := by decide +kernel
theorem dX0_reasonAgainst_75 : decode cX0_reasonAgainst 75 = .ok (.iconst 3, 1) := by decide +kernel
theorem dX0_reasonAgainst_76 : decode cX0_reasonAgainst 76 = .ok (.if_icmp .ne 13, 3) := by decide +kernel
theorem dX0_reasonAgainst_79 : decode cX0_reasonAgainst 79 = .ok (.aload 4, 2) := by decide +kernel
theorem dX0_reasonAgainst_81 : decode cX0_reasonAgainst 81 = .ok (.invokevirtual 74, 3) := by decide +kernel
theorem dX0_reasonAgainst_84 : decode cX0_reasonAgainst 84 = .ok (.ifCond .ne 5, 3) := by decide +kernel
theorem dX0_reasonAgainst_87 : decode cX0_reasonAgainst 87 = .ok (.iconst 4, 1) := by decide +kernel
theorem dX0_reasonAgainst_88 : decode cX0_reasonAgainst 88 = .ok (.ireturn, 1) := by decide +kernel
theorem dX0_reasonAgainst_89 : decode cX0_reasonAgainst 89 = .ok (.iload_n 1, 1) := by decide +kernel
theorem dX0_reasonAgainst_90 : decode cX0_reasonAgainst 90 = .ok (.iconst 3, 1) := by decide +kernel
theorem dX0_reasonAgainst_91 : decode cX0_reasonAgainst 91 = .ok (.if_icmp .ne 19, 3) := by decide +kernel
theorem dX0_reasonAgainst_94 : decode cX0_reasonAgainst 94 = .ok (.aload 4, 2) := by decide +kernel
theorem dX0_reasonAgainst_96 : decode cX0_reasonAgainst 96 = .ok (.aload_n 0, 1) := by decide +kernel
theorem dX0_reasonAgainst_97 : decode cX0_reasonAgainst 97 = .ok (.getfield 33, 3) := by decide +kernel
theorem dX0_reasonAgainst_100 : decode cX0_reasonAgainst 100 = .ok (.iconst 3, 1) := by decide +kernel
theorem dX0_reasonAgainst_101 : decode cX0_reasonAgainst 101 = .ok (.iaload, 1) := by decide +kernel
theorem dX0_reasonAgainst_102 : decode cX0_reasonAgainst 102 = .ok (.invokevirtual 91, 3) := by decide +kernel
theorem dX0_reasonAgainst_105 : decode cX0_reasonAgainst 105 = .ok (.ifCond .ne 5, 3) := by decide +kernel
theorem dX0_reasonAgainst_108 : decode cX0_reasonAgainst 108 = .ok (.iconst 5, 1) := by decide +kernel
theorem dX0_reasonAgainst_109 : decode cX0_reasonAgainst 109 = .ok (.ireturn, 1) := by decide +kernel
theorem dX0_reasonAgainst_110 : decode cX0_reasonAgainst 110 = .ok (.aload_n 0, 1) := by decide +kernel
theorem dX0_reasonAgainst_111 : decode cX0_reasonAgainst 111 = .ok (.getfield 9, 3) := by decide +kernel
theorem dX0_reasonAgainst_114 : decode cX0_reasonAgainst 114 = .ok (.aload 4, 2) := by decide +kernel
theorem dX0_reasonAgainst_116 : decode cX0_reasonAgainst 116 = .ok (.getfield 95, 3) := by decide +kernel
theorem dX0_reasonAgainst_119 : decode cX0_reasonAgainst 119 = .ok (.aload_n 0, 1) := by decide +kernel
theorem dX0_reasonAgainst_120 : decode cX0_reasonAgainst 120 = .ok (.getfield 33, 3) := by decide +kernel
theorem dX0_reasonAgainst_123 : decode cX0_reasonAgainst 123 = .ok (.iconst 2, 1) := by decide +kernel
theorem dX0_reasonAgainst_124 : decode cX0_reasonAgainst 124 = .ok (.iaload, 1) := by decide +kernel
theorem dX0_reasonAgainst_125 : decode cX0_reasonAgainst 125 = .ok (.iadd, 1) := by decide +kernel
theorem dX0_reasonAgainst_126 : decode cX0_reasonAgainst 126 = .ok (.if_icmp .le 7, 3) := by decide +kernel
theorem dX0_reasonAgainst_129 : decode cX0_reasonAgainst 129 = .ok (.iconst 1, 1) := by decide +kernel
theorem dX0_reasonAgainst_130 : decode cX0_reasonAgainst 130 = .ok (.goto 4, 3) := by decide +kernel
theorem dX0_reasonAgainst_133 : decode cX0_reasonAgainst 133 = .ok (.iconst 0, 1) := by decide +kernel
theorem dX0_reasonAgainst_134 : decode cX0_reasonAgainst 134 = .ok (.istore 6, 2) := by decide +kernel
theorem dX0_reasonAgainst_136 : decode cX0_reasonAgainst 136 = .ok (.iload_n 1, 1) := by decide +kernel
theorem dX0_reasonAgainst_137 : decode cX0_reasonAgainst 137 = .ok (.iconst 4, 1) := by decide +kernel
theorem dX0_reasonAgainst_138 : decode cX0_reasonAgainst 138 = .ok (.if_icmp .ne 22, 3) := by decide +kernel
theorem dX0_reasonAgainst_141 : decode cX0_reasonAgainst 141 = .ok (.iload 6, 2) := by decide +kernel
theorem dX0_reasonAgainst_143 : decode cX0_reasonAgainst 143 = .ok (.ifCond .ne 12, 3) := by decide +kernel
theorem dX0_reasonAgainst_146 : decode cX0_reasonAgainst 146 = .ok (.aload 4, 2) := by decide +kernel
theorem dX0_reasonAgainst_148 : decode cX0_reasonAgainst 148 = .ok (.iload_n 3, 1) := by decide +kernel
theorem dX0_reasonAgainst_149 : decode cX0_reasonAgainst 149 = .ok (.invokevirtual 98, 3) := by decide +kernel
theorem dX0_reasonAgainst_152 : decode cX0_reasonAgainst 152 = .ok (.ifCond .ne 8, 3) := by decide +kernel
theorem dX0_reasonAgainst_155 : decode cX0_reasonAgainst 155 = .ok (.bipush 6, 2) := by decide +kernel
theorem dX0_reasonAgainst_157 : decode cX0_reasonAgainst 157 = .ok (.goto 4, 3) := by decide +kernel
theorem dX0_reasonAgainst_160 : decode cX0_reasonAgainst 160 = .ok (.iconst 0, 1) := by decide +kernel
theorem dX0_reasonAgainst_161 : decode cX0_reasonAgainst 161 = .ok (.ireturn, 1) := by decide +kernel
theorem dX0_sumOverBegunPhases_0 : decode cX0_sumOverBegunPhases 0 = .ok (.iconst 0, 1) := by decide +kernel
theorem dX0_sumOverBegunPhases_1 : decode cX0_sumOverBegunPhases 1 = .ok (.istore_n 2, 1) := by decide +kernel
theorem dX0_sumOverBegunPhases_2 : decode cX0_sumOverBegunPhases 2 = .ok (.iconst 0, 1) := by decide +kernel
theorem dX0_sumOverBegunPhases_3 : decode cX0_sumOverBegunPhases 3 = .ok (.istore_n 3, 1) := by decide +kernel
theorem dX0_sumOverBegunPhases_4 : decode cX0_sumOverBegunPhases 4 = .ok (.iload_n 3, 1) := by decide +kernel
theorem dX0_sumOverBegunPhases_5 : decode cX0_sumOverBegunPhases 5 = .ok (.aload_n 0, 1) := by decide +kernel
theorem dX0_sumOverBegunPhases_6 : decode cX0_sumOverBegunPhases 6 = .ok (.getfield 15, 3) := by decide +kernel
theorem dX0_sumOverBegunPhases_9 : decode cX0_sumOverBegunPhases 9 = .ok (.if_icmp .ge 41, 3) := by decide +kernel
theorem dX0_sumOverBegunPhases_12 : decode cX0_sumOverBegunPhases 12 = .ok (.iload_n 3, 1) := by decide +kernel
theorem dX0_sumOverBegunPhases_13 : decode cX0_sumOverBegunPhases 13 = .ok (.bipush 6, 2) := by decide +kernel
theorem dX0_sumOverBegunPhases_15 : decode cX0_sumOverBegunPhases 15 = .ok (.if_icmp .ge 35, 3) := by decide +kernel
theorem dX0_sumOverBegunPhases_18 : decode cX0_sumOverBegunPhases 18 = .ok (.aload_n 0, 1) := by decide +kernel
theorem dX0_sumOverBegunPhases_19 : decode cX0_sumOverBegunPhases 19 = .ok (.getfield 38, 3) := by decide +kernel
theorem dX0_sumOverBegunPhases_22 : decode cX0_sumOverBegunPhases 22 = .ok (.iload_n 3, 1) := by decide +kernel
theorem dX0_sumOverBegunPhases_23 : decode cX0_sumOverBegunPhases 23 = .ok (.aaload, 1) := by decide +kernel
theorem dX0_sumOverBegunPhases_24 : decode cX0_sumOverBegunPhases 24 = .ok (.invokevirtual 48, 3) := by decide +kernel
theorem dX0_sumOverBegunPhases_27 : decode cX0_sumOverBegunPhases 27 = .ok (.ifCond .eq 17, 3) := by decide +kernel
theorem dX0_sumOverBegunPhases_30 : decode cX0_sumOverBegunPhases 30 = .ok (.iload_n 2, 1) := by decide +kernel
theorem dX0_sumOverBegunPhases_31 : decode cX0_sumOverBegunPhases 31 = .ok (.aload_n 0, 1) := by decide +kernel
theorem dX0_sumOverBegunPhases_32 : decode cX0_sumOverBegunPhases 32 = .ok (.aload_n 0, 1) := by decide +kernel
theorem dX0_sumOverBegunPhases_33 : decode cX0_sumOverBegunPhases 33 = .ok (.getfield 38, 3) := by decide +kernel
theorem dX0_sumOverBegunPhases_36 : decode cX0_sumOverBegunPhases 36 = .ok (.iload_n 3, 1) := by decide +kernel
theorem dX0_sumOverBegunPhases_37 : decode cX0_sumOverBegunPhases 37 = .ok (.aaload, 1) := by decide +kernel
theorem dX0_sumOverBegunPhases_38 : decode cX0_sumOverBegunPhases 38 = .ok (.iload_n 1, 1) := by decide +kernel
theorem dX0_sumOverBegunPhases_39 : decode cX0_sumOverBegunPhases 39 = .ok (.invokevirtual 101, 3) := by decide +kernel
theorem dX0_sumOverBegunPhases_42 : decode cX0_sumOverBegunPhases 42 = .ok (.iadd, 1) := by decide +kernel
theorem dX0_sumOverBegunPhases_43 : decode cX0_sumOverBegunPhases 43 = .ok (.istore_n 2, 1) := by decide +kernel
theorem dX0_sumOverBegunPhases_44 : decode cX0_sumOverBegunPhases 44 = .ok (.iinc 3 1, 3) := by decide +kernel
theorem dX0_sumOverBegunPhases_47 : decode cX0_sumOverBegunPhases 47 = .ok (.goto (-43), 3) := by decide +kernel
theorem dX0_sumOverBegunPhases_50 : decode cX0_sumOverBegunPhases 50 = .ok (.iload_n 2, 1) := by decide +kernel
theorem dX0_sumOverBegunPhases_51 : decode cX0_sumOverBegunPhases 51 = .ok (.ireturn, 1) := by decide +kernel
theorem dX0_numberOf_0 : decode cX0_numberOf 0 = .ok (.iload_n 2, 1) := by decide +kernel
theorem dX0_numberOf_1 : decode cX0_numberOf 1 = .ok (.tableswitch 96 1 9 #[51, 53, 96, 66, 71, 76, 81, 86, 91], 51) := by decide +kernel
theorem dX0_numberOf_52 : decode cX0_numberOf 52 = .ok (.iconst 1, 1) := by decide +kernel
theorem dX0_numberOf_53 : decode cX0_numberOf 53 = .ok (.ireturn, 1) := by decide +kernel
theorem dX0_numberOf_54 : decode cX0_numberOf 54 = .ok (.aload_n 1, 1) := by decide +kernel
theorem dX0_numberOf_55 : decode cX0_numberOf 55 = .ok (.getfield 63, 3) := by decide +kernel
theorem dX0_numberOf_58 : decode cX0_numberOf 58 = .ok (.ifCond .eq 7, 3) := by decide +kernel
theorem dX0_numberOf_61 : decode cX0_numberOf 61 = .ok (.iconst 1, 1) := by decide +kernel
theorem dX0_numberOf_62 : decode cX0_numberOf 62 = .ok (.goto 4, 3) := by decide +kernel
theorem dX0_numberOf_65 : decode cX0_numberOf 65 = .ok (.iconst 0, 1) := by decide +kernel
theorem dX0_numberOf_66 : decode cX0_numberOf 66 = .ok (.ireturn, 1) := by decide +kernel
theorem dX0_numberOf_67 : decode cX0_numberOf 67 = .ok (.aload_n 1, 1) := by decide +kernel
theorem dX0_numberOf_68 : decode cX0_numberOf 68 = .ok (.invokevirtual 105, 3) := by decide +kernel
theorem dX0_numberOf_71 : decode cX0_numberOf 71 = .ok (.ireturn, 1) := by decide +kernel
theorem dX0_numberOf_72 : decode cX0_numberOf 72 = .ok (.aload_n 1, 1) := by decide +kernel
theorem dX0_numberOf_73 : decode cX0_numberOf 73 = .ok (.invokevirtual 108, 3) := by decide +kernel
theorem dX0_numberOf_76 : decode cX0_numberOf 76 = .ok (.ireturn, 1) := by decide +kernel
theorem dX0_numberOf_77 : decode cX0_numberOf 77 = .ok (.aload_n 1, 1) := by decide +kernel
theorem dX0_numberOf_78 : decode cX0_numberOf 78 = .ok (.getfield 111, 3) := by decide +kernel
theorem dX0_numberOf_81 : decode cX0_numberOf 81 = .ok (.ireturn, 1) := by decide +kernel
theorem dX0_numberOf_82 : decode cX0_numberOf 82 = .ok (.aload_n 1, 1) := by decide +kernel
theorem dX0_numberOf_83 : decode cX0_numberOf 83 = .ok (.getfield 114, 3) := by decide +kernel
theorem dX0_numberOf_86 : decode cX0_numberOf 86 = .ok (.ireturn, 1) := by decide +kernel
theorem dX0_numberOf_87 : decode cX0_numberOf 87 = .ok (.aload_n 1, 1) := by decide +kernel
theorem dX0_numberOf_88 : decode cX0_numberOf 88 = .ok (.getfield 67, 3) := by decide +kernel
theorem dX0_numberOf_91 : decode cX0_numberOf 91 = .ok (.ireturn, 1) := by decide +kernel
theorem dX0_numberOf_92 : decode cX0_numberOf 92 = .ok (.aload_n 1, 1) := by decide +kernel
theorem dX0_numberOf_93 : decode cX0_numberOf 93 = .ok (.invokevirtual 74, 3) := by decide +kernel
theorem dX0_numberOf_96 : decode cX0_numberOf 96 = .ok (.ireturn, 1) := by decide +kernel
theorem dX0_numberOf_97 : decode cX0_numberOf 97 = .ok (.aload_n 1, 1) := by decide +kernel
theorem dX0_numberOf_98 : decode cX0_numberOf 98 = .ok (.aload_n 0, 1) := by decide +kernel
theorem dX0_numberOf_99 : decode cX0_numberOf 99 = .ok (.getfield 9, 3) := by decide +kernel
theorem dX0_numberOf_102 : decode cX0_numberOf 102 = .ok (.invokevirtual 117, 3) := by decide +kernel
theorem dX0_numberOf_105 : decode cX0_numberOf 105 = .ok (.ireturn, 1) := by decide +kernel
theorem dX1_init_0 : decode cX1_init 0 = .ok (.aload_n 0, 1) := by decide +kernel
theorem dX1_init_1 : decode cX1_init 1 = .ok (.invokespecial 3, 3) := by decide +kernel
theorem dX1_init_4 : decode cX1_init 4 = .ok (.aload_n 0, 1) := by decide +kernel
theorem dX1_init_5 : decode cX1_init 5 = .ok (.bipush 60, 2) := by decide +kernel
theorem dX1_init_7 : decode cX1_init 7 = .ok (.newarray .int, 2) := by decide +kernel
theorem dX1_init_9 : decode cX1_init 9 = .ok (.putfield 9, 3) := by decide +kernel
theorem dX1_init_12 : decode cX1_init 12 = .ok (.aload_n 0, 1) := by decide +kernel
theorem dX1_init_13 : decode cX1_init 13 = .ok (.iconst 0, 1) := by decide +kernel
theorem dX1_init_14 : decode cX1_init 14 = .ok (.putfield 15, 3) := by decide +kernel
theorem dX1_init_17 : decode cX1_init 17 = .ok (.aload_n 0, 1) := by decide +kernel
theorem dX1_init_18 : decode cX1_init 18 = .ok (.iconst 0, 1) := by decide +kernel
theorem dX1_init_19 : decode cX1_init 19 = .ok (.putfield 19, 3) := by decide +kernel
theorem dX1_init_22 : decode cX1_init 22 = .ok (.return_, 1) := by decide +kernel
theorem dX1_appendCode_0 : decode cX1_appendCode 0 = .ok (.aload_n 0, 1) := by decide +kernel
theorem dX1_appendCode_1 : decode cX1_appendCode 1 = .ok (.getfield 15, 3) := by decide +kernel
theorem dX1_appendCode_4 : decode cX1_appendCode 4 = .ok (.bipush 60, 2) := by decide +kernel
theorem dX1_appendCode_6 : decode cX1_appendCode 6 = .ok (.if_icmp .ge 23, 3) := by decide +kernel
theorem dX1_appendCode_9 : decode cX1_appendCode 9 = .ok (.aload_n 0, 1) := by decide +kernel
theorem dX1_appendCode_10 : decode cX1_appendCode 10 = .ok (.getfield 9, 3) := by decide +kernel
theorem dX1_appendCode_13 : decode cX1_appendCode 13 = .ok (.aload_n 0, 1) := by decide +kernel
theorem dX1_appendCode_14 : decode cX1_appendCode 14 = .ok (.getfield 15, 3) := by decide +kernel
theorem dX1_appendCode_17 : decode cX1_appendCode 17 = .ok (.iload_n 1, 1) := by decide +kernel
theorem dX1_appendCode_18 : decode cX1_appendCode 18 = .ok (.iastore, 1) := by decide +kernel
theorem dX1_appendCode_19 : decode cX1_appendCode 19 = .ok (.aload_n 0, 1) := by decide +kernel
theorem dX1_appendCode_20 : decode cX1_appendCode 20 = .ok (.dup, 1) := by decide +kernel
theorem dX1_appendCode_21 : decode cX1_appendCode 21 = .ok (.getfield 15, 3) := by decide +kernel
theorem dX1_appendCode_24 : decode cX1_appendCode 24 = .ok (.iconst 1, 1) := by decide +kernel
theorem dX1_appendCode_25 : decode cX1_appendCode 25 = .ok (.iadd, 1) := by decide +kernel
theorem dX1_appendCode_26 : decode cX1_appendCode 26 = .ok (.putfield 15, 3) := by decide +kernel
theorem dX1_appendCode_29 : decode cX1_appendCode 29 = .ok (.aload_n 0, 1) := by decide +kernel
theorem dX1_appendCode_30 : decode cX1_appendCode 30 = .ok (.getfield 15, 3) := by decide +kernel
theorem dX1_appendCode_33 : decode cX1_appendCode 33 = .ok (.ireturn, 1) := by decide +kernel
theorem dX1_rewind_0 : decode cX1_rewind 0 = .ok (.aload_n 0, 1) := by decide +kernel
theorem dX1_rewind_1 : decode cX1_rewind 1 = .ok (.iconst 0, 1) := by decide +kernel
theorem dX1_rewind_2 : decode cX1_rewind 2 = .ok (.putfield 19, 3) := by decide +kernel
theorem dX1_rewind_5 : decode cX1_rewind 5 = .ok (.return_, 1) := by decide +kernel
theorem dX1_readRow_0 : decode cX1_readRow 0 = .ok (.aload_n 0, 1) := by decide +kernel
theorem dX1_readRow_1 : decode cX1_readRow 1 = .ok (.invokevirtual 22, 3) := by decide +kernel
theorem dX1_readRow_4 : decode cX1_readRow 4 = .ok (.aload_n 0, 1) := by decide +kernel
theorem dX1_readRow_5 : decode cX1_readRow 5 = .ok (.invokevirtual 25, 3) := by decide +kernel
theorem dX1_readRow_8 : decode cX1_readRow 8 = .ok (.istore_n 1, 1) := by decide +kernel
theorem dX1_readRow_9 : decode cX1_readRow 9 = .ok (.iconst 0, 1) := by decide +kernel
theorem dX1_readRow_10 : decode cX1_readRow 10 = .ok (.istore_n 2, 1) := by decide +kernel
theorem dX1_readRow_11 : decode cX1_readRow 11 = .ok (.iload_n 2, 1) := by decide +kernel
theorem dX1_readRow_12 : decode cX1_readRow 12 = .ok (.bipush 60, 2) := by decide +kernel
theorem dX1_readRow_14 : decode cX1_readRow 14 = .ok (.if_icmp .ge 29, 3) := by decide +kernel
theorem dX1_readRow_17 : decode cX1_readRow 17 = .ok (.iload_n 1, 1) := by decide +kernel
theorem dX1_readRow_18 : decode cX1_readRow 18 = .ok (.ifCond .eq 25, 3) := by decide +kernel
theorem dX1_readRow_21 : decode cX1_readRow 21 = .ok (.aload_n 0, 1) := by decide +kernel
theorem dX1_readRow_22 : decode cX1_readRow 22 = .ok (.getfield 19, 3) := by decide +kernel
theorem dX1_readRow_25 : decode cX1_readRow 25 = .ok (.aload_n 0, 1) := by decide +kernel
theorem dX1_readRow_26 : decode cX1_readRow 26 = .ok (.getfield 15, 3) := by decide +kernel
theorem dX1_readRow_29 : decode cX1_readRow 29 = .ok (.if_icmp .ge 14, 3) := by decide +kernel
theorem dX1_readRow_32 : decode cX1_readRow 32 = .ok (.aload_n 0, 1) := by decide +kernel
theorem dX1_readRow_33 : decode cX1_readRow 33 = .ok (.invokevirtual 25, 3) := by decide +kernel
theorem dX1_readRow_36 : decode cX1_readRow 36 = .ok (.istore_n 1, 1) := by decide +kernel
theorem dX1_readRow_37 : decode cX1_readRow 37 = .ok (.iinc 2 1, 3) := by decide +kernel
theorem dX1_readRow_40 : decode cX1_readRow 40 = .ok (.goto (-29), 3) := by decide +kernel
theorem dX1_readRow_43 : decode cX1_readRow 43 = .ok (.iload_n 1, 1) := by decide +kernel
theorem dX1_readRow_44 : decode cX1_readRow 44 = .ok (.ireturn, 1) := by decide +kernel
theorem dX1_readNextOrder_0 : decode cX1_readNextOrder 0 = .ok (.aload_n 0, 1) := by decide +kernel
theorem dX1_readNextOrder_1 : decode cX1_readNextOrder 1 = .ok (.getfield 19, 3) := by decide +kernel
theorem dX1_readNextOrder_4 : decode cX1_readNextOrder 4 = .ok (.ifCond .eq 12, 3) := by decide +kernel
theorem dX1_readNextOrder_7 : decode cX1_readNextOrder 7 = .ok (.aload_n 0, 1) := by decide +kernel
theorem dX1_readNextOrder_8 : decode cX1_readNextOrder 8 = .ok (.bipush 59, 2) := by decide +kernel
theorem dX1_readNextOrder_10 : decode cX1_readNextOrder 10 = .ok (.invokevirtual 29, 3) := by decide +kernel
theorem dX1_readNextOrder_13 : decode cX1_readNextOrder 13 = .ok (.ifCond .eq 14, 3) := by decide +kernel
theorem dX1_readNextOrder_16 : decode cX1_readNextOrder 16 = .ok (.aload_n 0, 1) := by decide +kernel
theorem dX1_readNextOrder_17 : decode cX1_readNextOrder 17 = .ok (.invokevirtual 33, 3) := by decide +kernel
theorem dX1_readNextOrder_20 : decode cX1_readNextOrder 20 = .ok (.ifCond .eq 7, 3) := by decide +kernel
theorem dX1_readNextOrder_23 : decode cX1_readNextOrder 23 = .ok (.iconst 1, 1) := by decide +kernel
theorem dX1_readNextOrder_24 : decode cX1_readNextOrder 24 = .ok (.goto 4, 3) := by decide +kernel
theorem dX1_readNextOrder_27 : decode cX1_readNextOrder 27 = .ok (.iconst 0, 1) := by decide +kernel
theorem dX1_readNextOrder_28 : decode cX1_readNextOrder 28 = .ok (.ireturn, 1) := by decide +kernel
theorem dX1_readOrder_0 : decode cX1_readOrder 0 = .ok (.aload_n 0, 1) := by decide +kernel
theorem dX1_readOrder_1 : decode cX1_readOrder 1 = .ok (.bipush 97, 2) := by decide +kernel
theorem dX1_readOrder_3 : decode cX1_readOrder 3 = .ok (.invokevirtual 29, 3) := by decide +kernel
theorem dX1_readOrder_6 : decode cX1_readOrder 6 = .ok (.ifCond .eq 47, 3) := by decide +kernel
theorem dX1_readOrder_9 : decode cX1_readOrder 9 = .ok (.aload_n 0, 1) := by decide +kernel
theorem dX1_readOrder_10 : decode cX1_readOrder 10 = .ok (.bipush 97, 2) := by decide +kernel
theorem dX1_readOrder_12 : decode cX1_readOrder 12 = .ok (.putfield 36, 3) := by decide +kernel
theorem dX1_readOrder_15 : decode cX1_readOrder 15 = .ok (.aload_n 0, 1) := by decide +kernel
theorem dX1_readOrder_16 : decode cX1_readOrder 16 = .ok (.invokevirtual 39, 3) := by decide +kernel
theorem dX1_readOrder_19 : decode cX1_readOrder 19 = .ok (.ifCond .eq 32, 3) := by decide +kernel
theorem dX1_readOrder_22 : decode cX1_readOrder 22 = .ok (.aload_n 0, 1) := by decide +kernel
theorem dX1_readOrder_23 : decode cX1_readOrder 23 = .ok (.invokevirtual 42, 3) := by decide +kernel
theorem dX1_readOrder_26 : decode cX1_readOrder 26 = .ok (.ifCond .eq 25, 3) := by decide +kernel
theorem dX1_readOrder_29 : decode cX1_readOrder 29 = .ok (.aload_n 0, 1) := by decide +kernel
theorem dX1_readOrder_30 : decode cX1_readOrder 30 = .ok (.bipush 61, 2) := by decide +kernel
theorem dX1_readOrder_32 : decode cX1_readOrder 32 = .ok (.invokevirtual 29, 3) := by decide +kernel
theorem dX1_readOrder_35 : decode cX1_readOrder 35 = .ok (.ifCond .eq 16, 3) := by decide +kernel
theorem dX1_readOrder_38 : decode cX1_readOrder 38 = .ok (.aload_n 0, 1) := by decide +kernel
theorem dX1_readOrder_39 : decode cX1_readOrder 39 = .ok (.iconst 0, 1) := by decide +kernel
theorem dX1_readOrder_40 : decode cX1_readOrder 40 = .ok (.iconst 3, 1) := by decide +kernel
theorem dX1_readOrder_41 : decode cX1_readOrder 41 = .ok (.invokevirtual 45, 3) := by decide +kernel
theorem dX1_readOrder_44 : decode cX1_readOrder 44 = .ok (.ifCond .eq 7, 3) := by decide +kernel
theorem dX1_readOrder_47 : decode cX1_readOrder 47 = .ok (.iconst 1, 1) := by decide +kernel
theorem dX1_readOrder_48 : decode cX1_readOrder 48 = .ok (.goto 4, 3) := by decide +kernel
theorem dX1_readOrder_51 : decode cX1_readOrder 51 = .ok (.iconst 0, 1) := by decide +kernel
theorem dX1_readOrder_52 : decode cX1_readOrder 52 = .ok (.ireturn, 1) := by decide +kernel
theorem dX1_readOrder_53 : decode cX1_readOrder 53 = .ok (.aload_n 0, 1) := by decide +kernel
theorem dX1_readOrder_54 : decode cX1_readOrder 54 = .ok (.bipush 98, 2) := by decide +kernel
theorem dX1_readOrder_56 : decode cX1_readOrder 56 = .ok (.invokevirtual 29, 3) := by decide +kernel
theorem dX1_readOrder_59 : decode cX1_readOrder 59 = .ok (.ifCond .eq 14, 3) := by decide +kernel
theorem dX1_readOrder_62 : decode cX1_readOrder 62 = .ok (.aload_n 0, 1) := by decide +kernel
theorem dX1_readOrder_63 : decode cX1_readOrder 63 = .ok (.bipush 98, 2) := by decide +kernel
theorem dX1_readOrder_65 : decode cX1_readOrder 65 = .ok (.putfield 36, 3) := by decide +kernel
theorem dX1_readOrder_68 : decode cX1_readOrder 68 = .ok (.aload_n 0, 1) := by decide +kernel
theorem dX1_readOrder_69 : decode cX1_readOrder 69 = .ok (.invokevirtual 39, 3) := by decide +kernel
theorem dX1_readOrder_72 : decode cX1_readOrder 72 = .ok (.ireturn, 1) := by decide +kernel
theorem dX1_readOrder_73 : decode cX1_readOrder 73 = .ok (.aload_n 0, 1) := by decide +kernel
theorem dX1_readOrder_74 : decode cX1_readOrder 74 = .ok (.bipush 112, 2) := by decide +kernel
theorem dX1_readOrder_76 : decode cX1_readOrder 76 = .ok (.invokevirtual 29, 3) := by decide +kernel
theorem dX1_readOrder_79 : decode cX1_readOrder 79 = .ok (.ifCond .eq 40, 3) := by decide +kernel
theorem dX1_readOrder_82 : decode cX1_readOrder 82 = .ok (.aload_n 0, 1) := by decide +kernel
theorem dX1_readOrder_83 : decode cX1_readOrder 83 = .ok (.bipush 112, 2) := by decide +kernel
theorem dX1_readOrder_85 : decode cX1_readOrder 85 = .ok (.putfield 36, 3) := by decide +kernel
theorem dX1_readOrder_88 : decode cX1_readOrder 88 = .ok (.aload_n 0, 1) := by decide +kernel
theorem dX1_readOrder_89 : decode cX1_readOrder 89 = .ok (.invokevirtual 39, 3) := by decide +kernel
theorem dX1_readOrder_92 : decode cX1_readOrder 92 = .ok (.ifCond .eq 25, 3) := by decide +kernel
theorem dX1_readOrder_95 : decode cX1_readOrder 95 = .ok (.aload_n 0, 1) := by decide +kernel
theorem dX1_readOrder_96 : decode cX1_readOrder 96 = .ok (.bipush 58, 2) := by decide +kernel
theorem dX1_readOrder_98 : decode cX1_readOrder 98 = .ok (.invokevirtual 29, 3) := by decide +kernel
theorem dX1_readOrder_101 : decode cX1_readOrder 101 = .ok (.ifCond .eq 16, 3) := by decide +kernel
theorem dX1_readOrder_104 : decode cX1_readOrder 104 = .ok (.aload_n 0, 1) := by decide +kernel
theorem dX1_readOrder_105 : decode cX1_readOrder 105 = .ok (.iconst 1, 1) := by decide +kernel
theorem dX1_readOrder_106 : decode cX1_readOrder 106 = .ok (.iconst 5, 1) := by decide +kernel
theorem dX1_readOrder_107 : decode cX1_readOrder 107 = .ok (.invokevirtual 45, 3) := by decide +kernel
theorem dX1_readOrder_110 : decode cX1_readOrder 110 = .ok (.ifCond .eq 7, 3) := by decide +kernel
theorem dX1_readOrder_113 : decode cX1_readOrder 113 = .ok (.iconst 1, 1) := by decide +kernel
theorem dX1_readOrder_114 : decode cX1_readOrder 114 = .ok (.goto 4, 3) := by decide +kernel
theorem dX1_readOrder_117 : decode cX1_readOrder 117 = .ok (.iconst 0, 1) := by decide +kernel
theorem dX1_readOrder_118 : decode cX1_readOrder 118 = .ok (.ireturn, 1) := by decide +kernel
theorem dX1_readOrder_119 : decode cX1_readOrder 119 = .ok (.aload_n 0, 1) := by decide +kernel
theorem dX1_readOrder_120 : decode cX1_readOrder 120 = .ok (.bipush 100, 2) := by decide +kernel
theorem dX1_readOrder_122 : decode cX1_readOrder 122 = .ok (.putfield 36, 3) := by decide +kernel
theorem dX1_readOrder_125 : decode cX1_readOrder 125 = .ok (.aload_n 0, 1) := by decide +kernel
theorem dX1_readOrder_126 : decode cX1_readOrder 126 = .ok (.bipush 100, 2) := by decide +kernel
theorem dX1_readOrder_128 : decode cX1_readOrder 128 = .ok (.invokevirtual 29, 3) := by decide +kernel
theorem dX1_readOrder_131 : decode cX1_readOrder 131 = .ok (.ifCond .eq 16, 3) := by decide +kernel
theorem dX1_readOrder_134 : decode cX1_readOrder 134 = .ok (.aload_n 0, 1) := by decide +kernel
theorem dX1_readOrder_135 : decode cX1_readOrder 135 = .ok (.iconst 1, 1) := by decide +kernel
theorem dX1_readOrder_136 : decode cX1_readOrder 136 = .ok (.iconst 2, 1) := by decide +kernel
theorem dX1_readOrder_137 : decode cX1_readOrder 137 = .ok (.invokevirtual 45, 3) := by decide +kernel
theorem dX1_readOrder_140 : decode cX1_readOrder 140 = .ok (.ifCond .eq 7, 3) := by decide +kernel
theorem dX1_readOrder_143 : decode cX1_readOrder 143 = .ok (.iconst 1, 1) := by decide +kernel
theorem dX1_readOrder_144 : decode cX1_readOrder 144 = .ok (.goto 4, 3) := by decide +kernel
theorem dX1_readOrder_147 : decode cX1_readOrder 147 = .ok (.iconst 0, 1) := by decide +kernel
theorem dX1_readOrder_148 : decode cX1_readOrder 148 = .ok (.ireturn, 1) := by decide +kernel
theorem dX1_readPhase_0 : decode cX1_readPhase 0 = .ok (.aload_n 0, 1) := by decide +kernel
theorem dX1_readPhase_1 : decode cX1_readPhase 1 = .ok (.aload_n 0, 1) := by decide +kernel
theorem dX1_readPhase_2 : decode cX1_readPhase 2 = .ok (.iconst 0, 1) := by decide +kernel
theorem dX1_readPhase_3 : decode cX1_readPhase 3 = .ok (.iconst 5, 1) := by decide +kernel
theorem dX1_readPhase_4 : decode cX1_readPhase 4 = .ok (.invokevirtual 49, 3) := by decide +kernel
theorem dX1_readPhase_7 : decode cX1_readPhase 7 = .ok (.putfield 53, 3) := by decide +kernel
theorem dX1_readPhase_10 : decode cX1_readPhase 10 = .ok (.aload_n 0, 1) := by decide +kernel
theorem dX1_readPhase_11 : decode cX1_readPhase 11 = .ok (.getfield 53, 3) := by decide +kernel
theorem dX1_readPhase_14 : decode cX1_readPhase 14 = .ok (.iconst (-1), 1) := by decide +kernel
theorem dX1_readPhase_15 : decode cX1_readPhase 15 = .ok (.if_icmp .eq 7, 3) := by decide +kernel
theorem dX1_readPhase_18 : decode cX1_readPhase 18 = .ok (.iconst 1, 1) := by decide +kernel
theorem dX1_readPhase_19 : decode cX1_readPhase 19 = .ok (.goto 4, 3) := by decide +kernel
theorem dX1_readPhase_22 : decode cX1_readPhase 22 = .ok (.iconst 0, 1) := by decide +kernel
theorem dX1_readPhase_23 : decode cX1_readPhase 23 = .ok (.ireturn, 1) := by decide +kernel
theorem dX1_readUse_0 : decode cX1_readUse 0 = .ok (.aload_n 0, 1) := by decide +kernel
theorem dX1_readUse_1 : decode cX1_readUse 1 = .ok (.aload_n 0, 1) := by decide +kernel
theorem dX1_readUse_2 : decode cX1_readUse 2 = .ok (.iconst 0, 1) := by decide +kernel
theorem dX1_readUse_3 : decode cX1_readUse 3 = .ok (.iconst 3, 1) := by decide +kernel
theorem dX1_readUse_4 : decode cX1_readUse 4 = .ok (.invokevirtual 49, 3) := by decide +kernel
theorem dX1_readUse_7 : decode cX1_readUse 7 = .ok (.putfield 56, 3) := by decide +kernel
theorem dX1_readUse_10 : decode cX1_readUse 10 = .ok (.aload_n 0, 1) := by decide +kernel
theorem dX1_readUse_11 : decode cX1_readUse 11 = .ok (.getfield 56, 3) := by decide +kernel
theorem dX1_readUse_14 : decode cX1_readUse 14 = .ok (.iconst (-1), 1) := by decide +kernel
theorem dX1_readUse_15 : decode cX1_readUse 15 = .ok (.if_icmp .eq 7, 3) := by decide +kernel
theorem dX1_readUse_18 : decode cX1_readUse 18 = .ok (.iconst 1, 1) := by decide +kernel
theorem dX1_readUse_19 : decode cX1_readUse 19 = .ok (.goto 4, 3) := by decide +kernel
theorem dX1_readUse_22 : decode cX1_readUse 22 = .ok (.iconst 0, 1) := by decide +kernel
theorem dX1_readUse_23 : decode cX1_readUse 23 = .ok (.ireturn, 1) := by decide +kernel
theorem dX1_readNumber_0 : decode cX1_readNumber 0 = .ok (.aload_n 0, 1) := by decide +kernel
theorem dX1_readNumber_1 : decode cX1_readNumber 1 = .ok (.aload_n 0, 1) := by decide +kernel
theorem dX1_readNumber_2 : decode cX1_readNumber 2 = .ok (.iload_n 1, 1) := by decide +kernel
theorem dX1_readNumber_3 : decode cX1_readNumber 3 = .ok (.bipush 9, 2) := by decide +kernel
theorem dX1_readNumber_5 : decode cX1_readNumber 5 = .ok (.invokevirtual 49, 3) := by decide +kernel
theorem dX1_readNumber_8 : decode cX1_readNumber 8 = .ok (.putfield 59, 3) := by decide +kernel
theorem dX1_readNumber_11 : decode cX1_readNumber 11 = .ok (.aload_n 0, 1) := by decide +kernel
theorem dX1_readNumber_12 : decode cX1_readNumber 12 = .ok (.getfield 59, 3) := by decide +kernel
theorem dX1_readNumber_15 : decode cX1_readNumber 15 = .ok (.iconst (-1), 1) := by decide +kernel
theorem dX1_readNumber_16 : decode cX1_readNumber 16 = .ok (.if_icmp .ne 5, 3) := by decide +kernel
theorem dX1_readNumber_19 : decode cX1_readNumber 19 = .ok (.iconst 0, 1) := by decide +kernel
theorem dX1_readNumber_20 : decode cX1_readNumber 20 = .ok (.ireturn, 1) := by decide +kernel
theorem dX1_readNumber_21 : decode cX1_readNumber 21 = .ok (.aload_n 0, 1) := by decide +kernel
theorem dX1_readNumber_22 : decode cX1_readNumber 22 = .ok (.getfield 59, 3) := by decide +kernel
theorem dX1_readNumber_25 : decode cX1_readNumber 25 = .ok (.ifCond .ne 7, 3) := by decide +kernel
theorem dX1_readNumber_28 : decode cX1_readNumber 28 = .ok (.iload_n 2, 1) := by decide +kernel
theorem dX1_readNumber_29 : decode cX1_readNumber 29 = .ok (.goto 4, 3) := by decide +kernel
theorem dX1_readNumber_32 : decode cX1_readNumber 32 = .ok (.iconst 1, 1) := by decide +kernel
theorem dX1_readNumber_33 : decode cX1_readNumber 33 = .ok (.istore_n 3, 1) := by decide +kernel
theorem dX1_readNumber_34 : decode cX1_readNumber 34 = .ok (.iload_n 3, 1) := by decide +kernel
theorem dX1_readNumber_35 : decode cX1_readNumber 35 = .ok (.iload_n 2, 1) := by decide +kernel
theorem dX1_readNumber_36 : decode cX1_readNumber 36 = .ok (.if_icmp .ge 38, 3) := by decide +kernel
theorem dX1_readNumber_39 : decode cX1_readNumber 39 = .ok (.aload_n 0, 1) := by decide +kernel
theorem dX1_readNumber_40 : decode cX1_readNumber 40 = .ok (.iconst 0, 1) := by decide +kernel
theorem dX1_readNumber_41 : decode cX1_readNumber 41 = .ok (.bipush 9, 2) := by decide +kernel
theorem dX1_readNumber_43 : decode cX1_readNumber 43 = .ok (.invokevirtual 62, 3) := by decide +kernel
theorem dX1_readNumber_46 : decode cX1_readNumber 46 = .ok (.ifCond .eq 28, 3) := by decide +kernel
theorem dX1_readNumber_49 : decode cX1_readNumber 49 = .ok (.aload_n 0, 1) := by decide +kernel
theorem dX1_readNumber_50 : decode cX1_readNumber 50 = .ok (.bipush 10, 2) := by decide +kernel
theorem dX1_readNumber_52 : decode cX1_readNumber 52 = .ok (.aload_n 0, 1) := by decide +kernel
theorem dX1_readNumber_53 : decode cX1_readNumber 53 = .ok (.getfield 59, 3) := by decide +kernel
theorem dX1_readNumber_56 : decode cX1_readNumber 56 = .ok (.imul, 1) := by decide +kernel
theorem dX1_readNumber_57 : decode cX1_readNumber 57 = .ok (.aload_n 0, 1) := by decide +kernel
theorem dX1_readNumber_58 : decode cX1_readNumber 58 = .ok (.iconst 0, 1) := by decide +kernel
theorem dX1_readNumber_59 : decode cX1_readNumber 59 = .ok (.bipush 9, 2) := by decide +kernel
theorem dX1_readNumber_61 : decode cX1_readNumber 61 = .ok (.invokevirtual 49, 3) := by decide +kernel
theorem dX1_readNumber_64 : decode cX1_readNumber 64 = .ok (.iadd, 1) := by decide +kernel
theorem dX1_readNumber_65 : decode cX1_readNumber 65 = .ok (.putfield 59, 3) := by decide +kernel
theorem dX1_readNumber_68 : decode cX1_readNumber 68 = .ok (.iinc 3 1, 3) := by decide +kernel
theorem dX1_readNumber_71 : decode cX1_readNumber 71 = .ok (.goto (-37), 3) := by decide +kernel
theorem dX1_readNumber_74 : decode cX1_readNumber 74 = .ok (.iconst 1, 1) := by decide +kernel
theorem dX1_readNumber_75 : decode cX1_readNumber 75 = .ok (.ireturn, 1) := by decide +kernel
theorem dX1_readDigit_0 : decode cX1_readDigit 0 = .ok (.aload_n 0, 1) := by decide +kernel
theorem dX1_readDigit_1 : decode cX1_readDigit 1 = .ok (.iload_n 1, 1) := by decide +kernel
theorem dX1_readDigit_2 : decode cX1_readDigit 2 = .ok (.iload_n 2, 1) := by decide +kernel
theorem dX1_readDigit_3 : decode cX1_readDigit 3 = .ok (.invokevirtual 62, 3) := by decide +kernel
theorem dX1_readDigit_6 : decode cX1_readDigit 6 = .ok (.ifCond .ne 5, 3) := by decide +kernel
theorem dX1_readDigit_9 : decode cX1_readDigit 9 = .ok (.iconst (-1), 1) := by decide +kernel
theorem dX1_readDigit_10 : decode cX1_readDigit 10 = .ok (.ireturn, 1) := by decide +kernel
theorem dX1_readDigit_11 : decode cX1_readDigit 11 = .ok (.aload_n 0, 1) := by decide +kernel
theorem dX1_readDigit_12 : decode cX1_readDigit 12 = .ok (.dup, 1) := by decide +kernel
theorem dX1_readDigit_13 : decode cX1_readDigit 13 = .ok (.getfield 19, 3) := by decide +kernel
theorem dX1_readDigit_16 : decode cX1_readDigit 16 = .ok (.iconst 1, 1) := by decide +kernel
theorem dX1_readDigit_17 : decode cX1_readDigit 17 = .ok (.iadd, 1) := by decide +kernel
theorem dX1_readDigit_18 : decode cX1_readDigit 18 = .ok (.putfield 19, 3) := by decide +kernel
theorem dX1_readDigit_21 : decode cX1_readDigit 21 = .ok (.aload_n 0, 1) := by decide +kernel
theorem dX1_readDigit_22 : decode cX1_readDigit 22 = .ok (.getfield 9, 3) := by decide +kernel
theorem dX1_readDigit_25 : decode cX1_readDigit 25 = .ok (.aload_n 0, 1) := by decide +kernel
theorem dX1_readDigit_26 : decode cX1_readDigit 26 = .ok (.getfield 19, 3) := by decide +kernel
theorem dX1_readDigit_29 : decode cX1_readDigit 29 = .ok (.iconst 1, 1) := by decide +kernel
theorem dX1_readDigit_30 : decode cX1_readDigit 30 = .ok (.isub, 1) := by decide +kernel
theorem dX1_readDigit_31 : decode cX1_readDigit 31 = .ok (.iaload, 1) := by decide +kernel
theorem dX1_readDigit_32 : decode cX1_readDigit 32 = .ok (.bipush 48, 2) := by decide +kernel
theorem dX1_readDigit_34 : decode cX1_readDigit 34 = .ok (.isub, 1) := by decide +kernel
theorem dX1_readDigit_35 : decode cX1_readDigit 35 = .ok (.ireturn, 1) := by decide +kernel
theorem dX1_isDigit_0 : decode cX1_isDigit 0 = .ok (.aload_n 0, 1) := by decide +kernel
theorem dX1_isDigit_1 : decode cX1_isDigit 1 = .ok (.getfield 19, 3) := by decide +kernel
theorem dX1_isDigit_4 : decode cX1_isDigit 4 = .ok (.ifCond .lt 50, 3) := by decide +kernel
theorem dX1_isDigit_7 : decode cX1_isDigit 7 = .ok (.aload_n 0, 1) := by decide +kernel
theorem dX1_isDigit_8 : decode cX1_isDigit 8 = .ok (.getfield 19, 3) := by decide +kernel
theorem dX1_isDigit_11 : decode cX1_isDigit 11 = .ok (.aload_n 0, 1) := by decide +kernel
theorem dX1_isDigit_12 : decode cX1_isDigit 12 = .ok (.getfield 15, 3) := by decide +kernel
theorem dX1_isDigit_15 : decode cX1_isDigit 15 = .ok (.if_icmp .ge 39, 3) := by decide +kernel
theorem dX1_isDigit_18 : decode cX1_isDigit 18 = .ok (.aload_n 0, 1) := by decide +kernel
theorem dX1_isDigit_19 : decode cX1_isDigit 19 = .ok (.getfield 9, 3) := by decide +kernel
theorem dX1_isDigit_22 : decode cX1_isDigit 22 = .ok (.aload_n 0, 1) := by decide +kernel
theorem dX1_isDigit_23 : decode cX1_isDigit 23 = .ok (.getfield 19, 3) := by decide +kernel
theorem dX1_isDigit_26 : decode cX1_isDigit 26 = .ok (.iaload, 1) := by decide +kernel
theorem dX1_isDigit_27 : decode cX1_isDigit 27 = .ok (.bipush 48, 2) := by decide +kernel
theorem dX1_isDigit_29 : decode cX1_isDigit 29 = .ok (.iload_n 1, 1) := by decide +kernel
theorem dX1_isDigit_30 : decode cX1_isDigit 30 = .ok (.iadd, 1) := by decide +kernel
theorem dX1_isDigit_31 : decode cX1_isDigit 31 = .ok (.if_icmp .lt 23, 3) := by decide +kernel
theorem dX1_isDigit_34 : decode cX1_isDigit 34 = .ok (.aload_n 0, 1) := by decide +kernel
theorem dX1_isDigit_35 : decode cX1_isDigit 35 = .ok (.getfield 9, 3) := by decide +kernel
theorem dX1_isDigit_38 : decode cX1_isDigit 38 = .ok (.aload_n 0, 1) := by decide +kernel
theorem dX1_isDigit_39 : decode cX1_isDigit 39 = .ok (.getfield 19, 3) := by decide +kernel
theorem dX1_isDigit_42 : decode cX1_isDigit 42 = .ok (.iaload, 1) := by decide +kernel
theorem dX1_isDigit_43 : decode cX1_isDigit 43 = .ok (.bipush 48, 2) := by decide +kernel
theorem dX1_isDigit_45 : decode cX1_isDigit 45 = .ok (.iload_n 2, 1) := by decide +kernel
theorem dX1_isDigit_46 : decode cX1_isDigit 46 = .ok (.iadd, 1) := by decide +kernel
theorem dX1_isDigit_47 : decode cX1_isDigit 47 = .ok (.if_icmp .gt 7, 3) := by decide +kernel
theorem dX1_isDigit_50 : decode cX1_isDigit 50 = .ok (.iconst 1, 1) := by decide +kernel
theorem dX1_isDigit_51 : decode cX1_isDigit 51 = .ok (.goto 4, 3) := by decide +kernel
theorem dX1_isDigit_54 : decode cX1_isDigit 54 = .ok (.iconst 0, 1) := by decide +kernel
theorem dX1_isDigit_55 : decode cX1_isDigit 55 = .ok (.ireturn, 1) := by decide +kernel
theorem dX1_readSign_0 : decode cX1_readSign 0 = .ok (.aload_n 0, 1) := by decide +kernel
theorem dX1_readSign_1 : decode cX1_readSign 1 = .ok (.getfield 19, 3) := by decide +kernel
theorem dX1_readSign_4 : decode cX1_readSign 4 = .ok (.ifCond .lt 27, 3) := by decide +kernel
theorem dX1_readSign_7 : decode cX1_readSign 7 = .ok (.aload_n 0, 1) := by decide +kernel
theorem dX1_readSign_8 : decode cX1_readSign 8 = .ok (.getfield 19, 3) := by decide +kernel
theorem dX1_readSign_11 : decode cX1_readSign 11 = .ok (.aload_n 0, 1) := by decide +kernel
theorem dX1_readSign_12 : decode cX1_readSign 12 = .ok (.getfield 15, 3) := by decide +kernel
theorem dX1_readSign_15 : decode cX1_readSign 15 = .ok (.if_icmp .ge 16, 3) := by decide +kernel
theorem dX1_readSign_18 : decode cX1_readSign 18 = .ok (.aload_n 0, 1) := by decide +kernel
theorem dX1_readSign_19 : decode cX1_readSign 19 = .ok (.getfield 9, 3) := by decide +kernel
theorem dX1_readSign_22 : decode cX1_readSign 22 = .ok (.aload_n 0, 1) := by decide +kernel
theorem dX1_readSign_23 : decode cX1_readSign 23 = .ok (.getfield 19, 3) := by decide +kernel
theorem dX1_readSign_26 : decode cX1_readSign 26 = .ok (.iaload, 1) := by decide +kernel
theorem dX1_readSign_27 : decode cX1_readSign 27 = .ok (.iload_n 1, 1) := by decide +kernel
theorem dX1_readSign_28 : decode cX1_readSign 28 = .ok (.if_icmp .eq 5, 3) := by decide +kernel
theorem dX1_readSign_31 : decode cX1_readSign 31 = .ok (.iconst 0, 1) := by decide +kernel
theorem dX1_readSign_32 : decode cX1_readSign 32 = .ok (.ireturn, 1) := by decide +kernel
theorem dX1_readSign_33 : decode cX1_readSign 33 = .ok (.aload_n 0, 1) := by decide +kernel
theorem dX1_readSign_34 : decode cX1_readSign 34 = .ok (.dup, 1) := by decide +kernel
theorem dX1_readSign_35 : decode cX1_readSign 35 = .ok (.getfield 19, 3) := by decide +kernel
theorem dX1_readSign_38 : decode cX1_readSign 38 = .ok (.iconst 1, 1) := by decide +kernel
theorem dX1_readSign_39 : decode cX1_readSign 39 = .ok (.iadd, 1) := by decide +kernel
theorem dX1_readSign_40 : decode cX1_readSign 40 = .ok (.putfield 19, 3) := by decide +kernel
theorem dX1_readSign_43 : decode cX1_readSign 43 = .ok (.iconst 1, 1) := by decide +kernel
theorem dX1_readSign_44 : decode cX1_readSign 44 = .ok (.ireturn, 1) := by decide +kernel
theorem dX2_init_0 : decode cX2_init 0 = .ok (.aload_n 0, 1) := by decide +kernel
theorem dX2_init_1 : decode cX2_init 1 = .ok (.invokespecial 3, 3) := by decide +kernel
theorem dX2_init_4 : decode cX2_init 4 = .ok (.aload_n 0, 1) := by decide +kernel
theorem dX2_init_5 : decode cX2_init 5 = .ok (.iconst 4, 1) := by decide +kernel
theorem dX2_init_6 : decode cX2_init 6 = .ok (.newarray .int, 2) := by decide +kernel
theorem dX2_init_8 : decode cX2_init 8 = .ok (.putfield 9, 3) := by decide +kernel
theorem dX2_init_11 : decode cX2_init 11 = .ok (.aload_n 0, 1) := by decide +kernel
theorem dX2_init_12 : decode cX2_init 12 = .ok (.iconst 4, 1) := by decide +kernel
theorem dX2_init_13 : decode cX2_init 13 = .ok (.newarray .int, 2) := by decide +kernel
theorem dX2_init_15 : decode cX2_init 15 = .ok (.putfield 15, 3) := by decide +kernel
theorem dX2_init_18 : decode cX2_init 18 = .ok (.aload_n 0, 1) := by decide +kernel
theorem dX2_init_19 : decode cX2_init 19 = .ok (.iconst 4, 1) := by decide +kernel
theorem dX2_init_20 : decode cX2_init 20 = .ok (.newarray .int, 2) := by decide +kernel
theorem dX2_init_22 : decode cX2_init 22 = .ok (.putfield 18, 3) := by decide +kernel
theorem dX2_init_25 : decode cX2_init 25 = .ok (.aload_n 0, 1) := by decide +kernel
theorem dX2_init_26 : decode cX2_init 26 = .ok (.iconst 4, 1) := by decide +kernel
theorem dX2_init_27 : decode cX2_init 27 = .ok (.newarray .int, 2) := by decide +kernel
theorem dX2_init_29 : decode cX2_init 29 = .ok (.putfield 21, 3) := by decide +kernel
theorem dX2_init_32 : decode cX2_init 32 = .ok (.aload_n 0, 1) := by decide +kernel
theorem dX2_init_33 : decode cX2_init 33 = .ok (.iconst 4, 1) := by decide +kernel
theorem dX2_init_34 : decode cX2_init 34 = .ok (.newarray .int, 2) := by decide +kernel
theorem dX2_init_36 : decode cX2_init 36 = .ok (.putfield 24, 3) := by decide +kernel
theorem dX2_init_39 : decode cX2_init 39 = .ok (.aload_n 0, 1) := by decide +kernel
theorem dX2_init_40 : decode cX2_init 40 = .ok (.iconst 4, 1) := by decide +kernel
theorem dX2_init_41 : decode cX2_init 41 = .ok (.newarray .int, 2) := by decide +kernel
theorem dX2_init_43 : decode cX2_init 43 = .ok (.putfield 27, 3) := by decide +kernel
theorem dX2_init_46 : decode cX2_init 46 = .ok (.aload_n 0, 1) := by decide +kernel
theorem dX2_init_47 : decode cX2_init 47 = .ok (.iconst (-1), 1) := by decide +kernel
theorem dX2_init_48 : decode cX2_init 48 = .ok (.putfield 30, 3) := by decide +kernel
theorem dX2_init_51 : decode cX2_init 51 = .ok (.return_, 1) := by decide +kernel
theorem dX2_copyFrom_0 : decode cX2_copyFrom 0 = .ok (.iconst 0, 1) := by decide +kernel
theorem dX2_copyFrom_1 : decode cX2_copyFrom 1 = .ok (.istore_n 2, 1) := by decide +kernel
theorem dX2_copyFrom_2 : decode cX2_copyFrom 2 = .ok (.iload_n 2, 1) := by decide +kernel
theorem dX2_copyFrom_3 : decode cX2_copyFrom 3 = .ok (.iconst 4, 1) := by decide +kernel
theorem dX2_copyFrom_4 : decode cX2_copyFrom 4 = .ok (.if_icmp .ge 57, 3) := by decide +kernel
theorem dX2_copyFrom_7 : decode cX2_copyFrom 7 = .ok (.aload_n 0, 1) := by decide +kernel
theorem dX2_copyFrom_8 : decode cX2_copyFrom 8 = .ok (.getfield 9, 3) := by decide +kernel
theorem dX2_copyFrom_11 : decode cX2_copyFrom 11 = .ok (.iload_n 2, 1) := by decide +kernel
theorem dX2_copyFrom_12 : decode cX2_copyFrom 12 = .ok (.aload_n 1, 1) := by decide +kernel
theorem dX2_copyFrom_13 : decode cX2_copyFrom 13 = .ok (.getfield 9, 3) := by decide +kernel
theorem dX2_copyFrom_16 : decode cX2_copyFrom 16 = .ok (.iload_n 2, 1) := by decide +kernel
theorem dX2_copyFrom_17 : decode cX2_copyFrom 17 = .ok (.iaload, 1) := by decide +kernel
theorem dX2_copyFrom_18 : decode cX2_copyFrom 18 = .ok (.iastore, 1) := by decide +kernel
theorem dX2_copyFrom_19 : decode cX2_copyFrom 19 = .ok (.aload_n 0, 1) := by decide +kernel
theorem dX2_copyFrom_20 : decode cX2_copyFrom 20 = .ok (.getfield 15, 3) := by decide +kernel
theorem dX2_copyFrom_23 : decode cX2_copyFrom 23 = .ok (.iload_n 2, 1) := by decide +kernel
theorem dX2_copyFrom_24 : decode cX2_copyFrom 24 = .ok (.aload_n 1, 1) := by decide +kernel
theorem dX2_copyFrom_25 : decode cX2_copyFrom 25 = .ok (.getfield 15, 3) := by decide +kernel
theorem dX2_copyFrom_28 : decode cX2_copyFrom 28 = .ok (.iload_n 2, 1) := by decide +kernel
theorem dX2_copyFrom_29 : decode cX2_copyFrom 29 = .ok (.iaload, 1) := by decide +kernel
theorem dX2_copyFrom_30 : decode cX2_copyFrom 30 = .ok (.iastore, 1) := by decide +kernel
theorem dX2_copyFrom_31 : decode cX2_copyFrom 31 = .ok (.aload_n 0, 1) := by decide +kernel
theorem dX2_copyFrom_32 : decode cX2_copyFrom 32 = .ok (.getfield 18, 3) := by decide +kernel
theorem dX2_copyFrom_35 : decode cX2_copyFrom 35 = .ok (.iload_n 2, 1) := by decide +kernel
theorem dX2_copyFrom_36 : decode cX2_copyFrom 36 = .ok (.aload_n 1, 1) := by decide +kernel
theorem dX2_copyFrom_37 : decode cX2_copyFrom 37 = .ok (.getfield 18, 3) := by decide +kernel
theorem dX2_copyFrom_40 : decode cX2_copyFrom 40 = .ok (.iload_n 2, 1) := by decide +kernel
theorem dX2_copyFrom_41 : decode cX2_copyFrom 41 = .ok (.iaload, 1) := by decide +kernel
theorem dX2_copyFrom_42 : decode cX2_copyFrom 42 = .ok (.iastore, 1) := by decide +kernel
theorem dX2_copyFrom_43 : decode cX2_copyFrom 43 = .ok (.aload_n 0, 1) := by decide +kernel
theorem dX2_copyFrom_44 : decode cX2_copyFrom 44 = .ok (.getfield 21, 3) := by decide +kernel
theorem dX2_copyFrom_47 : decode cX2_copyFrom 47 = .ok (.iload_n 2, 1) := by decide +kernel
theorem dX2_copyFrom_48 : decode cX2_copyFrom 48 = .ok (.aload_n 1, 1) := by decide +kernel
theorem dX2_copyFrom_49 : decode cX2_copyFrom 49 = .ok (.getfield 21, 3) := by decide +kernel
theorem dX2_copyFrom_52 : decode cX2_copyFrom 52 = .ok (.iload_n 2, 1) := by decide +kernel
theorem dX2_copyFrom_53 : decode cX2_copyFrom 53 = .ok (.iaload, 1) := by decide +kernel
theorem dX2_copyFrom_54 : decode cX2_copyFrom 54 = .ok (.iastore, 1) := by decide +kernel
theorem dX2_copyFrom_55 : decode cX2_copyFrom 55 = .ok (.iinc 2 1, 3) := by decide +kernel
theorem dX2_copyFrom_58 : decode cX2_copyFrom 58 = .ok (.goto (-56), 3) := by decide +kernel
theorem dX2_copyFrom_61 : decode cX2_copyFrom 61 = .ok (.iconst 0, 1) := by decide +kernel
theorem dX2_copyFrom_62 : decode cX2_copyFrom 62 = .ok (.istore_n 2, 1) := by decide +kernel
theorem dX2_copyFrom_63 : decode cX2_copyFrom 63 = .ok (.iload_n 2, 1) := by decide +kernel
theorem dX2_copyFrom_64 : decode cX2_copyFrom 64 = .ok (.iconst 4, 1) := by decide +kernel
theorem dX2_copyFrom_65 : decode cX2_copyFrom 65 = .ok (.if_icmp .ge 33, 3) := by decide +kernel
theorem dX2_copyFrom_68 : decode cX2_copyFrom 68 = .ok (.aload_n 0, 1) := by decide +kernel
theorem dX2_copyFrom_69 : decode cX2_copyFrom 69 = .ok (.getfield 24, 3) := by decide +kernel
theorem dX2_copyFrom_72 : decode cX2_copyFrom 72 = .ok (.iload_n 2, 1) := by decide +kernel
theorem dX2_copyFrom_73 : decode cX2_copyFrom 73 = .ok (.aload_n 1, 1) := by decide +kernel
theorem dX2_copyFrom_74 : decode cX2_copyFrom 74 = .ok (.getfield 24, 3) := by decide +kernel
theorem dX2_copyFrom_77 : decode cX2_copyFrom 77 = .ok (.iload_n 2, 1) := by decide +kernel
theorem dX2_copyFrom_78 : decode cX2_copyFrom 78 = .ok (.iaload, 1) := by decide +kernel
theorem dX2_copyFrom_79 : decode cX2_copyFrom 79 = .ok (.iastore, 1) := by decide +kernel
theorem dX2_copyFrom_80 : decode cX2_copyFrom 80 = .ok (.aload_n 0, 1) := by decide +kernel
theorem dX2_copyFrom_81 : decode cX2_copyFrom 81 = .ok (.getfield 27, 3) := by decide +kernel
theorem dX2_copyFrom_84 : decode cX2_copyFrom 84 = .ok (.iload_n 2, 1) := by decide +kernel
theorem dX2_copyFrom_85 : decode cX2_copyFrom 85 = .ok (.aload_n 1, 1) := by decide +kernel
theorem dX2_copyFrom_86 : decode cX2_copyFrom 86 = .ok (.getfield 27, 3) := by decide +kernel
theorem dX2_copyFrom_89 : decode cX2_copyFrom 89 = .ok (.iload_n 2, 1) := by decide +kernel
theorem dX2_copyFrom_90 : decode cX2_copyFrom 90 = .ok (.iaload, 1) := by decide +kernel
theorem dX2_copyFrom_91 : decode cX2_copyFrom 91 = .ok (.iastore, 1) := by decide +kernel
theorem dX2_copyFrom_92 : decode cX2_copyFrom 92 = .ok (.iinc 2 1, 3) := by decide +kernel
theorem dX2_copyFrom_95 : decode cX2_copyFrom 95 = .ok (.goto (-32), 3) := by decide +kernel
theorem dX2_copyFrom_98 : decode cX2_copyFrom 98 = .ok (.aload_n 0, 1) := by decide +kernel
theorem dX2_copyFrom_99 : decode cX2_copyFrom 99 = .ok (.aload_n 1, 1) := by decide +kernel
theorem dX2_copyFrom_100 : decode cX2_copyFrom 100 = .ok (.getfield 30, 3) := by decide +kernel
theorem dX2_copyFrom_103 : decode cX2_copyFrom 103 = .ok (.putfield 30, 3) := by decide +kernel
theorem dX2_copyFrom_106 : decode cX2_copyFrom 106 = .ok (.aload_n 0, 1) := by decide +kernel
theorem dX2_copyFrom_107 : decode cX2_copyFrom 107 = .ok (.aload_n 1, 1) := by decide +kernel
theorem dX2_copyFrom_108 : decode cX2_copyFrom 108 = .ok (.getfield 34, 3) := by decide +kernel
theorem dX2_copyFrom_111 : decode cX2_copyFrom 111 = .ok (.putfield 34, 3) := by decide +kernel
theorem dX2_copyFrom_114 : decode cX2_copyFrom 114 = .ok (.aload_n 0, 1) := by decide +kernel
theorem dX2_copyFrom_115 : decode cX2_copyFrom 115 = .ok (.aload_n 1, 1) := by decide +kernel
theorem dX2_copyFrom_116 : decode cX2_copyFrom 116 = .ok (.getfield 37, 3) := by decide +kernel
theorem dX2_copyFrom_119 : decode cX2_copyFrom 119 = .ok (.putfield 37, 3) := by decide +kernel
theorem dX2_copyFrom_122 : decode cX2_copyFrom 122 = .ok (.aload_n 0, 1) := by decide +kernel
theorem dX2_copyFrom_123 : decode cX2_copyFrom 123 = .ok (.aload_n 1, 1) := by decide +kernel
theorem dX2_copyFrom_124 : decode cX2_copyFrom 124 = .ok (.getfield 40, 3) := by decide +kernel
theorem dX2_copyFrom_127 : decode cX2_copyFrom 127 = .ok (.putfield 40, 3) := by decide +kernel
theorem dX2_copyFrom_130 : decode cX2_copyFrom 130 = .ok (.aload_n 0, 1) := by decide +kernel
theorem dX2_copyFrom_131 : decode cX2_copyFrom 131 = .ok (.aload_n 1, 1) := by decide +kernel
theorem dX2_copyFrom_132 : decode cX2_copyFrom 132 = .ok (.getfield 43, 3) := by decide +kernel
theorem dX2_copyFrom_135 : decode cX2_copyFrom 135 = .ok (.putfield 43, 3) := by decide +kernel
theorem dX2_copyFrom_138 : decode cX2_copyFrom 138 = .ok (.aload_n 0, 1) := by decide +kernel
theorem dX2_copyFrom_139 : decode cX2_copyFrom 139 = .ok (.aload_n 1, 1) := by decide +kernel
theorem dX2_copyFrom_140 : decode cX2_copyFrom 140 = .ok (.getfield 46, 3) := by decide +kernel
theorem dX2_copyFrom_143 : decode cX2_copyFrom 143 = .ok (.putfield 46, 3) := by decide +kernel
theorem dX2_copyFrom_146 : decode cX2_copyFrom 146 = .ok (.aload_n 0, 1) := by decide +kernel
theorem dX2_copyFrom_147 : decode cX2_copyFrom 147 = .ok (.aload_n 1, 1) := by decide +kernel
theorem dX2_copyFrom_148 : decode cX2_copyFrom 148 = .ok (.getfield 49, 3) := by decide +kernel
theorem dX2_copyFrom_151 : decode cX2_copyFrom 151 = .ok (.putfield 49, 3) := by decide +kernel
theorem dX2_copyFrom_154 : decode cX2_copyFrom 154 = .ok (.return_, 1) := by decide +kernel
theorem dX2_changeArea_0 : decode cX2_changeArea 0 = .ok (.aload_n 0, 1) := by decide +kernel
theorem dX2_changeArea_1 : decode cX2_changeArea 1 = .ok (.getfield 9, 3) := by decide +kernel
theorem dX2_changeArea_4 : decode cX2_changeArea 4 = .ok (.iload_n 1, 1) := by decide +kernel
theorem dX2_changeArea_5 : decode cX2_changeArea 5 = .ok (.iaload, 1) := by decide +kernel
theorem dX2_changeArea_6 : decode cX2_changeArea 6 = .ok (.istore_n 3, 1) := by decide +kernel
theorem dX2_changeArea_7 : decode cX2_changeArea 7 = .ok (.aload_n 0, 1) := by decide +kernel
theorem dX2_changeArea_8 : decode cX2_changeArea 8 = .ok (.getfield 9, 3) := by decide +kernel
theorem dX2_changeArea_11 : decode cX2_changeArea 11 = .ok (.iload_n 1, 1) := by decide +kernel
theorem dX2_changeArea_12 : decode cX2_changeArea 12 = .ok (.iload_n 2, 1) := by decide +kernel
theorem dX2_changeArea_13 : decode cX2_changeArea 13 = .ok (.iastore, 1) := by decide +kernel
theorem dX2_changeArea_14 : decode cX2_changeArea 14 = .ok (.aload_n 0, 1) := by decide +kernel
theorem dX2_changeArea_15 : decode cX2_changeArea 15 = .ok (.getfield 15, 3) := by decide +kernel
theorem dX2_changeArea_18 : decode cX2_changeArea 18 = .ok (.iload_n 1, 1) := by decide +kernel
theorem dX2_changeArea_19 : decode cX2_changeArea 19 = .ok (.aload_n 0, 1) := by decide +kernel
theorem dX2_changeArea_20 : decode cX2_changeArea 20 = .ok (.getfield 15, 3) := by decide +kernel
theorem dX2_changeArea_23 : decode cX2_changeArea 23 = .ok (.iload_n 1, 1) := by decide +kernel
theorem dX2_changeArea_24 : decode cX2_changeArea 24 = .ok (.iaload, 1) := by decide +kernel
theorem dX2_changeArea_25 : decode cX2_changeArea 25 = .ok (.iload_n 2, 1) := by decide +kernel
theorem dX2_changeArea_26 : decode cX2_changeArea 26 = .ok (.invokestatic 53, 3) := by decide +kernel
theorem dX2_changeArea_29 : decode cX2_changeArea 29 = .ok (.iastore, 1) := by decide +kernel
theorem dX2_changeArea_30 : decode cX2_changeArea 30 = .ok (.iload_n 3, 1) := by decide +kernel
theorem dX2_changeArea_31 : decode cX2_changeArea 31 = .ok (.ireturn, 1) := by decide +kernel
theorem dX2_changeExemptArea_0 : decode cX2_changeExemptArea 0 = .ok (.aload_n 0, 1) := by decide +kernel
theorem dX2_changeExemptArea_1 : decode cX2_changeExemptArea 1 = .ok (.getfield 15, 3) := by decide +kernel
theorem dX2_changeExemptArea_4 : decode cX2_changeExemptArea 4 = .ok (.iload_n 1, 1) := by decide +kernel
theorem dX2_changeExemptArea_5 : decode cX2_changeExemptArea 5 = .ok (.iaload, 1) := by decide +kernel
theorem dX2_changeExemptArea_6 : decode cX2_changeExemptArea 6 = .ok (.istore_n 3, 1) := by decide +kernel
theorem dX2_changeExemptArea_7 : decode cX2_changeExemptArea 7 = .ok (.aload_n 0, 1) := by decide +kernel
theorem dX2_changeExemptArea_8 : decode cX2_changeExemptArea 8 = .ok (.getfield 15, 3) := by decide +kernel
theorem dX2_changeExemptArea_11 : decode cX2_changeExemptArea 11 = .ok (.iload_n 1, 1) := by decide +kernel
theorem dX2_changeExemptArea_12 : decode cX2_changeExemptArea 12 = .ok (.iload_n 2, 1) := by decide +kernel
theorem dX2_changeExemptArea_13 : decode cX2_changeExemptArea 13 = .ok (.iastore, 1) := by decide +kernel
theorem dX2_changeExemptArea_14 : decode cX2_changeExemptArea 14 = .ok (.iload_n 3, 1) := by decide +kernel
theorem dX2_changeExemptArea_15 : decode cX2_changeExemptArea 15 = .ok (.ireturn, 1) := by decide +kernel
theorem dX2_startOn_0 : decode cX2_startOn 0 = .ok (.aload_n 0, 1) := by decide +kernel
theorem dX2_startOn_1 : decode cX2_startOn 1 = .ok (.iload_n 1, 1) := by decide +kernel
theorem dX2_startOn_2 : decode cX2_startOn 2 = .ok (.putfield 30, 3) := by decide +kernel
theorem dX2_startOn_5 : decode cX2_startOn 5 = .ok (.aload_n 0, 1) := by decide +kernel
theorem dX2_startOn_6 : decode cX2_startOn 6 = .ok (.iload_n 2, 1) := by decide +kernel
theorem dX2_startOn_7 : decode cX2_startOn 7 = .ok (.putfield 34, 3) := by decide +kernel
theorem dX2_startOn_10 : decode cX2_startOn 10 = .ok (.aload_n 0, 1) := by decide +kernel
theorem dX2_startOn_11 : decode cX2_startOn 11 = .ok (.invokevirtual 59, 3) := by decide +kernel
theorem dX2_startOn_14 : decode cX2_startOn 14 = .ok (.aload_n 0, 1) := by decide +kernel
theorem dX2_startOn_15 : decode cX2_startOn 15 = .ok (.invokevirtual 63, 3) := by decide +kernel
theorem dX2_startOn_18 : decode cX2_startOn 18 = .ok (.isub, 1) := by decide +kernel
theorem dX2_startOn_19 : decode cX2_startOn 19 = .ok (.istore_n 3, 1) := by decide +kernel
theorem dX2_startOn_20 : decode cX2_startOn 20 = .ok (.aload_n 0, 1) := by decide +kernel
theorem dX2_startOn_21 : decode cX2_startOn 21 = .ok (.iload_n 3, 1) := by decide +kernel
theorem dX2_startOn_22 : decode cX2_startOn 22 = .ok (.invokestatic 66, 3) := by decide +kernel
theorem dX2_startOn_25 : decode cX2_startOn 25 = .ok (.putfield 37, 3) := by decide +kernel
theorem dX2_startOn_28 : decode cX2_startOn 28 = .ok (.iconst 0, 1) := by decide +kernel
theorem dX2_startOn_29 : decode cX2_startOn 29 = .ok (.istore 4, 2) := by decide +kernel
theorem dX2_startOn_31 : decode cX2_startOn 31 = .ok (.iload 4, 2) := by decide +kernel
theorem dX2_startOn_33 : decode cX2_startOn 33 = .ok (.aload_n 0, 1) := by decide +kernel
theorem dX2_startOn_34 : decode cX2_startOn 34 = .ok (.getfield 37, 3) := by decide +kernel
theorem dX2_startOn_37 : decode cX2_startOn 37 = .ok (.if_icmp .ge 46, 3) := by decide +kernel
theorem dX2_startOn_40 : decode cX2_startOn 40 = .ok (.iload 4, 2) := by decide +kernel
theorem dX2_startOn_42 : decode cX2_startOn 42 = .ok (.iconst 4, 1) := by decide +kernel
theorem dX2_startOn_43 : decode cX2_startOn 43 = .ok (.if_icmp .ge 40, 3) := by decide +kernel
theorem dX2_startOn_46 : decode cX2_startOn 46 = .ok (.aload_n 0, 1) := by decide +kernel
theorem dX2_startOn_47 : decode cX2_startOn 47 = .ok (.getfield 24, 3) := by decide +kernel
theorem dX2_startOn_50 : decode cX2_startOn 50 = .ok (.iload 4, 2) := by decide +kernel
theorem dX2_startOn_52 : decode cX2_startOn 52 = .ok (.iload_n 3, 1) := by decide +kernel
theorem dX2_startOn_53 : decode cX2_startOn 53 = .ok (.aload_n 0, 1) := by decide +kernel
theorem dX2_startOn_54 : decode cX2_startOn 54 = .ok (.getfield 37, 3) := by decide +kernel
theorem dX2_startOn_57 : decode cX2_startOn 57 = .ok (.iload 4, 2) := by decide +kernel
theorem dX2_startOn_59 : decode cX2_startOn 59 = .ok (.invokestatic 70, 3) := by decide +kernel
theorem dX2_startOn_62 : decode cX2_startOn 62 = .ok (.iastore, 1) := by decide +kernel
theorem dX2_startOn_63 : decode cX2_startOn 63 = .ok (.aload_n 0, 1) := by decide +kernel
theorem dX2_startOn_64 : decode cX2_startOn 64 = .ok (.getfield 27, 3) := by decide +kernel
theorem dX2_startOn_67 : decode cX2_startOn 67 = .ok (.iload 4, 2) := by decide +kernel
theorem dX2_startOn_69 : decode cX2_startOn 69 = .ok (.aload_n 0, 1) := by decide +kernel
theorem dX2_startOn_70 : decode cX2_startOn 70 = .ok (.getfield 24, 3) := by decide +kernel
theorem dX2_startOn_73 : decode cX2_startOn 73 = .ok (.iload 4, 2) := by decide +kernel
theorem dX2_startOn_75 : decode cX2_startOn 75 = .ok (.iaload, 1) := by decide +kernel
theorem dX2_startOn_76 : decode cX2_startOn 76 = .ok (.iastore, 1) := by decide +kernel
theorem dX2_startOn_77 : decode cX2_startOn 77 = .ok (.iinc 4 1, 3) := by decide +kernel
theorem dX2_startOn_80 : decode cX2_startOn 80 = .ok (.goto (-49), 3) := by decide +kernel
theorem dX2_startOn_83 : decode cX2_startOn 83 = .ok (.iload_n 3, 1) := by decide +kernel
theorem dX2_startOn_84 : decode cX2_startOn 84 = .ok (.ireturn, 1) := by decide +kernel
theorem dX2_takeMoney_0 : decode cX2_takeMoney 0 = .ok (.iload_n 1, 1) := by decide +kernel
theorem dX2_takeMoney_1 : decode cX2_takeMoney 1 = .ok (.aload_n 0, 1) := by decide +kernel
theorem dX2_takeMoney_2 : decode cX2_takeMoney 2 = .ok (.invokevirtual 74, 3) := by decide +kernel
theorem dX2_takeMoney_5 : decode cX2_takeMoney 5 = .ok (.invokestatic 53, 3) := by decide +kernel
theorem dX2_takeMoney_8 : decode cX2_takeMoney 8 = .ok (.istore_n 2, 1) := by decide +kernel
theorem dX2_takeMoney_9 : decode cX2_takeMoney 9 = .ok (.aload_n 0, 1) := by decide +kernel
theorem dX2_takeMoney_10 : decode cX2_takeMoney 10 = .ok (.dup, 1) := by decide +kernel
theorem dX2_takeMoney_11 : decode cX2_takeMoney 11 = .ok (.getfield 40, 3) := by decide +kernel
theorem dX2_takeMoney_14 : decode cX2_takeMoney 14 = .ok (.iload_n 2, 1) := by decide +kernel
theorem dX2_takeMoney_15 : decode cX2_takeMoney 15 = .ok (.iadd, 1) := by decide +kernel
theorem dX2_takeMoney_16 : decode cX2_takeMoney 16 = .ok (.putfield 40, 3) := by decide +kernel
theorem dX2_takeMoney_19 : decode cX2_takeMoney 19 = .ok (.aload_n 0, 1) := by decide +kernel
theorem dX2_takeMoney_20 : decode cX2_takeMoney 20 = .ok (.iload_n 2, 1) := by decide +kernel
theorem dX2_takeMoney_21 : decode cX2_takeMoney 21 = .ok (.invokevirtual 77, 3) := by decide +kernel
theorem dX2_takeMoney_24 : decode cX2_takeMoney 24 = .ok (.iload_n 2, 1) := by decide +kernel
theorem dX2_takeMoney_25 : decode cX2_takeMoney 25 = .ok (.ireturn, 1) := by decide +kernel
theorem dX2_takeLand_0 : decode cX2_takeLand 0 = .ok (.iload_n 1, 1) := by decide +kernel
theorem dX2_takeLand_1 : decode cX2_takeLand 1 = .ok (.aload_n 0, 1) := by decide +kernel
theorem dX2_takeLand_2 : decode cX2_takeLand 2 = .ok (.invokevirtual 74, 3) := by decide +kernel
theorem dX2_takeLand_5 : decode cX2_takeLand 5 = .ok (.aload_n 0, 1) := by decide +kernel
theorem dX2_takeLand_6 : decode cX2_takeLand 6 = .ok (.iload_n 2, 1) := by decide +kernel
theorem dX2_takeLand_7 : decode cX2_takeLand 7 = .ok (.invokevirtual 81, 3) := by decide +kernel
theorem dX2_takeLand_10 : decode cX2_takeLand 10 = .ok (.invokestatic 53, 3) := by decide +kernel
theorem dX2_takeLand_13 : decode cX2_takeLand 13 = .ok (.invokestatic 53, 3) := by decide +kernel
theorem dX2_takeLand_16 : decode cX2_takeLand 16 = .ok (.istore_n 3, 1) := by decide +kernel
theorem dX2_takeLand_17 : decode cX2_takeLand 17 = .ok (.aload_n 0, 1) := by decide +kernel
theorem dX2_takeLand_18 : decode cX2_takeLand 18 = .ok (.dup, 1) := by decide +kernel
theorem dX2_takeLand_19 : decode cX2_takeLand 19 = .ok (.getfield 43, 3) := by decide +kernel
theorem dX2_takeLand_22 : decode cX2_takeLand 22 = .ok (.iload_n 3, 1) := by decide +kernel
theorem dX2_takeLand_23 : decode cX2_takeLand 23 = .ok (.iadd, 1) := by decide +kernel
theorem dX2_takeLand_24 : decode cX2_takeLand 24 = .ok (.putfield 43, 3) := by decide +kernel
theorem dX2_takeLand_27 : decode cX2_takeLand 27 = .ok (.aload_n 0, 1) := by decide +kernel
theorem dX2_takeLand_28 : decode cX2_takeLand 28 = .ok (.iload_n 3, 1) := by decide +kernel
theorem dX2_takeLand_29 : decode cX2_takeLand 29 = .ok (.invokevirtual 77, 3) := by decide +kernel
theorem dX2_takeLand_32 : decode cX2_takeLand 32 = .ok (.iload_n 3, 1) := by decide +kernel
theorem dX2_takeLand_33 : decode cX2_takeLand 33 = .ok (.ireturn, 1) := by decide +kernel
theorem dX2_settle_0 : decode cX2_settle 0 = .ok (.iload_n 1, 1) := by decide +kernel
theorem dX2_settle_1 : decode cX2_settle 1 = .ok (.istore_n 2, 1) := by decide +kernel
theorem dX2_settle_2 : decode cX2_settle 2 = .ok (.iconst 0, 1) := by decide +kernel
theorem dX2_settle_3 : decode cX2_settle 3 = .ok (.istore_n 3, 1) := by decide +kernel
theorem dX2_settle_4 : decode cX2_settle 4 = .ok (.iload_n 3, 1) := by decide +kernel
theorem dX2_settle_5 : decode cX2_settle 5 = .ok (.aload_n 0, 1) := by decide +kernel
theorem dX2_settle_6 : decode cX2_settle 6 = .ok (.getfield 37, 3) := by decide +kernel
theorem dX2_settle_9 : decode cX2_settle 9 = .ok (.if_icmp .ge 42, 3) := by decide +kernel
theorem dX2_settle_12 : decode cX2_settle 12 = .ok (.iload_n 3, 1) := by decide +kernel
theorem dX2_settle_13 : decode cX2_settle 13 = .ok (.iconst 4, 1) := by decide +kernel
theorem dX2_settle_14 : decode cX2_settle 14 = .ok (.if_icmp .ge 37, 3) := by decide +kernel
theorem dX2_settle_17 : decode cX2_settle 17 = .ok (.iload_n 2, 1) := by decide +kernel
theorem dX2_settle_18 : decode cX2_settle 18 = .ok (.aload_n 0, 1) := by decide +kernel
theorem dX2_settle_19 : decode cX2_settle 19 = .ok (.getfield 27, 3) := by decide +kernel
theorem dX2_settle_22 : decode cX2_settle 22 = .ok (.iload_n 3, 1) := by decide +kernel
theorem dX2_settle_23 : decode cX2_settle 23 = .ok (.iaload, 1) := by decide +kernel
theorem dX2_settle_24 : decode cX2_settle 24 = .ok (.invokestatic 53, 3) := by decide +kernel
theorem dX2_settle_27 : decode cX2_settle 27 = .ok (.istore 4, 2) := by decide +kernel
theorem dX2_settle_29 : decode cX2_settle 29 = .ok (.aload_n 0, 1) := by decide +kernel
theorem dX2_settle_30 : decode cX2_settle 30 = .ok (.getfield 27, 3) := by decide +kernel
theorem dX2_settle_33 : decode cX2_settle 33 = .ok (.iload_n 3, 1) := by decide +kernel
theorem dX2_settle_34 : decode cX2_settle 34 = .ok (.dup2, 1) := by decide +kernel
theorem dX2_settle_35 : decode cX2_settle 35 = .ok (.iaload, 1) := by decide +kernel
theorem dX2_settle_36 : decode cX2_settle 36 = .ok (.iload 4, 2) := by decide +kernel
theorem dX2_settle_38 : decode cX2_settle 38 = .ok (.isub, 1) := by decide +kernel
theorem dX2_settle_39 : decode cX2_settle 39 = .ok (.iastore, 1) := by decide +kernel
theorem dX2_settle_40 : decode cX2_settle 40 = .ok (.iload_n 2, 1) := by decide +kernel
theorem dX2_settle_41 : decode cX2_settle 41 = .ok (.iload 4, 2) := by decide +kernel
theorem dX2_settle_43 : decode cX2_settle 43 = .ok (.isub, 1) := by decide +kernel
theorem dX2_settle_44 : decode cX2_settle 44 = .ok (.istore_n 2, 1) := by decide +kernel
theorem dX2_settle_45 : decode cX2_settle 45 = .ok (.iinc 3 1, 3) := by decide +kernel
theorem dX2_settle_48 : decode cX2_settle 48 = .ok (.goto (-44), 3) := by decide +kernel
theorem dX2_settle_51 : decode cX2_settle 51 = .ok (.return_, 1) := by decide +kernel
theorem dX2_endRelief_0 : decode cX2_endRelief 0 = .ok (.aload_n 0, 1) := by decide +kernel
theorem dX2_endRelief_1 : decode cX2_endRelief 1 = .ok (.iload_n 1, 1) := by decide +kernel
theorem dX2_endRelief_2 : decode cX2_endRelief 2 = .ok (.invokevirtual 84, 3) := by decide +kernel
theorem dX2_endRelief_5 : decode cX2_endRelief 5 = .ok (.istore_n 2, 1) := by decide +kernel
theorem dX2_endRelief_6 : decode cX2_endRelief 6 = .ok (.aload_n 0, 1) := by decide +kernel
theorem dX2_endRelief_7 : decode cX2_endRelief 7 = .ok (.getfield 21, 3) := by decide +kernel
theorem dX2_endRelief_10 : decode cX2_endRelief 10 = .ok (.iload_n 1, 1) := by decide +kernel
theorem dX2_endRelief_11 : decode cX2_endRelief 11 = .ok (.dup2, 1) := by decide +kernel
theorem dX2_endRelief_12 : decode cX2_endRelief 12 = .ok (.iaload, 1) := by decide +kernel
theorem dX2_endRelief_13 : decode cX2_endRelief 13 = .ok (.iload_n 2, 1) := by decide +kernel
theorem dX2_endRelief_14 : decode cX2_endRelief 14 = .ok (.iadd, 1) := by decide +kernel
theorem dX2_endRelief_15 : decode cX2_endRelief 15 = .ok (.iastore, 1) := by decide +kernel
theorem dX2_endRelief_16 : decode cX2_endRelief 16 = .ok (.iload_n 2, 1) := by decide +kernel
theorem dX2_endRelief_17 : decode cX2_endRelief 17 = .ok (.ireturn, 1) := by decide +kernel
theorem dX2_hasBegun_0 : decode cX2_hasBegun 0 = .ok (.aload_n 0, 1) := by decide +kernel
theorem dX2_hasBegun_1 : decode cX2_hasBegun 1 = .ok (.getfield 30, 3) := by decide +kernel
theorem dX2_hasBegun_4 : decode cX2_hasBegun 4 = .ok (.iconst (-1), 1) := by decide +kernel
theorem dX2_hasBegun_5 : decode cX2_hasBegun 5 = .ok (.if_icmp .eq 7, 3) := by decide +kernel
theorem dX2_hasBegun_8 : decode cX2_hasBegun 8 = .ok (.iconst 1, 1) := by decide +kernel
theorem dX2_hasBegun_9 : decode cX2_hasBegun 9 = .ok (.goto 4, 3) := by decide +kernel
theorem dX2_hasBegun_12 : decode cX2_hasBegun 12 = .ok (.iconst 0, 1) := by decide +kernel
theorem dX2_hasBegun_13 : decode cX2_hasBegun 13 = .ok (.ireturn, 1) := by decide +kernel
theorem dX2_chargeOfUse_0 : decode cX2_chargeOfUse 0 = .ok (.aload_n 0, 1) := by decide +kernel
theorem dX2_chargeOfUse_1 : decode cX2_chargeOfUse 1 = .ok (.getfield 9, 3) := by decide +kernel
theorem dX2_chargeOfUse_4 : decode cX2_chargeOfUse 4 = .ok (.iload_n 1, 1) := by decide +kernel
theorem dX2_chargeOfUse_5 : decode cX2_chargeOfUse 5 = .ok (.iaload, 1) := by decide +kernel
theorem dX2_chargeOfUse_6 : decode cX2_chargeOfUse 6 = .ok (.aload_n 0, 1) := by decide +kernel
theorem dX2_chargeOfUse_7 : decode cX2_chargeOfUse 7 = .ok (.getfield 18, 3) := by decide +kernel
theorem dX2_chargeOfUse_10 : decode cX2_chargeOfUse 10 = .ok (.iload_n 1, 1) := by decide +kernel
theorem dX2_chargeOfUse_11 : decode cX2_chargeOfUse 11 = .ok (.iaload, 1) := by decide +kernel
theorem dX2_chargeOfUse_12 : decode cX2_chargeOfUse 12 = .ok (.imul, 1) := by decide +kernel
theorem dX2_chargeOfUse_13 : decode cX2_chargeOfUse 13 = .ok (.ireturn, 1) := by decide +kernel
theorem dX2_reliefOfUse_0 : decode cX2_reliefOfUse 0 = .ok (.aload_n 0, 1) := by decide +kernel
theorem dX2_reliefOfUse_1 : decode cX2_reliefOfUse 1 = .ok (.getfield 15, 3) := by decide +kernel
theorem dX2_reliefOfUse_4 : decode cX2_reliefOfUse 4 = .ok (.iload_n 1, 1) := by decide +kernel
theorem dX2_reliefOfUse_5 : decode cX2_reliefOfUse 5 = .ok (.iaload, 1) := by decide +kernel
theorem dX2_reliefOfUse_6 : decode cX2_reliefOfUse 6 = .ok (.aload_n 0, 1) := by decide +kernel
theorem dX2_reliefOfUse_7 : decode cX2_reliefOfUse 7 = .ok (.getfield 18, 3) := by decide +kernel
theorem dX2_reliefOfUse_10 : decode cX2_reliefOfUse 10 = .ok (.iload_n 1, 1) := by decide +kernel
theorem dX2_reliefOfUse_11 : decode cX2_reliefOfUse 11 = .ok (.iaload, 1) := by decide +kernel
theorem dX2_reliefOfUse_12 : decode cX2_reliefOfUse 12 = .ok (.imul, 1) := by decide +kernel
theorem dX2_reliefOfUse_13 : decode cX2_reliefOfUse 13 = .ok (.aload_n 0, 1) := by decide +kernel
theorem dX2_reliefOfUse_14 : decode cX2_reliefOfUse 14 = .ok (.getfield 21, 3) := by decide +kernel
theorem dX2_reliefOfUse_17 : decode cX2_reliefOfUse 17 = .ok (.iload_n 1, 1) := by decide +kernel
theorem dX2_reliefOfUse_18 : decode cX2_reliefOfUse 18 = .ok (.iaload, 1) := by decide +kernel
theorem dX2_reliefOfUse_19 : decode cX2_reliefOfUse 19 = .ok (.isub, 1) := by decide +kernel
theorem dX2_reliefOfUse_20 : decode cX2_reliefOfUse 20 = .ok (.ireturn, 1) := by decide +kernel
theorem dX2_charge_0 : decode cX2_charge 0 = .ok (.iconst 0, 1) := by decide +kernel
theorem dX2_charge_1 : decode cX2_charge 1 = .ok (.istore_n 1, 1) := by decide +kernel
theorem dX2_charge_2 : decode cX2_charge 2 = .ok (.iconst 0, 1) := by decide +kernel
theorem dX2_charge_3 : decode cX2_charge 3 = .ok (.istore_n 2, 1) := by decide +kernel
theorem dX2_charge_4 : decode cX2_charge 4 = .ok (.iload_n 2, 1) := by decide +kernel
theorem dX2_charge_5 : decode cX2_charge 5 = .ok (.iconst 4, 1) := by decide +kernel
theorem dX2_charge_6 : decode cX2_charge 6 = .ok (.if_icmp .ge 25, 3) := by decide +kernel
theorem dX2_charge_9 : decode cX2_charge 9 = .ok (.iload_n 1, 1) := by decide +kernel
theorem dX2_charge_10 : decode cX2_charge 10 = .ok (.aload_n 0, 1) := by decide +kernel
theorem dX2_charge_11 : decode cX2_charge 11 = .ok (.getfield 9, 3) := by decide +kernel
theorem dX2_charge_14 : decode cX2_charge 14 = .ok (.iload_n 2, 1) := by decide +kernel
theorem dX2_charge_15 : decode cX2_charge 15 = .ok (.iaload, 1) := by decide +kernel
theorem dX2_charge_16 : decode cX2_charge 16 = .ok (.aload_n 0, 1) := by decide +kernel
theorem dX2_charge_17 : decode cX2_charge 17 = .ok (.getfield 18, 3) := by decide +kernel
theorem dX2_charge_20 : decode cX2_charge 20 = .ok (.iload_n 2, 1) := by decide +kernel
theorem dX2_charge_21 : decode cX2_charge 21 = .ok (.iaload, 1) := by decide +kernel
theorem dX2_charge_22 : decode cX2_charge 22 = .ok (.imul, 1) := by decide +kernel
theorem dX2_charge_23 : decode cX2_charge 23 = .ok (.iadd, 1) := by decide +kernel
theorem dX2_charge_24 : decode cX2_charge 24 = .ok (.istore_n 1, 1) := by decide +kernel
theorem dX2_charge_25 : decode cX2_charge 25 = .ok (.iinc 2 1, 3) := by decide +kernel
theorem dX2_charge_28 : decode cX2_charge 28 = .ok (.goto (-24), 3) := by decide +kernel
theorem dX2_charge_31 : decode cX2_charge 31 = .ok (.iload_n 1, 1) := by decide +kernel
theorem dX2_charge_32 : decode cX2_charge 32 = .ok (.ireturn, 1) := by decide +kernel
theorem dX2_relief_0 : decode cX2_relief 0 = .ok (.iconst 0, 1) := by decide +kernel
theorem dX2_relief_1 : decode cX2_relief 1 = .ok (.istore_n 1, 1) := by decide +kernel
theorem dX2_relief_2 : decode cX2_relief 2 = .ok (.iconst 0, 1) := by decide +kernel
theorem dX2_relief_3 : decode cX2_relief 3 = .ok (.istore_n 2, 1) := by decide +kernel
theorem dX2_relief_4 : decode cX2_relief 4 = .ok (.iload_n 2, 1) := by decide +kernel
theorem dX2_relief_5 : decode cX2_relief 5 = .ok (.iconst 4, 1) := by decide +kernel
theorem dX2_relief_6 : decode cX2_relief 6 = .ok (.if_icmp .ge 32, 3) := by decide +kernel
theorem dX2_relief_9 : decode cX2_relief 9 = .ok (.iload_n 1, 1) := by decide +kernel
theorem dX2_relief_10 : decode cX2_relief 10 = .ok (.aload_n 0, 1) := by decide +kernel
theorem dX2_relief_11 : decode cX2_relief 11 = .ok (.getfield 15, 3) := by decide +kernel
theorem dX2_relief_14 : decode cX2_relief 14 = .ok (.iload_n 2, 1) := by decide +kernel
theorem dX2_relief_15 : decode cX2_relief 15 = .ok (.iaload, 1) := by decide +kernel
theorem dX2_relief_16 : decode cX2_relief 16 = .ok (.aload_n 0, 1) := by decide +kernel
theorem dX2_relief_17 : decode cX2_relief 17 = .ok (.getfield 18, 3) := by decide +kernel
theorem dX2_relief_20 : decode cX2_relief 20 = .ok (.iload_n 2, 1) := by decide +kernel
theorem dX2_relief_21 : decode cX2_relief 21 = .ok (.iaload, 1) := by decide +kernel
theorem dX2_relief_22 : decode cX2_relief 22 = .ok (.imul, 1) := by decide +kernel
theorem dX2_relief_23 : decode cX2_relief 23 = .ok (.aload_n 0, 1) := by decide +kernel
theorem dX2_relief_24 : decode cX2_relief 24 = .ok (.getfield 21, 3) := by decide +kernel
theorem dX2_relief_27 : decode cX2_relief 27 = .ok (.iload_n 2, 1) := by decide +kernel
theorem dX2_relief_28 : decode cX2_relief 28 = .ok (.iaload, 1) := by decide +kernel
theorem dX2_relief_29 : decode cX2_relief 29 = .ok (.isub, 1) := by decide +kernel
theorem dX2_relief_30 : decode cX2_relief 30 = .ok (.iadd, 1) := by decide +kernel
theorem dX2_relief_31 : decode cX2_relief 31 = .ok (.istore_n 1, 1) := by decide +kernel
theorem dX2_relief_32 : decode cX2_relief 32 = .ok (.iinc 2 1, 3) := by decide +kernel
theorem dX2_relief_35 : decode cX2_relief 35 = .ok (.goto (-31), 3) := by decide +kernel
theorem dX2_relief_38 : decode cX2_relief 38 = .ok (.iload_n 1, 1) := by decide +kernel
theorem dX2_relief_39 : decode cX2_relief 39 = .ok (.ireturn, 1) := by decide +kernel
theorem dX2_lapsedSoFar_0 : decode cX2_lapsedSoFar 0 = .ok (.iconst 0, 1) := by decide +kernel
theorem dX2_lapsedSoFar_1 : decode cX2_lapsedSoFar 1 = .ok (.istore_n 1, 1) := by decide +kernel
theorem dX2_lapsedSoFar_2 : decode cX2_lapsedSoFar 2 = .ok (.iconst 0, 1) := by decide +kernel
theorem dX2_lapsedSoFar_3 : decode cX2_lapsedSoFar 3 = .ok (.istore_n 2, 1) := by decide +kernel
theorem dX2_lapsedSoFar_4 : decode cX2_lapsedSoFar 4 = .ok (.iload_n 2, 1) := by decide +kernel
theorem dX2_lapsedSoFar_5 : decode cX2_lapsedSoFar 5 = .ok (.iconst 4, 1) := by decide +kernel
theorem dX2_lapsedSoFar_6 : decode cX2_lapsedSoFar 6 = .ok (.if_icmp .ge 18, 3) := by decide +kernel
theorem dX2_lapsedSoFar_9 : decode cX2_lapsedSoFar 9 = .ok (.iload_n 1, 1) := by decide +kernel
theorem dX2_lapsedSoFar_10 : decode cX2_lapsedSoFar 10 = .ok (.aload_n 0, 1) := by decide +kernel
theorem dX2_lapsedSoFar_11 : decode cX2_lapsedSoFar 11 = .ok (.getfield 21, 3) := by decide +kernel
theorem dX2_lapsedSoFar_14 : decode cX2_lapsedSoFar 14 = .ok (.iload_n 2, 1) := by decide +kernel
theorem dX2_lapsedSoFar_15 : decode cX2_lapsedSoFar 15 = .ok (.iaload, 1) := by decide +kernel
theorem dX2_lapsedSoFar_16 : decode cX2_lapsedSoFar 16 = .ok (.iadd, 1) := by decide +kernel
theorem dX2_lapsedSoFar_17 : decode cX2_lapsedSoFar 17 = .ok (.istore_n 1, 1) := by decide +kernel
theorem dX2_lapsedSoFar_18 : decode cX2_lapsedSoFar 18 = .ok (.iinc 2 1, 3) := by decide +kernel
theorem dX2_lapsedSoFar_21 : decode cX2_lapsedSoFar 21 = .ok (.goto (-17), 3) := by decide +kernel
theorem dX2_lapsedSoFar_24 : decode cX2_lapsedSoFar 24 = .ok (.iload_n 1, 1) := by decide +kernel
theorem dX2_lapsedSoFar_25 : decode cX2_lapsedSoFar 25 = .ok (.ireturn, 1) := by decide +kernel
theorem dX2_areaOfAllUses_0 : decode cX2_areaOfAllUses 0 = .ok (.iconst 0, 1) := by decide +kernel
theorem dX2_areaOfAllUses_1 : decode cX2_areaOfAllUses 1 = .ok (.istore_n 1, 1) := by decide +kernel
theorem dX2_areaOfAllUses_2 : decode cX2_areaOfAllUses 2 = .ok (.iconst 0, 1) := by decide +kernel
theorem dX2_areaOfAllUses_3 : decode cX2_areaOfAllUses 3 = .ok (.istore_n 2, 1) := by decide +kernel
theorem dX2_areaOfAllUses_4 : decode cX2_areaOfAllUses 4 = .ok (.iload_n 2, 1) := by decide +kernel
theorem dX2_areaOfAllUses_5 : decode cX2_areaOfAllUses 5 = .ok (.iconst 4, 1) := by decide +kernel
theorem dX2_areaOfAllUses_6 : decode cX2_areaOfAllUses 6 = .ok (.if_icmp .ge 18, 3) := by decide +kernel
theorem dX2_areaOfAllUses_9 : decode cX2_areaOfAllUses 9 = .ok (.iload_n 1, 1) := by decide +kernel
theorem dX2_areaOfAllUses_10 : decode cX2_areaOfAllUses 10 = .ok (.aload_n 0, 1) := by decide +kernel
theorem dX2_areaOfAllUses_11 : decode cX2_areaOfAllUses 11 = .ok (.getfield 9, 3) := by decide +kernel
theorem dX2_areaOfAllUses_14 : decode cX2_areaOfAllUses 14 = .ok (.iload_n 2, 1) := by decide +kernel
theorem dX2_areaOfAllUses_15 : decode cX2_areaOfAllUses 15 = .ok (.iaload, 1) := by decide +kernel
theorem dX2_areaOfAllUses_16 : decode cX2_areaOfAllUses 16 = .ok (.iadd, 1) := by decide +kernel
theorem dX2_areaOfAllUses_17 : decode cX2_areaOfAllUses 17 = .ok (.istore_n 1, 1) := by decide +kernel
theorem dX2_areaOfAllUses_18 : decode cX2_areaOfAllUses 18 = .ok (.iinc 2 1, 3) := by decide +kernel
theorem dX2_areaOfAllUses_21 : decode cX2_areaOfAllUses 21 = .ok (.goto (-17), 3) := by decide +kernel
theorem dX2_areaOfAllUses_24 : decode cX2_areaOfAllUses 24 = .ok (.iload_n 1, 1) := by decide +kernel
theorem dX2_areaOfAllUses_25 : decode cX2_areaOfAllUses 25 = .ok (.ireturn, 1) := by decide +kernel
theorem dX2_owed_0 : decode cX2_owed 0 = .ok (.aload_n 0, 1) := by decide +kernel
theorem dX2_owed_1 : decode cX2_owed 1 = .ok (.invokevirtual 87, 3) := by decide +kernel
theorem dX2_owed_4 : decode cX2_owed 4 = .ok (.ifCond .eq 30, 3) := by decide +kernel
theorem dX2_owed_7 : decode cX2_owed 7 = .ok (.aload_n 0, 1) := by decide +kernel
theorem dX2_owed_8 : decode cX2_owed 8 = .ok (.invokevirtual 59, 3) := by decide +kernel
theorem dX2_owed_11 : decode cX2_owed 11 = .ok (.aload_n 0, 1) := by decide +kernel
theorem dX2_owed_12 : decode cX2_owed 12 = .ok (.invokevirtual 63, 3) := by decide +kernel
theorem dX2_owed_15 : decode cX2_owed 15 = .ok (.isub, 1) := by decide +kernel
theorem dX2_owed_16 : decode cX2_owed 16 = .ok (.aload_n 0, 1) := by decide +kernel
theorem dX2_owed_17 : decode cX2_owed 17 = .ok (.getfield 46, 3) := by decide +kernel
theorem dX2_owed_20 : decode cX2_owed 20 = .ok (.iadd, 1) := by decide +kernel
theorem dX2_owed_21 : decode cX2_owed 21 = .ok (.aload_n 0, 1) := by decide +kernel
theorem dX2_owed_22 : decode cX2_owed 22 = .ok (.getfield 40, 3) := by decide +kernel
theorem dX2_owed_25 : decode cX2_owed 25 = .ok (.isub, 1) := by decide +kernel
theorem dX2_owed_26 : decode cX2_owed 26 = .ok (.aload_n 0, 1) := by decide +kernel
theorem dX2_owed_27 : decode cX2_owed 27 = .ok (.getfield 43, 3) := by decide +kernel
theorem dX2_owed_30 : decode cX2_owed 30 = .ok (.isub, 1) := by decide +kernel
theorem dX2_owed_31 : decode cX2_owed 31 = .ok (.goto 4, 3) := by decide +kernel
theorem dX2_owed_34 : decode cX2_owed 34 = .ok (.iconst 0, 1) := by decide +kernel
theorem dX2_owed_35 : decode cX2_owed 35 = .ok (.ireturn, 1) := by decide +kernel
theorem dX2_roomForLand_0 : decode cX2_roomForLand 0 = .ok (.aload_n 0, 1) := by decide +kernel
theorem dX2_roomForLand_1 : decode cX2_roomForLand 1 = .ok (.invokevirtual 87, 3) := by decide +kernel
theorem dX2_roomForLand_4 : decode cX2_roomForLand 4 = .ok (.ifCond .eq 28, 3) := by decide +kernel
theorem dX2_roomForLand_7 : decode cX2_roomForLand 7 = .ok (.iconst 0, 1) := by decide +kernel
theorem dX2_roomForLand_8 : decode cX2_roomForLand 8 = .ok (.iload_n 1, 1) := by decide +kernel
theorem dX2_roomForLand_9 : decode cX2_roomForLand 9 = .ok (.aload_n 0, 1) := by decide +kernel
theorem dX2_roomForLand_10 : decode cX2_roomForLand 10 = .ok (.invokevirtual 59, 3) := by decide +kernel
theorem dX2_roomForLand_13 : decode cX2_roomForLand 13 = .ok (.aload_n 0, 1) := by decide +kernel
theorem dX2_roomForLand_14 : decode cX2_roomForLand 14 = .ok (.invokevirtual 63, 3) := by decide +kernel
theorem dX2_roomForLand_17 : decode cX2_roomForLand 17 = .ok (.isub, 1) := by decide +kernel
theorem dX2_roomForLand_18 : decode cX2_roomForLand 18 = .ok (.invokestatic 91, 3) := by decide +kernel
theorem dX2_roomForLand_21 : decode cX2_roomForLand 21 = .ok (.aload_n 0, 1) := by decide +kernel
theorem dX2_roomForLand_22 : decode cX2_roomForLand 22 = .ok (.getfield 43, 3) := by decide +kernel
theorem dX2_roomForLand_25 : decode cX2_roomForLand 25 = .ok (.isub, 1) := by decide +kernel
theorem dX2_roomForLand_26 : decode cX2_roomForLand 26 = .ok (.invokestatic 94, 3) := by decide +kernel
theorem dX2_roomForLand_29 : decode cX2_roomForLand 29 = .ok (.goto 4, 3) := by decide +kernel
theorem dX2_roomForLand_32 : decode cX2_roomForLand 32 = .ok (.iconst 0, 1) := by decide +kernel
theorem dX2_roomForLand_33 : decode cX2_roomForLand 33 = .ok (.ireturn, 1) := by decide +kernel
theorem dX2_lastDayOfInstalment_0 : decode cX2_lastDayOfInstalment 0 = .ok (.aload_n 0, 1) := by decide +kernel
theorem dX2_lastDayOfInstalment_1 : decode cX2_lastDayOfInstalment 1 = .ok (.getfield 30, 3) := by decide +kernel
theorem dX2_lastDayOfInstalment_4 : decode cX2_lastDayOfInstalment 4 = .ok (.iload_n 1, 1) := by decide +kernel
theorem dX2_lastDayOfInstalment_5 : decode cX2_lastDayOfInstalment 5 = .ok (.iconst 1, 1) := by decide +kernel
theorem dX2_lastDayOfInstalment_6 : decode cX2_lastDayOfInstalment 6 = .ok (.iadd, 1) := by decide +kernel
theorem dX2_lastDayOfInstalment_7 : decode cX2_lastDayOfInstalment 7 = .ok (.aload_n 0, 1) := by decide +kernel
theorem dX2_lastDayOfInstalment_8 : decode cX2_lastDayOfInstalment 8 = .ok (.getfield 34, 3) := by decide +kernel
theorem dX2_lastDayOfInstalment_11 : decode cX2_lastDayOfInstalment 11 = .ok (.imul, 1) := by decide +kernel
theorem dX2_lastDayOfInstalment_12 : decode cX2_lastDayOfInstalment 12 = .ok (.iadd, 1) := by decide +kernel
theorem dX2_lastDayOfInstalment_13 : decode cX2_lastDayOfInstalment 13 = .ok (.ireturn, 1) := by decide +kernel
theorem dX2_instalmentsPaidWhole_0 : decode cX2_instalmentsPaidWhole 0 = .ok (.iconst 0, 1) := by decide +kernel
theorem dX2_instalmentsPaidWhole_1 : decode cX2_instalmentsPaidWhole 1 = .ok (.istore_n 1, 1) := by decide +kernel
theorem dX2_instalmentsPaidWhole_2 : decode cX2_instalmentsPaidWhole 2 = .ok (.iconst 0, 1) := by decide +kernel
theorem dX2_instalmentsPaidWhole_3 : decode cX2_instalmentsPaidWhole 3 = .ok (.istore_n 2, 1) := by decide +kernel
theorem dX2_instalmentsPaidWhole_4 : decode cX2_instalmentsPaidWhole 4 = .ok (.iload_n 2, 1) := by decide +kernel
theorem dX2_instalmentsPaidWhole_5 : decode cX2_instalmentsPaidWhole 5 = .ok (.aload_n 0, 1) := by decide +kernel
theorem dX2_instalmentsPaidWhole_6 : decode cX2_instalmentsPaidWhole 6 = .ok (.getfield 37, 3) := by decide +kernel
theorem dX2_instalmentsPaidWhole_9 : decode cX2_instalmentsPaidWhole 9 = .ok (.if_icmp .ge 26, 3) := by decide +kernel
theorem dX2_instalmentsPaidWhole_12 : decode cX2_instalmentsPaidWhole 12 = .ok (.iload_n 2, 1) := by decide +kernel
theorem dX2_instalmentsPaidWhole_13 : decode cX2_instalmentsPaidWhole 13 = .ok (.iconst 4, 1) := by decide +kernel
theorem dX2_instalmentsPaidWhole_14 : decode cX2_instalmentsPaidWhole 14 = .ok (.if_icmp .ge 21, 3) := by decide +kernel
theorem dX2_instalmentsPaidWhole_17 : decode cX2_instalmentsPaidWhole 17 = .ok (.aload_n 0, 1) := by decide +kernel
theorem dX2_instalmentsPaidWhole_18 : decode cX2_instalmentsPaidWhole 18 = .ok (.getfield 27, 3) := by decide +kernel
theorem dX2_instalmentsPaidWhole_21 : decode cX2_instalmentsPaidWhole 21 = .ok (.iload_n 2, 1) := by decide +kernel
theorem dX2_instalmentsPaidWhole_22 : decode cX2_instalmentsPaidWhole 22 = .ok (.iaload, 1) := by decide +kernel
theorem dX2_instalmentsPaidWhole_23 : decode cX2_instalmentsPaidWhole 23 = .ok (.ifCond .ne 6, 3) := by decide +kernel
theorem dX2_instalmentsPaidWhole_26 : decode cX2_instalmentsPaidWhole 26 = .ok (.iinc 1 1, 3) := by decide +kernel
theorem dX2_instalmentsPaidWhole_29 : decode cX2_instalmentsPaidWhole 29 = .ok (.iinc 2 1, 3) := by decide +kernel
theorem dX2_instalmentsPaidWhole_32 : decode cX2_instalmentsPaidWhole 32 = .ok (.goto (-28), 3) := by decide +kernel
theorem dX2_instalmentsPaidWhole_35 : decode cX2_instalmentsPaidWhole 35 = .ok (.iload_n 1, 1) := by decide +kernel
theorem dX2_instalmentsPaidWhole_36 : decode cX2_instalmentsPaidWhole 36 = .ok (.ireturn, 1) := by decide +kernel
theorem dX2_dueOn_0 : decode cX2_dueOn 0 = .ok (.aload_n 0, 1) := by decide +kernel
theorem dX2_dueOn_1 : decode cX2_dueOn 1 = .ok (.getfield 49, 3) := by decide +kernel
theorem dX2_dueOn_4 : decode cX2_dueOn 4 = .ok (.ifCond .eq 8, 3) := by decide +kernel
theorem dX2_dueOn_7 : decode cX2_dueOn 7 = .ok (.aload_n 0, 1) := by decide +kernel
theorem dX2_dueOn_8 : decode cX2_dueOn 8 = .ok (.invokevirtual 74, 3) := by decide +kernel
theorem dX2_dueOn_11 : decode cX2_dueOn 11 = .ok (.ireturn, 1) := by decide +kernel
theorem dX2_dueOn_12 : decode cX2_dueOn 12 = .ok (.iconst 0, 1) := by decide +kernel
theorem dX2_dueOn_13 : decode cX2_dueOn 13 = .ok (.istore_n 2, 1) := by decide +kernel
theorem dX2_dueOn_14 : decode cX2_dueOn 14 = .ok (.iconst 0, 1) := by decide +kernel
theorem dX2_dueOn_15 : decode cX2_dueOn 15 = .ok (.istore_n 3, 1) := by decide +kernel
theorem dX2_dueOn_16 : decode cX2_dueOn 16 = .ok (.iload_n 3, 1) := by decide +kernel
theorem dX2_dueOn_17 : decode cX2_dueOn 17 = .ok (.aload_n 0, 1) := by decide +kernel
theorem dX2_dueOn_18 : decode cX2_dueOn 18 = .ok (.getfield 37, 3) := by decide +kernel
theorem dX2_dueOn_21 : decode cX2_dueOn 21 = .ok (.if_icmp .ge 32, 3) := by decide +kernel
theorem dX2_dueOn_24 : decode cX2_dueOn 24 = .ok (.iload_n 3, 1) := by decide +kernel
theorem dX2_dueOn_25 : decode cX2_dueOn 25 = .ok (.iconst 4, 1) := by decide +kernel
theorem dX2_dueOn_26 : decode cX2_dueOn 26 = .ok (.if_icmp .ge 27, 3) := by decide +kernel
theorem dX2_dueOn_29 : decode cX2_dueOn 29 = .ok (.aload_n 0, 1) := by decide +kernel
theorem dX2_dueOn_30 : decode cX2_dueOn 30 = .ok (.iload_n 3, 1) := by decide +kernel
theorem dX2_dueOn_31 : decode cX2_dueOn 31 = .ok (.invokevirtual 97, 3) := by decide +kernel
theorem dX2_dueOn_34 : decode cX2_dueOn 34 = .ok (.iload_n 1, 1) := by decide +kernel
theorem dX2_dueOn_35 : decode cX2_dueOn 35 = .ok (.if_icmp .le 12, 3) := by decide +kernel
theorem dX2_dueOn_38 : decode cX2_dueOn 38 = .ok (.iload_n 2, 1) := by decide +kernel
theorem dX2_dueOn_39 : decode cX2_dueOn 39 = .ok (.aload_n 0, 1) := by decide +kernel
theorem dX2_dueOn_40 : decode cX2_dueOn 40 = .ok (.getfield 27, 3) := by decide +kernel
theorem dX2_dueOn_43 : decode cX2_dueOn 43 = .ok (.iload_n 3, 1) := by decide +kernel
theorem dX2_dueOn_44 : decode cX2_dueOn 44 = .ok (.iaload, 1) := by decide +kernel
theorem dX2_dueOn_45 : decode cX2_dueOn 45 = .ok (.iadd, 1) := by decide +kernel
theorem dX2_dueOn_46 : decode cX2_dueOn 46 = .ok (.istore_n 2, 1) := by decide +kernel
theorem dX2_dueOn_47 : decode cX2_dueOn 47 = .ok (.iinc 3 1, 3) := by decide +kernel
theorem dX2_dueOn_50 : decode cX2_dueOn 50 = .ok (.goto (-34), 3) := by decide +kernel
theorem dX2_dueOn_53 : decode cX2_dueOn 53 = .ok (.aload_n 0, 1) := by decide +kernel
theorem dX2_dueOn_54 : decode cX2_dueOn 54 = .ok (.invokevirtual 74, 3) := by decide +kernel
theorem dX2_dueOn_57 : decode cX2_dueOn 57 = .ok (.iload_n 2, 1) := by decide +kernel
theorem dX2_dueOn_58 : decode cX2_dueOn 58 = .ok (.isub, 1) := by decide +kernel
theorem dX2_dueOn_59 : decode cX2_dueOn 59 = .ok (.ireturn, 1) := by decide +kernel
theorem dX2_dayOfBreak_0 : decode cX2_dayOfBreak 0 = .ok (.aload_n 0, 1) := by decide +kernel
theorem dX2_dayOfBreak_1 : decode cX2_dayOfBreak 1 = .ok (.invokevirtual 100, 3) := by decide +kernel
theorem dX2_dayOfBreak_4 : decode cX2_dayOfBreak 4 = .ok (.istore_n 1, 1) := by decide +kernel
theorem dX2_dayOfBreak_5 : decode cX2_dayOfBreak 5 = .ok (.aload_n 0, 1) := by decide +kernel
theorem dX2_dayOfBreak_6 : decode cX2_dayOfBreak 6 = .ok (.getfield 49, 3) := by decide +kernel
theorem dX2_dayOfBreak_9 : decode cX2_dayOfBreak 9 = .ok (.ifCond .ne 11, 3) := by decide +kernel
theorem dX2_dayOfBreak_12 : decode cX2_dayOfBreak 12 = .ok (.iload_n 1, 1) := by decide +kernel
theorem dX2_dayOfBreak_13 : decode cX2_dayOfBreak 13 = .ok (.aload_n 0, 1) := by decide +kernel
theorem dX2_dayOfBreak_14 : decode cX2_dayOfBreak 14 = .ok (.getfield 37, 3) := by decide +kernel
theorem dX2_dayOfBreak_17 : decode cX2_dayOfBreak 17 = .ok (.if_icmp .lt 7, 3) := by decide +kernel
theorem dX2_dayOfBreak_20 : decode cX2_dayOfBreak 20 = .ok (.iconst (-1), 1) := by decide +kernel
theorem dX2_dayOfBreak_21 : decode cX2_dayOfBreak 21 = .ok (.goto 10, 3) := by decide +kernel
theorem dX2_dayOfBreak_24 : decode cX2_dayOfBreak 24 = .ok (.aload_n 0, 1) := by decide +kernel
theorem dX2_dayOfBreak_25 : decode cX2_dayOfBreak 25 = .ok (.iload_n 1, 1) := by decide +kernel
theorem dX2_dayOfBreak_26 : decode cX2_dayOfBreak 26 = .ok (.invokevirtual 97, 3) := by decide +kernel
theorem dX2_dayOfBreak_29 : decode cX2_dayOfBreak 29 = .ok (.iconst 1, 1) := by decide +kernel
theorem dX2_dayOfBreak_30 : decode cX2_dayOfBreak 30 = .ok (.iadd, 1) := by decide +kernel
theorem dX2_dayOfBreak_31 : decode cX2_dayOfBreak 31 = .ok (.ireturn, 1) := by decide +kernel
theorem dJxe99ae_isNaN_b9ae7_0 : decode cJxe99ae_isNaN_b9ae7 0 = .ok (.dload_n 0, 1) := by decide +kernel
theorem dJxe99ae_isNaN_b9ae7_1 : decode cJxe99ae_isNaN_b9ae7 1 = .ok (.dload_n 0, 1) := by decide +kernel
theorem dJxe99ae_isNaN_b9ae7_2 : decode cJxe99ae_isNaN_b9ae7 2 = .ok (.dcmp .l, 1) := by decide +kernel
theorem dJxe99ae_isNaN_b9ae7_3 : decode cJxe99ae_isNaN_b9ae7 3 = .ok (.ifCond .eq 7, 3) := by decide +kernel
theorem dJxe99ae_isNaN_b9ae7_6 : decode cJxe99ae_isNaN_b9ae7 6 = .ok (.iconst 1, 1) := by decide +kernel
theorem dJxe99ae_isNaN_b9ae7_7 : decode cJxe99ae_isNaN_b9ae7 7 = .ok (.goto 4, 3) := by decide +kernel
theorem dJxe99ae_isNaN_b9ae7_10 : decode cJxe99ae_isNaN_b9ae7 10 = .ok (.iconst 0, 1) := by decide +kernel
theorem dJxe99ae_isNaN_b9ae7_11 : decode cJxe99ae_isNaN_b9ae7 11 = .ok (.ireturn, 1) := by decide +kernel
theorem dJxe99ae_doubleToLongBits_ccdee_0 : decode cJxe99ae_doubleToLongBits_ccdee 0 = .ok (.dload_n 0, 1) := by decide +kernel
theorem dJxe99ae_doubleToLongBits_ccdee_1 : decode cJxe99ae_doubleToLongBits_ccdee 1 = .ok (.invokestatic 122, 3) := by decide +kernel
theorem dJxe99ae_doubleToLongBits_ccdee_4 : decode cJxe99ae_doubleToLongBits_ccdee 4 = .ok (.ifCond .ne 8, 3) := by decide +kernel
theorem dJxe99ae_doubleToLongBits_ccdee_7 : decode cJxe99ae_doubleToLongBits_ccdee 7 = .ok (.dload_n 0, 1) := by decide +kernel
theorem dJxe99ae_doubleToLongBits_ccdee_8 : decode cJxe99ae_doubleToLongBits_ccdee 8 = .ok (.invokestatic 134, 3) := by decide +kernel
theorem dJxe99ae_doubleToLongBits_ccdee_11 : decode cJxe99ae_doubleToLongBits_ccdee 11 = .ok (.lreturn, 1) := by decide +kernel
theorem dJxe99ae_doubleToLongBits_ccdee_12 : decode cJxe99ae_doubleToLongBits_ccdee 12 = .ok (.ldc2_w 137, 3) := by decide +kernel
theorem dJxe99ae_doubleToLongBits_ccdee_15 : decode cJxe99ae_doubleToLongBits_ccdee 15 = .ok (.lreturn, 1) := by decide +kernel
theorem dJ9_max_7cf53_0 : decode cJ9_max_7cf53 0 = .ok (.iload_n 0, 1) := by decide +kernel
theorem dJ9_max_7cf53_1 : decode cJ9_max_7cf53 1 = .ok (.iload_n 1, 1) := by decide +kernel
theorem dJ9_max_7cf53_2 : decode cJ9_max_7cf53 2 = .ok (.if_icmp .lt 7, 3) := by decide +kernel
theorem dJ9_max_7cf53_5 : decode cJ9_max_7cf53 5 = .ok (.iload_n 0, 1) := by decide +kernel
theorem dJ9_max_7cf53_6 : decode cJ9_max_7cf53 6 = .ok (.goto 4, 3) := by decide +kernel
theorem dJ9_max_7cf53_9 : decode cJ9_max_7cf53 9 = .ok (.iload_n 1, 1) := by decide +kernel
theorem dJ9_max_7cf53_10 : decode cJ9_max_7cf53 10 = .ok (.ireturn, 1) := by decide +kernel
theorem dJ9_min_7cf53_0 : decode cJ9_min_7cf53 0 = .ok (.iload_n 0, 1) := by decide +kernel
theorem dJ9_min_7cf53_1 : decode cJ9_min_7cf53 1 = .ok (.iload_n 1, 1) := by decide +kernel
theorem dJ9_min_7cf53_2 : decode cJ9_min_7cf53 2 = .ok (.if_icmp .gt 7, 3) := by decide +kernel
theorem dJ9_min_7cf53_5 : decode cJ9_min_7cf53 5 = .ok (.iload_n 0, 1) := by decide +kernel
theorem dJ9_min_7cf53_6 : decode cJ9_min_7cf53 6 = .ok (.goto 4, 3) := by decide +kernel
theorem dJ9_min_7cf53_9 : decode cJ9_min_7cf53 9 = .ok (.iload_n 1, 1) := by decide +kernel
theorem dJ9_min_7cf53_10 : decode cJ9_min_7cf53 10 = .ok (.ireturn, 1) := by decide +kernel
end
section
theorem dX4_init_0 : decode cX4_init 0 = .ok (.aload_n 0, 1) := by decide +kernel
theorem dX4_init_1 : decode cX4_init 1 = .ok (.invokespecial 1, 3) := by decide +kernel
theorem dX4_init_4 : decode cX4_init 4 = .ok (.aload_n 0, 1) := by decide +kernel
theorem dX4_init_5 : decode cX4_init 5 = .ok (.sipush 232, 3) := by decide +kernel
theorem dX4_init_8 : decode cX4_init 8 = .ok (.newarray .int, 2) := by decide +kernel
theorem dX4_init_10 : decode cX4_init 10 = .ok (.putfield 7, 3) := by decide +kernel
theorem dX4_init_13 : decode cX4_init 13 = .ok (.aload_n 0, 1) := by decide +kernel
theorem dX4_init_14 : decode cX4_init 14 = .ok (.sipush 1392, 3) := by decide +kernel
theorem dX4_init_17 : decode cX4_init 17 = .ok (.newarray .int, 2) := by decide +kernel
theorem dX4_init_19 : decode cX4_init 19 = .ok (.putfield 13, 3) := by decide +kernel
theorem dX4_init_22 : decode cX4_init 22 = .ok (.aload_n 0, 1) := by decide +kernel
theorem dX4_init_23 : decode cX4_init 23 = .ok (.bipush 60, 2) := by decide +kernel
theorem dX4_init_25 : decode cX4_init 25 = .ok (.newarray .int, 2) := by decide +kernel
theorem dX4_init_27 : decode cX4_init 27 = .ok (.putfield 16, 3) := by decide +kernel
theorem dX4_init_30 : decode cX4_init 30 = .ok (.aload_n 0, 1) := by decide +kernel
theorem dX4_init_31 : decode cX4_init 31 = .ok (.bipush 88, 2) := by decide +kernel
theorem dX4_init_33 : decode cX4_init 33 = .ok (.newarray .int, 2) := by decide +kernel
theorem dX4_init_35 : decode cX4_init 35 = .ok (.putfield 19, 3) := by decide +kernel
theorem dX4_init_38 : decode cX4_init 38 = .ok (.aload_n 0, 1) := by decide +kernel
theorem dX4_init_39 : decode cX4_init 39 = .ok (.sipush 232, 3) := by decide +kernel
theorem dX4_init_42 : decode cX4_init 42 = .ok (.newarray .int, 2) := by decide +kernel
theorem dX4_init_44 : decode cX4_init 44 = .ok (.putfield 22, 3) := by decide +kernel
theorem dX4_init_47 : decode cX4_init 47 = .ok (.aload_n 0, 1) := by decide +kernel
theorem dX4_init_48 : decode cX4_init 48 = .ok (.getfield 7, 3) := by decide +kernel
theorem dX4_init_51 : decode cX4_init 51 = .ok (.iconst 0, 1) := by decide +kernel
theorem dX4_init_52 : decode cX4_init 52 = .ok (.bipush 60, 2) := by decide +kernel
theorem dX4_init_54 : decode cX4_init 54 = .ok (.iastore, 1) := by decide +kernel
theorem dX4_init_55 : decode cX4_init 55 = .ok (.aload_n 0, 1) := by decide +kernel
theorem dX4_init_56 : decode cX4_init 56 = .ok (.getfield 7, 3) := by decide +kernel
theorem dX4_init_59 : decode cX4_init 59 = .ok (.iconst 1, 1) := by decide +kernel
theorem dX4_init_60 : decode cX4_init 60 = .ok (.iconst 5, 1) := by decide +kernel
theorem dX4_init_61 : decode cX4_init 61 = .ok (.iastore, 1) := by decide +kernel
theorem dX4_init_62 : decode cX4_init 62 = .ok (.aload_n 0, 1) := by decide +kernel
theorem dX4_init_63 : decode cX4_init 63 = .ok (.getfield 7, 3) := by decide +kernel
theorem dX4_init_66 : decode cX4_init 66 = .ok (.iconst 2, 1) := by decide +kernel
theorem dX4_init_67 : decode cX4_init 67 = .ok (.sipush 700, 3) := by decide +kernel
theorem dX4_init_70 : decode cX4_init 70 = .ok (.iastore, 1) := by decide +kernel
theorem dX4_init_71 : decode cX4_init 71 = .ok (.aload_n 0, 1) := by decide +kernel
theorem dX4_init_72 : decode cX4_init 72 = .ok (.getfield 7, 3) := by decide +kernel
theorem dX4_init_75 : decode cX4_init 75 = .ok (.iconst 3, 1) := by decide +kernel
theorem dX4_init_76 : decode cX4_init 76 = .ok (.bipush 50, 2) := by decide +kernel
theorem dX4_init_78 : decode cX4_init 78 = .ok (.iastore, 1) := by decide +kernel
theorem dX4_init_79 : decode cX4_init 79 = .ok (.aload_n 0, 1) := by decide +kernel
theorem dX4_init_80 : decode cX4_init 80 = .ok (.getfield 7, 3) := by decide +kernel
theorem dX4_init_83 : decode cX4_init 83 = .ok (.iconst 5, 1) := by decide +kernel
theorem dX4_init_84 : decode cX4_init 84 = .ok (.bipush 100, 2) := by decide +kernel
theorem dX4_init_86 : decode cX4_init 86 = .ok (.iastore, 1) := by decide +kernel
theorem dX4_init_87 : decode cX4_init 87 = .ok (.aload_n 0, 1) := by decide +kernel
theorem dX4_init_88 : decode cX4_init 88 = .ok (.getfield 7, 3) := by decide +kernel
theorem dX4_init_91 : decode cX4_init 91 = .ok (.bipush 6, 2) := by decide +kernel
theorem dX4_init_93 : decode cX4_init 93 = .ok (.bipush 60, 2) := by decide +kernel
theorem dX4_init_95 : decode cX4_init 95 = .ok (.iastore, 1) := by decide +kernel
theorem dX4_init_96 : decode cX4_init 96 = .ok (.aload_n 0, 1) := by decide +kernel
theorem dX4_init_97 : decode cX4_init 97 = .ok (.getfield 7, 3) := by decide +kernel
theorem dX4_init_100 : decode cX4_init 100 = .ok (.bipush 7, 2) := by decide +kernel
theorem dX4_init_102 : decode cX4_init 102 = .ok (.bipush 30, 2) := by decide +kernel
theorem dX4_init_104 : decode cX4_init 104 = .ok (.iastore, 1) := by decide +kernel
theorem dX4_init_105 : decode cX4_init 105 = .ok (.return_, 1) := by decide +kernel
theorem dX4_thrown_0 : decode cX4_thrown 0 = .ok (.aload_n 0, 1) := by decide +kernel
theorem dX4_thrown_1 : decode cX4_thrown 1 = .ok (.getfield 25, 3) := by decide +kernel
theorem dX4_thrown_4 : decode cX4_thrown 4 = .ok (.ireturn, 1) := by decide +kernel
theorem dX4_within_0 : decode cX4_within 0 = .ok (.iload_n 0, 1) := by decide +kernel
theorem dX4_within_1 : decode cX4_within 1 = .ok (.iload_n 1, 1) := by decide +kernel
theorem dX4_within_2 : decode cX4_within 2 = .ok (.if_icmp .lt 12, 3) := by decide +kernel
theorem dX4_within_5 : decode cX4_within 5 = .ok (.iload_n 0, 1) := by decide +kernel
theorem dX4_within_6 : decode cX4_within 6 = .ok (.iload_n 2, 1) := by decide +kernel
theorem dX4_within_7 : decode cX4_within 7 = .ok (.if_icmp .gt 7, 3) := by decide +kernel
theorem dX4_within_10 : decode cX4_within 10 = .ok (.iconst 1, 1) := by decide +kernel
theorem dX4_within_11 : decode cX4_within 11 = .ok (.goto 4, 3) := by decide +kernel
theorem dX4_within_14 : decode cX4_within 14 = .ok (.iconst 0, 1) := by decide +kernel
theorem dX4_within_15 : decode cX4_within 15 = .ok (.ireturn, 1) := by decide +kernel
theorem dX4_save_0 : decode cX4_save 0 = .ok (.aload_n 0, 1) := by decide +kernel
theorem dX4_save_1 : decode cX4_save 1 = .ok (.getfield 29, 3) := by decide +kernel
theorem dX4_save_4 : decode cX4_save 4 = .ok (.bipush 6, 2) := by decide +kernel
theorem dX4_save_6 : decode cX4_save 6 = .ok (.if_icmp .ne 46, 3) := by decide +kernel
theorem dX4_save_9 : decode cX4_save 9 = .ok (.sipush 232, 3) := by decide +kernel
theorem dX4_save_12 : decode cX4_save 12 = .ok (.istore_n 1, 1) := by decide +kernel
theorem dX4_save_13 : decode cX4_save 13 = .ok (.iload_n 1, 1) := by decide +kernel
theorem dX4_save_14 : decode cX4_save 14 = .ok (.sipush 1392, 3) := by decide +kernel
theorem dX4_save_17 : decode cX4_save 17 = .ok (.if_icmp .ge 25, 3) := by decide +kernel
theorem dX4_save_20 : decode cX4_save 20 = .ok (.aload_n 0, 1) := by decide +kernel
theorem dX4_save_21 : decode cX4_save 21 = .ok (.getfield 13, 3) := by decide +kernel
theorem dX4_save_24 : decode cX4_save 24 = .ok (.iload_n 1, 1) := by decide +kernel
theorem dX4_save_25 : decode cX4_save 25 = .ok (.sipush 232, 3) := by decide +kernel
theorem dX4_save_28 : decode cX4_save 28 = .ok (.isub, 1) := by decide +kernel
theorem dX4_save_29 : decode cX4_save 29 = .ok (.aload_n 0, 1) := by decide +kernel
theorem dX4_save_30 : decode cX4_save 30 = .ok (.getfield 13, 3) := by decide +kernel
theorem dX4_save_33 : decode cX4_save 33 = .ok (.iload_n 1, 1) := by decide +kernel
theorem dX4_save_34 : decode cX4_save 34 = .ok (.iaload, 1) := by decide +kernel
theorem dX4_save_35 : decode cX4_save 35 = .ok (.iastore, 1) := by decide +kernel
theorem dX4_save_36 : decode cX4_save 36 = .ok (.iinc 1 1, 3) := by decide +kernel
theorem dX4_save_39 : decode cX4_save 39 = .ok (.goto (-26), 3) := by decide +kernel
theorem dX4_save_42 : decode cX4_save 42 = .ok (.aload_n 0, 1) := by decide +kernel
theorem dX4_save_43 : decode cX4_save 43 = .ok (.dup, 1) := by decide +kernel
theorem dX4_save_44 : decode cX4_save 44 = .ok (.getfield 29, 3) := by decide +kernel
theorem dX4_save_47 : decode cX4_save 47 = .ok (.iconst 1, 1) := by decide +kernel
theorem dX4_save_48 : decode cX4_save 48 = .ok (.isub, 1) := by decide +kernel
theorem dX4_save_49 : decode cX4_save 49 = .ok (.putfield 29, 3) := by decide +kernel
theorem dX4_save_52 : decode cX4_save 52 = .ok (.iconst 0, 1) := by decide +kernel
theorem dX4_save_53 : decode cX4_save 53 = .ok (.istore_n 1, 1) := by decide +kernel
theorem dX4_save_54 : decode cX4_save 54 = .ok (.iload_n 1, 1) := by decide +kernel
theorem dX4_save_55 : decode cX4_save 55 = .ok (.sipush 232, 3) := by decide +kernel
theorem dX4_save_58 : decode cX4_save 58 = .ok (.if_icmp .ge 30, 3) := by decide +kernel
theorem dX4_save_61 : decode cX4_save 61 = .ok (.aload_n 0, 1) := by decide +kernel
theorem dX4_save_62 : decode cX4_save 62 = .ok (.getfield 13, 3) := by decide +kernel
theorem dX4_save_65 : decode cX4_save 65 = .ok (.sipush 232, 3) := by decide +kernel
theorem dX4_save_68 : decode cX4_save 68 = .ok (.aload_n 0, 1) := by decide +kernel
theorem dX4_save_69 : decode cX4_save 69 = .ok (.getfield 29, 3) := by decide +kernel
theorem dX4_save_72 : decode cX4_save 72 = .ok (.imul, 1) := by decide +kernel
theorem dX4_save_73 : decode cX4_save 73 = .ok (.iload_n 1, 1) := by decide +kernel
theorem dX4_save_74 : decode cX4_save 74 = .ok (.iadd, 1) := by decide +kernel
theorem dX4_save_75 : decode cX4_save 75 = .ok (.aload_n 0, 1) := by decide +kernel
theorem dX4_save_76 : decode cX4_save 76 = .ok (.getfield 7, 3) := by decide +kernel
theorem dX4_save_79 : decode cX4_save 79 = .ok (.iload_n 1, 1) := by decide +kernel
theorem dX4_save_80 : decode cX4_save 80 = .ok (.iaload, 1) := by decide +kernel
theorem dX4_save_81 : decode cX4_save 81 = .ok (.iastore, 1) := by decide +kernel
theorem dX4_save_82 : decode cX4_save 82 = .ok (.iinc 1 1, 3) := by decide +kernel
theorem dX4_save_85 : decode cX4_save 85 = .ok (.goto (-31), 3) := by decide +kernel
theorem dX4_save_88 : decode cX4_save 88 = .ok (.aload_n 0, 1) := by decide +kernel
theorem dX4_save_89 : decode cX4_save 89 = .ok (.dup, 1) := by decide +kernel
theorem dX4_save_90 : decode cX4_save 90 = .ok (.getfield 29, 3) := by decide +kernel
theorem dX4_save_93 : decode cX4_save 93 = .ok (.iconst 1, 1) := by decide +kernel
theorem dX4_save_94 : decode cX4_save 94 = .ok (.iadd, 1) := by decide +kernel
theorem dX4_save_95 : decode cX4_save 95 = .ok (.putfield 29, 3) := by decide +kernel
theorem dX4_save_98 : decode cX4_save 98 = .ok (.return_, 1) := by decide +kernel
theorem dX4_of_0 : decode cX4_of 0 = .ok (.aload_n 0, 1) := by decide +kernel
theorem dX4_of_1 : decode cX4_of 1 = .ok (.getfield 7, 3) := by decide +kernel
theorem dX4_of_4 : decode cX4_of 4 = .ok (.bipush 10, 2) := by decide +kernel
theorem dX4_of_6 : decode cX4_of 6 = .ok (.bipush 37, 2) := by decide +kernel
theorem dX4_of_8 : decode cX4_of 8 = .ok (.iload_n 1, 1) := by decide +kernel
theorem dX4_of_9 : decode cX4_of 9 = .ok (.imul, 1) := by decide +kernel
theorem dX4_of_10 : decode cX4_of 10 = .ok (.iadd, 1) := by decide +kernel
theorem dX4_of_11 : decode cX4_of 11 = .ok (.iload_n 2, 1) := by decide +kernel
theorem dX4_of_12 : decode cX4_of 12 = .ok (.iadd, 1) := by decide +kernel
theorem dX4_of_13 : decode cX4_of 13 = .ok (.iaload, 1) := by decide +kernel
theorem dX4_of_14 : decode cX4_of 14 = .ok (.ireturn, 1) := by decide +kernel
theorem dX4_put_0 : decode cX4_put 0 = .ok (.aload_n 0, 1) := by decide +kernel
theorem dX4_put_1 : decode cX4_put 1 = .ok (.getfield 7, 3) := by decide +kernel
theorem dX4_put_4 : decode cX4_put 4 = .ok (.bipush 10, 2) := by decide +kernel
theorem dX4_put_6 : decode cX4_put 6 = .ok (.bipush 37, 2) := by decide +kernel
theorem dX4_put_8 : decode cX4_put 8 = .ok (.iload_n 1, 1) := by decide +kernel
theorem dX4_put_9 : decode cX4_put 9 = .ok (.imul, 1) := by decide +kernel
theorem dX4_put_10 : decode cX4_put 10 = .ok (.iadd, 1) := by decide +kernel
theorem dX4_put_11 : decode cX4_put 11 = .ok (.iload_n 2, 1) := by decide +kernel
theorem dX4_put_12 : decode cX4_put 12 = .ok (.iadd, 1) := by decide +kernel
theorem dX4_put_13 : decode cX4_put 13 = .ok (.iload_n 3, 1) := by decide +kernel
theorem dX4_put_14 : decode cX4_put 14 = .ok (.iastore, 1) := by decide +kernel
theorem dX4_put_15 : decode cX4_put 15 = .ok (.return_, 1) := by decide +kernel
theorem dX4_add_0 : decode cX4_add 0 = .ok (.aload_n 0, 1) := by decide +kernel
theorem dX4_add_1 : decode cX4_add 1 = .ok (.getfield 7, 3) := by decide +kernel
theorem dX4_add_4 : decode cX4_add 4 = .ok (.bipush 10, 2) := by decide +kernel
theorem dX4_add_6 : decode cX4_add 6 = .ok (.bipush 37, 2) := by decide +kernel
theorem dX4_add_8 : decode cX4_add 8 = .ok (.iload_n 1, 1) := by decide +kernel
theorem dX4_add_9 : decode cX4_add 9 = .ok (.imul, 1) := by decide +kernel
theorem dX4_add_10 : decode cX4_add 10 = .ok (.iadd, 1) := by decide +kernel
theorem dX4_add_11 : decode cX4_add 11 = .ok (.iload_n 2, 1) := by decide +kernel
theorem dX4_add_12 : decode cX4_add 12 = .ok (.iadd, 1) := by decide +kernel
theorem dX4_add_13 : decode cX4_add 13 = .ok (.dup2, 1) := by decide +kernel
theorem dX4_add_14 : decode cX4_add 14 = .ok (.iaload, 1) := by decide +kernel
theorem dX4_add_15 : decode cX4_add 15 = .ok (.iload_n 3, 1) := by decide +kernel
theorem dX4_add_16 : decode cX4_add 16 = .ok (.iadd, 1) := by decide +kernel
theorem dX4_add_17 : decode cX4_add 17 = .ok (.iastore, 1) := by decide +kernel
theorem dX4_add_18 : decode cX4_add 18 = .ok (.return_, 1) := by decide +kernel
theorem dX4_isPhase_0 : decode cX4_isPhase 0 = .ok (.iload_n 1, 1) := by decide +kernel
theorem dX4_isPhase_1 : decode cX4_isPhase 1 = .ok (.iconst 0, 1) := by decide +kernel
theorem dX4_isPhase_2 : decode cX4_isPhase 2 = .ok (.aload_n 0, 1) := by decide +kernel
theorem dX4_isPhase_3 : decode cX4_isPhase 3 = .ok (.getfield 7, 3) := by decide +kernel
theorem dX4_isPhase_6 : decode cX4_isPhase 6 = .ok (.bipush 9, 2) := by decide +kernel
theorem dX4_isPhase_8 : decode cX4_isPhase 8 = .ok (.iaload, 1) := by decide +kernel
theorem dX4_isPhase_9 : decode cX4_isPhase 9 = .ok (.iconst 1, 1) := by decide +kernel
theorem dX4_isPhase_10 : decode cX4_isPhase 10 = .ok (.isub, 1) := by decide +kernel
theorem dX4_isPhase_11 : decode cX4_isPhase 11 = .ok (.invokestatic 32, 3) := by decide +kernel
theorem dX4_isPhase_14 : decode cX4_isPhase 14 = .ok (.ireturn, 1) := by decide +kernel
theorem dX4_isUse_0 : decode cX4_isUse 0 = .ok (.iload_n 0, 1) := by decide +kernel
theorem dX4_isUse_1 : decode cX4_isUse 1 = .ok (.iconst 0, 1) := by decide +kernel
theorem dX4_isUse_2 : decode cX4_isUse 2 = .ok (.iconst 3, 1) := by decide +kernel
theorem dX4_isUse_3 : decode cX4_isUse 3 = .ok (.invokestatic 32, 3) := by decide +kernel
theorem dX4_isUse_6 : decode cX4_isUse 6 = .ok (.ireturn, 1) := by decide +kernel
theorem dX4_hasBegun_0 : decode cX4_hasBegun 0 = .ok (.aload_n 0, 1) := by decide +kernel
theorem dX4_hasBegun_1 : decode cX4_hasBegun 1 = .ok (.iload_n 1, 1) := by decide +kernel
theorem dX4_hasBegun_2 : decode cX4_hasBegun 2 = .ok (.iconst 0, 1) := by decide +kernel
theorem dX4_hasBegun_3 : decode cX4_hasBegun 3 = .ok (.invokevirtual 36, 3) := by decide +kernel
theorem dX4_hasBegun_6 : decode cX4_hasBegun 6 = .ok (.iconst (-1), 1) := by decide +kernel
theorem dX4_hasBegun_7 : decode cX4_hasBegun 7 = .ok (.if_icmp .eq 7, 3) := by decide +kernel
theorem dX4_hasBegun_10 : decode cX4_hasBegun 10 = .ok (.iconst 1, 1) := by decide +kernel
theorem dX4_hasBegun_11 : decode cX4_hasBegun 11 = .ok (.goto 4, 3) := by decide +kernel
theorem dX4_hasBegun_14 : decode cX4_hasBegun 14 = .ok (.iconst 0, 1) := by decide +kernel
theorem dX4_hasBegun_15 : decode cX4_hasBegun 15 = .ok (.ireturn, 1) := by decide +kernel
theorem dX4_rateOf_0 : decode cX4_rateOf 0 = .ok (.aload_n 0, 1) := by decide +kernel
theorem dX4_rateOf_1 : decode cX4_rateOf 1 = .ok (.iload_n 1, 1) := by decide +kernel
theorem dX4_rateOf_2 : decode cX4_rateOf 2 = .ok (.invokevirtual 40, 3) := by decide +kernel
theorem dX4_rateOf_5 : decode cX4_rateOf 5 = .ok (.ifCond .eq 15, 3) := by decide +kernel
theorem dX4_rateOf_8 : decode cX4_rateOf 8 = .ok (.aload_n 0, 1) := by decide +kernel
theorem dX4_rateOf_9 : decode cX4_rateOf 9 = .ok (.iload_n 1, 1) := by decide +kernel
theorem dX4_rateOf_10 : decode cX4_rateOf 10 = .ok (.bipush 9, 2) := by decide +kernel
theorem dX4_rateOf_12 : decode cX4_rateOf 12 = .ok (.iload_n 2, 1) := by decide +kernel
theorem dX4_rateOf_13 : decode cX4_rateOf 13 = .ok (.iadd, 1) := by decide +kernel
theorem dX4_rateOf_14 : decode cX4_rateOf 14 = .ok (.invokevirtual 36, 3) := by decide +kernel
theorem dX4_rateOf_17 : decode cX4_rateOf 17 = .ok (.goto 11, 3) := by decide +kernel
theorem dX4_rateOf_20 : decode cX4_rateOf 20 = .ok (.aload_n 0, 1) := by decide +kernel
theorem dX4_rateOf_21 : decode cX4_rateOf 21 = .ok (.getfield 7, 3) := by decide +kernel
theorem dX4_rateOf_24 : decode cX4_rateOf 24 = .ok (.iconst 5, 1) := by decide +kernel
theorem dX4_rateOf_25 : decode cX4_rateOf 25 = .ok (.iload_n 2, 1) := by decide +kernel
theorem dX4_rateOf_26 : decode cX4_rateOf 26 = .ok (.iadd, 1) := by decide +kernel
theorem dX4_rateOf_27 : decode cX4_rateOf 27 = .ok (.iaload, 1) := by decide +kernel
theorem dX4_rateOf_28 : decode cX4_rateOf 28 = .ok (.ireturn, 1) := by decide +kernel
theorem dX4_chargeOf_0 : decode cX4_chargeOf 0 = .ok (.aload_n 0, 1) := by decide +kernel
theorem dX4_chargeOf_1 : decode cX4_chargeOf 1 = .ok (.iload_n 1, 1) := by decide +kernel
theorem dX4_chargeOf_2 : decode cX4_chargeOf 2 = .ok (.iconst 1, 1) := by decide +kernel
theorem dX4_chargeOf_3 : decode cX4_chargeOf 3 = .ok (.iload_n 2, 1) := by decide +kernel
theorem dX4_chargeOf_4 : decode cX4_chargeOf 4 = .ok (.iadd, 1) := by decide +kernel
theorem dX4_chargeOf_5 : decode cX4_chargeOf 5 = .ok (.invokevirtual 36, 3) := by decide +kernel
theorem dX4_chargeOf_8 : decode cX4_chargeOf 8 = .ok (.aload_n 0, 1) := by decide +kernel
theorem dX4_chargeOf_9 : decode cX4_chargeOf 9 = .ok (.iload_n 1, 1) := by decide +kernel
theorem dX4_chargeOf_10 : decode cX4_chargeOf 10 = .ok (.iload_n 2, 1) := by decide +kernel
theorem dX4_chargeOf_11 : decode cX4_chargeOf 11 = .ok (.invokevirtual 44, 3) := by decide +kernel
theorem dX4_chargeOf_14 : decode cX4_chargeOf 14 = .ok (.imul, 1) := by decide +kernel
theorem dX4_chargeOf_15 : decode cX4_chargeOf 15 = .ok (.ireturn, 1) := by decide +kernel
theorem dX4_reliefOf_0 : decode cX4_reliefOf 0 = .ok (.aload_n 0, 1) := by decide +kernel
theorem dX4_reliefOf_1 : decode cX4_reliefOf 1 = .ok (.iload_n 1, 1) := by decide +kernel
theorem dX4_reliefOf_2 : decode cX4_reliefOf 2 = .ok (.invokevirtual 40, 3) := by decide +kernel
theorem dX4_reliefOf_5 : decode cX4_reliefOf 5 = .ok (.ifCond .eq 15, 3) := by decide +kernel
theorem dX4_reliefOf_8 : decode cX4_reliefOf 8 = .ok (.aload_n 0, 1) := by decide +kernel
theorem dX4_reliefOf_9 : decode cX4_reliefOf 9 = .ok (.iload_n 1, 1) := by decide +kernel
theorem dX4_reliefOf_10 : decode cX4_reliefOf 10 = .ok (.bipush 13, 2) := by decide +kernel
theorem dX4_reliefOf_12 : decode cX4_reliefOf 12 = .ok (.iload_n 2, 1) := by decide +kernel
theorem dX4_reliefOf_13 : decode cX4_reliefOf 13 = .ok (.iadd, 1) := by decide +kernel
theorem dX4_reliefOf_14 : decode cX4_reliefOf 14 = .ok (.invokevirtual 36, 3) := by decide +kernel
theorem dX4_reliefOf_17 : decode cX4_reliefOf 17 = .ok (.goto 20, 3) := by decide +kernel
theorem dX4_reliefOf_20 : decode cX4_reliefOf 20 = .ok (.aload_n 0, 1) := by decide +kernel
theorem dX4_reliefOf_21 : decode cX4_reliefOf 21 = .ok (.iload_n 1, 1) := by decide +kernel
theorem dX4_reliefOf_22 : decode cX4_reliefOf 22 = .ok (.iconst 5, 1) := by decide +kernel
theorem dX4_reliefOf_23 : decode cX4_reliefOf 23 = .ok (.iload_n 2, 1) := by decide +kernel
theorem dX4_reliefOf_24 : decode cX4_reliefOf 24 = .ok (.iadd, 1) := by decide +kernel
theorem dX4_reliefOf_25 : decode cX4_reliefOf 25 = .ok (.invokevirtual 36, 3) := by decide +kernel
theorem dX4_reliefOf_28 : decode cX4_reliefOf 28 = .ok (.aload_n 0, 1) := by decide +kernel
theorem dX4_reliefOf_29 : decode cX4_reliefOf 29 = .ok (.getfield 7, 3) := by decide +kernel
theorem dX4_reliefOf_32 : decode cX4_reliefOf 32 = .ok (.iconst 5, 1) := by decide +kernel
theorem dX4_reliefOf_33 : decode cX4_reliefOf 33 = .ok (.iload_n 2, 1) := by decide +kernel
theorem dX4_reliefOf_34 : decode cX4_reliefOf 34 = .ok (.iadd, 1) := by decide +kernel
theorem dX4_reliefOf_35 : decode cX4_reliefOf 35 = .ok (.iaload, 1) := by decide +kernel
theorem dX4_reliefOf_36 : decode cX4_reliefOf 36 = .ok (.imul, 1) := by decide +kernel
theorem dX4_reliefOf_37 : decode cX4_reliefOf 37 = .ok (.ireturn, 1) := by decide +kernel
theorem dX4_charge_0 : decode cX4_charge 0 = .ok (.iconst 0, 1) := by decide +kernel
theorem dX4_charge_1 : decode cX4_charge 1 = .ok (.istore_n 2, 1) := by decide +kernel
theorem dX4_charge_2 : decode cX4_charge 2 = .ok (.iconst 0, 1) := by decide +kernel
theorem dX4_charge_3 : decode cX4_charge 3 = .ok (.istore_n 3, 1) := by decide +kernel
theorem dX4_charge_4 : decode cX4_charge 4 = .ok (.iload_n 3, 1) := by decide +kernel
theorem dX4_charge_5 : decode cX4_charge 5 = .ok (.iconst 4, 1) := by decide +kernel
theorem dX4_charge_6 : decode cX4_charge 6 = .ok (.if_icmp .ge 18, 3) := by decide +kernel
theorem dX4_charge_9 : decode cX4_charge 9 = .ok (.iload_n 2, 1) := by decide +kernel
theorem dX4_charge_10 : decode cX4_charge 10 = .ok (.aload_n 0, 1) := by decide +kernel
theorem dX4_charge_11 : decode cX4_charge 11 = .ok (.iload_n 1, 1) := by decide +kernel
theorem dX4_charge_12 : decode cX4_charge 12 = .ok (.iload_n 3, 1) := by decide +kernel
theorem dX4_charge_13 : decode cX4_charge 13 = .ok (.invokevirtual 47, 3) := by decide +kernel
theorem dX4_charge_16 : decode cX4_charge 16 = .ok (.iadd, 1) := by decide +kernel
theorem dX4_charge_17 : decode cX4_charge 17 = .ok (.istore_n 2, 1) := by decide +kernel
theorem dX4_charge_18 : decode cX4_charge 18 = .ok (.iinc 3 1, 3) := by decide +kernel
theorem dX4_charge_21 : decode cX4_charge 21 = .ok (.goto (-17), 3) := by decide +kernel
theorem dX4_charge_24 : decode cX4_charge 24 = .ok (.iload_n 2, 1) := by decide +kernel
theorem dX4_charge_25 : decode cX4_charge 25 = .ok (.ireturn, 1) := by decide +kernel
theorem dX4_relief_0 : decode cX4_relief 0 = .ok (.iconst 0, 1) := by decide +kernel
theorem dX4_relief_1 : decode cX4_relief 1 = .ok (.istore_n 2, 1) := by decide +kernel
theorem dX4_relief_2 : decode cX4_relief 2 = .ok (.iconst 0, 1) := by decide +kernel
theorem dX4_relief_3 : decode cX4_relief 3 = .ok (.istore_n 3, 1) := by decide +kernel
theorem dX4_relief_4 : decode cX4_relief 4 = .ok (.iload_n 3, 1) := by decide +kernel
theorem dX4_relief_5 : decode cX4_relief 5 = .ok (.iconst 4, 1) := by decide +kernel
theorem dX4_relief_6 : decode cX4_relief 6 = .ok (.if_icmp .ge 18, 3) := by decide +kernel
theorem dX4_relief_9 : decode cX4_relief 9 = .ok (.iload_n 2, 1) := by decide +kernel
theorem dX4_relief_10 : decode cX4_relief 10 = .ok (.aload_n 0, 1) := by decide +kernel
theorem dX4_relief_11 : decode cX4_relief 11 = .ok (.iload_n 1, 1) := by decide +kernel
theorem dX4_relief_12 : decode cX4_relief 12 = .ok (.iload_n 3, 1) := by decide +kernel
theorem dX4_relief_13 : decode cX4_relief 13 = .ok (.invokevirtual 50, 3) := by decide +kernel
theorem dX4_relief_16 : decode cX4_relief 16 = .ok (.iadd, 1) := by decide +kernel
theorem dX4_relief_17 : decode cX4_relief 17 = .ok (.istore_n 2, 1) := by decide +kernel
theorem dX4_relief_18 : decode cX4_relief 18 = .ok (.iinc 3 1, 3) := by decide +kernel
theorem dX4_relief_21 : decode cX4_relief 21 = .ok (.goto (-17), 3) := by decide +kernel
theorem dX4_relief_24 : decode cX4_relief 24 = .ok (.iload_n 2, 1) := by decide +kernel
theorem dX4_relief_25 : decode cX4_relief 25 = .ok (.ireturn, 1) := by decide +kernel
theorem dX4_areaOf_0 : decode cX4_areaOf 0 = .ok (.iconst 0, 1) := by decide +kernel
theorem dX4_areaOf_1 : decode cX4_areaOf 1 = .ok (.istore_n 2, 1) := by decide +kernel
theorem dX4_areaOf_2 : decode cX4_areaOf 2 = .ok (.iconst 0, 1) := by decide +kernel
theorem dX4_areaOf_3 : decode cX4_areaOf 3 = .ok (.istore_n 3, 1) := by decide +kernel
theorem dX4_areaOf_4 : decode cX4_areaOf 4 = .ok (.iload_n 3, 1) := by decide +kernel
theorem dX4_areaOf_5 : decode cX4_areaOf 5 = .ok (.iconst 4, 1) := by decide +kernel
theorem dX4_areaOf_6 : decode cX4_areaOf 6 = .ok (.if_icmp .ge 20, 3) := by decide +kernel
theorem dX4_areaOf_9 : decode cX4_areaOf 9 = .ok (.iload_n 2, 1) := by decide +kernel
theorem dX4_areaOf_10 : decode cX4_areaOf 10 = .ok (.aload_n 0, 1) := by decide +kernel
theorem dX4_areaOf_11 : decode cX4_areaOf 11 = .ok (.iload_n 1, 1) := by decide +kernel
theorem dX4_areaOf_12 : decode cX4_areaOf 12 = .ok (.iconst 1, 1) := by decide +kernel
theorem dX4_areaOf_13 : decode cX4_areaOf 13 = .ok (.iload_n 3, 1) := by decide +kernel
theorem dX4_areaOf_14 : decode cX4_areaOf 14 = .ok (.iadd, 1) := by decide +kernel
theorem dX4_areaOf_15 : decode cX4_areaOf 15 = .ok (.invokevirtual 36, 3) := by decide +kernel
theorem dX4_areaOf_18 : decode cX4_areaOf 18 = .ok (.iadd, 1) := by decide +kernel
theorem dX4_areaOf_19 : decode cX4_areaOf 19 = .ok (.istore_n 2, 1) := by decide +kernel
theorem dX4_areaOf_20 : decode cX4_areaOf 20 = .ok (.iinc 3 1, 3) := by decide +kernel
theorem dX4_areaOf_23 : decode cX4_areaOf 23 = .ok (.goto (-19), 3) := by decide +kernel
theorem dX4_areaOf_26 : decode cX4_areaOf 26 = .ok (.iload_n 2, 1) := by decide +kernel
theorem dX4_areaOf_27 : decode cX4_areaOf 27 = .ok (.ireturn, 1) := by decide +kernel
theorem dX4_owed_0 : decode cX4_owed 0 = .ok (.aload_n 0, 1) := by decide +kernel
theorem dX4_owed_1 : decode cX4_owed 1 = .ok (.iload_n 1, 1) := by decide +kernel
theorem dX4_owed_2 : decode cX4_owed 2 = .ok (.bipush 30, 2) := by decide +kernel
theorem dX4_owed_4 : decode cX4_owed 4 = .ok (.invokevirtual 36, 3) := by decide +kernel
theorem dX4_owed_7 : decode cX4_owed 7 = .ok (.aload_n 0, 1) := by decide +kernel
theorem dX4_owed_8 : decode cX4_owed 8 = .ok (.iload_n 1, 1) := by decide +kernel
theorem dX4_owed_9 : decode cX4_owed 9 = .ok (.bipush 33, 2) := by decide +kernel
theorem dX4_owed_11 : decode cX4_owed 11 = .ok (.invokevirtual 36, 3) := by decide +kernel
theorem dX4_owed_14 : decode cX4_owed 14 = .ok (.iadd, 1) := by decide +kernel
theorem dX4_owed_15 : decode cX4_owed 15 = .ok (.istore_n 2, 1) := by decide +kernel
theorem dX4_owed_16 : decode cX4_owed 16 = .ok (.iconst 0, 1) := by decide +kernel
theorem dX4_owed_17 : decode cX4_owed 17 = .ok (.istore_n 3, 1) := by decide +kernel
theorem dX4_owed_18 : decode cX4_owed 18 = .ok (.iload_n 3, 1) := by decide +kernel
theorem dX4_owed_19 : decode cX4_owed 19 = .ok (.aload_n 0, 1) := by decide +kernel
theorem dX4_owed_20 : decode cX4_owed 20 = .ok (.iload_n 1, 1) := by decide +kernel
theorem dX4_owed_21 : decode cX4_owed 21 = .ok (.bipush 17, 2) := by decide +kernel
theorem dX4_owed_23 : decode cX4_owed 23 = .ok (.invokevirtual 36, 3) := by decide +kernel
theorem dX4_owed_26 : decode cX4_owed 26 = .ok (.if_icmp .ge 21, 3) := by decide +kernel
theorem dX4_owed_29 : decode cX4_owed 29 = .ok (.iload_n 2, 1) := by decide +kernel
theorem dX4_owed_30 : decode cX4_owed 30 = .ok (.aload_n 0, 1) := by decide +kernel
theorem dX4_owed_31 : decode cX4_owed 31 = .ok (.iload_n 1, 1) := by decide +kernel
theorem dX4_owed_32 : decode cX4_owed 32 = .ok (.bipush 22, 2) := by decide +kernel
theorem dX4_owed_34 : decode cX4_owed 34 = .ok (.iload_n 3, 1) := by decide +kernel
theorem dX4_owed_35 : decode cX4_owed 35 = .ok (.iadd, 1) := by decide +kernel
theorem dX4_owed_36 : decode cX4_owed 36 = .ok (.invokevirtual 36, 3) := by decide +kernel
theorem dX4_owed_39 : decode cX4_owed 39 = .ok (.iadd, 1) := by decide +kernel
theorem dX4_owed_40 : decode cX4_owed 40 = .ok (.istore_n 2, 1) := by decide +kernel
theorem dX4_owed_41 : decode cX4_owed 41 = .ok (.iinc 3 1, 3) := by decide +kernel
theorem dX4_owed_44 : decode cX4_owed 44 = .ok (.goto (-26), 3) := by decide +kernel
theorem dX4_owed_47 : decode cX4_owed 47 = .ok (.aload_n 0, 1) := by decide +kernel
theorem dX4_owed_48 : decode cX4_owed 48 = .ok (.iload_n 1, 1) := by decide +kernel
theorem dX4_owed_49 : decode cX4_owed 49 = .ok (.invokevirtual 40, 3) := by decide +kernel
theorem dX4_owed_52 : decode cX4_owed 52 = .ok (.ifCond .eq 7, 3) := by decide +kernel
theorem dX4_owed_55 : decode cX4_owed 55 = .ok (.iload_n 2, 1) := by decide +kernel
theorem dX4_owed_56 : decode cX4_owed 56 = .ok (.goto 4, 3) := by decide +kernel
theorem dX4_owed_59 : decode cX4_owed 59 = .ok (.iconst 0, 1) := by decide +kernel
theorem dX4_owed_60 : decode cX4_owed 60 = .ok (.ireturn, 1) := by decide +kernel
theorem dX4_dueNow_0 : decode cX4_dueNow 0 = .ok (.aload_n 0, 1) := by decide +kernel
theorem dX4_dueNow_1 : decode cX4_dueNow 1 = .ok (.iload_n 1, 1) := by decide +kernel
theorem dX4_dueNow_2 : decode cX4_dueNow 2 = .ok (.invokevirtual 40, 3) := by decide +kernel
theorem dX4_dueNow_5 : decode cX4_dueNow 5 = .ok (.ifCond .ne 5, 3) := by decide +kernel
theorem dX4_dueNow_8 : decode cX4_dueNow 8 = .ok (.iconst 0, 1) := by decide +kernel
theorem dX4_dueNow_9 : decode cX4_dueNow 9 = .ok (.ireturn, 1) := by decide +kernel
theorem dX4_dueNow_10 : decode cX4_dueNow 10 = .ok (.aload_n 0, 1) := by decide +kernel
theorem dX4_dueNow_11 : decode cX4_dueNow 11 = .ok (.iload_n 1, 1) := by decide +kernel
theorem dX4_dueNow_12 : decode cX4_dueNow 12 = .ok (.bipush 30, 2) := by decide +kernel
theorem dX4_dueNow_14 : decode cX4_dueNow 14 = .ok (.invokevirtual 36, 3) := by decide +kernel
theorem dX4_dueNow_17 : decode cX4_dueNow 17 = .ok (.istore_n 2, 1) := by decide +kernel
theorem dX4_dueNow_18 : decode cX4_dueNow 18 = .ok (.iconst 0, 1) := by decide +kernel
theorem dX4_dueNow_19 : decode cX4_dueNow 19 = .ok (.istore_n 3, 1) := by decide +kernel
theorem dX4_dueNow_20 : decode cX4_dueNow 20 = .ok (.iload_n 3, 1) := by decide +kernel
theorem dX4_dueNow_21 : decode cX4_dueNow 21 = .ok (.aload_n 0, 1) := by decide +kernel
theorem dX4_dueNow_22 : decode cX4_dueNow 22 = .ok (.iload_n 1, 1) := by decide +kernel
theorem dX4_dueNow_23 : decode cX4_dueNow 23 = .ok (.bipush 17, 2) := by decide +kernel
theorem dX4_dueNow_25 : decode cX4_dueNow 25 = .ok (.invokevirtual 36, 3) := by decide +kernel
theorem dX4_dueNow_28 : decode cX4_dueNow 28 = .ok (.if_icmp .ge 43, 3) := by decide +kernel
theorem dX4_dueNow_31 : decode cX4_dueNow 31 = .ok (.iload_n 2, 1) := by decide +kernel
theorem dX4_dueNow_32 : decode cX4_dueNow 32 = .ok (.aload_n 0, 1) := by decide +kernel
theorem dX4_dueNow_33 : decode cX4_dueNow 33 = .ok (.iload_n 1, 1) := by decide +kernel
theorem dX4_dueNow_34 : decode cX4_dueNow 34 = .ok (.bipush 26, 2) := by decide +kernel
theorem dX4_dueNow_36 : decode cX4_dueNow 36 = .ok (.iload_n 3, 1) := by decide +kernel
theorem dX4_dueNow_37 : decode cX4_dueNow 37 = .ok (.iadd, 1) := by decide +kernel
theorem dX4_dueNow_38 : decode cX4_dueNow 38 = .ok (.invokevirtual 36, 3) := by decide +kernel
theorem dX4_dueNow_41 : decode cX4_dueNow 41 = .ok (.aload_n 0, 1) := by decide +kernel
theorem dX4_dueNow_42 : decode cX4_dueNow 42 = .ok (.getfield 7, 3) := by decide +kernel
theorem dX4_dueNow_45 : decode cX4_dueNow 45 = .ok (.iconst 4, 1) := by decide +kernel
theorem dX4_dueNow_46 : decode cX4_dueNow 46 = .ok (.iaload, 1) := by decide +kernel
theorem dX4_dueNow_47 : decode cX4_dueNow 47 = .ok (.if_icmp .gt 15, 3) := by decide +kernel
theorem dX4_dueNow_50 : decode cX4_dueNow 50 = .ok (.aload_n 0, 1) := by decide +kernel
theorem dX4_dueNow_51 : decode cX4_dueNow 51 = .ok (.iload_n 1, 1) := by decide +kernel
theorem dX4_dueNow_52 : decode cX4_dueNow 52 = .ok (.bipush 22, 2) := by decide +kernel
theorem dX4_dueNow_54 : decode cX4_dueNow 54 = .ok (.iload_n 3, 1) := by decide +kernel
theorem dX4_dueNow_55 : decode cX4_dueNow 55 = .ok (.iadd, 1) := by decide +kernel
theorem dX4_dueNow_56 : decode cX4_dueNow 56 = .ok (.invokevirtual 36, 3) := by decide +kernel
theorem dX4_dueNow_59 : decode cX4_dueNow 59 = .ok (.goto 4, 3) := by decide +kernel
theorem dX4_dueNow_62 : decode cX4_dueNow 62 = .ok (.iconst 0, 1) := by decide +kernel
theorem dX4_dueNow_63 : decode cX4_dueNow 63 = .ok (.iadd, 1) := by decide +kernel
theorem dX4_dueNow_64 : decode cX4_dueNow 64 = .ok (.istore_n 2, 1) := by decide +kernel
theorem dX4_dueNow_65 : decode cX4_dueNow 65 = .ok (.iinc 3 1, 3) := by decide +kernel
theorem dX4_dueNow_68 : decode cX4_dueNow 68 = .ok (.goto (-48), 3) := by decide +kernel
theorem dX4_dueNow_71 : decode cX4_dueNow 71 = .ok (.aload_n 0, 1) := by decide +kernel
theorem dX4_dueNow_72 : decode cX4_dueNow 72 = .ok (.iload_n 1, 1) := by decide +kernel
theorem dX4_dueNow_73 : decode cX4_dueNow 73 = .ok (.bipush 36, 2) := by decide +kernel
theorem dX4_dueNow_75 : decode cX4_dueNow 75 = .ok (.invokevirtual 36, 3) := by decide +kernel
theorem dX4_dueNow_78 : decode cX4_dueNow 78 = .ok (.iconst 1, 1) := by decide +kernel
theorem dX4_dueNow_79 : decode cX4_dueNow 79 = .ok (.if_icmp .ne 11, 3) := by decide +kernel
theorem dX4_dueNow_82 : decode cX4_dueNow 82 = .ok (.aload_n 0, 1) := by decide +kernel
theorem dX4_dueNow_83 : decode cX4_dueNow 83 = .ok (.iload_n 1, 1) := by decide +kernel
theorem dX4_dueNow_84 : decode cX4_dueNow 84 = .ok (.invokevirtual 53, 3) := by decide +kernel
theorem dX4_dueNow_87 : decode cX4_dueNow 87 = .ok (.goto 4, 3) := by decide +kernel
theorem dX4_dueNow_90 : decode cX4_dueNow 90 = .ok (.iload_n 2, 1) := by decide +kernel
theorem dX4_dueNow_91 : decode cX4_dueNow 91 = .ok (.ireturn, 1) := by decide +kernel
theorem dX4_roomForLand_0 : decode cX4_roomForLand 0 = .ok (.aload_n 0, 1) := by decide +kernel
theorem dX4_roomForLand_1 : decode cX4_roomForLand 1 = .ok (.iload_n 1, 1) := by decide +kernel
theorem dX4_roomForLand_2 : decode cX4_roomForLand 2 = .ok (.invokevirtual 57, 3) := by decide +kernel
theorem dX4_roomForLand_5 : decode cX4_roomForLand 5 = .ok (.aload_n 0, 1) := by decide +kernel
theorem dX4_roomForLand_6 : decode cX4_roomForLand 6 = .ok (.iload_n 1, 1) := by decide +kernel
theorem dX4_roomForLand_7 : decode cX4_roomForLand 7 = .ok (.invokevirtual 60, 3) := by decide +kernel
theorem dX4_roomForLand_10 : decode cX4_roomForLand 10 = .ok (.isub, 1) := by decide +kernel
theorem dX4_roomForLand_11 : decode cX4_roomForLand 11 = .ok (.i2l, 1) := by decide +kernel
theorem dX4_roomForLand_12 : decode cX4_roomForLand 12 = .ok (.aload_n 0, 1) := by decide +kernel
theorem dX4_roomForLand_13 : decode cX4_roomForLand 13 = .ok (.getfield 7, 3) := by decide +kernel
theorem dX4_roomForLand_16 : decode cX4_roomForLand 16 = .ok (.iconst 3, 1) := by decide +kernel
theorem dX4_roomForLand_17 : decode cX4_roomForLand 17 = .ok (.iaload, 1) := by decide +kernel
theorem dX4_roomForLand_18 : decode cX4_roomForLand 18 = .ok (.i2l, 1) := by decide +kernel
theorem dX4_roomForLand_19 : decode cX4_roomForLand 19 = .ok (.lmul, 1) := by decide +kernel
theorem dX4_roomForLand_20 : decode cX4_roomForLand 20 = .ok (.ldc2_w 63, 3) := by decide +kernel
theorem dX4_roomForLand_23 : decode cX4_roomForLand 23 = .ok (.ldiv, 1) := by decide +kernel
theorem dX4_roomForLand_24 : decode cX4_roomForLand 24 = .ok (.l2i, 1) := by decide +kernel
theorem dX4_roomForLand_25 : decode cX4_roomForLand 25 = .ok (.aload_n 0, 1) := by decide +kernel
theorem dX4_roomForLand_26 : decode cX4_roomForLand 26 = .ok (.iload_n 1, 1) := by decide +kernel
theorem dX4_roomForLand_27 : decode cX4_roomForLand 27 = .ok (.bipush 35, 2) := by decide +kernel
theorem dX4_roomForLand_29 : decode cX4_roomForLand 29 = .ok (.invokevirtual 36, 3) := by decide +kernel
theorem dX4_roomForLand_32 : decode cX4_roomForLand 32 = .ok (.isub, 1) := by decide +kernel
theorem dX4_roomForLand_33 : decode cX4_roomForLand 33 = .ok (.istore_n 2, 1) := by decide +kernel
theorem dX4_roomForLand_34 : decode cX4_roomForLand 34 = .ok (.aload_n 0, 1) := by decide +kernel
theorem dX4_roomForLand_35 : decode cX4_roomForLand 35 = .ok (.iload_n 1, 1) := by decide +kernel
theorem dX4_roomForLand_36 : decode cX4_roomForLand 36 = .ok (.invokevirtual 40, 3) := by decide +kernel
theorem dX4_roomForLand_39 : decode cX4_roomForLand 39 = .ok (.ifCond .eq 11, 3) := by decide +kernel
theorem dX4_roomForLand_42 : decode cX4_roomForLand 42 = .ok (.iload_n 2, 1) := by decide +kernel
theorem dX4_roomForLand_43 : decode cX4_roomForLand 43 = .ok (.ifCond .le 7, 3) := by decide +kernel
theorem dX4_roomForLand_46 : decode cX4_roomForLand 46 = .ok (.iload_n 2, 1) := by decide +kernel
theorem dX4_roomForLand_47 : decode cX4_roomForLand 47 = .ok (.goto 4, 3) := by decide +kernel
theorem dX4_roomForLand_50 : decode cX4_roomForLand 50 = .ok (.iconst 0, 1) := by decide +kernel
theorem dX4_roomForLand_51 : decode cX4_roomForLand 51 = .ok (.ireturn, 1) := by decide +kernel
theorem dX4_partsFor_0 : decode cX4_partsFor 0 = .ok (.iload_n 0, 1) := by decide +kernel
theorem dX4_partsFor_1 : decode cX4_partsFor 1 = .ok (.sipush 1000, 3) := by decide +kernel
theorem dX4_partsFor_4 : decode cX4_partsFor 4 = .ok (.if_icmp .ge 7, 3) := by decide +kernel
theorem dX4_partsFor_7 : decode cX4_partsFor 7 = .ok (.iconst 1, 1) := by decide +kernel
theorem dX4_partsFor_8 : decode cX4_partsFor 8 = .ok (.goto 26, 3) := by decide +kernel
theorem dX4_partsFor_11 : decode cX4_partsFor 11 = .ok (.iload_n 0, 1) := by decide +kernel
theorem dX4_partsFor_12 : decode cX4_partsFor 12 = .ok (.sipush 5000, 3) := by decide +kernel
theorem dX4_partsFor_15 : decode cX4_partsFor 15 = .ok (.if_icmp .ge 7, 3) := by decide +kernel
theorem dX4_partsFor_18 : decode cX4_partsFor 18 = .ok (.iconst 2, 1) := by decide +kernel
theorem dX4_partsFor_19 : decode cX4_partsFor 19 = .ok (.goto 15, 3) := by decide +kernel
theorem dX4_partsFor_22 : decode cX4_partsFor 22 = .ok (.iload_n 0, 1) := by decide +kernel
theorem dX4_partsFor_23 : decode cX4_partsFor 23 = .ok (.sipush 20000, 3) := by decide +kernel
theorem dX4_partsFor_26 : decode cX4_partsFor 26 = .ok (.if_icmp .ge 7, 3) := by decide +kernel
theorem dX4_partsFor_29 : decode cX4_partsFor 29 = .ok (.iconst 3, 1) := by decide +kernel
theorem dX4_partsFor_30 : decode cX4_partsFor 30 = .ok (.goto 4, 3) := by decide +kernel
theorem dX4_partsFor_33 : decode cX4_partsFor 33 = .ok (.iconst 4, 1) := by decide +kernel
theorem dX4_partsFor_34 : decode cX4_partsFor 34 = .ok (.ireturn, 1) := by decide +kernel
theorem dX4_lastOf_0 : decode cX4_lastOf 0 = .ok (.iload_n 0, 1) := by decide +kernel
theorem dX4_lastOf_1 : decode cX4_lastOf 1 = .ok (.iload_n 0, 1) := by decide +kernel
theorem dX4_lastOf_2 : decode cX4_lastOf 2 = .ok (.invokestatic 65, 3) := by decide +kernel
theorem dX4_lastOf_5 : decode cX4_lastOf 5 = .ok (.idiv, 1) := by decide +kernel
theorem dX4_lastOf_6 : decode cX4_lastOf 6 = .ok (.iload_n 0, 1) := by decide +kernel
theorem dX4_lastOf_7 : decode cX4_lastOf 7 = .ok (.iload_n 0, 1) := by decide +kernel
theorem dX4_lastOf_8 : decode cX4_lastOf 8 = .ok (.invokestatic 65, 3) := by decide +kernel
theorem dX4_lastOf_11 : decode cX4_lastOf 11 = .ok (.irem, 1) := by decide +kernel
theorem dX4_lastOf_12 : decode cX4_lastOf 12 = .ok (.iadd, 1) := by decide +kernel
theorem dX4_lastOf_13 : decode cX4_lastOf 13 = .ok (.ireturn, 1) := by decide +kernel
theorem dX4_whyNoBeginning_0 : decode cX4_whyNoBeginning 0 = .ok (.aload_n 0, 1) := by decide +kernel
theorem dX4_whyNoBeginning_1 : decode cX4_whyNoBeginning 1 = .ok (.iload_n 1, 1) := by decide +kernel
theorem dX4_whyNoBeginning_2 : decode cX4_whyNoBeginning 2 = .ok (.invokevirtual 40, 3) := by decide +kernel
theorem dX4_whyNoBeginning_5 : decode cX4_whyNoBeginning 5 = .ok (.ifCond .eq 7, 3) := by decide +kernel
theorem dX4_whyNoBeginning_8 : decode cX4_whyNoBeginning 8 = .ok (.iconst 1, 1) := by decide +kernel
theorem dX4_whyNoBeginning_9 : decode cX4_whyNoBeginning 9 = .ok (.goto 16, 3) := by decide +kernel
theorem dX4_whyNoBeginning_12 : decode cX4_whyNoBeginning 12 = .ok (.aload_n 0, 1) := by decide +kernel
theorem dX4_whyNoBeginning_13 : decode cX4_whyNoBeginning 13 = .ok (.iload_n 1, 1) := by decide +kernel
theorem dX4_whyNoBeginning_14 : decode cX4_whyNoBeginning 14 = .ok (.invokevirtual 68, 3) := by decide +kernel
theorem dX4_whyNoBeginning_17 : decode cX4_whyNoBeginning 17 = .ok (.ifCond .ne 7, 3) := by decide +kernel
theorem dX4_whyNoBeginning_20 : decode cX4_whyNoBeginning 20 = .ok (.iconst 3, 1) := by decide +kernel
theorem dX4_whyNoBeginning_21 : decode cX4_whyNoBeginning 21 = .ok (.goto 4, 3) := by decide +kernel
theorem dX4_whyNoBeginning_24 : decode cX4_whyNoBeginning 24 = .ok (.iconst 0, 1) := by decide +kernel
theorem dX4_whyNoBeginning_25 : decode cX4_whyNoBeginning 25 = .ok (.ireturn, 1) := by decide +kernel
theorem dX4_whyNoPayment_0 : decode cX4_whyNoPayment 0 = .ok (.aload_n 0, 1) := by decide +kernel
theorem dX4_whyNoPayment_1 : decode cX4_whyNoPayment 1 = .ok (.iload_n 1, 1) := by decide +kernel
theorem dX4_whyNoPayment_2 : decode cX4_whyNoPayment 2 = .ok (.invokevirtual 40, 3) := by decide +kernel
theorem dX4_whyNoPayment_5 : decode cX4_whyNoPayment 5 = .ok (.ifCond .ne 7, 3) := by decide +kernel
theorem dX4_whyNoPayment_8 : decode cX4_whyNoPayment 8 = .ok (.iconst 2, 1) := by decide +kernel
theorem dX4_whyNoPayment_9 : decode cX4_whyNoPayment 9 = .ok (.goto 16, 3) := by decide +kernel
theorem dX4_whyNoPayment_12 : decode cX4_whyNoPayment 12 = .ok (.aload_n 0, 1) := by decide +kernel
theorem dX4_whyNoPayment_13 : decode cX4_whyNoPayment 13 = .ok (.iload_n 1, 1) := by decide +kernel
theorem dX4_whyNoPayment_14 : decode cX4_whyNoPayment 14 = .ok (.invokevirtual 53, 3) := by decide +kernel
theorem dX4_whyNoPayment_17 : decode cX4_whyNoPayment 17 = .ok (.ifCond .ne 7, 3) := by decide +kernel
theorem dX4_whyNoPayment_20 : decode cX4_whyNoPayment 20 = .ok (.iconst 4, 1) := by decide +kernel
theorem dX4_whyNoPayment_21 : decode cX4_whyNoPayment 21 = .ok (.goto 4, 3) := by decide +kernel
theorem dX4_whyNoPayment_24 : decode cX4_whyNoPayment 24 = .ok (.iconst 0, 1) := by decide +kernel
theorem dX4_whyNoPayment_25 : decode cX4_whyNoPayment 25 = .ok (.ireturn, 1) := by decide +kernel
theorem dX4_whyNoLand_0 : decode cX4_whyNoLand 0 = .ok (.aload_n 0, 1) := by decide +kernel
theorem dX4_whyNoLand_1 : decode cX4_whyNoLand 1 = .ok (.iload_n 1, 1) := by decide +kernel
theorem dX4_whyNoLand_2 : decode cX4_whyNoLand 2 = .ok (.invokevirtual 71, 3) := by decide +kernel
theorem dX4_whyNoLand_5 : decode cX4_whyNoLand 5 = .ok (.istore_n 2, 1) := by decide +kernel
theorem dX4_whyNoLand_6 : decode cX4_whyNoLand 6 = .ok (.iload_n 2, 1) := by decide +kernel
theorem dX4_whyNoLand_7 : decode cX4_whyNoLand 7 = .ok (.ifCond .ne 15, 3) := by decide +kernel
theorem dX4_whyNoLand_10 : decode cX4_whyNoLand 10 = .ok (.aload_n 0, 1) := by decide +kernel
theorem dX4_whyNoLand_11 : decode cX4_whyNoLand 11 = .ok (.iload_n 1, 1) := by decide +kernel
theorem dX4_whyNoLand_12 : decode cX4_whyNoLand 12 = .ok (.invokevirtual 74, 3) := by decide +kernel
theorem dX4_whyNoLand_15 : decode cX4_whyNoLand 15 = .ok (.ifCond .ne 7, 3) := by decide +kernel
theorem dX4_whyNoLand_18 : decode cX4_whyNoLand 18 = .ok (.iconst 5, 1) := by decide +kernel
theorem dX4_whyNoLand_19 : decode cX4_whyNoLand 19 = .ok (.goto 4, 3) := by decide +kernel
theorem dX4_whyNoLand_22 : decode cX4_whyNoLand 22 = .ok (.iload_n 2, 1) := by decide +kernel
theorem dX4_whyNoLand_23 : decode cX4_whyNoLand 23 = .ok (.ireturn, 1) := by decide +kernel
theorem dX4_whyNoLapse_0 : decode cX4_whyNoLapse 0 = .ok (.aload_n 0, 1) := by decide +kernel
theorem dX4_whyNoLapse_1 : decode cX4_whyNoLapse 1 = .ok (.iload_n 1, 1) := by decide +kernel
theorem dX4_whyNoLapse_2 : decode cX4_whyNoLapse 2 = .ok (.invokevirtual 40, 3) := by decide +kernel
theorem dX4_whyNoLapse_5 : decode cX4_whyNoLapse 5 = .ok (.ifCond .ne 5, 3) := by decide +kernel
theorem dX4_whyNoLapse_8 : decode cX4_whyNoLapse 8 = .ok (.iconst 2, 1) := by decide +kernel
theorem dX4_whyNoLapse_9 : decode cX4_whyNoLapse 9 = .ok (.ireturn, 1) := by decide +kernel
theorem dX4_whyNoLapse_10 : decode cX4_whyNoLapse 10 = .ok (.aload_n 0, 1) := by decide +kernel
theorem dX4_whyNoLapse_11 : decode cX4_whyNoLapse 11 = .ok (.iload_n 1, 1) := by decide +kernel
theorem dX4_whyNoLapse_12 : decode cX4_whyNoLapse 12 = .ok (.bipush 13, 2) := by decide +kernel
theorem dX4_whyNoLapse_14 : decode cX4_whyNoLapse 14 = .ok (.iload_n 2, 1) := by decide +kernel
theorem dX4_whyNoLapse_15 : decode cX4_whyNoLapse 15 = .ok (.iadd, 1) := by decide +kernel
theorem dX4_whyNoLapse_16 : decode cX4_whyNoLapse 16 = .ok (.invokevirtual 36, 3) := by decide +kernel
theorem dX4_whyNoLapse_19 : decode cX4_whyNoLapse 19 = .ok (.ifCond .eq 25, 3) := by decide +kernel
theorem dX4_whyNoLapse_22 : decode cX4_whyNoLapse 22 = .ok (.aload_n 0, 1) := by decide +kernel
theorem dX4_whyNoLapse_23 : decode cX4_whyNoLapse 23 = .ok (.getfield 7, 3) := by decide +kernel
theorem dX4_whyNoLapse_26 : decode cX4_whyNoLapse 26 = .ok (.iconst 4, 1) := by decide +kernel
theorem dX4_whyNoLapse_27 : decode cX4_whyNoLapse 27 = .ok (.iaload, 1) := by decide +kernel
theorem dX4_whyNoLapse_28 : decode cX4_whyNoLapse 28 = .ok (.aload_n 0, 1) := by decide +kernel
theorem dX4_whyNoLapse_29 : decode cX4_whyNoLapse 29 = .ok (.iload_n 1, 1) := by decide +kernel
theorem dX4_whyNoLapse_30 : decode cX4_whyNoLapse 30 = .ok (.iconst 0, 1) := by decide +kernel
theorem dX4_whyNoLapse_31 : decode cX4_whyNoLapse 31 = .ok (.invokevirtual 36, 3) := by decide +kernel
theorem dX4_whyNoLapse_34 : decode cX4_whyNoLapse 34 = .ok (.aload_n 0, 1) := by decide +kernel
theorem dX4_whyNoLapse_35 : decode cX4_whyNoLapse 35 = .ok (.getfield 7, 3) := by decide +kernel
theorem dX4_whyNoLapse_38 : decode cX4_whyNoLapse 38 = .ok (.iconst 2, 1) := by decide +kernel
theorem dX4_whyNoLapse_39 : decode cX4_whyNoLapse 39 = .ok (.iaload, 1) := by decide +kernel
theorem dX4_whyNoLapse_40 : decode cX4_whyNoLapse 40 = .ok (.iadd, 1) := by decide +kernel
theorem dX4_whyNoLapse_41 : decode cX4_whyNoLapse 41 = .ok (.if_icmp .le 8, 3) := by decide +kernel
theorem dX4_whyNoLapse_44 : decode cX4_whyNoLapse 44 = .ok (.bipush 6, 2) := by decide +kernel
theorem dX4_whyNoLapse_46 : decode cX4_whyNoLapse 46 = .ok (.goto 4, 3) := by decide +kernel
theorem dX4_whyNoLapse_49 : decode cX4_whyNoLapse 49 = .ok (.iconst 0, 1) := by decide +kernel
theorem dX4_whyNoLapse_50 : decode cX4_whyNoLapse 50 = .ok (.ireturn, 1) := by decide +kernel
theorem dX4_addPhase_0 : decode cX4_addPhase 0 = .ok (.aload_n 0, 1) := by decide +kernel
theorem dX4_addPhase_1 : decode cX4_addPhase 1 = .ok (.aload_n 0, 1) := by decide +kernel
theorem dX4_addPhase_2 : decode cX4_addPhase 2 = .ok (.getfield 7, 3) := by decide +kernel
theorem dX4_addPhase_5 : decode cX4_addPhase 5 = .ok (.bipush 9, 2) := by decide +kernel
theorem dX4_addPhase_7 : decode cX4_addPhase 7 = .ok (.iaload, 1) := by decide +kernel
theorem dX4_addPhase_8 : decode cX4_addPhase 8 = .ok (.bipush 6, 2) := by decide +kernel
theorem dX4_addPhase_10 : decode cX4_addPhase 10 = .ok (.if_icmp .ne 7, 3) := by decide +kernel
theorem dX4_addPhase_13 : decode cX4_addPhase 13 = .ok (.iconst 1, 1) := by decide +kernel
theorem dX4_addPhase_14 : decode cX4_addPhase 14 = .ok (.goto 4, 3) := by decide +kernel
theorem dX4_addPhase_17 : decode cX4_addPhase 17 = .ok (.iconst 0, 1) := by decide +kernel
theorem dX4_addPhase_18 : decode cX4_addPhase 18 = .ok (.putfield 25, 3) := by decide +kernel
theorem dX4_addPhase_21 : decode cX4_addPhase 21 = .ok (.aload_n 0, 1) := by decide +kernel
theorem dX4_addPhase_22 : decode cX4_addPhase 22 = .ok (.getfield 25, 3) := by decide +kernel
theorem dX4_addPhase_25 : decode cX4_addPhase 25 = .ok (.ifCond .le 5, 3) := by decide +kernel
theorem dX4_addPhase_28 : decode cX4_addPhase 28 = .ok (.iconst 0, 1) := by decide +kernel
theorem dX4_addPhase_29 : decode cX4_addPhase 29 = .ok (.ireturn, 1) := by decide +kernel
theorem dX4_addPhase_30 : decode cX4_addPhase 30 = .ok (.aload_n 0, 1) := by decide +kernel
theorem dX4_addPhase_31 : decode cX4_addPhase 31 = .ok (.invokevirtual 77, 3) := by decide +kernel
theorem dX4_addPhase_34 : decode cX4_addPhase 34 = .ok (.aload_n 0, 1) := by decide +kernel
theorem dX4_addPhase_35 : decode cX4_addPhase 35 = .ok (.getfield 7, 3) := by decide +kernel
theorem dX4_addPhase_38 : decode cX4_addPhase 38 = .ok (.bipush 9, 2) := by decide +kernel
theorem dX4_addPhase_40 : decode cX4_addPhase 40 = .ok (.iaload, 1) := by decide +kernel
theorem dX4_addPhase_41 : decode cX4_addPhase 41 = .ok (.istore_n 1, 1) := by decide +kernel
theorem dX4_addPhase_42 : decode cX4_addPhase 42 = .ok (.aload_n 0, 1) := by decide +kernel
theorem dX4_addPhase_43 : decode cX4_addPhase 43 = .ok (.getfield 7, 3) := by decide +kernel
theorem dX4_addPhase_46 : decode cX4_addPhase 46 = .ok (.bipush 9, 2) := by decide +kernel
theorem dX4_addPhase_48 : decode cX4_addPhase 48 = .ok (.dup2, 1) := by decide +kernel
theorem dX4_addPhase_49 : decode cX4_addPhase 49 = .ok (.iaload, 1) := by decide +kernel
theorem dX4_addPhase_50 : decode cX4_addPhase 50 = .ok (.iconst 1, 1) := by decide +kernel
theorem dX4_addPhase_51 : decode cX4_addPhase 51 = .ok (.iadd, 1) := by decide +kernel
theorem dX4_addPhase_52 : decode cX4_addPhase 52 = .ok (.iastore, 1) := by decide +kernel
theorem dX4_addPhase_53 : decode cX4_addPhase 53 = .ok (.iconst 0, 1) := by decide +kernel
theorem dX4_addPhase_54 : decode cX4_addPhase 54 = .ok (.istore_n 2, 1) := by decide +kernel
theorem dX4_addPhase_55 : decode cX4_addPhase 55 = .ok (.iload_n 2, 1) := by decide +kernel
theorem dX4_addPhase_56 : decode cX4_addPhase 56 = .ok (.bipush 37, 2) := by decide +kernel
theorem dX4_addPhase_58 : decode cX4_addPhase 58 = .ok (.if_icmp .ge 16, 3) := by decide +kernel
theorem dX4_addPhase_61 : decode cX4_addPhase 61 = .ok (.aload_n 0, 1) := by decide +kernel
theorem dX4_addPhase_62 : decode cX4_addPhase 62 = .ok (.iload_n 1, 1) := by decide +kernel
theorem dX4_addPhase_63 : decode cX4_addPhase 63 = .ok (.iload_n 2, 1) := by decide +kernel
theorem dX4_addPhase_64 : decode cX4_addPhase 64 = .ok (.iconst 0, 1) := by decide +kernel
theorem dX4_addPhase_65 : decode cX4_addPhase 65 = .ok (.invokevirtual 80, 3) := by decide +kernel
theorem dX4_addPhase_68 : decode cX4_addPhase 68 = .ok (.iinc 2 1, 3) := by decide +kernel
theorem dX4_addPhase_71 : decode cX4_addPhase 71 = .ok (.goto (-16), 3) := by decide +kernel
theorem dX4_addPhase_74 : decode cX4_addPhase 74 = .ok (.aload_n 0, 1) := by decide +kernel
theorem dX4_addPhase_75 : decode cX4_addPhase 75 = .ok (.iload_n 1, 1) := by decide +kernel
theorem dX4_addPhase_76 : decode cX4_addPhase 76 = .ok (.iconst 0, 1) := by decide +kernel
theorem dX4_addPhase_77 : decode cX4_addPhase 77 = .ok (.iconst (-1), 1) := by decide +kernel
theorem dX4_addPhase_78 : decode cX4_addPhase 78 = .ok (.invokevirtual 80, 3) := by decide +kernel
theorem dX4_addPhase_81 : decode cX4_addPhase 81 = .ok (.iload_n 1, 1) := by decide +kernel
theorem dX4_addPhase_82 : decode cX4_addPhase 82 = .ok (.ireturn, 1) := by decide +kernel
theorem dX4_isArea_0 : decode cX4_isArea 0 = .ok (.iload_n 0, 1) := by decide +kernel
theorem dX4_isArea_1 : decode cX4_isArea 1 = .ok (.iconst 0, 1) := by decide +kernel
theorem dX4_isArea_2 : decode cX4_isArea 2 = .ok (.sipush 999, 3) := by decide +kernel
theorem dX4_isArea_5 : decode cX4_isArea 5 = .ok (.invokestatic 32, 3) := by decide +kernel
theorem dX4_isArea_8 : decode cX4_isArea 8 = .ok (.ireturn, 1) := by decide +kernel
theorem dX4_changeArea_0 : decode cX4_changeArea 0 = .ok (.aload_n 0, 1) := by decide +kernel
theorem dX4_changeArea_1 : decode cX4_changeArea 1 = .ok (.iload_n 1, 1) := by decide +kernel
theorem dX4_changeArea_2 : decode cX4_changeArea 2 = .ok (.iconst 1, 1) := by decide +kernel
theorem dX4_changeArea_3 : decode cX4_changeArea 3 = .ok (.iload_n 2, 1) := by decide +kernel
theorem dX4_changeArea_4 : decode cX4_changeArea 4 = .ok (.iadd, 1) := by decide +kernel
theorem dX4_changeArea_5 : decode cX4_changeArea 5 = .ok (.iload_n 3, 1) := by decide +kernel
theorem dX4_changeArea_6 : decode cX4_changeArea 6 = .ok (.invokevirtual 80, 3) := by decide +kernel
theorem dX4_changeArea_9 : decode cX4_changeArea 9 = .ok (.aload_n 0, 1) := by decide +kernel
theorem dX4_changeArea_10 : decode cX4_changeArea 10 = .ok (.iload_n 1, 1) := by decide +kernel
theorem dX4_changeArea_11 : decode cX4_changeArea 11 = .ok (.iconst 5, 1) := by decide +kernel
theorem dX4_changeArea_12 : decode cX4_changeArea 12 = .ok (.iload_n 2, 1) := by decide +kernel
theorem dX4_changeArea_13 : decode cX4_changeArea 13 = .ok (.iadd, 1) := by decide +kernel
theorem dX4_changeArea_14 : decode cX4_changeArea 14 = .ok (.aload_n 0, 1) := by decide +kernel
theorem dX4_changeArea_15 : decode cX4_changeArea 15 = .ok (.iload_n 1, 1) := by decide +kernel
theorem dX4_changeArea_16 : decode cX4_changeArea 16 = .ok (.iconst 5, 1) := by decide +kernel
theorem dX4_changeArea_17 : decode cX4_changeArea 17 = .ok (.iload_n 2, 1) := by decide +kernel
theorem dX4_changeArea_18 : decode cX4_changeArea 18 = .ok (.iadd, 1) := by decide +kernel
theorem dX4_changeArea_19 : decode cX4_changeArea 19 = .ok (.invokevirtual 36, 3) := by decide +kernel
theorem dX4_changeArea_22 : decode cX4_changeArea 22 = .ok (.iload_n 3, 1) := by decide +kernel
theorem dX4_changeArea_23 : decode cX4_changeArea 23 = .ok (.if_icmp .ge 14, 3) := by decide +kernel
theorem dX4_changeArea_26 : decode cX4_changeArea 26 = .ok (.aload_n 0, 1) := by decide +kernel
theorem dX4_changeArea_27 : decode cX4_changeArea 27 = .ok (.iload_n 1, 1) := by decide +kernel
theorem dX4_changeArea_28 : decode cX4_changeArea 28 = .ok (.iconst 5, 1) := by decide +kernel
theorem dX4_changeArea_29 : decode cX4_changeArea 29 = .ok (.iload_n 2, 1) := by decide +kernel
theorem dX4_changeArea_30 : decode cX4_changeArea 30 = .ok (.iadd, 1) := by decide +kernel
theorem dX4_changeArea_31 : decode cX4_changeArea 31 = .ok (.invokevirtual 36, 3) := by decide +kernel
theorem dX4_changeArea_34 : decode cX4_changeArea 34 = .ok (.goto 4, 3) := by decide +kernel
theorem dX4_changeArea_37 : decode cX4_changeArea 37 = .ok (.iload_n 3, 1) := by decide +kernel
theorem dX4_changeArea_38 : decode cX4_changeArea 38 = .ok (.invokevirtual 80, 3) := by decide +kernel
theorem dX4_changeArea_41 : decode cX4_changeArea 41 = .ok (.return_, 1) := by decide +kernel
theorem dX4_area_0 : decode cX4_area 0 = .ok (.aload_n 0, 1) := by decide +kernel
theorem dX4_area_1 : decode cX4_area 1 = .ok (.aload_n 0, 1) := by decide +kernel
theorem dX4_area_2 : decode cX4_area 2 = .ok (.iload_n 1, 1) := by decide +kernel
theorem dX4_area_3 : decode cX4_area 3 = .ok (.invokevirtual 84, 3) := by decide +kernel
theorem dX4_area_6 : decode cX4_area 6 = .ok (.ifCond .eq 10, 3) := by decide +kernel
theorem dX4_area_9 : decode cX4_area 9 = .ok (.iload_n 2, 1) := by decide +kernel
theorem dX4_area_10 : decode cX4_area 10 = .ok (.invokestatic 87, 3) := by decide +kernel
theorem dX4_area_13 : decode cX4_area 13 = .ok (.ifCond .ne 7, 3) := by decide +kernel
theorem dX4_area_16 : decode cX4_area 16 = .ok (.iconst 1, 1) := by decide +kernel
theorem dX4_area_17 : decode cX4_area 17 = .ok (.goto 27, 3) := by decide +kernel
theorem dX4_area_20 : decode cX4_area 20 = .ok (.iload_n 3, 1) := by decide +kernel
theorem dX4_area_21 : decode cX4_area 21 = .ok (.invokestatic 90, 3) := by decide +kernel
theorem dX4_area_24 : decode cX4_area 24 = .ok (.ifCond .ne 7, 3) := by decide +kernel
theorem dX4_area_27 : decode cX4_area 27 = .ok (.iconst 2, 1) := by decide +kernel
theorem dX4_area_28 : decode cX4_area 28 = .ok (.goto 16, 3) := by decide +kernel
theorem dX4_area_31 : decode cX4_area 31 = .ok (.aload_n 0, 1) := by decide +kernel
theorem dX4_area_32 : decode cX4_area 32 = .ok (.iload_n 1, 1) := by decide +kernel
theorem dX4_area_33 : decode cX4_area 33 = .ok (.invokevirtual 40, 3) := by decide +kernel
theorem dX4_area_36 : decode cX4_area 36 = .ok (.ifCond .eq 7, 3) := by decide +kernel
theorem dX4_area_39 : decode cX4_area 39 = .ok (.iconst 3, 1) := by decide +kernel
theorem dX4_area_40 : decode cX4_area 40 = .ok (.goto 4, 3) := by decide +kernel
theorem dX4_area_43 : decode cX4_area 43 = .ok (.iconst 0, 1) := by decide +kernel
theorem dX4_area_44 : decode cX4_area 44 = .ok (.putfield 25, 3) := by decide +kernel
theorem dX4_area_47 : decode cX4_area 47 = .ok (.aload_n 0, 1) := by decide +kernel
theorem dX4_area_48 : decode cX4_area 48 = .ok (.getfield 25, 3) := by decide +kernel
theorem dX4_area_51 : decode cX4_area 51 = .ok (.ifCond .le 5, 3) := by decide +kernel
theorem dX4_area_54 : decode cX4_area 54 = .ok (.iconst 0, 1) := by decide +kernel
theorem dX4_area_55 : decode cX4_area 55 = .ok (.ireturn, 1) := by decide +kernel
theorem dX4_area_56 : decode cX4_area 56 = .ok (.aload_n 0, 1) := by decide +kernel
theorem dX4_area_57 : decode cX4_area 57 = .ok (.invokevirtual 77, 3) := by decide +kernel
theorem dX4_area_60 : decode cX4_area 60 = .ok (.aload_n 0, 1) := by decide +kernel
theorem dX4_area_61 : decode cX4_area 61 = .ok (.iload_n 1, 1) := by decide +kernel
theorem dX4_area_62 : decode cX4_area 62 = .ok (.iconst 1, 1) := by decide +kernel
theorem dX4_area_63 : decode cX4_area 63 = .ok (.iload_n 2, 1) := by decide +kernel
theorem dX4_area_64 : decode cX4_area 64 = .ok (.iadd, 1) := by decide +kernel
theorem dX4_area_65 : decode cX4_area 65 = .ok (.invokevirtual 36, 3) := by decide +kernel
theorem dX4_area_68 : decode cX4_area 68 = .ok (.istore 4, 2) := by decide +kernel
theorem dX4_area_70 : decode cX4_area 70 = .ok (.aload_n 0, 1) := by decide +kernel
theorem dX4_area_71 : decode cX4_area 71 = .ok (.iload_n 1, 1) := by decide +kernel
theorem dX4_area_72 : decode cX4_area 72 = .ok (.iload_n 2, 1) := by decide +kernel
theorem dX4_area_73 : decode cX4_area 73 = .ok (.iload_n 3, 1) := by decide +kernel
theorem dX4_area_74 : decode cX4_area 74 = .ok (.invokevirtual 93, 3) := by decide +kernel
theorem dX4_area_77 : decode cX4_area 77 = .ok (.iload 4, 2) := by decide +kernel
theorem dX4_area_79 : decode cX4_area 79 = .ok (.ireturn, 1) := by decide +kernel
theorem dX4_exempt_0 : decode cX4_exempt 0 = .ok (.aload_n 0, 1) := by decide +kernel
theorem dX4_exempt_1 : decode cX4_exempt 1 = .ok (.aload_n 0, 1) := by decide +kernel
theorem dX4_exempt_2 : decode cX4_exempt 2 = .ok (.iload_n 1, 1) := by decide +kernel
theorem dX4_exempt_3 : decode cX4_exempt 3 = .ok (.invokevirtual 84, 3) := by decide +kernel
theorem dX4_exempt_6 : decode cX4_exempt 6 = .ok (.ifCond .eq 10, 3) := by decide +kernel
theorem dX4_exempt_9 : decode cX4_exempt 9 = .ok (.iload_n 2, 1) := by decide +kernel
theorem dX4_exempt_10 : decode cX4_exempt 10 = .ok (.invokestatic 87, 3) := by decide +kernel
theorem dX4_exempt_13 : decode cX4_exempt 13 = .ok (.ifCond .ne 7, 3) := by decide +kernel
theorem dX4_exempt_16 : decode cX4_exempt 16 = .ok (.iconst 1, 1) := by decide +kernel
theorem dX4_exempt_17 : decode cX4_exempt 17 = .ok (.goto 36, 3) := by decide +kernel
theorem dX4_exempt_20 : decode cX4_exempt 20 = .ok (.iload_n 3, 1) := by decide +kernel
theorem dX4_exempt_21 : decode cX4_exempt 21 = .ok (.iconst 0, 1) := by decide +kernel
theorem dX4_exempt_22 : decode cX4_exempt 22 = .ok (.aload_n 0, 1) := by decide +kernel
theorem dX4_exempt_23 : decode cX4_exempt 23 = .ok (.iload_n 1, 1) := by decide +kernel
theorem dX4_exempt_24 : decode cX4_exempt 24 = .ok (.iconst 1, 1) := by decide +kernel
theorem dX4_exempt_25 : decode cX4_exempt 25 = .ok (.iload_n 2, 1) := by decide +kernel
theorem dX4_exempt_26 : decode cX4_exempt 26 = .ok (.iadd, 1) := by decide +kernel
theorem dX4_exempt_27 : decode cX4_exempt 27 = .ok (.invokevirtual 36, 3) := by decide +kernel
theorem dX4_exempt_30 : decode cX4_exempt 30 = .ok (.invokestatic 32, 3) := by decide +kernel
theorem dX4_exempt_33 : decode cX4_exempt 33 = .ok (.ifCond .ne 7, 3) := by decide +kernel
theorem dX4_exempt_36 : decode cX4_exempt 36 = .ok (.iconst 2, 1) := by decide +kernel
theorem dX4_exempt_37 : decode cX4_exempt 37 = .ok (.goto 16, 3) := by decide +kernel
theorem dX4_exempt_40 : decode cX4_exempt 40 = .ok (.aload_n 0, 1) := by decide +kernel
theorem dX4_exempt_41 : decode cX4_exempt 41 = .ok (.iload_n 1, 1) := by decide +kernel
theorem dX4_exempt_42 : decode cX4_exempt 42 = .ok (.invokevirtual 40, 3) := by decide +kernel
theorem dX4_exempt_45 : decode cX4_exempt 45 = .ok (.ifCond .eq 7, 3) := by decide +kernel
theorem dX4_exempt_48 : decode cX4_exempt 48 = .ok (.iconst 3, 1) := by decide +kernel
theorem dX4_exempt_49 : decode cX4_exempt 49 = .ok (.goto 4, 3) := by decide +kernel
theorem dX4_exempt_52 : decode cX4_exempt 52 = .ok (.iconst 0, 1) := by decide +kernel
theorem dX4_exempt_53 : decode cX4_exempt 53 = .ok (.putfield 25, 3) := by decide +kernel
theorem dX4_exempt_56 : decode cX4_exempt 56 = .ok (.aload_n 0, 1) := by decide +kernel
theorem dX4_exempt_57 : decode cX4_exempt 57 = .ok (.getfield 25, 3) := by decide +kernel
theorem dX4_exempt_60 : decode cX4_exempt 60 = .ok (.ifCond .le 5, 3) := by decide +kernel
theorem dX4_exempt_63 : decode cX4_exempt 63 = .ok (.iconst 0, 1) := by decide +kernel
theorem dX4_exempt_64 : decode cX4_exempt 64 = .ok (.ireturn, 1) := by decide +kernel
theorem dX4_exempt_65 : decode cX4_exempt 65 = .ok (.aload_n 0, 1) := by decide +kernel
theorem dX4_exempt_66 : decode cX4_exempt 66 = .ok (.invokevirtual 77, 3) := by decide +kernel
theorem dX4_exempt_69 : decode cX4_exempt 69 = .ok (.aload_n 0, 1) := by decide +kernel
theorem dX4_exempt_70 : decode cX4_exempt 70 = .ok (.iload_n 1, 1) := by decide +kernel
theorem dX4_exempt_71 : decode cX4_exempt 71 = .ok (.iconst 5, 1) := by decide +kernel
theorem dX4_exempt_72 : decode cX4_exempt 72 = .ok (.iload_n 2, 1) := by decide +kernel
theorem dX4_exempt_73 : decode cX4_exempt 73 = .ok (.iadd, 1) := by decide +kernel
theorem dX4_exempt_74 : decode cX4_exempt 74 = .ok (.invokevirtual 36, 3) := by decide +kernel
theorem dX4_exempt_77 : decode cX4_exempt 77 = .ok (.istore 4, 2) := by decide +kernel
theorem dX4_exempt_79 : decode cX4_exempt 79 = .ok (.aload_n 0, 1) := by decide +kernel
theorem dX4_exempt_80 : decode cX4_exempt 80 = .ok (.iload_n 1, 1) := by decide +kernel
theorem dX4_exempt_81 : decode cX4_exempt 81 = .ok (.iconst 5, 1) := by decide +kernel
theorem dX4_exempt_82 : decode cX4_exempt 82 = .ok (.iload_n 2, 1) := by decide +kernel
theorem dX4_exempt_83 : decode cX4_exempt 83 = .ok (.iadd, 1) := by decide +kernel
theorem dX4_exempt_84 : decode cX4_exempt 84 = .ok (.iload_n 3, 1) := by decide +kernel
theorem dX4_exempt_85 : decode cX4_exempt 85 = .ok (.invokevirtual 80, 3) := by decide +kernel
theorem dX4_exempt_88 : decode cX4_exempt 88 = .ok (.iload 4, 2) := by decide +kernel
theorem dX4_exempt_90 : decode cX4_exempt 90 = .ok (.ireturn, 1) := by decide +kernel
theorem dX4_rate_0 : decode cX4_rate 0 = .ok (.aload_n 0, 1) := by decide +kernel
theorem dX4_rate_1 : decode cX4_rate 1 = .ok (.iload_n 1, 1) := by decide +kernel
theorem dX4_rate_2 : decode cX4_rate 2 = .ok (.invokestatic 87, 3) := by decide +kernel
theorem dX4_rate_5 : decode cX4_rate 5 = .ok (.ifCond .ne 7, 3) := by decide +kernel
theorem dX4_rate_8 : decode cX4_rate 8 = .ok (.iconst 1, 1) := by decide +kernel
theorem dX4_rate_9 : decode cX4_rate 9 = .ok (.goto 19, 3) := by decide +kernel
theorem dX4_rate_12 : decode cX4_rate 12 = .ok (.iload_n 2, 1) := by decide +kernel
theorem dX4_rate_13 : decode cX4_rate 13 = .ok (.iconst 0, 1) := by decide +kernel
theorem dX4_rate_14 : decode cX4_rate 14 = .ok (.sipush 999, 3) := by decide +kernel
theorem dX4_rate_17 : decode cX4_rate 17 = .ok (.invokestatic 32, 3) := by decide +kernel
theorem dX4_rate_20 : decode cX4_rate 20 = .ok (.ifCond .eq 7, 3) := by decide +kernel
theorem dX4_rate_23 : decode cX4_rate 23 = .ok (.iconst 0, 1) := by decide +kernel
theorem dX4_rate_24 : decode cX4_rate 24 = .ok (.goto 4, 3) := by decide +kernel
theorem dX4_rate_27 : decode cX4_rate 27 = .ok (.iconst 2, 1) := by decide +kernel
theorem dX4_rate_28 : decode cX4_rate 28 = .ok (.putfield 25, 3) := by decide +kernel
theorem dX4_rate_31 : decode cX4_rate 31 = .ok (.aload_n 0, 1) := by decide +kernel
theorem dX4_rate_32 : decode cX4_rate 32 = .ok (.getfield 25, 3) := by decide +kernel
theorem dX4_rate_35 : decode cX4_rate 35 = .ok (.ifCond .le 5, 3) := by decide +kernel
theorem dX4_rate_38 : decode cX4_rate 38 = .ok (.iconst 0, 1) := by decide +kernel
theorem dX4_rate_39 : decode cX4_rate 39 = .ok (.ireturn, 1) := by decide +kernel
theorem dX4_rate_40 : decode cX4_rate 40 = .ok (.aload_n 0, 1) := by decide +kernel
theorem dX4_rate_41 : decode cX4_rate 41 = .ok (.invokevirtual 77, 3) := by decide +kernel
theorem dX4_rate_44 : decode cX4_rate 44 = .ok (.aload_n 0, 1) := by decide +kernel
theorem dX4_rate_45 : decode cX4_rate 45 = .ok (.getfield 7, 3) := by decide +kernel
theorem dX4_rate_48 : decode cX4_rate 48 = .ok (.iconst 5, 1) := by decide +kernel
theorem dX4_rate_49 : decode cX4_rate 49 = .ok (.iload_n 1, 1) := by decide +kernel
theorem dX4_rate_50 : decode cX4_rate 50 = .ok (.iadd, 1) := by decide +kernel
theorem dX4_rate_51 : decode cX4_rate 51 = .ok (.iaload, 1) := by decide +kernel
theorem dX4_rate_52 : decode cX4_rate 52 = .ok (.istore_n 3, 1) := by decide +kernel
theorem dX4_rate_53 : decode cX4_rate 53 = .ok (.aload_n 0, 1) := by decide +kernel
theorem dX4_rate_54 : decode cX4_rate 54 = .ok (.getfield 7, 3) := by decide +kernel
theorem dX4_rate_57 : decode cX4_rate 57 = .ok (.iconst 5, 1) := by decide +kernel
theorem dX4_rate_58 : decode cX4_rate 58 = .ok (.iload_n 1, 1) := by decide +kernel
theorem dX4_rate_59 : decode cX4_rate 59 = .ok (.iadd, 1) := by decide +kernel
theorem dX4_rate_60 : decode cX4_rate 60 = .ok (.iload_n 2, 1) := by decide +kernel
theorem dX4_rate_61 : decode cX4_rate 61 = .ok (.iastore, 1) := by decide +kernel
theorem dX4_rate_62 : decode cX4_rate 62 = .ok (.iload_n 3, 1) := by decide +kernel
theorem dX4_rate_63 : decode cX4_rate 63 = .ok (.ireturn, 1) := by decide +kernel
theorem dX4_isSetting_0 : decode cX4_isSetting 0 = .ok (.iload_n 0, 1) := by decide +kernel
theorem dX4_isSetting_1 : decode cX4_isSetting 1 = .ok (.iconst 0, 1) := by decide +kernel
theorem dX4_isSetting_2 : decode cX4_isSetting 2 = .ok (.iconst 3, 1) := by decide +kernel
theorem dX4_isSetting_3 : decode cX4_isSetting 3 = .ok (.invokestatic 32, 3) := by decide +kernel
theorem dX4_isSetting_6 : decode cX4_isSetting 6 = .ok (.ireturn, 1) := by decide +kernel
theorem dX4_isValue_0 : decode cX4_isValue 0 = .ok (.iload_n 0, 1) := by decide +kernel
theorem dX4_isValue_1 : decode cX4_isValue 1 = .ok (.ifCond .ne 13, 3) := by decide +kernel
theorem dX4_isValue_4 : decode cX4_isValue 4 = .ok (.iload_n 1, 1) := by decide +kernel
theorem dX4_isValue_5 : decode cX4_isValue 5 = .ok (.iconst 1, 1) := by decide +kernel
theorem dX4_isValue_6 : decode cX4_isValue 6 = .ok (.bipush 120, 2) := by decide +kernel
theorem dX4_isValue_8 : decode cX4_isValue 8 = .ok (.invokestatic 32, 3) := by decide +kernel
theorem dX4_isValue_11 : decode cX4_isValue 11 = .ok (.goto 31, 3) := by decide +kernel
theorem dX4_isValue_14 : decode cX4_isValue 14 = .ok (.iload_n 1, 1) := by decide +kernel
theorem dX4_isValue_15 : decode cX4_isValue 15 = .ok (.iconst 0, 1) := by decide +kernel
theorem dX4_isValue_16 : decode cX4_isValue 16 = .ok (.iload_n 0, 1) := by decide +kernel
theorem dX4_isValue_17 : decode cX4_isValue 17 = .ok (.iconst 1, 1) := by decide +kernel
theorem dX4_isValue_18 : decode cX4_isValue 18 = .ok (.if_icmp .ne 8, 3) := by decide +kernel
theorem dX4_isValue_21 : decode cX4_isValue 21 = .ok (.bipush 50, 2) := by decide +kernel
theorem dX4_isValue_23 : decode cX4_isValue 23 = .ok (.goto 16, 3) := by decide +kernel
theorem dX4_isValue_26 : decode cX4_isValue 26 = .ok (.iload_n 0, 1) := by decide +kernel
theorem dX4_isValue_27 : decode cX4_isValue 27 = .ok (.iconst 2, 1) := by decide +kernel
theorem dX4_isValue_28 : decode cX4_isValue 28 = .ok (.if_icmp .ne 9, 3) := by decide +kernel
theorem dX4_isValue_31 : decode cX4_isValue 31 = .ok (.sipush 3000, 3) := by decide +kernel
theorem dX4_isValue_34 : decode cX4_isValue 34 = .ok (.goto 5, 3) := by decide +kernel
theorem dX4_isValue_37 : decode cX4_isValue 37 = .ok (.bipush 100, 2) := by decide +kernel
theorem dX4_isValue_39 : decode cX4_isValue 39 = .ok (.invokestatic 32, 3) := by decide +kernel
theorem dX4_isValue_42 : decode cX4_isValue 42 = .ok (.ireturn, 1) := by decide +kernel
theorem dX4_set_0 : decode cX4_set 0 = .ok (.aload_n 0, 1) := by decide +kernel
theorem dX4_set_1 : decode cX4_set 1 = .ok (.iload_n 1, 1) := by decide +kernel
theorem dX4_set_2 : decode cX4_set 2 = .ok (.invokestatic 96, 3) := by decide +kernel
theorem dX4_set_5 : decode cX4_set 5 = .ok (.ifCond .ne 7, 3) := by decide +kernel
theorem dX4_set_8 : decode cX4_set 8 = .ok (.iconst 1, 1) := by decide +kernel
theorem dX4_set_9 : decode cX4_set 9 = .ok (.goto 16, 3) := by decide +kernel
theorem dX4_set_12 : decode cX4_set 12 = .ok (.iload_n 1, 1) := by decide +kernel
theorem dX4_set_13 : decode cX4_set 13 = .ok (.iload_n 2, 1) := by decide +kernel
theorem dX4_set_14 : decode cX4_set 14 = .ok (.invokestatic 99, 3) := by decide +kernel
theorem dX4_set_17 : decode cX4_set 17 = .ok (.ifCond .eq 7, 3) := by decide +kernel
theorem dX4_set_20 : decode cX4_set 20 = .ok (.iconst 0, 1) := by decide +kernel
theorem dX4_set_21 : decode cX4_set 21 = .ok (.goto 4, 3) := by decide +kernel
theorem dX4_set_24 : decode cX4_set 24 = .ok (.iconst 2, 1) := by decide +kernel
theorem dX4_set_25 : decode cX4_set 25 = .ok (.putfield 25, 3) := by decide +kernel
theorem dX4_set_28 : decode cX4_set 28 = .ok (.aload_n 0, 1) := by decide +kernel
theorem dX4_set_29 : decode cX4_set 29 = .ok (.getfield 25, 3) := by decide +kernel
theorem dX4_set_32 : decode cX4_set 32 = .ok (.ifCond .le 5, 3) := by decide +kernel
theorem dX4_set_35 : decode cX4_set 35 = .ok (.iconst 0, 1) := by decide +kernel
theorem dX4_set_36 : decode cX4_set 36 = .ok (.ireturn, 1) := by decide +kernel
theorem dX4_set_37 : decode cX4_set 37 = .ok (.aload_n 0, 1) := by decide +kernel
theorem dX4_set_38 : decode cX4_set 38 = .ok (.invokevirtual 77, 3) := by decide +kernel
theorem dX4_set_41 : decode cX4_set 41 = .ok (.aload_n 0, 1) := by decide +kernel
theorem dX4_set_42 : decode cX4_set 42 = .ok (.getfield 7, 3) := by decide +kernel
theorem dX4_set_45 : decode cX4_set 45 = .ok (.iload_n 1, 1) := by decide +kernel
theorem dX4_set_46 : decode cX4_set 46 = .ok (.iaload, 1) := by decide +kernel
theorem dX4_set_47 : decode cX4_set 47 = .ok (.istore_n 3, 1) := by decide +kernel
theorem dX4_set_48 : decode cX4_set 48 = .ok (.aload_n 0, 1) := by decide +kernel
theorem dX4_set_49 : decode cX4_set 49 = .ok (.getfield 7, 3) := by decide +kernel
theorem dX4_set_52 : decode cX4_set 52 = .ok (.iload_n 1, 1) := by decide +kernel
theorem dX4_set_53 : decode cX4_set 53 = .ok (.iload_n 2, 1) := by decide +kernel
theorem dX4_set_54 : decode cX4_set 54 = .ok (.iastore, 1) := by decide +kernel
theorem dX4_set_55 : decode cX4_set 55 = .ok (.iload_n 3, 1) := by decide +kernel
theorem dX4_set_56 : decode cX4_set 56 = .ok (.ireturn, 1) := by decide +kernel
theorem dX4_begins_0 : decode cX4_begins 0 = .ok (.aload_n 0, 1) := by decide +kernel
theorem dX4_begins_1 : decode cX4_begins 1 = .ok (.iload_n 1, 1) := by decide +kernel
theorem dX4_begins_2 : decode cX4_begins 2 = .ok (.invokevirtual 57, 3) := by decide +kernel
theorem dX4_begins_5 : decode cX4_begins 5 = .ok (.aload_n 0, 1) := by decide +kernel
theorem dX4_begins_6 : decode cX4_begins 6 = .ok (.iload_n 1, 1) := by decide +kernel
theorem dX4_begins_7 : decode cX4_begins 7 = .ok (.invokevirtual 60, 3) := by decide +kernel
theorem dX4_begins_10 : decode cX4_begins 10 = .ok (.isub, 1) := by decide +kernel
theorem dX4_begins_11 : decode cX4_begins 11 = .ok (.istore_n 2, 1) := by decide +kernel
theorem dX4_begins_12 : decode cX4_begins 12 = .ok (.iconst 0, 1) := by decide +kernel
theorem dX4_begins_13 : decode cX4_begins 13 = .ok (.istore_n 3, 1) := by decide +kernel
theorem dX4_begins_14 : decode cX4_begins 14 = .ok (.iload_n 3, 1) := by decide +kernel
theorem dX4_begins_15 : decode cX4_begins 15 = .ok (.iconst 4, 1) := by decide +kernel
theorem dX4_begins_16 : decode cX4_begins 16 = .ok (.if_icmp .ge 52, 3) := by decide +kernel
theorem dX4_begins_19 : decode cX4_begins 19 = .ok (.aload_n 0, 1) := by decide +kernel
theorem dX4_begins_20 : decode cX4_begins 20 = .ok (.iload_n 1, 1) := by decide +kernel
theorem dX4_begins_21 : decode cX4_begins 21 = .ok (.bipush 9, 2) := by decide +kernel
theorem dX4_begins_23 : decode cX4_begins 23 = .ok (.iload_n 3, 1) := by decide +kernel
theorem dX4_begins_24 : decode cX4_begins 24 = .ok (.iadd, 1) := by decide +kernel
theorem dX4_begins_25 : decode cX4_begins 25 = .ok (.aload_n 0, 1) := by decide +kernel
theorem dX4_begins_26 : decode cX4_begins 26 = .ok (.getfield 7, 3) := by decide +kernel
theorem dX4_begins_29 : decode cX4_begins 29 = .ok (.iconst 5, 1) := by decide +kernel
theorem dX4_begins_30 : decode cX4_begins 30 = .ok (.iload_n 3, 1) := by decide +kernel
theorem dX4_begins_31 : decode cX4_begins 31 = .ok (.iadd, 1) := by decide +kernel
theorem dX4_begins_32 : decode cX4_begins 32 = .ok (.iaload, 1) := by decide +kernel
theorem dX4_begins_33 : decode cX4_begins 33 = .ok (.invokevirtual 80, 3) := by decide +kernel
theorem dX4_begins_36 : decode cX4_begins 36 = .ok (.aload_n 0, 1) := by decide +kernel
theorem dX4_begins_37 : decode cX4_begins 37 = .ok (.iload_n 1, 1) := by decide +kernel
theorem dX4_begins_38 : decode cX4_begins 38 = .ok (.bipush 13, 2) := by decide +kernel
theorem dX4_begins_40 : decode cX4_begins 40 = .ok (.iload_n 3, 1) := by decide +kernel
theorem dX4_begins_41 : decode cX4_begins 41 = .ok (.iadd, 1) := by decide +kernel
theorem dX4_begins_42 : decode cX4_begins 42 = .ok (.aload_n 0, 1) := by decide +kernel
theorem dX4_begins_43 : decode cX4_begins 43 = .ok (.iload_n 1, 1) := by decide +kernel
theorem dX4_begins_44 : decode cX4_begins 44 = .ok (.iconst 5, 1) := by decide +kernel
theorem dX4_begins_45 : decode cX4_begins 45 = .ok (.iload_n 3, 1) := by decide +kernel
theorem dX4_begins_46 : decode cX4_begins 46 = .ok (.iadd, 1) := by decide +kernel
theorem dX4_begins_47 : decode cX4_begins 47 = .ok (.invokevirtual 36, 3) := by decide +kernel
theorem dX4_begins_50 : decode cX4_begins 50 = .ok (.aload_n 0, 1) := by decide +kernel
theorem dX4_begins_51 : decode cX4_begins 51 = .ok (.getfield 7, 3) := by decide +kernel
theorem dX4_begins_54 : decode cX4_begins 54 = .ok (.iconst 5, 1) := by decide +kernel
theorem dX4_begins_55 : decode cX4_begins 55 = .ok (.iload_n 3, 1) := by decide +kernel
theorem dX4_begins_56 : decode cX4_begins 56 = .ok (.iadd, 1) := by decide +kernel
theorem dX4_begins_57 : decode cX4_begins 57 = .ok (.iaload, 1) := by decide +kernel
theorem dX4_begins_58 : decode cX4_begins 58 = .ok (.imul, 1) := by decide +kernel
theorem dX4_begins_59 : decode cX4_begins 59 = .ok (.invokevirtual 80, 3) := by decide +kernel
theorem dX4_begins_62 : decode cX4_begins 62 = .ok (.iinc 3 1, 3) := by decide +kernel
theorem dX4_begins_65 : decode cX4_begins 65 = .ok (.goto (-51), 3) := by decide +kernel
theorem dX4_begins_68 : decode cX4_begins 68 = .ok (.aload_n 0, 1) := by decide +kernel
theorem dX4_begins_69 : decode cX4_begins 69 = .ok (.iload_n 1, 1) := by decide +kernel
theorem dX4_begins_70 : decode cX4_begins 70 = .ok (.iconst 0, 1) := by decide +kernel
theorem dX4_begins_71 : decode cX4_begins 71 = .ok (.aload_n 0, 1) := by decide +kernel
theorem dX4_begins_72 : decode cX4_begins 72 = .ok (.getfield 7, 3) := by decide +kernel
theorem dX4_begins_75 : decode cX4_begins 75 = .ok (.iconst 4, 1) := by decide +kernel
theorem dX4_begins_76 : decode cX4_begins 76 = .ok (.iaload, 1) := by decide +kernel
theorem dX4_begins_77 : decode cX4_begins 77 = .ok (.invokevirtual 80, 3) := by decide +kernel
theorem dX4_begins_80 : decode cX4_begins 80 = .ok (.aload_n 0, 1) := by decide +kernel
theorem dX4_begins_81 : decode cX4_begins 81 = .ok (.iload_n 1, 1) := by decide +kernel
theorem dX4_begins_82 : decode cX4_begins 82 = .ok (.bipush 17, 2) := by decide +kernel
theorem dX4_begins_84 : decode cX4_begins 84 = .ok (.iload_n 2, 1) := by decide +kernel
theorem dX4_begins_85 : decode cX4_begins 85 = .ok (.invokestatic 65, 3) := by decide +kernel
theorem dX4_begins_88 : decode cX4_begins 88 = .ok (.invokevirtual 80, 3) := by decide +kernel
theorem dX4_begins_91 : decode cX4_begins 91 = .ok (.iconst 0, 1) := by decide +kernel
theorem dX4_begins_92 : decode cX4_begins 92 = .ok (.istore_n 3, 1) := by decide +kernel
theorem dX4_begins_93 : decode cX4_begins 93 = .ok (.iload_n 3, 1) := by decide +kernel
theorem dX4_begins_94 : decode cX4_begins 94 = .ok (.iload_n 2, 1) := by decide +kernel
theorem dX4_begins_95 : decode cX4_begins 95 = .ok (.invokestatic 65, 3) := by decide +kernel
theorem dX4_begins_98 : decode cX4_begins 98 = .ok (.if_icmp .ge 82, 3) := by decide +kernel
theorem dX4_begins_101 : decode cX4_begins 101 = .ok (.iload_n 3, 1) := by decide +kernel
theorem dX4_begins_102 : decode cX4_begins 102 = .ok (.iload_n 2, 1) := by decide +kernel
theorem dX4_begins_103 : decode cX4_begins 103 = .ok (.invokestatic 65, 3) := by decide +kernel
theorem dX4_begins_106 : decode cX4_begins 106 = .ok (.iconst 1, 1) := by decide +kernel
theorem dX4_begins_107 : decode cX4_begins 107 = .ok (.isub, 1) := by decide +kernel
theorem dX4_begins_108 : decode cX4_begins 108 = .ok (.if_icmp .ne 10, 3) := by decide +kernel
theorem dX4_begins_111 : decode cX4_begins 111 = .ok (.iload_n 2, 1) := by decide +kernel
theorem dX4_begins_112 : decode cX4_begins 112 = .ok (.invokestatic 103, 3) := by decide +kernel
theorem dX4_begins_115 : decode cX4_begins 115 = .ok (.goto 9, 3) := by decide +kernel
theorem dX4_begins_118 : decode cX4_begins 118 = .ok (.iload_n 2, 1) := by decide +kernel
theorem dX4_begins_119 : decode cX4_begins 119 = .ok (.iload_n 2, 1) := by decide +kernel
theorem dX4_begins_120 : decode cX4_begins 120 = .ok (.invokestatic 65, 3) := by decide +kernel
theorem dX4_begins_123 : decode cX4_begins 123 = .ok (.idiv, 1) := by decide +kernel
theorem dX4_begins_124 : decode cX4_begins 124 = .ok (.istore 4, 2) := by decide +kernel
theorem dX4_begins_126 : decode cX4_begins 126 = .ok (.aload_n 0, 1) := by decide +kernel
theorem dX4_begins_127 : decode cX4_begins 127 = .ok (.iload_n 1, 1) := by decide +kernel
theorem dX4_begins_128 : decode cX4_begins 128 = .ok (.bipush 18, 2) := by decide +kernel
theorem dX4_begins_130 : decode cX4_begins 130 = .ok (.iload_n 3, 1) := by decide +kernel
theorem dX4_begins_131 : decode cX4_begins 131 = .ok (.iadd, 1) := by decide +kernel
theorem dX4_begins_132 : decode cX4_begins 132 = .ok (.iload 4, 2) := by decide +kernel
theorem dX4_begins_134 : decode cX4_begins 134 = .ok (.invokevirtual 80, 3) := by decide +kernel
theorem dX4_begins_137 : decode cX4_begins 137 = .ok (.aload_n 0, 1) := by decide +kernel
theorem dX4_begins_138 : decode cX4_begins 138 = .ok (.iload_n 1, 1) := by decide +kernel
theorem dX4_begins_139 : decode cX4_begins 139 = .ok (.bipush 22, 2) := by decide +kernel
theorem dX4_begins_141 : decode cX4_begins 141 = .ok (.iload_n 3, 1) := by decide +kernel
theorem dX4_begins_142 : decode cX4_begins 142 = .ok (.iadd, 1) := by decide +kernel
theorem dX4_begins_143 : decode cX4_begins 143 = .ok (.iload 4, 2) := by decide +kernel
theorem dX4_begins_145 : decode cX4_begins 145 = .ok (.invokevirtual 80, 3) := by decide +kernel
theorem dX4_begins_148 : decode cX4_begins 148 = .ok (.aload_n 0, 1) := by decide +kernel
theorem dX4_begins_149 : decode cX4_begins 149 = .ok (.iload_n 1, 1) := by decide +kernel
theorem dX4_begins_150 : decode cX4_begins 150 = .ok (.bipush 26, 2) := by decide +kernel
theorem dX4_begins_152 : decode cX4_begins 152 = .ok (.iload_n 3, 1) := by decide +kernel
theorem dX4_begins_153 : decode cX4_begins 153 = .ok (.iadd, 1) := by decide +kernel
theorem dX4_begins_154 : decode cX4_begins 154 = .ok (.aload_n 0, 1) := by decide +kernel
theorem dX4_begins_155 : decode cX4_begins 155 = .ok (.getfield 7, 3) := by decide +kernel
theorem dX4_begins_158 : decode cX4_begins 158 = .ok (.iconst 4, 1) := by decide +kernel
theorem dX4_begins_159 : decode cX4_begins 159 = .ok (.iaload, 1) := by decide +kernel
theorem dX4_begins_160 : decode cX4_begins 160 = .ok (.iload_n 3, 1) := by decide +kernel
theorem dX4_begins_161 : decode cX4_begins 161 = .ok (.iconst 1, 1) := by decide +kernel
theorem dX4_begins_162 : decode cX4_begins 162 = .ok (.iadd, 1) := by decide +kernel
theorem dX4_begins_163 : decode cX4_begins 163 = .ok (.aload_n 0, 1) := by decide +kernel
theorem dX4_begins_164 : decode cX4_begins 164 = .ok (.getfield 7, 3) := by decide +kernel
theorem dX4_begins_167 : decode cX4_begins 167 = .ok (.iconst 0, 1) := by decide +kernel
theorem dX4_begins_168 : decode cX4_begins 168 = .ok (.iaload, 1) := by decide +kernel
theorem dX4_begins_169 : decode cX4_begins 169 = .ok (.imul, 1) := by decide +kernel
theorem dX4_begins_170 : decode cX4_begins 170 = .ok (.iadd, 1) := by decide +kernel
theorem dX4_begins_171 : decode cX4_begins 171 = .ok (.invokevirtual 80, 3) := by decide +kernel
theorem dX4_begins_174 : decode cX4_begins 174 = .ok (.iinc 3 1, 3) := by decide +kernel
theorem dX4_begins_177 : decode cX4_begins 177 = .ok (.goto (-84), 3) := by decide +kernel
theorem dX4_begins_180 : decode cX4_begins 180 = .ok (.iload_n 2, 1) := by decide +kernel
theorem dX4_begins_181 : decode cX4_begins 181 = .ok (.ireturn, 1) := by decide +kernel
theorem dX4_begin_0 : decode cX4_begin 0 = .ok (.aload_n 0, 1) := by decide +kernel
theorem dX4_begin_1 : decode cX4_begin 1 = .ok (.aload_n 0, 1) := by decide +kernel
theorem dX4_begin_2 : decode cX4_begin 2 = .ok (.iload_n 1, 1) := by decide +kernel
theorem dX4_begin_3 : decode cX4_begin 3 = .ok (.invokevirtual 84, 3) := by decide +kernel
theorem dX4_begin_6 : decode cX4_begin 6 = .ok (.ifCond .ne 7, 3) := by decide +kernel
theorem dX4_begin_9 : decode cX4_begin 9 = .ok (.iconst 1, 1) := by decide +kernel
theorem dX4_begin_10 : decode cX4_begin 10 = .ok (.goto 16, 3) := by decide +kernel
theorem dX4_begin_13 : decode cX4_begin 13 = .ok (.aload_n 0, 1) := by decide +kernel
theorem dX4_begin_14 : decode cX4_begin 14 = .ok (.iload_n 1, 1) := by decide +kernel
theorem dX4_begin_15 : decode cX4_begin 15 = .ok (.invokevirtual 106, 3) := by decide +kernel
theorem dX4_begin_18 : decode cX4_begin 18 = .ok (.ifCond .ne 7, 3) := by decide +kernel
theorem dX4_begin_21 : decode cX4_begin 21 = .ok (.iconst 0, 1) := by decide +kernel
theorem dX4_begin_22 : decode cX4_begin 22 = .ok (.goto 4, 3) := by decide +kernel
theorem dX4_begin_25 : decode cX4_begin 25 = .ok (.iconst 2, 1) := by decide +kernel
theorem dX4_begin_26 : decode cX4_begin 26 = .ok (.putfield 25, 3) := by decide +kernel
theorem dX4_begin_29 : decode cX4_begin 29 = .ok (.aload_n 0, 1) := by decide +kernel
theorem dX4_begin_30 : decode cX4_begin 30 = .ok (.getfield 25, 3) := by decide +kernel
theorem dX4_begin_33 : decode cX4_begin 33 = .ok (.ifCond .le 5, 3) := by decide +kernel
theorem dX4_begin_36 : decode cX4_begin 36 = .ok (.iconst 0, 1) := by decide +kernel
theorem dX4_begin_37 : decode cX4_begin 37 = .ok (.ireturn, 1) := by decide +kernel
theorem dX4_begin_38 : decode cX4_begin 38 = .ok (.aload_n 0, 1) := by decide +kernel
theorem dX4_begin_39 : decode cX4_begin 39 = .ok (.invokevirtual 77, 3) := by decide +kernel
theorem dX4_begin_42 : decode cX4_begin 42 = .ok (.aload_n 0, 1) := by decide +kernel
theorem dX4_begin_43 : decode cX4_begin 43 = .ok (.iload_n 1, 1) := by decide +kernel
theorem dX4_begin_44 : decode cX4_begin 44 = .ok (.invokevirtual 109, 3) := by decide +kernel
theorem dX4_begin_47 : decode cX4_begin 47 = .ok (.ireturn, 1) := by decide +kernel
theorem dX4_settle_0 : decode cX4_settle 0 = .ok (.aload_n 0, 1) := by decide +kernel
theorem dX4_settle_1 : decode cX4_settle 1 = .ok (.iload_n 1, 1) := by decide +kernel
theorem dX4_settle_2 : decode cX4_settle 2 = .ok (.iload_n 2, 1) := by decide +kernel
theorem dX4_settle_3 : decode cX4_settle 3 = .ok (.invokevirtual 36, 3) := by decide +kernel
theorem dX4_settle_6 : decode cX4_settle 6 = .ok (.iload_n 3, 1) := by decide +kernel
theorem dX4_settle_7 : decode cX4_settle 7 = .ok (.if_icmp .ge 12, 3) := by decide +kernel
theorem dX4_settle_10 : decode cX4_settle 10 = .ok (.aload_n 0, 1) := by decide +kernel
theorem dX4_settle_11 : decode cX4_settle 11 = .ok (.iload_n 1, 1) := by decide +kernel
theorem dX4_settle_12 : decode cX4_settle 12 = .ok (.iload_n 2, 1) := by decide +kernel
theorem dX4_settle_13 : decode cX4_settle 13 = .ok (.invokevirtual 36, 3) := by decide +kernel
theorem dX4_settle_16 : decode cX4_settle 16 = .ok (.goto 4, 3) := by decide +kernel
theorem dX4_settle_19 : decode cX4_settle 19 = .ok (.iload_n 3, 1) := by decide +kernel
theorem dX4_settle_20 : decode cX4_settle 20 = .ok (.istore 4, 2) := by decide +kernel
theorem dX4_settle_22 : decode cX4_settle 22 = .ok (.aload_n 0, 1) := by decide +kernel
theorem dX4_settle_23 : decode cX4_settle 23 = .ok (.iload_n 1, 1) := by decide +kernel
theorem dX4_settle_24 : decode cX4_settle 24 = .ok (.iload_n 2, 1) := by decide +kernel
theorem dX4_settle_25 : decode cX4_settle 25 = .ok (.iload 4, 2) := by decide +kernel
theorem dX4_settle_27 : decode cX4_settle 27 = .ok (.ineg, 1) := by decide +kernel
theorem dX4_settle_28 : decode cX4_settle 28 = .ok (.invokevirtual 112, 3) := by decide +kernel
theorem dX4_settle_31 : decode cX4_settle 31 = .ok (.iload_n 3, 1) := by decide +kernel
theorem dX4_settle_32 : decode cX4_settle 32 = .ok (.iload 4, 2) := by decide +kernel
theorem dX4_settle_34 : decode cX4_settle 34 = .ok (.isub, 1) := by decide +kernel
theorem dX4_settle_35 : decode cX4_settle 35 = .ok (.ireturn, 1) := by decide +kernel
theorem dX4_takes_0 : decode cX4_takes 0 = .ok (.iload_n 2, 1) := by decide +kernel
theorem dX4_takes_1 : decode cX4_takes 1 = .ok (.istore 4, 2) := by decide +kernel
theorem dX4_takes_3 : decode cX4_takes 3 = .ok (.iconst 0, 1) := by decide +kernel
theorem dX4_takes_4 : decode cX4_takes 4 = .ok (.istore 5, 2) := by decide +kernel
theorem dX4_takes_6 : decode cX4_takes 6 = .ok (.iload 5, 2) := by decide +kernel
theorem dX4_takes_8 : decode cX4_takes 8 = .ok (.aload_n 0, 1) := by decide +kernel
theorem dX4_takes_9 : decode cX4_takes 9 = .ok (.iload_n 1, 1) := by decide +kernel
theorem dX4_takes_10 : decode cX4_takes 10 = .ok (.bipush 17, 2) := by decide +kernel
theorem dX4_takes_12 : decode cX4_takes 12 = .ok (.invokevirtual 36, 3) := by decide +kernel
theorem dX4_takes_15 : decode cX4_takes 15 = .ok (.if_icmp .ge 23, 3) := by decide +kernel
theorem dX4_takes_18 : decode cX4_takes 18 = .ok (.aload_n 0, 1) := by decide +kernel
theorem dX4_takes_19 : decode cX4_takes 19 = .ok (.iload_n 1, 1) := by decide +kernel
theorem dX4_takes_20 : decode cX4_takes 20 = .ok (.bipush 22, 2) := by decide +kernel
theorem dX4_takes_22 : decode cX4_takes 22 = .ok (.iload 5, 2) := by decide +kernel
theorem dX4_takes_24 : decode cX4_takes 24 = .ok (.iadd, 1) := by decide +kernel
theorem dX4_takes_25 : decode cX4_takes 25 = .ok (.iload 4, 2) := by decide +kernel
theorem dX4_takes_27 : decode cX4_takes 27 = .ok (.invokevirtual 115, 3) := by decide +kernel
theorem dX4_takes_30 : decode cX4_takes 30 = .ok (.istore 4, 2) := by decide +kernel
theorem dX4_takes_32 : decode cX4_takes 32 = .ok (.iinc 5 1, 3) := by decide +kernel
theorem dX4_takes_35 : decode cX4_takes 35 = .ok (.goto (-29), 3) := by decide +kernel
theorem dX4_takes_38 : decode cX4_takes 38 = .ok (.aload_n 0, 1) := by decide +kernel
theorem dX4_takes_39 : decode cX4_takes 39 = .ok (.iload_n 1, 1) := by decide +kernel
theorem dX4_takes_40 : decode cX4_takes 40 = .ok (.bipush 30, 2) := by decide +kernel
theorem dX4_takes_42 : decode cX4_takes 42 = .ok (.iload 4, 2) := by decide +kernel
theorem dX4_takes_44 : decode cX4_takes 44 = .ok (.invokevirtual 115, 3) := by decide +kernel
theorem dX4_takes_47 : decode cX4_takes 47 = .ok (.istore 4, 2) := by decide +kernel
theorem dX4_takes_49 : decode cX4_takes 49 = .ok (.aload_n 0, 1) := by decide +kernel
theorem dX4_takes_50 : decode cX4_takes 50 = .ok (.iload_n 1, 1) := by decide +kernel
theorem dX4_takes_51 : decode cX4_takes 51 = .ok (.bipush 33, 2) := by decide +kernel
theorem dX4_takes_53 : decode cX4_takes 53 = .ok (.iload 4, 2) := by decide +kernel
theorem dX4_takes_55 : decode cX4_takes 55 = .ok (.invokevirtual 115, 3) := by decide +kernel
theorem dX4_takes_58 : decode cX4_takes 58 = .ok (.istore 4, 2) := by decide +kernel
theorem dX4_takes_60 : decode cX4_takes 60 = .ok (.aload_n 0, 1) := by decide +kernel
theorem dX4_takes_61 : decode cX4_takes 61 = .ok (.iload_n 1, 1) := by decide +kernel
theorem dX4_takes_62 : decode cX4_takes 62 = .ok (.iload_n 3, 1) := by decide +kernel
theorem dX4_takes_63 : decode cX4_takes 63 = .ok (.iload_n 2, 1) := by decide +kernel
theorem dX4_takes_64 : decode cX4_takes 64 = .ok (.iload 4, 2) := by decide +kernel
theorem dX4_takes_66 : decode cX4_takes 66 = .ok (.isub, 1) := by decide +kernel
theorem dX4_takes_67 : decode cX4_takes 67 = .ok (.invokevirtual 112, 3) := by decide +kernel
theorem dX4_takes_70 : decode cX4_takes 70 = .ok (.iload_n 2, 1) := by decide +kernel
theorem dX4_takes_71 : decode cX4_takes 71 = .ok (.iload 4, 2) := by decide +kernel
theorem dX4_takes_73 : decode cX4_takes 73 = .ok (.isub, 1) := by decide +kernel
theorem dX4_takes_74 : decode cX4_takes 74 = .ok (.ireturn, 1) := by decide +kernel
theorem dX4_isMoney_0 : decode cX4_isMoney 0 = .ok (.iload_n 0, 1) := by decide +kernel
theorem dX4_isMoney_1 : decode cX4_isMoney 1 = .ok (.iconst 1, 1) := by decide +kernel
theorem dX4_isMoney_2 : decode cX4_isMoney 2 = .ok (.ldc 119, 2) := by decide +kernel
theorem dX4_isMoney_4 : decode cX4_isMoney 4 = .ok (.invokestatic 32, 3) := by decide +kernel
theorem dX4_isMoney_7 : decode cX4_isMoney 7 = .ok (.ireturn, 1) := by decide +kernel
theorem dX4_pay_0 : decode cX4_pay 0 = .ok (.aload_n 0, 1) := by decide +kernel
theorem dX4_pay_1 : decode cX4_pay 1 = .ok (.aload_n 0, 1) := by decide +kernel
theorem dX4_pay_2 : decode cX4_pay 2 = .ok (.iload_n 1, 1) := by decide +kernel
theorem dX4_pay_3 : decode cX4_pay 3 = .ok (.invokevirtual 84, 3) := by decide +kernel
theorem dX4_pay_6 : decode cX4_pay 6 = .ok (.ifCond .ne 7, 3) := by decide +kernel
theorem dX4_pay_9 : decode cX4_pay 9 = .ok (.iconst 1, 1) := by decide +kernel
theorem dX4_pay_10 : decode cX4_pay 10 = .ok (.goto 27, 3) := by decide +kernel
theorem dX4_pay_13 : decode cX4_pay 13 = .ok (.iload_n 2, 1) := by decide +kernel
theorem dX4_pay_14 : decode cX4_pay 14 = .ok (.invokestatic 120, 3) := by decide +kernel
theorem dX4_pay_17 : decode cX4_pay 17 = .ok (.ifCond .ne 7, 3) := by decide +kernel
theorem dX4_pay_20 : decode cX4_pay 20 = .ok (.iconst 2, 1) := by decide +kernel
theorem dX4_pay_21 : decode cX4_pay 21 = .ok (.goto 16, 3) := by decide +kernel
theorem dX4_pay_24 : decode cX4_pay 24 = .ok (.aload_n 0, 1) := by decide +kernel
theorem dX4_pay_25 : decode cX4_pay 25 = .ok (.iload_n 1, 1) := by decide +kernel
theorem dX4_pay_26 : decode cX4_pay 26 = .ok (.invokevirtual 71, 3) := by decide +kernel
theorem dX4_pay_29 : decode cX4_pay 29 = .ok (.ifCond .ne 7, 3) := by decide +kernel
theorem dX4_pay_32 : decode cX4_pay 32 = .ok (.iconst 0, 1) := by decide +kernel
theorem dX4_pay_33 : decode cX4_pay 33 = .ok (.goto 4, 3) := by decide +kernel
theorem dX4_pay_36 : decode cX4_pay 36 = .ok (.iconst 3, 1) := by decide +kernel
theorem dX4_pay_37 : decode cX4_pay 37 = .ok (.putfield 25, 3) := by decide +kernel
theorem dX4_pay_40 : decode cX4_pay 40 = .ok (.aload_n 0, 1) := by decide +kernel
theorem dX4_pay_41 : decode cX4_pay 41 = .ok (.getfield 25, 3) := by decide +kernel
theorem dX4_pay_44 : decode cX4_pay 44 = .ok (.ifCond .le 5, 3) := by decide +kernel
theorem dX4_pay_47 : decode cX4_pay 47 = .ok (.iconst 0, 1) := by decide +kernel
theorem dX4_pay_48 : decode cX4_pay 48 = .ok (.ireturn, 1) := by decide +kernel
theorem dX4_pay_49 : decode cX4_pay 49 = .ok (.aload_n 0, 1) := by decide +kernel
theorem dX4_pay_50 : decode cX4_pay 50 = .ok (.invokevirtual 77, 3) := by decide +kernel
theorem dX4_pay_53 : decode cX4_pay 53 = .ok (.aload_n 0, 1) := by decide +kernel
theorem dX4_pay_54 : decode cX4_pay 54 = .ok (.iload_n 1, 1) := by decide +kernel
theorem dX4_pay_55 : decode cX4_pay 55 = .ok (.iload_n 2, 1) := by decide +kernel
theorem dX4_pay_56 : decode cX4_pay 56 = .ok (.bipush 34, 2) := by decide +kernel
theorem dX4_pay_58 : decode cX4_pay 58 = .ok (.invokevirtual 123, 3) := by decide +kernel
theorem dX4_pay_61 : decode cX4_pay 61 = .ok (.ireturn, 1) := by decide +kernel
theorem dX4_land_0 : decode cX4_land 0 = .ok (.aload_n 0, 1) := by decide +kernel
theorem dX4_land_1 : decode cX4_land 1 = .ok (.aload_n 0, 1) := by decide +kernel
theorem dX4_land_2 : decode cX4_land 2 = .ok (.iload_n 1, 1) := by decide +kernel
theorem dX4_land_3 : decode cX4_land 3 = .ok (.invokevirtual 84, 3) := by decide +kernel
theorem dX4_land_6 : decode cX4_land 6 = .ok (.ifCond .ne 7, 3) := by decide +kernel
theorem dX4_land_9 : decode cX4_land 9 = .ok (.iconst 1, 1) := by decide +kernel
theorem dX4_land_10 : decode cX4_land 10 = .ok (.goto 27, 3) := by decide +kernel
theorem dX4_land_13 : decode cX4_land 13 = .ok (.iload_n 2, 1) := by decide +kernel
theorem dX4_land_14 : decode cX4_land 14 = .ok (.invokestatic 120, 3) := by decide +kernel
theorem dX4_land_17 : decode cX4_land 17 = .ok (.ifCond .ne 7, 3) := by decide +kernel
theorem dX4_land_20 : decode cX4_land 20 = .ok (.iconst 2, 1) := by decide +kernel
theorem dX4_land_21 : decode cX4_land 21 = .ok (.goto 16, 3) := by decide +kernel
theorem dX4_land_24 : decode cX4_land 24 = .ok (.aload_n 0, 1) := by decide +kernel
theorem dX4_land_25 : decode cX4_land 25 = .ok (.iload_n 1, 1) := by decide +kernel
theorem dX4_land_26 : decode cX4_land 26 = .ok (.invokevirtual 126, 3) := by decide +kernel
theorem dX4_land_29 : decode cX4_land 29 = .ok (.ifCond .ne 7, 3) := by decide +kernel
theorem dX4_land_32 : decode cX4_land 32 = .ok (.iconst 0, 1) := by decide +kernel
theorem dX4_land_33 : decode cX4_land 33 = .ok (.goto 4, 3) := by decide +kernel
theorem dX4_land_36 : decode cX4_land 36 = .ok (.iconst 3, 1) := by decide +kernel
theorem dX4_land_37 : decode cX4_land 37 = .ok (.putfield 25, 3) := by decide +kernel
theorem dX4_land_40 : decode cX4_land 40 = .ok (.aload_n 0, 1) := by decide +kernel
theorem dX4_land_41 : decode cX4_land 41 = .ok (.getfield 25, 3) := by decide +kernel
theorem dX4_land_44 : decode cX4_land 44 = .ok (.ifCond .le 5, 3) := by decide +kernel
theorem dX4_land_47 : decode cX4_land 47 = .ok (.iconst 0, 1) := by decide +kernel
theorem dX4_land_48 : decode cX4_land 48 = .ok (.ireturn, 1) := by decide +kernel
theorem dX4_land_49 : decode cX4_land 49 = .ok (.aload_n 0, 1) := by decide +kernel
theorem dX4_land_50 : decode cX4_land 50 = .ok (.invokevirtual 77, 3) := by decide +kernel
theorem dX4_land_53 : decode cX4_land 53 = .ok (.aload_n 0, 1) := by decide +kernel
theorem dX4_land_54 : decode cX4_land 54 = .ok (.iload_n 1, 1) := by decide +kernel
theorem dX4_land_55 : decode cX4_land 55 = .ok (.invokevirtual 74, 3) := by decide +kernel
theorem dX4_land_58 : decode cX4_land 58 = .ok (.istore_n 3, 1) := by decide +kernel
theorem dX4_land_59 : decode cX4_land 59 = .ok (.aload_n 0, 1) := by decide +kernel
theorem dX4_land_60 : decode cX4_land 60 = .ok (.iload_n 1, 1) := by decide +kernel
theorem dX4_land_61 : decode cX4_land 61 = .ok (.iload_n 2, 1) := by decide +kernel
theorem dX4_land_62 : decode cX4_land 62 = .ok (.iload_n 3, 1) := by decide +kernel
theorem dX4_land_63 : decode cX4_land 63 = .ok (.if_icmp .ge 7, 3) := by decide +kernel
theorem dX4_land_66 : decode cX4_land 66 = .ok (.iload_n 2, 1) := by decide +kernel
theorem dX4_land_67 : decode cX4_land 67 = .ok (.goto 4, 3) := by decide +kernel
theorem dX4_land_70 : decode cX4_land 70 = .ok (.iload_n 3, 1) := by decide +kernel
theorem dX4_land_71 : decode cX4_land 71 = .ok (.bipush 35, 2) := by decide +kernel
theorem dX4_land_73 : decode cX4_land 73 = .ok (.invokevirtual 123, 3) := by decide +kernel
theorem dX4_land_76 : decode cX4_land 76 = .ok (.ireturn, 1) := by decide +kernel
theorem dX4_lapse_0 : decode cX4_lapse 0 = .ok (.aload_n 0, 1) := by decide +kernel
theorem dX4_lapse_1 : decode cX4_lapse 1 = .ok (.aload_n 0, 1) := by decide +kernel
theorem dX4_lapse_2 : decode cX4_lapse 2 = .ok (.iload_n 1, 1) := by decide +kernel
theorem dX4_lapse_3 : decode cX4_lapse 3 = .ok (.invokevirtual 84, 3) := by decide +kernel
theorem dX4_lapse_6 : decode cX4_lapse 6 = .ok (.ifCond .eq 10, 3) := by decide +kernel
theorem dX4_lapse_9 : decode cX4_lapse 9 = .ok (.iload_n 2, 1) := by decide +kernel
theorem dX4_lapse_10 : decode cX4_lapse 10 = .ok (.invokestatic 87, 3) := by decide +kernel
theorem dX4_lapse_13 : decode cX4_lapse 13 = .ok (.ifCond .ne 7, 3) := by decide +kernel
theorem dX4_lapse_16 : decode cX4_lapse 16 = .ok (.iconst 1, 1) := by decide +kernel
theorem dX4_lapse_17 : decode cX4_lapse 17 = .ok (.goto 17, 3) := by decide +kernel
theorem dX4_lapse_20 : decode cX4_lapse 20 = .ok (.aload_n 0, 1) := by decide +kernel
theorem dX4_lapse_21 : decode cX4_lapse 21 = .ok (.iload_n 1, 1) := by decide +kernel
theorem dX4_lapse_22 : decode cX4_lapse 22 = .ok (.iload_n 2, 1) := by decide +kernel
theorem dX4_lapse_23 : decode cX4_lapse 23 = .ok (.invokevirtual 129, 3) := by decide +kernel
theorem dX4_lapse_26 : decode cX4_lapse 26 = .ok (.ifCond .ne 7, 3) := by decide +kernel
theorem dX4_lapse_29 : decode cX4_lapse 29 = .ok (.iconst 0, 1) := by decide +kernel
theorem dX4_lapse_30 : decode cX4_lapse 30 = .ok (.goto 4, 3) := by decide +kernel
theorem dX4_lapse_33 : decode cX4_lapse 33 = .ok (.iconst 2, 1) := by decide +kernel
theorem dX4_lapse_34 : decode cX4_lapse 34 = .ok (.putfield 25, 3) := by decide +kernel
theorem dX4_lapse_37 : decode cX4_lapse 37 = .ok (.aload_n 0, 1) := by decide +kernel
theorem dX4_lapse_38 : decode cX4_lapse 38 = .ok (.getfield 25, 3) := by decide +kernel
theorem dX4_lapse_41 : decode cX4_lapse 41 = .ok (.ifCond .le 5, 3) := by decide +kernel
theorem dX4_lapse_44 : decode cX4_lapse 44 = .ok (.iconst 0, 1) := by decide +kernel
theorem dX4_lapse_45 : decode cX4_lapse 45 = .ok (.ireturn, 1) := by decide +kernel
theorem dX4_lapse_46 : decode cX4_lapse 46 = .ok (.aload_n 0, 1) := by decide +kernel
theorem dX4_lapse_47 : decode cX4_lapse 47 = .ok (.invokevirtual 77, 3) := by decide +kernel
theorem dX4_lapse_50 : decode cX4_lapse 50 = .ok (.aload_n 0, 1) := by decide +kernel
theorem dX4_lapse_51 : decode cX4_lapse 51 = .ok (.iload_n 1, 1) := by decide +kernel
theorem dX4_lapse_52 : decode cX4_lapse 52 = .ok (.bipush 13, 2) := by decide +kernel
theorem dX4_lapse_54 : decode cX4_lapse 54 = .ok (.iload_n 2, 1) := by decide +kernel
theorem dX4_lapse_55 : decode cX4_lapse 55 = .ok (.iadd, 1) := by decide +kernel
theorem dX4_lapse_56 : decode cX4_lapse 56 = .ok (.invokevirtual 36, 3) := by decide +kernel
theorem dX4_lapse_59 : decode cX4_lapse 59 = .ok (.istore_n 3, 1) := by decide +kernel
theorem dX4_lapse_60 : decode cX4_lapse 60 = .ok (.aload_n 0, 1) := by decide +kernel
theorem dX4_lapse_61 : decode cX4_lapse 61 = .ok (.iload_n 1, 1) := by decide +kernel
theorem dX4_lapse_62 : decode cX4_lapse 62 = .ok (.bipush 13, 2) := by decide +kernel
theorem dX4_lapse_64 : decode cX4_lapse 64 = .ok (.iload_n 2, 1) := by decide +kernel
theorem dX4_lapse_65 : decode cX4_lapse 65 = .ok (.iadd, 1) := by decide +kernel
theorem dX4_lapse_66 : decode cX4_lapse 66 = .ok (.iconst 0, 1) := by decide +kernel
theorem dX4_lapse_67 : decode cX4_lapse 67 = .ok (.invokevirtual 80, 3) := by decide +kernel
theorem dX4_lapse_70 : decode cX4_lapse 70 = .ok (.aload_n 0, 1) := by decide +kernel
theorem dX4_lapse_71 : decode cX4_lapse 71 = .ok (.iload_n 1, 1) := by decide +kernel
theorem dX4_lapse_72 : decode cX4_lapse 72 = .ok (.bipush 31, 2) := by decide +kernel
theorem dX4_lapse_74 : decode cX4_lapse 74 = .ok (.iload_n 3, 1) := by decide +kernel
theorem dX4_lapse_75 : decode cX4_lapse 75 = .ok (.invokevirtual 112, 3) := by decide +kernel
theorem dX4_lapse_78 : decode cX4_lapse 78 = .ok (.aload_n 0, 1) := by decide +kernel
theorem dX4_lapse_79 : decode cX4_lapse 79 = .ok (.iload_n 1, 1) := by decide +kernel
theorem dX4_lapse_80 : decode cX4_lapse 80 = .ok (.bipush 30, 2) := by decide +kernel
theorem dX4_lapse_82 : decode cX4_lapse 82 = .ok (.iload_n 3, 1) := by decide +kernel
theorem dX4_lapse_83 : decode cX4_lapse 83 = .ok (.invokevirtual 112, 3) := by decide +kernel
theorem dX4_lapse_86 : decode cX4_lapse 86 = .ok (.iload_n 3, 1) := by decide +kernel
theorem dX4_lapse_87 : decode cX4_lapse 87 = .ok (.ireturn, 1) := by decide +kernel
theorem dX4_firstDue_0 : decode cX4_firstDue 0 = .ok (.iconst 0, 1) := by decide +kernel
theorem dX4_firstDue_1 : decode cX4_firstDue 1 = .ok (.istore_n 2, 1) := by decide +kernel
theorem dX4_firstDue_2 : decode cX4_firstDue 2 = .ok (.iload_n 2, 1) := by decide +kernel
theorem dX4_firstDue_3 : decode cX4_firstDue 3 = .ok (.aload_n 0, 1) := by decide +kernel
theorem dX4_firstDue_4 : decode cX4_firstDue 4 = .ok (.iload_n 1, 1) := by decide +kernel
theorem dX4_firstDue_5 : decode cX4_firstDue 5 = .ok (.bipush 17, 2) := by decide +kernel
theorem dX4_firstDue_7 : decode cX4_firstDue 7 = .ok (.invokevirtual 36, 3) := by decide +kernel
theorem dX4_firstDue_10 : decode cX4_firstDue 10 = .ok (.if_icmp .ge 31, 3) := by decide +kernel
theorem dX4_firstDue_13 : decode cX4_firstDue 13 = .ok (.aload_n 0, 1) := by decide +kernel
theorem dX4_firstDue_14 : decode cX4_firstDue 14 = .ok (.iload_n 1, 1) := by decide +kernel
theorem dX4_firstDue_15 : decode cX4_firstDue 15 = .ok (.bipush 22, 2) := by decide +kernel
theorem dX4_firstDue_17 : decode cX4_firstDue 17 = .ok (.iload_n 2, 1) := by decide +kernel
theorem dX4_firstDue_18 : decode cX4_firstDue 18 = .ok (.iadd, 1) := by decide +kernel
theorem dX4_firstDue_19 : decode cX4_firstDue 19 = .ok (.invokevirtual 36, 3) := by decide +kernel
theorem dX4_firstDue_22 : decode cX4_firstDue 22 = .ok (.ifCond .le 13, 3) := by decide +kernel
theorem dX4_firstDue_25 : decode cX4_firstDue 25 = .ok (.aload_n 0, 1) := by decide +kernel
theorem dX4_firstDue_26 : decode cX4_firstDue 26 = .ok (.iload_n 1, 1) := by decide +kernel
theorem dX4_firstDue_27 : decode cX4_firstDue 27 = .ok (.bipush 26, 2) := by decide +kernel
theorem dX4_firstDue_29 : decode cX4_firstDue 29 = .ok (.iload_n 2, 1) := by decide +kernel
theorem dX4_firstDue_30 : decode cX4_firstDue 30 = .ok (.iadd, 1) := by decide +kernel
theorem dX4_firstDue_31 : decode cX4_firstDue 31 = .ok (.invokevirtual 36, 3) := by decide +kernel
theorem dX4_firstDue_34 : decode cX4_firstDue 34 = .ok (.ireturn, 1) := by decide +kernel
theorem dX4_firstDue_35 : decode cX4_firstDue 35 = .ok (.iinc 2 1, 3) := by decide +kernel
theorem dX4_firstDue_38 : decode cX4_firstDue 38 = .ok (.goto (-36), 3) := by decide +kernel
theorem dX4_firstDue_41 : decode cX4_firstDue 41 = .ok (.iconst (-1), 1) := by decide +kernel
theorem dX4_firstDue_42 : decode cX4_firstDue 42 = .ok (.ireturn, 1) := by decide +kernel
theorem dX4_canBreak_0 : decode cX4_canBreak 0 = .ok (.aload_n 0, 1) := by decide +kernel
theorem dX4_canBreak_1 : decode cX4_canBreak 1 = .ok (.iload_n 1, 1) := by decide +kernel
theorem dX4_canBreak_2 : decode cX4_canBreak 2 = .ok (.invokevirtual 40, 3) := by decide +kernel
theorem dX4_canBreak_5 : decode cX4_canBreak 5 = .ok (.ifCond .eq 26, 3) := by decide +kernel
theorem dX4_canBreak_8 : decode cX4_canBreak 8 = .ok (.aload_n 0, 1) := by decide +kernel
theorem dX4_canBreak_9 : decode cX4_canBreak 9 = .ok (.iload_n 1, 1) := by decide +kernel
theorem dX4_canBreak_10 : decode cX4_canBreak 10 = .ok (.bipush 36, 2) := by decide +kernel
theorem dX4_canBreak_12 : decode cX4_canBreak 12 = .ok (.invokevirtual 36, 3) := by decide +kernel
theorem dX4_canBreak_15 : decode cX4_canBreak 15 = .ok (.ifCond .ne 16, 3) := by decide +kernel
theorem dX4_canBreak_18 : decode cX4_canBreak 18 = .ok (.aload_n 0, 1) := by decide +kernel
theorem dX4_canBreak_19 : decode cX4_canBreak 19 = .ok (.iload_n 1, 1) := by decide +kernel
theorem dX4_canBreak_20 : decode cX4_canBreak 20 = .ok (.invokevirtual 132, 3) := by decide +kernel
theorem dX4_canBreak_23 : decode cX4_canBreak 23 = .ok (.iconst (-1), 1) := by decide +kernel
theorem dX4_canBreak_24 : decode cX4_canBreak 24 = .ok (.if_icmp .eq 7, 3) := by decide +kernel
theorem dX4_canBreak_27 : decode cX4_canBreak 27 = .ok (.iconst 1, 1) := by decide +kernel
theorem dX4_canBreak_28 : decode cX4_canBreak 28 = .ok (.goto 4, 3) := by decide +kernel
theorem dX4_canBreak_31 : decode cX4_canBreak 31 = .ok (.iconst 0, 1) := by decide +kernel
theorem dX4_canBreak_32 : decode cX4_canBreak 32 = .ok (.ireturn, 1) := by decide +kernel
theorem dX4_dayPasses_0 : decode cX4_dayPasses 0 = .ok (.aload_n 0, 1) := by decide +kernel
theorem dX4_dayPasses_1 : decode cX4_dayPasses 1 = .ok (.getfield 7, 3) := by decide +kernel
theorem dX4_dayPasses_4 : decode cX4_dayPasses 4 = .ok (.iconst 4, 1) := by decide +kernel
theorem dX4_dayPasses_5 : decode cX4_dayPasses 5 = .ok (.dup2, 1) := by decide +kernel
theorem dX4_dayPasses_6 : decode cX4_dayPasses 6 = .ok (.iaload, 1) := by decide +kernel
theorem dX4_dayPasses_7 : decode cX4_dayPasses 7 = .ok (.iconst 1, 1) := by decide +kernel
theorem dX4_dayPasses_8 : decode cX4_dayPasses 8 = .ok (.iadd, 1) := by decide +kernel
theorem dX4_dayPasses_9 : decode cX4_dayPasses 9 = .ok (.iastore, 1) := by decide +kernel
theorem dX4_dayPasses_10 : decode cX4_dayPasses 10 = .ok (.iconst 0, 1) := by decide +kernel
theorem dX4_dayPasses_11 : decode cX4_dayPasses 11 = .ok (.istore_n 1, 1) := by decide +kernel
theorem dX4_dayPasses_12 : decode cX4_dayPasses 12 = .ok (.iconst 0, 1) := by decide +kernel
theorem dX4_dayPasses_13 : decode cX4_dayPasses 13 = .ok (.istore_n 2, 1) := by decide +kernel
theorem dX4_dayPasses_14 : decode cX4_dayPasses 14 = .ok (.iload_n 2, 1) := by decide +kernel
theorem dX4_dayPasses_15 : decode cX4_dayPasses 15 = .ok (.aload_n 0, 1) := by decide +kernel
theorem dX4_dayPasses_16 : decode cX4_dayPasses 16 = .ok (.getfield 7, 3) := by decide +kernel
theorem dX4_dayPasses_19 : decode cX4_dayPasses 19 = .ok (.bipush 9, 2) := by decide +kernel
theorem dX4_dayPasses_21 : decode cX4_dayPasses 21 = .ok (.iaload, 1) := by decide +kernel
theorem dX4_dayPasses_22 : decode cX4_dayPasses 22 = .ok (.if_icmp .ge 79, 3) := by decide +kernel
theorem dX4_dayPasses_25 : decode cX4_dayPasses 25 = .ok (.aload_n 0, 1) := by decide +kernel
theorem dX4_dayPasses_26 : decode cX4_dayPasses 26 = .ok (.iload_n 2, 1) := by decide +kernel
theorem dX4_dayPasses_27 : decode cX4_dayPasses 27 = .ok (.invokevirtual 135, 3) := by decide +kernel
theorem dX4_dayPasses_30 : decode cX4_dayPasses 30 = .ok (.ifCond .eq 65, 3) := by decide +kernel
theorem dX4_dayPasses_33 : decode cX4_dayPasses 33 = .ok (.aload_n 0, 1) := by decide +kernel
theorem dX4_dayPasses_34 : decode cX4_dayPasses 34 = .ok (.getfield 7, 3) := by decide +kernel
theorem dX4_dayPasses_37 : decode cX4_dayPasses 37 = .ok (.iconst 4, 1) := by decide +kernel
theorem dX4_dayPasses_38 : decode cX4_dayPasses 38 = .ok (.iaload, 1) := by decide +kernel
theorem dX4_dayPasses_39 : decode cX4_dayPasses 39 = .ok (.aload_n 0, 1) := by decide +kernel
theorem dX4_dayPasses_40 : decode cX4_dayPasses 40 = .ok (.iload_n 2, 1) := by decide +kernel
theorem dX4_dayPasses_41 : decode cX4_dayPasses 41 = .ok (.invokevirtual 132, 3) := by decide +kernel
theorem dX4_dayPasses_44 : decode cX4_dayPasses 44 = .ok (.if_icmp .le 51, 3) := by decide +kernel
theorem dX4_dayPasses_47 : decode cX4_dayPasses 47 = .ok (.aload_n 0, 1) := by decide +kernel
theorem dX4_dayPasses_48 : decode cX4_dayPasses 48 = .ok (.iload_n 2, 1) := by decide +kernel
theorem dX4_dayPasses_49 : decode cX4_dayPasses 49 = .ok (.invokevirtual 53, 3) := by decide +kernel
theorem dX4_dayPasses_52 : decode cX4_dayPasses 52 = .ok (.i2l, 1) := by decide +kernel
theorem dX4_dayPasses_53 : decode cX4_dayPasses 53 = .ok (.aload_n 0, 1) := by decide +kernel
theorem dX4_dayPasses_54 : decode cX4_dayPasses 54 = .ok (.getfield 7, 3) := by decide +kernel
theorem dX4_dayPasses_57 : decode cX4_dayPasses 57 = .ok (.iconst 1, 1) := by decide +kernel
theorem dX4_dayPasses_58 : decode cX4_dayPasses 58 = .ok (.iaload, 1) := by decide +kernel
theorem dX4_dayPasses_59 : decode cX4_dayPasses 59 = .ok (.i2l, 1) := by decide +kernel
theorem dX4_dayPasses_60 : decode cX4_dayPasses 60 = .ok (.lmul, 1) := by decide +kernel
theorem dX4_dayPasses_61 : decode cX4_dayPasses 61 = .ok (.ldc2_w 63, 3) := by decide +kernel
theorem dX4_dayPasses_64 : decode cX4_dayPasses 64 = .ok (.ldiv, 1) := by decide +kernel
theorem dX4_dayPasses_65 : decode cX4_dayPasses 65 = .ok (.l2i, 1) := by decide +kernel
theorem dX4_dayPasses_66 : decode cX4_dayPasses 66 = .ok (.istore_n 3, 1) := by decide +kernel
theorem dX4_dayPasses_67 : decode cX4_dayPasses 67 = .ok (.aload_n 0, 1) := by decide +kernel
theorem dX4_dayPasses_68 : decode cX4_dayPasses 68 = .ok (.iload_n 2, 1) := by decide +kernel
theorem dX4_dayPasses_69 : decode cX4_dayPasses 69 = .ok (.bipush 36, 2) := by decide +kernel
theorem dX4_dayPasses_71 : decode cX4_dayPasses 71 = .ok (.iconst 1, 1) := by decide +kernel
theorem dX4_dayPasses_72 : decode cX4_dayPasses 72 = .ok (.invokevirtual 80, 3) := by decide +kernel
theorem dX4_dayPasses_75 : decode cX4_dayPasses 75 = .ok (.aload_n 0, 1) := by decide +kernel
theorem dX4_dayPasses_76 : decode cX4_dayPasses 76 = .ok (.iload_n 2, 1) := by decide +kernel
theorem dX4_dayPasses_77 : decode cX4_dayPasses 77 = .ok (.bipush 32, 2) := by decide +kernel
theorem dX4_dayPasses_79 : decode cX4_dayPasses 79 = .ok (.iload_n 3, 1) := by decide +kernel
theorem dX4_dayPasses_80 : decode cX4_dayPasses 80 = .ok (.invokevirtual 112, 3) := by decide +kernel
theorem dX4_dayPasses_83 : decode cX4_dayPasses 83 = .ok (.aload_n 0, 1) := by decide +kernel
theorem dX4_dayPasses_84 : decode cX4_dayPasses 84 = .ok (.iload_n 2, 1) := by decide +kernel
theorem dX4_dayPasses_85 : decode cX4_dayPasses 85 = .ok (.bipush 33, 2) := by decide +kernel
theorem dX4_dayPasses_87 : decode cX4_dayPasses 87 = .ok (.iload_n 3, 1) := by decide +kernel
theorem dX4_dayPasses_88 : decode cX4_dayPasses 88 = .ok (.invokevirtual 112, 3) := by decide +kernel
theorem dX4_dayPasses_91 : decode cX4_dayPasses 91 = .ok (.iload_n 1, 1) := by decide +kernel
theorem dX4_dayPasses_92 : decode cX4_dayPasses 92 = .ok (.iload_n 3, 1) := by decide +kernel
theorem dX4_dayPasses_93 : decode cX4_dayPasses 93 = .ok (.iadd, 1) := by decide +kernel
theorem dX4_dayPasses_94 : decode cX4_dayPasses 94 = .ok (.istore_n 1, 1) := by decide +kernel
theorem dX4_dayPasses_95 : decode cX4_dayPasses 95 = .ok (.iinc 2 1, 3) := by decide +kernel
theorem dX4_dayPasses_98 : decode cX4_dayPasses 98 = .ok (.goto (-84), 3) := by decide +kernel
theorem dX4_dayPasses_101 : decode cX4_dayPasses 101 = .ok (.iload_n 1, 1) := by decide +kernel
theorem dX4_dayPasses_102 : decode cX4_dayPasses 102 = .ok (.ireturn, 1) := by decide +kernel
theorem dX4_daysPass_0 : decode cX4_daysPass 0 = .ok (.iconst 0, 1) := by decide +kernel
theorem dX4_daysPass_1 : decode cX4_daysPass 1 = .ok (.istore_n 2, 1) := by decide +kernel
theorem dX4_daysPass_2 : decode cX4_daysPass 2 = .ok (.iconst 0, 1) := by decide +kernel
theorem dX4_daysPass_3 : decode cX4_daysPass 3 = .ok (.istore_n 3, 1) := by decide +kernel
theorem dX4_daysPass_4 : decode cX4_daysPass 4 = .ok (.iload_n 3, 1) := by decide +kernel
theorem dX4_daysPass_5 : decode cX4_daysPass 5 = .ok (.iload_n 1, 1) := by decide +kernel
theorem dX4_daysPass_6 : decode cX4_daysPass 6 = .ok (.if_icmp .ge 20, 3) := by decide +kernel
theorem dX4_daysPass_9 : decode cX4_daysPass 9 = .ok (.aload_n 0, 1) := by decide +kernel
theorem dX4_daysPass_10 : decode cX4_daysPass 10 = .ok (.invokevirtual 138, 3) := by decide +kernel
theorem dX4_daysPass_13 : decode cX4_daysPass 13 = .ok (.istore 4, 2) := by decide +kernel
theorem dX4_daysPass_15 : decode cX4_daysPass 15 = .ok (.iload_n 2, 1) := by decide +kernel
theorem dX4_daysPass_16 : decode cX4_daysPass 16 = .ok (.iload 4, 2) := by decide +kernel
theorem dX4_daysPass_18 : decode cX4_daysPass 18 = .ok (.iadd, 1) := by decide +kernel
theorem dX4_daysPass_19 : decode cX4_daysPass 19 = .ok (.istore_n 2, 1) := by decide +kernel
theorem dX4_daysPass_20 : decode cX4_daysPass 20 = .ok (.iinc 3 1, 3) := by decide +kernel
theorem dX4_daysPass_23 : decode cX4_daysPass 23 = .ok (.goto (-19), 3) := by decide +kernel
theorem dX4_daysPass_26 : decode cX4_daysPass 26 = .ok (.iload_n 2, 1) := by decide +kernel
theorem dX4_daysPass_27 : decode cX4_daysPass 27 = .ok (.ireturn, 1) := by decide +kernel
theorem dX4_canPass_0 : decode cX4_canPass 0 = .ok (.aload_n 0, 1) := by decide +kernel
theorem dX4_canPass_1 : decode cX4_canPass 1 = .ok (.getfield 7, 3) := by decide +kernel
theorem dX4_canPass_4 : decode cX4_canPass 4 = .ok (.iconst 4, 1) := by decide +kernel
theorem dX4_canPass_5 : decode cX4_canPass 5 = .ok (.iaload, 1) := by decide +kernel
theorem dX4_canPass_6 : decode cX4_canPass 6 = .ok (.iload_n 1, 1) := by decide +kernel
theorem dX4_canPass_7 : decode cX4_canPass 7 = .ok (.iadd, 1) := by decide +kernel
theorem dX4_canPass_8 : decode cX4_canPass 8 = .ok (.sipush 9999, 3) := by decide +kernel
theorem dX4_canPass_11 : decode cX4_canPass 11 = .ok (.if_icmp .gt 7, 3) := by decide +kernel
theorem dX4_canPass_14 : decode cX4_canPass 14 = .ok (.iconst 1, 1) := by decide +kernel
theorem dX4_canPass_15 : decode cX4_canPass 15 = .ok (.goto 4, 3) := by decide +kernel
theorem dX4_canPass_18 : decode cX4_canPass 18 = .ok (.iconst 0, 1) := by decide +kernel
theorem dX4_canPass_19 : decode cX4_canPass 19 = .ok (.ireturn, 1) := by decide +kernel
theorem dX4_pass_0 : decode cX4_pass 0 = .ok (.aload_n 0, 1) := by decide +kernel
theorem dX4_pass_1 : decode cX4_pass 1 = .ok (.iload_n 1, 1) := by decide +kernel
theorem dX4_pass_2 : decode cX4_pass 2 = .ok (.iconst 1, 1) := by decide +kernel
theorem dX4_pass_3 : decode cX4_pass 3 = .ok (.bipush 99, 2) := by decide +kernel
theorem dX4_pass_5 : decode cX4_pass 5 = .ok (.invokestatic 32, 3) := by decide +kernel
theorem dX4_pass_8 : decode cX4_pass 8 = .ok (.ifCond .ne 7, 3) := by decide +kernel
theorem dX4_pass_11 : decode cX4_pass 11 = .ok (.iconst 1, 1) := by decide +kernel
theorem dX4_pass_12 : decode cX4_pass 12 = .ok (.goto 16, 3) := by decide +kernel
theorem dX4_pass_15 : decode cX4_pass 15 = .ok (.aload_n 0, 1) := by decide +kernel
theorem dX4_pass_16 : decode cX4_pass 16 = .ok (.iload_n 1, 1) := by decide +kernel
theorem dX4_pass_17 : decode cX4_pass 17 = .ok (.invokevirtual 142, 3) := by decide +kernel
theorem dX4_pass_20 : decode cX4_pass 20 = .ok (.ifCond .eq 7, 3) := by decide +kernel
theorem dX4_pass_23 : decode cX4_pass 23 = .ok (.iconst 0, 1) := by decide +kernel
theorem dX4_pass_24 : decode cX4_pass 24 = .ok (.goto 4, 3) := by decide +kernel
theorem dX4_pass_27 : decode cX4_pass 27 = .ok (.iconst 2, 1) := by decide +kernel
theorem dX4_pass_28 : decode cX4_pass 28 = .ok (.putfield 25, 3) := by decide +kernel
theorem dX4_pass_31 : decode cX4_pass 31 = .ok (.aload_n 0, 1) := by decide +kernel
theorem dX4_pass_32 : decode cX4_pass 32 = .ok (.getfield 25, 3) := by decide +kernel
theorem dX4_pass_35 : decode cX4_pass 35 = .ok (.ifCond .le 5, 3) := by decide +kernel
theorem dX4_pass_38 : decode cX4_pass 38 = .ok (.iconst 0, 1) := by decide +kernel
theorem dX4_pass_39 : decode cX4_pass 39 = .ok (.ireturn, 1) := by decide +kernel
theorem dX4_pass_40 : decode cX4_pass 40 = .ok (.aload_n 0, 1) := by decide +kernel
theorem dX4_pass_41 : decode cX4_pass 41 = .ok (.invokevirtual 77, 3) := by decide +kernel
theorem dX4_pass_44 : decode cX4_pass 44 = .ok (.aload_n 0, 1) := by decide +kernel
theorem dX4_pass_45 : decode cX4_pass 45 = .ok (.iload_n 1, 1) := by decide +kernel
theorem dX4_pass_46 : decode cX4_pass 46 = .ok (.invokevirtual 145, 3) := by decide +kernel
theorem dX4_pass_49 : decode cX4_pass 49 = .ok (.ireturn, 1) := by decide +kernel
theorem dX4_append_0 : decode cX4_append 0 = .ok (.aload_n 0, 1) := by decide +kernel
theorem dX4_append_1 : decode cX4_append 1 = .ok (.iload_n 1, 1) := by decide +kernel
theorem dX4_append_2 : decode cX4_append 2 = .ok (.bipush 33, 2) := by decide +kernel
theorem dX4_append_4 : decode cX4_append 4 = .ok (.bipush 126, 2) := by decide +kernel
theorem dX4_append_6 : decode cX4_append 6 = .ok (.invokestatic 32, 3) := by decide +kernel
theorem dX4_append_9 : decode cX4_append 9 = .ok (.ifCond .ne 7, 3) := by decide +kernel
theorem dX4_append_12 : decode cX4_append 12 = .ok (.iconst 1, 1) := by decide +kernel
theorem dX4_append_13 : decode cX4_append 13 = .ok (.goto 17, 3) := by decide +kernel
theorem dX4_append_16 : decode cX4_append 16 = .ok (.aload_n 0, 1) := by decide +kernel
theorem dX4_append_17 : decode cX4_append 17 = .ok (.getfield 148, 3) := by decide +kernel
theorem dX4_append_20 : decode cX4_append 20 = .ok (.bipush 60, 2) := by decide +kernel
theorem dX4_append_22 : decode cX4_append 22 = .ok (.if_icmp .ne 7, 3) := by decide +kernel
theorem dX4_append_25 : decode cX4_append 25 = .ok (.iconst 2, 1) := by decide +kernel
theorem dX4_append_26 : decode cX4_append 26 = .ok (.goto 4, 3) := by decide +kernel
theorem dX4_append_29 : decode cX4_append 29 = .ok (.iconst 0, 1) := by decide +kernel
theorem dX4_append_30 : decode cX4_append 30 = .ok (.putfield 25, 3) := by decide +kernel
theorem dX4_append_33 : decode cX4_append 33 = .ok (.aload_n 0, 1) := by decide +kernel
theorem dX4_append_34 : decode cX4_append 34 = .ok (.getfield 25, 3) := by decide +kernel
theorem dX4_append_37 : decode cX4_append 37 = .ok (.ifCond .le 5, 3) := by decide +kernel
theorem dX4_append_40 : decode cX4_append 40 = .ok (.iconst 0, 1) := by decide +kernel
theorem dX4_append_41 : decode cX4_append 41 = .ok (.ireturn, 1) := by decide +kernel
theorem dX4_append_42 : decode cX4_append 42 = .ok (.aload_n 0, 1) := by decide +kernel
theorem dX4_append_43 : decode cX4_append 43 = .ok (.getfield 16, 3) := by decide +kernel
theorem dX4_append_46 : decode cX4_append 46 = .ok (.aload_n 0, 1) := by decide +kernel
theorem dX4_append_47 : decode cX4_append 47 = .ok (.getfield 148, 3) := by decide +kernel
theorem dX4_append_50 : decode cX4_append 50 = .ok (.iload_n 1, 1) := by decide +kernel
theorem dX4_append_51 : decode cX4_append 51 = .ok (.iastore, 1) := by decide +kernel
theorem dX4_append_52 : decode cX4_append 52 = .ok (.aload_n 0, 1) := by decide +kernel
theorem dX4_append_53 : decode cX4_append 53 = .ok (.dup, 1) := by decide +kernel
theorem dX4_append_54 : decode cX4_append 54 = .ok (.getfield 148, 3) := by decide +kernel
theorem dX4_append_57 : decode cX4_append 57 = .ok (.iconst 1, 1) := by decide +kernel
theorem dX4_append_58 : decode cX4_append 58 = .ok (.iadd, 1) := by decide +kernel
theorem dX4_append_59 : decode cX4_append 59 = .ok (.putfield 148, 3) := by decide +kernel
theorem dX4_append_62 : decode cX4_append 62 = .ok (.aload_n 0, 1) := by decide +kernel
theorem dX4_append_63 : decode cX4_append 63 = .ok (.getfield 148, 3) := by decide +kernel
theorem dX4_append_66 : decode cX4_append 66 = .ok (.ireturn, 1) := by decide +kernel
theorem dX4_clearBuffer_0 : decode cX4_clearBuffer 0 = .ok (.aload_n 0, 1) := by decide +kernel
theorem dX4_clearBuffer_1 : decode cX4_clearBuffer 1 = .ok (.iconst 0, 1) := by decide +kernel
theorem dX4_clearBuffer_2 : decode cX4_clearBuffer 2 = .ok (.putfield 25, 3) := by decide +kernel
theorem dX4_clearBuffer_5 : decode cX4_clearBuffer 5 = .ok (.aload_n 0, 1) := by decide +kernel
theorem dX4_clearBuffer_6 : decode cX4_clearBuffer 6 = .ok (.getfield 148, 3) := by decide +kernel
theorem dX4_clearBuffer_9 : decode cX4_clearBuffer 9 = .ok (.istore_n 1, 1) := by decide +kernel
theorem dX4_clearBuffer_10 : decode cX4_clearBuffer 10 = .ok (.aload_n 0, 1) := by decide +kernel
theorem dX4_clearBuffer_11 : decode cX4_clearBuffer 11 = .ok (.iconst 0, 1) := by decide +kernel
theorem dX4_clearBuffer_12 : decode cX4_clearBuffer 12 = .ok (.putfield 148, 3) := by decide +kernel
theorem dX4_clearBuffer_15 : decode cX4_clearBuffer 15 = .ok (.iload_n 1, 1) := by decide +kernel
theorem dX4_clearBuffer_16 : decode cX4_clearBuffer 16 = .ok (.ireturn, 1) := by decide +kernel
end
section
theorem dX4_beginsOrder_0 : decode cX4_beginsOrder 0 = .ok (.aload_n 0, 1) := by decide +kernel
theorem dX4_beginsOrder_1 : decode cX4_beginsOrder 1 = .ok (.getfield 19, 3) := by decide +kernel
theorem dX4_beginsOrder_4 : decode cX4_beginsOrder 4 = .ok (.iconst 4, 1) := by decide +kernel
theorem dX4_beginsOrder_5 : decode cX4_beginsOrder 5 = .ok (.aload_n 0, 1) := by decide +kernel
theorem dX4_beginsOrder_6 : decode cX4_beginsOrder 6 = .ok (.getfield 151, 3) := by decide +kernel
theorem dX4_beginsOrder_9 : decode cX4_beginsOrder 9 = .ok (.imul, 1) := by decide +kernel
theorem dX4_beginsOrder_10 : decode cX4_beginsOrder 10 = .ok (.iload_n 1, 1) := by decide +kernel
theorem dX4_beginsOrder_11 : decode cX4_beginsOrder 11 = .ok (.iastore, 1) := by decide +kernel
theorem dX4_beginsOrder_12 : decode cX4_beginsOrder 12 = .ok (.aload_n 0, 1) := by decide +kernel
theorem dX4_beginsOrder_13 : decode cX4_beginsOrder 13 = .ok (.iconst (-1), 1) := by decide +kernel
theorem dX4_beginsOrder_14 : decode cX4_beginsOrder 14 = .ok (.putfield 154, 3) := by decide +kernel
theorem dX4_beginsOrder_17 : decode cX4_beginsOrder 17 = .ok (.aload_n 0, 1) := by decide +kernel
theorem dX4_beginsOrder_18 : decode cX4_beginsOrder 18 = .ok (.iload_n 1, 1) := by decide +kernel
theorem dX4_beginsOrder_19 : decode cX4_beginsOrder 19 = .ok (.bipush 100, 2) := by decide +kernel
theorem dX4_beginsOrder_21 : decode cX4_beginsOrder 21 = .ok (.if_icmp .ne 7, 3) := by decide +kernel
theorem dX4_beginsOrder_24 : decode cX4_beginsOrder 24 = .ok (.iconst 4, 1) := by decide +kernel
theorem dX4_beginsOrder_25 : decode cX4_beginsOrder 25 = .ok (.goto 4, 3) := by decide +kernel
theorem dX4_beginsOrder_28 : decode cX4_beginsOrder 28 = .ok (.iconst 1, 1) := by decide +kernel
theorem dX4_beginsOrder_29 : decode cX4_beginsOrder 29 = .ok (.putfield 157, 3) := by decide +kernel
theorem dX4_beginsOrder_32 : decode cX4_beginsOrder 32 = .ok (.iload_n 1, 1) := by decide +kernel
theorem dX4_beginsOrder_33 : decode cX4_beginsOrder 33 = .ok (.bipush 97, 2) := by decide +kernel
theorem dX4_beginsOrder_35 : decode cX4_beginsOrder 35 = .ok (.if_icmp .eq 21, 3) := by decide +kernel
theorem dX4_beginsOrder_38 : decode cX4_beginsOrder 38 = .ok (.iload_n 1, 1) := by decide +kernel
theorem dX4_beginsOrder_39 : decode cX4_beginsOrder 39 = .ok (.bipush 98, 2) := by decide +kernel
theorem dX4_beginsOrder_41 : decode cX4_beginsOrder 41 = .ok (.if_icmp .eq 15, 3) := by decide +kernel
theorem dX4_beginsOrder_44 : decode cX4_beginsOrder 44 = .ok (.iload_n 1, 1) := by decide +kernel
theorem dX4_beginsOrder_45 : decode cX4_beginsOrder 45 = .ok (.bipush 112, 2) := by decide +kernel
theorem dX4_beginsOrder_47 : decode cX4_beginsOrder 47 = .ok (.if_icmp .eq 9, 3) := by decide +kernel
theorem dX4_beginsOrder_50 : decode cX4_beginsOrder 50 = .ok (.iload_n 1, 1) := by decide +kernel
theorem dX4_beginsOrder_51 : decode cX4_beginsOrder 51 = .ok (.bipush 100, 2) := by decide +kernel
theorem dX4_beginsOrder_53 : decode cX4_beginsOrder 53 = .ok (.if_icmp .ne 7, 3) := by decide +kernel
theorem dX4_beginsOrder_56 : decode cX4_beginsOrder 56 = .ok (.iconst 1, 1) := by decide +kernel
theorem dX4_beginsOrder_57 : decode cX4_beginsOrder 57 = .ok (.goto 4, 3) := by decide +kernel
theorem dX4_beginsOrder_60 : decode cX4_beginsOrder 60 = .ok (.iconst 0, 1) := by decide +kernel
theorem dX4_beginsOrder_61 : decode cX4_beginsOrder 61 = .ok (.ireturn, 1) := by decide +kernel
theorem dX4_takesPhase_0 : decode cX4_takesPhase 0 = .ok (.aload_n 0, 1) := by decide +kernel
theorem dX4_takesPhase_1 : decode cX4_takesPhase 1 = .ok (.getfield 19, 3) := by decide +kernel
theorem dX4_takesPhase_4 : decode cX4_takesPhase 4 = .ok (.iconst 4, 1) := by decide +kernel
theorem dX4_takesPhase_5 : decode cX4_takesPhase 5 = .ok (.aload_n 0, 1) := by decide +kernel
theorem dX4_takesPhase_6 : decode cX4_takesPhase 6 = .ok (.getfield 151, 3) := by decide +kernel
theorem dX4_takesPhase_9 : decode cX4_takesPhase 9 = .ok (.imul, 1) := by decide +kernel
theorem dX4_takesPhase_10 : decode cX4_takesPhase 10 = .ok (.iaload, 1) := by decide +kernel
theorem dX4_takesPhase_11 : decode cX4_takesPhase 11 = .ok (.istore_n 2, 1) := by decide +kernel
theorem dX4_takesPhase_12 : decode cX4_takesPhase 12 = .ok (.aload_n 0, 1) := by decide +kernel
theorem dX4_takesPhase_13 : decode cX4_takesPhase 13 = .ok (.getfield 19, 3) := by decide +kernel
theorem dX4_takesPhase_16 : decode cX4_takesPhase 16 = .ok (.iconst 4, 1) := by decide +kernel
theorem dX4_takesPhase_17 : decode cX4_takesPhase 17 = .ok (.aload_n 0, 1) := by decide +kernel
theorem dX4_takesPhase_18 : decode cX4_takesPhase 18 = .ok (.getfield 151, 3) := by decide +kernel
theorem dX4_takesPhase_21 : decode cX4_takesPhase 21 = .ok (.imul, 1) := by decide +kernel
theorem dX4_takesPhase_22 : decode cX4_takesPhase 22 = .ok (.iconst 1, 1) := by decide +kernel
theorem dX4_takesPhase_23 : decode cX4_takesPhase 23 = .ok (.iadd, 1) := by decide +kernel
theorem dX4_takesPhase_24 : decode cX4_takesPhase 24 = .ok (.iload_n 1, 1) := by decide +kernel
theorem dX4_takesPhase_25 : decode cX4_takesPhase 25 = .ok (.bipush 48, 2) := by decide +kernel
theorem dX4_takesPhase_27 : decode cX4_takesPhase 27 = .ok (.isub, 1) := by decide +kernel
theorem dX4_takesPhase_28 : decode cX4_takesPhase 28 = .ok (.iastore, 1) := by decide +kernel
theorem dX4_takesPhase_29 : decode cX4_takesPhase 29 = .ok (.aload_n 0, 1) := by decide +kernel
theorem dX4_takesPhase_30 : decode cX4_takesPhase 30 = .ok (.iload_n 2, 1) := by decide +kernel
theorem dX4_takesPhase_31 : decode cX4_takesPhase 31 = .ok (.bipush 97, 2) := by decide +kernel
theorem dX4_takesPhase_33 : decode cX4_takesPhase 33 = .ok (.if_icmp .ne 7, 3) := by decide +kernel
theorem dX4_takesPhase_36 : decode cX4_takesPhase 36 = .ok (.iconst 2, 1) := by decide +kernel
theorem dX4_takesPhase_37 : decode cX4_takesPhase 37 = .ok (.goto 14, 3) := by decide +kernel
theorem dX4_takesPhase_40 : decode cX4_takesPhase 40 = .ok (.iload_n 2, 1) := by decide +kernel
theorem dX4_takesPhase_41 : decode cX4_takesPhase 41 = .ok (.bipush 98, 2) := by decide +kernel
theorem dX4_takesPhase_43 : decode cX4_takesPhase 43 = .ok (.if_icmp .ne 7, 3) := by decide +kernel
theorem dX4_takesPhase_46 : decode cX4_takesPhase 46 = .ok (.iconst 5, 1) := by decide +kernel
theorem dX4_takesPhase_47 : decode cX4_takesPhase 47 = .ok (.goto 4, 3) := by decide +kernel
theorem dX4_takesPhase_50 : decode cX4_takesPhase 50 = .ok (.iconst 3, 1) := by decide +kernel
theorem dX4_takesPhase_51 : decode cX4_takesPhase 51 = .ok (.putfield 157, 3) := by decide +kernel
theorem dX4_takesPhase_54 : decode cX4_takesPhase 54 = .ok (.iload_n 1, 1) := by decide +kernel
theorem dX4_takesPhase_55 : decode cX4_takesPhase 55 = .ok (.bipush 48, 2) := by decide +kernel
theorem dX4_takesPhase_57 : decode cX4_takesPhase 57 = .ok (.bipush 53, 2) := by decide +kernel
theorem dX4_takesPhase_59 : decode cX4_takesPhase 59 = .ok (.invokestatic 32, 3) := by decide +kernel
theorem dX4_takesPhase_62 : decode cX4_takesPhase 62 = .ok (.ireturn, 1) := by decide +kernel
theorem dX4_takesUse_0 : decode cX4_takesUse 0 = .ok (.aload_n 0, 1) := by decide +kernel
theorem dX4_takesUse_1 : decode cX4_takesUse 1 = .ok (.getfield 19, 3) := by decide +kernel
theorem dX4_takesUse_4 : decode cX4_takesUse 4 = .ok (.iconst 4, 1) := by decide +kernel
theorem dX4_takesUse_5 : decode cX4_takesUse 5 = .ok (.aload_n 0, 1) := by decide +kernel
theorem dX4_takesUse_6 : decode cX4_takesUse 6 = .ok (.getfield 151, 3) := by decide +kernel
theorem dX4_takesUse_9 : decode cX4_takesUse 9 = .ok (.imul, 1) := by decide +kernel
theorem dX4_takesUse_10 : decode cX4_takesUse 10 = .ok (.iconst 2, 1) := by decide +kernel
theorem dX4_takesUse_11 : decode cX4_takesUse 11 = .ok (.iadd, 1) := by decide +kernel
theorem dX4_takesUse_12 : decode cX4_takesUse 12 = .ok (.iload_n 1, 1) := by decide +kernel
theorem dX4_takesUse_13 : decode cX4_takesUse 13 = .ok (.bipush 48, 2) := by decide +kernel
theorem dX4_takesUse_15 : decode cX4_takesUse 15 = .ok (.isub, 1) := by decide +kernel
theorem dX4_takesUse_16 : decode cX4_takesUse 16 = .ok (.iastore, 1) := by decide +kernel
theorem dX4_takesUse_17 : decode cX4_takesUse 17 = .ok (.aload_n 0, 1) := by decide +kernel
theorem dX4_takesUse_18 : decode cX4_takesUse 18 = .ok (.iconst 3, 1) := by decide +kernel
theorem dX4_takesUse_19 : decode cX4_takesUse 19 = .ok (.putfield 157, 3) := by decide +kernel
theorem dX4_takesUse_22 : decode cX4_takesUse 22 = .ok (.iload_n 1, 1) := by decide +kernel
theorem dX4_takesUse_23 : decode cX4_takesUse 23 = .ok (.bipush 48, 2) := by decide +kernel
theorem dX4_takesUse_25 : decode cX4_takesUse 25 = .ok (.isub, 1) := by decide +kernel
theorem dX4_takesUse_26 : decode cX4_takesUse 26 = .ok (.invokestatic 87, 3) := by decide +kernel
theorem dX4_takesUse_29 : decode cX4_takesUse 29 = .ok (.ireturn, 1) := by decide +kernel
theorem dX4_takesDigit_0 : decode cX4_takesDigit 0 = .ok (.aload_n 0, 1) := by decide +kernel
theorem dX4_takesDigit_1 : decode cX4_takesDigit 1 = .ok (.getfield 19, 3) := by decide +kernel
theorem dX4_takesDigit_4 : decode cX4_takesDigit 4 = .ok (.iconst 4, 1) := by decide +kernel
theorem dX4_takesDigit_5 : decode cX4_takesDigit 5 = .ok (.aload_n 0, 1) := by decide +kernel
theorem dX4_takesDigit_6 : decode cX4_takesDigit 6 = .ok (.getfield 151, 3) := by decide +kernel
theorem dX4_takesDigit_9 : decode cX4_takesDigit 9 = .ok (.imul, 1) := by decide +kernel
theorem dX4_takesDigit_10 : decode cX4_takesDigit 10 = .ok (.iaload, 1) := by decide +kernel
theorem dX4_takesDigit_11 : decode cX4_takesDigit 11 = .ok (.istore_n 2, 1) := by decide +kernel
theorem dX4_takesDigit_12 : decode cX4_takesDigit 12 = .ok (.aload_n 0, 1) := by decide +kernel
theorem dX4_takesDigit_13 : decode cX4_takesDigit 13 = .ok (.getfield 154, 3) := by decide +kernel
theorem dX4_takesDigit_16 : decode cX4_takesDigit 16 = .ok (.iconst (-1), 1) := by decide +kernel
theorem dX4_takesDigit_17 : decode cX4_takesDigit 17 = .ok (.if_icmp .ne 7, 3) := by decide +kernel
theorem dX4_takesDigit_20 : decode cX4_takesDigit 20 = .ok (.iload_n 1, 1) := by decide +kernel
theorem dX4_takesDigit_21 : decode cX4_takesDigit 21 = .ok (.goto 12, 3) := by decide +kernel
theorem dX4_takesDigit_24 : decode cX4_takesDigit 24 = .ok (.bipush 10, 2) := by decide +kernel
theorem dX4_takesDigit_26 : decode cX4_takesDigit 26 = .ok (.aload_n 0, 1) := by decide +kernel
theorem dX4_takesDigit_27 : decode cX4_takesDigit 27 = .ok (.getfield 154, 3) := by decide +kernel
theorem dX4_takesDigit_30 : decode cX4_takesDigit 30 = .ok (.imul, 1) := by decide +kernel
theorem dX4_takesDigit_31 : decode cX4_takesDigit 31 = .ok (.iload_n 1, 1) := by decide +kernel
theorem dX4_takesDigit_32 : decode cX4_takesDigit 32 = .ok (.iadd, 1) := by decide +kernel
theorem dX4_takesDigit_33 : decode cX4_takesDigit 33 = .ok (.istore_n 3, 1) := by decide +kernel
theorem dX4_takesDigit_34 : decode cX4_takesDigit 34 = .ok (.iload_n 2, 1) := by decide +kernel
theorem dX4_takesDigit_35 : decode cX4_takesDigit 35 = .ok (.bipush 97, 2) := by decide +kernel
theorem dX4_takesDigit_37 : decode cX4_takesDigit 37 = .ok (.if_icmp .ne 9, 3) := by decide +kernel
theorem dX4_takesDigit_40 : decode cX4_takesDigit 40 = .ok (.sipush 999, 3) := by decide +kernel
theorem dX4_takesDigit_43 : decode cX4_takesDigit 43 = .ok (.goto 16, 3) := by decide +kernel
theorem dX4_takesDigit_46 : decode cX4_takesDigit 46 = .ok (.iload_n 2, 1) := by decide +kernel
theorem dX4_takesDigit_47 : decode cX4_takesDigit 47 = .ok (.bipush 112, 2) := by decide +kernel
theorem dX4_takesDigit_49 : decode cX4_takesDigit 49 = .ok (.if_icmp .ne 8, 3) := by decide +kernel
theorem dX4_takesDigit_52 : decode cX4_takesDigit 52 = .ok (.ldc 119, 2) := by decide +kernel
theorem dX4_takesDigit_54 : decode cX4_takesDigit 54 = .ok (.goto 5, 3) := by decide +kernel
theorem dX4_takesDigit_57 : decode cX4_takesDigit 57 = .ok (.bipush 99, 2) := by decide +kernel
theorem dX4_takesDigit_59 : decode cX4_takesDigit 59 = .ok (.istore 4, 2) := by decide +kernel
theorem dX4_takesDigit_61 : decode cX4_takesDigit 61 = .ok (.iload_n 1, 1) := by decide +kernel
theorem dX4_takesDigit_62 : decode cX4_takesDigit 62 = .ok (.iconst 0, 1) := by decide +kernel
theorem dX4_takesDigit_63 : decode cX4_takesDigit 63 = .ok (.bipush 9, 2) := by decide +kernel
theorem dX4_takesDigit_65 : decode cX4_takesDigit 65 = .ok (.invokestatic 32, 3) := by decide +kernel
theorem dX4_takesDigit_68 : decode cX4_takesDigit 68 = .ok (.ifCond .eq 34, 3) := by decide +kernel
theorem dX4_takesDigit_71 : decode cX4_takesDigit 71 = .ok (.aload_n 0, 1) := by decide +kernel
theorem dX4_takesDigit_72 : decode cX4_takesDigit 72 = .ok (.getfield 154, 3) := by decide +kernel
theorem dX4_takesDigit_75 : decode cX4_takesDigit 75 = .ok (.ifCond .eq 27, 3) := by decide +kernel
theorem dX4_takesDigit_78 : decode cX4_takesDigit 78 = .ok (.iload_n 3, 1) := by decide +kernel
theorem dX4_takesDigit_79 : decode cX4_takesDigit 79 = .ok (.iload_n 2, 1) := by decide +kernel
theorem dX4_takesDigit_80 : decode cX4_takesDigit 80 = .ok (.bipush 97, 2) := by decide +kernel
theorem dX4_takesDigit_82 : decode cX4_takesDigit 82 = .ok (.if_icmp .ne 7, 3) := by decide +kernel
theorem dX4_takesDigit_85 : decode cX4_takesDigit 85 = .ok (.iconst 0, 1) := by decide +kernel
theorem dX4_takesDigit_86 : decode cX4_takesDigit 86 = .ok (.goto 4, 3) := by decide +kernel
theorem dX4_takesDigit_89 : decode cX4_takesDigit 89 = .ok (.iconst 1, 1) := by decide +kernel
theorem dX4_takesDigit_90 : decode cX4_takesDigit 90 = .ok (.iload 4, 2) := by decide +kernel
theorem dX4_takesDigit_92 : decode cX4_takesDigit 92 = .ok (.invokestatic 32, 3) := by decide +kernel
theorem dX4_takesDigit_95 : decode cX4_takesDigit 95 = .ok (.ifCond .eq 7, 3) := by decide +kernel
theorem dX4_takesDigit_98 : decode cX4_takesDigit 98 = .ok (.iconst 1, 1) := by decide +kernel
theorem dX4_takesDigit_99 : decode cX4_takesDigit 99 = .ok (.goto 4, 3) := by decide +kernel
theorem dX4_takesDigit_102 : decode cX4_takesDigit 102 = .ok (.iconst 0, 1) := by decide +kernel
theorem dX4_takesDigit_103 : decode cX4_takesDigit 103 = .ok (.istore 5, 2) := by decide +kernel
theorem dX4_takesDigit_105 : decode cX4_takesDigit 105 = .ok (.aload_n 0, 1) := by decide +kernel
theorem dX4_takesDigit_106 : decode cX4_takesDigit 106 = .ok (.iload 5, 2) := by decide +kernel
theorem dX4_takesDigit_108 : decode cX4_takesDigit 108 = .ok (.ifCond .eq 7, 3) := by decide +kernel
theorem dX4_takesDigit_111 : decode cX4_takesDigit 111 = .ok (.iload_n 3, 1) := by decide +kernel
theorem dX4_takesDigit_112 : decode cX4_takesDigit 112 = .ok (.goto 7, 3) := by decide +kernel
theorem dX4_takesDigit_115 : decode cX4_takesDigit 115 = .ok (.aload_n 0, 1) := by decide +kernel
theorem dX4_takesDigit_116 : decode cX4_takesDigit 116 = .ok (.getfield 154, 3) := by decide +kernel
theorem dX4_takesDigit_119 : decode cX4_takesDigit 119 = .ok (.putfield 154, 3) := by decide +kernel
theorem dX4_takesDigit_122 : decode cX4_takesDigit 122 = .ok (.aload_n 0, 1) := by decide +kernel
theorem dX4_takesDigit_123 : decode cX4_takesDigit 123 = .ok (.getfield 19, 3) := by decide +kernel
theorem dX4_takesDigit_126 : decode cX4_takesDigit 126 = .ok (.iconst 4, 1) := by decide +kernel
theorem dX4_takesDigit_127 : decode cX4_takesDigit 127 = .ok (.aload_n 0, 1) := by decide +kernel
theorem dX4_takesDigit_128 : decode cX4_takesDigit 128 = .ok (.getfield 151, 3) := by decide +kernel
theorem dX4_takesDigit_131 : decode cX4_takesDigit 131 = .ok (.imul, 1) := by decide +kernel
theorem dX4_takesDigit_132 : decode cX4_takesDigit 132 = .ok (.iconst 3, 1) := by decide +kernel
theorem dX4_takesDigit_133 : decode cX4_takesDigit 133 = .ok (.iadd, 1) := by decide +kernel
theorem dX4_takesDigit_134 : decode cX4_takesDigit 134 = .ok (.aload_n 0, 1) := by decide +kernel
theorem dX4_takesDigit_135 : decode cX4_takesDigit 135 = .ok (.getfield 154, 3) := by decide +kernel
theorem dX4_takesDigit_138 : decode cX4_takesDigit 138 = .ok (.iastore, 1) := by decide +kernel
theorem dX4_takesDigit_139 : decode cX4_takesDigit 139 = .ok (.iload 5, 2) := by decide +kernel
theorem dX4_takesDigit_141 : decode cX4_takesDigit 141 = .ok (.ireturn, 1) := by decide +kernel
theorem dX4_isEnded_0 : decode cX4_isEnded 0 = .ok (.aload_n 0, 1) := by decide +kernel
theorem dX4_isEnded_1 : decode cX4_isEnded 1 = .ok (.getfield 157, 3) := by decide +kernel
theorem dX4_isEnded_4 : decode cX4_isEnded 4 = .ok (.iconst 5, 1) := by decide +kernel
theorem dX4_isEnded_5 : decode cX4_isEnded 5 = .ok (.if_icmp .eq 19, 3) := by decide +kernel
theorem dX4_isEnded_8 : decode cX4_isEnded 8 = .ok (.aload_n 0, 1) := by decide +kernel
theorem dX4_isEnded_9 : decode cX4_isEnded 9 = .ok (.getfield 157, 3) := by decide +kernel
theorem dX4_isEnded_12 : decode cX4_isEnded 12 = .ok (.iconst 4, 1) := by decide +kernel
theorem dX4_isEnded_13 : decode cX4_isEnded 13 = .ok (.if_icmp .ne 15, 3) := by decide +kernel
theorem dX4_isEnded_16 : decode cX4_isEnded 16 = .ok (.aload_n 0, 1) := by decide +kernel
theorem dX4_isEnded_17 : decode cX4_isEnded 17 = .ok (.getfield 154, 3) := by decide +kernel
theorem dX4_isEnded_20 : decode cX4_isEnded 20 = .ok (.iconst (-1), 1) := by decide +kernel
theorem dX4_isEnded_21 : decode cX4_isEnded 21 = .ok (.if_icmp .eq 7, 3) := by decide +kernel
theorem dX4_isEnded_24 : decode cX4_isEnded 24 = .ok (.iconst 1, 1) := by decide +kernel
theorem dX4_isEnded_25 : decode cX4_isEnded 25 = .ok (.goto 4, 3) := by decide +kernel
theorem dX4_isEnded_28 : decode cX4_isEnded 28 = .ok (.iconst 0, 1) := by decide +kernel
theorem dX4_isEnded_29 : decode cX4_isEnded 29 = .ok (.ireturn, 1) := by decide +kernel
theorem dX4_takesNext_0 : decode cX4_takesNext 0 = .ok (.iload_n 1, 1) := by decide +kernel
theorem dX4_takesNext_1 : decode cX4_takesNext 1 = .ok (.bipush 59, 2) := by decide +kernel
theorem dX4_takesNext_3 : decode cX4_takesNext 3 = .ok (.if_icmp .ne 27, 3) := by decide +kernel
theorem dX4_takesNext_6 : decode cX4_takesNext 6 = .ok (.aload_n 0, 1) := by decide +kernel
theorem dX4_takesNext_7 : decode cX4_takesNext 7 = .ok (.invokevirtual 160, 3) := by decide +kernel
theorem dX4_takesNext_10 : decode cX4_takesNext 10 = .ok (.ifCond .eq 20, 3) := by decide +kernel
theorem dX4_takesNext_13 : decode cX4_takesNext 13 = .ok (.aload_n 0, 1) := by decide +kernel
theorem dX4_takesNext_14 : decode cX4_takesNext 14 = .ok (.dup, 1) := by decide +kernel
theorem dX4_takesNext_15 : decode cX4_takesNext 15 = .ok (.getfield 151, 3) := by decide +kernel
theorem dX4_takesNext_18 : decode cX4_takesNext 18 = .ok (.iconst 1, 1) := by decide +kernel
theorem dX4_takesNext_19 : decode cX4_takesNext 19 = .ok (.iadd, 1) := by decide +kernel
theorem dX4_takesNext_20 : decode cX4_takesNext 20 = .ok (.putfield 151, 3) := by decide +kernel
theorem dX4_takesNext_23 : decode cX4_takesNext 23 = .ok (.aload_n 0, 1) := by decide +kernel
theorem dX4_takesNext_24 : decode cX4_takesNext 24 = .ok (.iconst 0, 1) := by decide +kernel
theorem dX4_takesNext_25 : decode cX4_takesNext 25 = .ok (.putfield 157, 3) := by decide +kernel
theorem dX4_takesNext_28 : decode cX4_takesNext 28 = .ok (.iconst 1, 1) := by decide +kernel
theorem dX4_takesNext_29 : decode cX4_takesNext 29 = .ok (.ireturn, 1) := by decide +kernel
theorem dX4_takesNext_30 : decode cX4_takesNext 30 = .ok (.aload_n 0, 1) := by decide +kernel
theorem dX4_takesNext_31 : decode cX4_takesNext 31 = .ok (.getfield 157, 3) := by decide +kernel
theorem dX4_takesNext_34 : decode cX4_takesNext 34 = .ok (.tableswitch 99 0 4 #[34, 40, 46, 52, 90], 34) := by decide +kernel
theorem dX4_takesNext_68 : decode cX4_takesNext 68 = .ok (.aload_n 0, 1) := by decide +kernel
theorem dX4_takesNext_69 : decode cX4_takesNext 69 = .ok (.iload_n 1, 1) := by decide +kernel
theorem dX4_takesNext_70 : decode cX4_takesNext 70 = .ok (.invokevirtual 164, 3) := by decide +kernel
theorem dX4_takesNext_73 : decode cX4_takesNext 73 = .ok (.ireturn, 1) := by decide +kernel
theorem dX4_takesNext_74 : decode cX4_takesNext 74 = .ok (.aload_n 0, 1) := by decide +kernel
theorem dX4_takesNext_75 : decode cX4_takesNext 75 = .ok (.iload_n 1, 1) := by decide +kernel
theorem dX4_takesNext_76 : decode cX4_takesNext 76 = .ok (.invokevirtual 167, 3) := by decide +kernel
theorem dX4_takesNext_79 : decode cX4_takesNext 79 = .ok (.ireturn, 1) := by decide +kernel
theorem dX4_takesNext_80 : decode cX4_takesNext 80 = .ok (.aload_n 0, 1) := by decide +kernel
theorem dX4_takesNext_81 : decode cX4_takesNext 81 = .ok (.iload_n 1, 1) := by decide +kernel
theorem dX4_takesNext_82 : decode cX4_takesNext 82 = .ok (.invokevirtual 170, 3) := by decide +kernel
theorem dX4_takesNext_85 : decode cX4_takesNext 85 = .ok (.ireturn, 1) := by decide +kernel
theorem dX4_takesNext_86 : decode cX4_takesNext 86 = .ok (.aload_n 0, 1) := by decide +kernel
theorem dX4_takesNext_87 : decode cX4_takesNext 87 = .ok (.iconst 4, 1) := by decide +kernel
theorem dX4_takesNext_88 : decode cX4_takesNext 88 = .ok (.putfield 157, 3) := by decide +kernel
theorem dX4_takesNext_91 : decode cX4_takesNext 91 = .ok (.iload_n 1, 1) := by decide +kernel
theorem dX4_takesNext_92 : decode cX4_takesNext 92 = .ok (.aload_n 0, 1) := by decide +kernel
theorem dX4_takesNext_93 : decode cX4_takesNext 93 = .ok (.getfield 19, 3) := by decide +kernel
theorem dX4_takesNext_96 : decode cX4_takesNext 96 = .ok (.iconst 4, 1) := by decide +kernel
theorem dX4_takesNext_97 : decode cX4_takesNext 97 = .ok (.aload_n 0, 1) := by decide +kernel
theorem dX4_takesNext_98 : decode cX4_takesNext 98 = .ok (.getfield 151, 3) := by decide +kernel
theorem dX4_takesNext_101 : decode cX4_takesNext 101 = .ok (.imul, 1) := by decide +kernel
theorem dX4_takesNext_102 : decode cX4_takesNext 102 = .ok (.iaload, 1) := by decide +kernel
theorem dX4_takesNext_103 : decode cX4_takesNext 103 = .ok (.bipush 97, 2) := by decide +kernel
theorem dX4_takesNext_105 : decode cX4_takesNext 105 = .ok (.if_icmp .ne 8, 3) := by decide +kernel
theorem dX4_takesNext_108 : decode cX4_takesNext 108 = .ok (.bipush 61, 2) := by decide +kernel
theorem dX4_takesNext_110 : decode cX4_takesNext 110 = .ok (.goto 5, 3) := by decide +kernel
theorem dX4_takesNext_113 : decode cX4_takesNext 113 = .ok (.bipush 58, 2) := by decide +kernel
theorem dX4_takesNext_115 : decode cX4_takesNext 115 = .ok (.if_icmp .ne 7, 3) := by decide +kernel
theorem dX4_takesNext_118 : decode cX4_takesNext 118 = .ok (.iconst 1, 1) := by decide +kernel
theorem dX4_takesNext_119 : decode cX4_takesNext 119 = .ok (.goto 4, 3) := by decide +kernel
theorem dX4_takesNext_122 : decode cX4_takesNext 122 = .ok (.iconst 0, 1) := by decide +kernel
theorem dX4_takesNext_123 : decode cX4_takesNext 123 = .ok (.ireturn, 1) := by decide +kernel
theorem dX4_takesNext_124 : decode cX4_takesNext 124 = .ok (.aload_n 0, 1) := by decide +kernel
theorem dX4_takesNext_125 : decode cX4_takesNext 125 = .ok (.iload_n 1, 1) := by decide +kernel
theorem dX4_takesNext_126 : decode cX4_takesNext 126 = .ok (.bipush 48, 2) := by decide +kernel
theorem dX4_takesNext_128 : decode cX4_takesNext 128 = .ok (.isub, 1) := by decide +kernel
theorem dX4_takesNext_129 : decode cX4_takesNext 129 = .ok (.invokevirtual 173, 3) := by decide +kernel
theorem dX4_takesNext_132 : decode cX4_takesNext 132 = .ok (.ireturn, 1) := by decide +kernel
theorem dX4_takesNext_133 : decode cX4_takesNext 133 = .ok (.iconst 0, 1) := by decide +kernel
theorem dX4_takesNext_134 : decode cX4_takesNext 134 = .ok (.ireturn, 1) := by decide +kernel
theorem dX4_rightUpTo_0 : decode cX4_rightUpTo 0 = .ok (.aload_n 0, 1) := by decide +kernel
theorem dX4_rightUpTo_1 : decode cX4_rightUpTo 1 = .ok (.iconst 0, 1) := by decide +kernel
theorem dX4_rightUpTo_2 : decode cX4_rightUpTo 2 = .ok (.putfield 151, 3) := by decide +kernel
theorem dX4_rightUpTo_5 : decode cX4_rightUpTo 5 = .ok (.aload_n 0, 1) := by decide +kernel
theorem dX4_rightUpTo_6 : decode cX4_rightUpTo 6 = .ok (.iconst 0, 1) := by decide +kernel
theorem dX4_rightUpTo_7 : decode cX4_rightUpTo 7 = .ok (.putfield 157, 3) := by decide +kernel
theorem dX4_rightUpTo_10 : decode cX4_rightUpTo 10 = .ok (.iconst 0, 1) := by decide +kernel
theorem dX4_rightUpTo_11 : decode cX4_rightUpTo 11 = .ok (.istore_n 1, 1) := by decide +kernel
theorem dX4_rightUpTo_12 : decode cX4_rightUpTo 12 = .ok (.iload_n 1, 1) := by decide +kernel
theorem dX4_rightUpTo_13 : decode cX4_rightUpTo 13 = .ok (.aload_n 0, 1) := by decide +kernel
theorem dX4_rightUpTo_14 : decode cX4_rightUpTo 14 = .ok (.getfield 148, 3) := by decide +kernel
theorem dX4_rightUpTo_17 : decode cX4_rightUpTo 17 = .ok (.if_icmp .ge 22, 3) := by decide +kernel
theorem dX4_rightUpTo_20 : decode cX4_rightUpTo 20 = .ok (.aload_n 0, 1) := by decide +kernel
theorem dX4_rightUpTo_21 : decode cX4_rightUpTo 21 = .ok (.aload_n 0, 1) := by decide +kernel
theorem dX4_rightUpTo_22 : decode cX4_rightUpTo 22 = .ok (.getfield 16, 3) := by decide +kernel
theorem dX4_rightUpTo_25 : decode cX4_rightUpTo 25 = .ok (.iload_n 1, 1) := by decide +kernel
theorem dX4_rightUpTo_26 : decode cX4_rightUpTo 26 = .ok (.iaload, 1) := by decide +kernel
theorem dX4_rightUpTo_27 : decode cX4_rightUpTo 27 = .ok (.invokevirtual 176, 3) := by decide +kernel
theorem dX4_rightUpTo_30 : decode cX4_rightUpTo 30 = .ok (.ifCond .eq 9, 3) := by decide +kernel
theorem dX4_rightUpTo_33 : decode cX4_rightUpTo 33 = .ok (.iinc 1 1, 3) := by decide +kernel
theorem dX4_rightUpTo_36 : decode cX4_rightUpTo 36 = .ok (.goto (-24), 3) := by decide +kernel
theorem dX4_rightUpTo_39 : decode cX4_rightUpTo 39 = .ok (.iload_n 1, 1) := by decide +kernel
theorem dX4_rightUpTo_40 : decode cX4_rightUpTo 40 = .ok (.ireturn, 1) := by decide +kernel
theorem dX4_firstError_0 : decode cX4_firstError 0 = .ok (.aload_n 0, 1) := by decide +kernel
theorem dX4_firstError_1 : decode cX4_firstError 1 = .ok (.iconst 0, 1) := by decide +kernel
theorem dX4_firstError_2 : decode cX4_firstError 2 = .ok (.putfield 25, 3) := by decide +kernel
theorem dX4_firstError_5 : decode cX4_firstError 5 = .ok (.aload_n 0, 1) := by decide +kernel
theorem dX4_firstError_6 : decode cX4_firstError 6 = .ok (.invokevirtual 179, 3) := by decide +kernel
theorem dX4_firstError_9 : decode cX4_firstError 9 = .ok (.ireturn, 1) := by decide +kernel
theorem dX4_canCarry_0 : decode cX4_canCarry 0 = .ok (.aload_n 0, 1) := by decide +kernel
theorem dX4_canCarry_1 : decode cX4_canCarry 1 = .ok (.iload_n 2, 1) := by decide +kernel
theorem dX4_canCarry_2 : decode cX4_canCarry 2 = .ok (.invokevirtual 84, 3) := by decide +kernel
theorem dX4_canCarry_5 : decode cX4_canCarry 5 = .ok (.ifCond .eq 46, 3) := by decide +kernel
theorem dX4_canCarry_8 : decode cX4_canCarry 8 = .ok (.iload_n 1, 1) := by decide +kernel
theorem dX4_canCarry_9 : decode cX4_canCarry 9 = .ok (.bipush 97, 2) := by decide +kernel
theorem dX4_canCarry_11 : decode cX4_canCarry 11 = .ok (.if_icmp .ne 14, 3) := by decide +kernel
theorem dX4_canCarry_14 : decode cX4_canCarry 14 = .ok (.aload_n 0, 1) := by decide +kernel
theorem dX4_canCarry_15 : decode cX4_canCarry 15 = .ok (.iload_n 2, 1) := by decide +kernel
theorem dX4_canCarry_16 : decode cX4_canCarry 16 = .ok (.invokevirtual 40, 3) := by decide +kernel
theorem dX4_canCarry_19 : decode cX4_canCarry 19 = .ok (.ifCond .ne 32, 3) := by decide +kernel
theorem dX4_canCarry_22 : decode cX4_canCarry 22 = .ok (.goto 25, 3) := by decide +kernel
theorem dX4_canCarry_25 : decode cX4_canCarry 25 = .ok (.iload_n 1, 1) := by decide +kernel
theorem dX4_canCarry_26 : decode cX4_canCarry 26 = .ok (.bipush 98, 2) := by decide +kernel
theorem dX4_canCarry_28 : decode cX4_canCarry 28 = .ok (.if_icmp .ne 11, 3) := by decide +kernel
theorem dX4_canCarry_31 : decode cX4_canCarry 31 = .ok (.aload_n 0, 1) := by decide +kernel
theorem dX4_canCarry_32 : decode cX4_canCarry 32 = .ok (.iload_n 2, 1) := by decide +kernel
theorem dX4_canCarry_33 : decode cX4_canCarry 33 = .ok (.invokevirtual 106, 3) := by decide +kernel
theorem dX4_canCarry_36 : decode cX4_canCarry 36 = .ok (.goto 8, 3) := by decide +kernel
theorem dX4_canCarry_39 : decode cX4_canCarry 39 = .ok (.aload_n 0, 1) := by decide +kernel
theorem dX4_canCarry_40 : decode cX4_canCarry 40 = .ok (.iload_n 2, 1) := by decide +kernel
theorem dX4_canCarry_41 : decode cX4_canCarry 41 = .ok (.invokevirtual 71, 3) := by decide +kernel
theorem dX4_canCarry_44 : decode cX4_canCarry 44 = .ok (.ifCond .ne 7, 3) := by decide +kernel
theorem dX4_canCarry_47 : decode cX4_canCarry 47 = .ok (.iconst 1, 1) := by decide +kernel
theorem dX4_canCarry_48 : decode cX4_canCarry 48 = .ok (.goto 4, 3) := by decide +kernel
theorem dX4_canCarry_51 : decode cX4_canCarry 51 = .ok (.iconst 0, 1) := by decide +kernel
theorem dX4_canCarry_52 : decode cX4_canCarry 52 = .ok (.ireturn, 1) := by decide +kernel
theorem dX4_carries_0 : decode cX4_carries 0 = .ok (.aload_n 0, 1) := by decide +kernel
theorem dX4_carries_1 : decode cX4_carries 1 = .ok (.getfield 19, 3) := by decide +kernel
theorem dX4_carries_4 : decode cX4_carries 4 = .ok (.iconst 4, 1) := by decide +kernel
theorem dX4_carries_5 : decode cX4_carries 5 = .ok (.iload_n 1, 1) := by decide +kernel
theorem dX4_carries_6 : decode cX4_carries 6 = .ok (.imul, 1) := by decide +kernel
theorem dX4_carries_7 : decode cX4_carries 7 = .ok (.iaload, 1) := by decide +kernel
theorem dX4_carries_8 : decode cX4_carries 8 = .ok (.istore_n 2, 1) := by decide +kernel
theorem dX4_carries_9 : decode cX4_carries 9 = .ok (.aload_n 0, 1) := by decide +kernel
theorem dX4_carries_10 : decode cX4_carries 10 = .ok (.getfield 19, 3) := by decide +kernel
theorem dX4_carries_13 : decode cX4_carries 13 = .ok (.iconst 4, 1) := by decide +kernel
theorem dX4_carries_14 : decode cX4_carries 14 = .ok (.iload_n 1, 1) := by decide +kernel
theorem dX4_carries_15 : decode cX4_carries 15 = .ok (.imul, 1) := by decide +kernel
theorem dX4_carries_16 : decode cX4_carries 16 = .ok (.iconst 1, 1) := by decide +kernel
theorem dX4_carries_17 : decode cX4_carries 17 = .ok (.iadd, 1) := by decide +kernel
theorem dX4_carries_18 : decode cX4_carries 18 = .ok (.iaload, 1) := by decide +kernel
theorem dX4_carries_19 : decode cX4_carries 19 = .ok (.istore_n 3, 1) := by decide +kernel
theorem dX4_carries_20 : decode cX4_carries 20 = .ok (.aload_n 0, 1) := by decide +kernel
theorem dX4_carries_21 : decode cX4_carries 21 = .ok (.getfield 19, 3) := by decide +kernel
theorem dX4_carries_24 : decode cX4_carries 24 = .ok (.iconst 4, 1) := by decide +kernel
theorem dX4_carries_25 : decode cX4_carries 25 = .ok (.iload_n 1, 1) := by decide +kernel
theorem dX4_carries_26 : decode cX4_carries 26 = .ok (.imul, 1) := by decide +kernel
theorem dX4_carries_27 : decode cX4_carries 27 = .ok (.iconst 3, 1) := by decide +kernel
theorem dX4_carries_28 : decode cX4_carries 28 = .ok (.iadd, 1) := by decide +kernel
theorem dX4_carries_29 : decode cX4_carries 29 = .ok (.iaload, 1) := by decide +kernel
theorem dX4_carries_30 : decode cX4_carries 30 = .ok (.istore 4, 2) := by decide +kernel
theorem dX4_carries_32 : decode cX4_carries 32 = .ok (.iload_n 2, 1) := by decide +kernel
theorem dX4_carries_33 : decode cX4_carries 33 = .ok (.bipush 100, 2) := by decide +kernel
theorem dX4_carries_35 : decode cX4_carries 35 = .ok (.if_icmp .ne 31, 3) := by decide +kernel
theorem dX4_carries_38 : decode cX4_carries 38 = .ok (.aload_n 0, 1) := by decide +kernel
theorem dX4_carries_39 : decode cX4_carries 39 = .ok (.iload 4, 2) := by decide +kernel
theorem dX4_carries_41 : decode cX4_carries 41 = .ok (.invokevirtual 142, 3) := by decide +kernel
theorem dX4_carries_44 : decode cX4_carries 44 = .ok (.istore 5, 2) := by decide +kernel
theorem dX4_carries_46 : decode cX4_carries 46 = .ok (.aload_n 0, 1) := by decide +kernel
theorem dX4_carries_47 : decode cX4_carries 47 = .ok (.iload 5, 2) := by decide +kernel
theorem dX4_carries_49 : decode cX4_carries 49 = .ok (.ifCond .eq 8, 3) := by decide +kernel
theorem dX4_carries_52 : decode cX4_carries 52 = .ok (.iload 4, 2) := by decide +kernel
theorem dX4_carries_54 : decode cX4_carries 54 = .ok (.goto 4, 3) := by decide +kernel
theorem dX4_carries_57 : decode cX4_carries 57 = .ok (.iconst 0, 1) := by decide +kernel
theorem dX4_carries_58 : decode cX4_carries 58 = .ok (.invokevirtual 145, 3) := by decide +kernel
theorem dX4_carries_61 : decode cX4_carries 61 = .ok (.istore 6, 2) := by decide +kernel
theorem dX4_carries_63 : decode cX4_carries 63 = .ok (.iload 5, 2) := by decide +kernel
theorem dX4_carries_65 : decode cX4_carries 65 = .ok (.ireturn, 1) := by decide +kernel
theorem dX4_carries_66 : decode cX4_carries 66 = .ok (.aload_n 0, 1) := by decide +kernel
theorem dX4_carries_67 : decode cX4_carries 67 = .ok (.iload_n 2, 1) := by decide +kernel
theorem dX4_carries_68 : decode cX4_carries 68 = .ok (.iload_n 3, 1) := by decide +kernel
theorem dX4_carries_69 : decode cX4_carries 69 = .ok (.invokevirtual 182, 3) := by decide +kernel
theorem dX4_carries_72 : decode cX4_carries 72 = .ok (.ifCond .ne 5, 3) := by decide +kernel
theorem dX4_carries_75 : decode cX4_carries 75 = .ok (.iconst 0, 1) := by decide +kernel
theorem dX4_carries_76 : decode cX4_carries 76 = .ok (.ireturn, 1) := by decide +kernel
theorem dX4_carries_77 : decode cX4_carries 77 = .ok (.iload_n 2, 1) := by decide +kernel
theorem dX4_carries_78 : decode cX4_carries 78 = .ok (.bipush 97, 2) := by decide +kernel
theorem dX4_carries_80 : decode cX4_carries 80 = .ok (.if_icmp .ne 22, 3) := by decide +kernel
theorem dX4_carries_83 : decode cX4_carries 83 = .ok (.aload_n 0, 1) := by decide +kernel
theorem dX4_carries_84 : decode cX4_carries 84 = .ok (.iload_n 3, 1) := by decide +kernel
theorem dX4_carries_85 : decode cX4_carries 85 = .ok (.aload_n 0, 1) := by decide +kernel
theorem dX4_carries_86 : decode cX4_carries 86 = .ok (.getfield 19, 3) := by decide +kernel
theorem dX4_carries_89 : decode cX4_carries 89 = .ok (.iconst 4, 1) := by decide +kernel
theorem dX4_carries_90 : decode cX4_carries 90 = .ok (.iload_n 1, 1) := by decide +kernel
theorem dX4_carries_91 : decode cX4_carries 91 = .ok (.imul, 1) := by decide +kernel
theorem dX4_carries_92 : decode cX4_carries 92 = .ok (.iconst 2, 1) := by decide +kernel
theorem dX4_carries_93 : decode cX4_carries 93 = .ok (.iadd, 1) := by decide +kernel
theorem dX4_carries_94 : decode cX4_carries 94 = .ok (.iaload, 1) := by decide +kernel
theorem dX4_carries_95 : decode cX4_carries 95 = .ok (.iload 4, 2) := by decide +kernel
theorem dX4_carries_97 : decode cX4_carries 97 = .ok (.invokevirtual 93, 3) := by decide +kernel
theorem dX4_carries_100 : decode cX4_carries 100 = .ok (.iconst 1, 1) := by decide +kernel
theorem dX4_carries_101 : decode cX4_carries 101 = .ok (.ireturn, 1) := by decide +kernel
theorem dX4_carries_102 : decode cX4_carries 102 = .ok (.iload_n 2, 1) := by decide +kernel
theorem dX4_carries_103 : decode cX4_carries 103 = .ok (.bipush 98, 2) := by decide +kernel
theorem dX4_carries_105 : decode cX4_carries 105 = .ok (.if_icmp .ne 11, 3) := by decide +kernel
theorem dX4_carries_108 : decode cX4_carries 108 = .ok (.aload_n 0, 1) := by decide +kernel
theorem dX4_carries_109 : decode cX4_carries 109 = .ok (.iload_n 3, 1) := by decide +kernel
theorem dX4_carries_110 : decode cX4_carries 110 = .ok (.invokevirtual 109, 3) := by decide +kernel
theorem dX4_carries_113 : decode cX4_carries 113 = .ok (.goto 12, 3) := by decide +kernel
theorem dX4_carries_116 : decode cX4_carries 116 = .ok (.aload_n 0, 1) := by decide +kernel
theorem dX4_carries_117 : decode cX4_carries 117 = .ok (.iload_n 3, 1) := by decide +kernel
theorem dX4_carries_118 : decode cX4_carries 118 = .ok (.iload 4, 2) := by decide +kernel
theorem dX4_carries_120 : decode cX4_carries 120 = .ok (.bipush 34, 2) := by decide +kernel
theorem dX4_carries_122 : decode cX4_carries 122 = .ok (.invokevirtual 123, 3) := by decide +kernel
theorem dX4_carries_125 : decode cX4_carries 125 = .ok (.istore 5, 2) := by decide +kernel
theorem dX4_carries_127 : decode cX4_carries 127 = .ok (.iconst 1, 1) := by decide +kernel
theorem dX4_carries_128 : decode cX4_carries 128 = .ok (.ireturn, 1) := by decide +kernel
theorem dX4_run_0 : decode cX4_run 0 = .ok (.aload_n 0, 1) := by decide +kernel
theorem dX4_run_1 : decode cX4_run 1 = .ok (.invokevirtual 179, 3) := by decide +kernel
theorem dX4_run_4 : decode cX4_run 4 = .ok (.aload_n 0, 1) := by decide +kernel
theorem dX4_run_5 : decode cX4_run 5 = .ok (.getfield 148, 3) := by decide +kernel
theorem dX4_run_8 : decode cX4_run 8 = .ok (.if_icmp .ne 14, 3) := by decide +kernel
theorem dX4_run_11 : decode cX4_run 11 = .ok (.aload_n 0, 1) := by decide +kernel
theorem dX4_run_12 : decode cX4_run 12 = .ok (.invokevirtual 160, 3) := by decide +kernel
theorem dX4_run_15 : decode cX4_run 15 = .ok (.ifCond .eq 7, 3) := by decide +kernel
theorem dX4_run_18 : decode cX4_run 18 = .ok (.iconst 1, 1) := by decide +kernel
theorem dX4_run_19 : decode cX4_run 19 = .ok (.goto 4, 3) := by decide +kernel
theorem dX4_run_22 : decode cX4_run 22 = .ok (.iconst 0, 1) := by decide +kernel
theorem dX4_run_23 : decode cX4_run 23 = .ok (.istore_n 1, 1) := by decide +kernel
theorem dX4_run_24 : decode cX4_run 24 = .ok (.aload_n 0, 1) := by decide +kernel
theorem dX4_run_25 : decode cX4_run 25 = .ok (.iload_n 1, 1) := by decide +kernel
theorem dX4_run_26 : decode cX4_run 26 = .ok (.ifCond .eq 7, 3) := by decide +kernel
theorem dX4_run_29 : decode cX4_run 29 = .ok (.iconst 0, 1) := by decide +kernel
theorem dX4_run_30 : decode cX4_run 30 = .ok (.goto 4, 3) := by decide +kernel
theorem dX4_run_33 : decode cX4_run 33 = .ok (.iconst 1, 1) := by decide +kernel
theorem dX4_run_34 : decode cX4_run 34 = .ok (.putfield 25, 3) := by decide +kernel
theorem dX4_run_37 : decode cX4_run 37 = .ok (.aload_n 0, 1) := by decide +kernel
theorem dX4_run_38 : decode cX4_run 38 = .ok (.getfield 25, 3) := by decide +kernel
theorem dX4_run_41 : decode cX4_run 41 = .ok (.ifCond .le 5, 3) := by decide +kernel
theorem dX4_run_44 : decode cX4_run 44 = .ok (.iconst 0, 1) := by decide +kernel
theorem dX4_run_45 : decode cX4_run 45 = .ok (.ireturn, 1) := by decide +kernel
theorem dX4_run_46 : decode cX4_run 46 = .ok (.aload_n 0, 1) := by decide +kernel
theorem dX4_run_47 : decode cX4_run 47 = .ok (.invokevirtual 77, 3) := by decide +kernel
theorem dX4_run_50 : decode cX4_run 50 = .ok (.aload_n 0, 1) := by decide +kernel
theorem dX4_run_51 : decode cX4_run 51 = .ok (.iconst 0, 1) := by decide +kernel
theorem dX4_run_52 : decode cX4_run 52 = .ok (.putfield 148, 3) := by decide +kernel
theorem dX4_run_55 : decode cX4_run 55 = .ok (.iconst 0, 1) := by decide +kernel
theorem dX4_run_56 : decode cX4_run 56 = .ok (.istore_n 2, 1) := by decide +kernel
theorem dX4_run_57 : decode cX4_run 57 = .ok (.iload_n 2, 1) := by decide +kernel
theorem dX4_run_58 : decode cX4_run 58 = .ok (.aload_n 0, 1) := by decide +kernel
theorem dX4_run_59 : decode cX4_run 59 = .ok (.getfield 151, 3) := by decide +kernel
theorem dX4_run_62 : decode cX4_run 62 = .ok (.if_icmp .gt 17, 3) := by decide +kernel
theorem dX4_run_65 : decode cX4_run 65 = .ok (.aload_n 0, 1) := by decide +kernel
theorem dX4_run_66 : decode cX4_run 66 = .ok (.iload_n 2, 1) := by decide +kernel
theorem dX4_run_67 : decode cX4_run 67 = .ok (.invokevirtual 185, 3) := by decide +kernel
theorem dX4_run_70 : decode cX4_run 70 = .ok (.ifCond .eq 9, 3) := by decide +kernel
theorem dX4_run_73 : decode cX4_run 73 = .ok (.iinc 2 1, 3) := by decide +kernel
theorem dX4_run_76 : decode cX4_run 76 = .ok (.goto (-19), 3) := by decide +kernel
theorem dX4_run_79 : decode cX4_run 79 = .ok (.iload_n 2, 1) := by decide +kernel
theorem dX4_run_80 : decode cX4_run 80 = .ok (.ireturn, 1) := by decide +kernel
theorem dX4_undo_0 : decode cX4_undo 0 = .ok (.aload_n 0, 1) := by decide +kernel
theorem dX4_undo_1 : decode cX4_undo 1 = .ok (.aload_n 0, 1) := by decide +kernel
theorem dX4_undo_2 : decode cX4_undo 2 = .ok (.getfield 29, 3) := by decide +kernel
theorem dX4_undo_5 : decode cX4_undo 5 = .ok (.ifCond .le 7, 3) := by decide +kernel
theorem dX4_undo_8 : decode cX4_undo 8 = .ok (.iconst 0, 1) := by decide +kernel
theorem dX4_undo_9 : decode cX4_undo 9 = .ok (.goto 4, 3) := by decide +kernel
theorem dX4_undo_12 : decode cX4_undo 12 = .ok (.iconst 1, 1) := by decide +kernel
theorem dX4_undo_13 : decode cX4_undo 13 = .ok (.putfield 25, 3) := by decide +kernel
theorem dX4_undo_16 : decode cX4_undo 16 = .ok (.aload_n 0, 1) := by decide +kernel
theorem dX4_undo_17 : decode cX4_undo 17 = .ok (.getfield 25, 3) := by decide +kernel
theorem dX4_undo_20 : decode cX4_undo 20 = .ok (.ifCond .le 5, 3) := by decide +kernel
theorem dX4_undo_23 : decode cX4_undo 23 = .ok (.iconst 0, 1) := by decide +kernel
theorem dX4_undo_24 : decode cX4_undo 24 = .ok (.ireturn, 1) := by decide +kernel
theorem dX4_undo_25 : decode cX4_undo 25 = .ok (.aload_n 0, 1) := by decide +kernel
theorem dX4_undo_26 : decode cX4_undo 26 = .ok (.dup, 1) := by decide +kernel
theorem dX4_undo_27 : decode cX4_undo 27 = .ok (.getfield 29, 3) := by decide +kernel
theorem dX4_undo_30 : decode cX4_undo 30 = .ok (.iconst 1, 1) := by decide +kernel
theorem dX4_undo_31 : decode cX4_undo 31 = .ok (.isub, 1) := by decide +kernel
theorem dX4_undo_32 : decode cX4_undo 32 = .ok (.putfield 29, 3) := by decide +kernel
theorem dX4_undo_35 : decode cX4_undo 35 = .ok (.iconst 0, 1) := by decide +kernel
theorem dX4_undo_36 : decode cX4_undo 36 = .ok (.istore_n 1, 1) := by decide +kernel
theorem dX4_undo_37 : decode cX4_undo 37 = .ok (.iload_n 1, 1) := by decide +kernel
theorem dX4_undo_38 : decode cX4_undo 38 = .ok (.sipush 232, 3) := by decide +kernel
theorem dX4_undo_41 : decode cX4_undo 41 = .ok (.if_icmp .ge 30, 3) := by decide +kernel
theorem dX4_undo_44 : decode cX4_undo 44 = .ok (.aload_n 0, 1) := by decide +kernel
theorem dX4_undo_45 : decode cX4_undo 45 = .ok (.getfield 7, 3) := by decide +kernel
theorem dX4_undo_48 : decode cX4_undo 48 = .ok (.iload_n 1, 1) := by decide +kernel
theorem dX4_undo_49 : decode cX4_undo 49 = .ok (.aload_n 0, 1) := by decide +kernel
theorem dX4_undo_50 : decode cX4_undo 50 = .ok (.getfield 13, 3) := by decide +kernel
theorem dX4_undo_53 : decode cX4_undo 53 = .ok (.sipush 232, 3) := by decide +kernel
theorem dX4_undo_56 : decode cX4_undo 56 = .ok (.aload_n 0, 1) := by decide +kernel
theorem dX4_undo_57 : decode cX4_undo 57 = .ok (.getfield 29, 3) := by decide +kernel
theorem dX4_undo_60 : decode cX4_undo 60 = .ok (.imul, 1) := by decide +kernel
theorem dX4_undo_61 : decode cX4_undo 61 = .ok (.iload_n 1, 1) := by decide +kernel
theorem dX4_undo_62 : decode cX4_undo 62 = .ok (.iadd, 1) := by decide +kernel
theorem dX4_undo_63 : decode cX4_undo 63 = .ok (.iaload, 1) := by decide +kernel
theorem dX4_undo_64 : decode cX4_undo 64 = .ok (.iastore, 1) := by decide +kernel
theorem dX4_undo_65 : decode cX4_undo 65 = .ok (.iinc 1 1, 3) := by decide +kernel
theorem dX4_undo_68 : decode cX4_undo 68 = .ok (.goto (-31), 3) := by decide +kernel
theorem dX4_undo_71 : decode cX4_undo 71 = .ok (.aload_n 0, 1) := by decide +kernel
theorem dX4_undo_72 : decode cX4_undo 72 = .ok (.getfield 29, 3) := by decide +kernel
theorem dX4_undo_75 : decode cX4_undo 75 = .ok (.ireturn, 1) := by decide +kernel
theorem dX4_paidWhole_0 : decode cX4_paidWhole 0 = .ok (.iconst 0, 1) := by decide +kernel
theorem dX4_paidWhole_1 : decode cX4_paidWhole 1 = .ok (.istore_n 2, 1) := by decide +kernel
theorem dX4_paidWhole_2 : decode cX4_paidWhole 2 = .ok (.iconst 0, 1) := by decide +kernel
theorem dX4_paidWhole_3 : decode cX4_paidWhole 3 = .ok (.istore_n 3, 1) := by decide +kernel
theorem dX4_paidWhole_4 : decode cX4_paidWhole 4 = .ok (.iload_n 3, 1) := by decide +kernel
theorem dX4_paidWhole_5 : decode cX4_paidWhole 5 = .ok (.aload_n 0, 1) := by decide +kernel
theorem dX4_paidWhole_6 : decode cX4_paidWhole 6 = .ok (.iload_n 1, 1) := by decide +kernel
theorem dX4_paidWhole_7 : decode cX4_paidWhole 7 = .ok (.bipush 17, 2) := by decide +kernel
theorem dX4_paidWhole_9 : decode cX4_paidWhole 9 = .ok (.invokevirtual 36, 3) := by decide +kernel
theorem dX4_paidWhole_12 : decode cX4_paidWhole 12 = .ok (.if_icmp .ge 29, 3) := by decide +kernel
theorem dX4_paidWhole_15 : decode cX4_paidWhole 15 = .ok (.iload_n 2, 1) := by decide +kernel
theorem dX4_paidWhole_16 : decode cX4_paidWhole 16 = .ok (.aload_n 0, 1) := by decide +kernel
theorem dX4_paidWhole_17 : decode cX4_paidWhole 17 = .ok (.iload_n 1, 1) := by decide +kernel
theorem dX4_paidWhole_18 : decode cX4_paidWhole 18 = .ok (.bipush 22, 2) := by decide +kernel
theorem dX4_paidWhole_20 : decode cX4_paidWhole 20 = .ok (.iload_n 3, 1) := by decide +kernel
theorem dX4_paidWhole_21 : decode cX4_paidWhole 21 = .ok (.iadd, 1) := by decide +kernel
theorem dX4_paidWhole_22 : decode cX4_paidWhole 22 = .ok (.invokevirtual 36, 3) := by decide +kernel
theorem dX4_paidWhole_25 : decode cX4_paidWhole 25 = .ok (.ifCond .ne 7, 3) := by decide +kernel
theorem dX4_paidWhole_28 : decode cX4_paidWhole 28 = .ok (.iconst 1, 1) := by decide +kernel
theorem dX4_paidWhole_29 : decode cX4_paidWhole 29 = .ok (.goto 4, 3) := by decide +kernel
theorem dX4_paidWhole_32 : decode cX4_paidWhole 32 = .ok (.iconst 0, 1) := by decide +kernel
theorem dX4_paidWhole_33 : decode cX4_paidWhole 33 = .ok (.iadd, 1) := by decide +kernel
theorem dX4_paidWhole_34 : decode cX4_paidWhole 34 = .ok (.istore_n 2, 1) := by decide +kernel
theorem dX4_paidWhole_35 : decode cX4_paidWhole 35 = .ok (.iinc 3 1, 3) := by decide +kernel
theorem dX4_paidWhole_38 : decode cX4_paidWhole 38 = .ok (.goto (-34), 3) := by decide +kernel
theorem dX4_paidWhole_41 : decode cX4_paidWhole 41 = .ok (.iload_n 2, 1) := by decide +kernel
theorem dX4_paidWhole_42 : decode cX4_paidWhole 42 = .ok (.ireturn, 1) := by decide +kernel
theorem dX4_phaseNow_0 : decode cX4_phaseNow 0 = .ok (.iload_n 2, 1) := by decide +kernel
theorem dX4_phaseNow_1 : decode cX4_phaseNow 1 = .ok (.tableswitch 158 0 12 #[67, 74, 80, 86, 92, 98, 106, 114, 122, 130, 138, 146, 152], 67) := by decide +kernel
theorem dX4_phaseNow_68 : decode cX4_phaseNow 68 = .ok (.aload_n 0, 1) := by decide +kernel
theorem dX4_phaseNow_69 : decode cX4_phaseNow 69 = .ok (.iload_n 1, 1) := by decide +kernel
theorem dX4_phaseNow_70 : decode cX4_phaseNow 70 = .ok (.iconst 0, 1) := by decide +kernel
theorem dX4_phaseNow_71 : decode cX4_phaseNow 71 = .ok (.invokevirtual 36, 3) := by decide +kernel
theorem dX4_phaseNow_74 : decode cX4_phaseNow 74 = .ok (.ireturn, 1) := by decide +kernel
theorem dX4_phaseNow_75 : decode cX4_phaseNow 75 = .ok (.aload_n 0, 1) := by decide +kernel
theorem dX4_phaseNow_76 : decode cX4_phaseNow 76 = .ok (.iload_n 1, 1) := by decide +kernel
theorem dX4_phaseNow_77 : decode cX4_phaseNow 77 = .ok (.invokevirtual 57, 3) := by decide +kernel
theorem dX4_phaseNow_80 : decode cX4_phaseNow 80 = .ok (.ireturn, 1) := by decide +kernel
theorem dX4_phaseNow_81 : decode cX4_phaseNow 81 = .ok (.aload_n 0, 1) := by decide +kernel
theorem dX4_phaseNow_82 : decode cX4_phaseNow 82 = .ok (.iload_n 1, 1) := by decide +kernel
theorem dX4_phaseNow_83 : decode cX4_phaseNow 83 = .ok (.invokevirtual 60, 3) := by decide +kernel
theorem dX4_phaseNow_86 : decode cX4_phaseNow 86 = .ok (.ireturn, 1) := by decide +kernel
theorem dX4_phaseNow_87 : decode cX4_phaseNow 87 = .ok (.aload_n 0, 1) := by decide +kernel
theorem dX4_phaseNow_88 : decode cX4_phaseNow 88 = .ok (.iload_n 1, 1) := by decide +kernel
theorem dX4_phaseNow_89 : decode cX4_phaseNow 89 = .ok (.invokevirtual 53, 3) := by decide +kernel
theorem dX4_phaseNow_92 : decode cX4_phaseNow 92 = .ok (.ireturn, 1) := by decide +kernel
theorem dX4_phaseNow_93 : decode cX4_phaseNow 93 = .ok (.aload_n 0, 1) := by decide +kernel
theorem dX4_phaseNow_94 : decode cX4_phaseNow 94 = .ok (.iload_n 1, 1) := by decide +kernel
theorem dX4_phaseNow_95 : decode cX4_phaseNow 95 = .ok (.invokevirtual 188, 3) := by decide +kernel
theorem dX4_phaseNow_98 : decode cX4_phaseNow 98 = .ok (.ireturn, 1) := by decide +kernel
theorem dX4_phaseNow_99 : decode cX4_phaseNow 99 = .ok (.aload_n 0, 1) := by decide +kernel
theorem dX4_phaseNow_100 : decode cX4_phaseNow 100 = .ok (.iload_n 1, 1) := by decide +kernel
theorem dX4_phaseNow_101 : decode cX4_phaseNow 101 = .ok (.bipush 34, 2) := by decide +kernel
theorem dX4_phaseNow_103 : decode cX4_phaseNow 103 = .ok (.invokevirtual 36, 3) := by decide +kernel
theorem dX4_phaseNow_106 : decode cX4_phaseNow 106 = .ok (.ireturn, 1) := by decide +kernel
theorem dX4_phaseNow_107 : decode cX4_phaseNow 107 = .ok (.aload_n 0, 1) := by decide +kernel
theorem dX4_phaseNow_108 : decode cX4_phaseNow 108 = .ok (.iload_n 1, 1) := by decide +kernel
theorem dX4_phaseNow_109 : decode cX4_phaseNow 109 = .ok (.bipush 35, 2) := by decide +kernel
theorem dX4_phaseNow_111 : decode cX4_phaseNow 111 = .ok (.invokevirtual 36, 3) := by decide +kernel
theorem dX4_phaseNow_114 : decode cX4_phaseNow 114 = .ok (.ireturn, 1) := by decide +kernel
theorem dX4_phaseNow_115 : decode cX4_phaseNow 115 = .ok (.aload_n 0, 1) := by decide +kernel
theorem dX4_phaseNow_116 : decode cX4_phaseNow 116 = .ok (.iload_n 1, 1) := by decide +kernel
theorem dX4_phaseNow_117 : decode cX4_phaseNow 117 = .ok (.bipush 32, 2) := by decide +kernel
theorem dX4_phaseNow_119 : decode cX4_phaseNow 119 = .ok (.invokevirtual 36, 3) := by decide +kernel
theorem dX4_phaseNow_122 : decode cX4_phaseNow 122 = .ok (.ireturn, 1) := by decide +kernel
theorem dX4_phaseNow_123 : decode cX4_phaseNow 123 = .ok (.aload_n 0, 1) := by decide +kernel
theorem dX4_phaseNow_124 : decode cX4_phaseNow 124 = .ok (.iload_n 1, 1) := by decide +kernel
theorem dX4_phaseNow_125 : decode cX4_phaseNow 125 = .ok (.bipush 31, 2) := by decide +kernel
theorem dX4_phaseNow_127 : decode cX4_phaseNow 127 = .ok (.invokevirtual 36, 3) := by decide +kernel
theorem dX4_phaseNow_130 : decode cX4_phaseNow 130 = .ok (.ireturn, 1) := by decide +kernel
theorem dX4_phaseNow_131 : decode cX4_phaseNow 131 = .ok (.aload_n 0, 1) := by decide +kernel
theorem dX4_phaseNow_132 : decode cX4_phaseNow 132 = .ok (.iload_n 1, 1) := by decide +kernel
theorem dX4_phaseNow_133 : decode cX4_phaseNow 133 = .ok (.bipush 36, 2) := by decide +kernel
theorem dX4_phaseNow_135 : decode cX4_phaseNow 135 = .ok (.invokevirtual 36, 3) := by decide +kernel
theorem dX4_phaseNow_138 : decode cX4_phaseNow 138 = .ok (.ireturn, 1) := by decide +kernel
theorem dX4_phaseNow_139 : decode cX4_phaseNow 139 = .ok (.aload_n 0, 1) := by decide +kernel
theorem dX4_phaseNow_140 : decode cX4_phaseNow 140 = .ok (.iload_n 1, 1) := by decide +kernel
theorem dX4_phaseNow_141 : decode cX4_phaseNow 141 = .ok (.bipush 17, 2) := by decide +kernel
theorem dX4_phaseNow_143 : decode cX4_phaseNow 143 = .ok (.invokevirtual 36, 3) := by decide +kernel
theorem dX4_phaseNow_146 : decode cX4_phaseNow 146 = .ok (.ireturn, 1) := by decide +kernel
theorem dX4_phaseNow_147 : decode cX4_phaseNow 147 = .ok (.aload_n 0, 1) := by decide +kernel
theorem dX4_phaseNow_148 : decode cX4_phaseNow 148 = .ok (.iload_n 1, 1) := by decide +kernel
theorem dX4_phaseNow_149 : decode cX4_phaseNow 149 = .ok (.invokevirtual 191, 3) := by decide +kernel
theorem dX4_phaseNow_152 : decode cX4_phaseNow 152 = .ok (.ireturn, 1) := by decide +kernel
theorem dX4_phaseNow_153 : decode cX4_phaseNow 153 = .ok (.aload_n 0, 1) := by decide +kernel
theorem dX4_phaseNow_154 : decode cX4_phaseNow 154 = .ok (.iload_n 1, 1) := by decide +kernel
theorem dX4_phaseNow_155 : decode cX4_phaseNow 155 = .ok (.invokevirtual 68, 3) := by decide +kernel
theorem dX4_phaseNow_158 : decode cX4_phaseNow 158 = .ok (.ireturn, 1) := by decide +kernel
theorem dX4_phaseNow_159 : decode cX4_phaseNow 159 = .ok (.aload_n 0, 1) := by decide +kernel
theorem dX4_phaseNow_160 : decode cX4_phaseNow 160 = .ok (.iload_n 1, 1) := by decide +kernel
theorem dX4_phaseNow_161 : decode cX4_phaseNow 161 = .ok (.invokevirtual 74, 3) := by decide +kernel
theorem dX4_phaseNow_164 : decode cX4_phaseNow 164 = .ok (.ireturn, 1) := by decide +kernel
theorem dX4_phase_0 : decode cX4_phase 0 = .ok (.aload_n 0, 1) := by decide +kernel
theorem dX4_phase_1 : decode cX4_phase 1 = .ok (.aload_n 0, 1) := by decide +kernel
theorem dX4_phase_2 : decode cX4_phase 2 = .ok (.iload_n 1, 1) := by decide +kernel
theorem dX4_phase_3 : decode cX4_phase 3 = .ok (.invokevirtual 84, 3) := by decide +kernel
theorem dX4_phase_6 : decode cX4_phase 6 = .ok (.ifCond .ne 7, 3) := by decide +kernel
theorem dX4_phase_9 : decode cX4_phase 9 = .ok (.iconst 1, 1) := by decide +kernel
theorem dX4_phase_10 : decode cX4_phase 10 = .ok (.goto 18, 3) := by decide +kernel
theorem dX4_phase_13 : decode cX4_phase 13 = .ok (.iload_n 2, 1) := by decide +kernel
theorem dX4_phase_14 : decode cX4_phase 14 = .ok (.iconst 0, 1) := by decide +kernel
theorem dX4_phase_15 : decode cX4_phase 15 = .ok (.bipush 13, 2) := by decide +kernel
theorem dX4_phase_17 : decode cX4_phase 17 = .ok (.invokestatic 32, 3) := by decide +kernel
theorem dX4_phase_20 : decode cX4_phase 20 = .ok (.ifCond .eq 7, 3) := by decide +kernel
theorem dX4_phase_23 : decode cX4_phase 23 = .ok (.iconst 0, 1) := by decide +kernel
theorem dX4_phase_24 : decode cX4_phase 24 = .ok (.goto 4, 3) := by decide +kernel
theorem dX4_phase_27 : decode cX4_phase 27 = .ok (.iconst 2, 1) := by decide +kernel
theorem dX4_phase_28 : decode cX4_phase 28 = .ok (.putfield 25, 3) := by decide +kernel
theorem dX4_phase_31 : decode cX4_phase 31 = .ok (.aload_n 0, 1) := by decide +kernel
theorem dX4_phase_32 : decode cX4_phase 32 = .ok (.getfield 25, 3) := by decide +kernel
theorem dX4_phase_35 : decode cX4_phase 35 = .ok (.ifCond .le 7, 3) := by decide +kernel
theorem dX4_phase_38 : decode cX4_phase 38 = .ok (.iconst 0, 1) := by decide +kernel
theorem dX4_phase_39 : decode cX4_phase 39 = .ok (.goto 9, 3) := by decide +kernel
theorem dX4_phase_42 : decode cX4_phase 42 = .ok (.aload_n 0, 1) := by decide +kernel
theorem dX4_phase_43 : decode cX4_phase 43 = .ok (.iload_n 1, 1) := by decide +kernel
theorem dX4_phase_44 : decode cX4_phase 44 = .ok (.iload_n 2, 1) := by decide +kernel
theorem dX4_phase_45 : decode cX4_phase 45 = .ok (.invokevirtual 194, 3) := by decide +kernel
theorem dX4_phase_48 : decode cX4_phase 48 = .ok (.ireturn, 1) := by decide +kernel
theorem dX4_useNow_0 : decode cX4_useNow 0 = .ok (.iload_n 3, 1) := by decide +kernel
theorem dX4_useNow_1 : decode cX4_useNow 1 = .ok (.tableswitch 63 0 3 #[31, 40, 49, 56], 31) := by decide +kernel
theorem dX4_useNow_32 : decode cX4_useNow 32 = .ok (.aload_n 0, 1) := by decide +kernel
theorem dX4_useNow_33 : decode cX4_useNow 33 = .ok (.iload_n 1, 1) := by decide +kernel
theorem dX4_useNow_34 : decode cX4_useNow 34 = .ok (.iconst 1, 1) := by decide +kernel
theorem dX4_useNow_35 : decode cX4_useNow 35 = .ok (.iload_n 2, 1) := by decide +kernel
theorem dX4_useNow_36 : decode cX4_useNow 36 = .ok (.iadd, 1) := by decide +kernel
theorem dX4_useNow_37 : decode cX4_useNow 37 = .ok (.invokevirtual 36, 3) := by decide +kernel
theorem dX4_useNow_40 : decode cX4_useNow 40 = .ok (.ireturn, 1) := by decide +kernel
theorem dX4_useNow_41 : decode cX4_useNow 41 = .ok (.aload_n 0, 1) := by decide +kernel
theorem dX4_useNow_42 : decode cX4_useNow 42 = .ok (.iload_n 1, 1) := by decide +kernel
theorem dX4_useNow_43 : decode cX4_useNow 43 = .ok (.iconst 5, 1) := by decide +kernel
theorem dX4_useNow_44 : decode cX4_useNow 44 = .ok (.iload_n 2, 1) := by decide +kernel
theorem dX4_useNow_45 : decode cX4_useNow 45 = .ok (.iadd, 1) := by decide +kernel
theorem dX4_useNow_46 : decode cX4_useNow 46 = .ok (.invokevirtual 36, 3) := by decide +kernel
theorem dX4_useNow_49 : decode cX4_useNow 49 = .ok (.ireturn, 1) := by decide +kernel
theorem dX4_useNow_50 : decode cX4_useNow 50 = .ok (.aload_n 0, 1) := by decide +kernel
theorem dX4_useNow_51 : decode cX4_useNow 51 = .ok (.iload_n 1, 1) := by decide +kernel
theorem dX4_useNow_52 : decode cX4_useNow 52 = .ok (.iload_n 2, 1) := by decide +kernel
theorem dX4_useNow_53 : decode cX4_useNow 53 = .ok (.invokevirtual 44, 3) := by decide +kernel
theorem dX4_useNow_56 : decode cX4_useNow 56 = .ok (.ireturn, 1) := by decide +kernel
theorem dX4_useNow_57 : decode cX4_useNow 57 = .ok (.aload_n 0, 1) := by decide +kernel
theorem dX4_useNow_58 : decode cX4_useNow 58 = .ok (.iload_n 1, 1) := by decide +kernel
theorem dX4_useNow_59 : decode cX4_useNow 59 = .ok (.iload_n 2, 1) := by decide +kernel
theorem dX4_useNow_60 : decode cX4_useNow 60 = .ok (.invokevirtual 47, 3) := by decide +kernel
theorem dX4_useNow_63 : decode cX4_useNow 63 = .ok (.ireturn, 1) := by decide +kernel
theorem dX4_useNow_64 : decode cX4_useNow 64 = .ok (.aload_n 0, 1) := by decide +kernel
theorem dX4_useNow_65 : decode cX4_useNow 65 = .ok (.iload_n 1, 1) := by decide +kernel
theorem dX4_useNow_66 : decode cX4_useNow 66 = .ok (.iload_n 2, 1) := by decide +kernel
theorem dX4_useNow_67 : decode cX4_useNow 67 = .ok (.invokevirtual 50, 3) := by decide +kernel
theorem dX4_useNow_70 : decode cX4_useNow 70 = .ok (.ireturn, 1) := by decide +kernel
theorem dX4_use_0 : decode cX4_use 0 = .ok (.aload_n 0, 1) := by decide +kernel
theorem dX4_use_1 : decode cX4_use 1 = .ok (.aload_n 0, 1) := by decide +kernel
theorem dX4_use_2 : decode cX4_use 2 = .ok (.iload_n 1, 1) := by decide +kernel
theorem dX4_use_3 : decode cX4_use 3 = .ok (.invokevirtual 84, 3) := by decide +kernel
theorem dX4_use_6 : decode cX4_use 6 = .ok (.ifCond .eq 10, 3) := by decide +kernel
theorem dX4_use_9 : decode cX4_use 9 = .ok (.iload_n 2, 1) := by decide +kernel
theorem dX4_use_10 : decode cX4_use 10 = .ok (.invokestatic 87, 3) := by decide +kernel
theorem dX4_use_13 : decode cX4_use 13 = .ok (.ifCond .ne 7, 3) := by decide +kernel
theorem dX4_use_16 : decode cX4_use 16 = .ok (.iconst 1, 1) := by decide +kernel
theorem dX4_use_17 : decode cX4_use 17 = .ok (.goto 17, 3) := by decide +kernel
theorem dX4_use_20 : decode cX4_use 20 = .ok (.iload_n 3, 1) := by decide +kernel
theorem dX4_use_21 : decode cX4_use 21 = .ok (.iconst 0, 1) := by decide +kernel
theorem dX4_use_22 : decode cX4_use 22 = .ok (.iconst 4, 1) := by decide +kernel
theorem dX4_use_23 : decode cX4_use 23 = .ok (.invokestatic 32, 3) := by decide +kernel
theorem dX4_use_26 : decode cX4_use 26 = .ok (.ifCond .eq 7, 3) := by decide +kernel
theorem dX4_use_29 : decode cX4_use 29 = .ok (.iconst 0, 1) := by decide +kernel
theorem dX4_use_30 : decode cX4_use 30 = .ok (.goto 4, 3) := by decide +kernel
theorem dX4_use_33 : decode cX4_use 33 = .ok (.iconst 2, 1) := by decide +kernel
theorem dX4_use_34 : decode cX4_use 34 = .ok (.putfield 25, 3) := by decide +kernel
theorem dX4_use_37 : decode cX4_use 37 = .ok (.aload_n 0, 1) := by decide +kernel
theorem dX4_use_38 : decode cX4_use 38 = .ok (.getfield 25, 3) := by decide +kernel
theorem dX4_use_41 : decode cX4_use 41 = .ok (.ifCond .le 7, 3) := by decide +kernel
theorem dX4_use_44 : decode cX4_use 44 = .ok (.iconst 0, 1) := by decide +kernel
theorem dX4_use_45 : decode cX4_use 45 = .ok (.goto 10, 3) := by decide +kernel
theorem dX4_use_48 : decode cX4_use 48 = .ok (.aload_n 0, 1) := by decide +kernel
theorem dX4_use_49 : decode cX4_use 49 = .ok (.iload_n 1, 1) := by decide +kernel
theorem dX4_use_50 : decode cX4_use 50 = .ok (.iload_n 2, 1) := by decide +kernel
theorem dX4_use_51 : decode cX4_use 51 = .ok (.iload_n 3, 1) := by decide +kernel
theorem dX4_use_52 : decode cX4_use 52 = .ok (.invokevirtual 197, 3) := by decide +kernel
theorem dX4_use_55 : decode cX4_use 55 = .ok (.ireturn, 1) := by decide +kernel
theorem dX4_instalmentNow_0 : decode cX4_instalmentNow 0 = .ok (.iload_n 2, 1) := by decide +kernel
theorem dX4_instalmentNow_1 : decode cX4_instalmentNow 1 = .ok (.aload_n 0, 1) := by decide +kernel
theorem dX4_instalmentNow_2 : decode cX4_instalmentNow 2 = .ok (.iload_n 1, 1) := by decide +kernel
theorem dX4_instalmentNow_3 : decode cX4_instalmentNow 3 = .ok (.bipush 17, 2) := by decide +kernel
theorem dX4_instalmentNow_5 : decode cX4_instalmentNow 5 = .ok (.invokevirtual 36, 3) := by decide +kernel
theorem dX4_instalmentNow_8 : decode cX4_instalmentNow 8 = .ok (.if_icmp .ge 19, 3) := by decide +kernel
theorem dX4_instalmentNow_11 : decode cX4_instalmentNow 11 = .ok (.aload_n 0, 1) := by decide +kernel
theorem dX4_instalmentNow_12 : decode cX4_instalmentNow 12 = .ok (.iload_n 1, 1) := by decide +kernel
theorem dX4_instalmentNow_13 : decode cX4_instalmentNow 13 = .ok (.bipush 18, 2) := by decide +kernel
theorem dX4_instalmentNow_15 : decode cX4_instalmentNow 15 = .ok (.iconst 4, 1) := by decide +kernel
theorem dX4_instalmentNow_16 : decode cX4_instalmentNow 16 = .ok (.iload_n 3, 1) := by decide +kernel
theorem dX4_instalmentNow_17 : decode cX4_instalmentNow 17 = .ok (.imul, 1) := by decide +kernel
theorem dX4_instalmentNow_18 : decode cX4_instalmentNow 18 = .ok (.iadd, 1) := by decide +kernel
theorem dX4_instalmentNow_19 : decode cX4_instalmentNow 19 = .ok (.iload_n 2, 1) := by decide +kernel
theorem dX4_instalmentNow_20 : decode cX4_instalmentNow 20 = .ok (.iadd, 1) := by decide +kernel
theorem dX4_instalmentNow_21 : decode cX4_instalmentNow 21 = .ok (.invokevirtual 36, 3) := by decide +kernel
theorem dX4_instalmentNow_24 : decode cX4_instalmentNow 24 = .ok (.goto 4, 3) := by decide +kernel
theorem dX4_instalmentNow_27 : decode cX4_instalmentNow 27 = .ok (.iconst (-1), 1) := by decide +kernel
theorem dX4_instalmentNow_28 : decode cX4_instalmentNow 28 = .ok (.ireturn, 1) := by decide +kernel
theorem dX4_instalment_0 : decode cX4_instalment 0 = .ok (.aload_n 0, 1) := by decide +kernel
theorem dX4_instalment_1 : decode cX4_instalment 1 = .ok (.aload_n 0, 1) := by decide +kernel
theorem dX4_instalment_2 : decode cX4_instalment 2 = .ok (.iload_n 1, 1) := by decide +kernel
theorem dX4_instalment_3 : decode cX4_instalment 3 = .ok (.invokevirtual 84, 3) := by decide +kernel
theorem dX4_instalment_6 : decode cX4_instalment 6 = .ok (.ifCond .ne 7, 3) := by decide +kernel
theorem dX4_instalment_9 : decode cX4_instalment 9 = .ok (.iconst 1, 1) := by decide +kernel
theorem dX4_instalment_10 : decode cX4_instalment 10 = .ok (.goto 26, 3) := by decide +kernel
theorem dX4_instalment_13 : decode cX4_instalment 13 = .ok (.iload_n 2, 1) := by decide +kernel
theorem dX4_instalment_14 : decode cX4_instalment 14 = .ok (.iconst 0, 1) := by decide +kernel
theorem dX4_instalment_15 : decode cX4_instalment 15 = .ok (.iconst 3, 1) := by decide +kernel
theorem dX4_instalment_16 : decode cX4_instalment 16 = .ok (.invokestatic 32, 3) := by decide +kernel
theorem dX4_instalment_19 : decode cX4_instalment 19 = .ok (.ifCond .eq 16, 3) := by decide +kernel
theorem dX4_instalment_22 : decode cX4_instalment 22 = .ok (.iload_n 3, 1) := by decide +kernel
theorem dX4_instalment_23 : decode cX4_instalment 23 = .ok (.iconst 0, 1) := by decide +kernel
theorem dX4_instalment_24 : decode cX4_instalment 24 = .ok (.iconst 2, 1) := by decide +kernel
theorem dX4_instalment_25 : decode cX4_instalment 25 = .ok (.invokestatic 32, 3) := by decide +kernel
theorem dX4_instalment_28 : decode cX4_instalment 28 = .ok (.ifCond .eq 7, 3) := by decide +kernel
theorem dX4_instalment_31 : decode cX4_instalment 31 = .ok (.iconst 0, 1) := by decide +kernel
theorem dX4_instalment_32 : decode cX4_instalment 32 = .ok (.goto 4, 3) := by decide +kernel
theorem dX4_instalment_35 : decode cX4_instalment 35 = .ok (.iconst 2, 1) := by decide +kernel
theorem dX4_instalment_36 : decode cX4_instalment 36 = .ok (.putfield 25, 3) := by decide +kernel
theorem dX4_instalment_39 : decode cX4_instalment 39 = .ok (.aload_n 0, 1) := by decide +kernel
theorem dX4_instalment_40 : decode cX4_instalment 40 = .ok (.getfield 25, 3) := by decide +kernel
theorem dX4_instalment_43 : decode cX4_instalment 43 = .ok (.ifCond .le 7, 3) := by decide +kernel
theorem dX4_instalment_46 : decode cX4_instalment 46 = .ok (.iconst 0, 1) := by decide +kernel
theorem dX4_instalment_47 : decode cX4_instalment 47 = .ok (.goto 10, 3) := by decide +kernel
theorem dX4_instalment_50 : decode cX4_instalment 50 = .ok (.aload_n 0, 1) := by decide +kernel
theorem dX4_instalment_51 : decode cX4_instalment 51 = .ok (.iload_n 1, 1) := by decide +kernel
theorem dX4_instalment_52 : decode cX4_instalment 52 = .ok (.iload_n 2, 1) := by decide +kernel
theorem dX4_instalment_53 : decode cX4_instalment 53 = .ok (.iload_n 3, 1) := by decide +kernel
theorem dX4_instalment_54 : decode cX4_instalment 54 = .ok (.invokevirtual 200, 3) := by decide +kernel
theorem dX4_instalment_57 : decode cX4_instalment 57 = .ok (.ireturn, 1) := by decide +kernel
theorem dX4_sumOf_0 : decode cX4_sumOf 0 = .ok (.iconst 0, 1) := by decide +kernel
theorem dX4_sumOf_1 : decode cX4_sumOf 1 = .ok (.istore_n 2, 1) := by decide +kernel
theorem dX4_sumOf_2 : decode cX4_sumOf 2 = .ok (.iconst 0, 1) := by decide +kernel
theorem dX4_sumOf_3 : decode cX4_sumOf 3 = .ok (.istore_n 3, 1) := by decide +kernel
theorem dX4_sumOf_4 : decode cX4_sumOf 4 = .ok (.iload_n 3, 1) := by decide +kernel
theorem dX4_sumOf_5 : decode cX4_sumOf 5 = .ok (.aload_n 0, 1) := by decide +kernel
theorem dX4_sumOf_6 : decode cX4_sumOf 6 = .ok (.getfield 7, 3) := by decide +kernel
theorem dX4_sumOf_9 : decode cX4_sumOf 9 = .ok (.bipush 9, 2) := by decide +kernel
theorem dX4_sumOf_11 : decode cX4_sumOf 11 = .ok (.iaload, 1) := by decide +kernel
theorem dX4_sumOf_12 : decode cX4_sumOf 12 = .ok (.if_icmp .ge 30, 3) := by decide +kernel
theorem dX4_sumOf_15 : decode cX4_sumOf 15 = .ok (.iload_n 2, 1) := by decide +kernel
theorem dX4_sumOf_16 : decode cX4_sumOf 16 = .ok (.aload_n 0, 1) := by decide +kernel
theorem dX4_sumOf_17 : decode cX4_sumOf 17 = .ok (.iload_n 3, 1) := by decide +kernel
theorem dX4_sumOf_18 : decode cX4_sumOf 18 = .ok (.invokevirtual 40, 3) := by decide +kernel
theorem dX4_sumOf_21 : decode cX4_sumOf 21 = .ok (.ifCond .eq 12, 3) := by decide +kernel
theorem dX4_sumOf_24 : decode cX4_sumOf 24 = .ok (.aload_n 0, 1) := by decide +kernel
theorem dX4_sumOf_25 : decode cX4_sumOf 25 = .ok (.iload_n 3, 1) := by decide +kernel
theorem dX4_sumOf_26 : decode cX4_sumOf 26 = .ok (.iload_n 1, 1) := by decide +kernel
theorem dX4_sumOf_27 : decode cX4_sumOf 27 = .ok (.invokevirtual 194, 3) := by decide +kernel
theorem dX4_sumOf_30 : decode cX4_sumOf 30 = .ok (.goto 4, 3) := by decide +kernel
theorem dX4_sumOf_33 : decode cX4_sumOf 33 = .ok (.iconst 0, 1) := by decide +kernel
theorem dX4_sumOf_34 : decode cX4_sumOf 34 = .ok (.iadd, 1) := by decide +kernel
theorem dX4_sumOf_35 : decode cX4_sumOf 35 = .ok (.istore_n 2, 1) := by decide +kernel
theorem dX4_sumOf_36 : decode cX4_sumOf 36 = .ok (.iinc 3 1, 3) := by decide +kernel
theorem dX4_sumOf_39 : decode cX4_sumOf 39 = .ok (.goto (-35), 3) := by decide +kernel
theorem dX4_sumOf_42 : decode cX4_sumOf 42 = .ok (.iload_n 2, 1) := by decide +kernel
theorem dX4_sumOf_43 : decode cX4_sumOf 43 = .ok (.ireturn, 1) := by decide +kernel
theorem dX4_begunOnes_0 : decode cX4_begunOnes 0 = .ok (.iconst 0, 1) := by decide +kernel
theorem dX4_begunOnes_1 : decode cX4_begunOnes 1 = .ok (.istore_n 1, 1) := by decide +kernel
theorem dX4_begunOnes_2 : decode cX4_begunOnes 2 = .ok (.iconst 0, 1) := by decide +kernel
theorem dX4_begunOnes_3 : decode cX4_begunOnes 3 = .ok (.istore_n 2, 1) := by decide +kernel
theorem dX4_begunOnes_4 : decode cX4_begunOnes 4 = .ok (.iload_n 2, 1) := by decide +kernel
theorem dX4_begunOnes_5 : decode cX4_begunOnes 5 = .ok (.aload_n 0, 1) := by decide +kernel
theorem dX4_begunOnes_6 : decode cX4_begunOnes 6 = .ok (.getfield 7, 3) := by decide +kernel
theorem dX4_begunOnes_9 : decode cX4_begunOnes 9 = .ok (.bipush 9, 2) := by decide +kernel
theorem dX4_begunOnes_11 : decode cX4_begunOnes 11 = .ok (.iaload, 1) := by decide +kernel
theorem dX4_begunOnes_12 : decode cX4_begunOnes 12 = .ok (.if_icmp .ge 25, 3) := by decide +kernel
theorem dX4_begunOnes_15 : decode cX4_begunOnes 15 = .ok (.iload_n 1, 1) := by decide +kernel
theorem dX4_begunOnes_16 : decode cX4_begunOnes 16 = .ok (.aload_n 0, 1) := by decide +kernel
theorem dX4_begunOnes_17 : decode cX4_begunOnes 17 = .ok (.iload_n 2, 1) := by decide +kernel
theorem dX4_begunOnes_18 : decode cX4_begunOnes 18 = .ok (.invokevirtual 40, 3) := by decide +kernel
theorem dX4_begunOnes_21 : decode cX4_begunOnes 21 = .ok (.ifCond .eq 7, 3) := by decide +kernel
theorem dX4_begunOnes_24 : decode cX4_begunOnes 24 = .ok (.iconst 1, 1) := by decide +kernel
theorem dX4_begunOnes_25 : decode cX4_begunOnes 25 = .ok (.goto 4, 3) := by decide +kernel
theorem dX4_begunOnes_28 : decode cX4_begunOnes 28 = .ok (.iconst 0, 1) := by decide +kernel
theorem dX4_begunOnes_29 : decode cX4_begunOnes 29 = .ok (.iadd, 1) := by decide +kernel
theorem dX4_begunOnes_30 : decode cX4_begunOnes 30 = .ok (.istore_n 1, 1) := by decide +kernel
theorem dX4_begunOnes_31 : decode cX4_begunOnes 31 = .ok (.iinc 2 1, 3) := by decide +kernel
theorem dX4_begunOnes_34 : decode cX4_begunOnes 34 = .ok (.goto (-30), 3) := by decide +kernel
theorem dX4_begunOnes_37 : decode cX4_begunOnes 37 = .ok (.iload_n 1, 1) := by decide +kernel
theorem dX4_begunOnes_38 : decode cX4_begunOnes 38 = .ok (.ireturn, 1) := by decide +kernel
theorem dX4_counted_0 : decode cX4_counted 0 = .ok (.iload_n 1, 1) := by decide +kernel
theorem dX4_counted_1 : decode cX4_counted 1 = .ok (.tableswitch 136 0 15 #[79, 87, 92, 99, 106, 106, 114, 114, 114, 122, 122, 136, 136, 136, 136, 131], 79) := by decide +kernel
theorem dX4_counted_80 : decode cX4_counted 80 = .ok (.aload_n 0, 1) := by decide +kernel
theorem dX4_counted_81 : decode cX4_counted 81 = .ok (.getfield 7, 3) := by decide +kernel
theorem dX4_counted_84 : decode cX4_counted 84 = .ok (.bipush 9, 2) := by decide +kernel
theorem dX4_counted_86 : decode cX4_counted 86 = .ok (.iaload, 1) := by decide +kernel
theorem dX4_counted_87 : decode cX4_counted 87 = .ok (.ireturn, 1) := by decide +kernel
theorem dX4_counted_88 : decode cX4_counted 88 = .ok (.aload_n 0, 1) := by decide +kernel
theorem dX4_counted_89 : decode cX4_counted 89 = .ok (.invokevirtual 203, 3) := by decide +kernel
theorem dX4_counted_92 : decode cX4_counted 92 = .ok (.ireturn, 1) := by decide +kernel
theorem dX4_counted_93 : decode cX4_counted 93 = .ok (.aload_n 0, 1) := by decide +kernel
theorem dX4_counted_94 : decode cX4_counted 94 = .ok (.bipush 9, 2) := by decide +kernel
theorem dX4_counted_96 : decode cX4_counted 96 = .ok (.invokevirtual 206, 3) := by decide +kernel
theorem dX4_counted_99 : decode cX4_counted 99 = .ok (.ireturn, 1) := by decide +kernel
theorem dX4_counted_100 : decode cX4_counted 100 = .ok (.aload_n 0, 1) := by decide +kernel
theorem dX4_counted_101 : decode cX4_counted 101 = .ok (.getfield 7, 3) := by decide +kernel
theorem dX4_counted_104 : decode cX4_counted 104 = .ok (.iconst 4, 1) := by decide +kernel
theorem dX4_counted_105 : decode cX4_counted 105 = .ok (.iaload, 1) := by decide +kernel
theorem dX4_counted_106 : decode cX4_counted 106 = .ok (.ireturn, 1) := by decide +kernel
theorem dX4_counted_107 : decode cX4_counted 107 = .ok (.aload_n 0, 1) := by decide +kernel
theorem dX4_counted_108 : decode cX4_counted 108 = .ok (.iload_n 1, 1) := by decide +kernel
theorem dX4_counted_109 : decode cX4_counted 109 = .ok (.iconst 3, 1) := by decide +kernel
theorem dX4_counted_110 : decode cX4_counted 110 = .ok (.isub, 1) := by decide +kernel
theorem dX4_counted_111 : decode cX4_counted 111 = .ok (.invokevirtual 206, 3) := by decide +kernel
theorem dX4_counted_114 : decode cX4_counted 114 = .ok (.ireturn, 1) := by decide +kernel
theorem dX4_counted_115 : decode cX4_counted 115 = .ok (.aload_n 0, 1) := by decide +kernel
theorem dX4_counted_116 : decode cX4_counted 116 = .ok (.iload_n 1, 1) := by decide +kernel
theorem dX4_counted_117 : decode cX4_counted 117 = .ok (.iconst 1, 1) := by decide +kernel
theorem dX4_counted_118 : decode cX4_counted 118 = .ok (.isub, 1) := by decide +kernel
theorem dX4_counted_119 : decode cX4_counted 119 = .ok (.invokevirtual 206, 3) := by decide +kernel
theorem dX4_counted_122 : decode cX4_counted 122 = .ok (.ireturn, 1) := by decide +kernel
theorem dX4_counted_123 : decode cX4_counted 123 = .ok (.aload_n 0, 1) := by decide +kernel
theorem dX4_counted_124 : decode cX4_counted 124 = .ok (.iload_n 1, 1) := by decide +kernel
theorem dX4_counted_125 : decode cX4_counted 125 = .ok (.bipush 6, 2) := by decide +kernel
theorem dX4_counted_127 : decode cX4_counted 127 = .ok (.isub, 1) := by decide +kernel
theorem dX4_counted_128 : decode cX4_counted 128 = .ok (.invokevirtual 206, 3) := by decide +kernel
theorem dX4_counted_131 : decode cX4_counted 131 = .ok (.ireturn, 1) := by decide +kernel
theorem dX4_counted_132 : decode cX4_counted 132 = .ok (.aload_n 0, 1) := by decide +kernel
theorem dX4_counted_133 : decode cX4_counted 133 = .ok (.getfield 29, 3) := by decide +kernel
theorem dX4_counted_136 : decode cX4_counted 136 = .ok (.ireturn, 1) := by decide +kernel
theorem dX4_counted_137 : decode cX4_counted 137 = .ok (.aload_n 0, 1) := by decide +kernel
theorem dX4_counted_138 : decode cX4_counted 138 = .ok (.getfield 7, 3) := by decide +kernel
theorem dX4_counted_141 : decode cX4_counted 141 = .ok (.iconst 5, 1) := by decide +kernel
theorem dX4_counted_142 : decode cX4_counted 142 = .ok (.iload_n 1, 1) := by decide +kernel
theorem dX4_counted_143 : decode cX4_counted 143 = .ok (.iadd, 1) := by decide +kernel
theorem dX4_counted_144 : decode cX4_counted 144 = .ok (.bipush 11, 2) := by decide +kernel
theorem dX4_counted_146 : decode cX4_counted 146 = .ok (.isub, 1) := by decide +kernel
theorem dX4_counted_147 : decode cX4_counted 147 = .ok (.iaload, 1) := by decide +kernel
theorem dX4_counted_148 : decode cX4_counted 148 = .ok (.ireturn, 1) := by decide +kernel
theorem dX4_count_0 : decode cX4_count 0 = .ok (.aload_n 0, 1) := by decide +kernel
theorem dX4_count_1 : decode cX4_count 1 = .ok (.iload_n 1, 1) := by decide +kernel
theorem dX4_count_2 : decode cX4_count 2 = .ok (.iconst 0, 1) := by decide +kernel
theorem dX4_count_3 : decode cX4_count 3 = .ok (.bipush 15, 2) := by decide +kernel
theorem dX4_count_5 : decode cX4_count 5 = .ok (.invokestatic 32, 3) := by decide +kernel
theorem dX4_count_8 : decode cX4_count 8 = .ok (.ifCond .eq 7, 3) := by decide +kernel
theorem dX4_count_11 : decode cX4_count 11 = .ok (.iconst 0, 1) := by decide +kernel
theorem dX4_count_12 : decode cX4_count 12 = .ok (.goto 4, 3) := by decide +kernel
theorem dX4_count_15 : decode cX4_count 15 = .ok (.iconst 1, 1) := by decide +kernel
theorem dX4_count_16 : decode cX4_count 16 = .ok (.putfield 25, 3) := by decide +kernel
theorem dX4_count_19 : decode cX4_count 19 = .ok (.aload_n 0, 1) := by decide +kernel
theorem dX4_count_20 : decode cX4_count 20 = .ok (.getfield 25, 3) := by decide +kernel
theorem dX4_count_23 : decode cX4_count 23 = .ok (.ifCond .le 7, 3) := by decide +kernel
theorem dX4_count_26 : decode cX4_count 26 = .ok (.iconst 0, 1) := by decide +kernel
theorem dX4_count_27 : decode cX4_count 27 = .ok (.goto 8, 3) := by decide +kernel
theorem dX4_count_30 : decode cX4_count 30 = .ok (.aload_n 0, 1) := by decide +kernel
theorem dX4_count_31 : decode cX4_count 31 = .ok (.iload_n 1, 1) := by decide +kernel
theorem dX4_count_32 : decode cX4_count 32 = .ok (.invokevirtual 209, 3) := by decide +kernel
theorem dX4_count_35 : decode cX4_count 35 = .ok (.ireturn, 1) := by decide +kernel
theorem dX4_setting_0 : decode cX4_setting 0 = .ok (.aload_n 0, 1) := by decide +kernel
theorem dX4_setting_1 : decode cX4_setting 1 = .ok (.iload_n 1, 1) := by decide +kernel
theorem dX4_setting_2 : decode cX4_setting 2 = .ok (.invokestatic 96, 3) := by decide +kernel
theorem dX4_setting_5 : decode cX4_setting 5 = .ok (.ifCond .eq 7, 3) := by decide +kernel
theorem dX4_setting_8 : decode cX4_setting 8 = .ok (.iconst 0, 1) := by decide +kernel
theorem dX4_setting_9 : decode cX4_setting 9 = .ok (.goto 4, 3) := by decide +kernel
theorem dX4_setting_12 : decode cX4_setting 12 = .ok (.iconst 1, 1) := by decide +kernel
theorem dX4_setting_13 : decode cX4_setting 13 = .ok (.putfield 25, 3) := by decide +kernel
theorem dX4_setting_16 : decode cX4_setting 16 = .ok (.aload_n 0, 1) := by decide +kernel
theorem dX4_setting_17 : decode cX4_setting 17 = .ok (.getfield 25, 3) := by decide +kernel
theorem dX4_setting_20 : decode cX4_setting 20 = .ok (.ifCond .le 7, 3) := by decide +kernel
theorem dX4_setting_23 : decode cX4_setting 23 = .ok (.iconst 0, 1) := by decide +kernel
theorem dX4_setting_24 : decode cX4_setting 24 = .ok (.goto 9, 3) := by decide +kernel
theorem dX4_setting_27 : decode cX4_setting 27 = .ok (.aload_n 0, 1) := by decide +kernel
theorem dX4_setting_28 : decode cX4_setting 28 = .ok (.getfield 7, 3) := by decide +kernel
theorem dX4_setting_31 : decode cX4_setting 31 = .ok (.iload_n 1, 1) := by decide +kernel
theorem dX4_setting_32 : decode cX4_setting 32 = .ok (.iaload, 1) := by decide +kernel
theorem dX4_setting_33 : decode cX4_setting 33 = .ok (.ireturn, 1) := by decide +kernel
theorem dX4_whyNotNow_0 : decode cX4_whyNotNow 0 = .ok (.iload_n 1, 1) := by decide +kernel
theorem dX4_whyNotNow_1 : decode cX4_whyNotNow 1 = .ok (.tableswitch 63 0 3 #[31, 45, 51, 57], 31) := by decide +kernel
theorem dX4_whyNotNow_32 : decode cX4_whyNotNow 32 = .ok (.aload_n 0, 1) := by decide +kernel
theorem dX4_whyNotNow_33 : decode cX4_whyNotNow 33 = .ok (.iload_n 2, 1) := by decide +kernel
theorem dX4_whyNotNow_34 : decode cX4_whyNotNow 34 = .ok (.invokevirtual 40, 3) := by decide +kernel
theorem dX4_whyNotNow_37 : decode cX4_whyNotNow 37 = .ok (.ifCond .eq 7, 3) := by decide +kernel
theorem dX4_whyNotNow_40 : decode cX4_whyNotNow 40 = .ok (.iconst 1, 1) := by decide +kernel
theorem dX4_whyNotNow_41 : decode cX4_whyNotNow 41 = .ok (.goto 4, 3) := by decide +kernel
theorem dX4_whyNotNow_44 : decode cX4_whyNotNow 44 = .ok (.iconst 0, 1) := by decide +kernel
theorem dX4_whyNotNow_45 : decode cX4_whyNotNow 45 = .ok (.ireturn, 1) := by decide +kernel
theorem dX4_whyNotNow_46 : decode cX4_whyNotNow 46 = .ok (.aload_n 0, 1) := by decide +kernel
theorem dX4_whyNotNow_47 : decode cX4_whyNotNow 47 = .ok (.iload_n 2, 1) := by decide +kernel
theorem dX4_whyNotNow_48 : decode cX4_whyNotNow 48 = .ok (.invokevirtual 106, 3) := by decide +kernel
theorem dX4_whyNotNow_51 : decode cX4_whyNotNow 51 = .ok (.ireturn, 1) := by decide +kernel
theorem dX4_whyNotNow_52 : decode cX4_whyNotNow 52 = .ok (.aload_n 0, 1) := by decide +kernel
theorem dX4_whyNotNow_53 : decode cX4_whyNotNow 53 = .ok (.iload_n 2, 1) := by decide +kernel
theorem dX4_whyNotNow_54 : decode cX4_whyNotNow 54 = .ok (.invokevirtual 71, 3) := by decide +kernel
theorem dX4_whyNotNow_57 : decode cX4_whyNotNow 57 = .ok (.ireturn, 1) := by decide +kernel
theorem dX4_whyNotNow_58 : decode cX4_whyNotNow 58 = .ok (.aload_n 0, 1) := by decide +kernel
theorem dX4_whyNotNow_59 : decode cX4_whyNotNow 59 = .ok (.iload_n 2, 1) := by decide +kernel
theorem dX4_whyNotNow_60 : decode cX4_whyNotNow 60 = .ok (.invokevirtual 126, 3) := by decide +kernel
theorem dX4_whyNotNow_63 : decode cX4_whyNotNow 63 = .ok (.ireturn, 1) := by decide +kernel
theorem dX4_whyNotNow_64 : decode cX4_whyNotNow 64 = .ok (.aload_n 0, 1) := by decide +kernel
theorem dX4_whyNotNow_65 : decode cX4_whyNotNow 65 = .ok (.iload_n 2, 1) := by decide +kernel
theorem dX4_whyNotNow_66 : decode cX4_whyNotNow 66 = .ok (.iload_n 3, 1) := by decide +kernel
theorem dX4_whyNotNow_67 : decode cX4_whyNotNow 67 = .ok (.invokevirtual 129, 3) := by decide +kernel
theorem dX4_whyNotNow_70 : decode cX4_whyNotNow 70 = .ok (.ireturn, 1) := by decide +kernel
theorem dX4_whyNot_0 : decode cX4_whyNot 0 = .ok (.aload_n 0, 1) := by decide +kernel
theorem dX4_whyNot_1 : decode cX4_whyNot 1 = .ok (.aload_n 0, 1) := by decide +kernel
theorem dX4_whyNot_2 : decode cX4_whyNot 2 = .ok (.iload_n 2, 1) := by decide +kernel
theorem dX4_whyNot_3 : decode cX4_whyNot 3 = .ok (.invokevirtual 84, 3) := by decide +kernel
theorem dX4_whyNot_6 : decode cX4_whyNot 6 = .ok (.ifCond .eq 10, 3) := by decide +kernel
theorem dX4_whyNot_9 : decode cX4_whyNot 9 = .ok (.iload_n 3, 1) := by decide +kernel
theorem dX4_whyNot_10 : decode cX4_whyNot 10 = .ok (.invokestatic 87, 3) := by decide +kernel
theorem dX4_whyNot_13 : decode cX4_whyNot 13 = .ok (.ifCond .ne 7, 3) := by decide +kernel
theorem dX4_whyNot_16 : decode cX4_whyNot 16 = .ok (.iconst 1, 1) := by decide +kernel
theorem dX4_whyNot_17 : decode cX4_whyNot 17 = .ok (.goto 17, 3) := by decide +kernel
theorem dX4_whyNot_20 : decode cX4_whyNot 20 = .ok (.iload_n 1, 1) := by decide +kernel
theorem dX4_whyNot_21 : decode cX4_whyNot 21 = .ok (.iconst 0, 1) := by decide +kernel
theorem dX4_whyNot_22 : decode cX4_whyNot 22 = .ok (.iconst 4, 1) := by decide +kernel
theorem dX4_whyNot_23 : decode cX4_whyNot 23 = .ok (.invokestatic 32, 3) := by decide +kernel
theorem dX4_whyNot_26 : decode cX4_whyNot 26 = .ok (.ifCond .eq 7, 3) := by decide +kernel
theorem dX4_whyNot_29 : decode cX4_whyNot 29 = .ok (.iconst 0, 1) := by decide +kernel
theorem dX4_whyNot_30 : decode cX4_whyNot 30 = .ok (.goto 4, 3) := by decide +kernel
theorem dX4_whyNot_33 : decode cX4_whyNot 33 = .ok (.iconst 2, 1) := by decide +kernel
theorem dX4_whyNot_34 : decode cX4_whyNot 34 = .ok (.putfield 25, 3) := by decide +kernel
theorem dX4_whyNot_37 : decode cX4_whyNot 37 = .ok (.aload_n 0, 1) := by decide +kernel
theorem dX4_whyNot_38 : decode cX4_whyNot 38 = .ok (.getfield 25, 3) := by decide +kernel
theorem dX4_whyNot_41 : decode cX4_whyNot 41 = .ok (.ifCond .le 7, 3) := by decide +kernel
theorem dX4_whyNot_44 : decode cX4_whyNot 44 = .ok (.iconst 0, 1) := by decide +kernel
theorem dX4_whyNot_45 : decode cX4_whyNot 45 = .ok (.goto 10, 3) := by decide +kernel
theorem dX4_whyNot_48 : decode cX4_whyNot 48 = .ok (.aload_n 0, 1) := by decide +kernel
theorem dX4_whyNot_49 : decode cX4_whyNot 49 = .ok (.iload_n 1, 1) := by decide +kernel
theorem dX4_whyNot_50 : decode cX4_whyNot 50 = .ok (.iload_n 2, 1) := by decide +kernel
theorem dX4_whyNot_51 : decode cX4_whyNot 51 = .ok (.iload_n 3, 1) := by decide +kernel
theorem dX4_whyNot_52 : decode cX4_whyNot 52 = .ok (.invokevirtual 212, 3) := by decide +kernel
theorem dX4_whyNot_55 : decode cX4_whyNot 55 = .ok (.ireturn, 1) := by decide +kernel
theorem dX4_begunThen_0 : decode cX4_begunThen 0 = .ok (.aload_n 0, 1) := by decide +kernel
theorem dX4_begunThen_1 : decode cX4_begunThen 1 = .ok (.iload_n 1, 1) := by decide +kernel
theorem dX4_begunThen_2 : decode cX4_begunThen 2 = .ok (.invokevirtual 106, 3) := by decide +kernel
theorem dX4_begunThen_5 : decode cX4_begunThen 5 = .ok (.ifCond .le 5, 3) := by decide +kernel
theorem dX4_begunThen_8 : decode cX4_begunThen 8 = .ok (.iconst (-1), 1) := by decide +kernel
theorem dX4_begunThen_9 : decode cX4_begunThen 9 = .ok (.ireturn, 1) := by decide +kernel
theorem dX4_begunThen_10 : decode cX4_begunThen 10 = .ok (.aload_n 0, 1) := by decide +kernel
theorem dX4_begunThen_11 : decode cX4_begunThen 11 = .ok (.iload_n 1, 1) := by decide +kernel
theorem dX4_begunThen_12 : decode cX4_begunThen 12 = .ok (.invokevirtual 57, 3) := by decide +kernel
theorem dX4_begunThen_15 : decode cX4_begunThen 15 = .ok (.aload_n 0, 1) := by decide +kernel
theorem dX4_begunThen_16 : decode cX4_begunThen 16 = .ok (.iload_n 1, 1) := by decide +kernel
theorem dX4_begunThen_17 : decode cX4_begunThen 17 = .ok (.invokevirtual 60, 3) := by decide +kernel
theorem dX4_begunThen_20 : decode cX4_begunThen 20 = .ok (.isub, 1) := by decide +kernel
theorem dX4_begunThen_21 : decode cX4_begunThen 21 = .ok (.istore_n 3, 1) := by decide +kernel
theorem dX4_begunThen_22 : decode cX4_begunThen 22 = .ok (.iload_n 2, 1) := by decide +kernel
theorem dX4_begunThen_23 : decode cX4_begunThen 23 = .ok (.ifCond .ne 7, 3) := by decide +kernel
theorem dX4_begunThen_26 : decode cX4_begunThen 26 = .ok (.iload_n 3, 1) := by decide +kernel
theorem dX4_begunThen_27 : decode cX4_begunThen 27 = .ok (.goto 19, 3) := by decide +kernel
theorem dX4_begunThen_30 : decode cX4_begunThen 30 = .ok (.iload_n 2, 1) := by decide +kernel
theorem dX4_begunThen_31 : decode cX4_begunThen 31 = .ok (.iconst 1, 1) := by decide +kernel
theorem dX4_begunThen_32 : decode cX4_begunThen 32 = .ok (.if_icmp .ne 10, 3) := by decide +kernel
theorem dX4_begunThen_35 : decode cX4_begunThen 35 = .ok (.iload_n 3, 1) := by decide +kernel
theorem dX4_begunThen_36 : decode cX4_begunThen 36 = .ok (.invokestatic 65, 3) := by decide +kernel
theorem dX4_begunThen_39 : decode cX4_begunThen 39 = .ok (.goto 7, 3) := by decide +kernel
theorem dX4_begunThen_42 : decode cX4_begunThen 42 = .ok (.iload_n 3, 1) := by decide +kernel
theorem dX4_begunThen_43 : decode cX4_begunThen 43 = .ok (.invokestatic 103, 3) := by decide +kernel
theorem dX4_begunThen_46 : decode cX4_begunThen 46 = .ok (.ireturn, 1) := by decide +kernel
theorem dX4_ifBegun_0 : decode cX4_ifBegun 0 = .ok (.aload_n 0, 1) := by decide +kernel
theorem dX4_ifBegun_1 : decode cX4_ifBegun 1 = .ok (.aload_n 0, 1) := by decide +kernel
theorem dX4_ifBegun_2 : decode cX4_ifBegun 2 = .ok (.iload_n 1, 1) := by decide +kernel
theorem dX4_ifBegun_3 : decode cX4_ifBegun 3 = .ok (.invokevirtual 84, 3) := by decide +kernel
theorem dX4_ifBegun_6 : decode cX4_ifBegun 6 = .ok (.ifCond .ne 7, 3) := by decide +kernel
theorem dX4_ifBegun_9 : decode cX4_ifBegun 9 = .ok (.iconst 1, 1) := by decide +kernel
theorem dX4_ifBegun_10 : decode cX4_ifBegun 10 = .ok (.goto 17, 3) := by decide +kernel
theorem dX4_ifBegun_13 : decode cX4_ifBegun 13 = .ok (.iload_n 2, 1) := by decide +kernel
theorem dX4_ifBegun_14 : decode cX4_ifBegun 14 = .ok (.iconst 0, 1) := by decide +kernel
theorem dX4_ifBegun_15 : decode cX4_ifBegun 15 = .ok (.iconst 2, 1) := by decide +kernel
theorem dX4_ifBegun_16 : decode cX4_ifBegun 16 = .ok (.invokestatic 32, 3) := by decide +kernel
theorem dX4_ifBegun_19 : decode cX4_ifBegun 19 = .ok (.ifCond .eq 7, 3) := by decide +kernel
theorem dX4_ifBegun_22 : decode cX4_ifBegun 22 = .ok (.iconst 0, 1) := by decide +kernel
theorem dX4_ifBegun_23 : decode cX4_ifBegun 23 = .ok (.goto 4, 3) := by decide +kernel
theorem dX4_ifBegun_26 : decode cX4_ifBegun 26 = .ok (.iconst 2, 1) := by decide +kernel
theorem dX4_ifBegun_27 : decode cX4_ifBegun 27 = .ok (.putfield 25, 3) := by decide +kernel
theorem dX4_ifBegun_30 : decode cX4_ifBegun 30 = .ok (.aload_n 0, 1) := by decide +kernel
theorem dX4_ifBegun_31 : decode cX4_ifBegun 31 = .ok (.getfield 25, 3) := by decide +kernel
theorem dX4_ifBegun_34 : decode cX4_ifBegun 34 = .ok (.ifCond .le 7, 3) := by decide +kernel
theorem dX4_ifBegun_37 : decode cX4_ifBegun 37 = .ok (.iconst 0, 1) := by decide +kernel
theorem dX4_ifBegun_38 : decode cX4_ifBegun 38 = .ok (.goto 9, 3) := by decide +kernel
theorem dX4_ifBegun_41 : decode cX4_ifBegun 41 = .ok (.aload_n 0, 1) := by decide +kernel
theorem dX4_ifBegun_42 : decode cX4_ifBegun 42 = .ok (.iload_n 1, 1) := by decide +kernel
theorem dX4_ifBegun_43 : decode cX4_ifBegun 43 = .ok (.iload_n 2, 1) := by decide +kernel
theorem dX4_ifBegun_44 : decode cX4_ifBegun 44 = .ok (.invokevirtual 215, 3) := by decide +kernel
theorem dX4_ifBegun_47 : decode cX4_ifBegun 47 = .ok (.ireturn, 1) := by decide +kernel
theorem dX4_breaksNow_0 : decode cX4_breaksNow 0 = .ok (.aload_n 0, 1) := by decide +kernel
theorem dX4_breaksNow_1 : decode cX4_breaksNow 1 = .ok (.iload_n 1, 1) := by decide +kernel
theorem dX4_breaksNow_2 : decode cX4_breaksNow 2 = .ok (.invokevirtual 135, 3) := by decide +kernel
theorem dX4_breaksNow_5 : decode cX4_breaksNow 5 = .ok (.ifCond .ne 5, 3) := by decide +kernel
theorem dX4_breaksNow_8 : decode cX4_breaksNow 8 = .ok (.iconst (-1), 1) := by decide +kernel
theorem dX4_breaksNow_9 : decode cX4_breaksNow 9 = .ok (.ireturn, 1) := by decide +kernel
theorem dX4_breaksNow_10 : decode cX4_breaksNow 10 = .ok (.aload_n 0, 1) := by decide +kernel
theorem dX4_breaksNow_11 : decode cX4_breaksNow 11 = .ok (.iload_n 1, 1) := by decide +kernel
theorem dX4_breaksNow_12 : decode cX4_breaksNow 12 = .ok (.invokevirtual 132, 3) := by decide +kernel
theorem dX4_breaksNow_15 : decode cX4_breaksNow 15 = .ok (.iconst 1, 1) := by decide +kernel
theorem dX4_breaksNow_16 : decode cX4_breaksNow 16 = .ok (.iadd, 1) := by decide +kernel
theorem dX4_breaksNow_17 : decode cX4_breaksNow 17 = .ok (.aload_n 0, 1) := by decide +kernel
theorem dX4_breaksNow_18 : decode cX4_breaksNow 18 = .ok (.getfield 7, 3) := by decide +kernel
theorem dX4_breaksNow_21 : decode cX4_breaksNow 21 = .ok (.iconst 4, 1) := by decide +kernel
theorem dX4_breaksNow_22 : decode cX4_breaksNow 22 = .ok (.iaload, 1) := by decide +kernel
theorem dX4_breaksNow_23 : decode cX4_breaksNow 23 = .ok (.isub, 1) := by decide +kernel
theorem dX4_breaksNow_24 : decode cX4_breaksNow 24 = .ok (.istore_n 2, 1) := by decide +kernel
theorem dX4_breaksNow_25 : decode cX4_breaksNow 25 = .ok (.iload_n 2, 1) := by decide +kernel
theorem dX4_breaksNow_26 : decode cX4_breaksNow 26 = .ok (.iconst 1, 1) := by decide +kernel
theorem dX4_breaksNow_27 : decode cX4_breaksNow 27 = .ok (.if_icmp .ge 7, 3) := by decide +kernel
theorem dX4_breaksNow_30 : decode cX4_breaksNow 30 = .ok (.iconst 1, 1) := by decide +kernel
theorem dX4_breaksNow_31 : decode cX4_breaksNow 31 = .ok (.goto 4, 3) := by decide +kernel
theorem dX4_breaksNow_34 : decode cX4_breaksNow 34 = .ok (.iload_n 2, 1) := by decide +kernel
theorem dX4_breaksNow_35 : decode cX4_breaksNow 35 = .ok (.ireturn, 1) := by decide +kernel
theorem dX4_breaksIn_0 : decode cX4_breaksIn 0 = .ok (.aload_n 0, 1) := by decide +kernel
theorem dX4_breaksIn_1 : decode cX4_breaksIn 1 = .ok (.aload_n 0, 1) := by decide +kernel
theorem dX4_breaksIn_2 : decode cX4_breaksIn 2 = .ok (.iload_n 1, 1) := by decide +kernel
theorem dX4_breaksIn_3 : decode cX4_breaksIn 3 = .ok (.invokevirtual 84, 3) := by decide +kernel
theorem dX4_breaksIn_6 : decode cX4_breaksIn 6 = .ok (.ifCond .eq 7, 3) := by decide +kernel
theorem dX4_breaksIn_9 : decode cX4_breaksIn 9 = .ok (.iconst 0, 1) := by decide +kernel
theorem dX4_breaksIn_10 : decode cX4_breaksIn 10 = .ok (.goto 4, 3) := by decide +kernel
theorem dX4_breaksIn_13 : decode cX4_breaksIn 13 = .ok (.iconst 1, 1) := by decide +kernel
theorem dX4_breaksIn_14 : decode cX4_breaksIn 14 = .ok (.putfield 25, 3) := by decide +kernel
theorem dX4_breaksIn_17 : decode cX4_breaksIn 17 = .ok (.aload_n 0, 1) := by decide +kernel
theorem dX4_breaksIn_18 : decode cX4_breaksIn 18 = .ok (.getfield 25, 3) := by decide +kernel
theorem dX4_breaksIn_21 : decode cX4_breaksIn 21 = .ok (.ifCond .le 7, 3) := by decide +kernel
theorem dX4_breaksIn_24 : decode cX4_breaksIn 24 = .ok (.iconst 0, 1) := by decide +kernel
theorem dX4_breaksIn_25 : decode cX4_breaksIn 25 = .ok (.goto 8, 3) := by decide +kernel
theorem dX4_breaksIn_28 : decode cX4_breaksIn 28 = .ok (.aload_n 0, 1) := by decide +kernel
theorem dX4_breaksIn_29 : decode cX4_breaksIn 29 = .ok (.iload_n 1, 1) := by decide +kernel
theorem dX4_breaksIn_30 : decode cX4_breaksIn 30 = .ok (.invokevirtual 218, 3) := by decide +kernel
theorem dX4_breaksIn_33 : decode cX4_breaksIn 33 = .ok (.ireturn, 1) := by decide +kernel
theorem dX4_keep_0 : decode cX4_keep 0 = .ok (.iconst 0, 1) := by decide +kernel
theorem dX4_keep_1 : decode cX4_keep 1 = .ok (.istore_n 1, 1) := by decide +kernel
theorem dX4_keep_2 : decode cX4_keep 2 = .ok (.iload_n 1, 1) := by decide +kernel
theorem dX4_keep_3 : decode cX4_keep 3 = .ok (.sipush 232, 3) := by decide +kernel
theorem dX4_keep_6 : decode cX4_keep 6 = .ok (.if_icmp .ge 21, 3) := by decide +kernel
theorem dX4_keep_9 : decode cX4_keep 9 = .ok (.aload_n 0, 1) := by decide +kernel
theorem dX4_keep_10 : decode cX4_keep 10 = .ok (.getfield 22, 3) := by decide +kernel
theorem dX4_keep_13 : decode cX4_keep 13 = .ok (.iload_n 1, 1) := by decide +kernel
theorem dX4_keep_14 : decode cX4_keep 14 = .ok (.aload_n 0, 1) := by decide +kernel
theorem dX4_keep_15 : decode cX4_keep 15 = .ok (.getfield 7, 3) := by decide +kernel
theorem dX4_keep_18 : decode cX4_keep 18 = .ok (.iload_n 1, 1) := by decide +kernel
theorem dX4_keep_19 : decode cX4_keep 19 = .ok (.iaload, 1) := by decide +kernel
theorem dX4_keep_20 : decode cX4_keep 20 = .ok (.iastore, 1) := by decide +kernel
theorem dX4_keep_21 : decode cX4_keep 21 = .ok (.iinc 1 1, 3) := by decide +kernel
theorem dX4_keep_24 : decode cX4_keep 24 = .ok (.goto (-22), 3) := by decide +kernel
theorem dX4_keep_27 : decode cX4_keep 27 = .ok (.return_, 1) := by decide +kernel
theorem dX4_layBack_0 : decode cX4_layBack 0 = .ok (.iconst 0, 1) := by decide +kernel
theorem dX4_layBack_1 : decode cX4_layBack 1 = .ok (.istore_n 1, 1) := by decide +kernel
theorem dX4_layBack_2 : decode cX4_layBack 2 = .ok (.iload_n 1, 1) := by decide +kernel
theorem dX4_layBack_3 : decode cX4_layBack 3 = .ok (.sipush 232, 3) := by decide +kernel
theorem dX4_layBack_6 : decode cX4_layBack 6 = .ok (.if_icmp .ge 21, 3) := by decide +kernel
theorem dX4_layBack_9 : decode cX4_layBack 9 = .ok (.aload_n 0, 1) := by decide +kernel
theorem dX4_layBack_10 : decode cX4_layBack 10 = .ok (.getfield 7, 3) := by decide +kernel
theorem dX4_layBack_13 : decode cX4_layBack 13 = .ok (.iload_n 1, 1) := by decide +kernel
theorem dX4_layBack_14 : decode cX4_layBack 14 = .ok (.aload_n 0, 1) := by decide +kernel
theorem dX4_layBack_15 : decode cX4_layBack 15 = .ok (.getfield 22, 3) := by decide +kernel
theorem dX4_layBack_18 : decode cX4_layBack 18 = .ok (.iload_n 1, 1) := by decide +kernel
theorem dX4_layBack_19 : decode cX4_layBack 19 = .ok (.iaload, 1) := by decide +kernel
theorem dX4_layBack_20 : decode cX4_layBack 20 = .ok (.iastore, 1) := by decide +kernel
theorem dX4_layBack_21 : decode cX4_layBack 21 = .ok (.iinc 1 1, 3) := by decide +kernel
theorem dX4_layBack_24 : decode cX4_layBack 24 = .ok (.goto (-22), 3) := by decide +kernel
theorem dX4_layBack_27 : decode cX4_layBack 27 = .ok (.return_, 1) := by decide +kernel
theorem dX4_surchargesThen_0 : decode cX4_surchargesThen 0 = .ok (.aload_n 0, 1) := by decide +kernel
theorem dX4_surchargesThen_1 : decode cX4_surchargesThen 1 = .ok (.invokevirtual 221, 3) := by decide +kernel
theorem dX4_surchargesThen_4 : decode cX4_surchargesThen 4 = .ok (.aload_n 0, 1) := by decide +kernel
theorem dX4_surchargesThen_5 : decode cX4_surchargesThen 5 = .ok (.iload_n 1, 1) := by decide +kernel
theorem dX4_surchargesThen_6 : decode cX4_surchargesThen 6 = .ok (.invokevirtual 145, 3) := by decide +kernel
theorem dX4_surchargesThen_9 : decode cX4_surchargesThen 9 = .ok (.istore_n 2, 1) := by decide +kernel
theorem dX4_surchargesThen_10 : decode cX4_surchargesThen 10 = .ok (.aload_n 0, 1) := by decide +kernel
theorem dX4_surchargesThen_11 : decode cX4_surchargesThen 11 = .ok (.invokevirtual 224, 3) := by decide +kernel
theorem dX4_surchargesThen_14 : decode cX4_surchargesThen 14 = .ok (.iload_n 2, 1) := by decide +kernel
theorem dX4_surchargesThen_15 : decode cX4_surchargesThen 15 = .ok (.ireturn, 1) := by decide +kernel
theorem dX4_surchargesIn_0 : decode cX4_surchargesIn 0 = .ok (.aload_n 0, 1) := by decide +kernel
theorem dX4_surchargesIn_1 : decode cX4_surchargesIn 1 = .ok (.iload_n 1, 1) := by decide +kernel
theorem dX4_surchargesIn_2 : decode cX4_surchargesIn 2 = .ok (.iconst 0, 1) := by decide +kernel
theorem dX4_surchargesIn_3 : decode cX4_surchargesIn 3 = .ok (.sipush 500, 3) := by decide +kernel
theorem dX4_surchargesIn_6 : decode cX4_surchargesIn 6 = .ok (.invokestatic 32, 3) := by decide +kernel
theorem dX4_surchargesIn_9 : decode cX4_surchargesIn 9 = .ok (.ifCond .eq 7, 3) := by decide +kernel
theorem dX4_surchargesIn_12 : decode cX4_surchargesIn 12 = .ok (.iconst 0, 1) := by decide +kernel
theorem dX4_surchargesIn_13 : decode cX4_surchargesIn 13 = .ok (.goto 4, 3) := by decide +kernel
theorem dX4_surchargesIn_16 : decode cX4_surchargesIn 16 = .ok (.iconst 1, 1) := by decide +kernel
theorem dX4_surchargesIn_17 : decode cX4_surchargesIn 17 = .ok (.putfield 25, 3) := by decide +kernel
theorem dX4_surchargesIn_20 : decode cX4_surchargesIn 20 = .ok (.aload_n 0, 1) := by decide +kernel
theorem dX4_surchargesIn_21 : decode cX4_surchargesIn 21 = .ok (.getfield 25, 3) := by decide +kernel
theorem dX4_surchargesIn_24 : decode cX4_surchargesIn 24 = .ok (.ifCond .le 7, 3) := by decide +kernel
theorem dX4_surchargesIn_27 : decode cX4_surchargesIn 27 = .ok (.iconst 0, 1) := by decide +kernel
theorem dX4_surchargesIn_28 : decode cX4_surchargesIn 28 = .ok (.goto 8, 3) := by decide +kernel
theorem dX4_surchargesIn_31 : decode cX4_surchargesIn 31 = .ok (.aload_n 0, 1) := by decide +kernel
theorem dX4_surchargesIn_32 : decode cX4_surchargesIn 32 = .ok (.iload_n 1, 1) := by decide +kernel
theorem dX4_surchargesIn_33 : decode cX4_surchargesIn 33 = .ok (.invokevirtual 227, 3) := by decide +kernel
theorem dX4_surchargesIn_36 : decode cX4_surchargesIn 36 = .ok (.ireturn, 1) := by decide +kernel
theorem dX4_urgentNow_0 : decode cX4_urgentNow 0 = .ok (.iconst (-1), 1) := by decide +kernel
theorem dX4_urgentNow_1 : decode cX4_urgentNow 1 = .ok (.istore_n 1, 1) := by decide +kernel
theorem dX4_urgentNow_2 : decode cX4_urgentNow 2 = .ok (.iconst 0, 1) := by decide +kernel
theorem dX4_urgentNow_3 : decode cX4_urgentNow 3 = .ok (.istore_n 2, 1) := by decide +kernel
theorem dX4_urgentNow_4 : decode cX4_urgentNow 4 = .ok (.iload_n 2, 1) := by decide +kernel
theorem dX4_urgentNow_5 : decode cX4_urgentNow 5 = .ok (.aload_n 0, 1) := by decide +kernel
theorem dX4_urgentNow_6 : decode cX4_urgentNow 6 = .ok (.getfield 7, 3) := by decide +kernel
theorem dX4_urgentNow_9 : decode cX4_urgentNow 9 = .ok (.bipush 9, 2) := by decide +kernel
theorem dX4_urgentNow_11 : decode cX4_urgentNow 11 = .ok (.iaload, 1) := by decide +kernel
theorem dX4_urgentNow_12 : decode cX4_urgentNow 12 = .ok (.if_icmp .ge 65, 3) := by decide +kernel
theorem dX4_urgentNow_15 : decode cX4_urgentNow 15 = .ok (.aload_n 0, 1) := by decide +kernel
theorem dX4_urgentNow_16 : decode cX4_urgentNow 16 = .ok (.iload_n 2, 1) := by decide +kernel
theorem dX4_urgentNow_17 : decode cX4_urgentNow 17 = .ok (.invokevirtual 135, 3) := by decide +kernel
theorem dX4_urgentNow_20 : decode cX4_urgentNow 20 = .ok (.ifCond .eq 51, 3) := by decide +kernel
theorem dX4_urgentNow_23 : decode cX4_urgentNow 23 = .ok (.iload_n 1, 1) := by decide +kernel
theorem dX4_urgentNow_24 : decode cX4_urgentNow 24 = .ok (.iconst (-1), 1) := by decide +kernel
theorem dX4_urgentNow_25 : decode cX4_urgentNow 25 = .ok (.if_icmp .ne 7, 3) := by decide +kernel
theorem dX4_urgentNow_28 : decode cX4_urgentNow 28 = .ok (.iconst 1, 1) := by decide +kernel
theorem dX4_urgentNow_29 : decode cX4_urgentNow 29 = .ok (.goto 14, 3) := by decide +kernel
theorem dX4_urgentNow_32 : decode cX4_urgentNow 32 = .ok (.aload_n 0, 1) := by decide +kernel
theorem dX4_urgentNow_33 : decode cX4_urgentNow 33 = .ok (.iload_n 1, 1) := by decide +kernel
theorem dX4_urgentNow_34 : decode cX4_urgentNow 34 = .ok (.invokevirtual 218, 3) := by decide +kernel
theorem dX4_urgentNow_37 : decode cX4_urgentNow 37 = .ok (.aload_n 0, 1) := by decide +kernel
theorem dX4_urgentNow_38 : decode cX4_urgentNow 38 = .ok (.iload_n 2, 1) := by decide +kernel
theorem dX4_urgentNow_39 : decode cX4_urgentNow 39 = .ok (.invokevirtual 218, 3) := by decide +kernel
theorem dX4_urgentNow_42 : decode cX4_urgentNow 42 = .ok (.isub, 1) := by decide +kernel
theorem dX4_urgentNow_43 : decode cX4_urgentNow 43 = .ok (.istore_n 3, 1) := by decide +kernel
theorem dX4_urgentNow_44 : decode cX4_urgentNow 44 = .ok (.iload_n 3, 1) := by decide +kernel
theorem dX4_urgentNow_45 : decode cX4_urgentNow 45 = .ok (.ifCond .gt 20, 3) := by decide +kernel
theorem dX4_urgentNow_48 : decode cX4_urgentNow 48 = .ok (.iload_n 3, 1) := by decide +kernel
theorem dX4_urgentNow_49 : decode cX4_urgentNow 49 = .ok (.ifCond .ne 20, 3) := by decide +kernel
theorem dX4_urgentNow_52 : decode cX4_urgentNow 52 = .ok (.aload_n 0, 1) := by decide +kernel
theorem dX4_urgentNow_53 : decode cX4_urgentNow 53 = .ok (.iload_n 2, 1) := by decide +kernel
theorem dX4_urgentNow_54 : decode cX4_urgentNow 54 = .ok (.invokevirtual 53, 3) := by decide +kernel
theorem dX4_urgentNow_57 : decode cX4_urgentNow 57 = .ok (.aload_n 0, 1) := by decide +kernel
theorem dX4_urgentNow_58 : decode cX4_urgentNow 58 = .ok (.iload_n 1, 1) := by decide +kernel
theorem dX4_urgentNow_59 : decode cX4_urgentNow 59 = .ok (.invokevirtual 53, 3) := by decide +kernel
theorem dX4_urgentNow_62 : decode cX4_urgentNow 62 = .ok (.if_icmp .le 7, 3) := by decide +kernel
theorem dX4_urgentNow_65 : decode cX4_urgentNow 65 = .ok (.iload_n 2, 1) := by decide +kernel
theorem dX4_urgentNow_66 : decode cX4_urgentNow 66 = .ok (.goto 4, 3) := by decide +kernel
theorem dX4_urgentNow_69 : decode cX4_urgentNow 69 = .ok (.iload_n 1, 1) := by decide +kernel
theorem dX4_urgentNow_70 : decode cX4_urgentNow 70 = .ok (.istore_n 1, 1) := by decide +kernel
theorem dX4_urgentNow_71 : decode cX4_urgentNow 71 = .ok (.iinc 2 1, 3) := by decide +kernel
theorem dX4_urgentNow_74 : decode cX4_urgentNow 74 = .ok (.goto (-70), 3) := by decide +kernel
theorem dX4_urgentNow_77 : decode cX4_urgentNow 77 = .ok (.iload_n 1, 1) := by decide +kernel
theorem dX4_urgentNow_78 : decode cX4_urgentNow 78 = .ok (.ireturn, 1) := by decide +kernel
theorem dX4_mostUrgent_0 : decode cX4_mostUrgent 0 = .ok (.aload_n 0, 1) := by decide +kernel
theorem dX4_mostUrgent_1 : decode cX4_mostUrgent 1 = .ok (.iconst 0, 1) := by decide +kernel
theorem dX4_mostUrgent_2 : decode cX4_mostUrgent 2 = .ok (.putfield 25, 3) := by decide +kernel
theorem dX4_mostUrgent_5 : decode cX4_mostUrgent 5 = .ok (.aload_n 0, 1) := by decide +kernel
theorem dX4_mostUrgent_6 : decode cX4_mostUrgent 6 = .ok (.invokevirtual 230, 3) := by decide +kernel
theorem dX4_mostUrgent_9 : decode cX4_mostUrgent 9 = .ok (.ireturn, 1) := by decide +kernel
theorem dX4_dueThen_0 : decode cX4_dueThen 0 = .ok (.aload_n 0, 1) := by decide +kernel
theorem dX4_dueThen_1 : decode cX4_dueThen 1 = .ok (.invokevirtual 221, 3) := by decide +kernel
theorem dX4_dueThen_4 : decode cX4_dueThen 4 = .ok (.aload_n 0, 1) := by decide +kernel
theorem dX4_dueThen_5 : decode cX4_dueThen 5 = .ok (.iload_n 2, 1) := by decide +kernel
theorem dX4_dueThen_6 : decode cX4_dueThen 6 = .ok (.invokevirtual 145, 3) := by decide +kernel
theorem dX4_dueThen_9 : decode cX4_dueThen 9 = .ok (.istore_n 3, 1) := by decide +kernel
theorem dX4_dueThen_10 : decode cX4_dueThen 10 = .ok (.aload_n 0, 1) := by decide +kernel
theorem dX4_dueThen_11 : decode cX4_dueThen 11 = .ok (.iload_n 1, 1) := by decide +kernel
theorem dX4_dueThen_12 : decode cX4_dueThen 12 = .ok (.invokevirtual 188, 3) := by decide +kernel
theorem dX4_dueThen_15 : decode cX4_dueThen 15 = .ok (.istore 4, 2) := by decide +kernel
theorem dX4_dueThen_17 : decode cX4_dueThen 17 = .ok (.aload_n 0, 1) := by decide +kernel
theorem dX4_dueThen_18 : decode cX4_dueThen 18 = .ok (.invokevirtual 224, 3) := by decide +kernel
theorem dX4_dueThen_21 : decode cX4_dueThen 21 = .ok (.iload 4, 2) := by decide +kernel
theorem dX4_dueThen_23 : decode cX4_dueThen 23 = .ok (.ireturn, 1) := by decide +kernel
theorem dX4_dueIn_0 : decode cX4_dueIn 0 = .ok (.aload_n 0, 1) := by decide +kernel
theorem dX4_dueIn_1 : decode cX4_dueIn 1 = .ok (.aload_n 0, 1) := by decide +kernel
theorem dX4_dueIn_2 : decode cX4_dueIn 2 = .ok (.iload_n 1, 1) := by decide +kernel
theorem dX4_dueIn_3 : decode cX4_dueIn 3 = .ok (.invokevirtual 84, 3) := by decide +kernel
theorem dX4_dueIn_6 : decode cX4_dueIn 6 = .ok (.ifCond .ne 7, 3) := by decide +kernel
theorem dX4_dueIn_9 : decode cX4_dueIn 9 = .ok (.iconst 1, 1) := by decide +kernel
theorem dX4_dueIn_10 : decode cX4_dueIn 10 = .ok (.goto 19, 3) := by decide +kernel
theorem dX4_dueIn_13 : decode cX4_dueIn 13 = .ok (.iload_n 2, 1) := by decide +kernel
theorem dX4_dueIn_14 : decode cX4_dueIn 14 = .ok (.iconst 0, 1) := by decide +kernel
theorem dX4_dueIn_15 : decode cX4_dueIn 15 = .ok (.sipush 500, 3) := by decide +kernel
theorem dX4_dueIn_18 : decode cX4_dueIn 18 = .ok (.invokestatic 32, 3) := by decide +kernel
theorem dX4_dueIn_21 : decode cX4_dueIn 21 = .ok (.ifCond .eq 7, 3) := by decide +kernel
theorem dX4_dueIn_24 : decode cX4_dueIn 24 = .ok (.iconst 0, 1) := by decide +kernel
theorem dX4_dueIn_25 : decode cX4_dueIn 25 = .ok (.goto 4, 3) := by decide +kernel
theorem dX4_dueIn_28 : decode cX4_dueIn 28 = .ok (.iconst 2, 1) := by decide +kernel
theorem dX4_dueIn_29 : decode cX4_dueIn 29 = .ok (.putfield 25, 3) := by decide +kernel
theorem dX4_dueIn_32 : decode cX4_dueIn 32 = .ok (.aload_n 0, 1) := by decide +kernel
theorem dX4_dueIn_33 : decode cX4_dueIn 33 = .ok (.getfield 25, 3) := by decide +kernel
theorem dX4_dueIn_36 : decode cX4_dueIn 36 = .ok (.ifCond .le 7, 3) := by decide +kernel
theorem dX4_dueIn_39 : decode cX4_dueIn 39 = .ok (.iconst 0, 1) := by decide +kernel
theorem dX4_dueIn_40 : decode cX4_dueIn 40 = .ok (.goto 9, 3) := by decide +kernel
theorem dX4_dueIn_43 : decode cX4_dueIn 43 = .ok (.aload_n 0, 1) := by decide +kernel
theorem dX4_dueIn_44 : decode cX4_dueIn 44 = .ok (.iload_n 1, 1) := by decide +kernel
theorem dX4_dueIn_45 : decode cX4_dueIn 45 = .ok (.iload_n 2, 1) := by decide +kernel
theorem dX4_dueIn_46 : decode cX4_dueIn 46 = .ok (.invokevirtual 233, 3) := by decide +kernel
theorem dX4_dueIn_49 : decode cX4_dueIn 49 = .ok (.ireturn, 1) := by decide +kernel
theorem dX4_share_0 : decode cX4_share 0 = .ok (.aload_n 0, 1) := by decide +kernel
theorem dX4_share_1 : decode cX4_share 1 = .ok (.iconst 5, 1) := by decide +kernel
theorem dX4_share_2 : decode cX4_share 2 = .ok (.invokevirtual 206, 3) := by decide +kernel
theorem dX4_share_5 : decode cX4_share 5 = .ok (.aload_n 0, 1) := by decide +kernel
theorem dX4_share_6 : decode cX4_share 6 = .ok (.bipush 6, 2) := by decide +kernel
theorem dX4_share_8 : decode cX4_share 8 = .ok (.invokevirtual 206, 3) := by decide +kernel
theorem dX4_share_11 : decode cX4_share 11 = .ok (.iadd, 1) := by decide +kernel
theorem dX4_share_12 : decode cX4_share 12 = .ok (.istore_n 1, 1) := by decide +kernel
theorem dX4_share_13 : decode cX4_share 13 = .ok (.iload_n 1, 1) := by decide +kernel
theorem dX4_share_14 : decode cX4_share 14 = .ok (.aload_n 0, 1) := by decide +kernel
theorem dX4_share_15 : decode cX4_share 15 = .ok (.iconst 3, 1) := by decide +kernel
theorem dX4_share_16 : decode cX4_share 16 = .ok (.invokevirtual 206, 3) := by decide +kernel
theorem dX4_share_19 : decode cX4_share 19 = .ok (.iadd, 1) := by decide +kernel
theorem dX4_share_20 : decode cX4_share 20 = .ok (.istore_n 2, 1) := by decide +kernel
theorem dX4_share_21 : decode cX4_share 21 = .ok (.iload_n 2, 1) := by decide +kernel
theorem dX4_share_22 : decode cX4_share 22 = .ok (.ifCond .ne 7, 3) := by decide +kernel
theorem dX4_share_25 : decode cX4_share 25 = .ok (.dconst 1, 1) := by decide +kernel
theorem dX4_share_26 : decode cX4_share 26 = .ok (.goto 8, 3) := by decide +kernel
theorem dX4_share_29 : decode cX4_share 29 = .ok (.iload_n 1, 1) := by decide +kernel
theorem dX4_share_30 : decode cX4_share 30 = .ok (.i2d, 1) := by decide +kernel
theorem dX4_share_31 : decode cX4_share 31 = .ok (.iload_n 2, 1) := by decide +kernel
theorem dX4_share_32 : decode cX4_share 32 = .ok (.i2d, 1) := by decide +kernel
theorem dX4_share_33 : decode cX4_share 33 = .ok (.ddiv, 1) := by decide +kernel
theorem dX4_share_34 : decode cX4_share 34 = .ok (.dreturn, 1) := by decide +kernel
theorem dX4_settledShare_0 : decode cX4_settledShare 0 = .ok (.aload_n 0, 1) := by decide +kernel
theorem dX4_settledShare_1 : decode cX4_settledShare 1 = .ok (.iconst 0, 1) := by decide +kernel
theorem dX4_settledShare_2 : decode cX4_settledShare 2 = .ok (.putfield 25, 3) := by decide +kernel
theorem dX4_settledShare_5 : decode cX4_settledShare 5 = .ok (.aload_n 0, 1) := by decide +kernel
theorem dX4_settledShare_6 : decode cX4_settledShare 6 = .ok (.invokevirtual 236, 3) := by decide +kernel
theorem dX4_settledShare_9 : decode cX4_settledShare 9 = .ok (.dreturn, 1) := by decide +kernel
theorem dX4_mix_0 : decode cX4_mix 0 = .ok (.aload_n 0, 1) := by decide +kernel
theorem dX4_mix_1 : decode cX4_mix 1 = .ok (.ldc2_w 240, 3) := by decide +kernel
theorem dX4_mix_4 : decode cX4_mix 4 = .ok (.aload_n 0, 1) := by decide +kernel
theorem dX4_mix_5 : decode cX4_mix 5 = .ok (.getfield 242, 3) := by decide +kernel
theorem dX4_mix_8 : decode cX4_mix 8 = .ok (.lmul, 1) := by decide +kernel
theorem dX4_mix_9 : decode cX4_mix 9 = .ok (.lload_n 1, 1) := by decide +kernel
theorem dX4_mix_10 : decode cX4_mix 10 = .ok (.ladd, 1) := by decide +kernel
theorem dX4_mix_11 : decode cX4_mix 11 = .ok (.putfield 242, 3) := by decide +kernel
theorem dX4_mix_14 : decode cX4_mix 14 = .ok (.return_, 1) := by decide +kernel
theorem dX4_mixPhase_0 : decode cX4_mixPhase 0 = .ok (.iconst 0, 1) := by decide +kernel
theorem dX4_mixPhase_1 : decode cX4_mixPhase 1 = .ok (.istore_n 2, 1) := by decide +kernel
theorem dX4_mixPhase_2 : decode cX4_mixPhase 2 = .ok (.iload_n 2, 1) := by decide +kernel
theorem dX4_mixPhase_3 : decode cX4_mixPhase 3 = .ok (.bipush 14, 2) := by decide +kernel
theorem dX4_mixPhase_5 : decode cX4_mixPhase 5 = .ok (.if_icmp .ge 20, 3) := by decide +kernel
theorem dX4_mixPhase_8 : decode cX4_mixPhase 8 = .ok (.aload_n 0, 1) := by decide +kernel
theorem dX4_mixPhase_9 : decode cX4_mixPhase 9 = .ok (.aload_n 0, 1) := by decide +kernel
theorem dX4_mixPhase_10 : decode cX4_mixPhase 10 = .ok (.iload_n 1, 1) := by decide +kernel
theorem dX4_mixPhase_11 : decode cX4_mixPhase 11 = .ok (.iload_n 2, 1) := by decide +kernel
theorem dX4_mixPhase_12 : decode cX4_mixPhase 12 = .ok (.invokevirtual 194, 3) := by decide +kernel
theorem dX4_mixPhase_15 : decode cX4_mixPhase 15 = .ok (.i2l, 1) := by decide +kernel
theorem dX4_mixPhase_16 : decode cX4_mixPhase 16 = .ok (.invokevirtual 246, 3) := by decide +kernel
theorem dX4_mixPhase_19 : decode cX4_mixPhase 19 = .ok (.iinc 2 1, 3) := by decide +kernel
theorem dX4_mixPhase_22 : decode cX4_mixPhase 22 = .ok (.goto (-20), 3) := by decide +kernel
theorem dX4_mixPhase_25 : decode cX4_mixPhase 25 = .ok (.iconst 0, 1) := by decide +kernel
theorem dX4_mixPhase_26 : decode cX4_mixPhase 26 = .ok (.istore_n 2, 1) := by decide +kernel
theorem dX4_mixPhase_27 : decode cX4_mixPhase 27 = .ok (.iload_n 2, 1) := by decide +kernel
theorem dX4_mixPhase_28 : decode cX4_mixPhase 28 = .ok (.iconst 4, 1) := by decide +kernel
theorem dX4_mixPhase_29 : decode cX4_mixPhase 29 = .ok (.if_icmp .ge 45, 3) := by decide +kernel
theorem dX4_mixPhase_32 : decode cX4_mixPhase 32 = .ok (.iconst 0, 1) := by decide +kernel
theorem dX4_mixPhase_33 : decode cX4_mixPhase 33 = .ok (.istore_n 3, 1) := by decide +kernel
theorem dX4_mixPhase_34 : decode cX4_mixPhase 34 = .ok (.iload_n 3, 1) := by decide +kernel
theorem dX4_mixPhase_35 : decode cX4_mixPhase 35 = .ok (.iconst 5, 1) := by decide +kernel
theorem dX4_mixPhase_36 : decode cX4_mixPhase 36 = .ok (.if_icmp .ge 21, 3) := by decide +kernel
theorem dX4_mixPhase_39 : decode cX4_mixPhase 39 = .ok (.aload_n 0, 1) := by decide +kernel
theorem dX4_mixPhase_40 : decode cX4_mixPhase 40 = .ok (.aload_n 0, 1) := by decide +kernel
theorem dX4_mixPhase_41 : decode cX4_mixPhase 41 = .ok (.iload_n 1, 1) := by decide +kernel
theorem dX4_mixPhase_42 : decode cX4_mixPhase 42 = .ok (.iload_n 2, 1) := by decide +kernel
theorem dX4_mixPhase_43 : decode cX4_mixPhase 43 = .ok (.iload_n 3, 1) := by decide +kernel
theorem dX4_mixPhase_44 : decode cX4_mixPhase 44 = .ok (.invokevirtual 197, 3) := by decide +kernel
theorem dX4_mixPhase_47 : decode cX4_mixPhase 47 = .ok (.i2l, 1) := by decide +kernel
theorem dX4_mixPhase_48 : decode cX4_mixPhase 48 = .ok (.invokevirtual 246, 3) := by decide +kernel
theorem dX4_mixPhase_51 : decode cX4_mixPhase 51 = .ok (.iinc 3 1, 3) := by decide +kernel
theorem dX4_mixPhase_54 : decode cX4_mixPhase 54 = .ok (.goto (-20), 3) := by decide +kernel
theorem dX4_mixPhase_57 : decode cX4_mixPhase 57 = .ok (.aload_n 0, 1) := by decide +kernel
theorem dX4_mixPhase_58 : decode cX4_mixPhase 58 = .ok (.aload_n 0, 1) := by decide +kernel
theorem dX4_mixPhase_59 : decode cX4_mixPhase 59 = .ok (.iload_n 1, 1) := by decide +kernel
theorem dX4_mixPhase_60 : decode cX4_mixPhase 60 = .ok (.iload_n 2, 1) := by decide +kernel
theorem dX4_mixPhase_61 : decode cX4_mixPhase 61 = .ok (.invokevirtual 129, 3) := by decide +kernel
theorem dX4_mixPhase_64 : decode cX4_mixPhase 64 = .ok (.i2l, 1) := by decide +kernel
theorem dX4_mixPhase_65 : decode cX4_mixPhase 65 = .ok (.invokevirtual 246, 3) := by decide +kernel
theorem dX4_mixPhase_68 : decode cX4_mixPhase 68 = .ok (.iinc 2 1, 3) := by decide +kernel
theorem dX4_mixPhase_71 : decode cX4_mixPhase 71 = .ok (.goto (-44), 3) := by decide +kernel
theorem dX4_mixPhase_74 : decode cX4_mixPhase 74 = .ok (.iconst 0, 1) := by decide +kernel
theorem dX4_mixPhase_75 : decode cX4_mixPhase 75 = .ok (.istore_n 2, 1) := by decide +kernel
theorem dX4_mixPhase_76 : decode cX4_mixPhase 76 = .ok (.iload_n 2, 1) := by decide +kernel
theorem dX4_mixPhase_77 : decode cX4_mixPhase 77 = .ok (.bipush 12, 2) := by decide +kernel
theorem dX4_mixPhase_79 : decode cX4_mixPhase 79 = .ok (.if_icmp .ge 25, 3) := by decide +kernel
theorem dX4_mixPhase_82 : decode cX4_mixPhase 82 = .ok (.aload_n 0, 1) := by decide +kernel
theorem dX4_mixPhase_83 : decode cX4_mixPhase 83 = .ok (.aload_n 0, 1) := by decide +kernel
theorem dX4_mixPhase_84 : decode cX4_mixPhase 84 = .ok (.iload_n 1, 1) := by decide +kernel
theorem dX4_mixPhase_85 : decode cX4_mixPhase 85 = .ok (.iload_n 2, 1) := by decide +kernel
theorem dX4_mixPhase_86 : decode cX4_mixPhase 86 = .ok (.iconst 3, 1) := by decide +kernel
theorem dX4_mixPhase_87 : decode cX4_mixPhase 87 = .ok (.idiv, 1) := by decide +kernel
theorem dX4_mixPhase_88 : decode cX4_mixPhase 88 = .ok (.iload_n 2, 1) := by decide +kernel
theorem dX4_mixPhase_89 : decode cX4_mixPhase 89 = .ok (.iconst 3, 1) := by decide +kernel
theorem dX4_mixPhase_90 : decode cX4_mixPhase 90 = .ok (.irem, 1) := by decide +kernel
theorem dX4_mixPhase_91 : decode cX4_mixPhase 91 = .ok (.invokevirtual 200, 3) := by decide +kernel
theorem dX4_mixPhase_94 : decode cX4_mixPhase 94 = .ok (.i2l, 1) := by decide +kernel
theorem dX4_mixPhase_95 : decode cX4_mixPhase 95 = .ok (.invokevirtual 246, 3) := by decide +kernel
theorem dX4_mixPhase_98 : decode cX4_mixPhase 98 = .ok (.iinc 2 1, 3) := by decide +kernel
theorem dX4_mixPhase_101 : decode cX4_mixPhase 101 = .ok (.goto (-25), 3) := by decide +kernel
theorem dX4_mixPhase_104 : decode cX4_mixPhase 104 = .ok (.iconst 0, 1) := by decide +kernel
theorem dX4_mixPhase_105 : decode cX4_mixPhase 105 = .ok (.istore_n 2, 1) := by decide +kernel
theorem dX4_mixPhase_106 : decode cX4_mixPhase 106 = .ok (.iload_n 2, 1) := by decide +kernel
theorem dX4_mixPhase_107 : decode cX4_mixPhase 107 = .ok (.iconst 4, 1) := by decide +kernel
theorem dX4_mixPhase_108 : decode cX4_mixPhase 108 = .ok (.if_icmp .ge 21, 3) := by decide +kernel
theorem dX4_mixPhase_111 : decode cX4_mixPhase 111 = .ok (.aload_n 0, 1) := by decide +kernel
theorem dX4_mixPhase_112 : decode cX4_mixPhase 112 = .ok (.aload_n 0, 1) := by decide +kernel
theorem dX4_mixPhase_113 : decode cX4_mixPhase 113 = .ok (.iload_n 2, 1) := by decide +kernel
theorem dX4_mixPhase_114 : decode cX4_mixPhase 114 = .ok (.iload_n 1, 1) := by decide +kernel
theorem dX4_mixPhase_115 : decode cX4_mixPhase 115 = .ok (.iconst 0, 1) := by decide +kernel
theorem dX4_mixPhase_116 : decode cX4_mixPhase 116 = .ok (.invokevirtual 212, 3) := by decide +kernel
theorem dX4_mixPhase_119 : decode cX4_mixPhase 119 = .ok (.i2l, 1) := by decide +kernel
theorem dX4_mixPhase_120 : decode cX4_mixPhase 120 = .ok (.invokevirtual 246, 3) := by decide +kernel
theorem dX4_mixPhase_123 : decode cX4_mixPhase 123 = .ok (.iinc 2 1, 3) := by decide +kernel
theorem dX4_mixPhase_126 : decode cX4_mixPhase 126 = .ok (.goto (-20), 3) := by decide +kernel
theorem dX4_mixPhase_129 : decode cX4_mixPhase 129 = .ok (.iconst 0, 1) := by decide +kernel
theorem dX4_mixPhase_130 : decode cX4_mixPhase 130 = .ok (.istore_n 2, 1) := by decide +kernel
theorem dX4_mixPhase_131 : decode cX4_mixPhase 131 = .ok (.iload_n 2, 1) := by decide +kernel
theorem dX4_mixPhase_132 : decode cX4_mixPhase 132 = .ok (.iconst 3, 1) := by decide +kernel
theorem dX4_mixPhase_133 : decode cX4_mixPhase 133 = .ok (.if_icmp .ge 20, 3) := by decide +kernel
theorem dX4_mixPhase_136 : decode cX4_mixPhase 136 = .ok (.aload_n 0, 1) := by decide +kernel
theorem dX4_mixPhase_137 : decode cX4_mixPhase 137 = .ok (.aload_n 0, 1) := by decide +kernel
theorem dX4_mixPhase_138 : decode cX4_mixPhase 138 = .ok (.iload_n 1, 1) := by decide +kernel
theorem dX4_mixPhase_139 : decode cX4_mixPhase 139 = .ok (.iload_n 2, 1) := by decide +kernel
theorem dX4_mixPhase_140 : decode cX4_mixPhase 140 = .ok (.invokevirtual 215, 3) := by decide +kernel
theorem dX4_mixPhase_143 : decode cX4_mixPhase 143 = .ok (.i2l, 1) := by decide +kernel
theorem dX4_mixPhase_144 : decode cX4_mixPhase 144 = .ok (.invokevirtual 246, 3) := by decide +kernel
theorem dX4_mixPhase_147 : decode cX4_mixPhase 147 = .ok (.iinc 2 1, 3) := by decide +kernel
theorem dX4_mixPhase_150 : decode cX4_mixPhase 150 = .ok (.goto (-19), 3) := by decide +kernel
theorem dX4_mixPhase_153 : decode cX4_mixPhase 153 = .ok (.aload_n 0, 1) := by decide +kernel
theorem dX4_mixPhase_154 : decode cX4_mixPhase 154 = .ok (.aload_n 0, 1) := by decide +kernel
theorem dX4_mixPhase_155 : decode cX4_mixPhase 155 = .ok (.iload_n 1, 1) := by decide +kernel
theorem dX4_mixPhase_156 : decode cX4_mixPhase 156 = .ok (.invokevirtual 218, 3) := by decide +kernel
theorem dX4_mixPhase_159 : decode cX4_mixPhase 159 = .ok (.i2l, 1) := by decide +kernel
theorem dX4_mixPhase_160 : decode cX4_mixPhase 160 = .ok (.invokevirtual 246, 3) := by decide +kernel
theorem dX4_mixPhase_163 : decode cX4_mixPhase 163 = .ok (.aload_n 0, 1) := by decide +kernel
theorem dX4_mixPhase_164 : decode cX4_mixPhase 164 = .ok (.aload_n 0, 1) := by decide +kernel
theorem dX4_mixPhase_165 : decode cX4_mixPhase 165 = .ok (.iload_n 1, 1) := by decide +kernel
theorem dX4_mixPhase_166 : decode cX4_mixPhase 166 = .ok (.bipush 100, 2) := by decide +kernel
theorem dX4_mixPhase_168 : decode cX4_mixPhase 168 = .ok (.invokevirtual 233, 3) := by decide +kernel
theorem dX4_mixPhase_171 : decode cX4_mixPhase 171 = .ok (.i2l, 1) := by decide +kernel
theorem dX4_mixPhase_172 : decode cX4_mixPhase 172 = .ok (.invokevirtual 246, 3) := by decide +kernel
theorem dX4_mixPhase_175 : decode cX4_mixPhase 175 = .ok (.return_, 1) := by decide +kernel
theorem dX4_digest_0 : decode cX4_digest 0 = .ok (.aload_n 0, 1) := by decide +kernel
theorem dX4_digest_1 : decode cX4_digest 1 = .ok (.iconst 0, 1) := by decide +kernel
theorem dX4_digest_2 : decode cX4_digest 2 = .ok (.putfield 25, 3) := by decide +kernel
theorem dX4_digest_5 : decode cX4_digest 5 = .ok (.aload_n 0, 1) := by decide +kernel
theorem dX4_digest_6 : decode cX4_digest 6 = .ok (.ldc2_w 250, 3) := by decide +kernel
theorem dX4_digest_9 : decode cX4_digest 9 = .ok (.putfield 242, 3) := by decide +kernel
theorem dX4_digest_12 : decode cX4_digest 12 = .ok (.iconst 0, 1) := by decide +kernel
theorem dX4_digest_13 : decode cX4_digest 13 = .ok (.istore_n 1, 1) := by decide +kernel
theorem dX4_digest_14 : decode cX4_digest 14 = .ok (.iload_n 1, 1) := by decide +kernel
theorem dX4_digest_15 : decode cX4_digest 15 = .ok (.bipush 16, 2) := by decide +kernel
theorem dX4_digest_17 : decode cX4_digest 17 = .ok (.if_icmp .ge 19, 3) := by decide +kernel
theorem dX4_digest_20 : decode cX4_digest 20 = .ok (.aload_n 0, 1) := by decide +kernel
theorem dX4_digest_21 : decode cX4_digest 21 = .ok (.aload_n 0, 1) := by decide +kernel
theorem dX4_digest_22 : decode cX4_digest 22 = .ok (.iload_n 1, 1) := by decide +kernel
theorem dX4_digest_23 : decode cX4_digest 23 = .ok (.invokevirtual 209, 3) := by decide +kernel
theorem dX4_digest_26 : decode cX4_digest 26 = .ok (.i2l, 1) := by decide +kernel
theorem dX4_digest_27 : decode cX4_digest 27 = .ok (.invokevirtual 246, 3) := by decide +kernel
theorem dX4_digest_30 : decode cX4_digest 30 = .ok (.iinc 1 1, 3) := by decide +kernel
theorem dX4_digest_33 : decode cX4_digest 33 = .ok (.goto (-19), 3) := by decide +kernel
theorem dX4_digest_36 : decode cX4_digest 36 = .ok (.iconst 0, 1) := by decide +kernel
theorem dX4_digest_37 : decode cX4_digest 37 = .ok (.istore_n 1, 1) := by decide +kernel
theorem dX4_digest_38 : decode cX4_digest 38 = .ok (.iload_n 1, 1) := by decide +kernel
theorem dX4_digest_39 : decode cX4_digest 39 = .ok (.iconst 4, 1) := by decide +kernel
theorem dX4_digest_40 : decode cX4_digest 40 = .ok (.if_icmp .ge 20, 3) := by decide +kernel
theorem dX4_digest_43 : decode cX4_digest 43 = .ok (.aload_n 0, 1) := by decide +kernel
theorem dX4_digest_44 : decode cX4_digest 44 = .ok (.aload_n 0, 1) := by decide +kernel
theorem dX4_digest_45 : decode cX4_digest 45 = .ok (.getfield 7, 3) := by decide +kernel
theorem dX4_digest_48 : decode cX4_digest 48 = .ok (.iload_n 1, 1) := by decide +kernel
theorem dX4_digest_49 : decode cX4_digest 49 = .ok (.iaload, 1) := by decide +kernel
theorem dX4_digest_50 : decode cX4_digest 50 = .ok (.i2l, 1) := by decide +kernel
theorem dX4_digest_51 : decode cX4_digest 51 = .ok (.invokevirtual 246, 3) := by decide +kernel
theorem dX4_digest_54 : decode cX4_digest 54 = .ok (.iinc 1 1, 3) := by decide +kernel
theorem dX4_digest_57 : decode cX4_digest 57 = .ok (.goto (-19), 3) := by decide +kernel
theorem dX4_digest_60 : decode cX4_digest 60 = .ok (.iconst 0, 1) := by decide +kernel
theorem dX4_digest_61 : decode cX4_digest 61 = .ok (.istore_n 1, 1) := by decide +kernel
theorem dX4_digest_62 : decode cX4_digest 62 = .ok (.iload_n 1, 1) := by decide +kernel
theorem dX4_digest_63 : decode cX4_digest 63 = .ok (.aload_n 0, 1) := by decide +kernel
theorem dX4_digest_64 : decode cX4_digest 64 = .ok (.getfield 7, 3) := by decide +kernel
theorem dX4_digest_67 : decode cX4_digest 67 = .ok (.bipush 9, 2) := by decide +kernel
theorem dX4_digest_69 : decode cX4_digest 69 = .ok (.iaload, 1) := by decide +kernel
theorem dX4_digest_70 : decode cX4_digest 70 = .ok (.if_icmp .ge 14, 3) := by decide +kernel
theorem dX4_digest_73 : decode cX4_digest 73 = .ok (.aload_n 0, 1) := by decide +kernel
theorem dX4_digest_74 : decode cX4_digest 74 = .ok (.iload_n 1, 1) := by decide +kernel
theorem dX4_digest_75 : decode cX4_digest 75 = .ok (.invokevirtual 252, 3) := by decide +kernel
theorem dX4_digest_78 : decode cX4_digest 78 = .ok (.iinc 1 1, 3) := by decide +kernel
theorem dX4_digest_81 : decode cX4_digest 81 = .ok (.goto (-19), 3) := by decide +kernel
theorem dX4_digest_84 : decode cX4_digest 84 = .ok (.aload_n 0, 1) := by decide +kernel
theorem dX4_digest_85 : decode cX4_digest 85 = .ok (.aload_n 0, 1) := by decide +kernel
theorem dX4_digest_86 : decode cX4_digest 86 = .ok (.sipush 200, 3) := by decide +kernel
theorem dX4_digest_89 : decode cX4_digest 89 = .ok (.invokevirtual 227, 3) := by decide +kernel
theorem dX4_digest_92 : decode cX4_digest 92 = .ok (.i2l, 1) := by decide +kernel
theorem dX4_digest_93 : decode cX4_digest 93 = .ok (.invokevirtual 246, 3) := by decide +kernel
theorem dX4_digest_96 : decode cX4_digest 96 = .ok (.aload_n 0, 1) := by decide +kernel
theorem dX4_digest_97 : decode cX4_digest 97 = .ok (.aload_n 0, 1) := by decide +kernel
theorem dX4_digest_98 : decode cX4_digest 98 = .ok (.invokevirtual 230, 3) := by decide +kernel
theorem dX4_digest_101 : decode cX4_digest 101 = .ok (.i2l, 1) := by decide +kernel
theorem dX4_digest_102 : decode cX4_digest 102 = .ok (.invokevirtual 246, 3) := by decide +kernel
theorem dX4_digest_105 : decode cX4_digest 105 = .ok (.aload_n 0, 1) := by decide +kernel
theorem dX4_digest_106 : decode cX4_digest 106 = .ok (.aload_n 0, 1) := by decide +kernel
theorem dX4_digest_107 : decode cX4_digest 107 = .ok (.invokevirtual 236, 3) := by decide +kernel
theorem dX4_digest_110 : decode cX4_digest 110 = .ok (.invokestatic 256, 3) := by decide +kernel
theorem dX4_digest_113 : decode cX4_digest 113 = .ok (.invokevirtual 246, 3) := by decide +kernel
theorem dX4_digest_116 : decode cX4_digest 116 = .ok (.aload_n 0, 1) := by decide +kernel
theorem dX4_digest_117 : decode cX4_digest 117 = .ok (.aload_n 0, 1) := by decide +kernel
theorem dX4_digest_118 : decode cX4_digest 118 = .ok (.getfield 148, 3) := by decide +kernel
theorem dX4_digest_121 : decode cX4_digest 121 = .ok (.i2l, 1) := by decide +kernel
theorem dX4_digest_122 : decode cX4_digest 122 = .ok (.invokevirtual 246, 3) := by decide +kernel
theorem dX4_digest_125 : decode cX4_digest 125 = .ok (.iconst 0, 1) := by decide +kernel
theorem dX4_digest_126 : decode cX4_digest 126 = .ok (.istore_n 1, 1) := by decide +kernel
theorem dX4_digest_127 : decode cX4_digest 127 = .ok (.iload_n 1, 1) := by decide +kernel
theorem dX4_digest_128 : decode cX4_digest 128 = .ok (.aload_n 0, 1) := by decide +kernel
theorem dX4_digest_129 : decode cX4_digest 129 = .ok (.getfield 148, 3) := by decide +kernel
theorem dX4_digest_132 : decode cX4_digest 132 = .ok (.if_icmp .ge 20, 3) := by decide +kernel
theorem dX4_digest_135 : decode cX4_digest 135 = .ok (.aload_n 0, 1) := by decide +kernel
theorem dX4_digest_136 : decode cX4_digest 136 = .ok (.aload_n 0, 1) := by decide +kernel
theorem dX4_digest_137 : decode cX4_digest 137 = .ok (.getfield 16, 3) := by decide +kernel
theorem dX4_digest_140 : decode cX4_digest 140 = .ok (.iload_n 1, 1) := by decide +kernel
theorem dX4_digest_141 : decode cX4_digest 141 = .ok (.iaload, 1) := by decide +kernel
theorem dX4_digest_142 : decode cX4_digest 142 = .ok (.i2l, 1) := by decide +kernel
theorem dX4_digest_143 : decode cX4_digest 143 = .ok (.invokevirtual 246, 3) := by decide +kernel
theorem dX4_digest_146 : decode cX4_digest 146 = .ok (.iinc 1 1, 3) := by decide +kernel
theorem dX4_digest_149 : decode cX4_digest 149 = .ok (.goto (-22), 3) := by decide +kernel
theorem dX4_digest_152 : decode cX4_digest 152 = .ok (.aload_n 0, 1) := by decide +kernel
theorem dX4_digest_153 : decode cX4_digest 153 = .ok (.getfield 242, 3) := by decide +kernel
theorem dX4_digest_156 : decode cX4_digest 156 = .ok (.lreturn, 1) := by decide +kernel
end
section
theorem dX3_init_0 : decode cX3_init 0 = .ok (.aload_n 0, 1) := by decide +kernel
theorem dX3_init_1 : decode cX3_init 1 = .ok (.invokespecial 1, 3) := by decide +kernel
theorem dX3_init_4 : decode cX3_init 4 = .ok (.aload_n 0, 1) := by decide +kernel
theorem dX3_init_5 : decode cX3_init 5 = .ok (.new 7, 3) := by decide +kernel
theorem dX3_init_8 : decode cX3_init 8 = .ok (.dup, 1) := by decide +kernel
theorem dX3_init_9 : decode cX3_init 9 = .ok (.invokespecial 9, 3) := by decide +kernel
theorem dX3_init_12 : decode cX3_init 12 = .ok (.putfield 10, 3) := by decide +kernel
theorem dX3_init_15 : decode cX3_init 15 = .ok (.aload_n 0, 1) := by decide +kernel
theorem dX3_init_16 : decode cX3_init 16 = .ok (.bipush 6, 2) := by decide +kernel
theorem dX3_init_18 : decode cX3_init 18 = .ok (.anewarray 7, 3) := by decide +kernel
theorem dX3_init_21 : decode cX3_init 21 = .ok (.putfield 16, 3) := by decide +kernel
theorem dX3_init_24 : decode cX3_init 24 = .ok (.iconst 0, 1) := by decide +kernel
theorem dX3_init_25 : decode cX3_init 25 = .ok (.istore_n 1, 1) := by decide +kernel
theorem dX3_init_26 : decode cX3_init 26 = .ok (.iload_n 1, 1) := by decide +kernel
theorem dX3_init_27 : decode cX3_init 27 = .ok (.bipush 6, 2) := by decide +kernel
theorem dX3_init_29 : decode cX3_init 29 = .ok (.if_icmp .ge 22, 3) := by decide +kernel
theorem dX3_init_32 : decode cX3_init 32 = .ok (.aload_n 0, 1) := by decide +kernel
theorem dX3_init_33 : decode cX3_init 33 = .ok (.getfield 16, 3) := by decide +kernel
theorem dX3_init_36 : decode cX3_init 36 = .ok (.iload_n 1, 1) := by decide +kernel
theorem dX3_init_37 : decode cX3_init 37 = .ok (.new 7, 3) := by decide +kernel
theorem dX3_init_40 : decode cX3_init 40 = .ok (.dup, 1) := by decide +kernel
theorem dX3_init_41 : decode cX3_init 41 = .ok (.invokespecial 9, 3) := by decide +kernel
theorem dX3_init_44 : decode cX3_init 44 = .ok (.aastore, 1) := by decide +kernel
theorem dX3_init_45 : decode cX3_init 45 = .ok (.iinc 1 1, 3) := by decide +kernel
theorem dX3_init_48 : decode cX3_init 48 = .ok (.goto (-22), 3) := by decide +kernel
theorem dX3_init_51 : decode cX3_init 51 = .ok (.aload_n 0, 1) := by decide +kernel
theorem dX3_init_52 : decode cX3_init 52 = .ok (.iconst 0, 1) := by decide +kernel
theorem dX3_init_53 : decode cX3_init 53 = .ok (.putfield 20, 3) := by decide +kernel
theorem dX3_init_56 : decode cX3_init 56 = .ok (.aload_n 0, 1) := by decide +kernel
theorem dX3_init_57 : decode cX3_init 57 = .ok (.iconst 0, 1) := by decide +kernel
theorem dX3_init_58 : decode cX3_init 58 = .ok (.putfield 24, 3) := by decide +kernel
theorem dX3_init_61 : decode cX3_init 61 = .ok (.aload_n 0, 1) := by decide +kernel
theorem dX3_init_62 : decode cX3_init 62 = .ok (.new 27, 3) := by decide +kernel
theorem dX3_init_65 : decode cX3_init 65 = .ok (.dup, 1) := by decide +kernel
theorem dX3_init_66 : decode cX3_init 66 = .ok (.invokespecial 29, 3) := by decide +kernel
theorem dX3_init_69 : decode cX3_init 69 = .ok (.putfield 30, 3) := by decide +kernel
theorem dX3_init_72 : decode cX3_init 72 = .ok (.return_, 1) := by decide +kernel
theorem dX3_addPhase_0 : decode cX3_addPhase 0 = .ok (.aload_n 0, 1) := by decide +kernel
theorem dX3_addPhase_1 : decode cX3_addPhase 1 = .ok (.getfield 10, 3) := by decide +kernel
theorem dX3_addPhase_4 : decode cX3_addPhase 4 = .ok (.getfield 34, 3) := by decide +kernel
theorem dX3_addPhase_7 : decode cX3_addPhase 7 = .ok (.bipush 6, 2) := by decide +kernel
theorem dX3_addPhase_9 : decode cX3_addPhase 9 = .ok (.if_icmp .lt 13, 3) := by decide +kernel
theorem dX3_addPhase_12 : decode cX3_addPhase 12 = .ok (.new 37, 3) := by decide +kernel
theorem dX3_addPhase_15 : decode cX3_addPhase 15 = .ok (.dup, 1) := by decide +kernel
theorem dX3_addPhase_16 : decode cX3_addPhase 16 = .ok (.ldc 39, 2) := by decide +kernel
theorem dX3_addPhase_18 : decode cX3_addPhase 18 = .ok (.invokespecial 41, 3) := by decide +kernel
theorem dX3_addPhase_21 : decode cX3_addPhase 21 = .ok (.athrow, 1) := by decide +kernel
theorem dX3_addPhase_22 : decode cX3_addPhase 22 = .ok (.aload_n 0, 1) := by decide +kernel
theorem dX3_addPhase_23 : decode cX3_addPhase 23 = .ok (.invokevirtual 44, 3) := by decide +kernel
theorem dX3_addPhase_26 : decode cX3_addPhase 26 = .ok (.aload_n 0, 1) := by decide +kernel
theorem dX3_addPhase_27 : decode cX3_addPhase 27 = .ok (.getfield 10, 3) := by decide +kernel
theorem dX3_addPhase_30 : decode cX3_addPhase 30 = .ok (.invokevirtual 47, 3) := by decide +kernel
theorem dX3_addPhase_33 : decode cX3_addPhase 33 = .ok (.ireturn, 1) := by decide +kernel
theorem dX3_area_0 : decode cX3_area 0 = .ok (.aload_n 0, 1) := by decide +kernel
theorem dX3_area_1 : decode cX3_area 1 = .ok (.iload_n 1, 1) := by decide +kernel
theorem dX3_area_2 : decode cX3_area 2 = .ok (.invokevirtual 51, 3) := by decide +kernel
theorem dX3_area_5 : decode cX3_area 5 = .ok (.iload_n 2, 1) := by decide +kernel
theorem dX3_area_6 : decode cX3_area 6 = .ok (.invokestatic 55, 3) := by decide +kernel
theorem dX3_area_9 : decode cX3_area 9 = .ok (.iload_n 3, 1) := by decide +kernel
theorem dX3_area_10 : decode cX3_area 10 = .ok (.iconst 0, 1) := by decide +kernel
theorem dX3_area_11 : decode cX3_area 11 = .ok (.sipush 999, 3) := by decide +kernel
theorem dX3_area_14 : decode cX3_area 14 = .ok (.invokestatic 58, 3) := by decide +kernel
theorem dX3_area_17 : decode cX3_area 17 = .ok (.aload_n 0, 1) := by decide +kernel
theorem dX3_area_18 : decode cX3_area 18 = .ok (.iconst 0, 1) := by decide +kernel
theorem dX3_area_19 : decode cX3_area 19 = .ok (.iload_n 1, 1) := by decide +kernel
theorem dX3_area_20 : decode cX3_area 20 = .ok (.iload_n 2, 1) := by decide +kernel
theorem dX3_area_21 : decode cX3_area 21 = .ok (.invokevirtual 62, 3) := by decide +kernel
theorem dX3_area_24 : decode cX3_area 24 = .ok (.aload_n 0, 1) := by decide +kernel
theorem dX3_area_25 : decode cX3_area 25 = .ok (.invokevirtual 44, 3) := by decide +kernel
theorem dX3_area_28 : decode cX3_area 28 = .ok (.aload_n 0, 1) := by decide +kernel
theorem dX3_area_29 : decode cX3_area 29 = .ok (.getfield 10, 3) := by decide +kernel
theorem dX3_area_32 : decode cX3_area 32 = .ok (.getfield 65, 3) := by decide +kernel
theorem dX3_area_35 : decode cX3_area 35 = .ok (.iload_n 1, 1) := by decide +kernel
theorem dX3_area_36 : decode cX3_area 36 = .ok (.aaload, 1) := by decide +kernel
theorem dX3_area_37 : decode cX3_area 37 = .ok (.iload_n 2, 1) := by decide +kernel
theorem dX3_area_38 : decode cX3_area 38 = .ok (.iload_n 3, 1) := by decide +kernel
theorem dX3_area_39 : decode cX3_area 39 = .ok (.invokevirtual 69, 3) := by decide +kernel
theorem dX3_area_42 : decode cX3_area 42 = .ok (.ireturn, 1) := by decide +kernel
theorem dX3_exempt_0 : decode cX3_exempt 0 = .ok (.aload_n 0, 1) := by decide +kernel
theorem dX3_exempt_1 : decode cX3_exempt 1 = .ok (.iload_n 1, 1) := by decide +kernel
theorem dX3_exempt_2 : decode cX3_exempt 2 = .ok (.invokevirtual 51, 3) := by decide +kernel
theorem dX3_exempt_5 : decode cX3_exempt 5 = .ok (.iload_n 2, 1) := by decide +kernel
theorem dX3_exempt_6 : decode cX3_exempt 6 = .ok (.invokestatic 55, 3) := by decide +kernel
theorem dX3_exempt_9 : decode cX3_exempt 9 = .ok (.iload_n 3, 1) := by decide +kernel
theorem dX3_exempt_10 : decode cX3_exempt 10 = .ok (.iconst 0, 1) := by decide +kernel
theorem dX3_exempt_11 : decode cX3_exempt 11 = .ok (.aload_n 0, 1) := by decide +kernel
theorem dX3_exempt_12 : decode cX3_exempt 12 = .ok (.getfield 10, 3) := by decide +kernel
theorem dX3_exempt_15 : decode cX3_exempt 15 = .ok (.getfield 65, 3) := by decide +kernel
theorem dX3_exempt_18 : decode cX3_exempt 18 = .ok (.iload_n 1, 1) := by decide +kernel
theorem dX3_exempt_19 : decode cX3_exempt 19 = .ok (.aaload, 1) := by decide +kernel
theorem dX3_exempt_20 : decode cX3_exempt 20 = .ok (.getfield 75, 3) := by decide +kernel
theorem dX3_exempt_23 : decode cX3_exempt 23 = .ok (.iload_n 2, 1) := by decide +kernel
theorem dX3_exempt_24 : decode cX3_exempt 24 = .ok (.iaload, 1) := by decide +kernel
theorem dX3_exempt_25 : decode cX3_exempt 25 = .ok (.invokestatic 58, 3) := by decide +kernel
theorem dX3_exempt_28 : decode cX3_exempt 28 = .ok (.aload_n 0, 1) := by decide +kernel
theorem dX3_exempt_29 : decode cX3_exempt 29 = .ok (.iconst 0, 1) := by decide +kernel
theorem dX3_exempt_30 : decode cX3_exempt 30 = .ok (.iload_n 1, 1) := by decide +kernel
theorem dX3_exempt_31 : decode cX3_exempt 31 = .ok (.iload_n 2, 1) := by decide +kernel
theorem dX3_exempt_32 : decode cX3_exempt 32 = .ok (.invokevirtual 62, 3) := by decide +kernel
theorem dX3_exempt_35 : decode cX3_exempt 35 = .ok (.aload_n 0, 1) := by decide +kernel
theorem dX3_exempt_36 : decode cX3_exempt 36 = .ok (.invokevirtual 44, 3) := by decide +kernel
theorem dX3_exempt_39 : decode cX3_exempt 39 = .ok (.aload_n 0, 1) := by decide +kernel
theorem dX3_exempt_40 : decode cX3_exempt 40 = .ok (.getfield 10, 3) := by decide +kernel
theorem dX3_exempt_43 : decode cX3_exempt 43 = .ok (.getfield 65, 3) := by decide +kernel
theorem dX3_exempt_46 : decode cX3_exempt 46 = .ok (.iload_n 1, 1) := by decide +kernel
theorem dX3_exempt_47 : decode cX3_exempt 47 = .ok (.aaload, 1) := by decide +kernel
theorem dX3_exempt_48 : decode cX3_exempt 48 = .ok (.iload_n 2, 1) := by decide +kernel
theorem dX3_exempt_49 : decode cX3_exempt 49 = .ok (.iload_n 3, 1) := by decide +kernel
theorem dX3_exempt_50 : decode cX3_exempt 50 = .ok (.invokevirtual 79, 3) := by decide +kernel
theorem dX3_exempt_53 : decode cX3_exempt 53 = .ok (.ireturn, 1) := by decide +kernel
theorem dX3_rate_0 : decode cX3_rate 0 = .ok (.iload_n 1, 1) := by decide +kernel
theorem dX3_rate_1 : decode cX3_rate 1 = .ok (.invokestatic 55, 3) := by decide +kernel
theorem dX3_rate_4 : decode cX3_rate 4 = .ok (.iload_n 2, 1) := by decide +kernel
theorem dX3_rate_5 : decode cX3_rate 5 = .ok (.iconst 0, 1) := by decide +kernel
theorem dX3_rate_6 : decode cX3_rate 6 = .ok (.sipush 999, 3) := by decide +kernel
theorem dX3_rate_9 : decode cX3_rate 9 = .ok (.invokestatic 58, 3) := by decide +kernel
theorem dX3_rate_12 : decode cX3_rate 12 = .ok (.aload_n 0, 1) := by decide +kernel
theorem dX3_rate_13 : decode cX3_rate 13 = .ok (.invokevirtual 44, 3) := by decide +kernel
theorem dX3_rate_16 : decode cX3_rate 16 = .ok (.aload_n 0, 1) := by decide +kernel
theorem dX3_rate_17 : decode cX3_rate 17 = .ok (.getfield 10, 3) := by decide +kernel
theorem dX3_rate_20 : decode cX3_rate 20 = .ok (.iload_n 1, 1) := by decide +kernel
theorem dX3_rate_21 : decode cX3_rate 21 = .ok (.iload_n 2, 1) := by decide +kernel
theorem dX3_rate_22 : decode cX3_rate 22 = .ok (.invokevirtual 82, 3) := by decide +kernel
theorem dX3_rate_25 : decode cX3_rate 25 = .ok (.ireturn, 1) := by decide +kernel
theorem dX3_set_0 : decode cX3_set 0 = .ok (.iload_n 1, 1) := by decide +kernel
theorem dX3_set_1 : decode cX3_set 1 = .ok (.invokestatic 85, 3) := by decide +kernel
theorem dX3_set_4 : decode cX3_set 4 = .ok (.iload_n 2, 1) := by decide +kernel
theorem dX3_set_5 : decode cX3_set 5 = .ok (.getstatic 88, 3) := by decide +kernel
theorem dX3_set_8 : decode cX3_set 8 = .ok (.iload_n 1, 1) := by decide +kernel
theorem dX3_set_9 : decode cX3_set 9 = .ok (.iaload, 1) := by decide +kernel
theorem dX3_set_10 : decode cX3_set 10 = .ok (.getstatic 91, 3) := by decide +kernel
theorem dX3_set_13 : decode cX3_set 13 = .ok (.iload_n 1, 1) := by decide +kernel
theorem dX3_set_14 : decode cX3_set 14 = .ok (.iaload, 1) := by decide +kernel
theorem dX3_set_15 : decode cX3_set 15 = .ok (.invokestatic 58, 3) := by decide +kernel
theorem dX3_set_18 : decode cX3_set 18 = .ok (.aload_n 0, 1) := by decide +kernel
theorem dX3_set_19 : decode cX3_set 19 = .ok (.invokevirtual 44, 3) := by decide +kernel
theorem dX3_set_22 : decode cX3_set 22 = .ok (.aload_n 0, 1) := by decide +kernel
theorem dX3_set_23 : decode cX3_set 23 = .ok (.getfield 10, 3) := by decide +kernel
theorem dX3_set_26 : decode cX3_set 26 = .ok (.getfield 94, 3) := by decide +kernel
theorem dX3_set_29 : decode cX3_set 29 = .ok (.iload_n 1, 1) := by decide +kernel
theorem dX3_set_30 : decode cX3_set 30 = .ok (.iaload, 1) := by decide +kernel
theorem dX3_set_31 : decode cX3_set 31 = .ok (.istore_n 3, 1) := by decide +kernel
theorem dX3_set_32 : decode cX3_set 32 = .ok (.aload_n 0, 1) := by decide +kernel
theorem dX3_set_33 : decode cX3_set 33 = .ok (.getfield 10, 3) := by decide +kernel
theorem dX3_set_36 : decode cX3_set 36 = .ok (.getfield 94, 3) := by decide +kernel
theorem dX3_set_39 : decode cX3_set 39 = .ok (.iload_n 1, 1) := by decide +kernel
theorem dX3_set_40 : decode cX3_set 40 = .ok (.iload_n 2, 1) := by decide +kernel
theorem dX3_set_41 : decode cX3_set 41 = .ok (.iastore, 1) := by decide +kernel
theorem dX3_set_42 : decode cX3_set 42 = .ok (.iload_n 3, 1) := by decide +kernel
theorem dX3_set_43 : decode cX3_set 43 = .ok (.ireturn, 1) := by decide +kernel
theorem dX3_begin_0 : decode cX3_begin 0 = .ok (.aload_n 0, 1) := by decide +kernel
theorem dX3_begin_1 : decode cX3_begin 1 = .ok (.iload_n 1, 1) := by decide +kernel
theorem dX3_begin_2 : decode cX3_begin 2 = .ok (.invokevirtual 51, 3) := by decide +kernel
theorem dX3_begin_5 : decode cX3_begin 5 = .ok (.aload_n 0, 1) := by decide +kernel
theorem dX3_begin_6 : decode cX3_begin 6 = .ok (.iconst 1, 1) := by decide +kernel
theorem dX3_begin_7 : decode cX3_begin 7 = .ok (.iload_n 1, 1) := by decide +kernel
theorem dX3_begin_8 : decode cX3_begin 8 = .ok (.iconst 0, 1) := by decide +kernel
theorem dX3_begin_9 : decode cX3_begin 9 = .ok (.invokevirtual 62, 3) := by decide +kernel
theorem dX3_begin_12 : decode cX3_begin 12 = .ok (.aload_n 0, 1) := by decide +kernel
theorem dX3_begin_13 : decode cX3_begin 13 = .ok (.invokevirtual 44, 3) := by decide +kernel
theorem dX3_begin_16 : decode cX3_begin 16 = .ok (.aload_n 0, 1) := by decide +kernel
theorem dX3_begin_17 : decode cX3_begin 17 = .ok (.getfield 10, 3) := by decide +kernel
theorem dX3_begin_20 : decode cX3_begin 20 = .ok (.iload_n 1, 1) := by decide +kernel
theorem dX3_begin_21 : decode cX3_begin 21 = .ok (.invokevirtual 97, 3) := by decide +kernel
theorem dX3_begin_24 : decode cX3_begin 24 = .ok (.ireturn, 1) := by decide +kernel
theorem dX3_pay_0 : decode cX3_pay 0 = .ok (.aload_n 0, 1) := by decide +kernel
theorem dX3_pay_1 : decode cX3_pay 1 = .ok (.iload_n 1, 1) := by decide +kernel
theorem dX3_pay_2 : decode cX3_pay 2 = .ok (.invokevirtual 51, 3) := by decide +kernel
theorem dX3_pay_5 : decode cX3_pay 5 = .ok (.iload_n 2, 1) := by decide +kernel
theorem dX3_pay_6 : decode cX3_pay 6 = .ok (.iconst 1, 1) := by decide +kernel
theorem dX3_pay_7 : decode cX3_pay 7 = .ok (.ldc 101, 2) := by decide +kernel
theorem dX3_pay_9 : decode cX3_pay 9 = .ok (.invokestatic 58, 3) := by decide +kernel
theorem dX3_pay_12 : decode cX3_pay 12 = .ok (.aload_n 0, 1) := by decide +kernel
theorem dX3_pay_13 : decode cX3_pay 13 = .ok (.iconst 2, 1) := by decide +kernel
theorem dX3_pay_14 : decode cX3_pay 14 = .ok (.iload_n 1, 1) := by decide +kernel
theorem dX3_pay_15 : decode cX3_pay 15 = .ok (.iconst 0, 1) := by decide +kernel
theorem dX3_pay_16 : decode cX3_pay 16 = .ok (.invokevirtual 62, 3) := by decide +kernel
theorem dX3_pay_19 : decode cX3_pay 19 = .ok (.aload_n 0, 1) := by decide +kernel
theorem dX3_pay_20 : decode cX3_pay 20 = .ok (.invokevirtual 44, 3) := by decide +kernel
theorem dX3_pay_23 : decode cX3_pay 23 = .ok (.aload_n 0, 1) := by decide +kernel
theorem dX3_pay_24 : decode cX3_pay 24 = .ok (.getfield 10, 3) := by decide +kernel
theorem dX3_pay_27 : decode cX3_pay 27 = .ok (.getfield 65, 3) := by decide +kernel
theorem dX3_pay_30 : decode cX3_pay 30 = .ok (.iload_n 1, 1) := by decide +kernel
theorem dX3_pay_31 : decode cX3_pay 31 = .ok (.aaload, 1) := by decide +kernel
theorem dX3_pay_32 : decode cX3_pay 32 = .ok (.iload_n 2, 1) := by decide +kernel
theorem dX3_pay_33 : decode cX3_pay 33 = .ok (.invokevirtual 102, 3) := by decide +kernel
theorem dX3_pay_36 : decode cX3_pay 36 = .ok (.ireturn, 1) := by decide +kernel
theorem dX3_land_0 : decode cX3_land 0 = .ok (.aload_n 0, 1) := by decide +kernel
theorem dX3_land_1 : decode cX3_land 1 = .ok (.iload_n 1, 1) := by decide +kernel
theorem dX3_land_2 : decode cX3_land 2 = .ok (.invokevirtual 51, 3) := by decide +kernel
theorem dX3_land_5 : decode cX3_land 5 = .ok (.iload_n 2, 1) := by decide +kernel
theorem dX3_land_6 : decode cX3_land 6 = .ok (.iconst 1, 1) := by decide +kernel
theorem dX3_land_7 : decode cX3_land 7 = .ok (.ldc 101, 2) := by decide +kernel
theorem dX3_land_9 : decode cX3_land 9 = .ok (.invokestatic 58, 3) := by decide +kernel
theorem dX3_land_12 : decode cX3_land 12 = .ok (.aload_n 0, 1) := by decide +kernel
theorem dX3_land_13 : decode cX3_land 13 = .ok (.iconst 3, 1) := by decide +kernel
theorem dX3_land_14 : decode cX3_land 14 = .ok (.iload_n 1, 1) := by decide +kernel
theorem dX3_land_15 : decode cX3_land 15 = .ok (.iconst 0, 1) := by decide +kernel
theorem dX3_land_16 : decode cX3_land 16 = .ok (.invokevirtual 62, 3) := by decide +kernel
theorem dX3_land_19 : decode cX3_land 19 = .ok (.aload_n 0, 1) := by decide +kernel
theorem dX3_land_20 : decode cX3_land 20 = .ok (.invokevirtual 44, 3) := by decide +kernel
theorem dX3_land_23 : decode cX3_land 23 = .ok (.aload_n 0, 1) := by decide +kernel
theorem dX3_land_24 : decode cX3_land 24 = .ok (.getfield 10, 3) := by decide +kernel
theorem dX3_land_27 : decode cX3_land 27 = .ok (.getfield 65, 3) := by decide +kernel
theorem dX3_land_30 : decode cX3_land 30 = .ok (.iload_n 1, 1) := by decide +kernel
theorem dX3_land_31 : decode cX3_land 31 = .ok (.aaload, 1) := by decide +kernel
theorem dX3_land_32 : decode cX3_land 32 = .ok (.iload_n 2, 1) := by decide +kernel
theorem dX3_land_33 : decode cX3_land 33 = .ok (.aload_n 0, 1) := by decide +kernel
theorem dX3_land_34 : decode cX3_land 34 = .ok (.getfield 10, 3) := by decide +kernel
theorem dX3_land_37 : decode cX3_land 37 = .ok (.getfield 94, 3) := by decide +kernel
theorem dX3_land_40 : decode cX3_land 40 = .ok (.iconst 3, 1) := by decide +kernel
theorem dX3_land_41 : decode cX3_land 41 = .ok (.iaload, 1) := by decide +kernel
theorem dX3_land_42 : decode cX3_land 42 = .ok (.invokevirtual 105, 3) := by decide +kernel
theorem dX3_land_45 : decode cX3_land 45 = .ok (.ireturn, 1) := by decide +kernel
theorem dX3_lapse_0 : decode cX3_lapse 0 = .ok (.aload_n 0, 1) := by decide +kernel
theorem dX3_lapse_1 : decode cX3_lapse 1 = .ok (.iload_n 1, 1) := by decide +kernel
theorem dX3_lapse_2 : decode cX3_lapse 2 = .ok (.invokevirtual 51, 3) := by decide +kernel
theorem dX3_lapse_5 : decode cX3_lapse 5 = .ok (.iload_n 2, 1) := by decide +kernel
theorem dX3_lapse_6 : decode cX3_lapse 6 = .ok (.invokestatic 55, 3) := by decide +kernel
theorem dX3_lapse_9 : decode cX3_lapse 9 = .ok (.aload_n 0, 1) := by decide +kernel
theorem dX3_lapse_10 : decode cX3_lapse 10 = .ok (.iconst 4, 1) := by decide +kernel
theorem dX3_lapse_11 : decode cX3_lapse 11 = .ok (.iload_n 1, 1) := by decide +kernel
theorem dX3_lapse_12 : decode cX3_lapse 12 = .ok (.iload_n 2, 1) := by decide +kernel
theorem dX3_lapse_13 : decode cX3_lapse 13 = .ok (.invokevirtual 62, 3) := by decide +kernel
theorem dX3_lapse_16 : decode cX3_lapse 16 = .ok (.aload_n 0, 1) := by decide +kernel
theorem dX3_lapse_17 : decode cX3_lapse 17 = .ok (.invokevirtual 44, 3) := by decide +kernel
theorem dX3_lapse_20 : decode cX3_lapse 20 = .ok (.aload_n 0, 1) := by decide +kernel
theorem dX3_lapse_21 : decode cX3_lapse 21 = .ok (.getfield 10, 3) := by decide +kernel
theorem dX3_lapse_24 : decode cX3_lapse 24 = .ok (.getfield 65, 3) := by decide +kernel
theorem dX3_lapse_27 : decode cX3_lapse 27 = .ok (.iload_n 1, 1) := by decide +kernel
theorem dX3_lapse_28 : decode cX3_lapse 28 = .ok (.aaload, 1) := by decide +kernel
theorem dX3_lapse_29 : decode cX3_lapse 29 = .ok (.iload_n 2, 1) := by decide +kernel
theorem dX3_lapse_30 : decode cX3_lapse 30 = .ok (.invokevirtual 108, 3) := by decide +kernel
theorem dX3_lapse_33 : decode cX3_lapse 33 = .ok (.ireturn, 1) := by decide +kernel
theorem dX3_pass_0 : decode cX3_pass 0 = .ok (.iload_n 1, 1) := by decide +kernel
theorem dX3_pass_1 : decode cX3_pass 1 = .ok (.iconst 1, 1) := by decide +kernel
theorem dX3_pass_2 : decode cX3_pass 2 = .ok (.bipush 99, 2) := by decide +kernel
theorem dX3_pass_4 : decode cX3_pass 4 = .ok (.invokestatic 58, 3) := by decide +kernel
theorem dX3_pass_7 : decode cX3_pass 7 = .ok (.aload_n 0, 1) := by decide +kernel
theorem dX3_pass_8 : decode cX3_pass 8 = .ok (.getfield 10, 3) := by decide +kernel
theorem dX3_pass_11 : decode cX3_pass 11 = .ok (.iload_n 1, 1) := by decide +kernel
theorem dX3_pass_12 : decode cX3_pass 12 = .ok (.invokevirtual 111, 3) := by decide +kernel
theorem dX3_pass_15 : decode cX3_pass 15 = .ok (.ifCond .ne 13, 3) := by decide +kernel
theorem dX3_pass_18 : decode cX3_pass 18 = .ok (.new 37, 3) := by decide +kernel
theorem dX3_pass_21 : decode cX3_pass 21 = .ok (.dup, 1) := by decide +kernel
theorem dX3_pass_22 : decode cX3_pass 22 = .ok (.ldc 115, 2) := by decide +kernel
theorem dX3_pass_24 : decode cX3_pass 24 = .ok (.invokespecial 41, 3) := by decide +kernel
theorem dX3_pass_27 : decode cX3_pass 27 = .ok (.athrow, 1) := by decide +kernel
theorem dX3_pass_28 : decode cX3_pass 28 = .ok (.aload_n 0, 1) := by decide +kernel
theorem dX3_pass_29 : decode cX3_pass 29 = .ok (.invokevirtual 44, 3) := by decide +kernel
theorem dX3_pass_32 : decode cX3_pass 32 = .ok (.aload_n 0, 1) := by decide +kernel
theorem dX3_pass_33 : decode cX3_pass 33 = .ok (.getfield 10, 3) := by decide +kernel
theorem dX3_pass_36 : decode cX3_pass 36 = .ok (.iload_n 1, 1) := by decide +kernel
theorem dX3_pass_37 : decode cX3_pass 37 = .ok (.invokevirtual 117, 3) := by decide +kernel
theorem dX3_pass_40 : decode cX3_pass 40 = .ok (.ireturn, 1) := by decide +kernel
theorem dX3_append_0 : decode cX3_append 0 = .ok (.iload_n 1, 1) := by decide +kernel
theorem dX3_append_1 : decode cX3_append 1 = .ok (.bipush 33, 2) := by decide +kernel
theorem dX3_append_3 : decode cX3_append 3 = .ok (.bipush 126, 2) := by decide +kernel
theorem dX3_append_5 : decode cX3_append 5 = .ok (.invokestatic 58, 3) := by decide +kernel
theorem dX3_append_8 : decode cX3_append 8 = .ok (.aload_n 0, 1) := by decide +kernel
theorem dX3_append_9 : decode cX3_append 9 = .ok (.getfield 30, 3) := by decide +kernel
theorem dX3_append_12 : decode cX3_append 12 = .ok (.getfield 120, 3) := by decide +kernel
theorem dX3_append_15 : decode cX3_append 15 = .ok (.bipush 60, 2) := by decide +kernel
theorem dX3_append_17 : decode cX3_append 17 = .ok (.if_icmp .lt 13, 3) := by decide +kernel
theorem dX3_append_20 : decode cX3_append 20 = .ok (.new 37, 3) := by decide +kernel
theorem dX3_append_23 : decode cX3_append 23 = .ok (.dup, 1) := by decide +kernel
theorem dX3_append_24 : decode cX3_append 24 = .ok (.ldc 123, 2) := by decide +kernel
theorem dX3_append_26 : decode cX3_append 26 = .ok (.invokespecial 41, 3) := by decide +kernel
theorem dX3_append_29 : decode cX3_append 29 = .ok (.athrow, 1) := by decide +kernel
theorem dX3_append_30 : decode cX3_append 30 = .ok (.aload_n 0, 1) := by decide +kernel
theorem dX3_append_31 : decode cX3_append 31 = .ok (.getfield 30, 3) := by decide +kernel
theorem dX3_append_34 : decode cX3_append 34 = .ok (.iload_n 1, 1) := by decide +kernel
theorem dX3_append_35 : decode cX3_append 35 = .ok (.invokevirtual 125, 3) := by decide +kernel
theorem dX3_append_38 : decode cX3_append 38 = .ok (.ireturn, 1) := by decide +kernel
theorem dX3_clearBuffer_0 : decode cX3_clearBuffer 0 = .ok (.aload_n 0, 1) := by decide +kernel
theorem dX3_clearBuffer_1 : decode cX3_clearBuffer 1 = .ok (.getfield 30, 3) := by decide +kernel
theorem dX3_clearBuffer_4 : decode cX3_clearBuffer 4 = .ok (.getfield 120, 3) := by decide +kernel
theorem dX3_clearBuffer_7 : decode cX3_clearBuffer 7 = .ok (.istore_n 1, 1) := by decide +kernel
theorem dX3_clearBuffer_8 : decode cX3_clearBuffer 8 = .ok (.aload_n 0, 1) := by decide +kernel
theorem dX3_clearBuffer_9 : decode cX3_clearBuffer 9 = .ok (.getfield 30, 3) := by decide +kernel
theorem dX3_clearBuffer_12 : decode cX3_clearBuffer 12 = .ok (.iconst 0, 1) := by decide +kernel
theorem dX3_clearBuffer_13 : decode cX3_clearBuffer 13 = .ok (.putfield 120, 3) := by decide +kernel
theorem dX3_clearBuffer_16 : decode cX3_clearBuffer 16 = .ok (.iload_n 1, 1) := by decide +kernel
theorem dX3_clearBuffer_17 : decode cX3_clearBuffer 17 = .ok (.ireturn, 1) := by decide +kernel
theorem dX3_firstError_0 : decode cX3_firstError 0 = .ok (.aload_n 0, 1) := by decide +kernel
theorem dX3_firstError_1 : decode cX3_firstError 1 = .ok (.getfield 30, 3) := by decide +kernel
theorem dX3_firstError_4 : decode cX3_firstError 4 = .ok (.invokevirtual 128, 3) := by decide +kernel
theorem dX3_firstError_7 : decode cX3_firstError 7 = .ok (.pop, 1) := by decide +kernel
theorem dX3_firstError_8 : decode cX3_firstError 8 = .ok (.aload_n 0, 1) := by decide +kernel
theorem dX3_firstError_9 : decode cX3_firstError 9 = .ok (.getfield 30, 3) := by decide +kernel
theorem dX3_firstError_12 : decode cX3_firstError 12 = .ok (.getfield 132, 3) := by decide +kernel
theorem dX3_firstError_15 : decode cX3_firstError 15 = .ok (.ireturn, 1) := by decide +kernel
theorem dX3_run_0 : decode cX3_run 0 = .ok (.aload_n 0, 1) := by decide +kernel
theorem dX3_run_1 : decode cX3_run 1 = .ok (.getfield 30, 3) := by decide +kernel
theorem dX3_run_4 : decode cX3_run 4 = .ok (.invokevirtual 128, 3) := by decide +kernel
theorem dX3_run_7 : decode cX3_run 7 = .ok (.ifCond .ne 13, 3) := by decide +kernel
theorem dX3_run_10 : decode cX3_run 10 = .ok (.new 135, 3) := by decide +kernel
theorem dX3_run_13 : decode cX3_run 13 = .ok (.dup, 1) := by decide +kernel
theorem dX3_run_14 : decode cX3_run 14 = .ok (.ldc 137, 2) := by decide +kernel
theorem dX3_run_16 : decode cX3_run 16 = .ok (.invokespecial 139, 3) := by decide +kernel
theorem dX3_run_19 : decode cX3_run 19 = .ok (.athrow, 1) := by decide +kernel
theorem dX3_run_20 : decode cX3_run 20 = .ok (.aload_n 0, 1) := by decide +kernel
theorem dX3_run_21 : decode cX3_run 21 = .ok (.invokevirtual 44, 3) := by decide +kernel
theorem dX3_run_24 : decode cX3_run 24 = .ok (.aload_n 0, 1) := by decide +kernel
theorem dX3_run_25 : decode cX3_run 25 = .ok (.getfield 30, 3) := by decide +kernel
theorem dX3_run_28 : decode cX3_run 28 = .ok (.invokevirtual 140, 3) := by decide +kernel
theorem dX3_run_31 : decode cX3_run 31 = .ok (.iconst 0, 1) := by decide +kernel
theorem dX3_run_32 : decode cX3_run 32 = .ok (.istore_n 1, 1) := by decide +kernel
theorem dX3_run_33 : decode cX3_run 33 = .ok (.iload_n 1, 1) := by decide +kernel
theorem dX3_run_34 : decode cX3_run 34 = .ok (.bipush 60, 2) := by decide +kernel
theorem dX3_run_36 : decode cX3_run 36 = .ok (.if_icmp .ge 26, 3) := by decide +kernel
theorem dX3_run_39 : decode cX3_run 39 = .ok (.aload_n 0, 1) := by decide +kernel
theorem dX3_run_40 : decode cX3_run 40 = .ok (.getfield 30, 3) := by decide +kernel
theorem dX3_run_43 : decode cX3_run 43 = .ok (.invokevirtual 143, 3) := by decide +kernel
theorem dX3_run_46 : decode cX3_run 46 = .ok (.ifCond .eq 16, 3) := by decide +kernel
theorem dX3_run_49 : decode cX3_run 49 = .ok (.aload_n 0, 1) := by decide +kernel
theorem dX3_run_50 : decode cX3_run 50 = .ok (.invokevirtual 146, 3) := by decide +kernel
theorem dX3_run_53 : decode cX3_run 53 = .ok (.ifCond .eq 9, 3) := by decide +kernel
theorem dX3_run_56 : decode cX3_run 56 = .ok (.iinc 1 1, 3) := by decide +kernel
theorem dX3_run_59 : decode cX3_run 59 = .ok (.goto (-26), 3) := by decide +kernel
theorem dX3_run_62 : decode cX3_run 62 = .ok (.aload_n 0, 1) := by decide +kernel
theorem dX3_run_63 : decode cX3_run 63 = .ok (.getfield 30, 3) := by decide +kernel
theorem dX3_run_66 : decode cX3_run 66 = .ok (.iconst 0, 1) := by decide +kernel
theorem dX3_run_67 : decode cX3_run 67 = .ok (.putfield 120, 3) := by decide +kernel
theorem dX3_run_70 : decode cX3_run 70 = .ok (.iload_n 1, 1) := by decide +kernel
theorem dX3_run_71 : decode cX3_run 71 = .ok (.ireturn, 1) := by decide +kernel
theorem dX3_undo_0 : decode cX3_undo 0 = .ok (.aload_n 0, 1) := by decide +kernel
theorem dX3_undo_1 : decode cX3_undo 1 = .ok (.getfield 20, 3) := by decide +kernel
theorem dX3_undo_4 : decode cX3_undo 4 = .ok (.ifCond .ne 13, 3) := by decide +kernel
theorem dX3_undo_7 : decode cX3_undo 7 = .ok (.new 37, 3) := by decide +kernel
theorem dX3_undo_10 : decode cX3_undo 10 = .ok (.dup, 1) := by decide +kernel
theorem dX3_undo_11 : decode cX3_undo 11 = .ok (.ldc 149, 2) := by decide +kernel
theorem dX3_undo_13 : decode cX3_undo 13 = .ok (.invokespecial 41, 3) := by decide +kernel
theorem dX3_undo_16 : decode cX3_undo 16 = .ok (.athrow, 1) := by decide +kernel
theorem dX3_undo_17 : decode cX3_undo 17 = .ok (.aload_n 0, 1) := by decide +kernel
theorem dX3_undo_18 : decode cX3_undo 18 = .ok (.aload_n 0, 1) := by decide +kernel
theorem dX3_undo_19 : decode cX3_undo 19 = .ok (.getfield 24, 3) := by decide +kernel
theorem dX3_undo_22 : decode cX3_undo 22 = .ok (.ifCond .ne 7, 3) := by decide +kernel
theorem dX3_undo_25 : decode cX3_undo 25 = .ok (.iconst 5, 1) := by decide +kernel
theorem dX3_undo_26 : decode cX3_undo 26 = .ok (.goto 9, 3) := by decide +kernel
theorem dX3_undo_29 : decode cX3_undo 29 = .ok (.aload_n 0, 1) := by decide +kernel
theorem dX3_undo_30 : decode cX3_undo 30 = .ok (.getfield 24, 3) := by decide +kernel
theorem dX3_undo_33 : decode cX3_undo 33 = .ok (.iconst 1, 1) := by decide +kernel
theorem dX3_undo_34 : decode cX3_undo 34 = .ok (.isub, 1) := by decide +kernel
theorem dX3_undo_35 : decode cX3_undo 35 = .ok (.putfield 24, 3) := by decide +kernel
theorem dX3_undo_38 : decode cX3_undo 38 = .ok (.aload_n 0, 1) := by decide +kernel
theorem dX3_undo_39 : decode cX3_undo 39 = .ok (.dup, 1) := by decide +kernel
theorem dX3_undo_40 : decode cX3_undo 40 = .ok (.getfield 20, 3) := by decide +kernel
theorem dX3_undo_43 : decode cX3_undo 43 = .ok (.iconst 1, 1) := by decide +kernel
theorem dX3_undo_44 : decode cX3_undo 44 = .ok (.isub, 1) := by decide +kernel
theorem dX3_undo_45 : decode cX3_undo 45 = .ok (.putfield 20, 3) := by decide +kernel
theorem dX3_undo_48 : decode cX3_undo 48 = .ok (.aload_n 0, 1) := by decide +kernel
theorem dX3_undo_49 : decode cX3_undo 49 = .ok (.getfield 10, 3) := by decide +kernel
theorem dX3_undo_52 : decode cX3_undo 52 = .ok (.aload_n 0, 1) := by decide +kernel
theorem dX3_undo_53 : decode cX3_undo 53 = .ok (.getfield 16, 3) := by decide +kernel
theorem dX3_undo_56 : decode cX3_undo 56 = .ok (.aload_n 0, 1) := by decide +kernel
theorem dX3_undo_57 : decode cX3_undo 57 = .ok (.getfield 24, 3) := by decide +kernel
theorem dX3_undo_60 : decode cX3_undo 60 = .ok (.aaload, 1) := by decide +kernel
theorem dX3_undo_61 : decode cX3_undo 61 = .ok (.invokevirtual 151, 3) := by decide +kernel
theorem dX3_undo_64 : decode cX3_undo 64 = .ok (.aload_n 0, 1) := by decide +kernel
theorem dX3_undo_65 : decode cX3_undo 65 = .ok (.getfield 20, 3) := by decide +kernel
theorem dX3_undo_68 : decode cX3_undo 68 = .ok (.ireturn, 1) := by decide +kernel
theorem dX3_phase_0 : decode cX3_phase 0 = .ok (.aload_n 0, 1) := by decide +kernel
theorem dX3_phase_1 : decode cX3_phase 1 = .ok (.iload_n 1, 1) := by decide +kernel
theorem dX3_phase_2 : decode cX3_phase 2 = .ok (.invokevirtual 51, 3) := by decide +kernel
theorem dX3_phase_5 : decode cX3_phase 5 = .ok (.iload_n 2, 1) := by decide +kernel
theorem dX3_phase_6 : decode cX3_phase 6 = .ok (.iconst 0, 1) := by decide +kernel
theorem dX3_phase_7 : decode cX3_phase 7 = .ok (.bipush 13, 2) := by decide +kernel
theorem dX3_phase_9 : decode cX3_phase 9 = .ok (.invokestatic 58, 3) := by decide +kernel
theorem dX3_phase_12 : decode cX3_phase 12 = .ok (.aload_n 0, 1) := by decide +kernel
theorem dX3_phase_13 : decode cX3_phase 13 = .ok (.getfield 10, 3) := by decide +kernel
theorem dX3_phase_16 : decode cX3_phase 16 = .ok (.getfield 65, 3) := by decide +kernel
theorem dX3_phase_19 : decode cX3_phase 19 = .ok (.iload_n 1, 1) := by decide +kernel
theorem dX3_phase_20 : decode cX3_phase 20 = .ok (.aaload, 1) := by decide +kernel
theorem dX3_phase_21 : decode cX3_phase 21 = .ok (.astore_n 3, 1) := by decide +kernel
theorem dX3_phase_22 : decode cX3_phase 22 = .ok (.iload_n 2, 1) := by decide +kernel
theorem dX3_phase_23 : decode cX3_phase 23 = .ok (.tableswitch 145 0 12 #[65, 70, 75, 80, 85, 97, 102, 107, 112, 117, 130, 135, 140], 65) := by decide +kernel
theorem dX3_phase_88 : decode cX3_phase 88 = .ok (.aload_n 3, 1) := by decide +kernel
theorem dX3_phase_89 : decode cX3_phase 89 = .ok (.getfield 155, 3) := by decide +kernel
theorem dX3_phase_92 : decode cX3_phase 92 = .ok (.ireturn, 1) := by decide +kernel
theorem dX3_phase_93 : decode cX3_phase 93 = .ok (.aload_n 3, 1) := by decide +kernel
theorem dX3_phase_94 : decode cX3_phase 94 = .ok (.invokevirtual 158, 3) := by decide +kernel
theorem dX3_phase_97 : decode cX3_phase 97 = .ok (.ireturn, 1) := by decide +kernel
theorem dX3_phase_98 : decode cX3_phase 98 = .ok (.aload_n 3, 1) := by decide +kernel
theorem dX3_phase_99 : decode cX3_phase 99 = .ok (.invokevirtual 161, 3) := by decide +kernel
theorem dX3_phase_102 : decode cX3_phase 102 = .ok (.ireturn, 1) := by decide +kernel
theorem dX3_phase_103 : decode cX3_phase 103 = .ok (.aload_n 3, 1) := by decide +kernel
theorem dX3_phase_104 : decode cX3_phase 104 = .ok (.invokevirtual 164, 3) := by decide +kernel
theorem dX3_phase_107 : decode cX3_phase 107 = .ok (.ireturn, 1) := by decide +kernel
theorem dX3_phase_108 : decode cX3_phase 108 = .ok (.aload_n 3, 1) := by decide +kernel
theorem dX3_phase_109 : decode cX3_phase 109 = .ok (.aload_n 0, 1) := by decide +kernel
theorem dX3_phase_110 : decode cX3_phase 110 = .ok (.getfield 10, 3) := by decide +kernel
theorem dX3_phase_113 : decode cX3_phase 113 = .ok (.getfield 167, 3) := by decide +kernel
theorem dX3_phase_116 : decode cX3_phase 116 = .ok (.invokevirtual 170, 3) := by decide +kernel
theorem dX3_phase_119 : decode cX3_phase 119 = .ok (.ireturn, 1) := by decide +kernel
theorem dX3_phase_120 : decode cX3_phase 120 = .ok (.aload_n 3, 1) := by decide +kernel
theorem dX3_phase_121 : decode cX3_phase 121 = .ok (.getfield 173, 3) := by decide +kernel
theorem dX3_phase_124 : decode cX3_phase 124 = .ok (.ireturn, 1) := by decide +kernel
theorem dX3_phase_125 : decode cX3_phase 125 = .ok (.aload_n 3, 1) := by decide +kernel
theorem dX3_phase_126 : decode cX3_phase 126 = .ok (.getfield 176, 3) := by decide +kernel
theorem dX3_phase_129 : decode cX3_phase 129 = .ok (.ireturn, 1) := by decide +kernel
theorem dX3_phase_130 : decode cX3_phase 130 = .ok (.aload_n 3, 1) := by decide +kernel
theorem dX3_phase_131 : decode cX3_phase 131 = .ok (.getfield 179, 3) := by decide +kernel
theorem dX3_phase_134 : decode cX3_phase 134 = .ok (.ireturn, 1) := by decide +kernel
theorem dX3_phase_135 : decode cX3_phase 135 = .ok (.aload_n 3, 1) := by decide +kernel
theorem dX3_phase_136 : decode cX3_phase 136 = .ok (.invokevirtual 182, 3) := by decide +kernel
theorem dX3_phase_139 : decode cX3_phase 139 = .ok (.ireturn, 1) := by decide +kernel
theorem dX3_phase_140 : decode cX3_phase 140 = .ok (.aload_n 3, 1) := by decide +kernel
theorem dX3_phase_141 : decode cX3_phase 141 = .ok (.getfield 185, 3) := by decide +kernel
theorem dX3_phase_144 : decode cX3_phase 144 = .ok (.ifCond .eq 7, 3) := by decide +kernel
theorem dX3_phase_147 : decode cX3_phase 147 = .ok (.iconst 1, 1) := by decide +kernel
theorem dX3_phase_148 : decode cX3_phase 148 = .ok (.goto 4, 3) := by decide +kernel
theorem dX3_phase_151 : decode cX3_phase 151 = .ok (.iconst 0, 1) := by decide +kernel
theorem dX3_phase_152 : decode cX3_phase 152 = .ok (.ireturn, 1) := by decide +kernel
theorem dX3_phase_153 : decode cX3_phase 153 = .ok (.aload_n 3, 1) := by decide +kernel
theorem dX3_phase_154 : decode cX3_phase 154 = .ok (.getfield 189, 3) := by decide +kernel
theorem dX3_phase_157 : decode cX3_phase 157 = .ok (.ireturn, 1) := by decide +kernel
theorem dX3_phase_158 : decode cX3_phase 158 = .ok (.aload_n 3, 1) := by decide +kernel
theorem dX3_phase_159 : decode cX3_phase 159 = .ok (.invokevirtual 192, 3) := by decide +kernel
theorem dX3_phase_162 : decode cX3_phase 162 = .ok (.ireturn, 1) := by decide +kernel
theorem dX3_phase_163 : decode cX3_phase 163 = .ok (.aload_n 3, 1) := by decide +kernel
theorem dX3_phase_164 : decode cX3_phase 164 = .ok (.invokevirtual 195, 3) := by decide +kernel
theorem dX3_phase_167 : decode cX3_phase 167 = .ok (.ireturn, 1) := by decide +kernel
theorem dX3_phase_168 : decode cX3_phase 168 = .ok (.aload_n 3, 1) := by decide +kernel
theorem dX3_phase_169 : decode cX3_phase 169 = .ok (.aload_n 0, 1) := by decide +kernel
theorem dX3_phase_170 : decode cX3_phase 170 = .ok (.getfield 10, 3) := by decide +kernel
theorem dX3_phase_173 : decode cX3_phase 173 = .ok (.getfield 94, 3) := by decide +kernel
theorem dX3_phase_176 : decode cX3_phase 176 = .ok (.iconst 3, 1) := by decide +kernel
theorem dX3_phase_177 : decode cX3_phase 177 = .ok (.iaload, 1) := by decide +kernel
theorem dX3_phase_178 : decode cX3_phase 178 = .ok (.invokevirtual 198, 3) := by decide +kernel
theorem dX3_phase_181 : decode cX3_phase 181 = .ok (.ireturn, 1) := by decide +kernel
theorem dX3_use_0 : decode cX3_use 0 = .ok (.aload_n 0, 1) := by decide +kernel
theorem dX3_use_1 : decode cX3_use 1 = .ok (.iload_n 1, 1) := by decide +kernel
theorem dX3_use_2 : decode cX3_use 2 = .ok (.invokevirtual 51, 3) := by decide +kernel
theorem dX3_use_5 : decode cX3_use 5 = .ok (.iload_n 2, 1) := by decide +kernel
theorem dX3_use_6 : decode cX3_use 6 = .ok (.invokestatic 55, 3) := by decide +kernel
theorem dX3_use_9 : decode cX3_use 9 = .ok (.iload_n 3, 1) := by decide +kernel
theorem dX3_use_10 : decode cX3_use 10 = .ok (.iconst 0, 1) := by decide +kernel
theorem dX3_use_11 : decode cX3_use 11 = .ok (.iconst 4, 1) := by decide +kernel
theorem dX3_use_12 : decode cX3_use 12 = .ok (.invokestatic 58, 3) := by decide +kernel
theorem dX3_use_15 : decode cX3_use 15 = .ok (.aload_n 0, 1) := by decide +kernel
theorem dX3_use_16 : decode cX3_use 16 = .ok (.getfield 10, 3) := by decide +kernel
theorem dX3_use_19 : decode cX3_use 19 = .ok (.getfield 65, 3) := by decide +kernel
theorem dX3_use_22 : decode cX3_use 22 = .ok (.iload_n 1, 1) := by decide +kernel
theorem dX3_use_23 : decode cX3_use 23 = .ok (.aaload, 1) := by decide +kernel
theorem dX3_use_24 : decode cX3_use 24 = .ok (.astore 4, 2) := by decide +kernel
theorem dX3_use_26 : decode cX3_use 26 = .ok (.iload_n 3, 1) := by decide +kernel
theorem dX3_use_27 : decode cX3_use 27 = .ok (.tableswitch 60 0 3 #[29, 37, 45, 53], 29) := by decide +kernel
theorem dX3_use_56 : decode cX3_use 56 = .ok (.aload 4, 2) := by decide +kernel
theorem dX3_use_58 : decode cX3_use 58 = .ok (.getfield 75, 3) := by decide +kernel
theorem dX3_use_61 : decode cX3_use 61 = .ok (.iload_n 2, 1) := by decide +kernel
theorem dX3_use_62 : decode cX3_use 62 = .ok (.iaload, 1) := by decide +kernel
theorem dX3_use_63 : decode cX3_use 63 = .ok (.ireturn, 1) := by decide +kernel
theorem dX3_use_64 : decode cX3_use 64 = .ok (.aload 4, 2) := by decide +kernel
theorem dX3_use_66 : decode cX3_use 66 = .ok (.getfield 201, 3) := by decide +kernel
theorem dX3_use_69 : decode cX3_use 69 = .ok (.iload_n 2, 1) := by decide +kernel
theorem dX3_use_70 : decode cX3_use 70 = .ok (.iaload, 1) := by decide +kernel
theorem dX3_use_71 : decode cX3_use 71 = .ok (.ireturn, 1) := by decide +kernel
theorem dX3_use_72 : decode cX3_use 72 = .ok (.aload 4, 2) := by decide +kernel
theorem dX3_use_74 : decode cX3_use 74 = .ok (.getfield 204, 3) := by decide +kernel
theorem dX3_use_77 : decode cX3_use 77 = .ok (.iload_n 2, 1) := by decide +kernel
theorem dX3_use_78 : decode cX3_use 78 = .ok (.iaload, 1) := by decide +kernel
theorem dX3_use_79 : decode cX3_use 79 = .ok (.ireturn, 1) := by decide +kernel
theorem dX3_use_80 : decode cX3_use 80 = .ok (.aload 4, 2) := by decide +kernel
theorem dX3_use_82 : decode cX3_use 82 = .ok (.iload_n 2, 1) := by decide +kernel
theorem dX3_use_83 : decode cX3_use 83 = .ok (.invokevirtual 207, 3) := by decide +kernel
theorem dX3_use_86 : decode cX3_use 86 = .ok (.ireturn, 1) := by decide +kernel
theorem dX3_use_87 : decode cX3_use 87 = .ok (.aload 4, 2) := by decide +kernel
theorem dX3_use_89 : decode cX3_use 89 = .ok (.iload_n 2, 1) := by decide +kernel
theorem dX3_use_90 : decode cX3_use 90 = .ok (.invokevirtual 210, 3) := by decide +kernel
theorem dX3_use_93 : decode cX3_use 93 = .ok (.ireturn, 1) := by decide +kernel
theorem dX3_instalment_0 : decode cX3_instalment 0 = .ok (.aload_n 0, 1) := by decide +kernel
theorem dX3_instalment_1 : decode cX3_instalment 1 = .ok (.iload_n 1, 1) := by decide +kernel
theorem dX3_instalment_2 : decode cX3_instalment 2 = .ok (.invokevirtual 51, 3) := by decide +kernel
theorem dX3_instalment_5 : decode cX3_instalment 5 = .ok (.iload_n 2, 1) := by decide +kernel
theorem dX3_instalment_6 : decode cX3_instalment 6 = .ok (.iconst 0, 1) := by decide +kernel
theorem dX3_instalment_7 : decode cX3_instalment 7 = .ok (.iconst 3, 1) := by decide +kernel
theorem dX3_instalment_8 : decode cX3_instalment 8 = .ok (.invokestatic 58, 3) := by decide +kernel
theorem dX3_instalment_11 : decode cX3_instalment 11 = .ok (.iload_n 3, 1) := by decide +kernel
theorem dX3_instalment_12 : decode cX3_instalment 12 = .ok (.iconst 0, 1) := by decide +kernel
theorem dX3_instalment_13 : decode cX3_instalment 13 = .ok (.iconst 2, 1) := by decide +kernel
theorem dX3_instalment_14 : decode cX3_instalment 14 = .ok (.invokestatic 58, 3) := by decide +kernel
theorem dX3_instalment_17 : decode cX3_instalment 17 = .ok (.aload_n 0, 1) := by decide +kernel
theorem dX3_instalment_18 : decode cX3_instalment 18 = .ok (.getfield 10, 3) := by decide +kernel
theorem dX3_instalment_21 : decode cX3_instalment 21 = .ok (.getfield 65, 3) := by decide +kernel
theorem dX3_instalment_24 : decode cX3_instalment 24 = .ok (.iload_n 1, 1) := by decide +kernel
theorem dX3_instalment_25 : decode cX3_instalment 25 = .ok (.aaload, 1) := by decide +kernel
theorem dX3_instalment_26 : decode cX3_instalment 26 = .ok (.astore 4, 2) := by decide +kernel
theorem dX3_instalment_28 : decode cX3_instalment 28 = .ok (.iload_n 2, 1) := by decide +kernel
theorem dX3_instalment_29 : decode cX3_instalment 29 = .ok (.aload 4, 2) := by decide +kernel
theorem dX3_instalment_31 : decode cX3_instalment 31 = .ok (.getfield 189, 3) := by decide +kernel
theorem dX3_instalment_34 : decode cX3_instalment 34 = .ok (.if_icmp .lt 5, 3) := by decide +kernel
theorem dX3_instalment_37 : decode cX3_instalment 37 = .ok (.iconst (-1), 1) := by decide +kernel
theorem dX3_instalment_38 : decode cX3_instalment 38 = .ok (.ireturn, 1) := by decide +kernel
theorem dX3_instalment_39 : decode cX3_instalment 39 = .ok (.iload_n 3, 1) := by decide +kernel
theorem dX3_instalment_40 : decode cX3_instalment 40 = .ok (.lookupswitch 44 #[(0, 28), (1, 36)], 28) := by decide +kernel
theorem dX3_instalment_68 : decode cX3_instalment 68 = .ok (.aload 4, 2) := by decide +kernel
theorem dX3_instalment_70 : decode cX3_instalment 70 = .ok (.getfield 213, 3) := by decide +kernel
theorem dX3_instalment_73 : decode cX3_instalment 73 = .ok (.iload_n 2, 1) := by decide +kernel
theorem dX3_instalment_74 : decode cX3_instalment 74 = .ok (.iaload, 1) := by decide +kernel
theorem dX3_instalment_75 : decode cX3_instalment 75 = .ok (.ireturn, 1) := by decide +kernel
theorem dX3_instalment_76 : decode cX3_instalment 76 = .ok (.aload 4, 2) := by decide +kernel
theorem dX3_instalment_78 : decode cX3_instalment 78 = .ok (.getfield 216, 3) := by decide +kernel
theorem dX3_instalment_81 : decode cX3_instalment 81 = .ok (.iload_n 2, 1) := by decide +kernel
theorem dX3_instalment_82 : decode cX3_instalment 82 = .ok (.iaload, 1) := by decide +kernel
theorem dX3_instalment_83 : decode cX3_instalment 83 = .ok (.ireturn, 1) := by decide +kernel
theorem dX3_instalment_84 : decode cX3_instalment 84 = .ok (.aload 4, 2) := by decide +kernel
theorem dX3_instalment_86 : decode cX3_instalment 86 = .ok (.iload_n 2, 1) := by decide +kernel
theorem dX3_instalment_87 : decode cX3_instalment 87 = .ok (.invokevirtual 219, 3) := by decide +kernel
theorem dX3_instalment_90 : decode cX3_instalment 90 = .ok (.ireturn, 1) := by decide +kernel
theorem dX3_count_0 : decode cX3_count 0 = .ok (.iload_n 1, 1) := by decide +kernel
theorem dX3_count_1 : decode cX3_count 1 = .ok (.iconst 0, 1) := by decide +kernel
theorem dX3_count_2 : decode cX3_count 2 = .ok (.bipush 15, 2) := by decide +kernel
theorem dX3_count_4 : decode cX3_count 4 = .ok (.invokestatic 58, 3) := by decide +kernel
theorem dX3_count_7 : decode cX3_count 7 = .ok (.iload_n 1, 1) := by decide +kernel
theorem dX3_count_8 : decode cX3_count 8 = .ok (.tableswitch 141 0 15 #[80, 141, 141, 88, 141, 141, 141, 141, 141, 141, 141, 96, 106, 116, 126, 136], 80) := by decide +kernel
theorem dX3_count_88 : decode cX3_count 88 = .ok (.aload_n 0, 1) := by decide +kernel
theorem dX3_count_89 : decode cX3_count 89 = .ok (.getfield 10, 3) := by decide +kernel
theorem dX3_count_92 : decode cX3_count 92 = .ok (.getfield 34, 3) := by decide +kernel
theorem dX3_count_95 : decode cX3_count 95 = .ok (.ireturn, 1) := by decide +kernel
theorem dX3_count_96 : decode cX3_count 96 = .ok (.aload_n 0, 1) := by decide +kernel
theorem dX3_count_97 : decode cX3_count 97 = .ok (.getfield 10, 3) := by decide +kernel
theorem dX3_count_100 : decode cX3_count 100 = .ok (.getfield 167, 3) := by decide +kernel
theorem dX3_count_103 : decode cX3_count 103 = .ok (.ireturn, 1) := by decide +kernel
theorem dX3_count_104 : decode cX3_count 104 = .ok (.aload_n 0, 1) := by decide +kernel
theorem dX3_count_105 : decode cX3_count 105 = .ok (.getfield 10, 3) := by decide +kernel
theorem dX3_count_108 : decode cX3_count 108 = .ok (.getfield 222, 3) := by decide +kernel
theorem dX3_count_111 : decode cX3_count 111 = .ok (.iconst 0, 1) := by decide +kernel
theorem dX3_count_112 : decode cX3_count 112 = .ok (.iaload, 1) := by decide +kernel
theorem dX3_count_113 : decode cX3_count 113 = .ok (.ireturn, 1) := by decide +kernel
theorem dX3_count_114 : decode cX3_count 114 = .ok (.aload_n 0, 1) := by decide +kernel
theorem dX3_count_115 : decode cX3_count 115 = .ok (.getfield 10, 3) := by decide +kernel
theorem dX3_count_118 : decode cX3_count 118 = .ok (.getfield 222, 3) := by decide +kernel
theorem dX3_count_121 : decode cX3_count 121 = .ok (.iconst 1, 1) := by decide +kernel
theorem dX3_count_122 : decode cX3_count 122 = .ok (.iaload, 1) := by decide +kernel
theorem dX3_count_123 : decode cX3_count 123 = .ok (.ireturn, 1) := by decide +kernel
theorem dX3_count_124 : decode cX3_count 124 = .ok (.aload_n 0, 1) := by decide +kernel
theorem dX3_count_125 : decode cX3_count 125 = .ok (.getfield 10, 3) := by decide +kernel
theorem dX3_count_128 : decode cX3_count 128 = .ok (.getfield 222, 3) := by decide +kernel
theorem dX3_count_131 : decode cX3_count 131 = .ok (.iconst 2, 1) := by decide +kernel
theorem dX3_count_132 : decode cX3_count 132 = .ok (.iaload, 1) := by decide +kernel
theorem dX3_count_133 : decode cX3_count 133 = .ok (.ireturn, 1) := by decide +kernel
theorem dX3_count_134 : decode cX3_count 134 = .ok (.aload_n 0, 1) := by decide +kernel
theorem dX3_count_135 : decode cX3_count 135 = .ok (.getfield 10, 3) := by decide +kernel
theorem dX3_count_138 : decode cX3_count 138 = .ok (.getfield 222, 3) := by decide +kernel
theorem dX3_count_141 : decode cX3_count 141 = .ok (.iconst 3, 1) := by decide +kernel
theorem dX3_count_142 : decode cX3_count 142 = .ok (.iaload, 1) := by decide +kernel
theorem dX3_count_143 : decode cX3_count 143 = .ok (.ireturn, 1) := by decide +kernel
theorem dX3_count_144 : decode cX3_count 144 = .ok (.aload_n 0, 1) := by decide +kernel
theorem dX3_count_145 : decode cX3_count 145 = .ok (.getfield 20, 3) := by decide +kernel
theorem dX3_count_148 : decode cX3_count 148 = .ok (.ireturn, 1) := by decide +kernel
theorem dX3_count_149 : decode cX3_count 149 = .ok (.aload_n 0, 1) := by decide +kernel
theorem dX3_count_150 : decode cX3_count 150 = .ok (.getfield 10, 3) := by decide +kernel
theorem dX3_count_153 : decode cX3_count 153 = .ok (.iload_n 1, 1) := by decide +kernel
theorem dX3_count_154 : decode cX3_count 154 = .ok (.invokevirtual 223, 3) := by decide +kernel
theorem dX3_count_157 : decode cX3_count 157 = .ok (.ireturn, 1) := by decide +kernel
theorem dX3_setting_0 : decode cX3_setting 0 = .ok (.iload_n 1, 1) := by decide +kernel
theorem dX3_setting_1 : decode cX3_setting 1 = .ok (.invokestatic 85, 3) := by decide +kernel
theorem dX3_setting_4 : decode cX3_setting 4 = .ok (.aload_n 0, 1) := by decide +kernel
theorem dX3_setting_5 : decode cX3_setting 5 = .ok (.getfield 10, 3) := by decide +kernel
theorem dX3_setting_8 : decode cX3_setting 8 = .ok (.getfield 94, 3) := by decide +kernel
theorem dX3_setting_11 : decode cX3_setting 11 = .ok (.iload_n 1, 1) := by decide +kernel
theorem dX3_setting_12 : decode cX3_setting 12 = .ok (.iaload, 1) := by decide +kernel
theorem dX3_setting_13 : decode cX3_setting 13 = .ok (.ireturn, 1) := by decide +kernel
theorem dX3_whyNot_0 : decode cX3_whyNot 0 = .ok (.aload_n 0, 1) := by decide +kernel
theorem dX3_whyNot_1 : decode cX3_whyNot 1 = .ok (.iload_n 2, 1) := by decide +kernel
theorem dX3_whyNot_2 : decode cX3_whyNot 2 = .ok (.invokevirtual 51, 3) := by decide +kernel
theorem dX3_whyNot_5 : decode cX3_whyNot 5 = .ok (.iload_n 3, 1) := by decide +kernel
theorem dX3_whyNot_6 : decode cX3_whyNot 6 = .ok (.invokestatic 55, 3) := by decide +kernel
theorem dX3_whyNot_9 : decode cX3_whyNot 9 = .ok (.iload_n 1, 1) := by decide +kernel
theorem dX3_whyNot_10 : decode cX3_whyNot 10 = .ok (.iconst 0, 1) := by decide +kernel
theorem dX3_whyNot_11 : decode cX3_whyNot 11 = .ok (.iconst 4, 1) := by decide +kernel
theorem dX3_whyNot_12 : decode cX3_whyNot 12 = .ok (.invokestatic 58, 3) := by decide +kernel
theorem dX3_whyNot_15 : decode cX3_whyNot 15 = .ok (.aload_n 0, 1) := by decide +kernel
theorem dX3_whyNot_16 : decode cX3_whyNot 16 = .ok (.getfield 10, 3) := by decide +kernel
theorem dX3_whyNot_19 : decode cX3_whyNot 19 = .ok (.iload_n 1, 1) := by decide +kernel
theorem dX3_whyNot_20 : decode cX3_whyNot 20 = .ok (.iload_n 2, 1) := by decide +kernel
theorem dX3_whyNot_21 : decode cX3_whyNot 21 = .ok (.iload_n 3, 1) := by decide +kernel
theorem dX3_whyNot_22 : decode cX3_whyNot 22 = .ok (.invokevirtual 226, 3) := by decide +kernel
theorem dX3_whyNot_25 : decode cX3_whyNot 25 = .ok (.ireturn, 1) := by decide +kernel
theorem dX3_ifBegun_0 : decode cX3_ifBegun 0 = .ok (.aload_n 0, 1) := by decide +kernel
theorem dX3_ifBegun_1 : decode cX3_ifBegun 1 = .ok (.iload_n 1, 1) := by decide +kernel
theorem dX3_ifBegun_2 : decode cX3_ifBegun 2 = .ok (.invokevirtual 51, 3) := by decide +kernel
theorem dX3_ifBegun_5 : decode cX3_ifBegun 5 = .ok (.iload_n 2, 1) := by decide +kernel
theorem dX3_ifBegun_6 : decode cX3_ifBegun 6 = .ok (.iconst 0, 1) := by decide +kernel
theorem dX3_ifBegun_7 : decode cX3_ifBegun 7 = .ok (.iconst 2, 1) := by decide +kernel
theorem dX3_ifBegun_8 : decode cX3_ifBegun 8 = .ok (.invokestatic 58, 3) := by decide +kernel
theorem dX3_ifBegun_11 : decode cX3_ifBegun 11 = .ok (.aload_n 0, 1) := by decide +kernel
theorem dX3_ifBegun_12 : decode cX3_ifBegun 12 = .ok (.getfield 10, 3) := by decide +kernel
theorem dX3_ifBegun_15 : decode cX3_ifBegun 15 = .ok (.iconst 1, 1) := by decide +kernel
theorem dX3_ifBegun_16 : decode cX3_ifBegun 16 = .ok (.iload_n 1, 1) := by decide +kernel
theorem dX3_ifBegun_17 : decode cX3_ifBegun 17 = .ok (.iconst 0, 1) := by decide +kernel
theorem dX3_ifBegun_18 : decode cX3_ifBegun 18 = .ok (.invokevirtual 226, 3) := by decide +kernel
theorem dX3_ifBegun_21 : decode cX3_ifBegun 21 = .ok (.ifCond .eq 5, 3) := by decide +kernel
theorem dX3_ifBegun_24 : decode cX3_ifBegun 24 = .ok (.iconst (-1), 1) := by decide +kernel
theorem dX3_ifBegun_25 : decode cX3_ifBegun 25 = .ok (.ireturn, 1) := by decide +kernel
theorem dX3_ifBegun_26 : decode cX3_ifBegun 26 = .ok (.aload_n 0, 1) := by decide +kernel
theorem dX3_ifBegun_27 : decode cX3_ifBegun 27 = .ok (.getfield 10, 3) := by decide +kernel
theorem dX3_ifBegun_30 : decode cX3_ifBegun 30 = .ok (.getfield 65, 3) := by decide +kernel
theorem dX3_ifBegun_33 : decode cX3_ifBegun 33 = .ok (.iload_n 1, 1) := by decide +kernel
theorem dX3_ifBegun_34 : decode cX3_ifBegun 34 = .ok (.aaload, 1) := by decide +kernel
theorem dX3_ifBegun_35 : decode cX3_ifBegun 35 = .ok (.invokevirtual 158, 3) := by decide +kernel
theorem dX3_ifBegun_38 : decode cX3_ifBegun 38 = .ok (.aload_n 0, 1) := by decide +kernel
theorem dX3_ifBegun_39 : decode cX3_ifBegun 39 = .ok (.getfield 10, 3) := by decide +kernel
theorem dX3_ifBegun_42 : decode cX3_ifBegun 42 = .ok (.getfield 65, 3) := by decide +kernel
theorem dX3_ifBegun_45 : decode cX3_ifBegun 45 = .ok (.iload_n 1, 1) := by decide +kernel
theorem dX3_ifBegun_46 : decode cX3_ifBegun 46 = .ok (.aaload, 1) := by decide +kernel
theorem dX3_ifBegun_47 : decode cX3_ifBegun 47 = .ok (.invokevirtual 161, 3) := by decide +kernel
theorem dX3_ifBegun_50 : decode cX3_ifBegun 50 = .ok (.isub, 1) := by decide +kernel
theorem dX3_ifBegun_51 : decode cX3_ifBegun 51 = .ok (.istore_n 3, 1) := by decide +kernel
theorem dX3_ifBegun_52 : decode cX3_ifBegun 52 = .ok (.iload_n 3, 1) := by decide +kernel
theorem dX3_ifBegun_53 : decode cX3_ifBegun 53 = .ok (.invokestatic 230, 3) := by decide +kernel
theorem dX3_ifBegun_56 : decode cX3_ifBegun 56 = .ok (.istore 4, 2) := by decide +kernel
theorem dX3_ifBegun_58 : decode cX3_ifBegun 58 = .ok (.iload_n 2, 1) := by decide +kernel
theorem dX3_ifBegun_59 : decode cX3_ifBegun 59 = .ok (.lookupswitch 30 #[(0, 25), (1, 27)], 25) := by decide +kernel
theorem dX3_ifBegun_84 : decode cX3_ifBegun 84 = .ok (.iload_n 3, 1) := by decide +kernel
theorem dX3_ifBegun_85 : decode cX3_ifBegun 85 = .ok (.ireturn, 1) := by decide +kernel
theorem dX3_ifBegun_86 : decode cX3_ifBegun 86 = .ok (.iload 4, 2) := by decide +kernel
theorem dX3_ifBegun_88 : decode cX3_ifBegun 88 = .ok (.ireturn, 1) := by decide +kernel
theorem dX3_ifBegun_89 : decode cX3_ifBegun 89 = .ok (.iload_n 3, 1) := by decide +kernel
theorem dX3_ifBegun_90 : decode cX3_ifBegun 90 = .ok (.iload 4, 2) := by decide +kernel
theorem dX3_ifBegun_92 : decode cX3_ifBegun 92 = .ok (.iload 4, 2) := by decide +kernel
theorem dX3_ifBegun_94 : decode cX3_ifBegun 94 = .ok (.iconst 1, 1) := by decide +kernel
theorem dX3_ifBegun_95 : decode cX3_ifBegun 95 = .ok (.isub, 1) := by decide +kernel
theorem dX3_ifBegun_96 : decode cX3_ifBegun 96 = .ok (.invokestatic 233, 3) := by decide +kernel
theorem dX3_ifBegun_99 : decode cX3_ifBegun 99 = .ok (.ireturn, 1) := by decide +kernel
theorem dX3_breaksIn_0 : decode cX3_breaksIn 0 = .ok (.aload_n 0, 1) := by decide +kernel
theorem dX3_breaksIn_1 : decode cX3_breaksIn 1 = .ok (.iload_n 1, 1) := by decide +kernel
theorem dX3_breaksIn_2 : decode cX3_breaksIn 2 = .ok (.invokevirtual 51, 3) := by decide +kernel
theorem dX3_breaksIn_5 : decode cX3_breaksIn 5 = .ok (.aload_n 0, 1) := by decide +kernel
theorem dX3_breaksIn_6 : decode cX3_breaksIn 6 = .ok (.getfield 10, 3) := by decide +kernel
theorem dX3_breaksIn_9 : decode cX3_breaksIn 9 = .ok (.iload_n 1, 1) := by decide +kernel
theorem dX3_breaksIn_10 : decode cX3_breaksIn 10 = .ok (.invokevirtual 236, 3) := by decide +kernel
theorem dX3_breaksIn_13 : decode cX3_breaksIn 13 = .ok (.ireturn, 1) := by decide +kernel
theorem dX3_surchargesIn_0 : decode cX3_surchargesIn 0 = .ok (.iload_n 1, 1) := by decide +kernel
theorem dX3_surchargesIn_1 : decode cX3_surchargesIn 1 = .ok (.iconst 0, 1) := by decide +kernel
theorem dX3_surchargesIn_2 : decode cX3_surchargesIn 2 = .ok (.sipush 500, 3) := by decide +kernel
theorem dX3_surchargesIn_5 : decode cX3_surchargesIn 5 = .ok (.invokestatic 58, 3) := by decide +kernel
theorem dX3_surchargesIn_8 : decode cX3_surchargesIn 8 = .ok (.iconst 0, 1) := by decide +kernel
theorem dX3_surchargesIn_9 : decode cX3_surchargesIn 9 = .ok (.istore_n 2, 1) := by decide +kernel
theorem dX3_surchargesIn_10 : decode cX3_surchargesIn 10 = .ok (.iconst 0, 1) := by decide +kernel
theorem dX3_surchargesIn_11 : decode cX3_surchargesIn 11 = .ok (.istore_n 3, 1) := by decide +kernel
theorem dX3_surchargesIn_12 : decode cX3_surchargesIn 12 = .ok (.iload_n 3, 1) := by decide +kernel
theorem dX3_surchargesIn_13 : decode cX3_surchargesIn 13 = .ok (.aload_n 0, 1) := by decide +kernel
theorem dX3_surchargesIn_14 : decode cX3_surchargesIn 14 = .ok (.getfield 10, 3) := by decide +kernel
theorem dX3_surchargesIn_17 : decode cX3_surchargesIn 17 = .ok (.getfield 34, 3) := by decide +kernel
theorem dX3_surchargesIn_20 : decode cX3_surchargesIn 20 = .ok (.if_icmp .ge 21, 3) := by decide +kernel
theorem dX3_surchargesIn_23 : decode cX3_surchargesIn 23 = .ok (.iload_n 2, 1) := by decide +kernel
theorem dX3_surchargesIn_24 : decode cX3_surchargesIn 24 = .ok (.aload_n 0, 1) := by decide +kernel
theorem dX3_surchargesIn_25 : decode cX3_surchargesIn 25 = .ok (.getfield 10, 3) := by decide +kernel
theorem dX3_surchargesIn_28 : decode cX3_surchargesIn 28 = .ok (.iload_n 3, 1) := by decide +kernel
theorem dX3_surchargesIn_29 : decode cX3_surchargesIn 29 = .ok (.iload_n 1, 1) := by decide +kernel
theorem dX3_surchargesIn_30 : decode cX3_surchargesIn 30 = .ok (.invokevirtual 239, 3) := by decide +kernel
theorem dX3_surchargesIn_33 : decode cX3_surchargesIn 33 = .ok (.iadd, 1) := by decide +kernel
theorem dX3_surchargesIn_34 : decode cX3_surchargesIn 34 = .ok (.istore_n 2, 1) := by decide +kernel
theorem dX3_surchargesIn_35 : decode cX3_surchargesIn 35 = .ok (.iinc 3 1, 3) := by decide +kernel
theorem dX3_surchargesIn_38 : decode cX3_surchargesIn 38 = .ok (.goto (-26), 3) := by decide +kernel
theorem dX3_surchargesIn_41 : decode cX3_surchargesIn 41 = .ok (.iload_n 2, 1) := by decide +kernel
theorem dX3_surchargesIn_42 : decode cX3_surchargesIn 42 = .ok (.ireturn, 1) := by decide +kernel
theorem dX3_mostUrgent_0 : decode cX3_mostUrgent 0 = .ok (.iconst (-1), 1) := by decide +kernel
theorem dX3_mostUrgent_1 : decode cX3_mostUrgent 1 = .ok (.istore_n 1, 1) := by decide +kernel
theorem dX3_mostUrgent_2 : decode cX3_mostUrgent 2 = .ok (.iconst 0, 1) := by decide +kernel
theorem dX3_mostUrgent_3 : decode cX3_mostUrgent 3 = .ok (.istore_n 2, 1) := by decide +kernel
theorem dX3_mostUrgent_4 : decode cX3_mostUrgent 4 = .ok (.iconst 0, 1) := by decide +kernel
theorem dX3_mostUrgent_5 : decode cX3_mostUrgent 5 = .ok (.istore_n 3, 1) := by decide +kernel
theorem dX3_mostUrgent_6 : decode cX3_mostUrgent 6 = .ok (.iconst 0, 1) := by decide +kernel
theorem dX3_mostUrgent_7 : decode cX3_mostUrgent 7 = .ok (.istore 4, 2) := by decide +kernel
theorem dX3_mostUrgent_9 : decode cX3_mostUrgent 9 = .ok (.iload 4, 2) := by decide +kernel
theorem dX3_mostUrgent_11 : decode cX3_mostUrgent 11 = .ok (.aload_n 0, 1) := by decide +kernel
theorem dX3_mostUrgent_12 : decode cX3_mostUrgent 12 = .ok (.getfield 10, 3) := by decide +kernel
theorem dX3_mostUrgent_15 : decode cX3_mostUrgent 15 = .ok (.getfield 34, 3) := by decide +kernel
theorem dX3_mostUrgent_18 : decode cX3_mostUrgent 18 = .ok (.if_icmp .ge 85, 3) := by decide +kernel
theorem dX3_mostUrgent_21 : decode cX3_mostUrgent 21 = .ok (.aload_n 0, 1) := by decide +kernel
theorem dX3_mostUrgent_22 : decode cX3_mostUrgent 22 = .ok (.getfield 10, 3) := by decide +kernel
theorem dX3_mostUrgent_25 : decode cX3_mostUrgent 25 = .ok (.iload 4, 2) := by decide +kernel
theorem dX3_mostUrgent_27 : decode cX3_mostUrgent 27 = .ok (.invokevirtual 236, 3) := by decide +kernel
theorem dX3_mostUrgent_30 : decode cX3_mostUrgent 30 = .ok (.istore 5, 2) := by decide +kernel
theorem dX3_mostUrgent_32 : decode cX3_mostUrgent 32 = .ok (.aload_n 0, 1) := by decide +kernel
theorem dX3_mostUrgent_33 : decode cX3_mostUrgent 33 = .ok (.getfield 10, 3) := by decide +kernel
theorem dX3_mostUrgent_36 : decode cX3_mostUrgent 36 = .ok (.getfield 65, 3) := by decide +kernel
theorem dX3_mostUrgent_39 : decode cX3_mostUrgent 39 = .ok (.iload 4, 2) := by decide +kernel
theorem dX3_mostUrgent_41 : decode cX3_mostUrgent 41 = .ok (.aaload, 1) := by decide +kernel
theorem dX3_mostUrgent_42 : decode cX3_mostUrgent 42 = .ok (.invokevirtual 164, 3) := by decide +kernel
theorem dX3_mostUrgent_45 : decode cX3_mostUrgent 45 = .ok (.istore 6, 2) := by decide +kernel
theorem dX3_mostUrgent_47 : decode cX3_mostUrgent 47 = .ok (.iload_n 1, 1) := by decide +kernel
theorem dX3_mostUrgent_48 : decode cX3_mostUrgent 48 = .ok (.iconst (-1), 1) := by decide +kernel
theorem dX3_mostUrgent_49 : decode cX3_mostUrgent 49 = .ok (.if_icmp .eq 21, 3) := by decide +kernel
theorem dX3_mostUrgent_52 : decode cX3_mostUrgent 52 = .ok (.iload 5, 2) := by decide +kernel
theorem dX3_mostUrgent_54 : decode cX3_mostUrgent 54 = .ok (.iload_n 2, 1) := by decide +kernel
theorem dX3_mostUrgent_55 : decode cX3_mostUrgent 55 = .ok (.if_icmp .lt 15, 3) := by decide +kernel
theorem dX3_mostUrgent_58 : decode cX3_mostUrgent 58 = .ok (.iload 5, 2) := by decide +kernel
theorem dX3_mostUrgent_60 : decode cX3_mostUrgent 60 = .ok (.iload_n 2, 1) := by decide +kernel
theorem dX3_mostUrgent_61 : decode cX3_mostUrgent 61 = .ok (.if_icmp .ne 13, 3) := by decide +kernel
theorem dX3_mostUrgent_64 : decode cX3_mostUrgent 64 = .ok (.iload 6, 2) := by decide +kernel
theorem dX3_mostUrgent_66 : decode cX3_mostUrgent 66 = .ok (.iload_n 3, 1) := by decide +kernel
theorem dX3_mostUrgent_67 : decode cX3_mostUrgent 67 = .ok (.if_icmp .le 7, 3) := by decide +kernel
theorem dX3_mostUrgent_70 : decode cX3_mostUrgent 70 = .ok (.iconst 1, 1) := by decide +kernel
theorem dX3_mostUrgent_71 : decode cX3_mostUrgent 71 = .ok (.goto 4, 3) := by decide +kernel
theorem dX3_mostUrgent_74 : decode cX3_mostUrgent 74 = .ok (.iconst 0, 1) := by decide +kernel
theorem dX3_mostUrgent_75 : decode cX3_mostUrgent 75 = .ok (.istore 7, 2) := by decide +kernel
theorem dX3_mostUrgent_77 : decode cX3_mostUrgent 77 = .ok (.iload 5, 2) := by decide +kernel
theorem dX3_mostUrgent_79 : decode cX3_mostUrgent 79 = .ok (.iconst (-1), 1) := by decide +kernel
theorem dX3_mostUrgent_80 : decode cX3_mostUrgent 80 = .ok (.if_icmp .eq 17, 3) := by decide +kernel
theorem dX3_mostUrgent_83 : decode cX3_mostUrgent 83 = .ok (.iload 7, 2) := by decide +kernel
theorem dX3_mostUrgent_85 : decode cX3_mostUrgent 85 = .ok (.ifCond .eq 12, 3) := by decide +kernel
theorem dX3_mostUrgent_88 : decode cX3_mostUrgent 88 = .ok (.iload 4, 2) := by decide +kernel
theorem dX3_mostUrgent_90 : decode cX3_mostUrgent 90 = .ok (.istore_n 1, 1) := by decide +kernel
theorem dX3_mostUrgent_91 : decode cX3_mostUrgent 91 = .ok (.iload 5, 2) := by decide +kernel
theorem dX3_mostUrgent_93 : decode cX3_mostUrgent 93 = .ok (.istore_n 2, 1) := by decide +kernel
theorem dX3_mostUrgent_94 : decode cX3_mostUrgent 94 = .ok (.iload 6, 2) := by decide +kernel
theorem dX3_mostUrgent_96 : decode cX3_mostUrgent 96 = .ok (.istore_n 3, 1) := by decide +kernel
theorem dX3_mostUrgent_97 : decode cX3_mostUrgent 97 = .ok (.iinc 4 1, 3) := by decide +kernel
theorem dX3_mostUrgent_100 : decode cX3_mostUrgent 100 = .ok (.goto (-91), 3) := by decide +kernel
theorem dX3_mostUrgent_103 : decode cX3_mostUrgent 103 = .ok (.iload_n 1, 1) := by decide +kernel
theorem dX3_mostUrgent_104 : decode cX3_mostUrgent 104 = .ok (.ireturn, 1) := by decide +kernel
theorem dX3_dueIn_0 : decode cX3_dueIn 0 = .ok (.aload_n 0, 1) := by decide +kernel
theorem dX3_dueIn_1 : decode cX3_dueIn 1 = .ok (.iload_n 1, 1) := by decide +kernel
theorem dX3_dueIn_2 : decode cX3_dueIn 2 = .ok (.invokevirtual 51, 3) := by decide +kernel
theorem dX3_dueIn_5 : decode cX3_dueIn 5 = .ok (.iload_n 2, 1) := by decide +kernel
theorem dX3_dueIn_6 : decode cX3_dueIn 6 = .ok (.iconst 0, 1) := by decide +kernel
theorem dX3_dueIn_7 : decode cX3_dueIn 7 = .ok (.sipush 500, 3) := by decide +kernel
theorem dX3_dueIn_10 : decode cX3_dueIn 10 = .ok (.invokestatic 58, 3) := by decide +kernel
theorem dX3_dueIn_13 : decode cX3_dueIn 13 = .ok (.aload_n 0, 1) := by decide +kernel
theorem dX3_dueIn_14 : decode cX3_dueIn 14 = .ok (.getfield 10, 3) := by decide +kernel
theorem dX3_dueIn_17 : decode cX3_dueIn 17 = .ok (.iload_n 1, 1) := by decide +kernel
theorem dX3_dueIn_18 : decode cX3_dueIn 18 = .ok (.iload_n 2, 1) := by decide +kernel
theorem dX3_dueIn_19 : decode cX3_dueIn 19 = .ok (.invokevirtual 242, 3) := by decide +kernel
theorem dX3_dueIn_22 : decode cX3_dueIn 22 = .ok (.ifCond .eq 26, 3) := by decide +kernel
theorem dX3_dueIn_25 : decode cX3_dueIn 25 = .ok (.aload_n 0, 1) := by decide +kernel
theorem dX3_dueIn_26 : decode cX3_dueIn 26 = .ok (.getfield 10, 3) := by decide +kernel
theorem dX3_dueIn_29 : decode cX3_dueIn 29 = .ok (.getfield 65, 3) := by decide +kernel
theorem dX3_dueIn_32 : decode cX3_dueIn 32 = .ok (.iload_n 1, 1) := by decide +kernel
theorem dX3_dueIn_33 : decode cX3_dueIn 33 = .ok (.aaload, 1) := by decide +kernel
theorem dX3_dueIn_34 : decode cX3_dueIn 34 = .ok (.invokevirtual 164, 3) := by decide +kernel
theorem dX3_dueIn_37 : decode cX3_dueIn 37 = .ok (.aload_n 0, 1) := by decide +kernel
theorem dX3_dueIn_38 : decode cX3_dueIn 38 = .ok (.getfield 10, 3) := by decide +kernel
theorem dX3_dueIn_41 : decode cX3_dueIn 41 = .ok (.iload_n 1, 1) := by decide +kernel
theorem dX3_dueIn_42 : decode cX3_dueIn 42 = .ok (.iload_n 2, 1) := by decide +kernel
theorem dX3_dueIn_43 : decode cX3_dueIn 43 = .ok (.invokevirtual 239, 3) := by decide +kernel
theorem dX3_dueIn_46 : decode cX3_dueIn 46 = .ok (.iadd, 1) := by decide +kernel
theorem dX3_dueIn_47 : decode cX3_dueIn 47 = .ok (.ireturn, 1) := by decide +kernel
theorem dX3_dueIn_48 : decode cX3_dueIn 48 = .ok (.aload_n 0, 1) := by decide +kernel
theorem dX3_dueIn_49 : decode cX3_dueIn 49 = .ok (.getfield 10, 3) := by decide +kernel
theorem dX3_dueIn_52 : decode cX3_dueIn 52 = .ok (.getfield 65, 3) := by decide +kernel
theorem dX3_dueIn_55 : decode cX3_dueIn 55 = .ok (.iload_n 1, 1) := by decide +kernel
theorem dX3_dueIn_56 : decode cX3_dueIn 56 = .ok (.aaload, 1) := by decide +kernel
theorem dX3_dueIn_57 : decode cX3_dueIn 57 = .ok (.aload_n 0, 1) := by decide +kernel
theorem dX3_dueIn_58 : decode cX3_dueIn 58 = .ok (.getfield 10, 3) := by decide +kernel
theorem dX3_dueIn_61 : decode cX3_dueIn 61 = .ok (.getfield 167, 3) := by decide +kernel
theorem dX3_dueIn_64 : decode cX3_dueIn 64 = .ok (.iload_n 2, 1) := by decide +kernel
theorem dX3_dueIn_65 : decode cX3_dueIn 65 = .ok (.iadd, 1) := by decide +kernel
theorem dX3_dueIn_66 : decode cX3_dueIn 66 = .ok (.invokevirtual 170, 3) := by decide +kernel
theorem dX3_dueIn_69 : decode cX3_dueIn 69 = .ok (.ireturn, 1) := by decide +kernel
theorem dX3_settledShare_0 : decode cX3_settledShare 0 = .ok (.aload_n 0, 1) := by decide +kernel
theorem dX3_settledShare_1 : decode cX3_settledShare 1 = .ok (.getfield 10, 3) := by decide +kernel
theorem dX3_settledShare_4 : decode cX3_settledShare 4 = .ok (.bipush 6, 2) := by decide +kernel
theorem dX3_settledShare_6 : decode cX3_settledShare 6 = .ok (.invokevirtual 223, 3) := by decide +kernel
theorem dX3_settledShare_9 : decode cX3_settledShare 9 = .ok (.aload_n 0, 1) := by decide +kernel
theorem dX3_settledShare_10 : decode cX3_settledShare 10 = .ok (.getfield 10, 3) := by decide +kernel
theorem dX3_settledShare_13 : decode cX3_settledShare 13 = .ok (.bipush 7, 2) := by decide +kernel
theorem dX3_settledShare_15 : decode cX3_settledShare 15 = .ok (.invokevirtual 223, 3) := by decide +kernel
theorem dX3_settledShare_18 : decode cX3_settledShare 18 = .ok (.iadd, 1) := by decide +kernel
theorem dX3_settledShare_19 : decode cX3_settledShare 19 = .ok (.istore_n 1, 1) := by decide +kernel
theorem dX3_settledShare_20 : decode cX3_settledShare 20 = .ok (.iload_n 1, 1) := by decide +kernel
theorem dX3_settledShare_21 : decode cX3_settledShare 21 = .ok (.aload_n 0, 1) := by decide +kernel
theorem dX3_settledShare_22 : decode cX3_settledShare 22 = .ok (.getfield 10, 3) := by decide +kernel
theorem dX3_settledShare_25 : decode cX3_settledShare 25 = .ok (.bipush 9, 2) := by decide +kernel
theorem dX3_settledShare_27 : decode cX3_settledShare 27 = .ok (.invokevirtual 223, 3) := by decide +kernel
theorem dX3_settledShare_30 : decode cX3_settledShare 30 = .ok (.iadd, 1) := by decide +kernel
theorem dX3_settledShare_31 : decode cX3_settledShare 31 = .ok (.istore_n 2, 1) := by decide +kernel
theorem dX3_settledShare_32 : decode cX3_settledShare 32 = .ok (.iload_n 2, 1) := by decide +kernel
theorem dX3_settledShare_33 : decode cX3_settledShare 33 = .ok (.ifCond .ne 7, 3) := by decide +kernel
theorem dX3_settledShare_36 : decode cX3_settledShare 36 = .ok (.dconst 1, 1) := by decide +kernel
theorem dX3_settledShare_37 : decode cX3_settledShare 37 = .ok (.goto 8, 3) := by decide +kernel
theorem dX3_settledShare_40 : decode cX3_settledShare 40 = .ok (.iload_n 1, 1) := by decide +kernel
theorem dX3_settledShare_41 : decode cX3_settledShare 41 = .ok (.i2d, 1) := by decide +kernel
theorem dX3_settledShare_42 : decode cX3_settledShare 42 = .ok (.iload_n 2, 1) := by decide +kernel
theorem dX3_settledShare_43 : decode cX3_settledShare 43 = .ok (.i2d, 1) := by decide +kernel
theorem dX3_settledShare_44 : decode cX3_settledShare 44 = .ok (.ddiv, 1) := by decide +kernel
theorem dX3_settledShare_45 : decode cX3_settledShare 45 = .ok (.dreturn, 1) := by decide +kernel
theorem dX3_digest_0 : decode cX3_digest 0 = .ok (.ldc2_w 246, 3) := by decide +kernel
theorem dX3_digest_3 : decode cX3_digest 3 = .ok (.lstore_n 1, 1) := by decide +kernel
theorem dX3_digest_4 : decode cX3_digest 4 = .ok (.iconst 0, 1) := by decide +kernel
theorem dX3_digest_5 : decode cX3_digest 5 = .ok (.istore_n 3, 1) := by decide +kernel
theorem dX3_digest_6 : decode cX3_digest 6 = .ok (.iload_n 3, 1) := by decide +kernel
theorem dX3_digest_7 : decode cX3_digest 7 = .ok (.bipush 16, 2) := by decide +kernel
theorem dX3_digest_9 : decode cX3_digest 9 = .ok (.if_icmp .ge 22, 3) := by decide +kernel
theorem dX3_digest_12 : decode cX3_digest 12 = .ok (.ldc2_w 248, 3) := by decide +kernel
theorem dX3_digest_15 : decode cX3_digest 15 = .ok (.lload_n 1, 1) := by decide +kernel
theorem dX3_digest_16 : decode cX3_digest 16 = .ok (.lmul, 1) := by decide +kernel
theorem dX3_digest_17 : decode cX3_digest 17 = .ok (.aload_n 0, 1) := by decide +kernel
theorem dX3_digest_18 : decode cX3_digest 18 = .ok (.iload_n 3, 1) := by decide +kernel
theorem dX3_digest_19 : decode cX3_digest 19 = .ok (.invokevirtual 250, 3) := by decide +kernel
theorem dX3_digest_22 : decode cX3_digest 22 = .ok (.i2l, 1) := by decide +kernel
theorem dX3_digest_23 : decode cX3_digest 23 = .ok (.ladd, 1) := by decide +kernel
theorem dX3_digest_24 : decode cX3_digest 24 = .ok (.lstore_n 1, 1) := by decide +kernel
theorem dX3_digest_25 : decode cX3_digest 25 = .ok (.iinc 3 1, 3) := by decide +kernel
theorem dX3_digest_28 : decode cX3_digest 28 = .ok (.goto (-22), 3) := by decide +kernel
theorem dX3_digest_31 : decode cX3_digest 31 = .ok (.iconst 0, 1) := by decide +kernel
theorem dX3_digest_32 : decode cX3_digest 32 = .ok (.istore_n 3, 1) := by decide +kernel
theorem dX3_digest_33 : decode cX3_digest 33 = .ok (.iload_n 3, 1) := by decide +kernel
theorem dX3_digest_34 : decode cX3_digest 34 = .ok (.iconst 4, 1) := by decide +kernel
theorem dX3_digest_35 : decode cX3_digest 35 = .ok (.if_icmp .ge 26, 3) := by decide +kernel
theorem dX3_digest_38 : decode cX3_digest 38 = .ok (.ldc2_w 248, 3) := by decide +kernel
theorem dX3_digest_41 : decode cX3_digest 41 = .ok (.lload_n 1, 1) := by decide +kernel
theorem dX3_digest_42 : decode cX3_digest 42 = .ok (.lmul, 1) := by decide +kernel
theorem dX3_digest_43 : decode cX3_digest 43 = .ok (.aload_n 0, 1) := by decide +kernel
theorem dX3_digest_44 : decode cX3_digest 44 = .ok (.getfield 10, 3) := by decide +kernel
theorem dX3_digest_47 : decode cX3_digest 47 = .ok (.getfield 94, 3) := by decide +kernel
theorem dX3_digest_50 : decode cX3_digest 50 = .ok (.iload_n 3, 1) := by decide +kernel
theorem dX3_digest_51 : decode cX3_digest 51 = .ok (.iaload, 1) := by decide +kernel
theorem dX3_digest_52 : decode cX3_digest 52 = .ok (.i2l, 1) := by decide +kernel
theorem dX3_digest_53 : decode cX3_digest 53 = .ok (.ladd, 1) := by decide +kernel
theorem dX3_digest_54 : decode cX3_digest 54 = .ok (.lstore_n 1, 1) := by decide +kernel
theorem dX3_digest_55 : decode cX3_digest 55 = .ok (.iinc 3 1, 3) := by decide +kernel
theorem dX3_digest_58 : decode cX3_digest 58 = .ok (.goto (-25), 3) := by decide +kernel
theorem dX3_digest_61 : decode cX3_digest 61 = .ok (.iconst 0, 1) := by decide +kernel
theorem dX3_digest_62 : decode cX3_digest 62 = .ok (.istore_n 3, 1) := by decide +kernel
theorem dX3_digest_63 : decode cX3_digest 63 = .ok (.iload_n 3, 1) := by decide +kernel
theorem dX3_digest_64 : decode cX3_digest 64 = .ok (.aload_n 0, 1) := by decide +kernel
theorem dX3_digest_65 : decode cX3_digest 65 = .ok (.getfield 10, 3) := by decide +kernel
theorem dX3_digest_68 : decode cX3_digest 68 = .ok (.getfield 34, 3) := by decide +kernel
theorem dX3_digest_71 : decode cX3_digest 71 = .ok (.if_icmp .ge 16, 3) := by decide +kernel
theorem dX3_digest_74 : decode cX3_digest 74 = .ok (.aload_n 0, 1) := by decide +kernel
theorem dX3_digest_75 : decode cX3_digest 75 = .ok (.lload_n 1, 1) := by decide +kernel
theorem dX3_digest_76 : decode cX3_digest 76 = .ok (.iload_n 3, 1) := by decide +kernel
theorem dX3_digest_77 : decode cX3_digest 77 = .ok (.invokevirtual 253, 3) := by decide +kernel
theorem dX3_digest_80 : decode cX3_digest 80 = .ok (.lstore_n 1, 1) := by decide +kernel
theorem dX3_digest_81 : decode cX3_digest 81 = .ok (.iinc 3 1, 3) := by decide +kernel
theorem dX3_digest_84 : decode cX3_digest 84 = .ok (.goto (-21), 3) := by decide +kernel
theorem dX3_digest_87 : decode cX3_digest 87 = .ok (.ldc2_w 248, 3) := by decide +kernel
theorem dX3_digest_90 : decode cX3_digest 90 = .ok (.lload_n 1, 1) := by decide +kernel
theorem dX3_digest_91 : decode cX3_digest 91 = .ok (.lmul, 1) := by decide +kernel
theorem dX3_digest_92 : decode cX3_digest 92 = .ok (.aload_n 0, 1) := by decide +kernel
theorem dX3_digest_93 : decode cX3_digest 93 = .ok (.sipush 200, 3) := by decide +kernel
theorem dX3_digest_96 : decode cX3_digest 96 = .ok (.invokevirtual 257, 3) := by decide +kernel
theorem dX3_digest_99 : decode cX3_digest 99 = .ok (.i2l, 1) := by decide +kernel
theorem dX3_digest_100 : decode cX3_digest 100 = .ok (.ladd, 1) := by decide +kernel
theorem dX3_digest_101 : decode cX3_digest 101 = .ok (.lstore_n 1, 1) := by decide +kernel
theorem dX3_digest_102 : decode cX3_digest 102 = .ok (.ldc2_w 248, 3) := by decide +kernel
theorem dX3_digest_105 : decode cX3_digest 105 = .ok (.lload_n 1, 1) := by decide +kernel
theorem dX3_digest_106 : decode cX3_digest 106 = .ok (.lmul, 1) := by decide +kernel
theorem dX3_digest_107 : decode cX3_digest 107 = .ok (.aload_n 0, 1) := by decide +kernel
theorem dX3_digest_108 : decode cX3_digest 108 = .ok (.invokevirtual 260, 3) := by decide +kernel
theorem dX3_digest_111 : decode cX3_digest 111 = .ok (.i2l, 1) := by decide +kernel
theorem dX3_digest_112 : decode cX3_digest 112 = .ok (.ladd, 1) := by decide +kernel
theorem dX3_digest_113 : decode cX3_digest 113 = .ok (.lstore_n 1, 1) := by decide +kernel
theorem dX3_digest_114 : decode cX3_digest 114 = .ok (.ldc2_w 248, 3) := by decide +kernel
theorem dX3_digest_117 : decode cX3_digest 117 = .ok (.lload_n 1, 1) := by decide +kernel
theorem dX3_digest_118 : decode cX3_digest 118 = .ok (.lmul, 1) := by decide +kernel
theorem dX3_digest_119 : decode cX3_digest 119 = .ok (.aload_n 0, 1) := by decide +kernel
theorem dX3_digest_120 : decode cX3_digest 120 = .ok (.invokevirtual 263, 3) := by decide +kernel
theorem dX3_digest_123 : decode cX3_digest 123 = .ok (.invokestatic 267, 3) := by decide +kernel
theorem dX3_digest_126 : decode cX3_digest 126 = .ok (.ladd, 1) := by decide +kernel
theorem dX3_digest_127 : decode cX3_digest 127 = .ok (.lstore_n 1, 1) := by decide +kernel
theorem dX3_digest_128 : decode cX3_digest 128 = .ok (.ldc2_w 248, 3) := by decide +kernel
theorem dX3_digest_131 : decode cX3_digest 131 = .ok (.lload_n 1, 1) := by decide +kernel
theorem dX3_digest_132 : decode cX3_digest 132 = .ok (.lmul, 1) := by decide +kernel
theorem dX3_digest_133 : decode cX3_digest 133 = .ok (.aload_n 0, 1) := by decide +kernel
theorem dX3_digest_134 : decode cX3_digest 134 = .ok (.getfield 30, 3) := by decide +kernel
theorem dX3_digest_137 : decode cX3_digest 137 = .ok (.getfield 120, 3) := by decide +kernel
theorem dX3_digest_140 : decode cX3_digest 140 = .ok (.i2l, 1) := by decide +kernel
theorem dX3_digest_141 : decode cX3_digest 141 = .ok (.ladd, 1) := by decide +kernel
theorem dX3_digest_142 : decode cX3_digest 142 = .ok (.lstore_n 1, 1) := by decide +kernel
theorem dX3_digest_143 : decode cX3_digest 143 = .ok (.iconst 0, 1) := by decide +kernel
theorem dX3_digest_144 : decode cX3_digest 144 = .ok (.istore_n 3, 1) := by decide +kernel
theorem dX3_digest_145 : decode cX3_digest 145 = .ok (.iload_n 3, 1) := by decide +kernel
theorem dX3_digest_146 : decode cX3_digest 146 = .ok (.aload_n 0, 1) := by decide +kernel
theorem dX3_digest_147 : decode cX3_digest 147 = .ok (.getfield 30, 3) := by decide +kernel
theorem dX3_digest_150 : decode cX3_digest 150 = .ok (.getfield 120, 3) := by decide +kernel
theorem dX3_digest_153 : decode cX3_digest 153 = .ok (.if_icmp .ge 32, 3) := by decide +kernel
theorem dX3_digest_156 : decode cX3_digest 156 = .ok (.iload_n 3, 1) := by decide +kernel
theorem dX3_digest_157 : decode cX3_digest 157 = .ok (.bipush 60, 2) := by decide +kernel
theorem dX3_digest_159 : decode cX3_digest 159 = .ok (.if_icmp .ge 26, 3) := by decide +kernel
theorem dX3_digest_162 : decode cX3_digest 162 = .ok (.ldc2_w 248, 3) := by decide +kernel
theorem dX3_digest_165 : decode cX3_digest 165 = .ok (.lload_n 1, 1) := by decide +kernel
theorem dX3_digest_166 : decode cX3_digest 166 = .ok (.lmul, 1) := by decide +kernel
theorem dX3_digest_167 : decode cX3_digest 167 = .ok (.aload_n 0, 1) := by decide +kernel
theorem dX3_digest_168 : decode cX3_digest 168 = .ok (.getfield 30, 3) := by decide +kernel
theorem dX3_digest_171 : decode cX3_digest 171 = .ok (.getfield 271, 3) := by decide +kernel
theorem dX3_digest_174 : decode cX3_digest 174 = .ok (.iload_n 3, 1) := by decide +kernel
theorem dX3_digest_175 : decode cX3_digest 175 = .ok (.iaload, 1) := by decide +kernel
theorem dX3_digest_176 : decode cX3_digest 176 = .ok (.i2l, 1) := by decide +kernel
theorem dX3_digest_177 : decode cX3_digest 177 = .ok (.ladd, 1) := by decide +kernel
theorem dX3_digest_178 : decode cX3_digest 178 = .ok (.lstore_n 1, 1) := by decide +kernel
theorem dX3_digest_179 : decode cX3_digest 179 = .ok (.iinc 3 1, 3) := by decide +kernel
theorem dX3_digest_182 : decode cX3_digest 182 = .ok (.goto (-37), 3) := by decide +kernel
theorem dX3_digest_185 : decode cX3_digest 185 = .ok (.lload_n 1, 1) := by decide +kernel
theorem dX3_digest_186 : decode cX3_digest 186 = .ok (.lreturn, 1) := by decide +kernel
theorem dX3_hashOfPhase_0 : decode cX3_hashOfPhase 0 = .ok (.lload_n 1, 1) := by decide +kernel
theorem dX3_hashOfPhase_1 : decode cX3_hashOfPhase 1 = .ok (.lstore 4, 2) := by decide +kernel
theorem dX3_hashOfPhase_3 : decode cX3_hashOfPhase 3 = .ok (.iconst 0, 1) := by decide +kernel
theorem dX3_hashOfPhase_4 : decode cX3_hashOfPhase 4 = .ok (.istore 6, 2) := by decide +kernel
theorem dX3_hashOfPhase_6 : decode cX3_hashOfPhase 6 = .ok (.iload 6, 2) := by decide +kernel
theorem dX3_hashOfPhase_8 : decode cX3_hashOfPhase 8 = .ok (.bipush 14, 2) := by decide +kernel
theorem dX3_hashOfPhase_10 : decode cX3_hashOfPhase 10 = .ok (.if_icmp .ge 26, 3) := by decide +kernel
theorem dX3_hashOfPhase_13 : decode cX3_hashOfPhase 13 = .ok (.ldc2_w 248, 3) := by decide +kernel
theorem dX3_hashOfPhase_16 : decode cX3_hashOfPhase 16 = .ok (.lload 4, 2) := by decide +kernel
theorem dX3_hashOfPhase_18 : decode cX3_hashOfPhase 18 = .ok (.lmul, 1) := by decide +kernel
theorem dX3_hashOfPhase_19 : decode cX3_hashOfPhase 19 = .ok (.aload_n 0, 1) := by decide +kernel
theorem dX3_hashOfPhase_20 : decode cX3_hashOfPhase 20 = .ok (.iload_n 3, 1) := by decide +kernel
theorem dX3_hashOfPhase_21 : decode cX3_hashOfPhase 21 = .ok (.iload 6, 2) := by decide +kernel
theorem dX3_hashOfPhase_23 : decode cX3_hashOfPhase 23 = .ok (.invokevirtual 274, 3) := by decide +kernel
theorem dX3_hashOfPhase_26 : decode cX3_hashOfPhase 26 = .ok (.i2l, 1) := by decide +kernel
theorem dX3_hashOfPhase_27 : decode cX3_hashOfPhase 27 = .ok (.ladd, 1) := by decide +kernel
theorem dX3_hashOfPhase_28 : decode cX3_hashOfPhase 28 = .ok (.lstore 4, 2) := by decide +kernel
theorem dX3_hashOfPhase_30 : decode cX3_hashOfPhase 30 = .ok (.iinc 6 1, 3) := by decide +kernel
theorem dX3_hashOfPhase_33 : decode cX3_hashOfPhase 33 = .ok (.goto (-27), 3) := by decide +kernel
theorem dX3_hashOfPhase_36 : decode cX3_hashOfPhase 36 = .ok (.iconst 0, 1) := by decide +kernel
theorem dX3_hashOfPhase_37 : decode cX3_hashOfPhase 37 = .ok (.istore 6, 2) := by decide +kernel
theorem dX3_hashOfPhase_39 : decode cX3_hashOfPhase 39 = .ok (.iload 6, 2) := by decide +kernel
theorem dX3_hashOfPhase_41 : decode cX3_hashOfPhase 41 = .ok (.iconst 4, 1) := by decide +kernel
theorem dX3_hashOfPhase_42 : decode cX3_hashOfPhase 42 = .ok (.if_icmp .ge 61, 3) := by decide +kernel
theorem dX3_hashOfPhase_45 : decode cX3_hashOfPhase 45 = .ok (.iconst 0, 1) := by decide +kernel
theorem dX3_hashOfPhase_46 : decode cX3_hashOfPhase 46 = .ok (.istore 7, 2) := by decide +kernel
theorem dX3_hashOfPhase_48 : decode cX3_hashOfPhase 48 = .ok (.iload 7, 2) := by decide +kernel
theorem dX3_hashOfPhase_50 : decode cX3_hashOfPhase 50 = .ok (.iconst 5, 1) := by decide +kernel
theorem dX3_hashOfPhase_51 : decode cX3_hashOfPhase 51 = .ok (.if_icmp .ge 28, 3) := by decide +kernel
theorem dX3_hashOfPhase_54 : decode cX3_hashOfPhase 54 = .ok (.ldc2_w 248, 3) := by decide +kernel
theorem dX3_hashOfPhase_57 : decode cX3_hashOfPhase 57 = .ok (.lload 4, 2) := by decide +kernel
theorem dX3_hashOfPhase_59 : decode cX3_hashOfPhase 59 = .ok (.lmul, 1) := by decide +kernel
theorem dX3_hashOfPhase_60 : decode cX3_hashOfPhase 60 = .ok (.aload_n 0, 1) := by decide +kernel
theorem dX3_hashOfPhase_61 : decode cX3_hashOfPhase 61 = .ok (.iload_n 3, 1) := by decide +kernel
theorem dX3_hashOfPhase_62 : decode cX3_hashOfPhase 62 = .ok (.iload 6, 2) := by decide +kernel
theorem dX3_hashOfPhase_64 : decode cX3_hashOfPhase 64 = .ok (.iload 7, 2) := by decide +kernel
theorem dX3_hashOfPhase_66 : decode cX3_hashOfPhase 66 = .ok (.invokevirtual 277, 3) := by decide +kernel
theorem dX3_hashOfPhase_69 : decode cX3_hashOfPhase 69 = .ok (.i2l, 1) := by decide +kernel
theorem dX3_hashOfPhase_70 : decode cX3_hashOfPhase 70 = .ok (.ladd, 1) := by decide +kernel
theorem dX3_hashOfPhase_71 : decode cX3_hashOfPhase 71 = .ok (.lstore 4, 2) := by decide +kernel
theorem dX3_hashOfPhase_73 : decode cX3_hashOfPhase 73 = .ok (.iinc 7 1, 3) := by decide +kernel
theorem dX3_hashOfPhase_76 : decode cX3_hashOfPhase 76 = .ok (.goto (-28), 3) := by decide +kernel
theorem dX3_hashOfPhase_79 : decode cX3_hashOfPhase 79 = .ok (.ldc2_w 248, 3) := by decide +kernel
theorem dX3_hashOfPhase_82 : decode cX3_hashOfPhase 82 = .ok (.lload 4, 2) := by decide +kernel
theorem dX3_hashOfPhase_84 : decode cX3_hashOfPhase 84 = .ok (.lmul, 1) := by decide +kernel
theorem dX3_hashOfPhase_85 : decode cX3_hashOfPhase 85 = .ok (.aload_n 0, 1) := by decide +kernel
theorem dX3_hashOfPhase_86 : decode cX3_hashOfPhase 86 = .ok (.iconst 4, 1) := by decide +kernel
theorem dX3_hashOfPhase_87 : decode cX3_hashOfPhase 87 = .ok (.iload_n 3, 1) := by decide +kernel
theorem dX3_hashOfPhase_88 : decode cX3_hashOfPhase 88 = .ok (.iload 6, 2) := by decide +kernel
theorem dX3_hashOfPhase_90 : decode cX3_hashOfPhase 90 = .ok (.invokevirtual 280, 3) := by decide +kernel
theorem dX3_hashOfPhase_93 : decode cX3_hashOfPhase 93 = .ok (.i2l, 1) := by decide +kernel
theorem dX3_hashOfPhase_94 : decode cX3_hashOfPhase 94 = .ok (.ladd, 1) := by decide +kernel
theorem dX3_hashOfPhase_95 : decode cX3_hashOfPhase 95 = .ok (.lstore 4, 2) := by decide +kernel
theorem dX3_hashOfPhase_97 : decode cX3_hashOfPhase 97 = .ok (.iinc 6 1, 3) := by decide +kernel
theorem dX3_hashOfPhase_100 : decode cX3_hashOfPhase 100 = .ok (.goto (-61), 3) := by decide +kernel
theorem dX3_hashOfPhase_103 : decode cX3_hashOfPhase 103 = .ok (.iconst 0, 1) := by decide +kernel
theorem dX3_hashOfPhase_104 : decode cX3_hashOfPhase 104 = .ok (.istore 6, 2) := by decide +kernel
theorem dX3_hashOfPhase_106 : decode cX3_hashOfPhase 106 = .ok (.iload 6, 2) := by decide +kernel
theorem dX3_hashOfPhase_108 : decode cX3_hashOfPhase 108 = .ok (.iconst 4, 1) := by decide +kernel
theorem dX3_hashOfPhase_109 : decode cX3_hashOfPhase 109 = .ok (.if_icmp .ge 43, 3) := by decide +kernel
theorem dX3_hashOfPhase_112 : decode cX3_hashOfPhase 112 = .ok (.iconst 0, 1) := by decide +kernel
theorem dX3_hashOfPhase_113 : decode cX3_hashOfPhase 113 = .ok (.istore 7, 2) := by decide +kernel
theorem dX3_hashOfPhase_115 : decode cX3_hashOfPhase 115 = .ok (.iload 7, 2) := by decide +kernel
theorem dX3_hashOfPhase_117 : decode cX3_hashOfPhase 117 = .ok (.iconst 3, 1) := by decide +kernel
theorem dX3_hashOfPhase_118 : decode cX3_hashOfPhase 118 = .ok (.if_icmp .ge 28, 3) := by decide +kernel
theorem dX3_hashOfPhase_121 : decode cX3_hashOfPhase 121 = .ok (.ldc2_w 248, 3) := by decide +kernel
theorem dX3_hashOfPhase_124 : decode cX3_hashOfPhase 124 = .ok (.lload 4, 2) := by decide +kernel
theorem dX3_hashOfPhase_126 : decode cX3_hashOfPhase 126 = .ok (.lmul, 1) := by decide +kernel
theorem dX3_hashOfPhase_127 : decode cX3_hashOfPhase 127 = .ok (.aload_n 0, 1) := by decide +kernel
theorem dX3_hashOfPhase_128 : decode cX3_hashOfPhase 128 = .ok (.iload_n 3, 1) := by decide +kernel
theorem dX3_hashOfPhase_129 : decode cX3_hashOfPhase 129 = .ok (.iload 6, 2) := by decide +kernel
theorem dX3_hashOfPhase_131 : decode cX3_hashOfPhase 131 = .ok (.iload 7, 2) := by decide +kernel
theorem dX3_hashOfPhase_133 : decode cX3_hashOfPhase 133 = .ok (.invokevirtual 283, 3) := by decide +kernel
theorem dX3_hashOfPhase_136 : decode cX3_hashOfPhase 136 = .ok (.i2l, 1) := by decide +kernel
theorem dX3_hashOfPhase_137 : decode cX3_hashOfPhase 137 = .ok (.ladd, 1) := by decide +kernel
theorem dX3_hashOfPhase_138 : decode cX3_hashOfPhase 138 = .ok (.lstore 4, 2) := by decide +kernel
theorem dX3_hashOfPhase_140 : decode cX3_hashOfPhase 140 = .ok (.iinc 7 1, 3) := by decide +kernel
theorem dX3_hashOfPhase_143 : decode cX3_hashOfPhase 143 = .ok (.goto (-28), 3) := by decide +kernel
theorem dX3_hashOfPhase_146 : decode cX3_hashOfPhase 146 = .ok (.iinc 6 1, 3) := by decide +kernel
theorem dX3_hashOfPhase_149 : decode cX3_hashOfPhase 149 = .ok (.goto (-43), 3) := by decide +kernel
theorem dX3_hashOfPhase_152 : decode cX3_hashOfPhase 152 = .ok (.iconst 0, 1) := by decide +kernel
theorem dX3_hashOfPhase_153 : decode cX3_hashOfPhase 153 = .ok (.istore 6, 2) := by decide +kernel
theorem dX3_hashOfPhase_155 : decode cX3_hashOfPhase 155 = .ok (.iload 6, 2) := by decide +kernel
theorem dX3_hashOfPhase_157 : decode cX3_hashOfPhase 157 = .ok (.iconst 3, 1) := by decide +kernel
theorem dX3_hashOfPhase_158 : decode cX3_hashOfPhase 158 = .ok (.if_icmp .gt 27, 3) := by decide +kernel
theorem dX3_hashOfPhase_161 : decode cX3_hashOfPhase 161 = .ok (.ldc2_w 248, 3) := by decide +kernel
theorem dX3_hashOfPhase_164 : decode cX3_hashOfPhase 164 = .ok (.lload 4, 2) := by decide +kernel
theorem dX3_hashOfPhase_166 : decode cX3_hashOfPhase 166 = .ok (.lmul, 1) := by decide +kernel
theorem dX3_hashOfPhase_167 : decode cX3_hashOfPhase 167 = .ok (.aload_n 0, 1) := by decide +kernel
theorem dX3_hashOfPhase_168 : decode cX3_hashOfPhase 168 = .ok (.iload 6, 2) := by decide +kernel
theorem dX3_hashOfPhase_170 : decode cX3_hashOfPhase 170 = .ok (.iload_n 3, 1) := by decide +kernel
theorem dX3_hashOfPhase_171 : decode cX3_hashOfPhase 171 = .ok (.iconst 0, 1) := by decide +kernel
theorem dX3_hashOfPhase_172 : decode cX3_hashOfPhase 172 = .ok (.invokevirtual 280, 3) := by decide +kernel
theorem dX3_hashOfPhase_175 : decode cX3_hashOfPhase 175 = .ok (.i2l, 1) := by decide +kernel
theorem dX3_hashOfPhase_176 : decode cX3_hashOfPhase 176 = .ok (.ladd, 1) := by decide +kernel
theorem dX3_hashOfPhase_177 : decode cX3_hashOfPhase 177 = .ok (.lstore 4, 2) := by decide +kernel
theorem dX3_hashOfPhase_179 : decode cX3_hashOfPhase 179 = .ok (.iinc 6 1, 3) := by decide +kernel
theorem dX3_hashOfPhase_182 : decode cX3_hashOfPhase 182 = .ok (.goto (-27), 3) := by decide +kernel
theorem dX3_hashOfPhase_185 : decode cX3_hashOfPhase 185 = .ok (.iconst 0, 1) := by decide +kernel
theorem dX3_hashOfPhase_186 : decode cX3_hashOfPhase 186 = .ok (.istore 6, 2) := by decide +kernel
theorem dX3_hashOfPhase_188 : decode cX3_hashOfPhase 188 = .ok (.iload 6, 2) := by decide +kernel
theorem dX3_hashOfPhase_190 : decode cX3_hashOfPhase 190 = .ok (.iconst 3, 1) := by decide +kernel
theorem dX3_hashOfPhase_191 : decode cX3_hashOfPhase 191 = .ok (.if_icmp .ge 26, 3) := by decide +kernel
theorem dX3_hashOfPhase_194 : decode cX3_hashOfPhase 194 = .ok (.ldc2_w 248, 3) := by decide +kernel
theorem dX3_hashOfPhase_197 : decode cX3_hashOfPhase 197 = .ok (.lload 4, 2) := by decide +kernel
theorem dX3_hashOfPhase_199 : decode cX3_hashOfPhase 199 = .ok (.lmul, 1) := by decide +kernel
theorem dX3_hashOfPhase_200 : decode cX3_hashOfPhase 200 = .ok (.aload_n 0, 1) := by decide +kernel
theorem dX3_hashOfPhase_201 : decode cX3_hashOfPhase 201 = .ok (.iload_n 3, 1) := by decide +kernel
theorem dX3_hashOfPhase_202 : decode cX3_hashOfPhase 202 = .ok (.iload 6, 2) := by decide +kernel
theorem dX3_hashOfPhase_204 : decode cX3_hashOfPhase 204 = .ok (.invokevirtual 286, 3) := by decide +kernel
theorem dX3_hashOfPhase_207 : decode cX3_hashOfPhase 207 = .ok (.i2l, 1) := by decide +kernel
theorem dX3_hashOfPhase_208 : decode cX3_hashOfPhase 208 = .ok (.ladd, 1) := by decide +kernel
theorem dX3_hashOfPhase_209 : decode cX3_hashOfPhase 209 = .ok (.lstore 4, 2) := by decide +kernel
theorem dX3_hashOfPhase_211 : decode cX3_hashOfPhase 211 = .ok (.iinc 6 1, 3) := by decide +kernel
theorem dX3_hashOfPhase_214 : decode cX3_hashOfPhase 214 = .ok (.goto (-26), 3) := by decide +kernel
theorem dX3_hashOfPhase_217 : decode cX3_hashOfPhase 217 = .ok (.ldc2_w 248, 3) := by decide +kernel
theorem dX3_hashOfPhase_220 : decode cX3_hashOfPhase 220 = .ok (.lload 4, 2) := by decide +kernel
theorem dX3_hashOfPhase_222 : decode cX3_hashOfPhase 222 = .ok (.lmul, 1) := by decide +kernel
theorem dX3_hashOfPhase_223 : decode cX3_hashOfPhase 223 = .ok (.aload_n 0, 1) := by decide +kernel
theorem dX3_hashOfPhase_224 : decode cX3_hashOfPhase 224 = .ok (.iload_n 3, 1) := by decide +kernel
theorem dX3_hashOfPhase_225 : decode cX3_hashOfPhase 225 = .ok (.invokevirtual 289, 3) := by decide +kernel
theorem dX3_hashOfPhase_228 : decode cX3_hashOfPhase 228 = .ok (.i2l, 1) := by decide +kernel
theorem dX3_hashOfPhase_229 : decode cX3_hashOfPhase 229 = .ok (.ladd, 1) := by decide +kernel
theorem dX3_hashOfPhase_230 : decode cX3_hashOfPhase 230 = .ok (.lstore 4, 2) := by decide +kernel
theorem dX3_hashOfPhase_232 : decode cX3_hashOfPhase 232 = .ok (.ldc2_w 248, 3) := by decide +kernel
theorem dX3_hashOfPhase_235 : decode cX3_hashOfPhase 235 = .ok (.lload 4, 2) := by decide +kernel
theorem dX3_hashOfPhase_237 : decode cX3_hashOfPhase 237 = .ok (.lmul, 1) := by decide +kernel
theorem dX3_hashOfPhase_238 : decode cX3_hashOfPhase 238 = .ok (.aload_n 0, 1) := by decide +kernel
theorem dX3_hashOfPhase_239 : decode cX3_hashOfPhase 239 = .ok (.iload_n 3, 1) := by decide +kernel
theorem dX3_hashOfPhase_240 : decode cX3_hashOfPhase 240 = .ok (.bipush 100, 2) := by decide +kernel
theorem dX3_hashOfPhase_242 : decode cX3_hashOfPhase 242 = .ok (.invokevirtual 292, 3) := by decide +kernel
theorem dX3_hashOfPhase_245 : decode cX3_hashOfPhase 245 = .ok (.i2l, 1) := by decide +kernel
theorem dX3_hashOfPhase_246 : decode cX3_hashOfPhase 246 = .ok (.ladd, 1) := by decide +kernel
theorem dX3_hashOfPhase_247 : decode cX3_hashOfPhase 247 = .ok (.lreturn, 1) := by decide +kernel
theorem dX3_bitsOfShare_0 : decode cX3_bitsOfShare 0 = .ok (.dload_n 0, 1) := by decide +kernel
theorem dX3_bitsOfShare_1 : decode cX3_bitsOfShare 1 = .ok (.dconst 0, 1) := by decide +kernel
theorem dX3_bitsOfShare_2 : decode cX3_bitsOfShare 2 = .ok (.dcmp .g, 1) := by decide +kernel
theorem dX3_bitsOfShare_3 : decode cX3_bitsOfShare 3 = .ok (.ifCond .gt 5, 3) := by decide +kernel
theorem dX3_bitsOfShare_6 : decode cX3_bitsOfShare 6 = .ok (.lconst 0, 1) := by decide +kernel
theorem dX3_bitsOfShare_7 : decode cX3_bitsOfShare 7 = .ok (.lreturn, 1) := by decide +kernel
theorem dX3_bitsOfShare_8 : decode cX3_bitsOfShare 8 = .ok (.dload_n 0, 1) := by decide +kernel
theorem dX3_bitsOfShare_9 : decode cX3_bitsOfShare 9 = .ok (.dstore_n 2, 1) := by decide +kernel
theorem dX3_bitsOfShare_10 : decode cX3_bitsOfShare 10 = .ok (.ldc2_w 295, 3) := by decide +kernel
theorem dX3_bitsOfShare_13 : decode cX3_bitsOfShare 13 = .ok (.lstore 4, 2) := by decide +kernel
theorem dX3_bitsOfShare_15 : decode cX3_bitsOfShare 15 = .ok (.dload_n 2, 1) := by decide +kernel
theorem dX3_bitsOfShare_16 : decode cX3_bitsOfShare 16 = .ok (.dconst 1, 1) := by decide +kernel
theorem dX3_bitsOfShare_17 : decode cX3_bitsOfShare 17 = .ok (.dcmp .g, 1) := by decide +kernel
theorem dX3_bitsOfShare_18 : decode cX3_bitsOfShare 18 = .ok (.ifCond .ge 25, 3) := by decide +kernel
theorem dX3_bitsOfShare_21 : decode cX3_bitsOfShare 21 = .ok (.lload 4, 2) := by decide +kernel
theorem dX3_bitsOfShare_23 : decode cX3_bitsOfShare 23 = .ok (.lconst 1, 1) := by decide +kernel
theorem dX3_bitsOfShare_24 : decode cX3_bitsOfShare 24 = .ok (.lcmp, 1) := by decide +kernel
theorem dX3_bitsOfShare_25 : decode cX3_bitsOfShare 25 = .ok (.ifCond .le 18, 3) := by decide +kernel
theorem dX3_bitsOfShare_28 : decode cX3_bitsOfShare 28 = .ok (.dload_n 2, 1) := by decide +kernel
theorem dX3_bitsOfShare_29 : decode cX3_bitsOfShare 29 = .ok (.ldc2_w 297, 3) := by decide +kernel
theorem dX3_bitsOfShare_32 : decode cX3_bitsOfShare 32 = .ok (.dmul, 1) := by decide +kernel
theorem dX3_bitsOfShare_33 : decode cX3_bitsOfShare 33 = .ok (.dstore_n 2, 1) := by decide +kernel
theorem dX3_bitsOfShare_34 : decode cX3_bitsOfShare 34 = .ok (.lload 4, 2) := by decide +kernel
theorem dX3_bitsOfShare_36 : decode cX3_bitsOfShare 36 = .ok (.lconst 1, 1) := by decide +kernel
theorem dX3_bitsOfShare_37 : decode cX3_bitsOfShare 37 = .ok (.lsub, 1) := by decide +kernel
theorem dX3_bitsOfShare_38 : decode cX3_bitsOfShare 38 = .ok (.lstore 4, 2) := by decide +kernel
theorem dX3_bitsOfShare_40 : decode cX3_bitsOfShare 40 = .ok (.goto (-25), 3) := by decide +kernel
theorem dX3_bitsOfShare_43 : decode cX3_bitsOfShare 43 = .ok (.dload_n 2, 1) := by decide +kernel
theorem dX3_bitsOfShare_44 : decode cX3_bitsOfShare 44 = .ok (.dconst 1, 1) := by decide +kernel
theorem dX3_bitsOfShare_45 : decode cX3_bitsOfShare 45 = .ok (.dsub, 1) := by decide +kernel
theorem dX3_bitsOfShare_46 : decode cX3_bitsOfShare 46 = .ok (.ldc2_w 299, 3) := by decide +kernel
theorem dX3_bitsOfShare_49 : decode cX3_bitsOfShare 49 = .ok (.dmul, 1) := by decide +kernel
theorem dX3_bitsOfShare_50 : decode cX3_bitsOfShare 50 = .ok (.d2l, 1) := by decide +kernel
theorem dX3_bitsOfShare_51 : decode cX3_bitsOfShare 51 = .ok (.lstore 6, 2) := by decide +kernel
theorem dX3_bitsOfShare_53 : decode cX3_bitsOfShare 53 = .ok (.lload 4, 2) := by decide +kernel
theorem dX3_bitsOfShare_55 : decode cX3_bitsOfShare 55 = .ok (.bipush 52, 2) := by decide +kernel
theorem dX3_bitsOfShare_57 : decode cX3_bitsOfShare 57 = .ok (.lshl, 1) := by decide +kernel
theorem dX3_bitsOfShare_58 : decode cX3_bitsOfShare 58 = .ok (.lload 6, 2) := by decide +kernel
theorem dX3_bitsOfShare_60 : decode cX3_bitsOfShare 60 = .ok (.lor, 1) := by decide +kernel
theorem dX3_bitsOfShare_61 : decode cX3_bitsOfShare 61 = .ok (.lreturn, 1) := by decide +kernel
theorem dX3_saveState_0 : decode cX3_saveState 0 = .ok (.aload_n 0, 1) := by decide +kernel
theorem dX3_saveState_1 : decode cX3_saveState 1 = .ok (.getfield 16, 3) := by decide +kernel
theorem dX3_saveState_4 : decode cX3_saveState 4 = .ok (.aload_n 0, 1) := by decide +kernel
theorem dX3_saveState_5 : decode cX3_saveState 5 = .ok (.getfield 24, 3) := by decide +kernel
theorem dX3_saveState_8 : decode cX3_saveState 8 = .ok (.aaload, 1) := by decide +kernel
theorem dX3_saveState_9 : decode cX3_saveState 9 = .ok (.aload_n 0, 1) := by decide +kernel
theorem dX3_saveState_10 : decode cX3_saveState 10 = .ok (.getfield 10, 3) := by decide +kernel
theorem dX3_saveState_13 : decode cX3_saveState 13 = .ok (.invokevirtual 151, 3) := by decide +kernel
theorem dX3_saveState_16 : decode cX3_saveState 16 = .ok (.aload_n 0, 1) := by decide +kernel
theorem dX3_saveState_17 : decode cX3_saveState 17 = .ok (.aload_n 0, 1) := by decide +kernel
theorem dX3_saveState_18 : decode cX3_saveState 18 = .ok (.getfield 24, 3) := by decide +kernel
theorem dX3_saveState_21 : decode cX3_saveState 21 = .ok (.iconst 5, 1) := by decide +kernel
theorem dX3_saveState_22 : decode cX3_saveState 22 = .ok (.if_icmp .ne 7, 3) := by decide +kernel
theorem dX3_saveState_25 : decode cX3_saveState 25 = .ok (.iconst 0, 1) := by decide +kernel
theorem dX3_saveState_26 : decode cX3_saveState 26 = .ok (.goto 9, 3) := by decide +kernel
theorem dX3_saveState_29 : decode cX3_saveState 29 = .ok (.aload_n 0, 1) := by decide +kernel
theorem dX3_saveState_30 : decode cX3_saveState 30 = .ok (.getfield 24, 3) := by decide +kernel
theorem dX3_saveState_33 : decode cX3_saveState 33 = .ok (.iconst 1, 1) := by decide +kernel
theorem dX3_saveState_34 : decode cX3_saveState 34 = .ok (.iadd, 1) := by decide +kernel
theorem dX3_saveState_35 : decode cX3_saveState 35 = .ok (.putfield 24, 3) := by decide +kernel
theorem dX3_saveState_38 : decode cX3_saveState 38 = .ok (.aload_n 0, 1) := by decide +kernel
theorem dX3_saveState_39 : decode cX3_saveState 39 = .ok (.getfield 20, 3) := by decide +kernel
theorem dX3_saveState_42 : decode cX3_saveState 42 = .ok (.bipush 6, 2) := by decide +kernel
theorem dX3_saveState_44 : decode cX3_saveState 44 = .ok (.if_icmp .ge 13, 3) := by decide +kernel
theorem dX3_saveState_47 : decode cX3_saveState 47 = .ok (.aload_n 0, 1) := by decide +kernel
theorem dX3_saveState_48 : decode cX3_saveState 48 = .ok (.dup, 1) := by decide +kernel
theorem dX3_saveState_49 : decode cX3_saveState 49 = .ok (.getfield 20, 3) := by decide +kernel
theorem dX3_saveState_52 : decode cX3_saveState 52 = .ok (.iconst 1, 1) := by decide +kernel
theorem dX3_saveState_53 : decode cX3_saveState 53 = .ok (.iadd, 1) := by decide +kernel
theorem dX3_saveState_54 : decode cX3_saveState 54 = .ok (.putfield 20, 3) := by decide +kernel
theorem dX3_saveState_57 : decode cX3_saveState 57 = .ok (.return_, 1) := by decide +kernel
theorem dX3_carryOutOrder_0 : decode cX3_carryOutOrder 0 = .ok (.aload_n 0, 1) := by decide +kernel
theorem dX3_carryOutOrder_1 : decode cX3_carryOutOrder 1 = .ok (.getfield 30, 3) := by decide +kernel
theorem dX3_carryOutOrder_4 : decode cX3_carryOutOrder 4 = .ok (.getfield 301, 3) := by decide +kernel
theorem dX3_carryOutOrder_7 : decode cX3_carryOutOrder 7 = .ok (.istore_n 1, 1) := by decide +kernel
theorem dX3_carryOutOrder_8 : decode cX3_carryOutOrder 8 = .ok (.aload_n 0, 1) := by decide +kernel
theorem dX3_carryOutOrder_9 : decode cX3_carryOutOrder 9 = .ok (.getfield 30, 3) := by decide +kernel
theorem dX3_carryOutOrder_12 : decode cX3_carryOutOrder 12 = .ok (.getfield 303, 3) := by decide +kernel
theorem dX3_carryOutOrder_15 : decode cX3_carryOutOrder 15 = .ok (.lookupswitch 137 #[(97, 33), (98, 76), (112, 101)], 33) := by decide +kernel
theorem dX3_carryOutOrder_48 : decode cX3_carryOutOrder 48 = .ok (.aload_n 0, 1) := by decide +kernel
theorem dX3_carryOutOrder_49 : decode cX3_carryOutOrder 49 = .ok (.getfield 10, 3) := by decide +kernel
theorem dX3_carryOutOrder_52 : decode cX3_carryOutOrder 52 = .ok (.iconst 0, 1) := by decide +kernel
theorem dX3_carryOutOrder_53 : decode cX3_carryOutOrder 53 = .ok (.iload_n 1, 1) := by decide +kernel
theorem dX3_carryOutOrder_54 : decode cX3_carryOutOrder 54 = .ok (.invokevirtual 306, 3) := by decide +kernel
theorem dX3_carryOutOrder_57 : decode cX3_carryOutOrder 57 = .ok (.ifCond .ne 5, 3) := by decide +kernel
theorem dX3_carryOutOrder_60 : decode cX3_carryOutOrder 60 = .ok (.iconst 0, 1) := by decide +kernel
theorem dX3_carryOutOrder_61 : decode cX3_carryOutOrder 61 = .ok (.ireturn, 1) := by decide +kernel
theorem dX3_carryOutOrder_62 : decode cX3_carryOutOrder 62 = .ok (.aload_n 0, 1) := by decide +kernel
theorem dX3_carryOutOrder_63 : decode cX3_carryOutOrder 63 = .ok (.getfield 10, 3) := by decide +kernel
theorem dX3_carryOutOrder_66 : decode cX3_carryOutOrder 66 = .ok (.getfield 65, 3) := by decide +kernel
theorem dX3_carryOutOrder_69 : decode cX3_carryOutOrder 69 = .ok (.iload_n 1, 1) := by decide +kernel
theorem dX3_carryOutOrder_70 : decode cX3_carryOutOrder 70 = .ok (.aaload, 1) := by decide +kernel
theorem dX3_carryOutOrder_71 : decode cX3_carryOutOrder 71 = .ok (.aload_n 0, 1) := by decide +kernel
theorem dX3_carryOutOrder_72 : decode cX3_carryOutOrder 72 = .ok (.getfield 30, 3) := by decide +kernel
theorem dX3_carryOutOrder_75 : decode cX3_carryOutOrder 75 = .ok (.getfield 309, 3) := by decide +kernel
theorem dX3_carryOutOrder_78 : decode cX3_carryOutOrder 78 = .ok (.aload_n 0, 1) := by decide +kernel
theorem dX3_carryOutOrder_79 : decode cX3_carryOutOrder 79 = .ok (.getfield 30, 3) := by decide +kernel
theorem dX3_carryOutOrder_82 : decode cX3_carryOutOrder 82 = .ok (.getfield 311, 3) := by decide +kernel
theorem dX3_carryOutOrder_85 : decode cX3_carryOutOrder 85 = .ok (.invokevirtual 69, 3) := by decide +kernel
theorem dX3_carryOutOrder_88 : decode cX3_carryOutOrder 88 = .ok (.pop, 1) := by decide +kernel
theorem dX3_carryOutOrder_89 : decode cX3_carryOutOrder 89 = .ok (.iconst 1, 1) := by decide +kernel
theorem dX3_carryOutOrder_90 : decode cX3_carryOutOrder 90 = .ok (.ireturn, 1) := by decide +kernel
theorem dX3_carryOutOrder_91 : decode cX3_carryOutOrder 91 = .ok (.aload_n 0, 1) := by decide +kernel
theorem dX3_carryOutOrder_92 : decode cX3_carryOutOrder 92 = .ok (.getfield 10, 3) := by decide +kernel
theorem dX3_carryOutOrder_95 : decode cX3_carryOutOrder 95 = .ok (.iconst 1, 1) := by decide +kernel
theorem dX3_carryOutOrder_96 : decode cX3_carryOutOrder 96 = .ok (.iload_n 1, 1) := by decide +kernel
theorem dX3_carryOutOrder_97 : decode cX3_carryOutOrder 97 = .ok (.invokevirtual 306, 3) := by decide +kernel
theorem dX3_carryOutOrder_100 : decode cX3_carryOutOrder 100 = .ok (.ifCond .ne 5, 3) := by decide +kernel
theorem dX3_carryOutOrder_103 : decode cX3_carryOutOrder 103 = .ok (.iconst 0, 1) := by decide +kernel
theorem dX3_carryOutOrder_104 : decode cX3_carryOutOrder 104 = .ok (.ireturn, 1) := by decide +kernel
theorem dX3_carryOutOrder_105 : decode cX3_carryOutOrder 105 = .ok (.aload_n 0, 1) := by decide +kernel
theorem dX3_carryOutOrder_106 : decode cX3_carryOutOrder 106 = .ok (.getfield 10, 3) := by decide +kernel
theorem dX3_carryOutOrder_109 : decode cX3_carryOutOrder 109 = .ok (.iload_n 1, 1) := by decide +kernel
theorem dX3_carryOutOrder_110 : decode cX3_carryOutOrder 110 = .ok (.invokevirtual 97, 3) := by decide +kernel
theorem dX3_carryOutOrder_113 : decode cX3_carryOutOrder 113 = .ok (.pop, 1) := by decide +kernel
theorem dX3_carryOutOrder_114 : decode cX3_carryOutOrder 114 = .ok (.iconst 1, 1) := by decide +kernel
theorem dX3_carryOutOrder_115 : decode cX3_carryOutOrder 115 = .ok (.ireturn, 1) := by decide +kernel
theorem dX3_carryOutOrder_116 : decode cX3_carryOutOrder 116 = .ok (.aload_n 0, 1) := by decide +kernel
theorem dX3_carryOutOrder_117 : decode cX3_carryOutOrder 117 = .ok (.getfield 10, 3) := by decide +kernel
theorem dX3_carryOutOrder_120 : decode cX3_carryOutOrder 120 = .ok (.iconst 2, 1) := by decide +kernel
theorem dX3_carryOutOrder_121 : decode cX3_carryOutOrder 121 = .ok (.iload_n 1, 1) := by decide +kernel
theorem dX3_carryOutOrder_122 : decode cX3_carryOutOrder 122 = .ok (.invokevirtual 306, 3) := by decide +kernel
theorem dX3_carryOutOrder_125 : decode cX3_carryOutOrder 125 = .ok (.ifCond .ne 5, 3) := by decide +kernel
theorem dX3_carryOutOrder_128 : decode cX3_carryOutOrder 128 = .ok (.iconst 0, 1) := by decide +kernel
theorem dX3_carryOutOrder_129 : decode cX3_carryOutOrder 129 = .ok (.ireturn, 1) := by decide +kernel
theorem dX3_carryOutOrder_130 : decode cX3_carryOutOrder 130 = .ok (.aload_n 0, 1) := by decide +kernel
theorem dX3_carryOutOrder_131 : decode cX3_carryOutOrder 131 = .ok (.getfield 10, 3) := by decide +kernel
theorem dX3_carryOutOrder_134 : decode cX3_carryOutOrder 134 = .ok (.getfield 65, 3) := by decide +kernel
theorem dX3_carryOutOrder_137 : decode cX3_carryOutOrder 137 = .ok (.iload_n 1, 1) := by decide +kernel
theorem dX3_carryOutOrder_138 : decode cX3_carryOutOrder 138 = .ok (.aaload, 1) := by decide +kernel
theorem dX3_carryOutOrder_139 : decode cX3_carryOutOrder 139 = .ok (.aload_n 0, 1) := by decide +kernel
theorem dX3_carryOutOrder_140 : decode cX3_carryOutOrder 140 = .ok (.getfield 30, 3) := by decide +kernel
theorem dX3_carryOutOrder_143 : decode cX3_carryOutOrder 143 = .ok (.getfield 311, 3) := by decide +kernel
theorem dX3_carryOutOrder_146 : decode cX3_carryOutOrder 146 = .ok (.invokevirtual 102, 3) := by decide +kernel
theorem dX3_carryOutOrder_149 : decode cX3_carryOutOrder 149 = .ok (.pop, 1) := by decide +kernel
theorem dX3_carryOutOrder_150 : decode cX3_carryOutOrder 150 = .ok (.iconst 1, 1) := by decide +kernel
theorem dX3_carryOutOrder_151 : decode cX3_carryOutOrder 151 = .ok (.ireturn, 1) := by decide +kernel
theorem dX3_carryOutOrder_152 : decode cX3_carryOutOrder 152 = .ok (.aload_n 0, 1) := by decide +kernel
theorem dX3_carryOutOrder_153 : decode cX3_carryOutOrder 153 = .ok (.getfield 10, 3) := by decide +kernel
theorem dX3_carryOutOrder_156 : decode cX3_carryOutOrder 156 = .ok (.aload_n 0, 1) := by decide +kernel
theorem dX3_carryOutOrder_157 : decode cX3_carryOutOrder 157 = .ok (.getfield 30, 3) := by decide +kernel
theorem dX3_carryOutOrder_160 : decode cX3_carryOutOrder 160 = .ok (.getfield 311, 3) := by decide +kernel
theorem dX3_carryOutOrder_163 : decode cX3_carryOutOrder 163 = .ok (.invokevirtual 111, 3) := by decide +kernel
theorem dX3_carryOutOrder_166 : decode cX3_carryOutOrder 166 = .ok (.ifCond .ne 5, 3) := by decide +kernel
theorem dX3_carryOutOrder_169 : decode cX3_carryOutOrder 169 = .ok (.iconst 0, 1) := by decide +kernel
theorem dX3_carryOutOrder_170 : decode cX3_carryOutOrder 170 = .ok (.ireturn, 1) := by decide +kernel
theorem dX3_carryOutOrder_171 : decode cX3_carryOutOrder 171 = .ok (.aload_n 0, 1) := by decide +kernel
theorem dX3_carryOutOrder_172 : decode cX3_carryOutOrder 172 = .ok (.getfield 10, 3) := by decide +kernel
theorem dX3_carryOutOrder_175 : decode cX3_carryOutOrder 175 = .ok (.aload_n 0, 1) := by decide +kernel
theorem dX3_carryOutOrder_176 : decode cX3_carryOutOrder 176 = .ok (.getfield 30, 3) := by decide +kernel
theorem dX3_carryOutOrder_179 : decode cX3_carryOutOrder 179 = .ok (.getfield 311, 3) := by decide +kernel
theorem dX3_carryOutOrder_182 : decode cX3_carryOutOrder 182 = .ok (.invokevirtual 117, 3) := by decide +kernel
theorem dX3_carryOutOrder_185 : decode cX3_carryOutOrder 185 = .ok (.pop, 1) := by decide +kernel
theorem dX3_carryOutOrder_186 : decode cX3_carryOutOrder 186 = .ok (.iconst 1, 1) := by decide +kernel
theorem dX3_carryOutOrder_187 : decode cX3_carryOutOrder 187 = .ok (.ireturn, 1) := by decide +kernel
theorem dX3_demandPhase_0 : decode cX3_demandPhase 0 = .ok (.aload_n 0, 1) := by decide +kernel
theorem dX3_demandPhase_1 : decode cX3_demandPhase 1 = .ok (.getfield 10, 3) := by decide +kernel
theorem dX3_demandPhase_4 : decode cX3_demandPhase 4 = .ok (.iload_n 1, 1) := by decide +kernel
theorem dX3_demandPhase_5 : decode cX3_demandPhase 5 = .ok (.invokevirtual 314, 3) := by decide +kernel
theorem dX3_demandPhase_8 : decode cX3_demandPhase 8 = .ok (.ifCond .ne 14, 3) := by decide +kernel
theorem dX3_demandPhase_11 : decode cX3_demandPhase 11 = .ok (.new 317, 3) := by decide +kernel
theorem dX3_demandPhase_14 : decode cX3_demandPhase 14 = .ok (.dup, 1) := by decide +kernel
theorem dX3_demandPhase_15 : decode cX3_demandPhase 15 = .ok (.ldc_w 319, 3) := by decide +kernel
theorem dX3_demandPhase_18 : decode cX3_demandPhase 18 = .ok (.invokespecial 321, 3) := by decide +kernel
theorem dX3_demandPhase_21 : decode cX3_demandPhase 21 = .ok (.athrow, 1) := by decide +kernel
theorem dX3_demandPhase_22 : decode cX3_demandPhase 22 = .ok (.return_, 1) := by decide +kernel
theorem dX3_demandNoReason_0 : decode cX3_demandNoReason 0 = .ok (.aload_n 0, 1) := by decide +kernel
theorem dX3_demandNoReason_1 : decode cX3_demandNoReason 1 = .ok (.getfield 10, 3) := by decide +kernel
theorem dX3_demandNoReason_4 : decode cX3_demandNoReason 4 = .ok (.iload_n 1, 1) := by decide +kernel
theorem dX3_demandNoReason_5 : decode cX3_demandNoReason 5 = .ok (.iload_n 2, 1) := by decide +kernel
theorem dX3_demandNoReason_6 : decode cX3_demandNoReason 6 = .ok (.iload_n 3, 1) := by decide +kernel
theorem dX3_demandNoReason_7 : decode cX3_demandNoReason 7 = .ok (.invokevirtual 226, 3) := by decide +kernel
theorem dX3_demandNoReason_10 : decode cX3_demandNoReason 10 = .ok (.ifCond .eq 14, 3) := by decide +kernel
theorem dX3_demandNoReason_13 : decode cX3_demandNoReason 13 = .ok (.new 37, 3) := by decide +kernel
theorem dX3_demandNoReason_16 : decode cX3_demandNoReason 16 = .ok (.dup, 1) := by decide +kernel
theorem dX3_demandNoReason_17 : decode cX3_demandNoReason 17 = .ok (.ldc_w 322, 3) := by decide +kernel
theorem dX3_demandNoReason_20 : decode cX3_demandNoReason 20 = .ok (.invokespecial 41, 3) := by decide +kernel
theorem dX3_demandNoReason_23 : decode cX3_demandNoReason 23 = .ok (.athrow, 1) := by decide +kernel
theorem dX3_demandNoReason_24 : decode cX3_demandNoReason 24 = .ok (.return_, 1) := by decide +kernel
theorem dX3_demandUse_0 : decode cX3_demandUse 0 = .ok (.iload_n 0, 1) := by decide +kernel
theorem dX3_demandUse_1 : decode cX3_demandUse 1 = .ok (.ifCond .lt 8, 3) := by decide +kernel
theorem dX3_demandUse_4 : decode cX3_demandUse 4 = .ok (.iload_n 0, 1) := by decide +kernel
theorem dX3_demandUse_5 : decode cX3_demandUse 5 = .ok (.iconst 4, 1) := by decide +kernel
theorem dX3_demandUse_6 : decode cX3_demandUse 6 = .ok (.if_icmp .lt 14, 3) := by decide +kernel
theorem dX3_demandUse_9 : decode cX3_demandUse 9 = .ok (.new 317, 3) := by decide +kernel
theorem dX3_demandUse_12 : decode cX3_demandUse 12 = .ok (.dup, 1) := by decide +kernel
theorem dX3_demandUse_13 : decode cX3_demandUse 13 = .ok (.ldc_w 324, 3) := by decide +kernel
theorem dX3_demandUse_16 : decode cX3_demandUse 16 = .ok (.invokespecial 321, 3) := by decide +kernel
theorem dX3_demandUse_19 : decode cX3_demandUse 19 = .ok (.athrow, 1) := by decide +kernel
theorem dX3_demandUse_20 : decode cX3_demandUse 20 = .ok (.return_, 1) := by decide +kernel
theorem dX3_demandSetting_0 : decode cX3_demandSetting 0 = .ok (.iload_n 0, 1) := by decide +kernel
theorem dX3_demandSetting_1 : decode cX3_demandSetting 1 = .ok (.ifCond .lt 8, 3) := by decide +kernel
theorem dX3_demandSetting_4 : decode cX3_demandSetting 4 = .ok (.iload_n 0, 1) := by decide +kernel
theorem dX3_demandSetting_5 : decode cX3_demandSetting 5 = .ok (.iconst 4, 1) := by decide +kernel
theorem dX3_demandSetting_6 : decode cX3_demandSetting 6 = .ok (.if_icmp .lt 14, 3) := by decide +kernel
theorem dX3_demandSetting_9 : decode cX3_demandSetting 9 = .ok (.new 317, 3) := by decide +kernel
theorem dX3_demandSetting_12 : decode cX3_demandSetting 12 = .ok (.dup, 1) := by decide +kernel
theorem dX3_demandSetting_13 : decode cX3_demandSetting 13 = .ok (.ldc_w 326, 3) := by decide +kernel
theorem dX3_demandSetting_16 : decode cX3_demandSetting 16 = .ok (.invokespecial 321, 3) := by decide +kernel
theorem dX3_demandSetting_19 : decode cX3_demandSetting 19 = .ok (.athrow, 1) := by decide +kernel
theorem dX3_demandSetting_20 : decode cX3_demandSetting 20 = .ok (.return_, 1) := by decide +kernel
theorem dX3_demandRange_0 : decode cX3_demandRange 0 = .ok (.iload_n 0, 1) := by decide +kernel
theorem dX3_demandRange_1 : decode cX3_demandRange 1 = .ok (.iload_n 1, 1) := by decide +kernel
theorem dX3_demandRange_2 : decode cX3_demandRange 2 = .ok (.if_icmp .lt 8, 3) := by decide +kernel
theorem dX3_demandRange_5 : decode cX3_demandRange 5 = .ok (.iload_n 0, 1) := by decide +kernel
theorem dX3_demandRange_6 : decode cX3_demandRange 6 = .ok (.iload_n 2, 1) := by decide +kernel
theorem dX3_demandRange_7 : decode cX3_demandRange 7 = .ok (.if_icmp .le 14, 3) := by decide +kernel
theorem dX3_demandRange_10 : decode cX3_demandRange 10 = .ok (.new 135, 3) := by decide +kernel
theorem dX3_demandRange_13 : decode cX3_demandRange 13 = .ok (.dup, 1) := by decide +kernel
theorem dX3_demandRange_14 : decode cX3_demandRange 14 = .ok (.ldc_w 328, 3) := by decide +kernel
theorem dX3_demandRange_17 : decode cX3_demandRange 17 = .ok (.invokespecial 139, 3) := by decide +kernel
theorem dX3_demandRange_20 : decode cX3_demandRange 20 = .ok (.athrow, 1) := by decide +kernel
theorem dX3_demandRange_21 : decode cX3_demandRange 21 = .ok (.return_, 1) := by decide +kernel
theorem dX3_instalmentsFor_0 : decode cX3_instalmentsFor 0 = .ok (.iload_n 0, 1) := by decide +kernel
theorem dX3_instalmentsFor_1 : decode cX3_instalmentsFor 1 = .ok (.sipush 1000, 3) := by decide +kernel
theorem dX3_instalmentsFor_4 : decode cX3_instalmentsFor 4 = .ok (.if_icmp .ge 5, 3) := by decide +kernel
theorem dX3_instalmentsFor_7 : decode cX3_instalmentsFor 7 = .ok (.iconst 1, 1) := by decide +kernel
theorem dX3_instalmentsFor_8 : decode cX3_instalmentsFor 8 = .ok (.ireturn, 1) := by decide +kernel
theorem dX3_instalmentsFor_9 : decode cX3_instalmentsFor 9 = .ok (.iload_n 0, 1) := by decide +kernel
theorem dX3_instalmentsFor_10 : decode cX3_instalmentsFor 10 = .ok (.sipush 5000, 3) := by decide +kernel
theorem dX3_instalmentsFor_13 : decode cX3_instalmentsFor 13 = .ok (.if_icmp .ge 5, 3) := by decide +kernel
theorem dX3_instalmentsFor_16 : decode cX3_instalmentsFor 16 = .ok (.iconst 2, 1) := by decide +kernel
theorem dX3_instalmentsFor_17 : decode cX3_instalmentsFor 17 = .ok (.ireturn, 1) := by decide +kernel
theorem dX3_instalmentsFor_18 : decode cX3_instalmentsFor 18 = .ok (.iload_n 0, 1) := by decide +kernel
theorem dX3_instalmentsFor_19 : decode cX3_instalmentsFor 19 = .ok (.sipush 20000, 3) := by decide +kernel
theorem dX3_instalmentsFor_22 : decode cX3_instalmentsFor 22 = .ok (.if_icmp .ge 7, 3) := by decide +kernel
theorem dX3_instalmentsFor_25 : decode cX3_instalmentsFor 25 = .ok (.iconst 3, 1) := by decide +kernel
theorem dX3_instalmentsFor_26 : decode cX3_instalmentsFor 26 = .ok (.goto 4, 3) := by decide +kernel
theorem dX3_instalmentsFor_29 : decode cX3_instalmentsFor 29 = .ok (.iconst 4, 1) := by decide +kernel
theorem dX3_instalmentsFor_30 : decode cX3_instalmentsFor 30 = .ok (.ireturn, 1) := by decide +kernel
theorem dX3_partOf_0 : decode cX3_partOf 0 = .ok (.iload_n 2, 1) := by decide +kernel
theorem dX3_partOf_1 : decode cX3_partOf 1 = .ok (.ifCond .lt 8, 3) := by decide +kernel
theorem dX3_partOf_4 : decode cX3_partOf 4 = .ok (.iload_n 2, 1) := by decide +kernel
theorem dX3_partOf_5 : decode cX3_partOf 5 = .ok (.iload_n 1, 1) := by decide +kernel
theorem dX3_partOf_6 : decode cX3_partOf 6 = .ok (.if_icmp .lt 5, 3) := by decide +kernel
theorem dX3_partOf_9 : decode cX3_partOf 9 = .ok (.iconst 0, 1) := by decide +kernel
theorem dX3_partOf_10 : decode cX3_partOf 10 = .ok (.ireturn, 1) := by decide +kernel
theorem dX3_partOf_11 : decode cX3_partOf 11 = .ok (.iload_n 0, 1) := by decide +kernel
theorem dX3_partOf_12 : decode cX3_partOf 12 = .ok (.iload_n 1, 1) := by decide +kernel
theorem dX3_partOf_13 : decode cX3_partOf 13 = .ok (.idiv, 1) := by decide +kernel
theorem dX3_partOf_14 : decode cX3_partOf 14 = .ok (.istore_n 3, 1) := by decide +kernel
theorem dX3_partOf_15 : decode cX3_partOf 15 = .ok (.iload_n 2, 1) := by decide +kernel
theorem dX3_partOf_16 : decode cX3_partOf 16 = .ok (.iload_n 1, 1) := by decide +kernel
theorem dX3_partOf_17 : decode cX3_partOf 17 = .ok (.iconst 1, 1) := by decide +kernel
theorem dX3_partOf_18 : decode cX3_partOf 18 = .ok (.isub, 1) := by decide +kernel
theorem dX3_partOf_19 : decode cX3_partOf 19 = .ok (.if_icmp .ne 11, 3) := by decide +kernel
theorem dX3_partOf_22 : decode cX3_partOf 22 = .ok (.iload_n 0, 1) := by decide +kernel
theorem dX3_partOf_23 : decode cX3_partOf 23 = .ok (.iload_n 2, 1) := by decide +kernel
theorem dX3_partOf_24 : decode cX3_partOf 24 = .ok (.iload_n 3, 1) := by decide +kernel
theorem dX3_partOf_25 : decode cX3_partOf 25 = .ok (.imul, 1) := by decide +kernel
theorem dX3_partOf_26 : decode cX3_partOf 26 = .ok (.isub, 1) := by decide +kernel
theorem dX3_partOf_27 : decode cX3_partOf 27 = .ok (.goto 4, 3) := by decide +kernel
theorem dX3_partOf_30 : decode cX3_partOf 30 = .ok (.iload_n 3, 1) := by decide +kernel
theorem dX3_partOf_31 : decode cX3_partOf 31 = .ok (.ireturn, 1) := by decide +kernel
theorem dX3_percentOf_0 : decode cX3_percentOf 0 = .ok (.iload_n 1, 1) := by decide +kernel
theorem dX3_percentOf_1 : decode cX3_percentOf 1 = .ok (.iload_n 0, 1) := by decide +kernel
theorem dX3_percentOf_2 : decode cX3_percentOf 2 = .ok (.imul, 1) := by decide +kernel
theorem dX3_percentOf_3 : decode cX3_percentOf 3 = .ok (.bipush 100, 2) := by decide +kernel
theorem dX3_percentOf_5 : decode cX3_percentOf 5 = .ok (.idiv, 1) := by decide +kernel
theorem dX3_percentOf_6 : decode cX3_percentOf 6 = .ok (.ireturn, 1) := by decide +kernel
end
section
theorem dL_addPhase_0 : decode cL_addPhase 0 = .ok (.aload_n 1, 1) := by decide +kernel
theorem dL_addPhase_1 : decode cL_addPhase 1 = .ok (.iconst 0, 1) := by decide +kernel
theorem dL_addPhase_2 : decode cL_addPhase 2 = .ok (.aload_n 0, 1) := by decide +kernel
theorem dL_addPhase_3 : decode cL_addPhase 3 = .ok (.invokevirtual 7, 3) := by decide +kernel
theorem dL_addPhase_6 : decode cL_addPhase 6 = .ok (.i2l, 1) := by decide +kernel
theorem dL_addPhase_7 : decode cL_addPhase 7 = .ok (.lastore, 1) := by decide +kernel
theorem dL_addPhase_8 : decode cL_addPhase 8 = .ok (.goto 6, 3) := by decide +kernel
theorem dL_addPhase_11 : decode cL_addPhase 11 = .ok (.astore_n 2, 1) := by decide +kernel
theorem dL_addPhase_12 : decode cL_addPhase 12 = .ok (.iconst 1, 1) := by decide +kernel
theorem dL_addPhase_13 : decode cL_addPhase 13 = .ok (.ireturn, 1) := by decide +kernel
theorem dL_addPhase_14 : decode cL_addPhase 14 = .ok (.iconst 0, 1) := by decide +kernel
theorem dL_addPhase_15 : decode cL_addPhase 15 = .ok (.ireturn, 1) := by decide +kernel
theorem dL_area_0 : decode cL_area 0 = .ok (.aload 4, 2) := by decide +kernel
theorem dL_area_2 : decode cL_area 2 = .ok (.iconst 0, 1) := by decide +kernel
theorem dL_area_3 : decode cL_area 3 = .ok (.aload_n 0, 1) := by decide +kernel
theorem dL_area_4 : decode cL_area 4 = .ok (.iload_n 1, 1) := by decide +kernel
theorem dL_area_5 : decode cL_area 5 = .ok (.iload_n 2, 1) := by decide +kernel
theorem dL_area_6 : decode cL_area 6 = .ok (.iload_n 3, 1) := by decide +kernel
theorem dL_area_7 : decode cL_area 7 = .ok (.invokevirtual 15, 3) := by decide +kernel
theorem dL_area_10 : decode cL_area 10 = .ok (.i2l, 1) := by decide +kernel
theorem dL_area_11 : decode cL_area 11 = .ok (.lastore, 1) := by decide +kernel
theorem dL_area_12 : decode cL_area 12 = .ok (.goto 15, 3) := by decide +kernel
theorem dL_area_15 : decode cL_area 15 = .ok (.astore 5, 2) := by decide +kernel
theorem dL_area_17 : decode cL_area 17 = .ok (.iconst 1, 1) := by decide +kernel
theorem dL_area_18 : decode cL_area 18 = .ok (.ireturn, 1) := by decide +kernel
theorem dL_area_19 : decode cL_area 19 = .ok (.astore 5, 2) := by decide +kernel
theorem dL_area_21 : decode cL_area 21 = .ok (.iconst 2, 1) := by decide +kernel
theorem dL_area_22 : decode cL_area 22 = .ok (.ireturn, 1) := by decide +kernel
theorem dL_area_23 : decode cL_area 23 = .ok (.astore 5, 2) := by decide +kernel
theorem dL_area_25 : decode cL_area 25 = .ok (.iconst 3, 1) := by decide +kernel
theorem dL_area_26 : decode cL_area 26 = .ok (.ireturn, 1) := by decide +kernel
theorem dL_area_27 : decode cL_area 27 = .ok (.iconst 0, 1) := by decide +kernel
theorem dL_area_28 : decode cL_area 28 = .ok (.ireturn, 1) := by decide +kernel
theorem dL_exempt_0 : decode cL_exempt 0 = .ok (.aload 4, 2) := by decide +kernel
theorem dL_exempt_2 : decode cL_exempt 2 = .ok (.iconst 0, 1) := by decide +kernel
theorem dL_exempt_3 : decode cL_exempt 3 = .ok (.aload_n 0, 1) := by decide +kernel
theorem dL_exempt_4 : decode cL_exempt 4 = .ok (.iload_n 1, 1) := by decide +kernel
theorem dL_exempt_5 : decode cL_exempt 5 = .ok (.iload_n 2, 1) := by decide +kernel
theorem dL_exempt_6 : decode cL_exempt 6 = .ok (.iload_n 3, 1) := by decide +kernel
theorem dL_exempt_7 : decode cL_exempt 7 = .ok (.invokevirtual 23, 3) := by decide +kernel
theorem dL_exempt_10 : decode cL_exempt 10 = .ok (.i2l, 1) := by decide +kernel
theorem dL_exempt_11 : decode cL_exempt 11 = .ok (.lastore, 1) := by decide +kernel
theorem dL_exempt_12 : decode cL_exempt 12 = .ok (.goto 15, 3) := by decide +kernel
theorem dL_exempt_15 : decode cL_exempt 15 = .ok (.astore 5, 2) := by decide +kernel
theorem dL_exempt_17 : decode cL_exempt 17 = .ok (.iconst 1, 1) := by decide +kernel
theorem dL_exempt_18 : decode cL_exempt 18 = .ok (.ireturn, 1) := by decide +kernel
theorem dL_exempt_19 : decode cL_exempt 19 = .ok (.astore 5, 2) := by decide +kernel
theorem dL_exempt_21 : decode cL_exempt 21 = .ok (.iconst 2, 1) := by decide +kernel
theorem dL_exempt_22 : decode cL_exempt 22 = .ok (.ireturn, 1) := by decide +kernel
theorem dL_exempt_23 : decode cL_exempt 23 = .ok (.astore 5, 2) := by decide +kernel
theorem dL_exempt_25 : decode cL_exempt 25 = .ok (.iconst 3, 1) := by decide +kernel
theorem dL_exempt_26 : decode cL_exempt 26 = .ok (.ireturn, 1) := by decide +kernel
theorem dL_exempt_27 : decode cL_exempt 27 = .ok (.iconst 0, 1) := by decide +kernel
theorem dL_exempt_28 : decode cL_exempt 28 = .ok (.ireturn, 1) := by decide +kernel
theorem dL_rate_0 : decode cL_rate 0 = .ok (.aload_n 3, 1) := by decide +kernel
theorem dL_rate_1 : decode cL_rate 1 = .ok (.iconst 0, 1) := by decide +kernel
theorem dL_rate_2 : decode cL_rate 2 = .ok (.aload_n 0, 1) := by decide +kernel
theorem dL_rate_3 : decode cL_rate 3 = .ok (.iload_n 1, 1) := by decide +kernel
theorem dL_rate_4 : decode cL_rate 4 = .ok (.iload_n 2, 1) := by decide +kernel
theorem dL_rate_5 : decode cL_rate 5 = .ok (.invokevirtual 26, 3) := by decide +kernel
theorem dL_rate_8 : decode cL_rate 8 = .ok (.i2l, 1) := by decide +kernel
theorem dL_rate_9 : decode cL_rate 9 = .ok (.lastore, 1) := by decide +kernel
theorem dL_rate_10 : decode cL_rate 10 = .ok (.goto 11, 3) := by decide +kernel
theorem dL_rate_13 : decode cL_rate 13 = .ok (.astore 4, 2) := by decide +kernel
theorem dL_rate_15 : decode cL_rate 15 = .ok (.iconst 1, 1) := by decide +kernel
theorem dL_rate_16 : decode cL_rate 16 = .ok (.ireturn, 1) := by decide +kernel
theorem dL_rate_17 : decode cL_rate 17 = .ok (.astore 4, 2) := by decide +kernel
theorem dL_rate_19 : decode cL_rate 19 = .ok (.iconst 2, 1) := by decide +kernel
theorem dL_rate_20 : decode cL_rate 20 = .ok (.ireturn, 1) := by decide +kernel
theorem dL_rate_21 : decode cL_rate 21 = .ok (.iconst 0, 1) := by decide +kernel
theorem dL_rate_22 : decode cL_rate 22 = .ok (.ireturn, 1) := by decide +kernel
theorem dL_set_0 : decode cL_set 0 = .ok (.aload_n 3, 1) := by decide +kernel
theorem dL_set_1 : decode cL_set 1 = .ok (.iconst 0, 1) := by decide +kernel
theorem dL_set_2 : decode cL_set 2 = .ok (.aload_n 0, 1) := by decide +kernel
theorem dL_set_3 : decode cL_set 3 = .ok (.iload_n 1, 1) := by decide +kernel
theorem dL_set_4 : decode cL_set 4 = .ok (.iload_n 2, 1) := by decide +kernel
theorem dL_set_5 : decode cL_set 5 = .ok (.invokevirtual 30, 3) := by decide +kernel
theorem dL_set_8 : decode cL_set 8 = .ok (.i2l, 1) := by decide +kernel
theorem dL_set_9 : decode cL_set 9 = .ok (.lastore, 1) := by decide +kernel
theorem dL_set_10 : decode cL_set 10 = .ok (.goto 11, 3) := by decide +kernel
theorem dL_set_13 : decode cL_set 13 = .ok (.astore 4, 2) := by decide +kernel
theorem dL_set_15 : decode cL_set 15 = .ok (.iconst 1, 1) := by decide +kernel
theorem dL_set_16 : decode cL_set 16 = .ok (.ireturn, 1) := by decide +kernel
theorem dL_set_17 : decode cL_set 17 = .ok (.astore 4, 2) := by decide +kernel
theorem dL_set_19 : decode cL_set 19 = .ok (.iconst 2, 1) := by decide +kernel
theorem dL_set_20 : decode cL_set 20 = .ok (.ireturn, 1) := by decide +kernel
theorem dL_set_21 : decode cL_set 21 = .ok (.iconst 0, 1) := by decide +kernel
theorem dL_set_22 : decode cL_set 22 = .ok (.ireturn, 1) := by decide +kernel
theorem dL_begin_0 : decode cL_begin 0 = .ok (.aload_n 2, 1) := by decide +kernel
theorem dL_begin_1 : decode cL_begin 1 = .ok (.iconst 0, 1) := by decide +kernel
theorem dL_begin_2 : decode cL_begin 2 = .ok (.aload_n 0, 1) := by decide +kernel
theorem dL_begin_3 : decode cL_begin 3 = .ok (.iload_n 1, 1) := by decide +kernel
theorem dL_begin_4 : decode cL_begin 4 = .ok (.invokevirtual 33, 3) := by decide +kernel
theorem dL_begin_7 : decode cL_begin 7 = .ok (.i2l, 1) := by decide +kernel
theorem dL_begin_8 : decode cL_begin 8 = .ok (.lastore, 1) := by decide +kernel
theorem dL_begin_9 : decode cL_begin 9 = .ok (.goto 9, 3) := by decide +kernel
theorem dL_begin_12 : decode cL_begin 12 = .ok (.astore_n 3, 1) := by decide +kernel
theorem dL_begin_13 : decode cL_begin 13 = .ok (.iconst 1, 1) := by decide +kernel
theorem dL_begin_14 : decode cL_begin 14 = .ok (.ireturn, 1) := by decide +kernel
theorem dL_begin_15 : decode cL_begin 15 = .ok (.astore_n 3, 1) := by decide +kernel
theorem dL_begin_16 : decode cL_begin 16 = .ok (.iconst 2, 1) := by decide +kernel
theorem dL_begin_17 : decode cL_begin 17 = .ok (.ireturn, 1) := by decide +kernel
theorem dL_begin_18 : decode cL_begin 18 = .ok (.iconst 0, 1) := by decide +kernel
theorem dL_begin_19 : decode cL_begin 19 = .ok (.ireturn, 1) := by decide +kernel
theorem dL_pay_0 : decode cL_pay 0 = .ok (.aload_n 3, 1) := by decide +kernel
theorem dL_pay_1 : decode cL_pay 1 = .ok (.iconst 0, 1) := by decide +kernel
theorem dL_pay_2 : decode cL_pay 2 = .ok (.aload_n 0, 1) := by decide +kernel
theorem dL_pay_3 : decode cL_pay 3 = .ok (.iload_n 1, 1) := by decide +kernel
theorem dL_pay_4 : decode cL_pay 4 = .ok (.iload_n 2, 1) := by decide +kernel
theorem dL_pay_5 : decode cL_pay 5 = .ok (.invokevirtual 37, 3) := by decide +kernel
theorem dL_pay_8 : decode cL_pay 8 = .ok (.i2l, 1) := by decide +kernel
theorem dL_pay_9 : decode cL_pay 9 = .ok (.lastore, 1) := by decide +kernel
theorem dL_pay_10 : decode cL_pay 10 = .ok (.goto 15, 3) := by decide +kernel
theorem dL_pay_13 : decode cL_pay 13 = .ok (.astore 4, 2) := by decide +kernel
theorem dL_pay_15 : decode cL_pay 15 = .ok (.iconst 1, 1) := by decide +kernel
theorem dL_pay_16 : decode cL_pay 16 = .ok (.ireturn, 1) := by decide +kernel
theorem dL_pay_17 : decode cL_pay 17 = .ok (.astore 4, 2) := by decide +kernel
theorem dL_pay_19 : decode cL_pay 19 = .ok (.iconst 2, 1) := by decide +kernel
theorem dL_pay_20 : decode cL_pay 20 = .ok (.ireturn, 1) := by decide +kernel
theorem dL_pay_21 : decode cL_pay 21 = .ok (.astore 4, 2) := by decide +kernel
theorem dL_pay_23 : decode cL_pay 23 = .ok (.iconst 3, 1) := by decide +kernel
theorem dL_pay_24 : decode cL_pay 24 = .ok (.ireturn, 1) := by decide +kernel
theorem dL_pay_25 : decode cL_pay 25 = .ok (.iconst 0, 1) := by decide +kernel
theorem dL_pay_26 : decode cL_pay 26 = .ok (.ireturn, 1) := by decide +kernel
theorem dL_land_0 : decode cL_land 0 = .ok (.aload_n 3, 1) := by decide +kernel
theorem dL_land_1 : decode cL_land 1 = .ok (.iconst 0, 1) := by decide +kernel
theorem dL_land_2 : decode cL_land 2 = .ok (.aload_n 0, 1) := by decide +kernel
theorem dL_land_3 : decode cL_land 3 = .ok (.iload_n 1, 1) := by decide +kernel
theorem dL_land_4 : decode cL_land 4 = .ok (.iload_n 2, 1) := by decide +kernel
theorem dL_land_5 : decode cL_land 5 = .ok (.invokevirtual 40, 3) := by decide +kernel
theorem dL_land_8 : decode cL_land 8 = .ok (.i2l, 1) := by decide +kernel
theorem dL_land_9 : decode cL_land 9 = .ok (.lastore, 1) := by decide +kernel
theorem dL_land_10 : decode cL_land 10 = .ok (.goto 15, 3) := by decide +kernel
theorem dL_land_13 : decode cL_land 13 = .ok (.astore 4, 2) := by decide +kernel
theorem dL_land_15 : decode cL_land 15 = .ok (.iconst 1, 1) := by decide +kernel
theorem dL_land_16 : decode cL_land 16 = .ok (.ireturn, 1) := by decide +kernel
theorem dL_land_17 : decode cL_land 17 = .ok (.astore 4, 2) := by decide +kernel
theorem dL_land_19 : decode cL_land 19 = .ok (.iconst 2, 1) := by decide +kernel
theorem dL_land_20 : decode cL_land 20 = .ok (.ireturn, 1) := by decide +kernel
theorem dL_land_21 : decode cL_land 21 = .ok (.astore 4, 2) := by decide +kernel
theorem dL_land_23 : decode cL_land 23 = .ok (.iconst 3, 1) := by decide +kernel
theorem dL_land_24 : decode cL_land 24 = .ok (.ireturn, 1) := by decide +kernel
theorem dL_land_25 : decode cL_land 25 = .ok (.iconst 0, 1) := by decide +kernel
theorem dL_land_26 : decode cL_land 26 = .ok (.ireturn, 1) := by decide +kernel
theorem dL_lapse_0 : decode cL_lapse 0 = .ok (.aload_n 3, 1) := by decide +kernel
theorem dL_lapse_1 : decode cL_lapse 1 = .ok (.iconst 0, 1) := by decide +kernel
theorem dL_lapse_2 : decode cL_lapse 2 = .ok (.aload_n 0, 1) := by decide +kernel
theorem dL_lapse_3 : decode cL_lapse 3 = .ok (.iload_n 1, 1) := by decide +kernel
theorem dL_lapse_4 : decode cL_lapse 4 = .ok (.iload_n 2, 1) := by decide +kernel
theorem dL_lapse_5 : decode cL_lapse 5 = .ok (.invokevirtual 43, 3) := by decide +kernel
theorem dL_lapse_8 : decode cL_lapse 8 = .ok (.i2l, 1) := by decide +kernel
theorem dL_lapse_9 : decode cL_lapse 9 = .ok (.lastore, 1) := by decide +kernel
theorem dL_lapse_10 : decode cL_lapse 10 = .ok (.goto 11, 3) := by decide +kernel
theorem dL_lapse_13 : decode cL_lapse 13 = .ok (.astore 4, 2) := by decide +kernel
theorem dL_lapse_15 : decode cL_lapse 15 = .ok (.iconst 1, 1) := by decide +kernel
theorem dL_lapse_16 : decode cL_lapse 16 = .ok (.ireturn, 1) := by decide +kernel
theorem dL_lapse_17 : decode cL_lapse 17 = .ok (.astore 4, 2) := by decide +kernel
theorem dL_lapse_19 : decode cL_lapse 19 = .ok (.iconst 2, 1) := by decide +kernel
theorem dL_lapse_20 : decode cL_lapse 20 = .ok (.ireturn, 1) := by decide +kernel
theorem dL_lapse_21 : decode cL_lapse 21 = .ok (.iconst 0, 1) := by decide +kernel
theorem dL_lapse_22 : decode cL_lapse 22 = .ok (.ireturn, 1) := by decide +kernel
theorem dL_pass_0 : decode cL_pass 0 = .ok (.aload_n 2, 1) := by decide +kernel
theorem dL_pass_1 : decode cL_pass 1 = .ok (.iconst 0, 1) := by decide +kernel
theorem dL_pass_2 : decode cL_pass 2 = .ok (.aload_n 0, 1) := by decide +kernel
theorem dL_pass_3 : decode cL_pass 3 = .ok (.iload_n 1, 1) := by decide +kernel
theorem dL_pass_4 : decode cL_pass 4 = .ok (.invokevirtual 46, 3) := by decide +kernel
theorem dL_pass_7 : decode cL_pass 7 = .ok (.i2l, 1) := by decide +kernel
theorem dL_pass_8 : decode cL_pass 8 = .ok (.lastore, 1) := by decide +kernel
theorem dL_pass_9 : decode cL_pass 9 = .ok (.goto 9, 3) := by decide +kernel
theorem dL_pass_12 : decode cL_pass 12 = .ok (.astore_n 3, 1) := by decide +kernel
theorem dL_pass_13 : decode cL_pass 13 = .ok (.iconst 1, 1) := by decide +kernel
theorem dL_pass_14 : decode cL_pass 14 = .ok (.ireturn, 1) := by decide +kernel
theorem dL_pass_15 : decode cL_pass 15 = .ok (.astore_n 3, 1) := by decide +kernel
theorem dL_pass_16 : decode cL_pass 16 = .ok (.iconst 2, 1) := by decide +kernel
theorem dL_pass_17 : decode cL_pass 17 = .ok (.ireturn, 1) := by decide +kernel
theorem dL_pass_18 : decode cL_pass 18 = .ok (.iconst 0, 1) := by decide +kernel
theorem dL_pass_19 : decode cL_pass 19 = .ok (.ireturn, 1) := by decide +kernel
theorem dL_append_0 : decode cL_append 0 = .ok (.aload_n 2, 1) := by decide +kernel
theorem dL_append_1 : decode cL_append 1 = .ok (.iconst 0, 1) := by decide +kernel
theorem dL_append_2 : decode cL_append 2 = .ok (.aload_n 0, 1) := by decide +kernel
theorem dL_append_3 : decode cL_append 3 = .ok (.iload_n 1, 1) := by decide +kernel
theorem dL_append_4 : decode cL_append 4 = .ok (.invokevirtual 49, 3) := by decide +kernel
theorem dL_append_7 : decode cL_append 7 = .ok (.i2l, 1) := by decide +kernel
theorem dL_append_8 : decode cL_append 8 = .ok (.lastore, 1) := by decide +kernel
theorem dL_append_9 : decode cL_append 9 = .ok (.goto 9, 3) := by decide +kernel
theorem dL_append_12 : decode cL_append 12 = .ok (.astore_n 3, 1) := by decide +kernel
theorem dL_append_13 : decode cL_append 13 = .ok (.iconst 1, 1) := by decide +kernel
theorem dL_append_14 : decode cL_append 14 = .ok (.ireturn, 1) := by decide +kernel
theorem dL_append_15 : decode cL_append 15 = .ok (.astore_n 3, 1) := by decide +kernel
theorem dL_append_16 : decode cL_append 16 = .ok (.iconst 2, 1) := by decide +kernel
theorem dL_append_17 : decode cL_append 17 = .ok (.ireturn, 1) := by decide +kernel
theorem dL_append_18 : decode cL_append 18 = .ok (.iconst 0, 1) := by decide +kernel
theorem dL_append_19 : decode cL_append 19 = .ok (.ireturn, 1) := by decide +kernel
theorem dL_run_0 : decode cL_run 0 = .ok (.aload_n 1, 1) := by decide +kernel
theorem dL_run_1 : decode cL_run 1 = .ok (.iconst 0, 1) := by decide +kernel
theorem dL_run_2 : decode cL_run 2 = .ok (.aload_n 0, 1) := by decide +kernel
theorem dL_run_3 : decode cL_run 3 = .ok (.invokevirtual 52, 3) := by decide +kernel
theorem dL_run_6 : decode cL_run 6 = .ok (.i2l, 1) := by decide +kernel
theorem dL_run_7 : decode cL_run 7 = .ok (.lastore, 1) := by decide +kernel
theorem dL_run_8 : decode cL_run 8 = .ok (.goto 6, 3) := by decide +kernel
theorem dL_run_11 : decode cL_run 11 = .ok (.astore_n 2, 1) := by decide +kernel
theorem dL_run_12 : decode cL_run 12 = .ok (.iconst 1, 1) := by decide +kernel
theorem dL_run_13 : decode cL_run 13 = .ok (.ireturn, 1) := by decide +kernel
theorem dL_run_14 : decode cL_run 14 = .ok (.iconst 0, 1) := by decide +kernel
theorem dL_run_15 : decode cL_run 15 = .ok (.ireturn, 1) := by decide +kernel
theorem dL_undo_0 : decode cL_undo 0 = .ok (.aload_n 1, 1) := by decide +kernel
theorem dL_undo_1 : decode cL_undo 1 = .ok (.iconst 0, 1) := by decide +kernel
theorem dL_undo_2 : decode cL_undo 2 = .ok (.aload_n 0, 1) := by decide +kernel
theorem dL_undo_3 : decode cL_undo 3 = .ok (.invokevirtual 55, 3) := by decide +kernel
theorem dL_undo_6 : decode cL_undo 6 = .ok (.i2l, 1) := by decide +kernel
theorem dL_undo_7 : decode cL_undo 7 = .ok (.lastore, 1) := by decide +kernel
theorem dL_undo_8 : decode cL_undo 8 = .ok (.goto 6, 3) := by decide +kernel
theorem dL_undo_11 : decode cL_undo 11 = .ok (.astore_n 2, 1) := by decide +kernel
theorem dL_undo_12 : decode cL_undo 12 = .ok (.iconst 1, 1) := by decide +kernel
theorem dL_undo_13 : decode cL_undo 13 = .ok (.ireturn, 1) := by decide +kernel
theorem dL_undo_14 : decode cL_undo 14 = .ok (.iconst 0, 1) := by decide +kernel
theorem dL_undo_15 : decode cL_undo 15 = .ok (.ireturn, 1) := by decide +kernel
theorem dL_phase_0 : decode cL_phase 0 = .ok (.aload_n 3, 1) := by decide +kernel
theorem dL_phase_1 : decode cL_phase 1 = .ok (.iconst 0, 1) := by decide +kernel
theorem dL_phase_2 : decode cL_phase 2 = .ok (.aload_n 0, 1) := by decide +kernel
theorem dL_phase_3 : decode cL_phase 3 = .ok (.iload_n 1, 1) := by decide +kernel
theorem dL_phase_4 : decode cL_phase 4 = .ok (.iload_n 2, 1) := by decide +kernel
theorem dL_phase_5 : decode cL_phase 5 = .ok (.invokevirtual 58, 3) := by decide +kernel
theorem dL_phase_8 : decode cL_phase 8 = .ok (.i2l, 1) := by decide +kernel
theorem dL_phase_9 : decode cL_phase 9 = .ok (.lastore, 1) := by decide +kernel
theorem dL_phase_10 : decode cL_phase 10 = .ok (.goto 11, 3) := by decide +kernel
theorem dL_phase_13 : decode cL_phase 13 = .ok (.astore 4, 2) := by decide +kernel
theorem dL_phase_15 : decode cL_phase 15 = .ok (.iconst 1, 1) := by decide +kernel
theorem dL_phase_16 : decode cL_phase 16 = .ok (.ireturn, 1) := by decide +kernel
theorem dL_phase_17 : decode cL_phase 17 = .ok (.astore 4, 2) := by decide +kernel
theorem dL_phase_19 : decode cL_phase 19 = .ok (.iconst 2, 1) := by decide +kernel
theorem dL_phase_20 : decode cL_phase 20 = .ok (.ireturn, 1) := by decide +kernel
theorem dL_phase_21 : decode cL_phase 21 = .ok (.iconst 0, 1) := by decide +kernel
theorem dL_phase_22 : decode cL_phase 22 = .ok (.ireturn, 1) := by decide +kernel
theorem dL_use_0 : decode cL_use 0 = .ok (.aload 4, 2) := by decide +kernel
theorem dL_use_2 : decode cL_use 2 = .ok (.iconst 0, 1) := by decide +kernel
theorem dL_use_3 : decode cL_use 3 = .ok (.aload_n 0, 1) := by decide +kernel
theorem dL_use_4 : decode cL_use 4 = .ok (.iload_n 1, 1) := by decide +kernel
theorem dL_use_5 : decode cL_use 5 = .ok (.iload_n 2, 1) := by decide +kernel
theorem dL_use_6 : decode cL_use 6 = .ok (.iload_n 3, 1) := by decide +kernel
theorem dL_use_7 : decode cL_use 7 = .ok (.invokevirtual 61, 3) := by decide +kernel
theorem dL_use_10 : decode cL_use 10 = .ok (.i2l, 1) := by decide +kernel
theorem dL_use_11 : decode cL_use 11 = .ok (.lastore, 1) := by decide +kernel
theorem dL_use_12 : decode cL_use 12 = .ok (.goto 11, 3) := by decide +kernel
theorem dL_use_15 : decode cL_use 15 = .ok (.astore 5, 2) := by decide +kernel
theorem dL_use_17 : decode cL_use 17 = .ok (.iconst 1, 1) := by decide +kernel
theorem dL_use_18 : decode cL_use 18 = .ok (.ireturn, 1) := by decide +kernel
theorem dL_use_19 : decode cL_use 19 = .ok (.astore 5, 2) := by decide +kernel
theorem dL_use_21 : decode cL_use 21 = .ok (.iconst 2, 1) := by decide +kernel
theorem dL_use_22 : decode cL_use 22 = .ok (.ireturn, 1) := by decide +kernel
theorem dL_use_23 : decode cL_use 23 = .ok (.iconst 0, 1) := by decide +kernel
theorem dL_use_24 : decode cL_use 24 = .ok (.ireturn, 1) := by decide +kernel
theorem dL_instalment_0 : decode cL_instalment 0 = .ok (.aload 4, 2) := by decide +kernel
theorem dL_instalment_2 : decode cL_instalment 2 = .ok (.iconst 0, 1) := by decide +kernel
theorem dL_instalment_3 : decode cL_instalment 3 = .ok (.aload_n 0, 1) := by decide +kernel
theorem dL_instalment_4 : decode cL_instalment 4 = .ok (.iload_n 1, 1) := by decide +kernel
theorem dL_instalment_5 : decode cL_instalment 5 = .ok (.iload_n 2, 1) := by decide +kernel
theorem dL_instalment_6 : decode cL_instalment 6 = .ok (.iload_n 3, 1) := by decide +kernel
theorem dL_instalment_7 : decode cL_instalment 7 = .ok (.invokevirtual 64, 3) := by decide +kernel
theorem dL_instalment_10 : decode cL_instalment 10 = .ok (.i2l, 1) := by decide +kernel
theorem dL_instalment_11 : decode cL_instalment 11 = .ok (.lastore, 1) := by decide +kernel
theorem dL_instalment_12 : decode cL_instalment 12 = .ok (.goto 11, 3) := by decide +kernel
theorem dL_instalment_15 : decode cL_instalment 15 = .ok (.astore 5, 2) := by decide +kernel
theorem dL_instalment_17 : decode cL_instalment 17 = .ok (.iconst 1, 1) := by decide +kernel
theorem dL_instalment_18 : decode cL_instalment 18 = .ok (.ireturn, 1) := by decide +kernel
theorem dL_instalment_19 : decode cL_instalment 19 = .ok (.astore 5, 2) := by decide +kernel
theorem dL_instalment_21 : decode cL_instalment 21 = .ok (.iconst 2, 1) := by decide +kernel
theorem dL_instalment_22 : decode cL_instalment 22 = .ok (.ireturn, 1) := by decide +kernel
theorem dL_instalment_23 : decode cL_instalment 23 = .ok (.iconst 0, 1) := by decide +kernel
theorem dL_instalment_24 : decode cL_instalment 24 = .ok (.ireturn, 1) := by decide +kernel
theorem dL_count_0 : decode cL_count 0 = .ok (.aload_n 2, 1) := by decide +kernel
theorem dL_count_1 : decode cL_count 1 = .ok (.iconst 0, 1) := by decide +kernel
theorem dL_count_2 : decode cL_count 2 = .ok (.aload_n 0, 1) := by decide +kernel
theorem dL_count_3 : decode cL_count 3 = .ok (.iload_n 1, 1) := by decide +kernel
theorem dL_count_4 : decode cL_count 4 = .ok (.invokevirtual 67, 3) := by decide +kernel
theorem dL_count_7 : decode cL_count 7 = .ok (.i2l, 1) := by decide +kernel
theorem dL_count_8 : decode cL_count 8 = .ok (.lastore, 1) := by decide +kernel
theorem dL_count_9 : decode cL_count 9 = .ok (.goto 6, 3) := by decide +kernel
theorem dL_count_12 : decode cL_count 12 = .ok (.astore_n 3, 1) := by decide +kernel
theorem dL_count_13 : decode cL_count 13 = .ok (.iconst 1, 1) := by decide +kernel
theorem dL_count_14 : decode cL_count 14 = .ok (.ireturn, 1) := by decide +kernel
theorem dL_count_15 : decode cL_count 15 = .ok (.iconst 0, 1) := by decide +kernel
theorem dL_count_16 : decode cL_count 16 = .ok (.ireturn, 1) := by decide +kernel
theorem dL_setting_0 : decode cL_setting 0 = .ok (.aload_n 2, 1) := by decide +kernel
theorem dL_setting_1 : decode cL_setting 1 = .ok (.iconst 0, 1) := by decide +kernel
theorem dL_setting_2 : decode cL_setting 2 = .ok (.aload_n 0, 1) := by decide +kernel
theorem dL_setting_3 : decode cL_setting 3 = .ok (.iload_n 1, 1) := by decide +kernel
theorem dL_setting_4 : decode cL_setting 4 = .ok (.invokevirtual 70, 3) := by decide +kernel
theorem dL_setting_7 : decode cL_setting 7 = .ok (.i2l, 1) := by decide +kernel
theorem dL_setting_8 : decode cL_setting 8 = .ok (.lastore, 1) := by decide +kernel
theorem dL_setting_9 : decode cL_setting 9 = .ok (.goto 6, 3) := by decide +kernel
theorem dL_setting_12 : decode cL_setting 12 = .ok (.astore_n 3, 1) := by decide +kernel
theorem dL_setting_13 : decode cL_setting 13 = .ok (.iconst 1, 1) := by decide +kernel
theorem dL_setting_14 : decode cL_setting 14 = .ok (.ireturn, 1) := by decide +kernel
theorem dL_setting_15 : decode cL_setting 15 = .ok (.iconst 0, 1) := by decide +kernel
theorem dL_setting_16 : decode cL_setting 16 = .ok (.ireturn, 1) := by decide +kernel
theorem dL_whyNot_0 : decode cL_whyNot 0 = .ok (.aload 4, 2) := by decide +kernel
theorem dL_whyNot_2 : decode cL_whyNot 2 = .ok (.iconst 0, 1) := by decide +kernel
theorem dL_whyNot_3 : decode cL_whyNot 3 = .ok (.aload_n 0, 1) := by decide +kernel
theorem dL_whyNot_4 : decode cL_whyNot 4 = .ok (.iload_n 1, 1) := by decide +kernel
theorem dL_whyNot_5 : decode cL_whyNot 5 = .ok (.iload_n 2, 1) := by decide +kernel
theorem dL_whyNot_6 : decode cL_whyNot 6 = .ok (.iload_n 3, 1) := by decide +kernel
theorem dL_whyNot_7 : decode cL_whyNot 7 = .ok (.invokevirtual 73, 3) := by decide +kernel
theorem dL_whyNot_10 : decode cL_whyNot 10 = .ok (.i2l, 1) := by decide +kernel
theorem dL_whyNot_11 : decode cL_whyNot 11 = .ok (.lastore, 1) := by decide +kernel
theorem dL_whyNot_12 : decode cL_whyNot 12 = .ok (.goto 11, 3) := by decide +kernel
theorem dL_whyNot_15 : decode cL_whyNot 15 = .ok (.astore 5, 2) := by decide +kernel
theorem dL_whyNot_17 : decode cL_whyNot 17 = .ok (.iconst 1, 1) := by decide +kernel
theorem dL_whyNot_18 : decode cL_whyNot 18 = .ok (.ireturn, 1) := by decide +kernel
theorem dL_whyNot_19 : decode cL_whyNot 19 = .ok (.astore 5, 2) := by decide +kernel
theorem dL_whyNot_21 : decode cL_whyNot 21 = .ok (.iconst 2, 1) := by decide +kernel
theorem dL_whyNot_22 : decode cL_whyNot 22 = .ok (.ireturn, 1) := by decide +kernel
theorem dL_whyNot_23 : decode cL_whyNot 23 = .ok (.iconst 0, 1) := by decide +kernel
theorem dL_whyNot_24 : decode cL_whyNot 24 = .ok (.ireturn, 1) := by decide +kernel
theorem dL_ifBegun_0 : decode cL_ifBegun 0 = .ok (.aload_n 3, 1) := by decide +kernel
theorem dL_ifBegun_1 : decode cL_ifBegun 1 = .ok (.iconst 0, 1) := by decide +kernel
theorem dL_ifBegun_2 : decode cL_ifBegun 2 = .ok (.aload_n 0, 1) := by decide +kernel
theorem dL_ifBegun_3 : decode cL_ifBegun 3 = .ok (.iload_n 1, 1) := by decide +kernel
theorem dL_ifBegun_4 : decode cL_ifBegun 4 = .ok (.iload_n 2, 1) := by decide +kernel
theorem dL_ifBegun_5 : decode cL_ifBegun 5 = .ok (.invokevirtual 76, 3) := by decide +kernel
theorem dL_ifBegun_8 : decode cL_ifBegun 8 = .ok (.i2l, 1) := by decide +kernel
theorem dL_ifBegun_9 : decode cL_ifBegun 9 = .ok (.lastore, 1) := by decide +kernel
theorem dL_ifBegun_10 : decode cL_ifBegun 10 = .ok (.goto 11, 3) := by decide +kernel
theorem dL_ifBegun_13 : decode cL_ifBegun 13 = .ok (.astore 4, 2) := by decide +kernel
theorem dL_ifBegun_15 : decode cL_ifBegun 15 = .ok (.iconst 1, 1) := by decide +kernel
theorem dL_ifBegun_16 : decode cL_ifBegun 16 = .ok (.ireturn, 1) := by decide +kernel
theorem dL_ifBegun_17 : decode cL_ifBegun 17 = .ok (.astore 4, 2) := by decide +kernel
theorem dL_ifBegun_19 : decode cL_ifBegun 19 = .ok (.iconst 2, 1) := by decide +kernel
theorem dL_ifBegun_20 : decode cL_ifBegun 20 = .ok (.ireturn, 1) := by decide +kernel
theorem dL_ifBegun_21 : decode cL_ifBegun 21 = .ok (.iconst 0, 1) := by decide +kernel
theorem dL_ifBegun_22 : decode cL_ifBegun 22 = .ok (.ireturn, 1) := by decide +kernel
theorem dL_breaksIn_0 : decode cL_breaksIn 0 = .ok (.aload_n 2, 1) := by decide +kernel
theorem dL_breaksIn_1 : decode cL_breaksIn 1 = .ok (.iconst 0, 1) := by decide +kernel
theorem dL_breaksIn_2 : decode cL_breaksIn 2 = .ok (.aload_n 0, 1) := by decide +kernel
theorem dL_breaksIn_3 : decode cL_breaksIn 3 = .ok (.iload_n 1, 1) := by decide +kernel
theorem dL_breaksIn_4 : decode cL_breaksIn 4 = .ok (.invokevirtual 79, 3) := by decide +kernel
theorem dL_breaksIn_7 : decode cL_breaksIn 7 = .ok (.i2l, 1) := by decide +kernel
theorem dL_breaksIn_8 : decode cL_breaksIn 8 = .ok (.lastore, 1) := by decide +kernel
theorem dL_breaksIn_9 : decode cL_breaksIn 9 = .ok (.goto 6, 3) := by decide +kernel
theorem dL_breaksIn_12 : decode cL_breaksIn 12 = .ok (.astore_n 3, 1) := by decide +kernel
theorem dL_breaksIn_13 : decode cL_breaksIn 13 = .ok (.iconst 1, 1) := by decide +kernel
theorem dL_breaksIn_14 : decode cL_breaksIn 14 = .ok (.ireturn, 1) := by decide +kernel
theorem dL_breaksIn_15 : decode cL_breaksIn 15 = .ok (.iconst 0, 1) := by decide +kernel
theorem dL_breaksIn_16 : decode cL_breaksIn 16 = .ok (.ireturn, 1) := by decide +kernel
theorem dL_surchargesIn_0 : decode cL_surchargesIn 0 = .ok (.aload_n 2, 1) := by decide +kernel
theorem dL_surchargesIn_1 : decode cL_surchargesIn 1 = .ok (.iconst 0, 1) := by decide +kernel
theorem dL_surchargesIn_2 : decode cL_surchargesIn 2 = .ok (.aload_n 0, 1) := by decide +kernel
theorem dL_surchargesIn_3 : decode cL_surchargesIn 3 = .ok (.iload_n 1, 1) := by decide +kernel
theorem dL_surchargesIn_4 : decode cL_surchargesIn 4 = .ok (.invokevirtual 82, 3) := by decide +kernel
theorem dL_surchargesIn_7 : decode cL_surchargesIn 7 = .ok (.i2l, 1) := by decide +kernel
theorem dL_surchargesIn_8 : decode cL_surchargesIn 8 = .ok (.lastore, 1) := by decide +kernel
theorem dL_surchargesIn_9 : decode cL_surchargesIn 9 = .ok (.goto 6, 3) := by decide +kernel
theorem dL_surchargesIn_12 : decode cL_surchargesIn 12 = .ok (.astore_n 3, 1) := by decide +kernel
theorem dL_surchargesIn_13 : decode cL_surchargesIn 13 = .ok (.iconst 1, 1) := by decide +kernel
theorem dL_surchargesIn_14 : decode cL_surchargesIn 14 = .ok (.ireturn, 1) := by decide +kernel
theorem dL_surchargesIn_15 : decode cL_surchargesIn 15 = .ok (.iconst 0, 1) := by decide +kernel
theorem dL_surchargesIn_16 : decode cL_surchargesIn 16 = .ok (.ireturn, 1) := by decide +kernel
theorem dL_dueIn_0 : decode cL_dueIn 0 = .ok (.aload_n 3, 1) := by decide +kernel
theorem dL_dueIn_1 : decode cL_dueIn 1 = .ok (.iconst 0, 1) := by decide +kernel
theorem dL_dueIn_2 : decode cL_dueIn 2 = .ok (.aload_n 0, 1) := by decide +kernel
theorem dL_dueIn_3 : decode cL_dueIn 3 = .ok (.iload_n 1, 1) := by decide +kernel
theorem dL_dueIn_4 : decode cL_dueIn 4 = .ok (.iload_n 2, 1) := by decide +kernel
theorem dL_dueIn_5 : decode cL_dueIn 5 = .ok (.invokevirtual 85, 3) := by decide +kernel
theorem dL_dueIn_8 : decode cL_dueIn 8 = .ok (.i2l, 1) := by decide +kernel
theorem dL_dueIn_9 : decode cL_dueIn 9 = .ok (.lastore, 1) := by decide +kernel
theorem dL_dueIn_10 : decode cL_dueIn 10 = .ok (.goto 11, 3) := by decide +kernel
theorem dL_dueIn_13 : decode cL_dueIn 13 = .ok (.astore 4, 2) := by decide +kernel
theorem dL_dueIn_15 : decode cL_dueIn 15 = .ok (.iconst 1, 1) := by decide +kernel
theorem dL_dueIn_16 : decode cL_dueIn 16 = .ok (.ireturn, 1) := by decide +kernel
theorem dL_dueIn_17 : decode cL_dueIn 17 = .ok (.astore 4, 2) := by decide +kernel
theorem dL_dueIn_19 : decode cL_dueIn 19 = .ok (.iconst 2, 1) := by decide +kernel
theorem dL_dueIn_20 : decode cL_dueIn 20 = .ok (.ireturn, 1) := by decide +kernel
theorem dL_dueIn_21 : decode cL_dueIn 21 = .ok (.iconst 0, 1) := by decide +kernel
theorem dL_dueIn_22 : decode cL_dueIn 22 = .ok (.ireturn, 1) := by decide +kernel
end
section
theorem dL_law_0 : decode cL_law 0 = .ok (.new 8, 3) := by decide +kernel
theorem dL_law_3 : decode cL_law 3 = .ok (.dup, 1) := by decide +kernel
theorem dL_law_4 : decode cL_law 4 = .ok (.invokespecial 88, 3) := by decide +kernel
theorem dL_law_7 : decode cL_law 7 = .ok (.astore_n 1, 1) := by decide +kernel
theorem dL_law_8 : decode cL_law 8 = .ok (.new 89, 3) := by decide +kernel
theorem dL_law_11 : decode cL_law 11 = .ok (.dup, 1) := by decide +kernel
theorem dL_law_12 : decode cL_law 12 = .ok (.invokespecial 91, 3) := by decide +kernel
theorem dL_law_15 : decode cL_law 15 = .ok (.astore_n 2, 1) := by decide +kernel
theorem dL_law_16 : decode cL_law 16 = .ok (.iconst 1, 1) := by decide +kernel
theorem dL_law_17 : decode cL_law 17 = .ok (.newarray .long, 2) := by decide +kernel
theorem dL_law_19 : decode cL_law 19 = .ok (.astore_n 3, 1) := by decide +kernel
theorem dL_law_20 : decode cL_law 20 = .ok (.iconst 0, 1) := by decide +kernel
theorem dL_law_21 : decode cL_law 21 = .ok (.istore 4, 2) := by decide +kernel
theorem dL_law_23 : decode cL_law 23 = .ok (.iload 4, 2) := by decide +kernel
theorem dL_law_25 : decode cL_law 25 = .ok (.aload_n 0, 1) := by decide +kernel
theorem dL_law_26 : decode cL_law 26 = .ok (.arraylength, 1) := by decide +kernel
theorem dL_law_27 : decode cL_law 27 = .ok (.iconst 4, 1) := by decide +kernel
theorem dL_law_28 : decode cL_law 28 = .ok (.isub, 1) := by decide +kernel
theorem dL_law_29 : decode cL_law 29 = .ok (.if_icmp .gt 1703, 3) := by decide +kernel
theorem dL_law_32 : decode cL_law 32 = .ok (.aload_n 0, 1) := by decide +kernel
theorem dL_law_33 : decode cL_law 33 = .ok (.iload 4, 2) := by decide +kernel
theorem dL_law_35 : decode cL_law 35 = .ok (.iaload, 1) := by decide +kernel
theorem dL_law_36 : decode cL_law 36 = .ok (.bipush 31, 2) := by decide +kernel
theorem dL_law_38 : decode cL_law 38 = .ok (.iand, 1) := by decide +kernel
theorem dL_law_39 : decode cL_law 39 = .ok (.tableswitch 1687 0 27 #[125, 169, 249, 329, 397, 465, 521, 589, 657, 725, 781, 837, 850, 863, 907, 951, 1019, 1099, 1179, 1235, 1291, 1371, 1439, 1495, 1551, 1564, 1632, 1673], 125) := by decide +kernel
theorem dL_law_164 : decode cL_law 164 = .ok (.aload_n 1, 1) := by decide +kernel
theorem dL_law_165 : decode cL_law 165 = .ok (.aload_n 3, 1) := by decide +kernel
theorem dL_law_166 : decode cL_law 166 = .ok (.invokestatic 92, 3) := by decide +kernel
theorem dL_law_169 : decode cL_law 169 = .ok (.istore 5, 2) := by decide +kernel
theorem dL_law_171 : decode cL_law 171 = .ok (.aload_n 2, 1) := by decide +kernel
theorem dL_law_172 : decode cL_law 172 = .ok (.invokevirtual 97, 3) := by decide +kernel
theorem dL_law_175 : decode cL_law 175 = .ok (.istore 6, 2) := by decide +kernel
theorem dL_law_177 : decode cL_law 177 = .ok (.aload_n 2, 1) := by decide +kernel
theorem dL_law_178 : decode cL_law 178 = .ok (.invokevirtual 98, 3) := by decide +kernel
theorem dL_law_181 : decode cL_law 181 = .ok (.iload 5, 2) := by decide +kernel
theorem dL_law_183 : decode cL_law 183 = .ok (.if_icmp .eq 5, 3) := by decide +kernel
theorem dL_law_186 : decode cL_law 186 = .ok (.iconst 0, 1) := by decide +kernel
theorem dL_law_187 : decode cL_law 187 = .ok (.ireturn, 1) := by decide +kernel
theorem dL_law_188 : decode cL_law 188 = .ok (.iload 5, 2) := by decide +kernel
theorem dL_law_190 : decode cL_law 190 = .ok (.ifCond .ne 15, 3) := by decide +kernel
theorem dL_law_193 : decode cL_law 193 = .ok (.aload_n 3, 1) := by decide +kernel
theorem dL_law_194 : decode cL_law 194 = .ok (.iconst 0, 1) := by decide +kernel
theorem dL_law_195 : decode cL_law 195 = .ok (.laload, 1) := by decide +kernel
theorem dL_law_196 : decode cL_law 196 = .ok (.iload 6, 2) := by decide +kernel
theorem dL_law_198 : decode cL_law 198 = .ok (.i2l, 1) := by decide +kernel
theorem dL_law_199 : decode cL_law 199 = .ok (.lcmp, 1) := by decide +kernel
theorem dL_law_200 : decode cL_law 200 = .ok (.ifCond .eq 5, 3) := by decide +kernel
theorem dL_law_203 : decode cL_law 203 = .ok (.iconst 0, 1) := by decide +kernel
theorem dL_law_204 : decode cL_law 204 = .ok (.ireturn, 1) := by decide +kernel
theorem dL_law_205 : decode cL_law 205 = .ok (.goto 1521, 3) := by decide +kernel
theorem dL_law_208 : decode cL_law 208 = .ok (.aload_n 1, 1) := by decide +kernel
theorem dL_law_209 : decode cL_law 209 = .ok (.aload_n 0, 1) := by decide +kernel
theorem dL_law_210 : decode cL_law 210 = .ok (.iload 4, 2) := by decide +kernel
theorem dL_law_212 : decode cL_law 212 = .ok (.iconst 1, 1) := by decide +kernel
theorem dL_law_213 : decode cL_law 213 = .ok (.iadd, 1) := by decide +kernel
theorem dL_law_214 : decode cL_law 214 = .ok (.iaload, 1) := by decide +kernel
theorem dL_law_215 : decode cL_law 215 = .ok (.aload_n 0, 1) := by decide +kernel
theorem dL_law_216 : decode cL_law 216 = .ok (.iload 4, 2) := by decide +kernel
theorem dL_law_218 : decode cL_law 218 = .ok (.iconst 2, 1) := by decide +kernel
theorem dL_law_219 : decode cL_law 219 = .ok (.iadd, 1) := by decide +kernel
theorem dL_law_220 : decode cL_law 220 = .ok (.iaload, 1) := by decide +kernel
theorem dL_law_221 : decode cL_law 221 = .ok (.aload_n 0, 1) := by decide +kernel
theorem dL_law_222 : decode cL_law 222 = .ok (.iload 4, 2) := by decide +kernel
theorem dL_law_224 : decode cL_law 224 = .ok (.iconst 3, 1) := by decide +kernel
theorem dL_law_225 : decode cL_law 225 = .ok (.iadd, 1) := by decide +kernel
theorem dL_law_226 : decode cL_law 226 = .ok (.iaload, 1) := by decide +kernel
theorem dL_law_227 : decode cL_law 227 = .ok (.aload_n 3, 1) := by decide +kernel
theorem dL_law_228 : decode cL_law 228 = .ok (.invokestatic 101, 3) := by decide +kernel
theorem dL_law_231 : decode cL_law 231 = .ok (.istore 5, 2) := by decide +kernel
theorem dL_law_233 : decode cL_law 233 = .ok (.aload_n 2, 1) := by decide +kernel
theorem dL_law_234 : decode cL_law 234 = .ok (.aload_n 0, 1) := by decide +kernel
theorem dL_law_235 : decode cL_law 235 = .ok (.iload 4, 2) := by decide +kernel
theorem dL_law_237 : decode cL_law 237 = .ok (.iconst 1, 1) := by decide +kernel
theorem dL_law_238 : decode cL_law 238 = .ok (.iadd, 1) := by decide +kernel
theorem dL_law_239 : decode cL_law 239 = .ok (.iaload, 1) := by decide +kernel
theorem dL_law_240 : decode cL_law 240 = .ok (.aload_n 0, 1) := by decide +kernel
theorem dL_law_241 : decode cL_law 241 = .ok (.iload 4, 2) := by decide +kernel
theorem dL_law_243 : decode cL_law 243 = .ok (.iconst 2, 1) := by decide +kernel
theorem dL_law_244 : decode cL_law 244 = .ok (.iadd, 1) := by decide +kernel
theorem dL_law_245 : decode cL_law 245 = .ok (.iaload, 1) := by decide +kernel
theorem dL_law_246 : decode cL_law 246 = .ok (.aload_n 0, 1) := by decide +kernel
theorem dL_law_247 : decode cL_law 247 = .ok (.iload 4, 2) := by decide +kernel
theorem dL_law_249 : decode cL_law 249 = .ok (.iconst 3, 1) := by decide +kernel
theorem dL_law_250 : decode cL_law 250 = .ok (.iadd, 1) := by decide +kernel
theorem dL_law_251 : decode cL_law 251 = .ok (.iaload, 1) := by decide +kernel
theorem dL_law_252 : decode cL_law 252 = .ok (.invokevirtual 104, 3) := by decide +kernel
theorem dL_law_255 : decode cL_law 255 = .ok (.istore 6, 2) := by decide +kernel
theorem dL_law_257 : decode cL_law 257 = .ok (.aload_n 2, 1) := by decide +kernel
theorem dL_law_258 : decode cL_law 258 = .ok (.invokevirtual 98, 3) := by decide +kernel
theorem dL_law_261 : decode cL_law 261 = .ok (.iload 5, 2) := by decide +kernel
theorem dL_law_263 : decode cL_law 263 = .ok (.if_icmp .eq 5, 3) := by decide +kernel
theorem dL_law_266 : decode cL_law 266 = .ok (.iconst 0, 1) := by decide +kernel
theorem dL_law_267 : decode cL_law 267 = .ok (.ireturn, 1) := by decide +kernel
theorem dL_law_268 : decode cL_law 268 = .ok (.iload 5, 2) := by decide +kernel
theorem dL_law_270 : decode cL_law 270 = .ok (.ifCond .ne 15, 3) := by decide +kernel
theorem dL_law_273 : decode cL_law 273 = .ok (.aload_n 3, 1) := by decide +kernel
theorem dL_law_274 : decode cL_law 274 = .ok (.iconst 0, 1) := by decide +kernel
theorem dL_law_275 : decode cL_law 275 = .ok (.laload, 1) := by decide +kernel
theorem dL_law_276 : decode cL_law 276 = .ok (.iload 6, 2) := by decide +kernel
theorem dL_law_278 : decode cL_law 278 = .ok (.i2l, 1) := by decide +kernel
theorem dL_law_279 : decode cL_law 279 = .ok (.lcmp, 1) := by decide +kernel
theorem dL_law_280 : decode cL_law 280 = .ok (.ifCond .eq 5, 3) := by decide +kernel
theorem dL_law_283 : decode cL_law 283 = .ok (.iconst 0, 1) := by decide +kernel
theorem dL_law_284 : decode cL_law 284 = .ok (.ireturn, 1) := by decide +kernel
theorem dL_law_285 : decode cL_law 285 = .ok (.goto 1441, 3) := by decide +kernel
theorem dL_law_288 : decode cL_law 288 = .ok (.aload_n 1, 1) := by decide +kernel
theorem dL_law_289 : decode cL_law 289 = .ok (.aload_n 0, 1) := by decide +kernel
theorem dL_law_290 : decode cL_law 290 = .ok (.iload 4, 2) := by decide +kernel
theorem dL_law_292 : decode cL_law 292 = .ok (.iconst 1, 1) := by decide +kernel
theorem dL_law_293 : decode cL_law 293 = .ok (.iadd, 1) := by decide +kernel
theorem dL_law_294 : decode cL_law 294 = .ok (.iaload, 1) := by decide +kernel
theorem dL_law_295 : decode cL_law 295 = .ok (.aload_n 0, 1) := by decide +kernel
theorem dL_law_296 : decode cL_law 296 = .ok (.iload 4, 2) := by decide +kernel
theorem dL_law_298 : decode cL_law 298 = .ok (.iconst 2, 1) := by decide +kernel
theorem dL_law_299 : decode cL_law 299 = .ok (.iadd, 1) := by decide +kernel
theorem dL_law_300 : decode cL_law 300 = .ok (.iaload, 1) := by decide +kernel
theorem dL_law_301 : decode cL_law 301 = .ok (.aload_n 0, 1) := by decide +kernel
theorem dL_law_302 : decode cL_law 302 = .ok (.iload 4, 2) := by decide +kernel
theorem dL_law_304 : decode cL_law 304 = .ok (.iconst 3, 1) := by decide +kernel
theorem dL_law_305 : decode cL_law 305 = .ok (.iadd, 1) := by decide +kernel
theorem dL_law_306 : decode cL_law 306 = .ok (.iaload, 1) := by decide +kernel
theorem dL_law_307 : decode cL_law 307 = .ok (.aload_n 3, 1) := by decide +kernel
theorem dL_law_308 : decode cL_law 308 = .ok (.invokestatic 105, 3) := by decide +kernel
theorem dL_law_311 : decode cL_law 311 = .ok (.istore 5, 2) := by decide +kernel
theorem dL_law_313 : decode cL_law 313 = .ok (.aload_n 2, 1) := by decide +kernel
theorem dL_law_314 : decode cL_law 314 = .ok (.aload_n 0, 1) := by decide +kernel
theorem dL_law_315 : decode cL_law 315 = .ok (.iload 4, 2) := by decide +kernel
theorem dL_law_317 : decode cL_law 317 = .ok (.iconst 1, 1) := by decide +kernel
theorem dL_law_318 : decode cL_law 318 = .ok (.iadd, 1) := by decide +kernel
theorem dL_law_319 : decode cL_law 319 = .ok (.iaload, 1) := by decide +kernel
theorem dL_law_320 : decode cL_law 320 = .ok (.aload_n 0, 1) := by decide +kernel
theorem dL_law_321 : decode cL_law 321 = .ok (.iload 4, 2) := by decide +kernel
theorem dL_law_323 : decode cL_law 323 = .ok (.iconst 2, 1) := by decide +kernel
theorem dL_law_324 : decode cL_law 324 = .ok (.iadd, 1) := by decide +kernel
theorem dL_law_325 : decode cL_law 325 = .ok (.iaload, 1) := by decide +kernel
theorem dL_law_326 : decode cL_law 326 = .ok (.aload_n 0, 1) := by decide +kernel
theorem dL_law_327 : decode cL_law 327 = .ok (.iload 4, 2) := by decide +kernel
theorem dL_law_329 : decode cL_law 329 = .ok (.iconst 3, 1) := by decide +kernel
theorem dL_law_330 : decode cL_law 330 = .ok (.iadd, 1) := by decide +kernel
theorem dL_law_331 : decode cL_law 331 = .ok (.iaload, 1) := by decide +kernel
theorem dL_law_332 : decode cL_law 332 = .ok (.invokevirtual 107, 3) := by decide +kernel
theorem dL_law_335 : decode cL_law 335 = .ok (.istore 6, 2) := by decide +kernel
theorem dL_law_337 : decode cL_law 337 = .ok (.aload_n 2, 1) := by decide +kernel
theorem dL_law_338 : decode cL_law 338 = .ok (.invokevirtual 98, 3) := by decide +kernel
theorem dL_law_341 : decode cL_law 341 = .ok (.iload 5, 2) := by decide +kernel
theorem dL_law_343 : decode cL_law 343 = .ok (.if_icmp .eq 5, 3) := by decide +kernel
theorem dL_law_346 : decode cL_law 346 = .ok (.iconst 0, 1) := by decide +kernel
theorem dL_law_347 : decode cL_law 347 = .ok (.ireturn, 1) := by decide +kernel
theorem dL_law_348 : decode cL_law 348 = .ok (.iload 5, 2) := by decide +kernel
theorem dL_law_350 : decode cL_law 350 = .ok (.ifCond .ne 15, 3) := by decide +kernel
theorem dL_law_353 : decode cL_law 353 = .ok (.aload_n 3, 1) := by decide +kernel
theorem dL_law_354 : decode cL_law 354 = .ok (.iconst 0, 1) := by decide +kernel
theorem dL_law_355 : decode cL_law 355 = .ok (.laload, 1) := by decide +kernel
theorem dL_law_356 : decode cL_law 356 = .ok (.iload 6, 2) := by decide +kernel
theorem dL_law_358 : decode cL_law 358 = .ok (.i2l, 1) := by decide +kernel
theorem dL_law_359 : decode cL_law 359 = .ok (.lcmp, 1) := by decide +kernel
theorem dL_law_360 : decode cL_law 360 = .ok (.ifCond .eq 5, 3) := by decide +kernel
theorem dL_law_363 : decode cL_law 363 = .ok (.iconst 0, 1) := by decide +kernel
theorem dL_law_364 : decode cL_law 364 = .ok (.ireturn, 1) := by decide +kernel
theorem dL_law_365 : decode cL_law 365 = .ok (.goto 1361, 3) := by decide +kernel
theorem dL_law_368 : decode cL_law 368 = .ok (.aload_n 1, 1) := by decide +kernel
theorem dL_law_369 : decode cL_law 369 = .ok (.aload_n 0, 1) := by decide +kernel
theorem dL_law_370 : decode cL_law 370 = .ok (.iload 4, 2) := by decide +kernel
theorem dL_law_372 : decode cL_law 372 = .ok (.iconst 1, 1) := by decide +kernel
theorem dL_law_373 : decode cL_law 373 = .ok (.iadd, 1) := by decide +kernel
theorem dL_law_374 : decode cL_law 374 = .ok (.iaload, 1) := by decide +kernel
theorem dL_law_375 : decode cL_law 375 = .ok (.aload_n 0, 1) := by decide +kernel
theorem dL_law_376 : decode cL_law 376 = .ok (.iload 4, 2) := by decide +kernel
theorem dL_law_378 : decode cL_law 378 = .ok (.iconst 2, 1) := by decide +kernel
theorem dL_law_379 : decode cL_law 379 = .ok (.iadd, 1) := by decide +kernel
theorem dL_law_380 : decode cL_law 380 = .ok (.iaload, 1) := by decide +kernel
theorem dL_law_381 : decode cL_law 381 = .ok (.aload_n 3, 1) := by decide +kernel
theorem dL_law_382 : decode cL_law 382 = .ok (.invokestatic 108, 3) := by decide +kernel
theorem dL_law_385 : decode cL_law 385 = .ok (.istore 5, 2) := by decide +kernel
theorem dL_law_387 : decode cL_law 387 = .ok (.aload_n 2, 1) := by decide +kernel
theorem dL_law_388 : decode cL_law 388 = .ok (.aload_n 0, 1) := by decide +kernel
theorem dL_law_389 : decode cL_law 389 = .ok (.iload 4, 2) := by decide +kernel
theorem dL_law_391 : decode cL_law 391 = .ok (.iconst 1, 1) := by decide +kernel
theorem dL_law_392 : decode cL_law 392 = .ok (.iadd, 1) := by decide +kernel
theorem dL_law_393 : decode cL_law 393 = .ok (.iaload, 1) := by decide +kernel
theorem dL_law_394 : decode cL_law 394 = .ok (.aload_n 0, 1) := by decide +kernel
theorem dL_law_395 : decode cL_law 395 = .ok (.iload 4, 2) := by decide +kernel
theorem dL_law_397 : decode cL_law 397 = .ok (.iconst 2, 1) := by decide +kernel
theorem dL_law_398 : decode cL_law 398 = .ok (.iadd, 1) := by decide +kernel
theorem dL_law_399 : decode cL_law 399 = .ok (.iaload, 1) := by decide +kernel
theorem dL_law_400 : decode cL_law 400 = .ok (.invokevirtual 111, 3) := by decide +kernel
theorem dL_law_403 : decode cL_law 403 = .ok (.istore 6, 2) := by decide +kernel
theorem dL_law_405 : decode cL_law 405 = .ok (.aload_n 2, 1) := by decide +kernel
theorem dL_law_406 : decode cL_law 406 = .ok (.invokevirtual 98, 3) := by decide +kernel
theorem dL_law_409 : decode cL_law 409 = .ok (.iload 5, 2) := by decide +kernel
theorem dL_law_411 : decode cL_law 411 = .ok (.if_icmp .eq 5, 3) := by decide +kernel
theorem dL_law_414 : decode cL_law 414 = .ok (.iconst 0, 1) := by decide +kernel
theorem dL_law_415 : decode cL_law 415 = .ok (.ireturn, 1) := by decide +kernel
theorem dL_law_416 : decode cL_law 416 = .ok (.iload 5, 2) := by decide +kernel
theorem dL_law_418 : decode cL_law 418 = .ok (.ifCond .ne 15, 3) := by decide +kernel
theorem dL_law_421 : decode cL_law 421 = .ok (.aload_n 3, 1) := by decide +kernel
theorem dL_law_422 : decode cL_law 422 = .ok (.iconst 0, 1) := by decide +kernel
theorem dL_law_423 : decode cL_law 423 = .ok (.laload, 1) := by decide +kernel
theorem dL_law_424 : decode cL_law 424 = .ok (.iload 6, 2) := by decide +kernel
theorem dL_law_426 : decode cL_law 426 = .ok (.i2l, 1) := by decide +kernel
theorem dL_law_427 : decode cL_law 427 = .ok (.lcmp, 1) := by decide +kernel
theorem dL_law_428 : decode cL_law 428 = .ok (.ifCond .eq 5, 3) := by decide +kernel
theorem dL_law_431 : decode cL_law 431 = .ok (.iconst 0, 1) := by decide +kernel
theorem dL_law_432 : decode cL_law 432 = .ok (.ireturn, 1) := by decide +kernel
theorem dL_law_433 : decode cL_law 433 = .ok (.goto 1293, 3) := by decide +kernel
theorem dL_law_436 : decode cL_law 436 = .ok (.aload_n 1, 1) := by decide +kernel
theorem dL_law_437 : decode cL_law 437 = .ok (.aload_n 0, 1) := by decide +kernel
theorem dL_law_438 : decode cL_law 438 = .ok (.iload 4, 2) := by decide +kernel
theorem dL_law_440 : decode cL_law 440 = .ok (.iconst 1, 1) := by decide +kernel
theorem dL_law_441 : decode cL_law 441 = .ok (.iadd, 1) := by decide +kernel
theorem dL_law_442 : decode cL_law 442 = .ok (.iaload, 1) := by decide +kernel
theorem dL_law_443 : decode cL_law 443 = .ok (.aload_n 0, 1) := by decide +kernel
theorem dL_law_444 : decode cL_law 444 = .ok (.iload 4, 2) := by decide +kernel
theorem dL_law_446 : decode cL_law 446 = .ok (.iconst 2, 1) := by decide +kernel
theorem dL_law_447 : decode cL_law 447 = .ok (.iadd, 1) := by decide +kernel
theorem dL_law_448 : decode cL_law 448 = .ok (.iaload, 1) := by decide +kernel
theorem dL_law_449 : decode cL_law 449 = .ok (.aload_n 3, 1) := by decide +kernel
theorem dL_law_450 : decode cL_law 450 = .ok (.invokestatic 112, 3) := by decide +kernel
theorem dL_law_453 : decode cL_law 453 = .ok (.istore 5, 2) := by decide +kernel
theorem dL_law_455 : decode cL_law 455 = .ok (.aload_n 2, 1) := by decide +kernel
theorem dL_law_456 : decode cL_law 456 = .ok (.aload_n 0, 1) := by decide +kernel
theorem dL_law_457 : decode cL_law 457 = .ok (.iload 4, 2) := by decide +kernel
theorem dL_law_459 : decode cL_law 459 = .ok (.iconst 1, 1) := by decide +kernel
theorem dL_law_460 : decode cL_law 460 = .ok (.iadd, 1) := by decide +kernel
theorem dL_law_461 : decode cL_law 461 = .ok (.iaload, 1) := by decide +kernel
theorem dL_law_462 : decode cL_law 462 = .ok (.aload_n 0, 1) := by decide +kernel
theorem dL_law_463 : decode cL_law 463 = .ok (.iload 4, 2) := by decide +kernel
theorem dL_law_465 : decode cL_law 465 = .ok (.iconst 2, 1) := by decide +kernel
theorem dL_law_466 : decode cL_law 466 = .ok (.iadd, 1) := by decide +kernel
theorem dL_law_467 : decode cL_law 467 = .ok (.iaload, 1) := by decide +kernel
theorem dL_law_468 : decode cL_law 468 = .ok (.invokevirtual 114, 3) := by decide +kernel
theorem dL_law_471 : decode cL_law 471 = .ok (.istore 6, 2) := by decide +kernel
theorem dL_law_473 : decode cL_law 473 = .ok (.aload_n 2, 1) := by decide +kernel
theorem dL_law_474 : decode cL_law 474 = .ok (.invokevirtual 98, 3) := by decide +kernel
theorem dL_law_477 : decode cL_law 477 = .ok (.iload 5, 2) := by decide +kernel
theorem dL_law_479 : decode cL_law 479 = .ok (.if_icmp .eq 5, 3) := by decide +kernel
theorem dL_law_482 : decode cL_law 482 = .ok (.iconst 0, 1) := by decide +kernel
theorem dL_law_483 : decode cL_law 483 = .ok (.ireturn, 1) := by decide +kernel
theorem dL_law_484 : decode cL_law 484 = .ok (.iload 5, 2) := by decide +kernel
theorem dL_law_486 : decode cL_law 486 = .ok (.ifCond .ne 15, 3) := by decide +kernel
theorem dL_law_489 : decode cL_law 489 = .ok (.aload_n 3, 1) := by decide +kernel
theorem dL_law_490 : decode cL_law 490 = .ok (.iconst 0, 1) := by decide +kernel
theorem dL_law_491 : decode cL_law 491 = .ok (.laload, 1) := by decide +kernel
theorem dL_law_492 : decode cL_law 492 = .ok (.iload 6, 2) := by decide +kernel
theorem dL_law_494 : decode cL_law 494 = .ok (.i2l, 1) := by decide +kernel
theorem dL_law_495 : decode cL_law 495 = .ok (.lcmp, 1) := by decide +kernel
theorem dL_law_496 : decode cL_law 496 = .ok (.ifCond .eq 5, 3) := by decide +kernel
theorem dL_law_499 : decode cL_law 499 = .ok (.iconst 0, 1) := by decide +kernel
theorem dL_law_500 : decode cL_law 500 = .ok (.ireturn, 1) := by decide +kernel
theorem dL_law_501 : decode cL_law 501 = .ok (.goto 1225, 3) := by decide +kernel
theorem dL_law_504 : decode cL_law 504 = .ok (.aload_n 1, 1) := by decide +kernel
theorem dL_law_505 : decode cL_law 505 = .ok (.aload_n 0, 1) := by decide +kernel
theorem dL_law_506 : decode cL_law 506 = .ok (.iload 4, 2) := by decide +kernel
theorem dL_law_508 : decode cL_law 508 = .ok (.iconst 1, 1) := by decide +kernel
theorem dL_law_509 : decode cL_law 509 = .ok (.iadd, 1) := by decide +kernel
theorem dL_law_510 : decode cL_law 510 = .ok (.iaload, 1) := by decide +kernel
theorem dL_law_511 : decode cL_law 511 = .ok (.aload_n 3, 1) := by decide +kernel
theorem dL_law_512 : decode cL_law 512 = .ok (.invokestatic 115, 3) := by decide +kernel
theorem dL_law_515 : decode cL_law 515 = .ok (.istore 5, 2) := by decide +kernel
theorem dL_law_517 : decode cL_law 517 = .ok (.aload_n 2, 1) := by decide +kernel
theorem dL_law_518 : decode cL_law 518 = .ok (.aload_n 0, 1) := by decide +kernel
theorem dL_law_519 : decode cL_law 519 = .ok (.iload 4, 2) := by decide +kernel
theorem dL_law_521 : decode cL_law 521 = .ok (.iconst 1, 1) := by decide +kernel
theorem dL_law_522 : decode cL_law 522 = .ok (.iadd, 1) := by decide +kernel
theorem dL_law_523 : decode cL_law 523 = .ok (.iaload, 1) := by decide +kernel
theorem dL_law_524 : decode cL_law 524 = .ok (.invokevirtual 118, 3) := by decide +kernel
theorem dL_law_527 : decode cL_law 527 = .ok (.istore 6, 2) := by decide +kernel
theorem dL_law_529 : decode cL_law 529 = .ok (.aload_n 2, 1) := by decide +kernel
theorem dL_law_530 : decode cL_law 530 = .ok (.invokevirtual 98, 3) := by decide +kernel
theorem dL_law_533 : decode cL_law 533 = .ok (.iload 5, 2) := by decide +kernel
theorem dL_law_535 : decode cL_law 535 = .ok (.if_icmp .eq 5, 3) := by decide +kernel
theorem dL_law_538 : decode cL_law 538 = .ok (.iconst 0, 1) := by decide +kernel
theorem dL_law_539 : decode cL_law 539 = .ok (.ireturn, 1) := by decide +kernel
theorem dL_law_540 : decode cL_law 540 = .ok (.iload 5, 2) := by decide +kernel
theorem dL_law_542 : decode cL_law 542 = .ok (.ifCond .ne 15, 3) := by decide +kernel
theorem dL_law_545 : decode cL_law 545 = .ok (.aload_n 3, 1) := by decide +kernel
theorem dL_law_546 : decode cL_law 546 = .ok (.iconst 0, 1) := by decide +kernel
theorem dL_law_547 : decode cL_law 547 = .ok (.laload, 1) := by decide +kernel
theorem dL_law_548 : decode cL_law 548 = .ok (.iload 6, 2) := by decide +kernel
theorem dL_law_550 : decode cL_law 550 = .ok (.i2l, 1) := by decide +kernel
theorem dL_law_551 : decode cL_law 551 = .ok (.lcmp, 1) := by decide +kernel
theorem dL_law_552 : decode cL_law 552 = .ok (.ifCond .eq 5, 3) := by decide +kernel
theorem dL_law_555 : decode cL_law 555 = .ok (.iconst 0, 1) := by decide +kernel
theorem dL_law_556 : decode cL_law 556 = .ok (.ireturn, 1) := by decide +kernel
theorem dL_law_557 : decode cL_law 557 = .ok (.goto 1169, 3) := by decide +kernel
theorem dL_law_560 : decode cL_law 560 = .ok (.aload_n 1, 1) := by decide +kernel
theorem dL_law_561 : decode cL_law 561 = .ok (.aload_n 0, 1) := by decide +kernel
theorem dL_law_562 : decode cL_law 562 = .ok (.iload 4, 2) := by decide +kernel
theorem dL_law_564 : decode cL_law 564 = .ok (.iconst 1, 1) := by decide +kernel
theorem dL_law_565 : decode cL_law 565 = .ok (.iadd, 1) := by decide +kernel
theorem dL_law_566 : decode cL_law 566 = .ok (.iaload, 1) := by decide +kernel
theorem dL_law_567 : decode cL_law 567 = .ok (.aload_n 0, 1) := by decide +kernel
theorem dL_law_568 : decode cL_law 568 = .ok (.iload 4, 2) := by decide +kernel
theorem dL_law_570 : decode cL_law 570 = .ok (.iconst 2, 1) := by decide +kernel
theorem dL_law_571 : decode cL_law 571 = .ok (.iadd, 1) := by decide +kernel
theorem dL_law_572 : decode cL_law 572 = .ok (.iaload, 1) := by decide +kernel
theorem dL_law_573 : decode cL_law 573 = .ok (.aload_n 3, 1) := by decide +kernel
theorem dL_law_574 : decode cL_law 574 = .ok (.invokestatic 119, 3) := by decide +kernel
theorem dL_law_577 : decode cL_law 577 = .ok (.istore 5, 2) := by decide +kernel
theorem dL_law_579 : decode cL_law 579 = .ok (.aload_n 2, 1) := by decide +kernel
theorem dL_law_580 : decode cL_law 580 = .ok (.aload_n 0, 1) := by decide +kernel
theorem dL_law_581 : decode cL_law 581 = .ok (.iload 4, 2) := by decide +kernel
theorem dL_law_583 : decode cL_law 583 = .ok (.iconst 1, 1) := by decide +kernel
theorem dL_law_584 : decode cL_law 584 = .ok (.iadd, 1) := by decide +kernel
theorem dL_law_585 : decode cL_law 585 = .ok (.iaload, 1) := by decide +kernel
theorem dL_law_586 : decode cL_law 586 = .ok (.aload_n 0, 1) := by decide +kernel
theorem dL_law_587 : decode cL_law 587 = .ok (.iload 4, 2) := by decide +kernel
theorem dL_law_589 : decode cL_law 589 = .ok (.iconst 2, 1) := by decide +kernel
theorem dL_law_590 : decode cL_law 590 = .ok (.iadd, 1) := by decide +kernel
theorem dL_law_591 : decode cL_law 591 = .ok (.iaload, 1) := by decide +kernel
theorem dL_law_592 : decode cL_law 592 = .ok (.invokevirtual 121, 3) := by decide +kernel
theorem dL_law_595 : decode cL_law 595 = .ok (.istore 6, 2) := by decide +kernel
theorem dL_law_597 : decode cL_law 597 = .ok (.aload_n 2, 1) := by decide +kernel
theorem dL_law_598 : decode cL_law 598 = .ok (.invokevirtual 98, 3) := by decide +kernel
theorem dL_law_601 : decode cL_law 601 = .ok (.iload 5, 2) := by decide +kernel
theorem dL_law_603 : decode cL_law 603 = .ok (.if_icmp .eq 5, 3) := by decide +kernel
theorem dL_law_606 : decode cL_law 606 = .ok (.iconst 0, 1) := by decide +kernel
theorem dL_law_607 : decode cL_law 607 = .ok (.ireturn, 1) := by decide +kernel
theorem dL_law_608 : decode cL_law 608 = .ok (.iload 5, 2) := by decide +kernel
theorem dL_law_610 : decode cL_law 610 = .ok (.ifCond .ne 15, 3) := by decide +kernel
theorem dL_law_613 : decode cL_law 613 = .ok (.aload_n 3, 1) := by decide +kernel
theorem dL_law_614 : decode cL_law 614 = .ok (.iconst 0, 1) := by decide +kernel
theorem dL_law_615 : decode cL_law 615 = .ok (.laload, 1) := by decide +kernel
theorem dL_law_616 : decode cL_law 616 = .ok (.iload 6, 2) := by decide +kernel
theorem dL_law_618 : decode cL_law 618 = .ok (.i2l, 1) := by decide +kernel
theorem dL_law_619 : decode cL_law 619 = .ok (.lcmp, 1) := by decide +kernel
theorem dL_law_620 : decode cL_law 620 = .ok (.ifCond .eq 5, 3) := by decide +kernel
theorem dL_law_623 : decode cL_law 623 = .ok (.iconst 0, 1) := by decide +kernel
theorem dL_law_624 : decode cL_law 624 = .ok (.ireturn, 1) := by decide +kernel
theorem dL_law_625 : decode cL_law 625 = .ok (.goto 1101, 3) := by decide +kernel
theorem dL_law_628 : decode cL_law 628 = .ok (.aload_n 1, 1) := by decide +kernel
theorem dL_law_629 : decode cL_law 629 = .ok (.aload_n 0, 1) := by decide +kernel
theorem dL_law_630 : decode cL_law 630 = .ok (.iload 4, 2) := by decide +kernel
theorem dL_law_632 : decode cL_law 632 = .ok (.iconst 1, 1) := by decide +kernel
theorem dL_law_633 : decode cL_law 633 = .ok (.iadd, 1) := by decide +kernel
theorem dL_law_634 : decode cL_law 634 = .ok (.iaload, 1) := by decide +kernel
theorem dL_law_635 : decode cL_law 635 = .ok (.aload_n 0, 1) := by decide +kernel
theorem dL_law_636 : decode cL_law 636 = .ok (.iload 4, 2) := by decide +kernel
theorem dL_law_638 : decode cL_law 638 = .ok (.iconst 2, 1) := by decide +kernel
theorem dL_law_639 : decode cL_law 639 = .ok (.iadd, 1) := by decide +kernel
theorem dL_law_640 : decode cL_law 640 = .ok (.iaload, 1) := by decide +kernel
theorem dL_law_641 : decode cL_law 641 = .ok (.aload_n 3, 1) := by decide +kernel
theorem dL_law_642 : decode cL_law 642 = .ok (.invokestatic 122, 3) := by decide +kernel
theorem dL_law_645 : decode cL_law 645 = .ok (.istore 5, 2) := by decide +kernel
theorem dL_law_647 : decode cL_law 647 = .ok (.aload_n 2, 1) := by decide +kernel
theorem dL_law_648 : decode cL_law 648 = .ok (.aload_n 0, 1) := by decide +kernel
theorem dL_law_649 : decode cL_law 649 = .ok (.iload 4, 2) := by decide +kernel
theorem dL_law_651 : decode cL_law 651 = .ok (.iconst 1, 1) := by decide +kernel
theorem dL_law_652 : decode cL_law 652 = .ok (.iadd, 1) := by decide +kernel
theorem dL_law_653 : decode cL_law 653 = .ok (.iaload, 1) := by decide +kernel
theorem dL_law_654 : decode cL_law 654 = .ok (.aload_n 0, 1) := by decide +kernel
theorem dL_law_655 : decode cL_law 655 = .ok (.iload 4, 2) := by decide +kernel
theorem dL_law_657 : decode cL_law 657 = .ok (.iconst 2, 1) := by decide +kernel
theorem dL_law_658 : decode cL_law 658 = .ok (.iadd, 1) := by decide +kernel
theorem dL_law_659 : decode cL_law 659 = .ok (.iaload, 1) := by decide +kernel
theorem dL_law_660 : decode cL_law 660 = .ok (.invokevirtual 124, 3) := by decide +kernel
theorem dL_law_663 : decode cL_law 663 = .ok (.istore 6, 2) := by decide +kernel
theorem dL_law_665 : decode cL_law 665 = .ok (.aload_n 2, 1) := by decide +kernel
theorem dL_law_666 : decode cL_law 666 = .ok (.invokevirtual 98, 3) := by decide +kernel
theorem dL_law_669 : decode cL_law 669 = .ok (.iload 5, 2) := by decide +kernel
theorem dL_law_671 : decode cL_law 671 = .ok (.if_icmp .eq 5, 3) := by decide +kernel
theorem dL_law_674 : decode cL_law 674 = .ok (.iconst 0, 1) := by decide +kernel
theorem dL_law_675 : decode cL_law 675 = .ok (.ireturn, 1) := by decide +kernel
theorem dL_law_676 : decode cL_law 676 = .ok (.iload 5, 2) := by decide +kernel
theorem dL_law_678 : decode cL_law 678 = .ok (.ifCond .ne 15, 3) := by decide +kernel
theorem dL_law_681 : decode cL_law 681 = .ok (.aload_n 3, 1) := by decide +kernel
theorem dL_law_682 : decode cL_law 682 = .ok (.iconst 0, 1) := by decide +kernel
theorem dL_law_683 : decode cL_law 683 = .ok (.laload, 1) := by decide +kernel
theorem dL_law_684 : decode cL_law 684 = .ok (.iload 6, 2) := by decide +kernel
theorem dL_law_686 : decode cL_law 686 = .ok (.i2l, 1) := by decide +kernel
theorem dL_law_687 : decode cL_law 687 = .ok (.lcmp, 1) := by decide +kernel
theorem dL_law_688 : decode cL_law 688 = .ok (.ifCond .eq 5, 3) := by decide +kernel
theorem dL_law_691 : decode cL_law 691 = .ok (.iconst 0, 1) := by decide +kernel
theorem dL_law_692 : decode cL_law 692 = .ok (.ireturn, 1) := by decide +kernel
theorem dL_law_693 : decode cL_law 693 = .ok (.goto 1033, 3) := by decide +kernel
theorem dL_law_696 : decode cL_law 696 = .ok (.aload_n 1, 1) := by decide +kernel
theorem dL_law_697 : decode cL_law 697 = .ok (.aload_n 0, 1) := by decide +kernel
theorem dL_law_698 : decode cL_law 698 = .ok (.iload 4, 2) := by decide +kernel
theorem dL_law_700 : decode cL_law 700 = .ok (.iconst 1, 1) := by decide +kernel
theorem dL_law_701 : decode cL_law 701 = .ok (.iadd, 1) := by decide +kernel
theorem dL_law_702 : decode cL_law 702 = .ok (.iaload, 1) := by decide +kernel
theorem dL_law_703 : decode cL_law 703 = .ok (.aload_n 0, 1) := by decide +kernel
theorem dL_law_704 : decode cL_law 704 = .ok (.iload 4, 2) := by decide +kernel
theorem dL_law_706 : decode cL_law 706 = .ok (.iconst 2, 1) := by decide +kernel
theorem dL_law_707 : decode cL_law 707 = .ok (.iadd, 1) := by decide +kernel
theorem dL_law_708 : decode cL_law 708 = .ok (.iaload, 1) := by decide +kernel
theorem dL_law_709 : decode cL_law 709 = .ok (.aload_n 3, 1) := by decide +kernel
theorem dL_law_710 : decode cL_law 710 = .ok (.invokestatic 125, 3) := by decide +kernel
theorem dL_law_713 : decode cL_law 713 = .ok (.istore 5, 2) := by decide +kernel
theorem dL_law_715 : decode cL_law 715 = .ok (.aload_n 2, 1) := by decide +kernel
theorem dL_law_716 : decode cL_law 716 = .ok (.aload_n 0, 1) := by decide +kernel
theorem dL_law_717 : decode cL_law 717 = .ok (.iload 4, 2) := by decide +kernel
theorem dL_law_719 : decode cL_law 719 = .ok (.iconst 1, 1) := by decide +kernel
theorem dL_law_720 : decode cL_law 720 = .ok (.iadd, 1) := by decide +kernel
theorem dL_law_721 : decode cL_law 721 = .ok (.iaload, 1) := by decide +kernel
theorem dL_law_722 : decode cL_law 722 = .ok (.aload_n 0, 1) := by decide +kernel
theorem dL_law_723 : decode cL_law 723 = .ok (.iload 4, 2) := by decide +kernel
theorem dL_law_725 : decode cL_law 725 = .ok (.iconst 2, 1) := by decide +kernel
theorem dL_law_726 : decode cL_law 726 = .ok (.iadd, 1) := by decide +kernel
theorem dL_law_727 : decode cL_law 727 = .ok (.iaload, 1) := by decide +kernel
theorem dL_law_728 : decode cL_law 728 = .ok (.invokevirtual 127, 3) := by decide +kernel
theorem dL_law_731 : decode cL_law 731 = .ok (.istore 6, 2) := by decide +kernel
theorem dL_law_733 : decode cL_law 733 = .ok (.aload_n 2, 1) := by decide +kernel
theorem dL_law_734 : decode cL_law 734 = .ok (.invokevirtual 98, 3) := by decide +kernel
theorem dL_law_737 : decode cL_law 737 = .ok (.iload 5, 2) := by decide +kernel
theorem dL_law_739 : decode cL_law 739 = .ok (.if_icmp .eq 5, 3) := by decide +kernel
theorem dL_law_742 : decode cL_law 742 = .ok (.iconst 0, 1) := by decide +kernel
theorem dL_law_743 : decode cL_law 743 = .ok (.ireturn, 1) := by decide +kernel
theorem dL_law_744 : decode cL_law 744 = .ok (.iload 5, 2) := by decide +kernel
theorem dL_law_746 : decode cL_law 746 = .ok (.ifCond .ne 15, 3) := by decide +kernel
theorem dL_law_749 : decode cL_law 749 = .ok (.aload_n 3, 1) := by decide +kernel
theorem dL_law_750 : decode cL_law 750 = .ok (.iconst 0, 1) := by decide +kernel
theorem dL_law_751 : decode cL_law 751 = .ok (.laload, 1) := by decide +kernel
theorem dL_law_752 : decode cL_law 752 = .ok (.iload 6, 2) := by decide +kernel
theorem dL_law_754 : decode cL_law 754 = .ok (.i2l, 1) := by decide +kernel
theorem dL_law_755 : decode cL_law 755 = .ok (.lcmp, 1) := by decide +kernel
theorem dL_law_756 : decode cL_law 756 = .ok (.ifCond .eq 5, 3) := by decide +kernel
theorem dL_law_759 : decode cL_law 759 = .ok (.iconst 0, 1) := by decide +kernel
theorem dL_law_760 : decode cL_law 760 = .ok (.ireturn, 1) := by decide +kernel
theorem dL_law_761 : decode cL_law 761 = .ok (.goto 965, 3) := by decide +kernel
theorem dL_law_764 : decode cL_law 764 = .ok (.aload_n 1, 1) := by decide +kernel
theorem dL_law_765 : decode cL_law 765 = .ok (.aload_n 0, 1) := by decide +kernel
theorem dL_law_766 : decode cL_law 766 = .ok (.iload 4, 2) := by decide +kernel
theorem dL_law_768 : decode cL_law 768 = .ok (.iconst 1, 1) := by decide +kernel
theorem dL_law_769 : decode cL_law 769 = .ok (.iadd, 1) := by decide +kernel
theorem dL_law_770 : decode cL_law 770 = .ok (.iaload, 1) := by decide +kernel
theorem dL_law_771 : decode cL_law 771 = .ok (.aload_n 3, 1) := by decide +kernel
theorem dL_law_772 : decode cL_law 772 = .ok (.invokestatic 128, 3) := by decide +kernel
theorem dL_law_775 : decode cL_law 775 = .ok (.istore 5, 2) := by decide +kernel
theorem dL_law_777 : decode cL_law 777 = .ok (.aload_n 2, 1) := by decide +kernel
theorem dL_law_778 : decode cL_law 778 = .ok (.aload_n 0, 1) := by decide +kernel
theorem dL_law_779 : decode cL_law 779 = .ok (.iload 4, 2) := by decide +kernel
theorem dL_law_781 : decode cL_law 781 = .ok (.iconst 1, 1) := by decide +kernel
theorem dL_law_782 : decode cL_law 782 = .ok (.iadd, 1) := by decide +kernel
theorem dL_law_783 : decode cL_law 783 = .ok (.iaload, 1) := by decide +kernel
theorem dL_law_784 : decode cL_law 784 = .ok (.invokevirtual 130, 3) := by decide +kernel
theorem dL_law_787 : decode cL_law 787 = .ok (.istore 6, 2) := by decide +kernel
theorem dL_law_789 : decode cL_law 789 = .ok (.aload_n 2, 1) := by decide +kernel
theorem dL_law_790 : decode cL_law 790 = .ok (.invokevirtual 98, 3) := by decide +kernel
theorem dL_law_793 : decode cL_law 793 = .ok (.iload 5, 2) := by decide +kernel
theorem dL_law_795 : decode cL_law 795 = .ok (.if_icmp .eq 5, 3) := by decide +kernel
theorem dL_law_798 : decode cL_law 798 = .ok (.iconst 0, 1) := by decide +kernel
theorem dL_law_799 : decode cL_law 799 = .ok (.ireturn, 1) := by decide +kernel
theorem dL_law_800 : decode cL_law 800 = .ok (.iload 5, 2) := by decide +kernel
theorem dL_law_802 : decode cL_law 802 = .ok (.ifCond .ne 15, 3) := by decide +kernel
theorem dL_law_805 : decode cL_law 805 = .ok (.aload_n 3, 1) := by decide +kernel
theorem dL_law_806 : decode cL_law 806 = .ok (.iconst 0, 1) := by decide +kernel
theorem dL_law_807 : decode cL_law 807 = .ok (.laload, 1) := by decide +kernel
theorem dL_law_808 : decode cL_law 808 = .ok (.iload 6, 2) := by decide +kernel
theorem dL_law_810 : decode cL_law 810 = .ok (.i2l, 1) := by decide +kernel
theorem dL_law_811 : decode cL_law 811 = .ok (.lcmp, 1) := by decide +kernel
theorem dL_law_812 : decode cL_law 812 = .ok (.ifCond .eq 5, 3) := by decide +kernel
theorem dL_law_815 : decode cL_law 815 = .ok (.iconst 0, 1) := by decide +kernel
theorem dL_law_816 : decode cL_law 816 = .ok (.ireturn, 1) := by decide +kernel
theorem dL_law_817 : decode cL_law 817 = .ok (.goto 909, 3) := by decide +kernel
theorem dL_law_820 : decode cL_law 820 = .ok (.aload_n 1, 1) := by decide +kernel
theorem dL_law_821 : decode cL_law 821 = .ok (.aload_n 0, 1) := by decide +kernel
theorem dL_law_822 : decode cL_law 822 = .ok (.iload 4, 2) := by decide +kernel
theorem dL_law_824 : decode cL_law 824 = .ok (.iconst 1, 1) := by decide +kernel
theorem dL_law_825 : decode cL_law 825 = .ok (.iadd, 1) := by decide +kernel
theorem dL_law_826 : decode cL_law 826 = .ok (.iaload, 1) := by decide +kernel
theorem dL_law_827 : decode cL_law 827 = .ok (.aload_n 3, 1) := by decide +kernel
theorem dL_law_828 : decode cL_law 828 = .ok (.invokestatic 131, 3) := by decide +kernel
theorem dL_law_831 : decode cL_law 831 = .ok (.istore 5, 2) := by decide +kernel
theorem dL_law_833 : decode cL_law 833 = .ok (.aload_n 2, 1) := by decide +kernel
theorem dL_law_834 : decode cL_law 834 = .ok (.aload_n 0, 1) := by decide +kernel
theorem dL_law_835 : decode cL_law 835 = .ok (.iload 4, 2) := by decide +kernel
theorem dL_law_837 : decode cL_law 837 = .ok (.iconst 1, 1) := by decide +kernel
theorem dL_law_838 : decode cL_law 838 = .ok (.iadd, 1) := by decide +kernel
theorem dL_law_839 : decode cL_law 839 = .ok (.iaload, 1) := by decide +kernel
theorem dL_law_840 : decode cL_law 840 = .ok (.invokevirtual 133, 3) := by decide +kernel
theorem dL_law_843 : decode cL_law 843 = .ok (.istore 6, 2) := by decide +kernel
theorem dL_law_845 : decode cL_law 845 = .ok (.aload_n 2, 1) := by decide +kernel
theorem dL_law_846 : decode cL_law 846 = .ok (.invokevirtual 98, 3) := by decide +kernel
theorem dL_law_849 : decode cL_law 849 = .ok (.iload 5, 2) := by decide +kernel
theorem dL_law_851 : decode cL_law 851 = .ok (.if_icmp .eq 5, 3) := by decide +kernel
theorem dL_law_854 : decode cL_law 854 = .ok (.iconst 0, 1) := by decide +kernel
theorem dL_law_855 : decode cL_law 855 = .ok (.ireturn, 1) := by decide +kernel
theorem dL_law_856 : decode cL_law 856 = .ok (.iload 5, 2) := by decide +kernel
theorem dL_law_858 : decode cL_law 858 = .ok (.ifCond .ne 15, 3) := by decide +kernel
theorem dL_law_861 : decode cL_law 861 = .ok (.aload_n 3, 1) := by decide +kernel
theorem dL_law_862 : decode cL_law 862 = .ok (.iconst 0, 1) := by decide +kernel
theorem dL_law_863 : decode cL_law 863 = .ok (.laload, 1) := by decide +kernel
theorem dL_law_864 : decode cL_law 864 = .ok (.iload 6, 2) := by decide +kernel
theorem dL_law_866 : decode cL_law 866 = .ok (.i2l, 1) := by decide +kernel
theorem dL_law_867 : decode cL_law 867 = .ok (.lcmp, 1) := by decide +kernel
theorem dL_law_868 : decode cL_law 868 = .ok (.ifCond .eq 5, 3) := by decide +kernel
theorem dL_law_871 : decode cL_law 871 = .ok (.iconst 0, 1) := by decide +kernel
theorem dL_law_872 : decode cL_law 872 = .ok (.ireturn, 1) := by decide +kernel
theorem dL_law_873 : decode cL_law 873 = .ok (.goto 853, 3) := by decide +kernel
theorem dL_law_876 : decode cL_law 876 = .ok (.aload_n 1, 1) := by decide +kernel
theorem dL_law_877 : decode cL_law 877 = .ok (.invokevirtual 134, 3) := by decide +kernel
theorem dL_law_880 : decode cL_law 880 = .ok (.aload_n 2, 1) := by decide +kernel
theorem dL_law_881 : decode cL_law 881 = .ok (.invokevirtual 137, 3) := by decide +kernel
theorem dL_law_884 : decode cL_law 884 = .ok (.if_icmp .eq 842, 3) := by decide +kernel
theorem dL_law_887 : decode cL_law 887 = .ok (.iconst 0, 1) := by decide +kernel
theorem dL_law_888 : decode cL_law 888 = .ok (.ireturn, 1) := by decide +kernel
theorem dL_law_889 : decode cL_law 889 = .ok (.aload_n 1, 1) := by decide +kernel
theorem dL_law_890 : decode cL_law 890 = .ok (.invokevirtual 138, 3) := by decide +kernel
theorem dL_law_893 : decode cL_law 893 = .ok (.aload_n 2, 1) := by decide +kernel
theorem dL_law_894 : decode cL_law 894 = .ok (.invokevirtual 141, 3) := by decide +kernel
theorem dL_law_897 : decode cL_law 897 = .ok (.if_icmp .eq 829, 3) := by decide +kernel
theorem dL_law_900 : decode cL_law 900 = .ok (.iconst 0, 1) := by decide +kernel
theorem dL_law_901 : decode cL_law 901 = .ok (.ireturn, 1) := by decide +kernel
theorem dL_law_902 : decode cL_law 902 = .ok (.aload_n 1, 1) := by decide +kernel
theorem dL_law_903 : decode cL_law 903 = .ok (.aload_n 3, 1) := by decide +kernel
theorem dL_law_904 : decode cL_law 904 = .ok (.invokestatic 142, 3) := by decide +kernel
theorem dL_law_907 : decode cL_law 907 = .ok (.istore 5, 2) := by decide +kernel
theorem dL_law_909 : decode cL_law 909 = .ok (.aload_n 2, 1) := by decide +kernel
theorem dL_law_910 : decode cL_law 910 = .ok (.invokevirtual 144, 3) := by decide +kernel
theorem dL_law_913 : decode cL_law 913 = .ok (.istore 6, 2) := by decide +kernel
theorem dL_law_915 : decode cL_law 915 = .ok (.aload_n 2, 1) := by decide +kernel
theorem dL_law_916 : decode cL_law 916 = .ok (.invokevirtual 98, 3) := by decide +kernel
theorem dL_law_919 : decode cL_law 919 = .ok (.iload 5, 2) := by decide +kernel
theorem dL_law_921 : decode cL_law 921 = .ok (.if_icmp .eq 5, 3) := by decide +kernel
theorem dL_law_924 : decode cL_law 924 = .ok (.iconst 0, 1) := by decide +kernel
theorem dL_law_925 : decode cL_law 925 = .ok (.ireturn, 1) := by decide +kernel
theorem dL_law_926 : decode cL_law 926 = .ok (.iload 5, 2) := by decide +kernel
theorem dL_law_928 : decode cL_law 928 = .ok (.ifCond .ne 15, 3) := by decide +kernel
theorem dL_law_931 : decode cL_law 931 = .ok (.aload_n 3, 1) := by decide +kernel
end
section
theorem dL_law_932 : decode cL_law 932 = .ok (.iconst 0, 1) := by decide +kernel
theorem dL_law_933 : decode cL_law 933 = .ok (.laload, 1) := by decide +kernel
theorem dL_law_934 : decode cL_law 934 = .ok (.iload 6, 2) := by decide +kernel
theorem dL_law_936 : decode cL_law 936 = .ok (.i2l, 1) := by decide +kernel
theorem dL_law_937 : decode cL_law 937 = .ok (.lcmp, 1) := by decide +kernel
theorem dL_law_938 : decode cL_law 938 = .ok (.ifCond .eq 5, 3) := by decide +kernel
theorem dL_law_941 : decode cL_law 941 = .ok (.iconst 0, 1) := by decide +kernel
theorem dL_law_942 : decode cL_law 942 = .ok (.ireturn, 1) := by decide +kernel
theorem dL_law_943 : decode cL_law 943 = .ok (.goto 783, 3) := by decide +kernel
theorem dL_law_946 : decode cL_law 946 = .ok (.aload_n 1, 1) := by decide +kernel
theorem dL_law_947 : decode cL_law 947 = .ok (.aload_n 3, 1) := by decide +kernel
theorem dL_law_948 : decode cL_law 948 = .ok (.invokestatic 145, 3) := by decide +kernel
theorem dL_law_951 : decode cL_law 951 = .ok (.istore 5, 2) := by decide +kernel
theorem dL_law_953 : decode cL_law 953 = .ok (.aload_n 2, 1) := by decide +kernel
theorem dL_law_954 : decode cL_law 954 = .ok (.invokevirtual 147, 3) := by decide +kernel
theorem dL_law_957 : decode cL_law 957 = .ok (.istore 6, 2) := by decide +kernel
theorem dL_law_959 : decode cL_law 959 = .ok (.aload_n 2, 1) := by decide +kernel
theorem dL_law_960 : decode cL_law 960 = .ok (.invokevirtual 98, 3) := by decide +kernel
theorem dL_law_963 : decode cL_law 963 = .ok (.iload 5, 2) := by decide +kernel
theorem dL_law_965 : decode cL_law 965 = .ok (.if_icmp .eq 5, 3) := by decide +kernel
theorem dL_law_968 : decode cL_law 968 = .ok (.iconst 0, 1) := by decide +kernel
theorem dL_law_969 : decode cL_law 969 = .ok (.ireturn, 1) := by decide +kernel
theorem dL_law_970 : decode cL_law 970 = .ok (.iload 5, 2) := by decide +kernel
theorem dL_law_972 : decode cL_law 972 = .ok (.ifCond .ne 15, 3) := by decide +kernel
theorem dL_law_975 : decode cL_law 975 = .ok (.aload_n 3, 1) := by decide +kernel
theorem dL_law_976 : decode cL_law 976 = .ok (.iconst 0, 1) := by decide +kernel
theorem dL_law_977 : decode cL_law 977 = .ok (.laload, 1) := by decide +kernel
theorem dL_law_978 : decode cL_law 978 = .ok (.iload 6, 2) := by decide +kernel
theorem dL_law_980 : decode cL_law 980 = .ok (.i2l, 1) := by decide +kernel
theorem dL_law_981 : decode cL_law 981 = .ok (.lcmp, 1) := by decide +kernel
theorem dL_law_982 : decode cL_law 982 = .ok (.ifCond .eq 5, 3) := by decide +kernel
theorem dL_law_985 : decode cL_law 985 = .ok (.iconst 0, 1) := by decide +kernel
theorem dL_law_986 : decode cL_law 986 = .ok (.ireturn, 1) := by decide +kernel
theorem dL_law_987 : decode cL_law 987 = .ok (.goto 739, 3) := by decide +kernel
theorem dL_law_990 : decode cL_law 990 = .ok (.aload_n 1, 1) := by decide +kernel
theorem dL_law_991 : decode cL_law 991 = .ok (.aload_n 0, 1) := by decide +kernel
theorem dL_law_992 : decode cL_law 992 = .ok (.iload 4, 2) := by decide +kernel
theorem dL_law_994 : decode cL_law 994 = .ok (.iconst 1, 1) := by decide +kernel
theorem dL_law_995 : decode cL_law 995 = .ok (.iadd, 1) := by decide +kernel
theorem dL_law_996 : decode cL_law 996 = .ok (.iaload, 1) := by decide +kernel
theorem dL_law_997 : decode cL_law 997 = .ok (.aload_n 0, 1) := by decide +kernel
theorem dL_law_998 : decode cL_law 998 = .ok (.iload 4, 2) := by decide +kernel
theorem dL_law_1000 : decode cL_law 1000 = .ok (.iconst 2, 1) := by decide +kernel
theorem dL_law_1001 : decode cL_law 1001 = .ok (.iadd, 1) := by decide +kernel
theorem dL_law_1002 : decode cL_law 1002 = .ok (.iaload, 1) := by decide +kernel
theorem dL_law_1003 : decode cL_law 1003 = .ok (.aload_n 3, 1) := by decide +kernel
theorem dL_law_1004 : decode cL_law 1004 = .ok (.invokestatic 148, 3) := by decide +kernel
theorem dL_law_1007 : decode cL_law 1007 = .ok (.istore 5, 2) := by decide +kernel
theorem dL_law_1009 : decode cL_law 1009 = .ok (.aload_n 2, 1) := by decide +kernel
theorem dL_law_1010 : decode cL_law 1010 = .ok (.aload_n 0, 1) := by decide +kernel
theorem dL_law_1011 : decode cL_law 1011 = .ok (.iload 4, 2) := by decide +kernel
theorem dL_law_1013 : decode cL_law 1013 = .ok (.iconst 1, 1) := by decide +kernel
theorem dL_law_1014 : decode cL_law 1014 = .ok (.iadd, 1) := by decide +kernel
theorem dL_law_1015 : decode cL_law 1015 = .ok (.iaload, 1) := by decide +kernel
theorem dL_law_1016 : decode cL_law 1016 = .ok (.aload_n 0, 1) := by decide +kernel
theorem dL_law_1017 : decode cL_law 1017 = .ok (.iload 4, 2) := by decide +kernel
theorem dL_law_1019 : decode cL_law 1019 = .ok (.iconst 2, 1) := by decide +kernel
theorem dL_law_1020 : decode cL_law 1020 = .ok (.iadd, 1) := by decide +kernel
theorem dL_law_1021 : decode cL_law 1021 = .ok (.iaload, 1) := by decide +kernel
theorem dL_law_1022 : decode cL_law 1022 = .ok (.invokevirtual 150, 3) := by decide +kernel
theorem dL_law_1025 : decode cL_law 1025 = .ok (.istore 6, 2) := by decide +kernel
theorem dL_law_1027 : decode cL_law 1027 = .ok (.aload_n 2, 1) := by decide +kernel
theorem dL_law_1028 : decode cL_law 1028 = .ok (.invokevirtual 98, 3) := by decide +kernel
theorem dL_law_1031 : decode cL_law 1031 = .ok (.iload 5, 2) := by decide +kernel
theorem dL_law_1033 : decode cL_law 1033 = .ok (.if_icmp .eq 5, 3) := by decide +kernel
theorem dL_law_1036 : decode cL_law 1036 = .ok (.iconst 0, 1) := by decide +kernel
theorem dL_law_1037 : decode cL_law 1037 = .ok (.ireturn, 1) := by decide +kernel
theorem dL_law_1038 : decode cL_law 1038 = .ok (.iload 5, 2) := by decide +kernel
theorem dL_law_1040 : decode cL_law 1040 = .ok (.ifCond .ne 15, 3) := by decide +kernel
theorem dL_law_1043 : decode cL_law 1043 = .ok (.aload_n 3, 1) := by decide +kernel
theorem dL_law_1044 : decode cL_law 1044 = .ok (.iconst 0, 1) := by decide +kernel
theorem dL_law_1045 : decode cL_law 1045 = .ok (.laload, 1) := by decide +kernel
theorem dL_law_1046 : decode cL_law 1046 = .ok (.iload 6, 2) := by decide +kernel
theorem dL_law_1048 : decode cL_law 1048 = .ok (.i2l, 1) := by decide +kernel
theorem dL_law_1049 : decode cL_law 1049 = .ok (.lcmp, 1) := by decide +kernel
theorem dL_law_1050 : decode cL_law 1050 = .ok (.ifCond .eq 5, 3) := by decide +kernel
theorem dL_law_1053 : decode cL_law 1053 = .ok (.iconst 0, 1) := by decide +kernel
theorem dL_law_1054 : decode cL_law 1054 = .ok (.ireturn, 1) := by decide +kernel
theorem dL_law_1055 : decode cL_law 1055 = .ok (.goto 671, 3) := by decide +kernel
theorem dL_law_1058 : decode cL_law 1058 = .ok (.aload_n 1, 1) := by decide +kernel
theorem dL_law_1059 : decode cL_law 1059 = .ok (.aload_n 0, 1) := by decide +kernel
theorem dL_law_1060 : decode cL_law 1060 = .ok (.iload 4, 2) := by decide +kernel
theorem dL_law_1062 : decode cL_law 1062 = .ok (.iconst 1, 1) := by decide +kernel
theorem dL_law_1063 : decode cL_law 1063 = .ok (.iadd, 1) := by decide +kernel
theorem dL_law_1064 : decode cL_law 1064 = .ok (.iaload, 1) := by decide +kernel
theorem dL_law_1065 : decode cL_law 1065 = .ok (.aload_n 0, 1) := by decide +kernel
theorem dL_law_1066 : decode cL_law 1066 = .ok (.iload 4, 2) := by decide +kernel
theorem dL_law_1068 : decode cL_law 1068 = .ok (.iconst 2, 1) := by decide +kernel
theorem dL_law_1069 : decode cL_law 1069 = .ok (.iadd, 1) := by decide +kernel
theorem dL_law_1070 : decode cL_law 1070 = .ok (.iaload, 1) := by decide +kernel
theorem dL_law_1071 : decode cL_law 1071 = .ok (.aload_n 0, 1) := by decide +kernel
theorem dL_law_1072 : decode cL_law 1072 = .ok (.iload 4, 2) := by decide +kernel
theorem dL_law_1074 : decode cL_law 1074 = .ok (.iconst 3, 1) := by decide +kernel
theorem dL_law_1075 : decode cL_law 1075 = .ok (.iadd, 1) := by decide +kernel
theorem dL_law_1076 : decode cL_law 1076 = .ok (.iaload, 1) := by decide +kernel
theorem dL_law_1077 : decode cL_law 1077 = .ok (.aload_n 3, 1) := by decide +kernel
theorem dL_law_1078 : decode cL_law 1078 = .ok (.invokestatic 151, 3) := by decide +kernel
theorem dL_law_1081 : decode cL_law 1081 = .ok (.istore 5, 2) := by decide +kernel
theorem dL_law_1083 : decode cL_law 1083 = .ok (.aload_n 2, 1) := by decide +kernel
theorem dL_law_1084 : decode cL_law 1084 = .ok (.aload_n 0, 1) := by decide +kernel
theorem dL_law_1085 : decode cL_law 1085 = .ok (.iload 4, 2) := by decide +kernel
theorem dL_law_1087 : decode cL_law 1087 = .ok (.iconst 1, 1) := by decide +kernel
theorem dL_law_1088 : decode cL_law 1088 = .ok (.iadd, 1) := by decide +kernel
theorem dL_law_1089 : decode cL_law 1089 = .ok (.iaload, 1) := by decide +kernel
theorem dL_law_1090 : decode cL_law 1090 = .ok (.aload_n 0, 1) := by decide +kernel
theorem dL_law_1091 : decode cL_law 1091 = .ok (.iload 4, 2) := by decide +kernel
theorem dL_law_1093 : decode cL_law 1093 = .ok (.iconst 2, 1) := by decide +kernel
theorem dL_law_1094 : decode cL_law 1094 = .ok (.iadd, 1) := by decide +kernel
theorem dL_law_1095 : decode cL_law 1095 = .ok (.iaload, 1) := by decide +kernel
theorem dL_law_1096 : decode cL_law 1096 = .ok (.aload_n 0, 1) := by decide +kernel
theorem dL_law_1097 : decode cL_law 1097 = .ok (.iload 4, 2) := by decide +kernel
theorem dL_law_1099 : decode cL_law 1099 = .ok (.iconst 3, 1) := by decide +kernel
theorem dL_law_1100 : decode cL_law 1100 = .ok (.iadd, 1) := by decide +kernel
theorem dL_law_1101 : decode cL_law 1101 = .ok (.iaload, 1) := by decide +kernel
theorem dL_law_1102 : decode cL_law 1102 = .ok (.invokevirtual 153, 3) := by decide +kernel
theorem dL_law_1105 : decode cL_law 1105 = .ok (.istore 6, 2) := by decide +kernel
theorem dL_law_1107 : decode cL_law 1107 = .ok (.aload_n 2, 1) := by decide +kernel
theorem dL_law_1108 : decode cL_law 1108 = .ok (.invokevirtual 98, 3) := by decide +kernel
theorem dL_law_1111 : decode cL_law 1111 = .ok (.iload 5, 2) := by decide +kernel
theorem dL_law_1113 : decode cL_law 1113 = .ok (.if_icmp .eq 5, 3) := by decide +kernel
theorem dL_law_1116 : decode cL_law 1116 = .ok (.iconst 0, 1) := by decide +kernel
theorem dL_law_1117 : decode cL_law 1117 = .ok (.ireturn, 1) := by decide +kernel
theorem dL_law_1118 : decode cL_law 1118 = .ok (.iload 5, 2) := by decide +kernel
theorem dL_law_1120 : decode cL_law 1120 = .ok (.ifCond .ne 15, 3) := by decide +kernel
theorem dL_law_1123 : decode cL_law 1123 = .ok (.aload_n 3, 1) := by decide +kernel
theorem dL_law_1124 : decode cL_law 1124 = .ok (.iconst 0, 1) := by decide +kernel
theorem dL_law_1125 : decode cL_law 1125 = .ok (.laload, 1) := by decide +kernel
theorem dL_law_1126 : decode cL_law 1126 = .ok (.iload 6, 2) := by decide +kernel
theorem dL_law_1128 : decode cL_law 1128 = .ok (.i2l, 1) := by decide +kernel
theorem dL_law_1129 : decode cL_law 1129 = .ok (.lcmp, 1) := by decide +kernel
theorem dL_law_1130 : decode cL_law 1130 = .ok (.ifCond .eq 5, 3) := by decide +kernel
theorem dL_law_1133 : decode cL_law 1133 = .ok (.iconst 0, 1) := by decide +kernel
theorem dL_law_1134 : decode cL_law 1134 = .ok (.ireturn, 1) := by decide +kernel
theorem dL_law_1135 : decode cL_law 1135 = .ok (.goto 591, 3) := by decide +kernel
theorem dL_law_1138 : decode cL_law 1138 = .ok (.aload_n 1, 1) := by decide +kernel
theorem dL_law_1139 : decode cL_law 1139 = .ok (.aload_n 0, 1) := by decide +kernel
theorem dL_law_1140 : decode cL_law 1140 = .ok (.iload 4, 2) := by decide +kernel
theorem dL_law_1142 : decode cL_law 1142 = .ok (.iconst 1, 1) := by decide +kernel
theorem dL_law_1143 : decode cL_law 1143 = .ok (.iadd, 1) := by decide +kernel
theorem dL_law_1144 : decode cL_law 1144 = .ok (.iaload, 1) := by decide +kernel
theorem dL_law_1145 : decode cL_law 1145 = .ok (.aload_n 0, 1) := by decide +kernel
theorem dL_law_1146 : decode cL_law 1146 = .ok (.iload 4, 2) := by decide +kernel
theorem dL_law_1148 : decode cL_law 1148 = .ok (.iconst 2, 1) := by decide +kernel
theorem dL_law_1149 : decode cL_law 1149 = .ok (.iadd, 1) := by decide +kernel
theorem dL_law_1150 : decode cL_law 1150 = .ok (.iaload, 1) := by decide +kernel
theorem dL_law_1151 : decode cL_law 1151 = .ok (.aload_n 0, 1) := by decide +kernel
theorem dL_law_1152 : decode cL_law 1152 = .ok (.iload 4, 2) := by decide +kernel
theorem dL_law_1154 : decode cL_law 1154 = .ok (.iconst 3, 1) := by decide +kernel
theorem dL_law_1155 : decode cL_law 1155 = .ok (.iadd, 1) := by decide +kernel
theorem dL_law_1156 : decode cL_law 1156 = .ok (.iaload, 1) := by decide +kernel
theorem dL_law_1157 : decode cL_law 1157 = .ok (.aload_n 3, 1) := by decide +kernel
theorem dL_law_1158 : decode cL_law 1158 = .ok (.invokestatic 154, 3) := by decide +kernel
theorem dL_law_1161 : decode cL_law 1161 = .ok (.istore 5, 2) := by decide +kernel
theorem dL_law_1163 : decode cL_law 1163 = .ok (.aload_n 2, 1) := by decide +kernel
theorem dL_law_1164 : decode cL_law 1164 = .ok (.aload_n 0, 1) := by decide +kernel
theorem dL_law_1165 : decode cL_law 1165 = .ok (.iload 4, 2) := by decide +kernel
theorem dL_law_1167 : decode cL_law 1167 = .ok (.iconst 1, 1) := by decide +kernel
theorem dL_law_1168 : decode cL_law 1168 = .ok (.iadd, 1) := by decide +kernel
theorem dL_law_1169 : decode cL_law 1169 = .ok (.iaload, 1) := by decide +kernel
theorem dL_law_1170 : decode cL_law 1170 = .ok (.aload_n 0, 1) := by decide +kernel
theorem dL_law_1171 : decode cL_law 1171 = .ok (.iload 4, 2) := by decide +kernel
theorem dL_law_1173 : decode cL_law 1173 = .ok (.iconst 2, 1) := by decide +kernel
theorem dL_law_1174 : decode cL_law 1174 = .ok (.iadd, 1) := by decide +kernel
theorem dL_law_1175 : decode cL_law 1175 = .ok (.iaload, 1) := by decide +kernel
theorem dL_law_1176 : decode cL_law 1176 = .ok (.aload_n 0, 1) := by decide +kernel
theorem dL_law_1177 : decode cL_law 1177 = .ok (.iload 4, 2) := by decide +kernel
theorem dL_law_1179 : decode cL_law 1179 = .ok (.iconst 3, 1) := by decide +kernel
theorem dL_law_1180 : decode cL_law 1180 = .ok (.iadd, 1) := by decide +kernel
theorem dL_law_1181 : decode cL_law 1181 = .ok (.iaload, 1) := by decide +kernel
theorem dL_law_1182 : decode cL_law 1182 = .ok (.invokevirtual 156, 3) := by decide +kernel
theorem dL_law_1185 : decode cL_law 1185 = .ok (.istore 6, 2) := by decide +kernel
theorem dL_law_1187 : decode cL_law 1187 = .ok (.aload_n 2, 1) := by decide +kernel
theorem dL_law_1188 : decode cL_law 1188 = .ok (.invokevirtual 98, 3) := by decide +kernel
theorem dL_law_1191 : decode cL_law 1191 = .ok (.iload 5, 2) := by decide +kernel
theorem dL_law_1193 : decode cL_law 1193 = .ok (.if_icmp .eq 5, 3) := by decide +kernel
theorem dL_law_1196 : decode cL_law 1196 = .ok (.iconst 0, 1) := by decide +kernel
theorem dL_law_1197 : decode cL_law 1197 = .ok (.ireturn, 1) := by decide +kernel
theorem dL_law_1198 : decode cL_law 1198 = .ok (.iload 5, 2) := by decide +kernel
theorem dL_law_1200 : decode cL_law 1200 = .ok (.ifCond .ne 15, 3) := by decide +kernel
theorem dL_law_1203 : decode cL_law 1203 = .ok (.aload_n 3, 1) := by decide +kernel
theorem dL_law_1204 : decode cL_law 1204 = .ok (.iconst 0, 1) := by decide +kernel
theorem dL_law_1205 : decode cL_law 1205 = .ok (.laload, 1) := by decide +kernel
theorem dL_law_1206 : decode cL_law 1206 = .ok (.iload 6, 2) := by decide +kernel
theorem dL_law_1208 : decode cL_law 1208 = .ok (.i2l, 1) := by decide +kernel
theorem dL_law_1209 : decode cL_law 1209 = .ok (.lcmp, 1) := by decide +kernel
theorem dL_law_1210 : decode cL_law 1210 = .ok (.ifCond .eq 5, 3) := by decide +kernel
theorem dL_law_1213 : decode cL_law 1213 = .ok (.iconst 0, 1) := by decide +kernel
theorem dL_law_1214 : decode cL_law 1214 = .ok (.ireturn, 1) := by decide +kernel
theorem dL_law_1215 : decode cL_law 1215 = .ok (.goto 511, 3) := by decide +kernel
theorem dL_law_1218 : decode cL_law 1218 = .ok (.aload_n 1, 1) := by decide +kernel
theorem dL_law_1219 : decode cL_law 1219 = .ok (.aload_n 0, 1) := by decide +kernel
theorem dL_law_1220 : decode cL_law 1220 = .ok (.iload 4, 2) := by decide +kernel
theorem dL_law_1222 : decode cL_law 1222 = .ok (.iconst 1, 1) := by decide +kernel
theorem dL_law_1223 : decode cL_law 1223 = .ok (.iadd, 1) := by decide +kernel
theorem dL_law_1224 : decode cL_law 1224 = .ok (.iaload, 1) := by decide +kernel
theorem dL_law_1225 : decode cL_law 1225 = .ok (.aload_n 3, 1) := by decide +kernel
theorem dL_law_1226 : decode cL_law 1226 = .ok (.invokestatic 157, 3) := by decide +kernel
theorem dL_law_1229 : decode cL_law 1229 = .ok (.istore 5, 2) := by decide +kernel
theorem dL_law_1231 : decode cL_law 1231 = .ok (.aload_n 2, 1) := by decide +kernel
theorem dL_law_1232 : decode cL_law 1232 = .ok (.aload_n 0, 1) := by decide +kernel
theorem dL_law_1233 : decode cL_law 1233 = .ok (.iload 4, 2) := by decide +kernel
theorem dL_law_1235 : decode cL_law 1235 = .ok (.iconst 1, 1) := by decide +kernel
theorem dL_law_1236 : decode cL_law 1236 = .ok (.iadd, 1) := by decide +kernel
theorem dL_law_1237 : decode cL_law 1237 = .ok (.iaload, 1) := by decide +kernel
theorem dL_law_1238 : decode cL_law 1238 = .ok (.invokevirtual 159, 3) := by decide +kernel
theorem dL_law_1241 : decode cL_law 1241 = .ok (.istore 6, 2) := by decide +kernel
theorem dL_law_1243 : decode cL_law 1243 = .ok (.aload_n 2, 1) := by decide +kernel
theorem dL_law_1244 : decode cL_law 1244 = .ok (.invokevirtual 98, 3) := by decide +kernel
theorem dL_law_1247 : decode cL_law 1247 = .ok (.iload 5, 2) := by decide +kernel
theorem dL_law_1249 : decode cL_law 1249 = .ok (.if_icmp .eq 5, 3) := by decide +kernel
theorem dL_law_1252 : decode cL_law 1252 = .ok (.iconst 0, 1) := by decide +kernel
theorem dL_law_1253 : decode cL_law 1253 = .ok (.ireturn, 1) := by decide +kernel
theorem dL_law_1254 : decode cL_law 1254 = .ok (.iload 5, 2) := by decide +kernel
theorem dL_law_1256 : decode cL_law 1256 = .ok (.ifCond .ne 15, 3) := by decide +kernel
theorem dL_law_1259 : decode cL_law 1259 = .ok (.aload_n 3, 1) := by decide +kernel
theorem dL_law_1260 : decode cL_law 1260 = .ok (.iconst 0, 1) := by decide +kernel
theorem dL_law_1261 : decode cL_law 1261 = .ok (.laload, 1) := by decide +kernel
theorem dL_law_1262 : decode cL_law 1262 = .ok (.iload 6, 2) := by decide +kernel
theorem dL_law_1264 : decode cL_law 1264 = .ok (.i2l, 1) := by decide +kernel
theorem dL_law_1265 : decode cL_law 1265 = .ok (.lcmp, 1) := by decide +kernel
theorem dL_law_1266 : decode cL_law 1266 = .ok (.ifCond .eq 5, 3) := by decide +kernel
theorem dL_law_1269 : decode cL_law 1269 = .ok (.iconst 0, 1) := by decide +kernel
theorem dL_law_1270 : decode cL_law 1270 = .ok (.ireturn, 1) := by decide +kernel
theorem dL_law_1271 : decode cL_law 1271 = .ok (.goto 455, 3) := by decide +kernel
theorem dL_law_1274 : decode cL_law 1274 = .ok (.aload_n 1, 1) := by decide +kernel
theorem dL_law_1275 : decode cL_law 1275 = .ok (.aload_n 0, 1) := by decide +kernel
theorem dL_law_1276 : decode cL_law 1276 = .ok (.iload 4, 2) := by decide +kernel
theorem dL_law_1278 : decode cL_law 1278 = .ok (.iconst 1, 1) := by decide +kernel
theorem dL_law_1279 : decode cL_law 1279 = .ok (.iadd, 1) := by decide +kernel
theorem dL_law_1280 : decode cL_law 1280 = .ok (.iaload, 1) := by decide +kernel
theorem dL_law_1281 : decode cL_law 1281 = .ok (.aload_n 3, 1) := by decide +kernel
theorem dL_law_1282 : decode cL_law 1282 = .ok (.invokestatic 160, 3) := by decide +kernel
theorem dL_law_1285 : decode cL_law 1285 = .ok (.istore 5, 2) := by decide +kernel
theorem dL_law_1287 : decode cL_law 1287 = .ok (.aload_n 2, 1) := by decide +kernel
theorem dL_law_1288 : decode cL_law 1288 = .ok (.aload_n 0, 1) := by decide +kernel
theorem dL_law_1289 : decode cL_law 1289 = .ok (.iload 4, 2) := by decide +kernel
theorem dL_law_1291 : decode cL_law 1291 = .ok (.iconst 1, 1) := by decide +kernel
theorem dL_law_1292 : decode cL_law 1292 = .ok (.iadd, 1) := by decide +kernel
theorem dL_law_1293 : decode cL_law 1293 = .ok (.iaload, 1) := by decide +kernel
theorem dL_law_1294 : decode cL_law 1294 = .ok (.invokevirtual 162, 3) := by decide +kernel
theorem dL_law_1297 : decode cL_law 1297 = .ok (.istore 6, 2) := by decide +kernel
theorem dL_law_1299 : decode cL_law 1299 = .ok (.aload_n 2, 1) := by decide +kernel
theorem dL_law_1300 : decode cL_law 1300 = .ok (.invokevirtual 98, 3) := by decide +kernel
theorem dL_law_1303 : decode cL_law 1303 = .ok (.iload 5, 2) := by decide +kernel
theorem dL_law_1305 : decode cL_law 1305 = .ok (.if_icmp .eq 5, 3) := by decide +kernel
theorem dL_law_1308 : decode cL_law 1308 = .ok (.iconst 0, 1) := by decide +kernel
theorem dL_law_1309 : decode cL_law 1309 = .ok (.ireturn, 1) := by decide +kernel
theorem dL_law_1310 : decode cL_law 1310 = .ok (.iload 5, 2) := by decide +kernel
theorem dL_law_1312 : decode cL_law 1312 = .ok (.ifCond .ne 15, 3) := by decide +kernel
theorem dL_law_1315 : decode cL_law 1315 = .ok (.aload_n 3, 1) := by decide +kernel
theorem dL_law_1316 : decode cL_law 1316 = .ok (.iconst 0, 1) := by decide +kernel
theorem dL_law_1317 : decode cL_law 1317 = .ok (.laload, 1) := by decide +kernel
theorem dL_law_1318 : decode cL_law 1318 = .ok (.iload 6, 2) := by decide +kernel
theorem dL_law_1320 : decode cL_law 1320 = .ok (.i2l, 1) := by decide +kernel
theorem dL_law_1321 : decode cL_law 1321 = .ok (.lcmp, 1) := by decide +kernel
theorem dL_law_1322 : decode cL_law 1322 = .ok (.ifCond .eq 5, 3) := by decide +kernel
theorem dL_law_1325 : decode cL_law 1325 = .ok (.iconst 0, 1) := by decide +kernel
theorem dL_law_1326 : decode cL_law 1326 = .ok (.ireturn, 1) := by decide +kernel
theorem dL_law_1327 : decode cL_law 1327 = .ok (.goto 399, 3) := by decide +kernel
theorem dL_law_1330 : decode cL_law 1330 = .ok (.aload_n 1, 1) := by decide +kernel
theorem dL_law_1331 : decode cL_law 1331 = .ok (.aload_n 0, 1) := by decide +kernel
theorem dL_law_1332 : decode cL_law 1332 = .ok (.iload 4, 2) := by decide +kernel
theorem dL_law_1334 : decode cL_law 1334 = .ok (.iconst 1, 1) := by decide +kernel
theorem dL_law_1335 : decode cL_law 1335 = .ok (.iadd, 1) := by decide +kernel
theorem dL_law_1336 : decode cL_law 1336 = .ok (.iaload, 1) := by decide +kernel
theorem dL_law_1337 : decode cL_law 1337 = .ok (.aload_n 0, 1) := by decide +kernel
theorem dL_law_1338 : decode cL_law 1338 = .ok (.iload 4, 2) := by decide +kernel
theorem dL_law_1340 : decode cL_law 1340 = .ok (.iconst 2, 1) := by decide +kernel
theorem dL_law_1341 : decode cL_law 1341 = .ok (.iadd, 1) := by decide +kernel
theorem dL_law_1342 : decode cL_law 1342 = .ok (.iaload, 1) := by decide +kernel
theorem dL_law_1343 : decode cL_law 1343 = .ok (.aload_n 0, 1) := by decide +kernel
theorem dL_law_1344 : decode cL_law 1344 = .ok (.iload 4, 2) := by decide +kernel
theorem dL_law_1346 : decode cL_law 1346 = .ok (.iconst 3, 1) := by decide +kernel
theorem dL_law_1347 : decode cL_law 1347 = .ok (.iadd, 1) := by decide +kernel
theorem dL_law_1348 : decode cL_law 1348 = .ok (.iaload, 1) := by decide +kernel
theorem dL_law_1349 : decode cL_law 1349 = .ok (.aload_n 3, 1) := by decide +kernel
theorem dL_law_1350 : decode cL_law 1350 = .ok (.invokestatic 163, 3) := by decide +kernel
theorem dL_law_1353 : decode cL_law 1353 = .ok (.istore 5, 2) := by decide +kernel
theorem dL_law_1355 : decode cL_law 1355 = .ok (.aload_n 2, 1) := by decide +kernel
theorem dL_law_1356 : decode cL_law 1356 = .ok (.aload_n 0, 1) := by decide +kernel
theorem dL_law_1357 : decode cL_law 1357 = .ok (.iload 4, 2) := by decide +kernel
theorem dL_law_1359 : decode cL_law 1359 = .ok (.iconst 1, 1) := by decide +kernel
theorem dL_law_1360 : decode cL_law 1360 = .ok (.iadd, 1) := by decide +kernel
theorem dL_law_1361 : decode cL_law 1361 = .ok (.iaload, 1) := by decide +kernel
theorem dL_law_1362 : decode cL_law 1362 = .ok (.aload_n 0, 1) := by decide +kernel
theorem dL_law_1363 : decode cL_law 1363 = .ok (.iload 4, 2) := by decide +kernel
theorem dL_law_1365 : decode cL_law 1365 = .ok (.iconst 2, 1) := by decide +kernel
theorem dL_law_1366 : decode cL_law 1366 = .ok (.iadd, 1) := by decide +kernel
theorem dL_law_1367 : decode cL_law 1367 = .ok (.iaload, 1) := by decide +kernel
theorem dL_law_1368 : decode cL_law 1368 = .ok (.aload_n 0, 1) := by decide +kernel
theorem dL_law_1369 : decode cL_law 1369 = .ok (.iload 4, 2) := by decide +kernel
theorem dL_law_1371 : decode cL_law 1371 = .ok (.iconst 3, 1) := by decide +kernel
theorem dL_law_1372 : decode cL_law 1372 = .ok (.iadd, 1) := by decide +kernel
theorem dL_law_1373 : decode cL_law 1373 = .ok (.iaload, 1) := by decide +kernel
theorem dL_law_1374 : decode cL_law 1374 = .ok (.invokevirtual 165, 3) := by decide +kernel
theorem dL_law_1377 : decode cL_law 1377 = .ok (.istore 6, 2) := by decide +kernel
theorem dL_law_1379 : decode cL_law 1379 = .ok (.aload_n 2, 1) := by decide +kernel
theorem dL_law_1380 : decode cL_law 1380 = .ok (.invokevirtual 98, 3) := by decide +kernel
theorem dL_law_1383 : decode cL_law 1383 = .ok (.iload 5, 2) := by decide +kernel
theorem dL_law_1385 : decode cL_law 1385 = .ok (.if_icmp .eq 5, 3) := by decide +kernel
theorem dL_law_1388 : decode cL_law 1388 = .ok (.iconst 0, 1) := by decide +kernel
theorem dL_law_1389 : decode cL_law 1389 = .ok (.ireturn, 1) := by decide +kernel
theorem dL_law_1390 : decode cL_law 1390 = .ok (.iload 5, 2) := by decide +kernel
theorem dL_law_1392 : decode cL_law 1392 = .ok (.ifCond .ne 15, 3) := by decide +kernel
theorem dL_law_1395 : decode cL_law 1395 = .ok (.aload_n 3, 1) := by decide +kernel
theorem dL_law_1396 : decode cL_law 1396 = .ok (.iconst 0, 1) := by decide +kernel
theorem dL_law_1397 : decode cL_law 1397 = .ok (.laload, 1) := by decide +kernel
theorem dL_law_1398 : decode cL_law 1398 = .ok (.iload 6, 2) := by decide +kernel
theorem dL_law_1400 : decode cL_law 1400 = .ok (.i2l, 1) := by decide +kernel
theorem dL_law_1401 : decode cL_law 1401 = .ok (.lcmp, 1) := by decide +kernel
theorem dL_law_1402 : decode cL_law 1402 = .ok (.ifCond .eq 5, 3) := by decide +kernel
theorem dL_law_1405 : decode cL_law 1405 = .ok (.iconst 0, 1) := by decide +kernel
theorem dL_law_1406 : decode cL_law 1406 = .ok (.ireturn, 1) := by decide +kernel
theorem dL_law_1407 : decode cL_law 1407 = .ok (.goto 319, 3) := by decide +kernel
theorem dL_law_1410 : decode cL_law 1410 = .ok (.aload_n 1, 1) := by decide +kernel
theorem dL_law_1411 : decode cL_law 1411 = .ok (.aload_n 0, 1) := by decide +kernel
theorem dL_law_1412 : decode cL_law 1412 = .ok (.iload 4, 2) := by decide +kernel
theorem dL_law_1414 : decode cL_law 1414 = .ok (.iconst 1, 1) := by decide +kernel
theorem dL_law_1415 : decode cL_law 1415 = .ok (.iadd, 1) := by decide +kernel
theorem dL_law_1416 : decode cL_law 1416 = .ok (.iaload, 1) := by decide +kernel
theorem dL_law_1417 : decode cL_law 1417 = .ok (.aload_n 0, 1) := by decide +kernel
theorem dL_law_1418 : decode cL_law 1418 = .ok (.iload 4, 2) := by decide +kernel
theorem dL_law_1420 : decode cL_law 1420 = .ok (.iconst 2, 1) := by decide +kernel
theorem dL_law_1421 : decode cL_law 1421 = .ok (.iadd, 1) := by decide +kernel
theorem dL_law_1422 : decode cL_law 1422 = .ok (.iaload, 1) := by decide +kernel
theorem dL_law_1423 : decode cL_law 1423 = .ok (.aload_n 3, 1) := by decide +kernel
theorem dL_law_1424 : decode cL_law 1424 = .ok (.invokestatic 166, 3) := by decide +kernel
theorem dL_law_1427 : decode cL_law 1427 = .ok (.istore 5, 2) := by decide +kernel
theorem dL_law_1429 : decode cL_law 1429 = .ok (.aload_n 2, 1) := by decide +kernel
theorem dL_law_1430 : decode cL_law 1430 = .ok (.aload_n 0, 1) := by decide +kernel
theorem dL_law_1431 : decode cL_law 1431 = .ok (.iload 4, 2) := by decide +kernel
theorem dL_law_1433 : decode cL_law 1433 = .ok (.iconst 1, 1) := by decide +kernel
theorem dL_law_1434 : decode cL_law 1434 = .ok (.iadd, 1) := by decide +kernel
theorem dL_law_1435 : decode cL_law 1435 = .ok (.iaload, 1) := by decide +kernel
theorem dL_law_1436 : decode cL_law 1436 = .ok (.aload_n 0, 1) := by decide +kernel
theorem dL_law_1437 : decode cL_law 1437 = .ok (.iload 4, 2) := by decide +kernel
theorem dL_law_1439 : decode cL_law 1439 = .ok (.iconst 2, 1) := by decide +kernel
theorem dL_law_1440 : decode cL_law 1440 = .ok (.iadd, 1) := by decide +kernel
theorem dL_law_1441 : decode cL_law 1441 = .ok (.iaload, 1) := by decide +kernel
theorem dL_law_1442 : decode cL_law 1442 = .ok (.invokevirtual 168, 3) := by decide +kernel
theorem dL_law_1445 : decode cL_law 1445 = .ok (.istore 6, 2) := by decide +kernel
theorem dL_law_1447 : decode cL_law 1447 = .ok (.aload_n 2, 1) := by decide +kernel
theorem dL_law_1448 : decode cL_law 1448 = .ok (.invokevirtual 98, 3) := by decide +kernel
theorem dL_law_1451 : decode cL_law 1451 = .ok (.iload 5, 2) := by decide +kernel
theorem dL_law_1453 : decode cL_law 1453 = .ok (.if_icmp .eq 5, 3) := by decide +kernel
theorem dL_law_1456 : decode cL_law 1456 = .ok (.iconst 0, 1) := by decide +kernel
theorem dL_law_1457 : decode cL_law 1457 = .ok (.ireturn, 1) := by decide +kernel
theorem dL_law_1458 : decode cL_law 1458 = .ok (.iload 5, 2) := by decide +kernel
theorem dL_law_1460 : decode cL_law 1460 = .ok (.ifCond .ne 15, 3) := by decide +kernel
theorem dL_law_1463 : decode cL_law 1463 = .ok (.aload_n 3, 1) := by decide +kernel
theorem dL_law_1464 : decode cL_law 1464 = .ok (.iconst 0, 1) := by decide +kernel
theorem dL_law_1465 : decode cL_law 1465 = .ok (.laload, 1) := by decide +kernel
theorem dL_law_1466 : decode cL_law 1466 = .ok (.iload 6, 2) := by decide +kernel
theorem dL_law_1468 : decode cL_law 1468 = .ok (.i2l, 1) := by decide +kernel
theorem dL_law_1469 : decode cL_law 1469 = .ok (.lcmp, 1) := by decide +kernel
theorem dL_law_1470 : decode cL_law 1470 = .ok (.ifCond .eq 5, 3) := by decide +kernel
theorem dL_law_1473 : decode cL_law 1473 = .ok (.iconst 0, 1) := by decide +kernel
theorem dL_law_1474 : decode cL_law 1474 = .ok (.ireturn, 1) := by decide +kernel
theorem dL_law_1475 : decode cL_law 1475 = .ok (.goto 251, 3) := by decide +kernel
theorem dL_law_1478 : decode cL_law 1478 = .ok (.aload_n 1, 1) := by decide +kernel
theorem dL_law_1479 : decode cL_law 1479 = .ok (.aload_n 0, 1) := by decide +kernel
theorem dL_law_1480 : decode cL_law 1480 = .ok (.iload 4, 2) := by decide +kernel
theorem dL_law_1482 : decode cL_law 1482 = .ok (.iconst 1, 1) := by decide +kernel
theorem dL_law_1483 : decode cL_law 1483 = .ok (.iadd, 1) := by decide +kernel
theorem dL_law_1484 : decode cL_law 1484 = .ok (.iaload, 1) := by decide +kernel
theorem dL_law_1485 : decode cL_law 1485 = .ok (.aload_n 3, 1) := by decide +kernel
theorem dL_law_1486 : decode cL_law 1486 = .ok (.invokestatic 169, 3) := by decide +kernel
theorem dL_law_1489 : decode cL_law 1489 = .ok (.istore 5, 2) := by decide +kernel
theorem dL_law_1491 : decode cL_law 1491 = .ok (.aload_n 2, 1) := by decide +kernel
theorem dL_law_1492 : decode cL_law 1492 = .ok (.aload_n 0, 1) := by decide +kernel
theorem dL_law_1493 : decode cL_law 1493 = .ok (.iload 4, 2) := by decide +kernel
theorem dL_law_1495 : decode cL_law 1495 = .ok (.iconst 1, 1) := by decide +kernel
theorem dL_law_1496 : decode cL_law 1496 = .ok (.iadd, 1) := by decide +kernel
theorem dL_law_1497 : decode cL_law 1497 = .ok (.iaload, 1) := by decide +kernel
theorem dL_law_1498 : decode cL_law 1498 = .ok (.invokevirtual 171, 3) := by decide +kernel
theorem dL_law_1501 : decode cL_law 1501 = .ok (.istore 6, 2) := by decide +kernel
theorem dL_law_1503 : decode cL_law 1503 = .ok (.aload_n 2, 1) := by decide +kernel
theorem dL_law_1504 : decode cL_law 1504 = .ok (.invokevirtual 98, 3) := by decide +kernel
theorem dL_law_1507 : decode cL_law 1507 = .ok (.iload 5, 2) := by decide +kernel
theorem dL_law_1509 : decode cL_law 1509 = .ok (.if_icmp .eq 5, 3) := by decide +kernel
theorem dL_law_1512 : decode cL_law 1512 = .ok (.iconst 0, 1) := by decide +kernel
theorem dL_law_1513 : decode cL_law 1513 = .ok (.ireturn, 1) := by decide +kernel
theorem dL_law_1514 : decode cL_law 1514 = .ok (.iload 5, 2) := by decide +kernel
theorem dL_law_1516 : decode cL_law 1516 = .ok (.ifCond .ne 15, 3) := by decide +kernel
theorem dL_law_1519 : decode cL_law 1519 = .ok (.aload_n 3, 1) := by decide +kernel
theorem dL_law_1520 : decode cL_law 1520 = .ok (.iconst 0, 1) := by decide +kernel
theorem dL_law_1521 : decode cL_law 1521 = .ok (.laload, 1) := by decide +kernel
theorem dL_law_1522 : decode cL_law 1522 = .ok (.iload 6, 2) := by decide +kernel
theorem dL_law_1524 : decode cL_law 1524 = .ok (.i2l, 1) := by decide +kernel
theorem dL_law_1525 : decode cL_law 1525 = .ok (.lcmp, 1) := by decide +kernel
theorem dL_law_1526 : decode cL_law 1526 = .ok (.ifCond .eq 5, 3) := by decide +kernel
theorem dL_law_1529 : decode cL_law 1529 = .ok (.iconst 0, 1) := by decide +kernel
theorem dL_law_1530 : decode cL_law 1530 = .ok (.ireturn, 1) := by decide +kernel
theorem dL_law_1531 : decode cL_law 1531 = .ok (.goto 195, 3) := by decide +kernel
theorem dL_law_1534 : decode cL_law 1534 = .ok (.aload_n 1, 1) := by decide +kernel
theorem dL_law_1535 : decode cL_law 1535 = .ok (.aload_n 0, 1) := by decide +kernel
theorem dL_law_1536 : decode cL_law 1536 = .ok (.iload 4, 2) := by decide +kernel
theorem dL_law_1538 : decode cL_law 1538 = .ok (.iconst 1, 1) := by decide +kernel
theorem dL_law_1539 : decode cL_law 1539 = .ok (.iadd, 1) := by decide +kernel
theorem dL_law_1540 : decode cL_law 1540 = .ok (.iaload, 1) := by decide +kernel
theorem dL_law_1541 : decode cL_law 1541 = .ok (.aload_n 3, 1) := by decide +kernel
theorem dL_law_1542 : decode cL_law 1542 = .ok (.invokestatic 172, 3) := by decide +kernel
theorem dL_law_1545 : decode cL_law 1545 = .ok (.istore 5, 2) := by decide +kernel
theorem dL_law_1547 : decode cL_law 1547 = .ok (.aload_n 2, 1) := by decide +kernel
theorem dL_law_1548 : decode cL_law 1548 = .ok (.aload_n 0, 1) := by decide +kernel
theorem dL_law_1549 : decode cL_law 1549 = .ok (.iload 4, 2) := by decide +kernel
theorem dL_law_1551 : decode cL_law 1551 = .ok (.iconst 1, 1) := by decide +kernel
theorem dL_law_1552 : decode cL_law 1552 = .ok (.iadd, 1) := by decide +kernel
theorem dL_law_1553 : decode cL_law 1553 = .ok (.iaload, 1) := by decide +kernel
theorem dL_law_1554 : decode cL_law 1554 = .ok (.invokevirtual 174, 3) := by decide +kernel
theorem dL_law_1557 : decode cL_law 1557 = .ok (.istore 6, 2) := by decide +kernel
theorem dL_law_1559 : decode cL_law 1559 = .ok (.aload_n 2, 1) := by decide +kernel
theorem dL_law_1560 : decode cL_law 1560 = .ok (.invokevirtual 98, 3) := by decide +kernel
theorem dL_law_1563 : decode cL_law 1563 = .ok (.iload 5, 2) := by decide +kernel
theorem dL_law_1565 : decode cL_law 1565 = .ok (.if_icmp .eq 5, 3) := by decide +kernel
theorem dL_law_1568 : decode cL_law 1568 = .ok (.iconst 0, 1) := by decide +kernel
theorem dL_law_1569 : decode cL_law 1569 = .ok (.ireturn, 1) := by decide +kernel
theorem dL_law_1570 : decode cL_law 1570 = .ok (.iload 5, 2) := by decide +kernel
theorem dL_law_1572 : decode cL_law 1572 = .ok (.ifCond .ne 15, 3) := by decide +kernel
theorem dL_law_1575 : decode cL_law 1575 = .ok (.aload_n 3, 1) := by decide +kernel
theorem dL_law_1576 : decode cL_law 1576 = .ok (.iconst 0, 1) := by decide +kernel
theorem dL_law_1577 : decode cL_law 1577 = .ok (.laload, 1) := by decide +kernel
theorem dL_law_1578 : decode cL_law 1578 = .ok (.iload 6, 2) := by decide +kernel
theorem dL_law_1580 : decode cL_law 1580 = .ok (.i2l, 1) := by decide +kernel
theorem dL_law_1581 : decode cL_law 1581 = .ok (.lcmp, 1) := by decide +kernel
theorem dL_law_1582 : decode cL_law 1582 = .ok (.ifCond .eq 5, 3) := by decide +kernel
theorem dL_law_1585 : decode cL_law 1585 = .ok (.iconst 0, 1) := by decide +kernel
theorem dL_law_1586 : decode cL_law 1586 = .ok (.ireturn, 1) := by decide +kernel
theorem dL_law_1587 : decode cL_law 1587 = .ok (.goto 139, 3) := by decide +kernel
theorem dL_law_1590 : decode cL_law 1590 = .ok (.aload_n 1, 1) := by decide +kernel
theorem dL_law_1591 : decode cL_law 1591 = .ok (.invokevirtual 175, 3) := by decide +kernel
theorem dL_law_1594 : decode cL_law 1594 = .ok (.aload_n 2, 1) := by decide +kernel
theorem dL_law_1595 : decode cL_law 1595 = .ok (.invokevirtual 178, 3) := by decide +kernel
theorem dL_law_1598 : decode cL_law 1598 = .ok (.if_icmp .eq 128, 3) := by decide +kernel
theorem dL_law_1601 : decode cL_law 1601 = .ok (.iconst 0, 1) := by decide +kernel
theorem dL_law_1602 : decode cL_law 1602 = .ok (.ireturn, 1) := by decide +kernel
theorem dL_law_1603 : decode cL_law 1603 = .ok (.aload_n 1, 1) := by decide +kernel
theorem dL_law_1604 : decode cL_law 1604 = .ok (.aload_n 0, 1) := by decide +kernel
theorem dL_law_1605 : decode cL_law 1605 = .ok (.iload 4, 2) := by decide +kernel
theorem dL_law_1607 : decode cL_law 1607 = .ok (.iconst 1, 1) := by decide +kernel
theorem dL_law_1608 : decode cL_law 1608 = .ok (.iadd, 1) := by decide +kernel
theorem dL_law_1609 : decode cL_law 1609 = .ok (.iaload, 1) := by decide +kernel
theorem dL_law_1610 : decode cL_law 1610 = .ok (.aload_n 0, 1) := by decide +kernel
theorem dL_law_1611 : decode cL_law 1611 = .ok (.iload 4, 2) := by decide +kernel
theorem dL_law_1613 : decode cL_law 1613 = .ok (.iconst 2, 1) := by decide +kernel
theorem dL_law_1614 : decode cL_law 1614 = .ok (.iadd, 1) := by decide +kernel
theorem dL_law_1615 : decode cL_law 1615 = .ok (.iaload, 1) := by decide +kernel
theorem dL_law_1616 : decode cL_law 1616 = .ok (.aload_n 3, 1) := by decide +kernel
theorem dL_law_1617 : decode cL_law 1617 = .ok (.invokestatic 179, 3) := by decide +kernel
theorem dL_law_1620 : decode cL_law 1620 = .ok (.istore 5, 2) := by decide +kernel
theorem dL_law_1622 : decode cL_law 1622 = .ok (.aload_n 2, 1) := by decide +kernel
theorem dL_law_1623 : decode cL_law 1623 = .ok (.aload_n 0, 1) := by decide +kernel
theorem dL_law_1624 : decode cL_law 1624 = .ok (.iload 4, 2) := by decide +kernel
theorem dL_law_1626 : decode cL_law 1626 = .ok (.iconst 1, 1) := by decide +kernel
theorem dL_law_1627 : decode cL_law 1627 = .ok (.iadd, 1) := by decide +kernel
theorem dL_law_1628 : decode cL_law 1628 = .ok (.iaload, 1) := by decide +kernel
theorem dL_law_1629 : decode cL_law 1629 = .ok (.aload_n 0, 1) := by decide +kernel
theorem dL_law_1630 : decode cL_law 1630 = .ok (.iload 4, 2) := by decide +kernel
theorem dL_law_1632 : decode cL_law 1632 = .ok (.iconst 2, 1) := by decide +kernel
theorem dL_law_1633 : decode cL_law 1633 = .ok (.iadd, 1) := by decide +kernel
theorem dL_law_1634 : decode cL_law 1634 = .ok (.iaload, 1) := by decide +kernel
theorem dL_law_1635 : decode cL_law 1635 = .ok (.invokevirtual 181, 3) := by decide +kernel
theorem dL_law_1638 : decode cL_law 1638 = .ok (.istore 6, 2) := by decide +kernel
theorem dL_law_1640 : decode cL_law 1640 = .ok (.aload_n 2, 1) := by decide +kernel
theorem dL_law_1641 : decode cL_law 1641 = .ok (.invokevirtual 98, 3) := by decide +kernel
theorem dL_law_1644 : decode cL_law 1644 = .ok (.iload 5, 2) := by decide +kernel
theorem dL_law_1646 : decode cL_law 1646 = .ok (.if_icmp .eq 5, 3) := by decide +kernel
theorem dL_law_1649 : decode cL_law 1649 = .ok (.iconst 0, 1) := by decide +kernel
theorem dL_law_1650 : decode cL_law 1650 = .ok (.ireturn, 1) := by decide +kernel
theorem dL_law_1651 : decode cL_law 1651 = .ok (.iload 5, 2) := by decide +kernel
theorem dL_law_1653 : decode cL_law 1653 = .ok (.ifCond .ne 15, 3) := by decide +kernel
theorem dL_law_1656 : decode cL_law 1656 = .ok (.aload_n 3, 1) := by decide +kernel
theorem dL_law_1657 : decode cL_law 1657 = .ok (.iconst 0, 1) := by decide +kernel
theorem dL_law_1658 : decode cL_law 1658 = .ok (.laload, 1) := by decide +kernel
theorem dL_law_1659 : decode cL_law 1659 = .ok (.iload 6, 2) := by decide +kernel
theorem dL_law_1661 : decode cL_law 1661 = .ok (.i2l, 1) := by decide +kernel
theorem dL_law_1662 : decode cL_law 1662 = .ok (.lcmp, 1) := by decide +kernel
theorem dL_law_1663 : decode cL_law 1663 = .ok (.ifCond .eq 5, 3) := by decide +kernel
theorem dL_law_1666 : decode cL_law 1666 = .ok (.iconst 0, 1) := by decide +kernel
theorem dL_law_1667 : decode cL_law 1667 = .ok (.ireturn, 1) := by decide +kernel
theorem dL_law_1668 : decode cL_law 1668 = .ok (.goto 58, 3) := by decide +kernel
theorem dL_law_1671 : decode cL_law 1671 = .ok (.aload_n 1, 1) := by decide +kernel
theorem dL_law_1672 : decode cL_law 1672 = .ok (.invokevirtual 182, 3) := by decide +kernel
theorem dL_law_1675 : decode cL_law 1675 = .ok (.dstore 5, 2) := by decide +kernel
theorem dL_law_1677 : decode cL_law 1677 = .ok (.aload_n 2, 1) := by decide +kernel
theorem dL_law_1678 : decode cL_law 1678 = .ok (.invokevirtual 186, 3) := by decide +kernel
theorem dL_law_1681 : decode cL_law 1681 = .ok (.dstore 7, 2) := by decide +kernel
theorem dL_law_1683 : decode cL_law 1683 = .ok (.dload 5, 2) := by decide +kernel
theorem dL_law_1685 : decode cL_law 1685 = .ok (.dload 7, 2) := by decide +kernel
theorem dL_law_1687 : decode cL_law 1687 = .ok (.dcmp .l, 1) := by decide +kernel
theorem dL_law_1688 : decode cL_law 1688 = .ok (.ifCond .eq 21, 3) := by decide +kernel
theorem dL_law_1691 : decode cL_law 1691 = .ok (.dload 5, 2) := by decide +kernel
theorem dL_law_1693 : decode cL_law 1693 = .ok (.dload 5, 2) := by decide +kernel
theorem dL_law_1695 : decode cL_law 1695 = .ok (.dcmp .l, 1) := by decide +kernel
theorem dL_law_1696 : decode cL_law 1696 = .ok (.ifCond .eq 11, 3) := by decide +kernel
theorem dL_law_1699 : decode cL_law 1699 = .ok (.dload 7, 2) := by decide +kernel
theorem dL_law_1701 : decode cL_law 1701 = .ok (.dload 7, 2) := by decide +kernel
theorem dL_law_1703 : decode cL_law 1703 = .ok (.dcmp .l, 1) := by decide +kernel
theorem dL_law_1704 : decode cL_law 1704 = .ok (.ifCond .ne 5, 3) := by decide +kernel
theorem dL_law_1707 : decode cL_law 1707 = .ok (.iconst 0, 1) := by decide +kernel
theorem dL_law_1708 : decode cL_law 1708 = .ok (.ireturn, 1) := by decide +kernel
theorem dL_law_1709 : decode cL_law 1709 = .ok (.goto 17, 3) := by decide +kernel
theorem dL_law_1712 : decode cL_law 1712 = .ok (.aload_n 1, 1) := by decide +kernel
theorem dL_law_1713 : decode cL_law 1713 = .ok (.invokevirtual 187, 3) := by decide +kernel
theorem dL_law_1716 : decode cL_law 1716 = .ok (.aload_n 2, 1) := by decide +kernel
theorem dL_law_1717 : decode cL_law 1717 = .ok (.invokevirtual 191, 3) := by decide +kernel
theorem dL_law_1720 : decode cL_law 1720 = .ok (.lcmp, 1) := by decide +kernel
theorem dL_law_1721 : decode cL_law 1721 = .ok (.ifCond .eq 5, 3) := by decide +kernel
theorem dL_law_1724 : decode cL_law 1724 = .ok (.iconst 0, 1) := by decide +kernel
theorem dL_law_1725 : decode cL_law 1725 = .ok (.ireturn, 1) := by decide +kernel
theorem dL_law_1726 : decode cL_law 1726 = .ok (.iinc 4 4, 3) := by decide +kernel
theorem dL_law_1729 : decode cL_law 1729 = .ok (.goto (-1706), 3) := by decide +kernel
theorem dL_law_1732 : decode cL_law 1732 = .ok (.iconst 1, 1) := by decide +kernel
theorem dL_law_1733 : decode cL_law 1733 = .ok (.ireturn, 1) := by decide +kernel
end
section
/-! ===== the words that every method may use: the good ones of the table ===== -/
def UW : List Cond := lw_tbl.filter goodWord
theorem UW_good {w : Cond} (h : w ∈ UW) : (w.onTables && w.keeps) = true ∨ ∃ ty, w = .arrayClass ty := good_of_word (List.mem_filter.mp h).2
theorem tb_in {w : Cond} (i : Nat) (h : tables_1[i]? = some w) (hg : goodWord w = true) : w ∈ UW :=
  List.mem_filter.mpr ⟨List.mem_append_right _ (List.mem_of_getElem? h), hg⟩
theorem sel_in {y : MethodName} {n : Nat} (i : Nat) (h : lw_privs[i]? = some (y, n)) : Cond.selects y.cls y y ∈ UW :=
  List.mem_filter.mpr ⟨List.mem_append_left _ (List.mem_map.mpr ⟨(y, n), List.mem_of_getElem? h, rfl⟩), rfl⟩
/-! ===== the memory: cells by kind, two numbers, place; and the longs ===== -/
abbrev Mem : Type := (Nat → Nat → Nat → Nat → Int32) × (Nat → Int64)
abbrev WG : Type := va_G × (Nat → ClassId) × (Nat → Nat → Nat → Nat)
def mset (μ : Mem) (t i p k : Nat) (v : Int32) : Mem := (fun t' i' p' k' => if t' = t ∧ i' = i ∧ p' = p ∧ k' = k then v else μ.1 t' i' p' k', μ.2)
def mlset (μ : Mem) (k : Nat) (v : Int64) : Mem := (μ.1, fun k' => if k' = k then v else μ.2 k')
abbrev adr (G : WG) (t i p : Nat) : Nat := G.2.2 t i p
def ct (G : WG) (μ : Mem) (t i p : Nat) : va_E := match t with
  | 0 => .inr (3, [.ref (adr G 4 0 0), .ref (adr G 1 0 0), .int (μ.1 0 i p 2), .int (μ.1 0 i p 3), .ref (adr G 2 0 0)])
  | 1 => .inl (G.2.1 2, 6, .inr (.inr (.inr (.inr (fun j => some (adr G 4 (j + 1) 0))))))
  | 2 => .inr (1, [.ref (adr G 3 0 0), .int (μ.1 2 i p 1), .int (μ.1 2 i p 2), .int (μ.1 2 i p 3), .int (μ.1 2 i p 4), .int (μ.1 2 i p 5), .int (μ.1 2 i p 6)])
  | 3 => .inl (G.2.1 0, 60, .inl (μ.1 3 i p))
  | 4 => .inr (0, [.int (μ.1 4 i p 0), .int (μ.1 4 i p 1), .ref (adr G 5 i 0), .ref (adr G 6 i 0), .ref (adr G 7 i 0)])
  | 5 => .inl (G.2.1 0, 4, .inl (μ.1 5 i p))
  | 6 => .inl (G.2.1 0, 4, .inl (μ.1 6 i p))
  | 7 => .inl (G.2.1 1, 6, .inr (.inr (.inr (.inr (fun j => some (adr G 8 i j))))))
  | 8 => .inr (2, [.ref (adr G 9 i p), .ref (adr G 10 i p), .ref (adr G 11 i p), .ref (adr G 12 i p), .ref (adr G 13 i p), .ref (adr G 14 i p), .int (μ.1 8 i p 6), .int (μ.1 8 i p 7), .int (μ.1 8 i p 8), .int (μ.1 8 i p 9), .int (μ.1 8 i p 10), .int (μ.1 8 i p 11), .int (μ.1 8 i p 12)])
  | 9 => .inl (G.2.1 0, 4, .inl (μ.1 9 i p))
  | 10 => .inl (G.2.1 0, 4, .inl (μ.1 10 i p))
  | 11 => .inl (G.2.1 0, 4, .inl (μ.1 11 i p))
  | 12 => .inl (G.2.1 0, 4, .inl (μ.1 12 i p))
  | 13 => .inl (G.2.1 0, 4, .inl (μ.1 13 i p))
  | 14 => .inl (G.2.1 0, 4, .inl (μ.1 14 i p))
  | 15 => .inr (4, [.ref (adr G 16 0 0), .int (μ.1 15 i p 1), .ref (adr G 17 0 0), .int (μ.1 15 i p 3), .ref (adr G 18 0 0), .int (μ.1 15 i p 5), .ref (adr G 19 0 0), .int (μ.1 15 i p 7), .int (μ.1 15 i p 8), .int (μ.1 15 i p 9), .ref (adr G 20 0 0), .long (μ.2 0)])
  | 16 => .inl (G.2.1 0, 232, .inl (μ.1 16 i p))
  | 17 => .inl (G.2.1 0, 1392, .inl (μ.1 17 i p))
  | 18 => .inl (G.2.1 0, 60, .inl (μ.1 18 i p))
  | 19 => .inl (G.2.1 0, 88, .inl (μ.1 19 i p))
  | 20 => .inl (G.2.1 0, 232, .inl (μ.1 20 i p))
  | _ => .inl (G.2.1 3, 1, .inr (.inl (fun j => μ.2 (j + 1))))
def dm (t i p : Nat) : Prop := (4 ≤ t ∧ t ≤ 7 ∧ i < 7 ∧ p = 0) ∨ (8 ≤ t ∧ t ≤ 14 ∧ i < 7 ∧ p < 6) ∨ ((t ≤ 3 ∨ (15 ≤ t ∧ t ≤ 21)) ∧ i = 0 ∧ p = 0)
def AG (G : WG) : Nat → Prop := fun q => ∃ t i p, dm t i p ∧ q = adr G t i p
def Inj (G : WG) : Prop := ∀ t i p t' i' p', dm t i p → dm t' i' p' → adr G t i p = adr G t' i' p' → t = t' ∧ i = i' ∧ p = p'
def Rep (G : WG) (μ : Mem) (H : Heap) : Prop := (∀ t i p, dm t i p → va_at G.1 vwCl (adr G t i p, ct G μ t i p) H) ∧ Inj G ∧ ∀ i p, i < 7 → p < 6 → μ.1 8 i p 12 = 0 ∨ μ.1 8 i p 12 = 1
theorem mset_ne {μ : Mem} {t i p k : Nat} {v : Int32} {t' i' p' : Nat} (h : ¬ (t' = t ∧ i' = i ∧ p' = p)) : (mset μ t i p k v).1 t' i' p' = μ.1 t' i' p' := by
  funext k'
  exact if_neg fun q => h ⟨q.1, q.2.1, q.2.2.1⟩
theorem mset_row {μ : Mem} {t i p k : Nat} {v : Int32} : (mset μ t i p k v).1 t i p = upd (μ.1 t i p) k v := by
  funext k'
  simp only [mset, upd, true_and]
theorem ct_ne {G : WG} {μ : Mem} {t i p k : Nat} {v : Int32} {t' i' p' : Nat} (h : ¬ (t' = t ∧ i' = i ∧ p' = p)) : ct G (mset μ t i p k v) t' i' p' = ct G μ t' i' p' := by
  have e := mset_ne (μ := μ) (k := k) (v := v) h
  unfold ct
  have e2 : (mset μ t i p k v).2 = μ.2 := rfl
  split <;> simp only [e, e2]
/-- one cell is written: the picture moves along -/
theorem Rep.set {G : WG} {μ : Mem} {H H' : Heap} {t i p k : Nat} {v : Int32} (h : Rep G μ H) (hd : dm t i p) (h1 : va_at G.1 vwCl (adr G t i p, ct G (mset μ t i p k v) t i p) H') (oq : ∀ q : Nat, q ≠ adr G t i p → H'[q]? = H[q]?) (hz : t = 8 → k = 12 → v = 0 ∨ v = 1) : Rep G (mset μ t i p k v) H' := by
  refine ⟨fun t' i' p' hd' => ?_, h.2.1, fun i' p' hi hp => ?_⟩
  · by_cases e : t' = t ∧ i' = i ∧ p' = p
    · obtain ⟨rfl, rfl, rfl⟩ := e
      exact h1
    · rw [ct_ne e]
      exact (h.1 t' i' p' hd').kept (oq _ fun q => e (h.2.1 _ _ _ _ _ _ hd' hd q))
  · by_cases e : 8 = t ∧ i' = i ∧ p' = p ∧ 12 = k
    · show (if 8 = t ∧ i' = i ∧ p' = p ∧ 12 = k then v else _) = 0 ∨ (if 8 = t ∧ i' = i ∧ p' = p ∧ 12 = k then v else _) = 1
      rw [if_pos e]
      exact hz e.1.symm e.2.2.2.symm
    · show (if 8 = t ∧ i' = i ∧ p' = p ∧ 12 = k then v else _) = 0 ∨ (if 8 = t ∧ i' = i ∧ p' = p ∧ 12 = k then v else _) = 1
      rw [if_neg e]
      exact h.2.2 i' p' hi hp
theorem Rep.lset {G : WG} {μ : Mem} {H H' : Heap} {t i p k : Nat} {v : Int64} (h : Rep G μ H) (hd : dm t i p) (ht : t = 15 ∧ k = 0 ∨ 21 ≤ t ∧ 1 ≤ k) (h1 : va_at G.1 vwCl (adr G t i p, ct G (mlset μ k v) t i p) H') (oq : ∀ q : Nat, q ≠ adr G t i p → H'[q]? = H[q]?) : Rep G (mlset μ k v) H' := by
  refine ⟨fun t' i' p' hd' => ?_, h.2.1, h.2.2⟩
  by_cases e : t' = t ∧ i' = i ∧ p' = p
  · obtain ⟨rfl, rfl, rfl⟩ := e
    exact h1
  · have e1 : ct G (mlset μ k v) t' i' p' = ct G μ t' i' p' := by
      unfold dm at hd hd'
      have hne : t' ≠ t := by omega
      by_cases h21 : t' = 21
      · subst h21
        have hk : k = 0 := by omega
        subst hk
        rfl
      · have hk : t' = 15 → (if 0 = k then v else μ.2 0) = μ.2 0 := fun h => if_neg (by omega)
        have hlt : t' < 21 := by omega
        match t', hk, hlt with
        | 0, _, _ | 1, _, _ | 2, _, _ | 3, _, _ | 4, _, _ | 5, _, _ | 6, _, _ | 7, _, _ | 8, _, _ | 9, _, _ | 10, _, _ | 11, _, _ | 12, _, _ | 13, _, _ | 14, _, _ | 16, _, _ | 17, _, _ | 18, _, _ | 19, _, _ | 20, _, _ => rfl
        | 15, hk, _ => simp only [ct, mlset, hk rfl]
        | n + 21, _, h9 => exact absurd h9 (by omega)
    rw [e1]
    exact (h.1 t' i' p' hd').kept (oq _ fun q => e (h.2.1 _ _ _ _ _ _ hd' hd q))
end
section
/-! ===== what holds of the tables all along ===== -/
def nwM : List (String × Nat × MethodName × String) := [("LevyPhases$Phase", 91, yX3_percentOf, "LevyPhases"), ("LevyPhases$Levy", 77, yX3_percentOf, "LevyPhases"), ("LevyPhases$Phase", 66, yX3_instalmentsFor, "LevyPhases"), ("LevyPhases$Phase", 70, yX3_partOf, "LevyPhases")]
def nwD : List MethodName := [⟨"java/lang/RuntimeException", "<init>", "()V"⟩, ⟨"java/lang/RuntimeException", "<init>", "(Ljava/lang/String;)V"⟩, ⟨"java/lang/Exception", "<init>", "()V"⟩, ⟨"java/lang/Exception", "<init>", "(Ljava/lang/String;)V"⟩, ⟨"java/lang/Throwable", "<init>", "()V"⟩, ⟨"java/lang/Throwable", "<init>", "(Ljava/lang/String;)V"⟩]
def nwC : List (String × String) := [("java/lang/IllegalArgumentException", "java/lang/IllegalArgumentException"), ("java/lang/IndexOutOfBoundsException", "java/lang/IndexOutOfBoundsException"), ("java/lang/IllegalStateException", "java/lang/IllegalStateException")]
def nwS : List (Nat × String) := [(328, "out of range"), (319, "no such phase"), (324, "no such use"), (39, "there are 6 phases"), (322, "there is a reason against it"), (326, "no such setting"), (115, "the number of the day would be above 9999"), (123, "the buffer has 60 characters"), (137, "the buffer is not a complete row of orders"), (149, "there is no saved state")]
def leastT (j : Nat) : Int32 := match j with
  | 0 => 1
  | _ => 0
def mostT (j : Nat) : Int32 := match j with
  | 0 => 120
  | 1 => 50
  | 2 => 3000
  | _ => 100
def EvN (U : State) : Prop := (∀ q ∈ nwM, va_Nw (.methodLinkNest q.1 q.2.1 q.2.2.1 q.2.2.2) U) ∧ (∀ x ∈ nwD, va_Nw (.declares x) U) ∧ (∀ q ∈ nwC, va_Nw (.castable q.1 q.2) U) ∧ ∀ q ∈ nwS, ∃ a, vk_R "LevyPhases" q.1 q.2 a U
def EvT (G : WG) (U : State) : Prop := ∃ a b : Nat, va_Z "LevyPhases" "LEAST_SETTINGS" "[I" (.ref a) (AG G) U U.heap ∧ va_T .int a 4 (fun j => .int (leastT j)) (AG G) U U.heap ∧ va_Z "LevyPhases" "MOST_SETTINGS" "[I" (.ref b) (AG G) U U.heap ∧ va_T .int b 4 (fun j => .int (mostT j)) (AG G) U U.heap
def EvX (G : WG) (U : State) : Prop := vx_Zq Bundle.tN "UNASSIGNED_STACK" Bundle.steD (AG G) U U.heap ∧ vx_Zq Bundle.tN "SUPPRESSED_SENTINEL" Bundle.listD (AG G) U U.heap
abbrev tysG (G : WG) : List (ClassId × FieldType) := [(G.2.1 0, .int), (G.2.1 1, .object "LevyPhases$Phase"), (G.2.1 2, .object "LevyPhases$Levy"), (G.2.1 3, .long)]
def Ev (G : WG) (U : State) : Prop := va_K G.1 vwCl (tysG G) U ∧ EvN U ∧ EvT G U ∧ EvX G U
theorem Ev.go {G : WG} {s U : State} {locs : List Loc} (h : Ev G s) (hW : s.WarmedH U.vm) (hS : va_S (AG G) s.heap U.heap locs) : Ev G U := by
  obtain ⟨hK, ⟨h1, h2, h3, h4⟩, ⟨a, b, t1, t2, t3, t4⟩, x1, x2⟩ := h
  have hk : ∀ q : Nat, q < s.heap.size → ¬ AG G q → U.heap[q]? = s.heap[q]? := hS.2.1
  refine ⟨hK.moved hW.alike, ⟨fun q hq => va_Nw.warmM hW (h1 q hq), fun q hq => va_Nw.warmD hW (h2 q hq), fun q hq => va_Nw.warmC hW (h3 q hq), fun q hq => ?_⟩, ⟨a, b, (t1.moved hW.alike).kept hk, (t2.moved hW.alike).kept hk, (t3.moved hW.alike).kept hk, (t4.moved hW.alike).kept hk⟩, (x1.moved hW.alike).kept hk, (x2.moved hW.alike).kept hk⟩
  obtain ⟨sa, hsa⟩ := h4 q hq
  exact ⟨sa, hsa.warm hW⟩
theorem Ev.same {G : WG} {u U : State} (h : Ev G u) (hv : u.vm = U.vm) (hh : U.heap = u.heap) : Ev G U := by
  obtain ⟨hK, ⟨h1, h2, h3, h4⟩, ⟨a, b, t1, t2, t3, t4⟩, x1, x2⟩ := h
  have hal : u.vm.Alike U.vm := by rw [hv]; exact Vm.Alike.refl _
  refine ⟨hK.moved hal, ⟨fun q hq => va_Nw.same rfl hv (h1 q hq), fun q hq => va_Nw.same rfl hv (h2 q hq), fun q hq => va_Nw.same rfl hv (h3 q hq), fun q hq => ?_⟩, ?_, ?_⟩
  · obtain ⟨sa, hsa⟩ := h4 q hq
    exact ⟨sa, hsa.same hv.symm⟩
  · rw [EvT, hh]
    exact ⟨a, b, t1.moved hal, t2.moved hal, t3.moved hal, t4.moved hal⟩
  · rw [EvX, hh]
    exact ⟨x1.moved hal, x2.moved hal⟩
/-! ===== the judgement ===== -/
abbrev Lv : Type := List (Nat × Value)
def lkp : Lv → Nat → Option Value
  | [], _ => none
  | q :: r, i => cond (Nat.beq q.1 i) (some q.2) (lkp r i)
def lvdel : Lv → Nat → Lv
  | [], _ => []
  | q :: r, i => cond (Nat.beq q.1 i) (lvdel r i) (q :: lvdel r i)
def lvset : Lv → Nat → Value → Lv
  | [], i, v => [(i, v)]
  | q :: r, i, v => cond (Nat.beq q.1 i) ((i, v) :: lvdel r i) (q :: lvset r i v)
def lvok : Lv → Nat → Bool
  | [], _ => true
  | q :: r, i => !(Nat.beq (q.1 + 1) i && Nat.beq q.2.category 2) && lvok r i
def lvpick : Lv → List Nat → Lv
  | _, [] => []
  | lv, k :: ks => match lkp lv k with
    | some v => (k, v) :: lvpick lv ks
    | none => lvpick lv ks
theorem beq_t {a i : Nat} (e : a = i) : Nat.beq a i = true := by
  subst e
  exact Nat.beq_refl a
theorem beq_f {a i : Nat} (e : a ≠ i) : Nat.beq a i = false := by
  cases hb : Nat.beq a i
  · rfl
  · exact absurd (Nat.eq_of_beq_eq_true hb) e
theorem beq_b (a b : Nat) : Nat.beq a b = (a == b) := by
  by_cases e : a = b
  · rw [beq_t e, e]; simp
  · rw [beq_f e]; simp [e]
theorem lkp_mem : ∀ {lv : Lv} {i : Nat} {v : Value}, lkp lv i = some v → (i, v) ∈ lv
  | [], _, _, h => by cases h
  | q :: r, i, v, h => by
    by_cases e : q.1 = i
    · have h1 : Nat.beq q.1 i = true := beq_t e
      rw [lkp, h1] at h
      obtain ⟨a, b⟩ := q
      cases e
      cases h
      exact List.mem_cons_self
    · have h1 : Nat.beq q.1 i = false := beq_f e
      rw [lkp, h1] at h
      exact List.mem_cons_of_mem _ (lkp_mem h)
theorem lkp_has {ls : Array Slot} {nL : Nat} {lv : Lv} {i : Nat} {v : Value} (h : lv_has ls nL lv) (hk : lkp lv i = some v) : ls[i]? = some (.val v) := h.2.2 (i, v) (lkp_mem hk)
theorem lvdel_mem : ∀ {lv : Lv} {i : Nat} {q : Nat × Value}, q ∈ lvdel lv i → q ∈ lv ∧ q.1 ≠ i
  | [], _, _, h => by cases h
  | a :: r, i, q, h => by
    by_cases e : a.1 = i
    · have h1 : Nat.beq a.1 i = true := beq_t e
      rw [lvdel, h1] at h
      obtain ⟨h2, h3⟩ := lvdel_mem (lv := r) h
      exact ⟨List.mem_cons_of_mem _ h2, h3⟩
    · have h1 : Nat.beq a.1 i = false := beq_f e
      rw [lvdel, h1] at h
      rcases List.mem_cons.mp h with rfl | h
      · exact ⟨List.mem_cons_self, e⟩
      · obtain ⟨h2, h3⟩ := lvdel_mem (lv := r) h
        exact ⟨List.mem_cons_of_mem _ h2, h3⟩
theorem lvset_mem : ∀ {lv : Lv} {i : Nat} {v : Value} {q : Nat × Value}, q ∈ lvset lv i v → q = (i, v) ∨ q ∈ lv ∧ q.1 ≠ i
  | [], i, v, q, h => Or.inl (List.mem_singleton.mp h)
  | a :: r, i, v, q, h => by
    by_cases e : a.1 = i
    · have h1 : Nat.beq a.1 i = true := beq_t e
      rw [lvset, h1] at h
      rcases List.mem_cons.mp h with rfl | h
      · exact Or.inl rfl
      · obtain ⟨h2, h3⟩ := lvdel_mem h
        exact Or.inr ⟨List.mem_cons_of_mem _ h2, h3⟩
    · have h1 : Nat.beq a.1 i = false := beq_f e
      rw [lvset, h1] at h
      rcases List.mem_cons.mp h with rfl | h
      · exact Or.inr ⟨List.mem_cons_self, e⟩
      · rcases lvset_mem (lv := r) h with h | ⟨h2, h3⟩
        · exact Or.inl h
        · exact Or.inr ⟨List.mem_cons_of_mem _ h2, h3⟩
theorem lvok_mem : ∀ {lv : Lv} {i : Nat} {q : Nat × Value}, lvok lv i = true → q ∈ lv → (!(q.1 + 1 == i && q.2.category == 2)) = true
  | a :: r, i, q, h, hq => by
    rw [lvok, Bool.and_eq_true] at h
    rcases List.mem_cons.mp hq with rfl | hq
    · have h1 := h.1
      rw [beq_b, beq_b] at h1
      exact h1
    · exact lvok_mem h.2 hq
theorem lvset_has {ls : Array Slot} {nL : Nat} {lv : Lv} {i : Nat} {v : Value} (hok : lvok lv i = true) (h : lv_has ls nL ((i, v) :: lv.filter (fun q => !(q.1 == i) && !(q.1 + 1 == i && q.2.category == 2)))) : lv_has ls nL (lvset lv i v) := by
  refine ⟨h.1, h.2.1, fun q hq => h.2.2 q ?_⟩
  rcases lvset_mem hq with rfl | ⟨h1, h2⟩
  · exact List.mem_cons_self
  · refine List.mem_cons_of_mem _ (List.mem_filter.mpr ⟨h1, ?_⟩)
    rw [lvok_mem hok h1, Bool.and_true]
    simp [h2]
theorem lvset2_has {ls : Array Slot} {nL : Nat} {lv : Lv} {i : Nat} {v : Value} (hok : lvok lv i = true) (h : lv_has ls nL ((i, v) :: lv.filter (fun q => !(q.1 == i) && (!(q.1 == i + 1) && !(q.1 + 1 == i && q.2.category == 2))))) : lv_has ls nL (lvset (lvdel lv (i + 1)) i v) := by
  refine ⟨h.1, h.2.1, fun q hq => h.2.2 q ?_⟩
  rcases lvset_mem hq with rfl | ⟨h1, h2⟩
  · exact List.mem_cons_self
  · obtain ⟨h3, h4⟩ := lvdel_mem h1
    refine List.mem_cons_of_mem _ (List.mem_filter.mpr ⟨h3, ?_⟩)
    rw [lvok_mem hok h3, Bool.and_true]
    simp [h2, h4]
theorem lvpick_has {ls : Array Slot} {nL : Nat} {lv : Lv} (h : lv_has ls nL lv) : ∀ (ks : List Nat), lv_has ls nL (lvpick lv ks)
  | [] => ⟨h.1, h.2.1, fun q hq => by cases hq⟩
  | k :: ks => by
    have h2 := lvpick_has h ks
    refine ⟨h.1, h.2.1, fun q hq => ?_⟩
    rw [lvpick] at hq
    split at hq
    · rename_i v hv
      rcases List.mem_cons.mp hq with rfl | hq
      · exact lkp_has h hv
      · exact h2.2.2 q hq
    · exact h2.2.2 q hq
def noX (c : Code) : Prop := ∀ x ∈ c.exceptionTable.toList, False
abbrev Cx (G : WG) (own : String) (cc : ByteArray) (nL : Nat) (ret : Option FieldType) (X : Code → Prop) (p : Program) (s : State) (m : MethodId) (args : Array Value) (meth : Method) (c : Code) : Prop :=
  p.tables.exec = Jvm.exec ∧ c.code = cc ∧ c.maxLocals = nL ∧ meth.sig.returnType = ret ∧ meth.locks = false ∧ s.vm.findClass own = some m.cls ∧ (∀ w ∈ UW, w.before args s = true) ∧ Ev G s ∧ X c
abbrev Zz : Type := List Frame → Array Value → State → State → Prop
def K (l : Launch) (G : WG) (R : Room) (own : String) (cc : ByteArray) (nL : Nat) (ret : Option FieldType) (X : Code → Prop) (Z : Zz) (μ : Mem) (pc : Nat) (lv : Lv) (st : List Value) : Prop :=
  ∀ (p : Program) (e : Env) (s : State) (m : MethodId) (args : Array Value) (below : List Frame) (meth : Method) (c : Code) (H : Heap) (locs : List Loc) (ls : Array Slot),
    Cx G own cc nL ret X p s m args meth c → Rep G μ H → va_S (AG G) s.heap H locs → lv_has ls nL lv → W p l e R s m args below meth c H locs 0 0 (Z below args s) (F0 m pc ls st)
def QcK (G : WG) (Q : Option Value → Mem → Prop) : Array Value → State → Outcome → State → Prop := fun _ st o t => (∃ r μ', o = .returned r ∧ Q r μ' ∧ Rep G μ' t.heap) ∧ va_F (AG G) st t
def PcK (G : WG) (av : List Value) (μ : Mem) : Array Value → State → Prop := fun v U => v = av.toArray ∧ Rep G μ U.heap ∧ Ev G U
def Qe (r : Option Value) (μ' : Mem) : Option Value → Mem → Prop := fun r0 m0 => r0 = r ∧ m0 = μ'
def rmD (d : Nat) : Room := { frames := d, cells := 0, slots := 0, locals := 34 * d }
def ZR (G : WG) (Q : Option Value → Mem → Prop) : Zz := fun below args s => MQ below (QcK G Q) args s 0 0 (AG G)
def Ct (l : Launch) (G : WG) (d : Nat) (y : MethodName) (cc : ByteArray) (nL : Nat) (ret : Option FieldType) (av : List Value) (μ : Mem) (r : Option Value) (μ' : Mem) : Prop :=
  Met l y (.code y cc nL ret :: UW) (rmD d) (PcK G av μ) (QcK G (Qe r μ')) 0 0 (AG G)
theorem Ct_of {l : Launch} {G : WG} {d : Nat} {y : MethodName} {cc : ByteArray} {nL : Nat} {ret : Option FieldType} {av : List Value} {μ : Mem} {r : Option Value} {μ' : Mem} (hy : plainName y.cls = true) (hn : (lg_sl av).length ≤ nL)
    (k : K l G (rmD d) y.cls cc nL ret noX (ZR G (Qe r μ')) μ 0 (lv_args 0 av) []) : Ct l G d y cc nL ret av μ r μ' := by
  refine Met.ofW (cc := cc) (maxL := nL) (ret := ret) hy rfl ?_
  intro p e s m args below meth c s₁ B hml hv
  obtain ⟨rfl, hR, hE⟩ := hv
  have hts := atoms_spec (ws := (Cond.code y cc nL ret :: UW)) B.pre
  have ht : noX c := by
    obtain ⟨meth9, c9, h1, h2, -, -, -, -, h7, -⟩ := Cond.code_spec B.named (hts _ List.mem_cons_self)
    cases Option.some.inj (h1.symm.trans B.method)
    cases Option.some.inj (h2.symm.trans (Stand.of_body B).code)
    intro x hx
    rw [Array.isEmpty_iff.mp h7] at hx
    cases hx
  rw [lg_entry_eq]
  exact k p e s m av.toArray below meth c s.heap [] _ ⟨B.exec, B.bytes, hml, B.returns, B.notSynchronized, findClass_of_methodNamed B.named, fun w hw => hts w (List.mem_cons_of_mem _ hw), hE, ht⟩ hR va_S.rf (lv_entry av hn)
section KR
variable {l : Launch} {G : WG} {R : Room} {own : String} {cc : ByteArray} {nL : Nat} {ret : Option FieldType} {X : Code → Prop} {Z : Zz} {μ : Mem} {pc : Nat} {lv : Lv} {st : List Value}
theorem K_lv {lv' : Lv} (ks : List Nat) (h : lvpick lv ks = lv') (kk : K l G R own cc nL ret X Z μ pc lv' st) : K l G R own cc nL ret X Z μ pc lv st := by
  intro p e s m args below meth c H locs ls C hR hS hl
  subst h
  exact kk p e s m args below meth c H locs ls C hR hS (lvpick_has hl ks)
theorem K_top {x y : Int32} (h : x = y) (kk : K l G R own cc nL ret X Z μ pc lv (.int y :: st)) : K l G R own cc nL ret X Z μ pc lv (.int x :: st) := h ▸ kk
theorem K_mem {μ' : Mem} (h : μ = μ') (kk : K l G R own cc nL ret X Z μ' pc lv st) : K l G R own cc nL ret X Z μ pc lv st := h ▸ kk
/-- a loop that counts k from 0 to N, its locals and the memory told for each k -/
theorem K_for (N : Nat) (lvf : Nat → Lv) (μf : Nat → Mem) (exit : K l G R own cc nL ret X Z (μf N) pc (lvf N) []) (body : ∀ k, k < N → K l G R own cc nL ret X Z (μf (k + 1)) pc (lvf (k + 1)) [] → K l G R own cc nL ret X Z (μf k) pc (lvf k) []) : K l G R own cc nL ret X Z (μf 0) pc (lvf 0) [] := by
  have h : ∀ n k, k + n = N → K l G R own cc nL ret X Z (μf k) pc (lvf k) [] := by
    intro n
    induction n with
    | zero => intro k hk; rw [show k = N by omega]; exact exit
    | succ n ih => intro k hk; exact body k (by omega) (ih (k + 1) (by omega))
  exact h N 0 (by omega)
end KR
end
section
section KROWS
variable {l : Launch} {G : WG} {R : Room} {own : String} {cc : ByteArray} {nL : Nat} {ret : Option FieldType} {X : Code → Prop} {Z : Zz} {μ : Mem} {pc : Nat} {lv : Lv} {st : List Value}
theorem K_iconst {n : Int} {v : Int32} (hdg : decode cc pc = .ok (.iconst n, 1)) (hv : Int32.ofInt n = v) (kk : K l G R own cc nL ret X Z μ (pc + 1) lv (.int v :: st)) : K l G R own cc nL ret X Z μ pc lv (st) := by
  intro p e s m args below meth c H locs ls C hR hS hl
  exact lv_iconst C.1 C.2.1 hdg hv (kk p e s m args below meth c H locs ls C hR hS hl)
theorem K_bipush {n : Int} {v : Int32} (hdg : decode cc pc = .ok (.bipush n, 2)) (hv : (Int8.ofInt n).toInt32 = v) (kk : K l G R own cc nL ret X Z μ (pc + 2) lv (.int v :: st)) : K l G R own cc nL ret X Z μ pc lv (st) := by
  intro p e s m args below meth c H locs ls C hR hS hl
  exact lv_bipush C.1 C.2.1 hdg hv (kk p e s m args below meth c H locs ls C hR hS hl)
theorem K_sipush {n : Int} {v : Int32} (hdg : decode cc pc = .ok (.sipush n, 3)) (hv : (Int16.ofInt n).toInt32 = v) (kk : K l G R own cc nL ret X Z μ (pc + 3) lv (.int v :: st)) : K l G R own cc nL ret X Z μ pc lv (st) := by
  intro p e s m args below meth c H locs ls C hR hS hl
  exact lv_sipush C.1 C.2.1 hdg hv (kk p e s m args below meth c H locs ls C hR hS hl)
theorem K_lconst {n : Fin 2} {v : Int64} (hdg : decode cc pc = .ok (.lconst n, 1)) (hv : Int64.ofNat (n : Nat) = v) (kk : K l G R own cc nL ret X Z μ (pc + 1) lv (.long v :: st)) : K l G R own cc nL ret X Z μ pc lv (st) := by
  intro p e s m args below meth c H locs ls C hR hS hl
  exact lv_lconst C.1 C.2.1 hdg hv (kk p e s m args below meth c H locs ls C hR hS hl)
theorem K_iload_n {k : Fin 4} {x : Int32} (hdg : decode cc pc = .ok (.iload_n k, 1)) (hk : lkp lv (k : Nat) = some (.int x)) (kk : K l G R own cc nL ret X Z μ (pc + 1) lv (.int x :: st)) : K l G R own cc nL ret X Z μ pc lv (st) := by
  intro p e s m args below meth c H locs ls C hR hS hl
  exact lv_iload_n C.1 C.2.1 hdg rfl (lkp_has hl hk) (kk p e s m args below meth c H locs ls C hR hS hl)
theorem K_iload {k : Nat} {x : Int32} (hdg : decode cc pc = .ok (.iload k, 2)) (hk : lkp lv k = some (.int x)) (kk : K l G R own cc nL ret X Z μ (pc + 2) lv (.int x :: st)) : K l G R own cc nL ret X Z μ pc lv (st) := by
  intro p e s m args below meth c H locs ls C hR hS hl
  exact lv_iload C.1 C.2.1 hdg (lkp_has hl hk) (kk p e s m args below meth c H locs ls C hR hS hl)
theorem K_istore_n {k : Fin 4} {x : Int32} (hdg : decode cc pc = .ok (.istore_n k, 1)) (hn : (k : Nat) < nL) (hok : lvok lv k = true) (kk : K l G R own cc nL ret X Z μ (pc + 1) (lvset lv k (.int x)) st) : K l G R own cc nL ret X Z μ pc lv (.int x :: st) := by
  intro p e s m args below meth c H locs ls C hR hS hl
  exact lv_istore_n C.1 C.2.1 hdg rfl hl hn rfl (fun ls' hl' => kk p e s m args below meth c H locs ls' C hR hS (lvset_has hok hl'))
theorem K_istore {k : Nat} {x : Int32} (hdg : decode cc pc = .ok (.istore k, 2)) (hn : (k : Nat) < nL) (hok : lvok lv k = true) (kk : K l G R own cc nL ret X Z μ (pc + 2) (lvset lv k (.int x)) st) : K l G R own cc nL ret X Z μ pc lv (.int x :: st) := by
  intro p e s m args below meth c H locs ls C hR hS hl
  exact lv_istore C.1 C.2.1 hdg hl hn rfl (fun ls' hl' => kk p e s m args below meth c H locs ls' C hR hS (lvset_has hok hl'))
theorem K_lload_n {k : Fin 4} {x : Int64} (hdg : decode cc pc = .ok (.lload_n k, 1)) (hk : lkp lv (k : Nat) = some (.long x)) (kk : K l G R own cc nL ret X Z μ (pc + 1) lv (.long x :: st)) : K l G R own cc nL ret X Z μ pc lv (st) := by
  intro p e s m args below meth c H locs ls C hR hS hl
  exact lv_lload_n C.1 C.2.1 hdg rfl (lkp_has hl hk) (kk p e s m args below meth c H locs ls C hR hS hl)
theorem K_lload {k : Nat} {x : Int64} (hdg : decode cc pc = .ok (.lload k, 2)) (hk : lkp lv k = some (.long x)) (kk : K l G R own cc nL ret X Z μ (pc + 2) lv (.long x :: st)) : K l G R own cc nL ret X Z μ pc lv (st) := by
  intro p e s m args below meth c H locs ls C hR hS hl
  exact lv_lload C.1 C.2.1 hdg (lkp_has hl hk) (kk p e s m args below meth c H locs ls C hR hS hl)
theorem K_lstore_n {k : Fin 4} {x : Int64} (hdg : decode cc pc = .ok (.lstore_n k, 1)) (hn : (k : Nat) + 1 < nL) (hok : lvok lv k = true) (kk : K l G R own cc nL ret X Z μ (pc + 1) (lvset (lvdel lv ((k : Nat) + 1)) k (.long x)) st) : K l G R own cc nL ret X Z μ pc lv (.long x :: st) := by
  intro p e s m args below meth c H locs ls C hR hS hl
  exact lv_lstore_n C.1 C.2.1 hdg rfl hl hn rfl (fun ls' hl' => kk p e s m args below meth c H locs ls' C hR hS (lvset2_has hok hl'))
theorem K_lstore {k : Nat} {x : Int64} (hdg : decode cc pc = .ok (.lstore k, 2)) (hn : (k : Nat) + 1 < nL) (hok : lvok lv k = true) (kk : K l G R own cc nL ret X Z μ (pc + 2) (lvset (lvdel lv ((k : Nat) + 1)) k (.long x)) st) : K l G R own cc nL ret X Z μ pc lv (.long x :: st) := by
  intro p e s m args below meth c H locs ls C hR hS hl
  exact lv_lstore C.1 C.2.1 hdg hl hn rfl (fun ls' hl' => kk p e s m args below meth c H locs ls' C hR hS (lvset2_has hok hl'))
theorem K_aload_n {k : Fin 4} {x : Nat} (hdg : decode cc pc = .ok (.aload_n k, 1)) (hk : lkp lv (k : Nat) = some (.ref x)) (kk : K l G R own cc nL ret X Z μ (pc + 1) lv (.ref x :: st)) : K l G R own cc nL ret X Z μ pc lv (st) := by
  intro p e s m args below meth c H locs ls C hR hS hl
  exact lv_aload_n C.1 C.2.1 hdg rfl (lkp_has hl hk) (kk p e s m args below meth c H locs ls C hR hS hl)
theorem K_aload {k : Nat} {x : Nat} (hdg : decode cc pc = .ok (.aload k, 2)) (hk : lkp lv k = some (.ref x)) (kk : K l G R own cc nL ret X Z μ (pc + 2) lv (.ref x :: st)) : K l G R own cc nL ret X Z μ pc lv (st) := by
  intro p e s m args below meth c H locs ls C hR hS hl
  exact lv_aload C.1 C.2.1 hdg (lkp_has hl hk) (kk p e s m args below meth c H locs ls C hR hS hl)
theorem K_astore_n {k : Fin 4} {x : Nat} (hdg : decode cc pc = .ok (.astore_n k, 1)) (hn : (k : Nat) < nL) (hok : lvok lv k = true) (kk : K l G R own cc nL ret X Z μ (pc + 1) (lvset lv k (.ref x)) st) : K l G R own cc nL ret X Z μ pc lv (.ref x :: st) := by
  intro p e s m args below meth c H locs ls C hR hS hl
  exact lv_astore_n C.1 C.2.1 hdg rfl hl hn rfl (fun ls' hl' => kk p e s m args below meth c H locs ls' C hR hS (lvset_has hok hl'))
theorem K_astore {k : Nat} {x : Nat} (hdg : decode cc pc = .ok (.astore k, 2)) (hn : (k : Nat) < nL) (hok : lvok lv k = true) (kk : K l G R own cc nL ret X Z μ (pc + 2) (lvset lv k (.ref x)) st) : K l G R own cc nL ret X Z μ pc lv (.ref x :: st) := by
  intro p e s m args below meth c H locs ls C hR hS hl
  exact lv_astore C.1 C.2.1 hdg hl hn rfl (fun ls' hl' => kk p e s m args below meth c H locs ls' C hR hS (lvset_has hok hl'))
theorem K_dload_n {k : Fin 4} {x : UInt64} (hdg : decode cc pc = .ok (.dload_n k, 1)) (hk : lkp lv (k : Nat) = some (.double x)) (kk : K l G R own cc nL ret X Z μ (pc + 1) lv (.double x :: st)) : K l G R own cc nL ret X Z μ pc lv (st) := by
  intro p e s m args below meth c H locs ls C hR hS hl
  exact lv_dload_n C.1 C.2.1 hdg rfl (lkp_has hl hk) (kk p e s m args below meth c H locs ls C hR hS hl)
theorem K_dload {k : Nat} {x : UInt64} (hdg : decode cc pc = .ok (.dload k, 2)) (hk : lkp lv k = some (.double x)) (kk : K l G R own cc nL ret X Z μ (pc + 2) lv (.double x :: st)) : K l G R own cc nL ret X Z μ pc lv (st) := by
  intro p e s m args below meth c H locs ls C hR hS hl
  exact lv_dload C.1 C.2.1 hdg (lkp_has hl hk) (kk p e s m args below meth c H locs ls C hR hS hl)
theorem K_dstore_n {k : Fin 4} {x : UInt64} (hdg : decode cc pc = .ok (.dstore_n k, 1)) (hn : (k : Nat) + 1 < nL) (hok : lvok lv k = true) (kk : K l G R own cc nL ret X Z μ (pc + 1) (lvset (lvdel lv ((k : Nat) + 1)) k (.double x)) st) : K l G R own cc nL ret X Z μ pc lv (.double x :: st) := by
  intro p e s m args below meth c H locs ls C hR hS hl
  exact lv_dstore_n C.1 C.2.1 hdg rfl hl hn rfl (fun ls' hl' => kk p e s m args below meth c H locs ls' C hR hS (lvset2_has hok hl'))
theorem K_dstore {k : Nat} {x : UInt64} (hdg : decode cc pc = .ok (.dstore k, 2)) (hn : (k : Nat) + 1 < nL) (hok : lvok lv k = true) (kk : K l G R own cc nL ret X Z μ (pc + 2) (lvset (lvdel lv ((k : Nat) + 1)) k (.double x)) st) : K l G R own cc nL ret X Z μ pc lv (.double x :: st) := by
  intro p e s m args below meth c H locs ls C hR hS hl
  exact lv_dstore C.1 C.2.1 hdg hl hn rfl (fun ls' hl' => kk p e s m args below meth c H locs ls' C hR hS (lvset2_has hok hl'))
theorem K_iadd {x y : Int32} (hdg : decode cc pc = .ok (.iadd, 1)) (kk : K l G R own cc nL ret X Z μ (pc + 1) lv (.int (x + y) :: st)) : K l G R own cc nL ret X Z μ pc lv (.int y :: .int x :: st) := by
  intro p e s m args below meth c H locs ls C hR hS hl
  exact lv_iadd C.1 C.2.1 hdg (kk p e s m args below meth c H locs ls C hR hS hl)
theorem K_isub {x y : Int32} (hdg : decode cc pc = .ok (.isub, 1)) (kk : K l G R own cc nL ret X Z μ (pc + 1) lv (.int (x - y) :: st)) : K l G R own cc nL ret X Z μ pc lv (.int y :: .int x :: st) := by
  intro p e s m args below meth c H locs ls C hR hS hl
  exact lv_isub C.1 C.2.1 hdg (kk p e s m args below meth c H locs ls C hR hS hl)
theorem K_imul {x y : Int32} (hdg : decode cc pc = .ok (.imul, 1)) (kk : K l G R own cc nL ret X Z μ (pc + 1) lv (.int (x * y) :: st)) : K l G R own cc nL ret X Z μ pc lv (.int y :: .int x :: st) := by
  intro p e s m args below meth c H locs ls C hR hS hl
  exact lv_imul C.1 C.2.1 hdg (kk p e s m args below meth c H locs ls C hR hS hl)
theorem K_iand {x y : Int32} (hdg : decode cc pc = .ok (.iand, 1)) (kk : K l G R own cc nL ret X Z μ (pc + 1) lv (.int (x &&& y) :: st)) : K l G R own cc nL ret X Z μ pc lv (.int y :: .int x :: st) := by
  intro p e s m args below meth c H locs ls C hR hS hl
  exact lv_iand C.1 C.2.1 hdg (kk p e s m args below meth c H locs ls C hR hS hl)
theorem K_ladd {x y : Int64} (hdg : decode cc pc = .ok (.ladd, 1)) (kk : K l G R own cc nL ret X Z μ (pc + 1) lv (.long (x + y) :: st)) : K l G R own cc nL ret X Z μ pc lv (.long y :: .long x :: st) := by
  intro p e s m args below meth c H locs ls C hR hS hl
  exact lv_ladd C.1 C.2.1 hdg (kk p e s m args below meth c H locs ls C hR hS hl)
theorem K_lsub {x y : Int64} (hdg : decode cc pc = .ok (.lsub, 1)) (kk : K l G R own cc nL ret X Z μ (pc + 1) lv (.long (x - y) :: st)) : K l G R own cc nL ret X Z μ pc lv (.long y :: .long x :: st) := by
  intro p e s m args below meth c H locs ls C hR hS hl
  exact lv_lsub C.1 C.2.1 hdg (kk p e s m args below meth c H locs ls C hR hS hl)
theorem K_lmul {x y : Int64} (hdg : decode cc pc = .ok (.lmul, 1)) (kk : K l G R own cc nL ret X Z μ (pc + 1) lv (.long (x * y) :: st)) : K l G R own cc nL ret X Z μ pc lv (.long y :: .long x :: st) := by
  intro p e s m args below meth c H locs ls C hR hS hl
  exact lv_lmul C.1 C.2.1 hdg (kk p e s m args below meth c H locs ls C hR hS hl)
theorem K_lor {x y : Int64} (hdg : decode cc pc = .ok (.lor, 1)) (kk : K l G R own cc nL ret X Z μ (pc + 1) lv (.long (x ||| y) :: st)) : K l G R own cc nL ret X Z μ pc lv (.long y :: .long x :: st) := by
  intro p e s m args below meth c H locs ls C hR hS hl
  exact lv_lor C.1 C.2.1 hdg (kk p e s m args below meth c H locs ls C hR hS hl)
theorem K_idiv {x y : Int32} (hdg : decode cc pc = .ok (.idiv, 1)) (hne : ¬ y = 0) (kk : K l G R own cc nL ret X Z μ (pc + 1) lv (.int (x / y) :: st)) : K l G R own cc nL ret X Z μ pc lv (.int y :: .int x :: st) := by
  intro p e s m args below meth c H locs ls C hR hS hl
  exact lv_idiv C.1 C.2.1 hdg hne (kk p e s m args below meth c H locs ls C hR hS hl)
theorem K_irem {x y : Int32} (hdg : decode cc pc = .ok (.irem, 1)) (hne : ¬ y = 0) (kk : K l G R own cc nL ret X Z μ (pc + 1) lv (.int (x - x / y * y) :: st)) : K l G R own cc nL ret X Z μ pc lv (.int y :: .int x :: st) := by
  intro p e s m args below meth c H locs ls C hR hS hl
  exact lv_irem C.1 C.2.1 hdg hne (kk p e s m args below meth c H locs ls C hR hS hl)
theorem K_ldiv {x y : Int64} (hdg : decode cc pc = .ok (.ldiv, 1)) (hne : ¬ y = 0) (kk : K l G R own cc nL ret X Z μ (pc + 1) lv (.long (x / y) :: st)) : K l G R own cc nL ret X Z μ pc lv (.long y :: .long x :: st) := by
  intro p e s m args below meth c H locs ls C hR hS hl
  exact lv_ldiv C.1 C.2.1 hdg hne (kk p e s m args below meth c H locs ls C hR hS hl)
theorem K_ineg {x : Int32} (hdg : decode cc pc = .ok (.ineg, 1)) (kk : K l G R own cc nL ret X Z μ (pc + 1) lv (.int (-x) :: st)) : K l G R own cc nL ret X Z μ pc lv (.int x :: st) := by
  intro p e s m args below meth c H locs ls C hR hS hl
  exact lv_ineg C.1 C.2.1 hdg (kk p e s m args below meth c H locs ls C hR hS hl)
theorem K_i2l {x : Int32} (hdg : decode cc pc = .ok (.i2l, 1)) (kk : K l G R own cc nL ret X Z μ (pc + 1) lv (.long x.toInt64 :: st)) : K l G R own cc nL ret X Z μ pc lv (.int x :: st) := by
  intro p e s m args below meth c H locs ls C hR hS hl
  exact lv_i2l C.1 C.2.1 hdg rfl (kk p e s m args below meth c H locs ls C hR hS hl)
theorem K_l2i {x : Int64} (hdg : decode cc pc = .ok (.l2i, 1)) (kk : K l G R own cc nL ret X Z μ (pc + 1) lv (.int x.toInt32 :: st)) : K l G R own cc nL ret X Z μ pc lv (.long x :: st) := by
  intro p e s m args below meth c H locs ls C hR hS hl
  exact lv_l2i C.1 C.2.1 hdg rfl (kk p e s m args below meth c H locs ls C hR hS hl)
theorem K_lshl {x : Int64} {y : Int32} (hdg : decode cc pc = .ok (.lshl, 1)) (kk : K l G R own cc nL ret X Z μ (pc + 1) lv (.long (x <<< (y.toInt64 &&& 63)) :: st)) : K l G R own cc nL ret X Z μ pc lv (.int y :: .long x :: st) := by
  intro p e s m args below meth c H locs ls C hR hS hl
  exact lv_lshl C.1 C.2.1 hdg rfl (kk p e s m args below meth c H locs ls C hR hS hl)
theorem K_lcmp {x y : Int64} (hdg : decode cc pc = .ok (.lcmp, 1)) (kk : K l G R own cc nL ret X Z μ (pc + 1) lv (.int (lg_cmp x y) :: st)) : K l G R own cc nL ret X Z μ pc lv (.long y :: .long x :: st) := by
  intro p e s m args below meth c H locs ls C hR hS hl
  exact W.lcmp C.1 C.2.1 hdg (kk p e s m args below meth c H locs ls C hR hS hl)
theorem K_dup {a : Value} (hdg : decode cc pc = .ok (.dup, 1)) (h1 : a.category = 1) (kk : K l G R own cc nL ret X Z μ (pc + 1) lv (a :: a :: st)) : K l G R own cc nL ret X Z μ pc lv (a :: st) := by
  intro p e s m args below meth c H locs ls C hR hS hl
  exact lv_dup C.1 C.2.1 hdg h1 (kk p e s m args below meth c H locs ls C hR hS hl)
theorem K_pop {a : Value} (hdg : decode cc pc = .ok (.pop, 1)) (h1 : a.category = 1) (kk : K l G R own cc nL ret X Z μ (pc + 1) lv (st)) : K l G R own cc nL ret X Z μ pc lv (a :: st) := by
  intro p e s m args below meth c H locs ls C hR hS hl
  exact lv_pop C.1 C.2.1 hdg h1 (kk p e s m args below meth c H locs ls C hR hS hl)
theorem K_dup2_11 {a b : Value} (hdg : decode cc pc = .ok (.dup2, 1)) (h1 : a.category = 1) (h2 : b.category = 1) (kk : K l G R own cc nL ret X Z μ (pc + 1) lv (a :: b :: a :: b :: st)) : K l G R own cc nL ret X Z μ pc lv (a :: b :: st) := by
  intro p e s m args below meth c H locs ls C hR hS hl
  exact lv_dup2_11 C.1 C.2.1 hdg h1 h2 (kk p e s m args below meth c H locs ls C hR hS hl)
theorem K_dup2_2 {a : Value} (hdg : decode cc pc = .ok (.dup2, 1)) (h1 : a.category = 2) (kk : K l G R own cc nL ret X Z μ (pc + 1) lv (a :: a :: st)) : K l G R own cc nL ret X Z μ pc lv (a :: st) := by
  intro p e s m args below meth c H locs ls C hR hS hl
  exact lv_dup2_2 C.1 C.2.1 hdg h1 (kk p e s m args below meth c H locs ls C hR hS hl)
theorem K_ldc {k : Nat} {v : Int32} (hdg : decode cc pc = .ok (.ldc k, 2)) (hw : Cond.constant own k v ∈ UW) (kk : K l G R own cc nL ret X Z μ (pc + 2) lv (.int v :: st)) : K l G R own cc nL ret X Z μ pc lv (st) := by
  intro p e s m args below meth c H locs ls C hR hS hl
  exact lv_ldc C.1 C.2.1 C.2.2.2.2.2.1 (C.2.2.2.2.2.2.1 _ hw) hdg (kk p e s m args below meth c H locs ls C hR hS hl)
theorem K_ldcw {k : Nat} {v : Int32} (hdg : decode cc pc = .ok (.ldc_w k, 3)) (hw : Cond.constant own k v ∈ UW) (kk : K l G R own cc nL ret X Z μ (pc + 3) lv (.int v :: st)) : K l G R own cc nL ret X Z μ pc lv (st) := by
  intro p e s m args below meth c H locs ls C hR hS hl
  exact lv_ldcw C.1 C.2.1 C.2.2.2.2.2.1 (C.2.2.2.2.2.2.1 _ hw) hdg (kk p e s m args below meth c H locs ls C hR hS hl)
theorem K_ldc2 {k : Nat} {v : Int64} (hdg : decode cc pc = .ok (.ldc2_w k, 3)) (hw : Cond.constantLong own k v ∈ UW) (kk : K l G R own cc nL ret X Z μ (pc + 3) lv (.long v :: st)) : K l G R own cc nL ret X Z μ pc lv (st) := by
  intro p e s m args below meth c H locs ls C hR hS hl
  exact lv_ldc2 C.1 C.2.1 C.2.2.2.2.2.1 (C.2.2.2.2.2.2.1 _ hw) hdg (kk p e s m args below meth c H locs ls C hR hS hl)
theorem K_iinc {i : Nat} {n : Int} {x v : Int32} (hdg : decode cc pc = .ok (.iinc i n, 3)) (hk : lkp lv i = some (.int x)) (hv : x + Int32.ofInt n = v) (hn : i < nL) (hok : lvok lv i = true) (kk : K l G R own cc nL ret X Z μ (pc + 3) (lvset lv i (.int v)) st) : K l G R own cc nL ret X Z μ pc lv st := by
  intro p e s m args below meth c H locs ls C hR hS hl
  obtain ⟨j, hj⟩ := List.getElem?_of_mem (lkp_mem hk)
  exact lv_iinc C.1 C.2.1 hdg hl hj hv hn rfl (fun ls' hl' => kk p e s m args below meth c H locs ls' C hR hS (lvset_has hok hl'))
theorem K_iincN {i a b : Nat} {n : Int} (hdg : decode cc pc = .ok (.iinc i n, 3)) (hk : lkp lv i = some (.int (nI a))) (hb : n = (b : Int)) (hn : i < nL) (hok : lvok lv i = true) (kk : K l G R own cc nL ret X Z μ (pc + 3) (lvset lv i (.int (nI (a + b)))) st) : K l G R own cc nL ret X Z μ pc lv st := K_iinc hdg hk (by rw [hb, ← nI_add]; rfl) hn hok kk
theorem K_goto {off : Int} {tgt : Nat} (hdg : decode cc pc = .ok (.goto off, 3)) (ht : (pc : Int) + off = (tgt : Int)) (kk : K l G R own cc nL ret X Z μ tgt lv st) : K l G R own cc nL ret X Z μ pc lv st := by
  intro p e s m args below meth c H locs ls C hR hS hl
  exact lv_goto C.1 C.2.1 hdg ht (kk p e s m args below meth c H locs ls C hR hS hl)
theorem K_if_eq {x : Int32} {off : Int} {tgt : Nat} (hdg : decode cc pc = .ok (.ifCond .eq off, 3)) (ht : (pc : Int) + off = (tgt : Int)) (kt : x = 0 → K l G R own cc nL ret X Z μ tgt lv st) (kf : ¬ x = 0 → K l G R own cc nL ret X Z μ (pc + 3) lv st) : K l G R own cc nL ret X Z μ pc lv (.int x :: st) := by
  intro p e s m args below meth c H locs ls C hR hS hl
  exact lv_if_eq C.1 C.2.1 hdg ht (fun h => kt h p e s m args below meth c H locs ls C hR hS hl) (fun h => kf h p e s m args below meth c H locs ls C hR hS hl)
theorem K_icmp_eq {x y : Int32} {off : Int} {tgt : Nat} (hdg : decode cc pc = .ok (.if_icmp .eq off, 3)) (ht : (pc : Int) + off = (tgt : Int)) (kt : x = y → K l G R own cc nL ret X Z μ tgt lv st) (kf : ¬ x = y → K l G R own cc nL ret X Z μ (pc + 3) lv st) : K l G R own cc nL ret X Z μ pc lv (.int y :: .int x :: st) := by
  intro p e s m args below meth c H locs ls C hR hS hl
  exact lv_icmp_eq C.1 C.2.1 hdg ht (fun h => kt h p e s m args below meth c H locs ls C hR hS hl) (fun h => kf h p e s m args below meth c H locs ls C hR hS hl)
theorem K_if_ne {x : Int32} {off : Int} {tgt : Nat} (hdg : decode cc pc = .ok (.ifCond .ne off, 3)) (ht : (pc : Int) + off = (tgt : Int)) (kt : ¬ x = 0 → K l G R own cc nL ret X Z μ tgt lv st) (kf : x = 0 → K l G R own cc nL ret X Z μ (pc + 3) lv st) : K l G R own cc nL ret X Z μ pc lv (.int x :: st) := by
  intro p e s m args below meth c H locs ls C hR hS hl
  exact lv_if_ne C.1 C.2.1 hdg ht (fun h => kt h p e s m args below meth c H locs ls C hR hS hl) (fun h => kf h p e s m args below meth c H locs ls C hR hS hl)
theorem K_icmp_ne {x y : Int32} {off : Int} {tgt : Nat} (hdg : decode cc pc = .ok (.if_icmp .ne off, 3)) (ht : (pc : Int) + off = (tgt : Int)) (kt : ¬ x = y → K l G R own cc nL ret X Z μ tgt lv st) (kf : x = y → K l G R own cc nL ret X Z μ (pc + 3) lv st) : K l G R own cc nL ret X Z μ pc lv (.int y :: .int x :: st) := by
  intro p e s m args below meth c H locs ls C hR hS hl
  exact lv_icmp_ne C.1 C.2.1 hdg ht (fun h => kt h p e s m args below meth c H locs ls C hR hS hl) (fun h => kf h p e s m args below meth c H locs ls C hR hS hl)
theorem K_if_lt {x : Int32} {off : Int} {tgt : Nat} (hdg : decode cc pc = .ok (.ifCond .lt off, 3)) (ht : (pc : Int) + off = (tgt : Int)) (kt : x < 0 → K l G R own cc nL ret X Z μ tgt lv st) (kf : ¬ x < 0 → K l G R own cc nL ret X Z μ (pc + 3) lv st) : K l G R own cc nL ret X Z μ pc lv (.int x :: st) := by
  intro p e s m args below meth c H locs ls C hR hS hl
  exact lv_if_lt C.1 C.2.1 hdg ht (fun h => kt h p e s m args below meth c H locs ls C hR hS hl) (fun h => kf h p e s m args below meth c H locs ls C hR hS hl)
theorem K_icmp_lt {x y : Int32} {off : Int} {tgt : Nat} (hdg : decode cc pc = .ok (.if_icmp .lt off, 3)) (ht : (pc : Int) + off = (tgt : Int)) (kt : x < y → K l G R own cc nL ret X Z μ tgt lv st) (kf : ¬ x < y → K l G R own cc nL ret X Z μ (pc + 3) lv st) : K l G R own cc nL ret X Z μ pc lv (.int y :: .int x :: st) := by
  intro p e s m args below meth c H locs ls C hR hS hl
  exact lv_icmp_lt C.1 C.2.1 hdg ht (fun h => kt h p e s m args below meth c H locs ls C hR hS hl) (fun h => kf h p e s m args below meth c H locs ls C hR hS hl)
theorem K_if_ge {x : Int32} {off : Int} {tgt : Nat} (hdg : decode cc pc = .ok (.ifCond .ge off, 3)) (ht : (pc : Int) + off = (tgt : Int)) (kt : 0 ≤ x → K l G R own cc nL ret X Z μ tgt lv st) (kf : ¬ 0 ≤ x → K l G R own cc nL ret X Z μ (pc + 3) lv st) : K l G R own cc nL ret X Z μ pc lv (.int x :: st) := by
  intro p e s m args below meth c H locs ls C hR hS hl
  exact lv_if_ge C.1 C.2.1 hdg ht (fun h => kt h p e s m args below meth c H locs ls C hR hS hl) (fun h => kf h p e s m args below meth c H locs ls C hR hS hl)
theorem K_icmp_ge {x y : Int32} {off : Int} {tgt : Nat} (hdg : decode cc pc = .ok (.if_icmp .ge off, 3)) (ht : (pc : Int) + off = (tgt : Int)) (kt : y ≤ x → K l G R own cc nL ret X Z μ tgt lv st) (kf : ¬ y ≤ x → K l G R own cc nL ret X Z μ (pc + 3) lv st) : K l G R own cc nL ret X Z μ pc lv (.int y :: .int x :: st) := by
  intro p e s m args below meth c H locs ls C hR hS hl
  exact lv_icmp_ge C.1 C.2.1 hdg ht (fun h => kt h p e s m args below meth c H locs ls C hR hS hl) (fun h => kf h p e s m args below meth c H locs ls C hR hS hl)
theorem K_if_gt {x : Int32} {off : Int} {tgt : Nat} (hdg : decode cc pc = .ok (.ifCond .gt off, 3)) (ht : (pc : Int) + off = (tgt : Int)) (kt : 0 < x → K l G R own cc nL ret X Z μ tgt lv st) (kf : ¬ 0 < x → K l G R own cc nL ret X Z μ (pc + 3) lv st) : K l G R own cc nL ret X Z μ pc lv (.int x :: st) := by
  intro p e s m args below meth c H locs ls C hR hS hl
  exact lv_if_gt C.1 C.2.1 hdg ht (fun h => kt h p e s m args below meth c H locs ls C hR hS hl) (fun h => kf h p e s m args below meth c H locs ls C hR hS hl)
theorem K_icmp_gt {x y : Int32} {off : Int} {tgt : Nat} (hdg : decode cc pc = .ok (.if_icmp .gt off, 3)) (ht : (pc : Int) + off = (tgt : Int)) (kt : y < x → K l G R own cc nL ret X Z μ tgt lv st) (kf : ¬ y < x → K l G R own cc nL ret X Z μ (pc + 3) lv st) : K l G R own cc nL ret X Z μ pc lv (.int y :: .int x :: st) := by
  intro p e s m args below meth c H locs ls C hR hS hl
  exact lv_icmp_gt C.1 C.2.1 hdg ht (fun h => kt h p e s m args below meth c H locs ls C hR hS hl) (fun h => kf h p e s m args below meth c H locs ls C hR hS hl)
theorem K_if_le {x : Int32} {off : Int} {tgt : Nat} (hdg : decode cc pc = .ok (.ifCond .le off, 3)) (ht : (pc : Int) + off = (tgt : Int)) (kt : x ≤ 0 → K l G R own cc nL ret X Z μ tgt lv st) (kf : ¬ x ≤ 0 → K l G R own cc nL ret X Z μ (pc + 3) lv st) : K l G R own cc nL ret X Z μ pc lv (.int x :: st) := by
  intro p e s m args below meth c H locs ls C hR hS hl
  exact lv_if_le C.1 C.2.1 hdg ht (fun h => kt h p e s m args below meth c H locs ls C hR hS hl) (fun h => kf h p e s m args below meth c H locs ls C hR hS hl)
theorem K_icmp_le {x y : Int32} {off : Int} {tgt : Nat} (hdg : decode cc pc = .ok (.if_icmp .le off, 3)) (ht : (pc : Int) + off = (tgt : Int)) (kt : x ≤ y → K l G R own cc nL ret X Z μ tgt lv st) (kf : ¬ x ≤ y → K l G R own cc nL ret X Z μ (pc + 3) lv st) : K l G R own cc nL ret X Z μ pc lv (.int y :: .int x :: st) := by
  intro p e s m args below meth c H locs ls C hR hS hl
  exact lv_icmp_le C.1 C.2.1 hdg ht (fun h => kt h p e s m args below meth c H locs ls C hR hS hl) (fun h => kf h p e s m args below meth c H locs ls C hR hS hl)
end KROWS
end
section
def b2i (b : Bool) : Int32 := cond b 1 0
def mini (x y : Int32) : Int32 := if y < x then y else x
def maxi (x y : Int32) : Int32 := if x < y then y else x
theorem b2i_1 : b2i true = 1 := rfl
theorem b2i_0 : b2i false = 0 := rfl
theorem b2i_z {b : Bool} : b2i b = 0 ↔ b = false := by cases b <;> decide
theorem b2i_nz {b : Bool} : ¬ b2i b = 0 ↔ b = true := by cases b <;> decide
theorem nI_ofInt (n : Nat) : Int32.ofInt (n : Int) = nI n := rfl
theorem nI_inj {a b : Nat} (ha : a < 2 ^ 31) (hb : b < 2 ^ 31) (h : nI a = nI b) : a = b := (nI_eq ha hb).mp h
theorem nI_mul (a b : Nat) : nI a * nI b = nI (a * b) := pk_mul a b
theorem vp_inN {j n : Nat} (h : j < n) (hn : n < 2 ^ 31) : vp_in (nI j) n := vp_in_nI h hn
section KMEM
variable {l : Launch} {G : WG} {R : Room} {own : String} {cc : ByteArray} {nL : Nat} {ret : Option FieldType} {X : Code → Prop} {Z : Zz} {μ : Mem} {pc : Nat} {lv : Lv} {st : List Value}
theorem K_iconstN {n : Int} (k : Nat) (hdg : decode cc pc = .ok (.iconst n, 1)) (hk : n = (k : Int)) (kk : K l G R own cc nL ret X Z μ (pc + 1) lv (.int (nI k) :: st)) : K l G R own cc nL ret X Z μ pc lv st := K_iconst hdg (by rw [hk]; rfl) kk
theorem K_ifb_eq {b : Bool} {off : Int} {tgt : Nat} (hdg : decode cc pc = .ok (.ifCond .eq off, 3)) (ht : (pc : Int) + off = (tgt : Int)) (kt : b = false → K l G R own cc nL ret X Z μ tgt lv st) (kf : b = true → K l G R own cc nL ret X Z μ (pc + 3) lv st) : K l G R own cc nL ret X Z μ pc lv (.int (b2i b) :: st) := K_if_eq hdg ht (fun h => kt (b2i_z.mp h)) (fun h => kf (b2i_nz.mp h))
theorem K_ifb_ne {b : Bool} {off : Int} {tgt : Nat} (hdg : decode cc pc = .ok (.ifCond .ne off, 3)) (ht : (pc : Int) + off = (tgt : Int)) (kt : b = true → K l G R own cc nL ret X Z μ tgt lv st) (kf : b = false → K l G R own cc nL ret X Z μ (pc + 3) lv st) : K l G R own cc nL ret X Z μ pc lv (.int (b2i b) :: st) := K_if_ne hdg ht (fun h => kt (b2i_nz.mp h)) (fun h => kf (b2i_z.mp h))
theorem K_ifN_eq {a : Nat} (ha : a < 2 ^ 31) {off : Int} {tgt : Nat} (hdg : decode cc pc = .ok (.ifCond .eq off, 3)) (ht : (pc : Int) + off = (tgt : Int)) (kt : a = 0 → K l G R own cc nL ret X Z μ tgt lv st) (kf : ¬ a = 0 → K l G R own cc nL ret X Z μ (pc + 3) lv st) : K l G R own cc nL ret X Z μ pc lv (.int (nI a) :: st) := K_if_eq hdg ht (fun h => kt (nI_inj ha (by omega) (h.trans nI_0.symm))) (fun h => kf (fun q => h (by rw [q]; exact nI_0)))
theorem K_ifN_ne {a : Nat} (ha : a < 2 ^ 31) {off : Int} {tgt : Nat} (hdg : decode cc pc = .ok (.ifCond .ne off, 3)) (ht : (pc : Int) + off = (tgt : Int)) (kt : ¬ a = 0 → K l G R own cc nL ret X Z μ tgt lv st) (kf : a = 0 → K l G R own cc nL ret X Z μ (pc + 3) lv st) : K l G R own cc nL ret X Z μ pc lv (.int (nI a) :: st) := K_if_ne hdg ht (fun h => kt (fun q => h (by rw [q]; exact nI_0))) (fun h => kf (nI_inj ha (by omega) (h.trans nI_0.symm)))
theorem K_ifN_gt {a : Nat} (ha : a < 2 ^ 31) {off : Int} {tgt : Nat} (hdg : decode cc pc = .ok (.ifCond .gt off, 3)) (ht : (pc : Int) + off = (tgt : Int)) (kt : 0 < a → K l G R own cc nL ret X Z μ tgt lv st) (kf : a = 0 → K l G R own cc nL ret X Z μ (pc + 3) lv st) : K l G R own cc nL ret X Z μ pc lv (.int (nI a) :: st) := K_if_gt hdg ht (fun h => kt ((nI_ltI (by omega) ha).mp (by rw [nI_0]; exact h))) (fun h => kf (by
  rcases Nat.eq_zero_or_pos a with q | q
  · exact q
  · exact absurd (by rw [← nI_0]; exact (nI_ltI (by omega) ha).mpr q) h))
theorem K_ifN_le {a : Nat} (ha : a < 2 ^ 31) {off : Int} {tgt : Nat} (hdg : decode cc pc = .ok (.ifCond .le off, 3)) (ht : (pc : Int) + off = (tgt : Int)) (kt : a = 0 → K l G R own cc nL ret X Z μ tgt lv st) (kf : 0 < a → K l G R own cc nL ret X Z μ (pc + 3) lv st) : K l G R own cc nL ret X Z μ pc lv (.int (nI a) :: st) := K_if_le hdg ht (fun h => kt (by
  have := (nI_leI (a := a) (b := 0) ha (by omega)).mp (by rw [nI_0]; exact h)
  omega)) (fun h => kf (by
  rcases Nat.eq_zero_or_pos a with q | q
  · exact absurd (by rw [q, nI_0]; decide) h
  · exact q))
theorem K_ifN_lt {a : Nat} (ha : a < 2 ^ 31) {off : Int} {tgt : Nat} (hdg : decode cc pc = .ok (.ifCond .lt off, 3)) (ht : (pc : Int) + off = (tgt : Int)) (kf : K l G R own cc nL ret X Z μ (pc + 3) lv st) : K l G R own cc nL ret X Z μ pc lv (.int (nI a) :: st) := K_if_lt hdg ht (fun h => absurd h (nI_pos ha)) (fun _ => kf)
theorem K_ifN_ge {a : Nat} (ha : a < 2 ^ 31) {off : Int} {tgt : Nat} (hdg : decode cc pc = .ok (.ifCond .ge off, 3)) (ht : (pc : Int) + off = (tgt : Int)) (kt : K l G R own cc nL ret X Z μ tgt lv st) : K l G R own cc nL ret X Z μ pc lv (.int (nI a) :: st) := K_if_ge hdg ht (fun _ => kt) (fun h => absurd (nI_pos' ha) h)
theorem K_icmpN_eq {a b : Nat} (ha : a < 2 ^ 31) (hb : b < 2 ^ 31) {off : Int} {tgt : Nat} (hdg : decode cc pc = .ok (.if_icmp .eq off, 3)) (ht : (pc : Int) + off = (tgt : Int)) (kt : a = b → K l G R own cc nL ret X Z μ tgt lv st) (kf : ¬ a = b → K l G R own cc nL ret X Z μ (pc + 3) lv st) : K l G R own cc nL ret X Z μ pc lv (.int (nI b) :: .int (nI a) :: st) := K_icmp_eq hdg ht (fun h => kt ((nI_eq ha hb).mp h)) (fun h => kf (fun q => h ((nI_eq ha hb).mpr q)))
theorem K_icmpN_ne {a b : Nat} (ha : a < 2 ^ 31) (hb : b < 2 ^ 31) {off : Int} {tgt : Nat} (hdg : decode cc pc = .ok (.if_icmp .ne off, 3)) (ht : (pc : Int) + off = (tgt : Int)) (kt : ¬ a = b → K l G R own cc nL ret X Z μ tgt lv st) (kf : a = b → K l G R own cc nL ret X Z μ (pc + 3) lv st) : K l G R own cc nL ret X Z μ pc lv (.int (nI b) :: .int (nI a) :: st) := K_icmp_ne hdg ht (fun h => kt (fun q => h ((nI_eq ha hb).mpr q))) (fun h => kf ((nI_eq ha hb).mp h))
theorem K_icmpN_lt {a b : Nat} (ha : a < 2 ^ 31) (hb : b < 2 ^ 31) {off : Int} {tgt : Nat} (hdg : decode cc pc = .ok (.if_icmp .lt off, 3)) (ht : (pc : Int) + off = (tgt : Int)) (kt : a < b → K l G R own cc nL ret X Z μ tgt lv st) (kf : b ≤ a → K l G R own cc nL ret X Z μ (pc + 3) lv st) : K l G R own cc nL ret X Z μ pc lv (.int (nI b) :: .int (nI a) :: st) := K_icmp_lt hdg ht (fun h => kt ((nI_ltI ha hb).mp h)) (fun h => kf (Nat.not_lt.mp fun q => h ((nI_ltI ha hb).mpr q)))
theorem K_icmpN_ge {a b : Nat} (ha : a < 2 ^ 31) (hb : b < 2 ^ 31) {off : Int} {tgt : Nat} (hdg : decode cc pc = .ok (.if_icmp .ge off, 3)) (ht : (pc : Int) + off = (tgt : Int)) (kt : b ≤ a → K l G R own cc nL ret X Z μ tgt lv st) (kf : a < b → K l G R own cc nL ret X Z μ (pc + 3) lv st) : K l G R own cc nL ret X Z μ pc lv (.int (nI b) :: .int (nI a) :: st) := K_icmp_ge hdg ht (fun h => kt ((nI_leI hb ha).mp h)) (fun h => kf (Nat.not_le.mp fun q => h ((nI_leI hb ha).mpr q)))
theorem K_icmpN_gt {a b : Nat} (ha : a < 2 ^ 31) (hb : b < 2 ^ 31) {off : Int} {tgt : Nat} (hdg : decode cc pc = .ok (.if_icmp .gt off, 3)) (ht : (pc : Int) + off = (tgt : Int)) (kt : b < a → K l G R own cc nL ret X Z μ tgt lv st) (kf : a ≤ b → K l G R own cc nL ret X Z μ (pc + 3) lv st) : K l G R own cc nL ret X Z μ pc lv (.int (nI b) :: .int (nI a) :: st) := K_icmp_gt hdg ht (fun h => kt ((nI_ltI hb ha).mp h)) (fun h => kf (Nat.not_lt.mp fun q => h ((nI_ltI hb ha).mpr q)))
theorem K_icmpN_le {a b : Nat} (ha : a < 2 ^ 31) (hb : b < 2 ^ 31) {off : Int} {tgt : Nat} (hdg : decode cc pc = .ok (.if_icmp .le off, 3)) (ht : (pc : Int) + off = (tgt : Int)) (kt : a ≤ b → K l G R own cc nL ret X Z μ tgt lv st) (kf : b < a → K l G R own cc nL ret X Z μ (pc + 3) lv st) : K l G R own cc nL ret X Z μ pc lv (.int (nI b) :: .int (nI a) :: st) := K_icmp_le hdg ht (fun h => kt ((nI_leI ha hb).mp h)) (fun h => kf (Nat.not_le.mp fun q => h ((nI_leI ha hb).mpr q)))
theorem K_iaddN {a b : Nat} (hdg : decode cc pc = .ok (.iadd, 1)) (kk : K l G R own cc nL ret X Z μ (pc + 1) lv (.int (nI (a + b)) :: st)) : K l G R own cc nL ret X Z μ pc lv (.int (nI b) :: .int (nI a) :: st) := K_iadd hdg (by rw [nI_add]; exact kk)
theorem K_imulN {a b : Nat} (hdg : decode cc pc = .ok (.imul, 1)) (kk : K l G R own cc nL ret X Z μ (pc + 1) lv (.int (nI (a * b)) :: st)) : K l G R own cc nL ret X Z μ pc lv (.int (nI b) :: .int (nI a) :: st) := K_imul hdg (by rw [nI_mul]; exact kk)
theorem K_isubN {a b : Nat} (h : b ≤ a) (hdg : decode cc pc = .ok (.isub, 1)) (kk : K l G R own cc nL ret X Z μ (pc + 1) lv (.int (nI (a - b)) :: st)) : K l G R own cc nL ret X Z μ pc lv (.int (nI b) :: .int (nI a) :: st) := K_isub hdg (by rw [pk_sub h]; exact kk)
theorem K_tableIn {dflt lo hi : Int} {offs : Array Int} {len : Nat} {x : Int32} {off : Int} {tgt : Nat} (hdg : decode cc pc = .ok (.tableswitch dflt lo hi offs, len)) (h1 : ¬ x.toInt < lo) (h2 : ¬ hi < x.toInt) (ho : offs[(x.toInt - lo).toNat]? = some off) (ht : (pc : Int) + off = (tgt : Int)) (kk : K l G R own cc nL ret X Z μ tgt lv st) : K l G R own cc nL ret X Z μ pc lv (.int x :: st) := by
  intro p e s m args below meth c H locs ls C hR hS hl
  exact lv_tableIn C.1 C.2.1 hdg h1 h2 ho ht (kk p e s m args below meth c H locs ls C hR hS hl)
theorem K_tableOut {dflt lo hi : Int} {offs : Array Int} {len : Nat} {x : Int32} {tgt : Nat} (hdg : decode cc pc = .ok (.tableswitch dflt lo hi offs, len)) (h : x.toInt < lo ∨ hi < x.toInt) (ht : (pc : Int) + dflt = (tgt : Int)) (kk : K l G R own cc nL ret X Z μ tgt lv st) : K l G R own cc nL ret X Z μ pc lv (.int x :: st) := by
  intro p e s m args below meth c H locs ls C hR hS hl
  exact lv_tableOut C.1 C.2.1 hdg h ht (kk p e s m args below meth c H locs ls C hR hS hl)
theorem K_lookup {dflt : Int} {ps : Array (Int × Int)} {len : Nat} {x : Int32} {off : Int} {tgt : Nat} (hdg : decode cc pc = .ok (.lookupswitch dflt ps, len)) (hp : (ps.toList.zip (ps.toList.drop 1)).all (fun (a, next) => a.1 < next.1) = true) (ho : Op.lookupswitch.offset ps.toList dflt x.toInt = off) (ht : (pc : Int) + off = (tgt : Int)) (kk : K l G R own cc nL ret X Z μ tgt lv st) : K l G R own cc nL ret X Z μ pc lv (.int x :: st) := by
  intro p e s m args below meth c H locs ls C hR hS hl
  exact lv_lookup C.1 C.2.1 hdg hp ho ht (kk p e s m args below meth c H locs ls C hR hS hl)
theorem Rep.one {H : Heap} (h : Rep G μ H) {t i p : Nat} (hd : dm t i p) {x : va_E} (hct : ct G μ t i p = x) : va_P G.1 vwCl [(adr G t i p, x)] H := by
  intro k q hk
  match k, hk with
  | 0, hk => cases hk; rw [← hct]; exact h.1 t i p hd
  | k + 1, hk => simp at hk
theorem K_get {t i p ci idx k N : Nat} {C : String} {T : u_T} {fs : List Value} {v : Value} (hdg : decode cc pc = .ok (.getfield idx, 3)) (hcl : vwCl[ci]? = some (C, T, N)) (hin : ∀ w ∈ u_ws C T N, w ∈ UW) (hlink : Cond.fieldLink own idx (T k).1 (T k).2.1 (T k).2.2.1 ∈ UW) (hk : k < N) (hd : dm t i p) (hct : ct G μ t i p = .inr (ci, fs)) (hv : fs[k]? = some v) (kk : K l G R own cc nL ret X Z μ (pc + 3) lv (v :: st)) : K l G R own cc nL ret X Z μ pc lv (.ref (adr G t i p) :: st) := by
  intro p' e s m args below meth c H locs ls C' hR hS hl
  have hts := C'.2.2.2.2.2.2.1
  exact va_get C'.1 C'.2.1 hts hin C'.2.2.2.2.2.1 C'.2.2.2.2.2.2.2.1.1 (hR.one hd hct) 0 rfl hcl k hk (hts _ hlink) (fun _ h9 => h9) hv hdg (kk p' e s m args below meth c H locs ls C' hR hS hl)
theorem AG_in {t i p : Nat} (hd : dm t i p) : AG G (adr G t i p) := ⟨t, i, p, hd, rfl⟩
theorem K_putI {t i p ci idx k N : Nat} {C : String} {T : u_T} {fs : List Value} {x : Int32} {ty : FieldType} (hdg : decode cc pc = .ok (.putfield idx, 3)) (hcl : vwCl[ci]? = some (C, T, N)) (hin : ∀ w ∈ u_ws C T N, w ∈ UW) (ty0 : Nat → FieldType) (hty : ∀ k, k < N → parseFieldDescriptor (T k).2.2.1 = some (ty0 k)) (hnm : ∀ a, a < N → ∀ b, b < N → a ≠ b → (T a).2.1 ≠ (T b).2.1) (hlink : Cond.fieldLink own idx (T k).1 (T k).2.1 (T k).2.2.1 ∈ UW) (hk : k < N) (hfin : (T k).2.2.2 = false) (hd0 : parseFieldDescriptor (T k).2.2.1 = some ty) (hn : narrow ty (.int x) = .int x) (hfit : fits ty (.int x) = true) (hlen : k < fs.length)
    (hd : dm t i p) (hct : ct G μ t i p = .inr (ci, fs)) (hct' : ct G (mset μ t i p k x) t i p = .inr (ci, fs.set k (.int x))) (hz : t = 8 → k = 12 → x = 0 ∨ x = 1) (kk : K l G R own cc nL ret X Z (mset μ t i p k x) (pc + 3) lv st) : K l G R own cc nL ret X Z μ pc lv (.int x :: .ref (adr G t i p) :: st) := by
  intro p' e s m args below meth c H locs ls C' hR hS hl
  have hts := C'.2.2.2.2.2.2.1
  have hown := C'.2.2.2.2.2.1
  have hK := C'.2.2.2.2.2.2.2.1.1
  have hap := va_apart (own := own) hts hin ty0 hty hnm hK hcl
  have h0 := hR.1 t i p hd
  rw [hct] at h0
  obtain ⟨r, h1, cell, q1, q2, q3, q4⟩ := h0
  have hr : r = (C, T, N) := Option.some.inj (h1.symm.trans hcl)
  subst hr
  obtain ⟨hSl, hfc, kC, hkC, hkind⟩ := hK.1 ci _ hcl
  obtain ⟨cf, kf, fi, f, hi, hsl⟩ := hSl k hk
  have hlay := hts _ (hin _ (u_in_lay hk))
  unfold u_lay at hlay
  rw [if_neg (by rw [hfin]; decide)] at hlay
  have hst := (u_facts hfc hkC (u_lays hts hin hk) hi).1
  have h6 := u_store hfc hkC hkind hlay hi hd0 hn hfit
  refine W.putK C'.1 C'.2.1 (f := f) ⟨hown, hts _ hlink, ⟨_, _, _, hi⟩, hst⟩ (by rw [q2]; exact h6) q1 q3 (by rw [hsl]; exact k2_hasslot (q4 k hk)) rfl rfl hdg fun H' e1 e2 e3 => ?_
  rw [hsl] at e1 ⊢
  refine kk p' e s m args below meth c H' _ ls C' (hR.set hd ?_ e3 hz) (hS.put e2 e3 (AG_in hd)) hl
  rw [hct']
  exact ⟨_, hcl, t_OB.to (V := updV (vp_V fs) k (.int x)) ⟨_, e1, q2, q3, t_set q4 hap hk (.int x)⟩ (fun j _ => vp_updV_set hlen (.int x) j)⟩
theorem K_putL {t i p ci idx k N n : Nat} {C : String} {T : u_T} {fs : List Value} {x : Int64} {ty : FieldType} (hdg : decode cc pc = .ok (.putfield idx, 3)) (hcl : vwCl[ci]? = some (C, T, N)) (hin : ∀ w ∈ u_ws C T N, w ∈ UW) (ty0 : Nat → FieldType) (hty : ∀ k, k < N → parseFieldDescriptor (T k).2.2.1 = some (ty0 k)) (hnm : ∀ a, a < N → ∀ b, b < N → a ≠ b → (T a).2.1 ≠ (T b).2.1) (hlink : Cond.fieldLink own idx (T k).1 (T k).2.1 (T k).2.2.1 ∈ UW) (hk : k < N) (hfin : (T k).2.2.2 = false) (hd0 : parseFieldDescriptor (T k).2.2.1 = some ty) (hn : narrow ty (.long x) = .long x) (hfit : fits ty (.long x) = true) (hlen : k < fs.length)
    (hd : dm t i p) (hct : ct G μ t i p = .inr (ci, fs)) (hct' : ct G (mlset μ n x) t i p = .inr (ci, fs.set k (.long x))) (hz : t = 15 ∧ n = 0 ∨ 21 ≤ t ∧ 1 ≤ n) (kk : K l G R own cc nL ret X Z (mlset μ n x) (pc + 3) lv st) : K l G R own cc nL ret X Z μ pc lv (.long x :: .ref (adr G t i p) :: st) := by
  intro p' e s m args below meth c H locs ls C' hR hS hl
  have hts := C'.2.2.2.2.2.2.1
  have hown := C'.2.2.2.2.2.1
  have hK := C'.2.2.2.2.2.2.2.1.1
  have hap := va_apart (own := own) hts hin ty0 hty hnm hK hcl
  have h0 := hR.1 t i p hd
  rw [hct] at h0
  obtain ⟨r, h1, cell, q1, q2, q3, q4⟩ := h0
  have hr : r = (C, T, N) := Option.some.inj (h1.symm.trans hcl)
  subst hr
  obtain ⟨hSl, hfc, kC, hkC, hkind⟩ := hK.1 ci _ hcl
  obtain ⟨cf, kf, fi, f, hi, hsl⟩ := hSl k hk
  have hlay := hts _ (hin _ (u_in_lay hk))
  unfold u_lay at hlay
  rw [if_neg (by rw [hfin]; decide)] at hlay
  have hst := (u_facts hfc hkC (u_lays hts hin hk) hi).1
  have h6 := u_store hfc hkC hkind hlay hi hd0 hn hfit
  refine W.putK C'.1 C'.2.1 (f := f) ⟨hown, hts _ hlink, ⟨_, _, _, hi⟩, hst⟩ (by rw [q2]; exact h6) q1 q3 (by rw [hsl]; exact k2_hasslot (q4 k hk)) rfl rfl hdg fun H' e1 e2 e3 => ?_
  rw [hsl] at e1 ⊢
  refine kk p' e s m args below meth c H' _ ls C' (hR.lset hd hz ?_ e3) (hS.put e2 e3 (AG_in hd)) hl
  rw [hct']
  exact ⟨_, hcl, t_OB.to (V := updV (vp_V fs) k (.long x)) ⟨_, e1, q2, q3, t_set q4 hap hk (.long x)⟩ (fun j _ => vp_updV_set hlen (.long x) j)⟩
theorem K_iald {t i p n j : Nat} {f : Nat → Int32} (hdg : decode cc pc = .ok (.iaload, 1)) (hd : dm t i p) (hct : ct G μ t i p = .inl (G.2.1 0, n, .inl f)) (hn : n < 2 ^ 31) (hj : j < n) (kk : K l G R own cc nL ret X Z μ (pc + 1) lv (.int (f j) :: st)) : K l G R own cc nL ret X Z μ pc lv (.int (nI j) :: .ref (adr G t i p) :: st) := by
  intro p' e s m args below meth c H locs ls C' hR hS hl
  refine va_iald C'.1 C'.2.1 C'.2.2.2.2.2.2.2.1.1 (hR.one hd hct) 0 0 rfl rfl (vp_inN hj hn) hdg ?_
  rw [nI_clamp (by omega)]
  exact kk p' e s m args below meth c H locs ls C' hR hS hl
theorem K_iast {t i p n j : Nat} {f : Nat → Int32} {x : Int32} (hdg : decode cc pc = .ok (.iastore, 1)) (hd : dm t i p) (hct : ct G μ t i p = .inl (G.2.1 0, n, .inl f)) (hct' : ct G (mset μ t i p j x) t i p = .inl (G.2.1 0, n, .inl (upd f j x))) (hn : n < 2 ^ 31) (hj : j < n) (ht8 : ¬ t = 8) (kk : K l G R own cc nL ret X Z (mset μ t i p j x) (pc + 1) lv st) : K l G R own cc nL ret X Z μ pc lv (.int x :: .int (nI j) :: .ref (adr G t i p) :: st) := by
  intro p' e s m args below meth c H locs ls C' hR hS hl
  have hK := C'.2.2.2.2.2.2.2.1.1
  have h0 := hR.1 t i p hd
  rw [hct] at h0
  have hin : vp_in (nI j) n := vp_inN hj hn
  refine W.iast C'.1 C'.2.1 h0 ((hK.2 0 _ rfl).1 n (fun j => .int (f j))) (fun q => by cases q) (by show ¬ (_ < 0 ∨ (arrV _ _ _).slots.size ≤ _); rw [arrV_size]; exact hin) rfl rfl hdg fun H1 e1 z oq => ?_
  refine kk p' e s m args below meth c H1 _ ls C' (hR.set hd ?_ oq (fun q => absurd q ht8)) (hS.put z oq (AG_in hd)) hl
  rw [hct']
  show H1[adr G t i p]? = some (vp_cell _ _)
  rw [e1, vp_cell_i, vp_cell_i, arrV_store, nI_clamp (by omega)]
  congr 2
  funext q
  by_cases hq : q = j
  · subst hq
    simp [updV, upd]
  · simp [updV, upd, hq]
theorem K_aald {t i p n t0 j a : Nat} {C : String} {cA : ClassId} {f : Nat → Option Nat} (hdg : decode cc pc = .ok (.aaload, 1)) (hd : dm t i p) (hct : ct G μ t i p = .inl (cA, n, .inr (.inr (.inr (.inr f))))) (ht : (tysG G)[t0]? = some (cA, .object C)) (hn : n < 2 ^ 31) (hj : j < n) (hf : f j = some a) (kk : K l G R own cc nL ret X Z μ (pc + 1) lv (.ref a :: st)) : K l G R own cc nL ret X Z μ pc lv (.int (nI j) :: .ref (adr G t i p) :: st) := by
  intro p' e s m args below meth c H locs ls C' hR hS hl
  refine va_aldq C'.1 C'.2.1 C'.2.2.2.2.2.2.2.1.1 (hR.one hd hct) 0 t0 rfl ht (vp_inN hj hn) hdg ?_
  rw [nI_clamp (by omega), hf]
  exact kk p' e s m args below meth c H locs ls C' hR hS hl
theorem K_min {idx : Nat} {x y : Int32} (hdg : decode cc pc = .ok (.invokestatic idx, 3)) (hl1 : Cond.methodLink own idx Lib.Math.min.name ∈ UW) (hl2 : Cond.static Lib.Math.min.name ∈ UW) (hl3 : Cond.initialized "java/lang/Math" ∈ UW) (hl4 : Cond.code Lib.Math.min.name Lib.Math.min.code 2 (some .int) ∈ UW) (hf : 1 ≤ R.frames) (hlo : (st.map fun v => v.category).sum + 13 ≤ R.locals) (kk : K l G R own cc nL ret X Z μ (pc + 3) lv (.int (mini x y) :: st)) : K l G R own cc nL ret X Z μ pc lv (.int y :: .int x :: st) := by
  intro p e s m args below meth c H locs ls C hR hS hl
  have hts := C.2.2.2.2.2.2.1
  exact va_mmin C.1 C.2.1 (C.2.2.1.trans hl.1.symm) C.2.2.2.2.2.1 (hts _ hl1) (hts _ hl2) (hts _ hl3) (hts _ hl4) hf hlo (Nat.zero_le _) (Nat.zero_le _) hdg (kk p e s m args below meth c H locs ls C hR hS hl)
theorem K_max {idx : Nat} {x y : Int32} (hdg : decode cc pc = .ok (.invokestatic idx, 3)) (hl1 : Cond.methodLink own idx Lib.Math.max.name ∈ UW) (hl2 : Cond.static Lib.Math.max.name ∈ UW) (hl3 : Cond.initialized "java/lang/Math" ∈ UW) (hl4 : Cond.code Lib.Math.max.name Lib.Math.max.code 2 (some .int) ∈ UW) (hf : 1 ≤ R.frames) (hlo : (st.map fun v => v.category).sum + 13 ≤ R.locals) (kk : K l G R own cc nL ret X Z μ (pc + 3) lv (.int (maxi x y) :: st)) : K l G R own cc nL ret X Z μ pc lv (.int y :: .int x :: st) := by
  intro p e s m args below meth c H locs ls C hR hS hl
  have hts := C.2.2.2.2.2.2.1
  exact va_mmax C.1 C.2.1 (C.2.2.1.trans hl.1.symm) C.2.2.2.2.2.1 (hts _ hl1) (hts _ hl2) (hts _ hl3) (hts _ hl4) hf hlo (Nat.zero_le _) (Nat.zero_le _) hdg (kk p e s m args below meth c H locs ls C hR hS hl)
end KMEM
end
section
def MkV (y : MethodName) (bytes : ByteArray) (maxL : Nat) (ret : Option FieldType) (n : Nat) : Prop := Cond.instanceMethod y ∈ UW ∧ Cond.selects y.cls y y ∈ UW ∧ Cond.initialized y.cls ∈ UW ∧ Cond.code y bytes maxL ret ∈ UW ∧ y.cls ≠ "java/lang/invoke/MethodHandle" ∧ y.cls ≠ "java/lang/invoke/VarHandle" ∧ (parseMethodDescriptor y.desc).map (fun d => d.parameters.length) = some n
def MkS (y : MethodName) (bytes : ByteArray) (maxL : Nat) (ret : Option FieldType) (n : Nat) : Prop := Cond.static y ∈ UW ∧ Cond.initialized y.cls ∈ UW ∧ Cond.code y bytes maxL ret ∈ UW ∧ y.cls ≠ "java/lang/invoke/MethodHandle" ∧ y.cls ≠ "java/lang/invoke/VarHandle" ∧ (parseMethodDescriptor y.desc).map (fun d => d.parameters.length) = some n
theorem UW_in {ws : List Cond} (h : ∀ w ∈ ws, w ∈ UW) : GoodIn UW ws := fun w hw => ⟨h w hw, UW_good (h w hw)⟩
theorem UW_cons {w : Cond} (h : w ∈ UW) : ∀ w' ∈ w :: UW, w' ∈ UW := fun _ h' => (List.mem_cons.mp h').elim (fun e => e ▸ h) id
theorem PcK_blind {G : WG} {av : List Value} {μ : Mem} : FrameBlind (PcK G av μ) := fun _ _ _ _ q => ⟨q.1, q.2.1, q.2.2.same rfl rfl⟩
theorem va_S_go {A : Nat → Prop} {H0 H : Heap} {st0 t T' : State} {locs L : List Loc} (hS : va_S A H0 H locs) (h0 : st0.heap = H) (e1 : T'.heap = t.heap) (hF : va_F A st0 t) (hL : ∀ q ∈ L, A q.base) : va_S A H0 T'.heap (locs ++ L) := by
  obtain ⟨hz, hk⟩ := hF
  rw [h0] at hz hk
  refine ⟨Nat.le_trans hS.1 (by rw [e1]; exact hz), fun q h1 h2 => ?_, fun q hq => ?_⟩
  · rw [e1, hk q (Nat.lt_of_lt_of_le h1 hS.1) h2]
    exact hS.2.1 q h1 h2
  · rcases List.mem_append.mp hq with h | h
    · exact hS.2.2 q h
    · exact hL q h
section KCALL
variable {l : Launch} {G : WG} {R : Room} {own : String} {cc : ByteArray} {nL : Nat} {ret : Option FieldType} {X : Code → Prop} {Z : Zz} {μ μ' : Mem} {pc : Nat} {lv : Lv} {st : List Value}
variable {d' idx maxL : Nat} {y : MethodName} {bytes : ByteArray} {ret' : Option FieldType} {r : Option Value} {As rest : List Value}
/-- what a call that ran leaves to the rest of the walk -/
theorem K_after {p : Program} {e : Env} {s : State} {m : MethodId} {args : Array Value} {below : List Frame} {meth : Method} {c : Code} {H : Heap} {locs : List Loc} {ls : Array Slot} {a : Array Value} (C' : Cx G own cc nL ret X p s m args meth c) (hS : va_S (AG G) s.heap H locs) (hl : lv_has ls nL lv)
    (hr : va_Run p l e R s m args below meth c H locs 0 0 0 0 (F0 m pc ls st) rest (QcK G (Qe r μ') a) (AG G)) (kk : K l G R own cc nL ret X Z μ' (pc + 3) lv (r.toList ++ rest)) : W p l e R s m args below meth c H locs 0 0 (Z below args s) (F0 m pc ls st) := by
  intro T hT X0
  obtain ⟨v, st₀, t, T', L, h0, X', hL, e1, e2, ⟨⟨r1, μ1, ho, ⟨hr1, hμ1⟩, hRep⟩, hF⟩, stp⟩ := hr T hT X0
  cases ho
  subst hr1 hμ1
  obtain ⟨t2, a1, b1⟩ := kk p e s m args below meth c T'.heap (locs ++ L) ls C' (by rw [e1]; exact hRep) (va_S_go hS h0 e1 hF hL) hl T' rfl X'
  exact ⟨t2, stp t2 a1, b1⟩
theorem K_callV {t i p ci N : Nat} {T : u_T} {fs : List Value} (hC : Ct l G d' y bytes maxL ret' (.ref (adr G t i p) :: As) μ r μ') (hm : MkV y bytes maxL ret' As.length) (hlink : Cond.methodLink own idx y ∈ UW) (hd : d' + 1 ≤ R.frames ∧ 8 + (maxL + 11) + 34 * d' ≤ R.locals) (hdm : dm t i p) (hct : ct G μ t i p = .inr (ci, fs)) (hcl : vwCl[ci]? = some (y.cls, T, N)) (hst : st = As.reverse ++ .ref (adr G t i p) :: rest) (hW : (rest.map fun v => v.category).sum ≤ 8) (hdg : decode cc pc = .ok (.invokevirtual idx, 3)) (kk : K l G R own cc nL ret X Z μ' (pc + 3) lv (r.toList ++ rest)) : K l G R own cc nL ret X Z μ pc lv st := by
  intro p' e s m args below meth c H locs ls C' hR hS hl
  have hts := C'.2.2.2.2.2.2.1
  have hE := C'.2.2.2.2.2.2.2.1
  obtain ⟨m1, m2, m3, m4, m5, m6, m7⟩ := hm
  have cw : CallW R s args own y.cls idx y bytes maxL ret' (.code y bytes maxL ret' :: UW) (rmD d') 0 0 As.length := by
    refine cwV As.length hts (UW_in ?_) rfl rfl rfl ⟨rfl, m5, m6, m7⟩ hd
    intro w hw
    rcases List.mem_append.mp hw with h | h
    · simp only [List.mem_cons, List.not_mem_nil, or_false] at h
      rcases h with rfl | rfl | rfl | rfl
      · exact hlink
      · exact m1
      · exact m2
      · exact m3
    · exact UW_cons m4 w h
  exact K_after C' hS hl (va_runV (rest := rest) ⟨C'.1, C'.2.1, C'.2.2.1, C'.2.2.2.2.2.1, hts⟩ hC cw ⟨PcK_blind, va_recv (q0 := 0) hE.1 (hR.one hdm hct) hcl rfl, fun U hU hW => ⟨rfl, by rw [hU]; exact hR, hE.go hW (by rw [hU]; exact hS)⟩⟩ rfl rfl hl.1 hst (lv_room hW) hdg ⟨Nat.zero_le _, Nat.zero_le _⟩) kk
theorem K_callS (hC : Ct l G d' y bytes maxL ret' As μ r μ') (hm : MkS y bytes maxL ret' As.length) (hlink : Cond.methodLink own idx y ∈ UW) (hown : y.cls = own) (hd : d' + 1 ≤ R.frames ∧ 8 + (maxL + 11) + 34 * d' ≤ R.locals) (hst : st = As.reverse ++ rest) (hW : (rest.map fun v => v.category).sum ≤ 8) (hdg : decode cc pc = .ok (.invokestatic idx, 3)) (kk : K l G R own cc nL ret X Z μ' (pc + 3) lv (r.toList ++ rest)) : K l G R own cc nL ret X Z μ pc lv st := by
  intro p' e s m args below meth c H locs ls C' hR hS hl
  have hts := C'.2.2.2.2.2.2.1
  have hE := C'.2.2.2.2.2.2.2.1
  obtain ⟨m1, m2, m3, m4, m5, m6⟩ := hm
  have cw : CallB R s args own idx y bytes maxL ret' (.code y bytes maxL ret' :: UW) (rmD d') 0 0 As.length ∧ (Cond.static y).before args s = true := by
    refine cwS As.length hts (UW_in ?_) rfl rfl rfl ⟨hown, m4, m5, m6⟩ hd
    intro w hw
    rcases List.mem_append.mp hw with h | h
    · simp only [List.mem_cons, List.not_mem_nil, or_false] at h
      rcases h with rfl | rfl | rfl
      · exact hlink
      · exact m1
      · exact hown ▸ m2
    · exact UW_cons m3 w h
  exact K_after C' hS hl (va_runS (rest := rest) ⟨C'.1, C'.2.1, C'.2.2.1, C'.2.2.2.2.2.1, hts⟩ hC cw ⟨PcK_blind, fun U hU hW => ⟨rfl, by rw [hU]; exact hR, hE.go hW (by rw [hU]; exact hS)⟩⟩ rfl rfl hl.1 hst (lv_room hW) hdg ⟨Nat.zero_le _, Nat.zero_le _⟩) kk
/-- a static method of the host, private -/
theorem K_callN {host : String} (hC : Ct l G d' y bytes maxL ret' As μ r μ') (hm : MkS y bytes maxL ret' As.length) (hlink : (own, idx, y, host) ∈ nwM) (hd : d' + 1 ≤ R.frames ∧ 8 + (maxL + 11) + 34 * d' ≤ R.locals) (hst : st = As.reverse ++ rest) (hW : (rest.map fun v => v.category).sum ≤ 8) (hdg : decode cc pc = .ok (.invokestatic idx, 3)) (kk : K l G R own cc nL ret X Z μ' (pc + 3) lv (r.toList ++ rest)) : K l G R own cc nL ret X Z μ pc lv st := by
  intro p' e s m args below meth c H locs ls C' hR hS hl
  have hts := C'.2.2.2.2.2.2.1
  have hE := C'.2.2.2.2.2.2.2.1
  obtain ⟨m1, m2, m3, m4, m5, m6⟩ := hm
  have cw : va_CN R s args own idx y host bytes maxL ret' (.code y bytes maxL ret' :: UW) (rmD d') 0 0 As.length := va_cnB As.length hts (UW_in (UW_cons m3)) rfl rfl rfl (hE.2.1.1 _ hlink) (hts _ m2) ⟨m4, m5, m6⟩ hd
  exact K_after C' hS hl (va_runSN (rest := rest) ⟨C'.1, C'.2.1, C'.2.2.1, C'.2.2.2.2.2.1, hts⟩ hC ⟨cw, hts _ m1, trivial⟩ ⟨PcK_blind, fun U hU hW => ⟨rfl, by rw [hU]; exact hR, hE.go hW (by rw [hU]; exact hS)⟩⟩ rfl rfl hl.1 hst (lv_room hW) hdg ⟨Nat.zero_le _, Nat.zero_le _⟩) kk
end KCALL
section KRET
variable {l : Launch} {G : WG} {R : Room} {own : String} {cc : ByteArray} {nL : Nat} {X : Code → Prop} {Q : Option Value → Mem → Prop} {μ : Mem} {pc : Nat} {lv : Lv}
theorem K_iret {v : Int32} (hdg : decode cc pc = .ok (.ireturn, 1)) (hQ : Q (some (.int v)) μ) : K l G R own cc nL (some .int) X (ZR G Q) μ pc lv [.int v] := by
  intro p e s m args below meth c H locs ls C hR hS hl
  exact W.iret C.1 C.2.1 C.2.2.2.1 (fun t ht hW => ⟨⟨_, μ, rfl, hQ, by rw [ht]; exact hR⟩, hS.F ht⟩) hS.2.2 hdg C.2.2.2.2.1
theorem K_zret {v : Int32} {b : Bool} (hv : v = b2i b) (hdg : decode cc pc = .ok (.ireturn, 1)) (hQ : Q (some (.int (b2i b))) μ) : K l G R own cc nL (some .boolean) X (ZR G Q) μ pc lv [.int v] := by
  intro p e s m args below meth c H locs ls C hR hS hl
  subst hv
  exact W.zret C.1 C.2.1 C.2.2.2.1 (by cases b <;> rfl) (fun t ht hW => ⟨⟨_, μ, rfl, hQ, by rw [ht]; exact hR⟩, hS.F ht⟩) hS.2.2 hdg C.2.2.2.2.1
theorem K_lret {v : Int64} (hdg : decode cc pc = .ok (.lreturn, 1)) (hQ : Q (some (.long v)) μ) : K l G R own cc nL (some .long) X (ZR G Q) μ pc lv [.long v] := by
  intro p e s m args below meth c H locs ls C hR hS hl
  exact W.lret C.1 C.2.1 C.2.2.2.1 (fun t ht hW => ⟨⟨_, μ, rfl, hQ, by rw [ht]; exact hR⟩, hS.F ht⟩) hS.2.2 hdg C.2.2.2.2.1
theorem K_dret {v : UInt64} (hdg : decode cc pc = .ok (.dreturn, 1)) (hQ : Q (some (.double v)) μ) : K l G R own cc nL (some .double) X (ZR G Q) μ pc lv [.double v] := by
  intro p e s m args below meth c H locs ls C hR hS hl
  exact W.dret C.1 C.2.1 C.2.2.2.1 (fun t ht hW => ⟨⟨_, μ, rfl, hQ, by rw [ht]; exact hR⟩, hS.F ht⟩) hS.2.2 hdg C.2.2.2.2.1
theorem K_vret (hdg : decode cc pc = .ok (.return_, 1)) (hQ : Q none μ) : K l G R own cc nL none X (ZR G Q) μ pc lv [] := by
  intro p e s m args below meth c H locs ls C hR hS hl
  exact W.vret C.1 C.2.1 C.2.2.2.1 (fun t ht hW => ⟨⟨_, μ, rfl, hQ, by rw [ht]; exact hR⟩, hS.F ht⟩) hS.2.2 hdg C.2.2.2.2.1
end KRET
end
