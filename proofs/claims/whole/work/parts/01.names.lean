-- ===== PART A: goes FIRST, ahead of the names: the tables' words, and 'selects' of the private methods out of them =====
/-- a private method of a class that the tables say can be made, by its rows of tables_1 -/
def lw_okq (q : MethodName × Nat) : Prop := (q.1.cls ≠ "java/lang/invoke/MethodHandle" ∧ q.1.cls ≠ "java/lang/invoke/VarHandle") ∧ Cond.instantiable q.1.cls q.2 ∈ tables_1 ∧ Cond.privateMethod q.1 ∈ tables_1 ∧ Cond.instanceMethod q.1 ∈ tables_1
theorem lw_p0 : lw_okq (⟨"CallLaws", "found", "(I)I"⟩, 9) := ⟨⟨by decide +kernel, by decide +kernel⟩, List.mem_of_getElem? (i := 18) (by decide +kernel), List.mem_of_getElem? (i := 293) (by decide +kernel), List.mem_of_getElem? (i := 294) (by decide +kernel)⟩
theorem lw_p1 : lw_okq (⟨"CallLaws", "well", "(I)I"⟩, 9) := ⟨⟨by decide +kernel, by decide +kernel⟩, List.mem_of_getElem? (i := 18) (by decide +kernel), List.mem_of_getElem? (i := 302) (by decide +kernel), List.mem_of_getElem? (i := 303) (by decide +kernel)⟩
theorem lw_p2 : lw_okq (⟨"CallLaws", "askSize", "(III)I"⟩, 9) := ⟨⟨by decide +kernel, by decide +kernel⟩, List.mem_of_getElem? (i := 18) (by decide +kernel), List.mem_of_getElem? (i := 707) (by decide +kernel), List.mem_of_getElem? (i := 708) (by decide +kernel)⟩
theorem lw_p3 : lw_okq (⟨"CallLaws", "sizeOfGiven", "(I)I"⟩, 9) := ⟨⟨by decide +kernel, by decide +kernel⟩, List.mem_of_getElem? (i := 18) (by decide +kernel), List.mem_of_getElem? (i := 711) (by decide +kernel), List.mem_of_getElem? (i := 712) (by decide +kernel)⟩
theorem lw_p4 : lw_okq (⟨"CallLaws", "leave", "(I)V"⟩, 9) := ⟨⟨by decide +kernel, by decide +kernel⟩, List.mem_of_getElem? (i := 18) (by decide +kernel), List.mem_of_getElem? (i := 715) (by decide +kernel), List.mem_of_getElem? (i := 716) (by decide +kernel)⟩
theorem lw_p5 : lw_okq (⟨"CallLaws", "sizeLent", "(I)I"⟩, 9) := ⟨⟨by decide +kernel, by decide +kernel⟩, List.mem_of_getElem? (i := 18) (by decide +kernel), List.mem_of_getElem? (i := 719) (by decide +kernel), List.mem_of_getElem? (i := 720) (by decide +kernel)⟩
theorem lw_p6 : lw_okq (⟨"CallLaws", "sizeOfBefore", "(I)I"⟩, 9) := ⟨⟨by decide +kernel, by decide +kernel⟩, List.mem_of_getElem? (i := 18) (by decide +kernel), List.mem_of_getElem? (i := 723) (by decide +kernel), List.mem_of_getElem? (i := 724) (by decide +kernel)⟩
theorem lw_p7 : lw_okq (⟨"CallLaws", "sizeOfRefuses", "(III)I"⟩, 9) := ⟨⟨by decide +kernel, by decide +kernel⟩, List.mem_of_getElem? (i := 18) (by decide +kernel), List.mem_of_getElem? (i := 727) (by decide +kernel), List.mem_of_getElem? (i := 728) (by decide +kernel)⟩
theorem lw_p8 : lw_okq (⟨"CallLaws", "askMark", "(III)I"⟩, 9) := ⟨⟨by decide +kernel, by decide +kernel⟩, List.mem_of_getElem? (i := 18) (by decide +kernel), List.mem_of_getElem? (i := 731) (by decide +kernel), List.mem_of_getElem? (i := 732) (by decide +kernel)⟩
theorem lw_p9 : lw_okq (⟨"CallLaws", "markOfGiven", "(I)I"⟩, 9) := ⟨⟨by decide +kernel, by decide +kernel⟩, List.mem_of_getElem? (i := 18) (by decide +kernel), List.mem_of_getElem? (i := 735) (by decide +kernel), List.mem_of_getElem? (i := 736) (by decide +kernel)⟩
theorem lw_p10 : lw_okq (⟨"CallLaws", "markLent", "(I)I"⟩, 9) := ⟨⟨by decide +kernel, by decide +kernel⟩, List.mem_of_getElem? (i := 18) (by decide +kernel), List.mem_of_getElem? (i := 739) (by decide +kernel), List.mem_of_getElem? (i := 740) (by decide +kernel)⟩
theorem lw_p11 : lw_okq (⟨"CallLaws", "markOfLoose", "(III)I"⟩, 9) := ⟨⟨by decide +kernel, by decide +kernel⟩, List.mem_of_getElem? (i := 18) (by decide +kernel), List.mem_of_getElem? (i := 743) (by decide +kernel), List.mem_of_getElem? (i := 744) (by decide +kernel)⟩
theorem lw_p12 : lw_okq (⟨"CallLaws", "markOfQuarrel", "(I)I"⟩, 9) := ⟨⟨by decide +kernel, by decide +kernel⟩, List.mem_of_getElem? (i := 18) (by decide +kernel), List.mem_of_getElem? (i := 747) (by decide +kernel), List.mem_of_getElem? (i := 748) (by decide +kernel)⟩
theorem lw_p13 : lw_okq (⟨"CallLaws", "sizeOfQuarrel", "(I)I"⟩, 9) := ⟨⟨by decide +kernel, by decide +kernel⟩, List.mem_of_getElem? (i := 18) (by decide +kernel), List.mem_of_getElem? (i := 751) (by decide +kernel), List.mem_of_getElem? (i := 752) (by decide +kernel)⟩
theorem lw_p14 : lw_okq (⟨"CallLaws", "countSheets", "()I"⟩, 9) := ⟨⟨by decide +kernel, by decide +kernel⟩, List.mem_of_getElem? (i := 18) (by decide +kernel), List.mem_of_getElem? (i := 763) (by decide +kernel), List.mem_of_getElem? (i := 764) (by decide +kernel)⟩
theorem lw_p15 : lw_okq (⟨"CallLawsModel", "finding", "(I)I"⟩, 44) := ⟨⟨by decide +kernel, by decide +kernel⟩, List.mem_of_getElem? (i := 784) (by decide +kernel), List.mem_of_getElem? (i := 938) (by decide +kernel), List.mem_of_getElem? (i := 939) (by decide +kernel)⟩
def lw_privs_1 : List (MethodName × Nat) := [(⟨"CallLaws", "found", "(I)I"⟩, 9), (⟨"CallLaws", "well", "(I)I"⟩, 9), (⟨"CallLaws", "askSize", "(III)I"⟩, 9), (⟨"CallLaws", "sizeOfGiven", "(I)I"⟩, 9), (⟨"CallLaws", "leave", "(I)V"⟩, 9), (⟨"CallLaws", "sizeLent", "(I)I"⟩, 9), (⟨"CallLaws", "sizeOfBefore", "(I)I"⟩, 9), (⟨"CallLaws", "sizeOfRefuses", "(III)I"⟩, 9), (⟨"CallLaws", "askMark", "(III)I"⟩, 9), (⟨"CallLaws", "markOfGiven", "(I)I"⟩, 9), (⟨"CallLaws", "markLent", "(I)I"⟩, 9), (⟨"CallLaws", "markOfLoose", "(III)I"⟩, 9), (⟨"CallLaws", "markOfQuarrel", "(I)I"⟩, 9), (⟨"CallLaws", "sizeOfQuarrel", "(I)I"⟩, 9), (⟨"CallLaws", "countSheets", "()I"⟩, 9), (⟨"CallLawsModel", "finding", "(I)I"⟩, 44)]
theorem lw_r1 : ∀ q ∈ lw_privs_1, lw_okq q := List.forall_mem_cons.mpr ⟨lw_p0, List.forall_mem_cons.mpr ⟨lw_p1, List.forall_mem_cons.mpr ⟨lw_p2, List.forall_mem_cons.mpr ⟨lw_p3, List.forall_mem_cons.mpr ⟨lw_p4, List.forall_mem_cons.mpr ⟨lw_p5, List.forall_mem_cons.mpr ⟨lw_p6, List.forall_mem_cons.mpr ⟨lw_p7, List.forall_mem_cons.mpr ⟨lw_p8, List.forall_mem_cons.mpr ⟨lw_p9, List.forall_mem_cons.mpr ⟨lw_p10, List.forall_mem_cons.mpr ⟨lw_p11, List.forall_mem_cons.mpr ⟨lw_p12, List.forall_mem_cons.mpr ⟨lw_p13, List.forall_mem_cons.mpr ⟨lw_p14, List.forall_mem_cons.mpr ⟨lw_p15, fun _ h => absurd h List.not_mem_nil⟩⟩⟩⟩⟩⟩⟩⟩⟩⟩⟩⟩⟩⟩⟩⟩
theorem lw_p16 : lw_okq (⟨"CallLawsModel", "next", "()V"⟩, 44) := ⟨⟨by decide +kernel, by decide +kernel⟩, List.mem_of_getElem? (i := 784) (by decide +kernel), List.mem_of_getElem? (i := 966) (by decide +kernel), List.mem_of_getElem? (i := 967) (by decide +kernel)⟩
theorem lw_p17 : lw_okq (⟨"CallLawsModel", "byteAt", "(I)I"⟩, 44) := ⟨⟨by decide +kernel, by decide +kernel⟩, List.mem_of_getElem? (i := 784) (by decide +kernel), List.mem_of_getElem? (i := 970) (by decide +kernel), List.mem_of_getElem? (i := 971) (by decide +kernel)⟩
theorem lw_p18 : lw_okq (⟨"CallLawsModel", "readOne", "()V"⟩, 44) := ⟨⟨by decide +kernel, by decide +kernel⟩, List.mem_of_getElem? (i := 784) (by decide +kernel), List.mem_of_getElem? (i := 980) (by decide +kernel), List.mem_of_getElem? (i := 981) (by decide +kernel)⟩
theorem lw_p19 : lw_okq (⟨"CallLawsModel", "word", "()J"⟩, 44) := ⟨⟨by decide +kernel, by decide +kernel⟩, List.mem_of_getElem? (i := 784) (by decide +kernel), List.mem_of_getElem? (i := 984) (by decide +kernel), List.mem_of_getElem? (i := 985) (by decide +kernel)⟩
theorem lw_p20 : lw_okq (⟨"CallLawsModel", "bad", "(I)V"⟩, 44) := ⟨⟨by decide +kernel, by decide +kernel⟩, List.mem_of_getElem? (i := 784) (by decide +kernel), List.mem_of_getElem? (i := 989) (by decide +kernel), List.mem_of_getElem? (i := 990) (by decide +kernel)⟩
theorem lw_p21 : lw_okq (⟨"CallLawsModel", "must", "(Z)V"⟩, 44) := ⟨⟨by decide +kernel, by decide +kernel⟩, List.mem_of_getElem? (i := 784) (by decide +kernel), List.mem_of_getElem? (i := 996) (by decide +kernel), List.mem_of_getElem? (i := 997) (by decide +kernel)⟩
theorem lw_p22 : lw_okq (⟨"CallLawsModel", "readEdition", "()V"⟩, 44) := ⟨⟨by decide +kernel, by decide +kernel⟩, List.mem_of_getElem? (i := 784) (by decide +kernel), List.mem_of_getElem? (i := 1000) (by decide +kernel), List.mem_of_getElem? (i := 1001) (by decide +kernel)⟩
theorem lw_p23 : lw_okq (⟨"CallLawsModel", "numberHere", "()I"⟩, 44) := ⟨⟨by decide +kernel, by decide +kernel⟩, List.mem_of_getElem? (i := 784) (by decide +kernel), List.mem_of_getElem? (i := 1004) (by decide +kernel), List.mem_of_getElem? (i := 1005) (by decide +kernel)⟩
theorem lw_p24 : lw_okq (⟨"CallLawsModel", "readRule", "(I)V"⟩, 44) := ⟨⟨by decide +kernel, by decide +kernel⟩, List.mem_of_getElem? (i := 784) (by decide +kernel), List.mem_of_getElem? (i := 1009) (by decide +kernel), List.mem_of_getElem? (i := 1010) (by decide +kernel)⟩
theorem lw_p25 : lw_okq (⟨"CallLawsModel", "numberIn", "(III)I"⟩, 44) := ⟨⟨by decide +kernel, by decide +kernel⟩, List.mem_of_getElem? (i := 784) (by decide +kernel), List.mem_of_getElem? (i := 1013) (by decide +kernel), List.mem_of_getElem? (i := 1014) (by decide +kernel)⟩
theorem lw_p26 : lw_okq (⟨"CallLawsModel", "mustRefuseOrGive", "()V"⟩, 44) := ⟨⟨by decide +kernel, by decide +kernel⟩, List.mem_of_getElem? (i := 784) (by decide +kernel), List.mem_of_getElem? (i := 1018) (by decide +kernel), List.mem_of_getElem? (i := 1019) (by decide +kernel)⟩
theorem lw_p27 : lw_okq (⟨"CallLawsModel", "readSaying", "()V"⟩, 44) := ⟨⟨by decide +kernel, by decide +kernel⟩, List.mem_of_getElem? (i := 784) (by decide +kernel), List.mem_of_getElem? (i := 1023) (by decide +kernel), List.mem_of_getElem? (i := 1024) (by decide +kernel)⟩
theorem lw_p28 : lw_okq (⟨"CallLawsModel", "readWithin", "()V"⟩, 44) := ⟨⟨by decide +kernel, by decide +kernel⟩, List.mem_of_getElem? (i := 784) (by decide +kernel), List.mem_of_getElem? (i := 1027) (by decide +kernel), List.mem_of_getElem? (i := 1028) (by decide +kernel)⟩
theorem lw_p29 : lw_okq (⟨"CallLawsModel", "isEdition", "(II)Z"⟩, 44) := ⟨⟨by decide +kernel, by decide +kernel⟩, List.mem_of_getElem? (i := 784) (by decide +kernel), List.mem_of_getElem? (i := 1048) (by decide +kernel), List.mem_of_getElem? (i := 1049) (by decide +kernel)⟩
theorem lw_p30 : lw_okq (⟨"CallLawsModel", "answerOf", "(IIII)I"⟩, 44) := ⟨⟨by decide +kernel, by decide +kernel⟩, List.mem_of_getElem? (i := 784) (by decide +kernel), List.mem_of_getElem? (i := 1053) (by decide +kernel), List.mem_of_getElem? (i := 1054) (by decide +kernel)⟩
theorem lw_p31 : lw_okq (⟨"CallLawsModel", "isSaying", "(I)Z"⟩, 44) := ⟨⟨by decide +kernel, by decide +kernel⟩, List.mem_of_getElem? (i := 784) (by decide +kernel), List.mem_of_getElem? (i := 1064) (by decide +kernel), List.mem_of_getElem? (i := 1065) (by decide +kernel)⟩
def lw_privs_2 : List (MethodName × Nat) := [(⟨"CallLawsModel", "next", "()V"⟩, 44), (⟨"CallLawsModel", "byteAt", "(I)I"⟩, 44), (⟨"CallLawsModel", "readOne", "()V"⟩, 44), (⟨"CallLawsModel", "word", "()J"⟩, 44), (⟨"CallLawsModel", "bad", "(I)V"⟩, 44), (⟨"CallLawsModel", "must", "(Z)V"⟩, 44), (⟨"CallLawsModel", "readEdition", "()V"⟩, 44), (⟨"CallLawsModel", "numberHere", "()I"⟩, 44), (⟨"CallLawsModel", "readRule", "(I)V"⟩, 44), (⟨"CallLawsModel", "numberIn", "(III)I"⟩, 44), (⟨"CallLawsModel", "mustRefuseOrGive", "()V"⟩, 44), (⟨"CallLawsModel", "readSaying", "()V"⟩, 44), (⟨"CallLawsModel", "readWithin", "()V"⟩, 44), (⟨"CallLawsModel", "isEdition", "(II)Z"⟩, 44), (⟨"CallLawsModel", "answerOf", "(IIII)I"⟩, 44), (⟨"CallLawsModel", "isSaying", "(I)Z"⟩, 44)]
theorem lw_r2 : ∀ q ∈ lw_privs_2, lw_okq q := List.forall_mem_cons.mpr ⟨lw_p16, List.forall_mem_cons.mpr ⟨lw_p17, List.forall_mem_cons.mpr ⟨lw_p18, List.forall_mem_cons.mpr ⟨lw_p19, List.forall_mem_cons.mpr ⟨lw_p20, List.forall_mem_cons.mpr ⟨lw_p21, List.forall_mem_cons.mpr ⟨lw_p22, List.forall_mem_cons.mpr ⟨lw_p23, List.forall_mem_cons.mpr ⟨lw_p24, List.forall_mem_cons.mpr ⟨lw_p25, List.forall_mem_cons.mpr ⟨lw_p26, List.forall_mem_cons.mpr ⟨lw_p27, List.forall_mem_cons.mpr ⟨lw_p28, List.forall_mem_cons.mpr ⟨lw_p29, List.forall_mem_cons.mpr ⟨lw_p30, List.forall_mem_cons.mpr ⟨lw_p31, fun _ h => absurd h List.not_mem_nil⟩⟩⟩⟩⟩⟩⟩⟩⟩⟩⟩⟩⟩⟩⟩⟩
theorem lw_p32 : lw_okq (⟨"CallLawsModel", "breaks", "(II)I"⟩, 44) := ⟨⟨by decide +kernel, by decide +kernel⟩, List.mem_of_getElem? (i := 784) (by decide +kernel), List.mem_of_getElem? (i := 1072) (by decide +kernel), List.mem_of_getElem? (i := 1073) (by decide +kernel)⟩
theorem lw_p33 : lw_okq (⟨"CallLawsModel", "isAbout", "(III)Z"⟩, 44) := ⟨⟨by decide +kernel, by decide +kernel⟩, List.mem_of_getElem? (i := 784) (by decide +kernel), List.mem_of_getElem? (i := 1076) (by decide +kernel), List.mem_of_getElem? (i := 1077) (by decide +kernel)⟩
theorem lw_p34 : lw_okq (⟨"CallLawsModel", "wrongIn", "(II)I"⟩, 44) := ⟨⟨by decide +kernel, by decide +kernel⟩, List.mem_of_getElem? (i := 784) (by decide +kernel), List.mem_of_getElem? (i := 1080) (by decide +kernel), List.mem_of_getElem? (i := 1081) (by decide +kernel)⟩
theorem lw_p35 : lw_okq (⟨"CallLawsModel", "isAllowedByAll", "(IIIIII)Z"⟩, 44) := ⟨⟨by decide +kernel, by decide +kernel⟩, List.mem_of_getElem? (i := 784) (by decide +kernel), List.mem_of_getElem? (i := 1088) (by decide +kernel), List.mem_of_getElem? (i := 1089) (by decide +kernel)⟩
theorem lw_p36 : lw_okq (⟨"CallLawsModel", "quarrelOf", "(I)I"⟩, 44) := ⟨⟨by decide +kernel, by decide +kernel⟩, List.mem_of_getElem? (i := 784) (by decide +kernel), List.mem_of_getElem? (i := 1107) (by decide +kernel), List.mem_of_getElem? (i := 1108) (by decide +kernel)⟩
theorem lw_p37 : lw_okq (⟨"CallLawsModel", "doQuarrel", "(II)Z"⟩, 44) := ⟨⟨by decide +kernel, by decide +kernel⟩, List.mem_of_getElem? (i := 784) (by decide +kernel), List.mem_of_getElem? (i := 1111) (by decide +kernel), List.mem_of_getElem? (i := 1112) (by decide +kernel)⟩
theorem lw_p38 : lw_okq (⟨"CallLawsModel", "isKept", "(II)Z"⟩, 44) := ⟨⟨by decide +kernel, by decide +kernel⟩, List.mem_of_getElem? (i := 784) (by decide +kernel), List.mem_of_getElem? (i := 1119) (by decide +kernel), List.mem_of_getElem? (i := 1120) (by decide +kernel)⟩
theorem lw_p39 : lw_okq (⟨"CallLawsModel", "isHouse", "(I)Z"⟩, 44) := ⟨⟨by decide +kernel, by decide +kernel⟩, List.mem_of_getElem? (i := 784) (by decide +kernel), List.mem_of_getElem? (i := 1131) (by decide +kernel), List.mem_of_getElem? (i := 1132) (by decide +kernel)⟩
theorem lw_p40 : lw_okq (⟨"CallLawsModel", "redOf", "(I)I"⟩, 44) := ⟨⟨by decide +kernel, by decide +kernel⟩, List.mem_of_getElem? (i := 784) (by decide +kernel), List.mem_of_getElem? (i := 1139) (by decide +kernel), List.mem_of_getElem? (i := 1140) (by decide +kernel)⟩
theorem lw_p41 : lw_okq (⟨"CallLawsModel", "kindOf", "(I)I"⟩, 44) := ⟨⟨by decide +kernel, by decide +kernel⟩, List.mem_of_getElem? (i := 784) (by decide +kernel), List.mem_of_getElem? (i := 1158) (by decide +kernel), List.mem_of_getElem? (i := 1159) (by decide +kernel)⟩
theorem lw_p42 : lw_okq (⟨"CallLawsModel", "sizeOf", "(II)I"⟩, 44) := ⟨⟨by decide +kernel, by decide +kernel⟩, List.mem_of_getElem? (i := 784) (by decide +kernel), List.mem_of_getElem? (i := 1174) (by decide +kernel), List.mem_of_getElem? (i := 1175) (by decide +kernel)⟩
theorem lw_p43 : lw_okq (⟨"CallLawsModel", "givenSize", "(II)I"⟩, 44) := ⟨⟨by decide +kernel, by decide +kernel⟩, List.mem_of_getElem? (i := 784) (by decide +kernel), List.mem_of_getElem? (i := 1178) (by decide +kernel), List.mem_of_getElem? (i := 1179) (by decide +kernel)⟩
theorem lw_p44 : lw_okq (⟨"CallLawsModel", "began", "(I)V"⟩, 44) := ⟨⟨by decide +kernel, by decide +kernel⟩, List.mem_of_getElem? (i := 784) (by decide +kernel), List.mem_of_getElem? (i := 1182) (by decide +kernel), List.mem_of_getElem? (i := 1183) (by decide +kernel)⟩
theorem lw_p45 : lw_okq (⟨"CallLawsModel", "aboutHowMany", "(I)I"⟩, 44) := ⟨⟨by decide +kernel, by decide +kernel⟩, List.mem_of_getElem? (i := 784) (by decide +kernel), List.mem_of_getElem? (i := 1186) (by decide +kernel), List.mem_of_getElem? (i := 1187) (by decide +kernel)⟩
theorem lw_p46 : lw_okq (⟨"CallLawsModel", "markOf", "(II)I"⟩, 44) := ⟨⟨by decide +kernel, by decide +kernel⟩, List.mem_of_getElem? (i := 784) (by decide +kernel), List.mem_of_getElem? (i := 1193) (by decide +kernel), List.mem_of_getElem? (i := 1194) (by decide +kernel)⟩
theorem lw_p47 : lw_okq (⟨"CallLawsModel", "isKeptBySome", "(I)Z"⟩, 44) := ⟨⟨by decide +kernel, by decide +kernel⟩, List.mem_of_getElem? (i := 784) (by decide +kernel), List.mem_of_getElem? (i := 1205) (by decide +kernel), List.mem_of_getElem? (i := 1206) (by decide +kernel)⟩
def lw_privs_3 : List (MethodName × Nat) := [(⟨"CallLawsModel", "breaks", "(II)I"⟩, 44), (⟨"CallLawsModel", "isAbout", "(III)Z"⟩, 44), (⟨"CallLawsModel", "wrongIn", "(II)I"⟩, 44), (⟨"CallLawsModel", "isAllowedByAll", "(IIIIII)Z"⟩, 44), (⟨"CallLawsModel", "quarrelOf", "(I)I"⟩, 44), (⟨"CallLawsModel", "doQuarrel", "(II)Z"⟩, 44), (⟨"CallLawsModel", "isKept", "(II)Z"⟩, 44), (⟨"CallLawsModel", "isHouse", "(I)Z"⟩, 44), (⟨"CallLawsModel", "redOf", "(I)I"⟩, 44), (⟨"CallLawsModel", "kindOf", "(I)I"⟩, 44), (⟨"CallLawsModel", "sizeOf", "(II)I"⟩, 44), (⟨"CallLawsModel", "givenSize", "(II)I"⟩, 44), (⟨"CallLawsModel", "began", "(I)V"⟩, 44), (⟨"CallLawsModel", "aboutHowMany", "(I)I"⟩, 44), (⟨"CallLawsModel", "markOf", "(II)I"⟩, 44), (⟨"CallLawsModel", "isKeptBySome", "(I)Z"⟩, 44)]
theorem lw_r3 : ∀ q ∈ lw_privs_3, lw_okq q := List.forall_mem_cons.mpr ⟨lw_p32, List.forall_mem_cons.mpr ⟨lw_p33, List.forall_mem_cons.mpr ⟨lw_p34, List.forall_mem_cons.mpr ⟨lw_p35, List.forall_mem_cons.mpr ⟨lw_p36, List.forall_mem_cons.mpr ⟨lw_p37, List.forall_mem_cons.mpr ⟨lw_p38, List.forall_mem_cons.mpr ⟨lw_p39, List.forall_mem_cons.mpr ⟨lw_p40, List.forall_mem_cons.mpr ⟨lw_p41, List.forall_mem_cons.mpr ⟨lw_p42, List.forall_mem_cons.mpr ⟨lw_p43, List.forall_mem_cons.mpr ⟨lw_p44, List.forall_mem_cons.mpr ⟨lw_p45, List.forall_mem_cons.mpr ⟨lw_p46, List.forall_mem_cons.mpr ⟨lw_p47, fun _ h => absurd h List.not_mem_nil⟩⟩⟩⟩⟩⟩⟩⟩⟩⟩⟩⟩⟩⟩⟩⟩
def lw_privs : List (MethodName × Nat) := lw_privs_1 ++ (lw_privs_2 ++ (lw_privs_3))
def lw_tbl : List Cond := k2_sels lw_privs ++ tables_1
theorem lw_privs_ok : ∀ q ∈ lw_privs, lw_okq q := by
  show ∀ q ∈ lw_privs_1 ++ (lw_privs_2 ++ (lw_privs_3)), lw_okq q
  exact List.forall_mem_append.mpr ⟨lw_r1, List.forall_mem_append.mpr ⟨lw_r2, lw_r3⟩⟩
theorem goodIn_r {big : List Cond} (ws : List Cond) (ps : List Nat) (hp : ws = ps.filterMap (fun i => big[i]?)) (h : ws.all goodWord = true) : GoodIn big ws := by
  intro w hw
  have h1 := List.all_eq_true.mp h w hw
  rw [hp] at hw
  obtain ⟨i, -, hi⟩ := List.mem_filterMap.mp hw
  have hm : w ∈ big := by first | exact List.mem_of_getElem? hi | exact List.getElem?_mem hi
  exact ⟨hm, good_of_word h1⟩
theorem goodIn_app {big a b : List Cond} (ha : GoodIn big a) (hb : GoodIn big b) : GoodIn big (a ++ b) := fun w h => (List.mem_append.mp h).elim (ha w) (hb w)
theorem goodIn_ca {big a b : List Cond} {c : Cond} (ha : GoodIn big (c :: a)) (hb : GoodIn big b) : GoodIn big (c :: (a ++ b)) := fun w h => (List.mem_cons.mp h).elim (fun e => ha w (List.mem_cons.mpr (Or.inl e))) (fun h => (List.mem_append.mp h).elim (fun h => ha w (List.mem_cons.mpr (Or.inr h))) (hb w))
theorem goodIn_sub {big ws : List Cond} (hm : ∀ w ∈ ws, w ∈ big) (h : ws.all goodWord = true) : GoodIn big ws := fun w hw => ⟨hm w hw, good_of_word (List.all_eq_true.mp h w hw)⟩

def RX0 : String := "CallLaws$Edition"
def TX0 : u_T := fun k => match k with
  | 0 => ("CallLaws$Edition", "answers", "[I", true)
  | _ => ("CallLaws$Edition", "kept", "I", false)
def tyX0 : Nat → FieldType := fun k => match k with
  | 0 => .array .int
  | _ => .int
abbrev wsX00 : List Cond := u_ws RX0 TX0 2
theorem nmX0 : ∀ a, a < 2 → ∀ b, b < 2 → a ≠ b → (TX0 a).2.1 ≠ (TX0 b).2.1 := by decide +kernel
theorem tyX0_ok : ∀ k, k < 2 → parseFieldDescriptor (TX0 k).2.2.1 = some (tyX0 k) := by decide +kernel
abbrev cX0_init : ByteArray := prog_2_method_1_code
def yX0_init : MethodName := ⟨RX0, "<init>", "()V"⟩
def RX1 : String := "CallLaws$Houses"
def TX1 : u_T := fun k => match k with
  | 0 => ("CallLaws$Houses", "told", "LCallLaws$Told;", true)
  | 1 => ("CallLaws$Houses", "steps", "[I", true)
  | 2 => ("CallLaws$Houses", "queue", "[I", true)
  | _ => ("CallLaws$Houses", "queued", "I", false)
def tyX1 : Nat → FieldType := fun k => match k with
  | 0 => .object "CallLaws$Told"
  | 1 => .array .int
  | 2 => .array .int
  | _ => .int
abbrev wsX10 : List Cond := u_ws RX1 TX1 4
theorem nmX1 : ∀ a, a < 4 → ∀ b, b < 4 → a ≠ b → (TX1 a).2.1 ≠ (TX1 b).2.1 := by decide +kernel
theorem tyX1_ok : ∀ k, k < 4 → parseFieldDescriptor (TX1 k).2.2.1 = some (tyX1 k) := by decide +kernel
abbrev cX1_init : ByteArray := prog_3_method_1_code
def yX1_init : MethodName := ⟨RX1, "<init>", "(LCallLaws$Told;)V"⟩
abbrev cX1_isThere : ByteArray := prog_3_method_2_code
def yX1_isThere : MethodName := ⟨RX1, "isThere", "(I)Z"⟩
abbrev cX1_standing : ByteArray := prog_3_method_3_code
def yX1_standing : MethodName := ⟨RX1, "standing", "(II)I"⟩
abbrev cX1_leastBroken : ByteArray := prog_3_method_4_code
def yX1_leastBroken : MethodName := ⟨RX1, "leastBroken", "(I)I"⟩
abbrev cX1_measureWaysTo : ByteArray := prog_3_method_5_code
def yX1_measureWaysTo : MethodName := ⟨RX1, "measureWaysTo", "(I)V"⟩
abbrev cX1_reach : ByteArray := prog_3_method_6_code
def yX1_reach : MethodName := ⟨RX1, "reach", "(II)V"⟩
abbrev cX1_spread : ByteArray := prog_3_method_7_code
def yX1_spread : MethodName := ⟨RX1, "spread", "(I)V"⟩
abbrev cX1_stepsFrom : ByteArray := prog_3_method_8_code
def yX1_stepsFrom : MethodName := ⟨RX1, "stepsFrom", "(I)I"⟩
abbrev cX1_firstFrom : ByteArray := prog_3_method_9_code
def yX1_firstFrom : MethodName := ⟨RX1, "firstFrom", "(I)I"⟩
def RX2 : String := "CallLaws$Ledger"
def TX2 : u_T := fun k => match k with
  | 0 => ("CallLaws$Ledger", "editions", "[I", true)
  | 1 => ("CallLaws$Ledger", "looks", "[I", true)
  | 2 => ("CallLaws$Ledger", "ownHours", "[I", true)
  | 3 => ("CallLaws$Ledger", "calls", "[I", true)
  | _ => ("CallLaws$Ledger", "sayings", "I", false)
def tyX2 : Nat → FieldType := fun k => match k with
  | 0 => .array .int
  | 1 => .array .int
  | 2 => .array .int
  | 3 => .array .int
  | _ => .int
abbrev wsX20 : List Cond := u_ws RX2 TX2 5
theorem nmX2 : ∀ a, a < 5 → ∀ b, b < 5 → a ≠ b → (TX2 a).2.1 ≠ (TX2 b).2.1 := by decide +kernel
theorem tyX2_ok : ∀ k, k < 5 → parseFieldDescriptor (TX2 k).2.2.1 = some (tyX2 k) := by decide +kernel
abbrev cX2_init : ByteArray := prog_4_method_1_code
def yX2_init : MethodName := ⟨RX2, "<init>", "()V"⟩
abbrev cX2_become : ByteArray := prog_4_method_2_code
def yX2_become : MethodName := ⟨RX2, "become", "(LCallLaws$Ledger;)V"⟩
def RX3 : String := "CallLaws$Reader"
def TX3 : u_T := fun k => match k with
  | 0 => ("CallLaws$Reader", "tape", "LCallLaws$Tape;", true)
  | 1 => ("CallLaws$Reader", "told", "LCallLaws$Told;", true)
  | 2 => ("CallLaws$Reader", "draft", "LCallLaws$Ledger;", true)
  | 3 => ("CallLaws$Reader", "at", "I", false)
  | _ => ("CallLaws$Reader", "fault", "I", false)
def tyX3 : Nat → FieldType := fun k => match k with
  | 0 => .object "CallLaws$Tape"
  | 1 => .object "CallLaws$Told"
  | 2 => .object "CallLaws$Ledger"
  | 3 => .int
  | _ => .int
abbrev wsX30 : List Cond := u_ws RX3 TX3 5
theorem nmX3 : ∀ a, a < 5 → ∀ b, b < 5 → a ≠ b → (TX3 a).2.1 ≠ (TX3 b).2.1 := by decide +kernel
theorem tyX3_ok : ∀ k, k < 5 → parseFieldDescriptor (TX3 k).2.2.1 = some (tyX3 k) := by decide +kernel
abbrev cX3_init : ByteArray := prog_5_method_1_code
def yX3_init : MethodName := ⟨RX3, "<init>", "(LCallLaws$Tape;LCallLaws$Told;)V"⟩
abbrev cX3_place : ByteArray := prog_5_method_2_code
def yX3_place : MethodName := ⟨RX3, "place", "()I"⟩
abbrev cX3_readText : ByteArray := prog_5_method_3_code
def yX3_readText : MethodName := ⟨RX3, "readText", "()V"⟩
abbrev cX3_readEdition : ByteArray := prog_5_method_4_code
def yX3_readEdition : MethodName := ⟨RX3, "readEdition", "()V"⟩
abbrev cX3_readRule : ByteArray := prog_5_method_5_code
def yX3_readRule : MethodName := ⟨RX3, "readRule", "([I)V"⟩
abbrev cX3_answerBy : ByteArray := prog_5_method_6_code
def yX3_answerBy : MethodName := ⟨RX3, "answerBy", "([III)V"⟩
abbrev cX3_readAnswer : ByteArray := prog_5_method_7_code
def yX3_readAnswer : MethodName := ⟨RX3, "readAnswer", "()I"⟩
abbrev cX3_takesRefuse : ByteArray := prog_5_method_8_code
def yX3_takesRefuse : MethodName := ⟨RX3, "takesRefuse", "()Z"⟩
abbrev cX3_readSaying : ByteArray := prog_5_method_9_code
def yX3_readSaying : MethodName := ⟨RX3, "readSaying", "()V"⟩
abbrev cX3_readThen : ByteArray := prog_5_method_10_code
def yX3_readThen : MethodName := ⟨RX3, "readThen", "(LCallLaws$Saying;)V"⟩
abbrev cX3_readField : ByteArray := prog_5_method_11_code
def yX3_readField : MethodName := ⟨RX3, "readField", "(LCallLaws$Saying;)V"⟩
abbrev cX3_readTry : ByteArray := prog_5_method_12_code
def yX3_readTry : MethodName := ⟨RX3, "readTry", "()V"⟩
abbrev cX3_readWithin : ByteArray := prog_5_method_13_code
def yX3_readWithin : MethodName := ⟨RX3, "readWithin", "()V"⟩
abbrev cX3_isNumber : ByteArray := prog_5_method_14_code
def yX3_isNumber : MethodName := ⟨RX3, "isNumber", "()Z"⟩
abbrev cX3_look : ByteArray := prog_5_method_15_code
def yX3_look : MethodName := ⟨RX3, "look", "(III)I"⟩
abbrev cX3_number : ByteArray := prog_5_method_16_code
def yX3_number : MethodName := ⟨RX3, "number", "(II)I"⟩
abbrev cX3_fresh : ByteArray := prog_5_method_17_code
def yX3_fresh : MethodName := ⟨RX3, "fresh", "(II)I"⟩
abbrev cX3_take : ByteArray := prog_5_method_18_code
def yX3_take : MethodName := ⟨RX3, "take", "(I)V"⟩
def RX4 : String := "CallLaws$Saying"
def TX4 : u_T := fun k => match k with
  | 0 => ("CallLaws$Saying", "caller", "I", false)
  | 1 => ("CallLaws$Saying", "edition", "I", false)
  | 2 => ("CallLaws$Saying", "giver", "I", false)
  | 3 => ("CallLaws$Saying", "from", "I", false)
  | 4 => ("CallLaws$Saying", "to", "I", false)
  | 5 => ("CallLaws$Saying", "mood", "I", false)
  | 6 => ("CallLaws$Saying", "fields", "I", false)
  | 7 => ("CallLaws$Saying", "about", "I", false)
  | _ => ("CallLaws$Saying", "allowed", "I", false)
def tyX4 : Nat → FieldType := fun k => match k with
  | 0 => .int
  | 1 => .int
  | 2 => .int
  | 3 => .int
  | 4 => .int
  | 5 => .int
  | 6 => .int
  | 7 => .int
  | _ => .int
abbrev wsX40 : List Cond := u_ws RX4 TX4 9
theorem nmX4 : ∀ a, a < 9 → ∀ b, b < 9 → a ≠ b → (TX4 a).2.1 ≠ (TX4 b).2.1 := by decide +kernel
theorem tyX4_ok : ∀ k, k < 9 → parseFieldDescriptor (TX4 k).2.2.1 = some (tyX4 k) := by decide +kernel
abbrev cX4_init : ByteArray := prog_6_method_1_code
def yX4_init : MethodName := ⟨RX4, "<init>", "()V"⟩
def RX5 : String := "CallLaws$Sheet"
def TX5 : u_T := fun k => match k with
  | 0 => ("CallLaws$Sheet", "items", "[I", true)
  | 1 => ("CallLaws$Sheet", "here", "Z", false)
  | 2 => ("CallLaws$Sheet", "lane", "I", false)
  | _ => ("CallLaws$Sheet", "size", "I", false)
def tyX5 : Nat → FieldType := fun k => match k with
  | 0 => .array .int
  | 1 => .boolean
  | 2 => .int
  | _ => .int
abbrev wsX50 : List Cond := u_ws RX5 TX5 4
theorem nmX5 : ∀ a, a < 4 → ∀ b, b < 4 → a ≠ b → (TX5 a).2.1 ≠ (TX5 b).2.1 := by decide +kernel
theorem tyX5_ok : ∀ k, k < 4 → parseFieldDescriptor (TX5 k).2.2.1 = some (tyX5 k) := by decide +kernel
abbrev cX5_init : ByteArray := prog_7_method_1_code
def yX5_init : MethodName := ⟨RX5, "<init>", "()V"⟩
abbrev cX5_begin : ByteArray := prog_7_method_2_code
def yX5_begin : MethodName := ⟨RX5, "begin", "(II)V"⟩
abbrev cX5_cut : ByteArray := prog_7_method_3_code
def yX5_cut : MethodName := ⟨RX5, "cut", "(I)I"⟩
abbrev cX5_reaches : ByteArray := prog_7_method_4_code
def yX5_reaches : MethodName := ⟨RX5, "reaches", "(II)Z"⟩
def RX6 : String := "CallLaws$Tape"
def TX6 : u_T := fun k => match k with
  | 0 => ("CallLaws$Tape", "bytes", "[B", true)
  | 1 => ("CallLaws$Tape", "tokens", "[B", true)
  | 2 => ("CallLaws$Tape", "starts", "[S", true)
  | _ => ("CallLaws$Tape", "length", "I", false)
def tyX6 : Nat → FieldType := fun k => match k with
  | 0 => .array .byte
  | 1 => .array .byte
  | 2 => .array .short
  | _ => .int
abbrev wsX60 : List Cond := u_ws RX6 TX6 4
theorem nmX6 : ∀ a, a < 4 → ∀ b, b < 4 → a ≠ b → (TX6 a).2.1 ≠ (TX6 b).2.1 := by decide +kernel
theorem tyX6_ok : ∀ k, k < 4 → parseFieldDescriptor (TX6 k).2.2.1 = some (tyX6 k) := by decide +kernel
abbrev cX6_init : ByteArray := prog_8_method_1_code
def yX6_init : MethodName := ⟨RX6, "<init>", "()V"⟩
abbrev cX6_split : ByteArray := prog_8_method_2_code
def yX6_split : MethodName := ⟨RX6, "split", "()V"⟩
abbrev cX6_beginsToken : ByteArray := prog_8_method_3_code
def yX6_beginsToken : MethodName := ⟨RX6, "beginsToken", "(I)Z"⟩
abbrev cX6_endOfToken : ByteArray := prog_8_method_4_code
def yX6_endOfToken : MethodName := ⟨RX6, "endOfToken", "(I)I"⟩
abbrev cX6_tokenOf : ByteArray := prog_8_method_5_code
def yX6_tokenOf : MethodName := ⟨RX6, "tokenOf", "(II)I"⟩
abbrev cX6_numberOf : ByteArray := prog_8_method_6_code
def yX6_numberOf : MethodName := ⟨RX6, "numberOf", "(II)I"⟩
abbrev cX6_wordOf : ByteArray := prog_8_method_7_code
def yX6_wordOf : MethodName := ⟨RX6, "wordOf", "(II)I"⟩
abbrev cX6_spells : ByteArray := prog_8_method_8_code
def yX6_spells : MethodName := ⟨RX6, "spells", "(IILjava/lang/String;)Z"⟩
abbrev cX6_isLetter : ByteArray := prog_8_method_9_code
def yX6_isLetter : MethodName := ⟨RX6, "isLetter", "(B)Z"⟩
abbrev cX6_isFigure : ByteArray := prog_8_method_10_code
def yX6_isFigure : MethodName := ⟨RX6, "isFigure", "(B)Z"⟩
def RX7 : String := "CallLaws$Told"
def TX7 : u_T := fun k => match k with
  | 0 => ("CallLaws$Told", "stand", "LCallLaws$Ledger;", true)
  | 1 => ("CallLaws$Told", "sayings", "[LCallLaws$Saying;", true)
  | 2 => ("CallLaws$Told", "editions", "[LCallLaws$Edition;", true)
  | _ => ("CallLaws$Told", "quarrels", "[I", true)
def tyX7 : Nat → FieldType := fun k => match k with
  | 0 => .object "CallLaws$Ledger"
  | 1 => .array (.object "CallLaws$Saying")
  | 2 => .array (.object "CallLaws$Edition")
  | _ => .array .int
abbrev wsX70 : List Cond := u_ws RX7 TX7 4
theorem nmX7 : ∀ a, a < 4 → ∀ b, b < 4 → a ≠ b → (TX7 a).2.1 ≠ (TX7 b).2.1 := by decide +kernel
theorem tyX7_ok : ∀ k, k < 4 → parseFieldDescriptor (TX7 k).2.2.1 = some (tyX7 k) := by decide +kernel
abbrev cX7_init : ByteArray := prog_9_method_1_code
def yX7_init : MethodName := ⟨RX7, "<init>", "()V"⟩
abbrev cX7_hasSaying : ByteArray := prog_9_method_2_code
def yX7_hasSaying : MethodName := ⟨RX7, "hasSaying", "(I)Z"⟩
abbrev cX7_hasEdition : ByteArray := prog_9_method_3_code
def yX7_hasEdition : MethodName := ⟨RX7, "hasEdition", "(II)Z"⟩
abbrev cX7_editionOf : ByteArray := prog_9_method_4_code
def yX7_editionOf : MethodName := ⟨RX7, "editionOf", "(II)LCallLaws$Edition;"⟩
abbrev cX7_settle : ByteArray := prog_9_method_5_code
def yX7_settle : MethodName := ⟨RX7, "settle", "(LCallLaws$Ledger;)V"⟩
abbrev cX7_keptBy : ByteArray := prog_9_method_6_code
def yX7_keptBy : MethodName := ⟨RX7, "keptBy", "(II)I"⟩
abbrev cX7_leastQuarrel : ByteArray := prog_9_method_7_code
def yX7_leastQuarrel : MethodName := ⟨RX7, "leastQuarrel", "(I)I"⟩
abbrev cX7_sharesGiver : ByteArray := prog_9_method_8_code
def yX7_sharesGiver : MethodName := ⟨RX7, "sharesGiver", "(III)Z"⟩
abbrev cX7_leastThird : ByteArray := prog_9_method_9_code
def yX7_leastThird : MethodName := ⟨RX7, "leastThird", "(II)I"⟩
abbrev cX7_standIns : ByteArray := prog_9_method_10_code
def yX7_standIns : MethodName := ⟨RX7, "standIns", "(IIII)I"⟩
abbrev cX7_kindOf : ByteArray := prog_9_method_11_code
def yX7_kindOf : MethodName := ⟨RX7, "kindOf", "(I)I"⟩
abbrev cX7_countEditions : ByteArray := prog_9_method_12_code
def yX7_countEditions : MethodName := ⟨RX7, "countEditions", "()I"⟩
abbrev cX7_countKept : ByteArray := prog_9_method_13_code
def yX7_countKept : MethodName := ⟨RX7, "countKept", "()I"⟩
abbrev cX7_countWithin : ByteArray := prog_9_method_14_code
def yX7_countWithin : MethodName := ⟨RX7, "countWithin", "()I"⟩
def RX8 : String := "CallLaws"
def TX8 : u_T := fun k => match k with
  | 0 => ("CallLaws", "sheets", "[LCallLaws$Sheet;", true)
  | 1 => ("CallLaws", "tape", "LCallLaws$Tape;", true)
  | 2 => ("CallLaws", "told", "LCallLaws$Told;", true)
  | 3 => ("CallLaws", "reader", "LCallLaws$Reader;", true)
  | 4 => ("CallLaws", "houses", "LCallLaws$Houses;", true)
  | 5 => ("CallLaws", "traced", "[I", true)
  | 6 => ("CallLaws", "tracedCount", "I", false)
  | 7 => ("CallLaws", "latestFault", "I", false)
  | _ => ("CallLaws", "latestFinding", "I", false)
def tyX8 : Nat → FieldType := fun k => match k with
  | 0 => .array (.object "CallLaws$Sheet")
  | 1 => .object "CallLaws$Tape"
  | 2 => .object "CallLaws$Told"
  | 3 => .object "CallLaws$Reader"
  | 4 => .object "CallLaws$Houses"
  | 5 => .array .int
  | 6 => .int
  | 7 => .int
  | _ => .int
abbrev wsX80 : List Cond := u_ws RX8 TX8 9
theorem nmX8 : ∀ a, a < 9 → ∀ b, b < 9 → a ≠ b → (TX8 a).2.1 ≠ (TX8 b).2.1 := by decide +kernel
theorem tyX8_ok : ∀ k, k < 9 → parseFieldDescriptor (TX8 k).2.2.1 = some (tyX8 k) := by decide +kernel
abbrev cX8_init : ByteArray := prog_1_method_1_code
def yX8_init : MethodName := ⟨RX8, "<init>", "()V"⟩
abbrev cX8_sheet : ByteArray := prog_1_method_2_code
def yX8_sheet : MethodName := ⟨RX8, "sheet", "(III)I"⟩
abbrev cX8_set : ByteArray := prog_1_method_3_code
def yX8_set : MethodName := ⟨RX8, "set", "(III)I"⟩
abbrev cX8_copy : ByteArray := prog_1_method_4_code
def yX8_copy : MethodName := ⟨RX8, "copy", "(IIIII)I"⟩
abbrev cX8_drop : ByteArray := prog_1_method_5_code
def yX8_drop : MethodName := ⟨RX8, "drop", "(I)I"⟩
abbrev cX8_feed : ByteArray := prog_1_method_6_code
def yX8_feed : MethodName := ⟨RX8, "feed", "(JI)I"⟩
abbrev cX8_laws : ByteArray := prog_1_method_7_code
def yX8_laws : MethodName := ⟨RX8, "laws", "()I"⟩
abbrev cX8_fault : ByteArray := prog_1_method_8_code
def yX8_fault : MethodName := ⟨RX8, "fault", "()I"⟩
abbrev cX8_editions : ByteArray := prog_1_method_9_code
def yX8_editions : MethodName := ⟨RX8, "editions", "(I)I"⟩
abbrev cX8_answer : ByteArray := prog_1_method_10_code
def yX8_answer : MethodName := ⟨RX8, "answer", "(IIIII)I"⟩
abbrev cX8_saying : ByteArray := prog_1_method_11_code
def yX8_saying : MethodName := ⟨RX8, "saying", "(II)I"⟩
abbrev cX8_play : ByteArray := prog_1_method_12_code
def yX8_play : MethodName := ⟨RX8, "play", "(III)I"⟩
abbrev cX8_standIn : ByteArray := prog_1_method_13_code
def yX8_standIn : MethodName := ⟨RX8, "standIn", "(IIIIII)I"⟩
abbrev cX8_allows : ByteArray := prog_1_method_14_code
def yX8_allows : MethodName := ⟨RX8, "allows", "(IIII)I"⟩
abbrev cX8_noMore : ByteArray := prog_1_method_15_code
def yX8_noMore : MethodName := ⟨RX8, "noMore", "(II)I"⟩
abbrev cX8_quarrel : ByteArray := prog_1_method_16_code
def yX8_quarrel : MethodName := ⟨RX8, "quarrel", "(I)I"⟩
abbrev cX8_change : ByteArray := prog_1_method_17_code
def yX8_change : MethodName := ⟨RX8, "change", "(III)I"⟩
abbrev cX8_right : ByteArray := prog_1_method_18_code
def yX8_right : MethodName := ⟨RX8, "right", "(I)I"⟩
abbrev cX8_house : ByteArray := prog_1_method_19_code
def yX8_house : MethodName := ⟨RX8, "house", "(II)I"⟩
abbrev cX8_letOut : ByteArray := prog_1_method_20_code
def yX8_letOut : MethodName := ⟨RX8, "letOut", "(III)I"⟩
abbrev cX8_hours : ByteArray := prog_1_method_21_code
def yX8_hours : MethodName := ⟨RX8, "hours", "(I)I"⟩
abbrev cX8_kind : ByteArray := prog_1_method_22_code
def yX8_kind : MethodName := ⟨RX8, "kind", "(I)I"⟩
abbrev cX8_as : ByteArray := prog_1_method_23_code
def yX8_as : MethodName := ⟨RX8, "as", "(II)I"⟩
abbrev cX8_ask : ByteArray := prog_1_method_24_code
def yX8_ask : MethodName := ⟨RX8, "ask", "(II)I"⟩
abbrev cX8_trace : ByteArray := prog_1_method_25_code
def yX8_trace : MethodName := ⟨RX8, "trace", "(I)I"⟩
abbrev cX8_count : ByteArray := prog_1_method_26_code
def yX8_count : MethodName := ⟨RX8, "count", "(I)I"⟩
abbrev cX8_status : ByteArray := prog_1_method_27_code
def yX8_status : MethodName := ⟨RX8, "status", "()I"⟩
abbrev cX8_found : ByteArray := prog_1_method_28_code
def yX8_found : MethodName := ⟨RX8, "found", "(I)I"⟩
abbrev cX8_well : ByteArray := prog_1_method_29_code
def yX8_well : MethodName := ⟨RX8, "well", "(I)I"⟩
abbrev cX8_countSheets : ByteArray := prog_1_method_30_code
def yX8_countSheets : MethodName := ⟨RX8, "countSheets", "()I"⟩
abbrev cX8_isBelow : ByteArray := prog_1_method_31_code
def yX8_isBelow : MethodName := ⟨RX8, "isBelow", "(II)Z"⟩
abbrev cX8_isCase : ByteArray := prog_1_method_32_code
def yX8_isCase : MethodName := ⟨RX8, "isCase", "(II)Z"⟩
abbrev cX8_caseOf : ByteArray := prog_1_method_33_code
def yX8_caseOf : MethodName := ⟨RX8, "caseOf", "(II)I"⟩
abbrev cX8_casesOf : ByteArray := prog_1_method_34_code
def yX8_casesOf : MethodName := ⟨RX8, "casesOf", "(III)I"⟩
abbrev cX8_isWithin : ByteArray := prog_1_method_35_code
def yX8_isWithin : MethodName := ⟨RX8, "isWithin", "(II)Z"⟩
abbrev cX8_addHours : ByteArray := prog_1_method_36_code
def yX8_addHours : MethodName := ⟨RX8, "addHours", "(LCallLaws$Ledger;II)I"⟩
abbrev cX8_fieldOf : ByteArray := prog_1_method_37_code
def yX8_fieldOf : MethodName := ⟨RX8, "fieldOf", "(II)I"⟩
abbrev cX8_answerOf : ByteArray := prog_1_method_38_code
def yX8_answerOf : MethodName := ⟨RX8, "answerOf", "(I)I"⟩
abbrev cX8_countGiven : ByteArray := prog_1_method_39_code
def yX8_countGiven : MethodName := ⟨RX8, "countGiven", "(I)I"⟩
abbrev cX8_nthGiven : ByteArray := prog_1_method_40_code
def yX8_nthGiven : MethodName := ⟨RX8, "nthGiven", "(II)I"⟩
abbrev cX8_nthBit : ByteArray := prog_1_method_41_code
def yX8_nthBit : MethodName := ⟨RX8, "nthBit", "(II)I"⟩
abbrev cX8_hasNone : ByteArray := prog_1_method_42_code
def yX8_hasNone : MethodName := ⟨RX8, "hasNone", "(I)Z"⟩
abbrev cX8_firstBroken : ByteArray := prog_1_method_43_code
def yX8_firstBroken : MethodName := ⟨RX8, "firstBroken", "(LCallLaws$Saying;LCallLaws$Edition;)I"⟩
abbrev cX8_wrongField : ByteArray := prog_1_method_44_code
def yX8_wrongField : MethodName := ⟨RX8, "wrongField", "(II)I"⟩
abbrev cX8_leave : ByteArray := prog_1_method_45_code
def yX8_leave : MethodName := ⟨RX8, "leave", "(I)V"⟩
abbrev cX8_askSize : ByteArray := prog_1_method_46_code
def yX8_askSize : MethodName := ⟨RX8, "askSize", "(III)I"⟩
abbrev cX8_askMark : ByteArray := prog_1_method_47_code
def yX8_askMark : MethodName := ⟨RX8, "askMark", "(III)I"⟩
abbrev cX8_sizeLent : ByteArray := prog_1_method_48_code
def yX8_sizeLent : MethodName := ⟨RX8, "sizeLent", "(I)I"⟩
abbrev cX8_sizeOfGiven : ByteArray := prog_1_method_49_code
def yX8_sizeOfGiven : MethodName := ⟨RX8, "sizeOfGiven", "(I)I"⟩
abbrev cX8_sizeOfBefore : ByteArray := prog_1_method_50_code
def yX8_sizeOfBefore : MethodName := ⟨RX8, "sizeOfBefore", "(I)I"⟩
abbrev cX8_sizeOfRefuses : ByteArray := prog_1_method_51_code
def yX8_sizeOfRefuses : MethodName := ⟨RX8, "sizeOfRefuses", "(III)I"⟩
abbrev cX8_sizeOfQuarrel : ByteArray := prog_1_method_52_code
def yX8_sizeOfQuarrel : MethodName := ⟨RX8, "sizeOfQuarrel", "(I)I"⟩
abbrev cX8_markLent : ByteArray := prog_1_method_53_code
def yX8_markLent : MethodName := ⟨RX8, "markLent", "(I)I"⟩
abbrev cX8_markOfGiven : ByteArray := prog_1_method_54_code
def yX8_markOfGiven : MethodName := ⟨RX8, "markOfGiven", "(I)I"⟩
abbrev cX8_markOfLoose : ByteArray := prog_1_method_55_code
def yX8_markOfLoose : MethodName := ⟨RX8, "markOfLoose", "(III)I"⟩
abbrev cX8_markOfQuarrel : ByteArray := prog_1_method_56_code
def yX8_markOfQuarrel : MethodName := ⟨RX8, "markOfQuarrel", "(I)I"⟩
def RX9 : String := "CallLawsModel"
def TX9 : u_T := fun k => match k with
  | 0 => ("CallLawsModel", "thrown", "I", false)
  | 1 => ("CallLawsModel", "status", "I", false)
  | 2 => ("CallLawsModel", "lane", "[I", true)
  | 3 => ("CallLawsModel", "many", "[I", true)
  | 4 => ("CallLawsModel", "item", "[I", true)
  | 5 => ("CallLawsModel", "editions", "[I", true)
  | 6 => ("CallLawsModel", "newEditions", "[I", true)
  | 7 => ("CallLawsModel", "rules", "[I", true)
  | 8 => ("CallLawsModel", "ruleFrom", "[I", true)
  | 9 => ("CallLawsModel", "ruleTo", "[I", true)
  | 10 => ("CallLawsModel", "ruleMood", "[I", true)
  | 11 => ("CallLawsModel", "ruleGives", "[I", true)
  | 12 => ("CallLawsModel", "sayings", "I", false)
  | 13 => ("CallLawsModel", "newSayings", "I", false)
  | 14 => ("CallLawsModel", "callerOf", "[I", true)
  | 15 => ("CallLawsModel", "editionOf", "[I", true)
  | 16 => ("CallLawsModel", "giverOf", "[I", true)
  | 17 => ("CallLawsModel", "askFrom", "[I", true)
  | 18 => ("CallLawsModel", "askTo", "[I", true)
  | 19 => ("CallLawsModel", "moodOf", "[I", true)
  | 20 => ("CallLawsModel", "refuses", "[Z", true)
  | 21 => ("CallLawsModel", "toldOf", "[I", true)
  | 22 => ("CallLawsModel", "fieldOf", "[I", true)
  | 23 => ("CallLawsModel", "tries", "[I", true)
  | 24 => ("CallLawsModel", "newTries", "[I", true)
  | 25 => ("CallLawsModel", "ownHours", "[I", true)
  | 26 => ("CallLawsModel", "calls", "[I", true)
  | 27 => ("CallLawsModel", "newHours", "[I", true)
  | 28 => ("CallLawsModel", "newCalls", "[I", true)
  | 29 => ("CallLawsModel", "tape", "[I", true)
  | 30 => ("CallLawsModel", "taped", "I", false)
  | 31 => ("CallLawsModel", "latest", "I", false)
  | 32 => ("CallLawsModel", "length", "I", false)
  | 33 => ("CallLawsModel", "cursor", "I", false)
  | 34 => ("CallLawsModel", "token", "I", false)
  | 35 => ("CallLawsModel", "from", "I", false)
  | 36 => ("CallLawsModel", "till", "I", false)
  | 37 => ("CallLawsModel", "fault", "I", false)
  | 38 => ("CallLawsModel", "faultAt", "I", false)
  | 39 => ("CallLawsModel", "far", "[I", true)
  | 40 => ("CallLawsModel", "line", "[I", true)
  | 41 => ("CallLawsModel", "hoursThen", "[I", true)
  | 42 => ("CallLawsModel", "trace", "[I", true)
  | _ => ("CallLawsModel", "traced", "I", false)
def tyX9 : Nat → FieldType := fun k => match k with
  | 0 => .int
  | 1 => .int
  | 2 => .array .int
  | 3 => .array .int
  | 4 => .array .int
  | 5 => .array .int
  | 6 => .array .int
  | 7 => .array .int
  | 8 => .array .int
  | 9 => .array .int
  | 10 => .array .int
  | 11 => .array .int
  | 12 => .int
  | 13 => .int
  | 14 => .array .int
  | 15 => .array .int
  | 16 => .array .int
  | 17 => .array .int
  | 18 => .array .int
  | 19 => .array .int
  | 20 => .array .boolean
  | 21 => .array .int
  | 22 => .array .int
  | 23 => .array .int
  | 24 => .array .int
  | 25 => .array .int
  | 26 => .array .int
  | 27 => .array .int
  | 28 => .array .int
  | 29 => .array .int
  | 30 => .int
  | 31 => .int
  | 32 => .int
  | 33 => .int
  | 34 => .int
  | 35 => .int
  | 36 => .int
  | 37 => .int
  | 38 => .int
  | 39 => .array .int
  | 40 => .array .int
  | 41 => .array .int
  | 42 => .array .int
  | _ => .int
abbrev wsX90 : List Cond := u_ws RX9 TX9 44
theorem nmX9 : ∀ a, a < 44 → ∀ b, b < 44 → a ≠ b → (TX9 a).2.1 ≠ (TX9 b).2.1 := by decide +kernel
theorem tyX9_ok : ∀ k, k < 44 → parseFieldDescriptor (TX9 k).2.2.1 = some (tyX9 k) := by decide +kernel
abbrev cX9_init : ByteArray := prog_11_method_1_code
def yX9_init : MethodName := ⟨RX9, "<init>", "()V"⟩
abbrev cX9_in : ByteArray := prog_11_method_3_code
def yX9_in : MethodName := ⟨RX9, "in", "(JJJ)Z"⟩
abbrev cX9_finding : ByteArray := prog_11_method_4_code
def yX9_finding : MethodName := ⟨RX9, "finding", "(I)I"⟩
abbrev cX9_isSheet : ByteArray := prog_11_method_5_code
def yX9_isSheet : MethodName := ⟨RX9, "isSheet", "(I)Z"⟩
abbrev cX9_sheet : ByteArray := prog_11_method_6_code
def yX9_sheet : MethodName := ⟨RX9, "sheet", "(III)I"⟩
abbrev cX9_set : ByteArray := prog_11_method_7_code
def yX9_set : MethodName := ⟨RX9, "set", "(III)I"⟩
abbrev cX9_copy : ByteArray := prog_11_method_8_code
def yX9_copy : MethodName := ⟨RX9, "copy", "(IIIII)I"⟩
abbrev cX9_drop : ByteArray := prog_11_method_9_code
def yX9_drop : MethodName := ⟨RX9, "drop", "(I)I"⟩
abbrev cX9_feed : ByteArray := prog_11_method_10_code
def yX9_feed : MethodName := ⟨RX9, "feed", "(JI)I"⟩
abbrev cX9_byteAt : ByteArray := prog_11_method_11_code
def yX9_byteAt : MethodName := ⟨RX9, "byteAt", "(I)I"⟩
abbrev cX9_isLetter : ByteArray := prog_11_method_12_code
def yX9_isLetter : MethodName := ⟨RX9, "isLetter", "(I)Z"⟩
abbrev cX9_isFigure : ByteArray := prog_11_method_13_code
def yX9_isFigure : MethodName := ⟨RX9, "isFigure", "(I)Z"⟩
abbrev cX9_next : ByteArray := prog_11_method_14_code
def yX9_next : MethodName := ⟨RX9, "next", "()V"⟩
abbrev cX9_bad : ByteArray := prog_11_method_15_code
def yX9_bad : MethodName := ⟨RX9, "bad", "(I)V"⟩
abbrev cX9_must : ByteArray := prog_11_method_16_code
def yX9_must : MethodName := ⟨RX9, "must", "(Z)V"⟩
abbrev cX9_word : ByteArray := prog_11_method_17_code
def yX9_word : MethodName := ⟨RX9, "word", "()J"⟩
abbrev cX9_numberHere : ByteArray := prog_11_method_18_code
def yX9_numberHere : MethodName := ⟨RX9, "numberHere", "()I"⟩
abbrev cX9_numberIn : ByteArray := prog_11_method_19_code
def yX9_numberIn : MethodName := ⟨RX9, "numberIn", "(III)I"⟩
abbrev cX9_mustRefuseOrGive : ByteArray := prog_11_method_20_code
def yX9_mustRefuseOrGive : MethodName := ⟨RX9, "mustRefuseOrGive", "()V"⟩
abbrev cX9_readRule : ByteArray := prog_11_method_21_code
def yX9_readRule : MethodName := ⟨RX9, "readRule", "(I)V"⟩
abbrev cX9_readEdition : ByteArray := prog_11_method_22_code
def yX9_readEdition : MethodName := ⟨RX9, "readEdition", "()V"⟩
abbrev cX9_readSaying : ByteArray := prog_11_method_23_code
def yX9_readSaying : MethodName := ⟨RX9, "readSaying", "()V"⟩
abbrev cX9_readWithin : ByteArray := prog_11_method_24_code
def yX9_readWithin : MethodName := ⟨RX9, "readWithin", "()V"⟩
abbrev cX9_readOne : ByteArray := prog_11_method_25_code
def yX9_readOne : MethodName := ⟨RX9, "readOne", "()V"⟩
abbrev cX9_laws : ByteArray := prog_11_method_26_code
def yX9_laws : MethodName := ⟨RX9, "laws", "()I"⟩
abbrev cX9_fault : ByteArray := prog_11_method_27_code
def yX9_fault : MethodName := ⟨RX9, "fault", "()I"⟩
abbrev cX9_isService : ByteArray := prog_11_method_28_code
def yX9_isService : MethodName := ⟨RX9, "isService", "(I)Z"⟩
abbrev cX9_isEdition : ByteArray := prog_11_method_29_code
def yX9_isEdition : MethodName := ⟨RX9, "isEdition", "(II)Z"⟩
abbrev cX9_isSaying : ByteArray := prog_11_method_30_code
def yX9_isSaying : MethodName := ⟨RX9, "isSaying", "(I)Z"⟩
abbrev cX9_editions : ByteArray := prog_11_method_31_code
def yX9_editions : MethodName := ⟨RX9, "editions", "(I)I"⟩
abbrev cX9_answerOf : ByteArray := prog_11_method_32_code
def yX9_answerOf : MethodName := ⟨RX9, "answerOf", "(IIII)I"⟩
abbrev cX9_fieldIn : ByteArray := prog_11_method_33_code
def yX9_fieldIn : MethodName := ⟨RX9, "fieldIn", "(II)I"⟩
abbrev cX9_answer : ByteArray := prog_11_method_34_code
def yX9_answer : MethodName := ⟨RX9, "answer", "(IIIII)I"⟩
abbrev cX9_saying : ByteArray := prog_11_method_35_code
def yX9_saying : MethodName := ⟨RX9, "saying", "(II)I"⟩
abbrev cX9_isAbout : ByteArray := prog_11_method_36_code
def yX9_isAbout : MethodName := ⟨RX9, "isAbout", "(III)Z"⟩
abbrev cX9_wrongIn : ByteArray := prog_11_method_37_code
def yX9_wrongIn : MethodName := ⟨RX9, "wrongIn", "(II)I"⟩
abbrev cX9_breaks : ByteArray := prog_11_method_38_code
def yX9_breaks : MethodName := ⟨RX9, "breaks", "(II)I"⟩
abbrev cX9_isKept : ByteArray := prog_11_method_39_code
def yX9_isKept : MethodName := ⟨RX9, "isKept", "(II)Z"⟩
abbrev cX9_play : ByteArray := prog_11_method_40_code
def yX9_play : MethodName := ⟨RX9, "play", "(III)I"⟩
abbrev cX9_isAllowedByAll : ByteArray := prog_11_method_41_code
def yX9_isAllowedByAll : MethodName := ⟨RX9, "isAllowedByAll", "(IIIIII)Z"⟩
abbrev cX9_standIn : ByteArray := prog_11_method_42_code
def yX9_standIn : MethodName := ⟨RX9, "standIn", "(IIIIII)I"⟩
abbrev cX9_allows : ByteArray := prog_11_method_43_code
def yX9_allows : MethodName := ⟨RX9, "allows", "(IIII)I"⟩
abbrev cX9_noMore : ByteArray := prog_11_method_44_code
def yX9_noMore : MethodName := ⟨RX9, "noMore", "(II)I"⟩
abbrev cX9_doQuarrel : ByteArray := prog_11_method_45_code
def yX9_doQuarrel : MethodName := ⟨RX9, "doQuarrel", "(II)Z"⟩
abbrev cX9_quarrelOf : ByteArray := prog_11_method_46_code
def yX9_quarrelOf : MethodName := ⟨RX9, "quarrelOf", "(I)I"⟩
abbrev cX9_quarrel : ByteArray := prog_11_method_47_code
def yX9_quarrel : MethodName := ⟨RX9, "quarrel", "(I)I"⟩
abbrev cX9_change : ByteArray := prog_11_method_48_code
def yX9_change : MethodName := ⟨RX9, "change", "(III)I"⟩
abbrev cX9_right : ByteArray := prog_11_method_49_code
def yX9_right : MethodName := ⟨RX9, "right", "(I)I"⟩
abbrev cX9_figure : ByteArray := prog_11_method_50_code
def yX9_figure : MethodName := ⟨RX9, "figure", "(II)I"⟩
abbrev cX9_worth : ByteArray := prog_11_method_51_code
def yX9_worth : MethodName := ⟨RX9, "worth", "(I)I"⟩
abbrev cX9_isHouse : ByteArray := prog_11_method_52_code
def yX9_isHouse : MethodName := ⟨RX9, "isHouse", "(I)Z"⟩
abbrev cX9_redOf : ByteArray := prog_11_method_53_code
def yX9_redOf : MethodName := ⟨RX9, "redOf", "(I)I"⟩
abbrev cX9_house : ByteArray := prog_11_method_54_code
def yX9_house : MethodName := ⟨RX9, "house", "(II)I"⟩
abbrev cX9_letOut : ByteArray := prog_11_method_55_code
def yX9_letOut : MethodName := ⟨RX9, "letOut", "(III)I"⟩
abbrev cX9_hours : ByteArray := prog_11_method_56_code
def yX9_hours : MethodName := ⟨RX9, "hours", "(I)I"⟩
abbrev cX9_bits : ByteArray := prog_11_method_57_code
def yX9_bits : MethodName := ⟨RX9, "bits", "(I)I"⟩
abbrev cX9_kindOf : ByteArray := prog_11_method_58_code
def yX9_kindOf : MethodName := ⟨RX9, "kindOf", "(I)I"⟩
abbrev cX9_isOf : ByteArray := prog_11_method_59_code
def yX9_isOf : MethodName := ⟨RX9, "isOf", "(II)Z"⟩
abbrev cX9_kind : ByteArray := prog_11_method_60_code
def yX9_kind : MethodName := ⟨RX9, "kind", "(I)I"⟩
abbrev cX9_as : ByteArray := prog_11_method_61_code
def yX9_as : MethodName := ⟨RX9, "as", "(II)I"⟩
abbrev cX9_began : ByteArray := prog_11_method_62_code
def yX9_began : MethodName := ⟨RX9, "began", "(I)V"⟩
abbrev cX9_aboutHowMany : ByteArray := prog_11_method_63_code
def yX9_aboutHowMany : MethodName := ⟨RX9, "aboutHowMany", "(I)I"⟩
abbrev cX9_givenSize : ByteArray := prog_11_method_64_code
def yX9_givenSize : MethodName := ⟨RX9, "givenSize", "(II)I"⟩
abbrev cX9_markOf : ByteArray := prog_11_method_65_code
def yX9_markOf : MethodName := ⟨RX9, "markOf", "(II)I"⟩
abbrev cX9_sizeOf : ByteArray := prog_11_method_66_code
def yX9_sizeOf : MethodName := ⟨RX9, "sizeOf", "(II)I"⟩
abbrev cX9_ask : ByteArray := prog_11_method_67_code
def yX9_ask : MethodName := ⟨RX9, "ask", "(II)I"⟩
abbrev cX9_trace : ByteArray := prog_11_method_68_code
def yX9_trace : MethodName := ⟨RX9, "trace", "(I)I"⟩
abbrev cX9_isKeptBySome : ByteArray := prog_11_method_69_code
def yX9_isKeptBySome : MethodName := ⟨RX9, "isKeptBySome", "(I)Z"⟩
abbrev cX9_count : ByteArray := prog_11_method_70_code
def yX9_count : MethodName := ⟨RX9, "count", "(I)I"⟩
abbrev cX9_status : ByteArray := prog_11_method_71_code
def yX9_status : MethodName := ⟨RX9, "status", "()I"⟩
def RJ6 : String := "java/lang/Integer"
def TJ6 : u_T := fun k => match k with
  | _ => ("", "", "", false)
def tyJ6 : Nat → FieldType := fun k => match k with
  | _ => .int
abbrev wsJ60 : List Cond := u_ws RJ6 TJ6 0
theorem nmJ6 : ∀ a, a < 0 → ∀ b, b < 0 → a ≠ b → (TJ6 a).2.1 ≠ (TJ6 b).2.1 := by decide +kernel
theorem tyJ6_ok : ∀ k, k < 0 → parseFieldDescriptor (TJ6 k).2.2.1 = some (tyJ6 k) := by decide +kernel
abbrev cJ6_bitCount_0f7a4 : ByteArray := prog_12_method_49_code
def yJ6_bitCount_0f7a4 : MethodName := ⟨RJ6, "bitCount", "(I)I"⟩
def RJ0 : String := "java/lang/String"
def TJ0 : u_T := fun k => match k with
  | _ => ("", "", "", false)
def tyJ0 : Nat → FieldType := fun k => match k with
  | _ => .int
abbrev wsJ00 : List Cond := u_ws RJ0 TJ0 0
theorem nmJ0 : ∀ a, a < 0 → ∀ b, b < 0 → a ≠ b → (TJ0 a).2.1 ≠ (TJ0 b).2.1 := by decide +kernel
theorem tyJ0_ok : ∀ k, k < 0 → parseFieldDescriptor (TJ0 k).2.2.1 = some (tyJ0 k) := by decide +kernel
abbrev cJ0_length_8abf5 : ByteArray := prog_13_method_54_code
def yJ0_length_8abf5 : MethodName := ⟨RJ0, "length", "()I"⟩
abbrev cJ0_charAt_5068e : ByteArray := prog_13_method_56_code
def yJ0_charAt_5068e : MethodName := ⟨RJ0, "charAt", "(I)C"⟩
abbrev cJ0_coder_7d493 : ByteArray := prog_13_method_152_code
def yJ0_coder_7d493 : MethodName := ⟨RJ0, "coder", "()B"⟩
abbrev cJ0_isLatin1_aae02 : ByteArray := prog_13_method_154_code
def yJ0_isLatin1_aae02 : MethodName := ⟨RJ0, "isLatin1", "()Z"⟩
abbrev cJ0_checkIndex_df160 : ByteArray := prog_13_method_155_code
def yJ0_checkIndex_df160 : MethodName := ⟨RJ0, "checkIndex", "(II)V"⟩
def RJ1 : String := "java/lang/StringLatin1"
def TJ1 : u_T := fun k => match k with
  | _ => ("", "", "", false)
def tyJ1 : Nat → FieldType := fun k => match k with
  | _ => .int
abbrev wsJ10 : List Cond := u_ws RJ1 TJ1 0
theorem nmJ1 : ∀ a, a < 0 → ∀ b, b < 0 → a ≠ b → (TJ1 a).2.1 ≠ (TJ1 b).2.1 := by decide +kernel
theorem tyJ1_ok : ∀ k, k < 0 → parseFieldDescriptor (TJ1 k).2.2.1 = some (tyJ1 k) := by decide +kernel
abbrev cJ1_charAt_3b067 : ByteArray := prog_14_method_2_code
def yJ1_charAt_3b067 : MethodName := ⟨RJ1, "charAt", "([BI)C"⟩
def RJ2 : String := "java/lang/StringUTF16"
def TJ2 : u_T := fun k => match k with
  | _ => ("", "", "", false)
def tyJ2 : Nat → FieldType := fun k => match k with
  | _ => .int
abbrev wsJ20 : List Cond := u_ws RJ2 TJ2 0
theorem nmJ2 : ∀ a, a < 0 → ∀ b, b < 0 → a ≠ b → (TJ2 a).2.1 ≠ (TJ2 b).2.1 := by decide +kernel
theorem tyJ2_ok : ∀ k, k < 0 → parseFieldDescriptor (TJ2 k).2.2.1 = some (tyJ2 k) := by decide +kernel
abbrev cJ2_getChar_3b067 : ByteArray := prog_15_method_5_code
def yJ2_getChar_3b067 : MethodName := ⟨RJ2, "getChar", "([BI)C"⟩
abbrev cJ2_length_9d52b : ByteArray := prog_15_method_6_code
def yJ2_length_9d52b : MethodName := ⟨RJ2, "length", "([B)I"⟩
abbrev cJ2_charAt_3b067 : ByteArray := prog_15_method_83_code
def yJ2_charAt_3b067 : MethodName := ⟨RJ2, "charAt", "([BI)C"⟩
abbrev cJ2_checkIndex_2214a : ByteArray := prog_15_method_91_code
def yJ2_checkIndex_2214a : MethodName := ⟨RJ2, "checkIndex", "(I[B)V"⟩
def RJ10 : String := "java/lang/System"
def TJ10 : u_T := fun k => match k with
  | _ => ("", "", "", false)
def tyJ10 : Nat → FieldType := fun k => match k with
  | _ => .int
abbrev wsJ100 : List Cond := u_ws RJ10 TJ10 0
theorem nmJ10 : ∀ a, a < 0 → ∀ b, b < 0 → a ≠ b → (TJ10 a).2.1 ≠ (TJ10 b).2.1 := by decide +kernel
theorem tyJ10_ok : ∀ k, k < 0 → parseFieldDescriptor (TJ10 k).2.2.1 = some (tyJ10 k) := by decide +kernel
def RJ3 : String := "jdk/internal/util/Preconditions"
def TJ3 : u_T := fun k => match k with
  | _ => ("", "", "", false)
def tyJ3 : Nat → FieldType := fun k => match k with
  | _ => .int
abbrev wsJ30 : List Cond := u_ws RJ3 TJ3 0
theorem nmJ3 : ∀ a, a < 0 → ∀ b, b < 0 → a ≠ b → (TJ3 a).2.1 ≠ (TJ3 b).2.1 := by decide +kernel
theorem tyJ3_ok : ∀ k, k < 0 → parseFieldDescriptor (TJ3 k).2.2.1 = some (tyJ3 k) := by decide +kernel
abbrev cJ3_checkIndex_8e157 : ByteArray := prog_17_method_11_code
def yJ3_checkIndex_8e157 : MethodName := ⟨RJ3, "checkIndex", "(IILjava/util/function/BiFunction;)I"⟩
def RL : String := "CallLawsLaw"
abbrev cL_law : ByteArray := code
def yL_law : MethodName := ⟨RL, "law", "([I)Z"⟩
abbrev vwCl : List vw_C := [(RX0, TX0, 2), (RX1, TX1, 4), (RX2, TX2, 5), (RX3, TX3, 5), (RX4, TX4, 9), (RX5, TX5, 4), (RX6, TX6, 4), (RX7, TX7, 4), (RX8, TX8, 9), (RX9, TX9, 44)]
