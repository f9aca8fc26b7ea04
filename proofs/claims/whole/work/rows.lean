section
-- ===== PART A: goes FIRST, ahead of the names: the tables' words, and 'selects' of the private methods out of them =====
/-- a private method of a class that the tables say can be made, by its rows of tables_1 -/
def lw_okq (q : MethodName × Nat) : Prop := (q.1.cls ≠ "java/lang/invoke/MethodHandle" ∧ q.1.cls ≠ "java/lang/invoke/VarHandle") ∧ Cond.instantiable q.1.cls q.2 ∈ tables_1 ∧ Cond.privateMethod q.1 ∈ tables_1 ∧ Cond.instanceMethod q.1 ∈ tables_1
theorem lw_p0 : lw_okq (⟨"CallLaws", "found", "(I)I"⟩, 9) := ⟨⟨by decide +kernel, by decide +kernel⟩, List.mem_of_getElem? (i := 18) (by decide +kernel), List.mem_of_getElem? (i := 293) (by decide +kernel), List.mem_of_getElem? (i := 294) (by decide +kernel)⟩
theorem lw_p1 : lw_okq (⟨"CallLaws", "well", "(I)I"⟩, 9) := ⟨⟨by decide +kernel, by decide +kernel⟩, List.mem_of_getElem? (i := 18) (by decide +kernel), List.mem_of_getElem? (i := 302) (by decide +kernel), List.mem_of_getElem? (i := 303) (by decide +kernel)⟩
theorem lw_p2 : lw_okq (⟨"CallLaws", "askSize", "(III)I"⟩, 9) := ⟨⟨by decide +kernel, by decide +kernel⟩, List.mem_of_getElem? (i := 18) (by decide +kernel), List.mem_of_getElem? (i := 703) (by decide +kernel), List.mem_of_getElem? (i := 704) (by decide +kernel)⟩
theorem lw_p3 : lw_okq (⟨"CallLaws", "sizeOfGiven", "(I)I"⟩, 9) := ⟨⟨by decide +kernel, by decide +kernel⟩, List.mem_of_getElem? (i := 18) (by decide +kernel), List.mem_of_getElem? (i := 707) (by decide +kernel), List.mem_of_getElem? (i := 708) (by decide +kernel)⟩
theorem lw_p4 : lw_okq (⟨"CallLaws", "leave", "(I)V"⟩, 9) := ⟨⟨by decide +kernel, by decide +kernel⟩, List.mem_of_getElem? (i := 18) (by decide +kernel), List.mem_of_getElem? (i := 711) (by decide +kernel), List.mem_of_getElem? (i := 712) (by decide +kernel)⟩
theorem lw_p5 : lw_okq (⟨"CallLaws", "sizeLent", "(I)I"⟩, 9) := ⟨⟨by decide +kernel, by decide +kernel⟩, List.mem_of_getElem? (i := 18) (by decide +kernel), List.mem_of_getElem? (i := 715) (by decide +kernel), List.mem_of_getElem? (i := 716) (by decide +kernel)⟩
theorem lw_p6 : lw_okq (⟨"CallLaws", "sizeOfBefore", "(I)I"⟩, 9) := ⟨⟨by decide +kernel, by decide +kernel⟩, List.mem_of_getElem? (i := 18) (by decide +kernel), List.mem_of_getElem? (i := 719) (by decide +kernel), List.mem_of_getElem? (i := 720) (by decide +kernel)⟩
theorem lw_p7 : lw_okq (⟨"CallLaws", "sizeOfRefuses", "(III)I"⟩, 9) := ⟨⟨by decide +kernel, by decide +kernel⟩, List.mem_of_getElem? (i := 18) (by decide +kernel), List.mem_of_getElem? (i := 723) (by decide +kernel), List.mem_of_getElem? (i := 724) (by decide +kernel)⟩
theorem lw_p8 : lw_okq (⟨"CallLaws", "askMark", "(III)I"⟩, 9) := ⟨⟨by decide +kernel, by decide +kernel⟩, List.mem_of_getElem? (i := 18) (by decide +kernel), List.mem_of_getElem? (i := 727) (by decide +kernel), List.mem_of_getElem? (i := 728) (by decide +kernel)⟩
theorem lw_p9 : lw_okq (⟨"CallLaws", "markOfGiven", "(I)I"⟩, 9) := ⟨⟨by decide +kernel, by decide +kernel⟩, List.mem_of_getElem? (i := 18) (by decide +kernel), List.mem_of_getElem? (i := 731) (by decide +kernel), List.mem_of_getElem? (i := 732) (by decide +kernel)⟩
theorem lw_p10 : lw_okq (⟨"CallLaws", "markLent", "(I)I"⟩, 9) := ⟨⟨by decide +kernel, by decide +kernel⟩, List.mem_of_getElem? (i := 18) (by decide +kernel), List.mem_of_getElem? (i := 735) (by decide +kernel), List.mem_of_getElem? (i := 736) (by decide +kernel)⟩
theorem lw_p11 : lw_okq (⟨"CallLaws", "markOfLoose", "(III)I"⟩, 9) := ⟨⟨by decide +kernel, by decide +kernel⟩, List.mem_of_getElem? (i := 18) (by decide +kernel), List.mem_of_getElem? (i := 739) (by decide +kernel), List.mem_of_getElem? (i := 740) (by decide +kernel)⟩
theorem lw_p12 : lw_okq (⟨"CallLaws", "markOfQuarrel", "(I)I"⟩, 9) := ⟨⟨by decide +kernel, by decide +kernel⟩, List.mem_of_getElem? (i := 18) (by decide +kernel), List.mem_of_getElem? (i := 743) (by decide +kernel), List.mem_of_getElem? (i := 744) (by decide +kernel)⟩
theorem lw_p13 : lw_okq (⟨"CallLaws", "sizeOfQuarrel", "(I)I"⟩, 9) := ⟨⟨by decide +kernel, by decide +kernel⟩, List.mem_of_getElem? (i := 18) (by decide +kernel), List.mem_of_getElem? (i := 747) (by decide +kernel), List.mem_of_getElem? (i := 748) (by decide +kernel)⟩
theorem lw_p14 : lw_okq (⟨"CallLaws", "countSheets", "()I"⟩, 9) := ⟨⟨by decide +kernel, by decide +kernel⟩, List.mem_of_getElem? (i := 18) (by decide +kernel), List.mem_of_getElem? (i := 759) (by decide +kernel), List.mem_of_getElem? (i := 760) (by decide +kernel)⟩
theorem lw_p15 : lw_okq (⟨"CallLawsModel", "finding", "(I)I"⟩, 44) := ⟨⟨by decide +kernel, by decide +kernel⟩, List.mem_of_getElem? (i := 780) (by decide +kernel), List.mem_of_getElem? (i := 934) (by decide +kernel), List.mem_of_getElem? (i := 935) (by decide +kernel)⟩
def lw_privs_1 : List (MethodName × Nat) := [(⟨"CallLaws", "found", "(I)I"⟩, 9), (⟨"CallLaws", "well", "(I)I"⟩, 9), (⟨"CallLaws", "askSize", "(III)I"⟩, 9), (⟨"CallLaws", "sizeOfGiven", "(I)I"⟩, 9), (⟨"CallLaws", "leave", "(I)V"⟩, 9), (⟨"CallLaws", "sizeLent", "(I)I"⟩, 9), (⟨"CallLaws", "sizeOfBefore", "(I)I"⟩, 9), (⟨"CallLaws", "sizeOfRefuses", "(III)I"⟩, 9), (⟨"CallLaws", "askMark", "(III)I"⟩, 9), (⟨"CallLaws", "markOfGiven", "(I)I"⟩, 9), (⟨"CallLaws", "markLent", "(I)I"⟩, 9), (⟨"CallLaws", "markOfLoose", "(III)I"⟩, 9), (⟨"CallLaws", "markOfQuarrel", "(I)I"⟩, 9), (⟨"CallLaws", "sizeOfQuarrel", "(I)I"⟩, 9), (⟨"CallLaws", "countSheets", "()I"⟩, 9), (⟨"CallLawsModel", "finding", "(I)I"⟩, 44)]
theorem lw_r1 : ∀ q ∈ lw_privs_1, lw_okq q := List.forall_mem_cons.mpr ⟨lw_p0, List.forall_mem_cons.mpr ⟨lw_p1, List.forall_mem_cons.mpr ⟨lw_p2, List.forall_mem_cons.mpr ⟨lw_p3, List.forall_mem_cons.mpr ⟨lw_p4, List.forall_mem_cons.mpr ⟨lw_p5, List.forall_mem_cons.mpr ⟨lw_p6, List.forall_mem_cons.mpr ⟨lw_p7, List.forall_mem_cons.mpr ⟨lw_p8, List.forall_mem_cons.mpr ⟨lw_p9, List.forall_mem_cons.mpr ⟨lw_p10, List.forall_mem_cons.mpr ⟨lw_p11, List.forall_mem_cons.mpr ⟨lw_p12, List.forall_mem_cons.mpr ⟨lw_p13, List.forall_mem_cons.mpr ⟨lw_p14, List.forall_mem_cons.mpr ⟨lw_p15, fun _ h => absurd h List.not_mem_nil⟩⟩⟩⟩⟩⟩⟩⟩⟩⟩⟩⟩⟩⟩⟩⟩
theorem lw_p16 : lw_okq (⟨"CallLawsModel", "next", "()V"⟩, 44) := ⟨⟨by decide +kernel, by decide +kernel⟩, List.mem_of_getElem? (i := 780) (by decide +kernel), List.mem_of_getElem? (i := 962) (by decide +kernel), List.mem_of_getElem? (i := 963) (by decide +kernel)⟩
theorem lw_p17 : lw_okq (⟨"CallLawsModel", "byteAt", "(I)I"⟩, 44) := ⟨⟨by decide +kernel, by decide +kernel⟩, List.mem_of_getElem? (i := 780) (by decide +kernel), List.mem_of_getElem? (i := 966) (by decide +kernel), List.mem_of_getElem? (i := 967) (by decide +kernel)⟩
theorem lw_p18 : lw_okq (⟨"CallLawsModel", "readOne", "()V"⟩, 44) := ⟨⟨by decide +kernel, by decide +kernel⟩, List.mem_of_getElem? (i := 780) (by decide +kernel), List.mem_of_getElem? (i := 976) (by decide +kernel), List.mem_of_getElem? (i := 977) (by decide +kernel)⟩
theorem lw_p19 : lw_okq (⟨"CallLawsModel", "word", "()J"⟩, 44) := ⟨⟨by decide +kernel, by decide +kernel⟩, List.mem_of_getElem? (i := 780) (by decide +kernel), List.mem_of_getElem? (i := 980) (by decide +kernel), List.mem_of_getElem? (i := 981) (by decide +kernel)⟩
theorem lw_p20 : lw_okq (⟨"CallLawsModel", "bad", "(I)V"⟩, 44) := ⟨⟨by decide +kernel, by decide +kernel⟩, List.mem_of_getElem? (i := 780) (by decide +kernel), List.mem_of_getElem? (i := 985) (by decide +kernel), List.mem_of_getElem? (i := 986) (by decide +kernel)⟩
theorem lw_p21 : lw_okq (⟨"CallLawsModel", "must", "(Z)V"⟩, 44) := ⟨⟨by decide +kernel, by decide +kernel⟩, List.mem_of_getElem? (i := 780) (by decide +kernel), List.mem_of_getElem? (i := 992) (by decide +kernel), List.mem_of_getElem? (i := 993) (by decide +kernel)⟩
theorem lw_p22 : lw_okq (⟨"CallLawsModel", "readEdition", "()V"⟩, 44) := ⟨⟨by decide +kernel, by decide +kernel⟩, List.mem_of_getElem? (i := 780) (by decide +kernel), List.mem_of_getElem? (i := 996) (by decide +kernel), List.mem_of_getElem? (i := 997) (by decide +kernel)⟩
theorem lw_p23 : lw_okq (⟨"CallLawsModel", "numberHere", "()I"⟩, 44) := ⟨⟨by decide +kernel, by decide +kernel⟩, List.mem_of_getElem? (i := 780) (by decide +kernel), List.mem_of_getElem? (i := 1000) (by decide +kernel), List.mem_of_getElem? (i := 1001) (by decide +kernel)⟩
theorem lw_p24 : lw_okq (⟨"CallLawsModel", "readRule", "(I)V"⟩, 44) := ⟨⟨by decide +kernel, by decide +kernel⟩, List.mem_of_getElem? (i := 780) (by decide +kernel), List.mem_of_getElem? (i := 1005) (by decide +kernel), List.mem_of_getElem? (i := 1006) (by decide +kernel)⟩
theorem lw_p25 : lw_okq (⟨"CallLawsModel", "numberIn", "(III)I"⟩, 44) := ⟨⟨by decide +kernel, by decide +kernel⟩, List.mem_of_getElem? (i := 780) (by decide +kernel), List.mem_of_getElem? (i := 1009) (by decide +kernel), List.mem_of_getElem? (i := 1010) (by decide +kernel)⟩
theorem lw_p26 : lw_okq (⟨"CallLawsModel", "mustRefuseOrGive", "()V"⟩, 44) := ⟨⟨by decide +kernel, by decide +kernel⟩, List.mem_of_getElem? (i := 780) (by decide +kernel), List.mem_of_getElem? (i := 1014) (by decide +kernel), List.mem_of_getElem? (i := 1015) (by decide +kernel)⟩
theorem lw_p27 : lw_okq (⟨"CallLawsModel", "readSaying", "()V"⟩, 44) := ⟨⟨by decide +kernel, by decide +kernel⟩, List.mem_of_getElem? (i := 780) (by decide +kernel), List.mem_of_getElem? (i := 1019) (by decide +kernel), List.mem_of_getElem? (i := 1020) (by decide +kernel)⟩
theorem lw_p28 : lw_okq (⟨"CallLawsModel", "readWithin", "()V"⟩, 44) := ⟨⟨by decide +kernel, by decide +kernel⟩, List.mem_of_getElem? (i := 780) (by decide +kernel), List.mem_of_getElem? (i := 1023) (by decide +kernel), List.mem_of_getElem? (i := 1024) (by decide +kernel)⟩
theorem lw_p29 : lw_okq (⟨"CallLawsModel", "isEdition", "(II)Z"⟩, 44) := ⟨⟨by decide +kernel, by decide +kernel⟩, List.mem_of_getElem? (i := 780) (by decide +kernel), List.mem_of_getElem? (i := 1044) (by decide +kernel), List.mem_of_getElem? (i := 1045) (by decide +kernel)⟩
theorem lw_p30 : lw_okq (⟨"CallLawsModel", "answerOf", "(IIII)I"⟩, 44) := ⟨⟨by decide +kernel, by decide +kernel⟩, List.mem_of_getElem? (i := 780) (by decide +kernel), List.mem_of_getElem? (i := 1049) (by decide +kernel), List.mem_of_getElem? (i := 1050) (by decide +kernel)⟩
theorem lw_p31 : lw_okq (⟨"CallLawsModel", "isSaying", "(I)Z"⟩, 44) := ⟨⟨by decide +kernel, by decide +kernel⟩, List.mem_of_getElem? (i := 780) (by decide +kernel), List.mem_of_getElem? (i := 1060) (by decide +kernel), List.mem_of_getElem? (i := 1061) (by decide +kernel)⟩
def lw_privs_2 : List (MethodName × Nat) := [(⟨"CallLawsModel", "next", "()V"⟩, 44), (⟨"CallLawsModel", "byteAt", "(I)I"⟩, 44), (⟨"CallLawsModel", "readOne", "()V"⟩, 44), (⟨"CallLawsModel", "word", "()J"⟩, 44), (⟨"CallLawsModel", "bad", "(I)V"⟩, 44), (⟨"CallLawsModel", "must", "(Z)V"⟩, 44), (⟨"CallLawsModel", "readEdition", "()V"⟩, 44), (⟨"CallLawsModel", "numberHere", "()I"⟩, 44), (⟨"CallLawsModel", "readRule", "(I)V"⟩, 44), (⟨"CallLawsModel", "numberIn", "(III)I"⟩, 44), (⟨"CallLawsModel", "mustRefuseOrGive", "()V"⟩, 44), (⟨"CallLawsModel", "readSaying", "()V"⟩, 44), (⟨"CallLawsModel", "readWithin", "()V"⟩, 44), (⟨"CallLawsModel", "isEdition", "(II)Z"⟩, 44), (⟨"CallLawsModel", "answerOf", "(IIII)I"⟩, 44), (⟨"CallLawsModel", "isSaying", "(I)Z"⟩, 44)]
theorem lw_r2 : ∀ q ∈ lw_privs_2, lw_okq q := List.forall_mem_cons.mpr ⟨lw_p16, List.forall_mem_cons.mpr ⟨lw_p17, List.forall_mem_cons.mpr ⟨lw_p18, List.forall_mem_cons.mpr ⟨lw_p19, List.forall_mem_cons.mpr ⟨lw_p20, List.forall_mem_cons.mpr ⟨lw_p21, List.forall_mem_cons.mpr ⟨lw_p22, List.forall_mem_cons.mpr ⟨lw_p23, List.forall_mem_cons.mpr ⟨lw_p24, List.forall_mem_cons.mpr ⟨lw_p25, List.forall_mem_cons.mpr ⟨lw_p26, List.forall_mem_cons.mpr ⟨lw_p27, List.forall_mem_cons.mpr ⟨lw_p28, List.forall_mem_cons.mpr ⟨lw_p29, List.forall_mem_cons.mpr ⟨lw_p30, List.forall_mem_cons.mpr ⟨lw_p31, fun _ h => absurd h List.not_mem_nil⟩⟩⟩⟩⟩⟩⟩⟩⟩⟩⟩⟩⟩⟩⟩⟩
theorem lw_p32 : lw_okq (⟨"CallLawsModel", "breaks", "(II)I"⟩, 44) := ⟨⟨by decide +kernel, by decide +kernel⟩, List.mem_of_getElem? (i := 780) (by decide +kernel), List.mem_of_getElem? (i := 1068) (by decide +kernel), List.mem_of_getElem? (i := 1069) (by decide +kernel)⟩
theorem lw_p33 : lw_okq (⟨"CallLawsModel", "isAbout", "(III)Z"⟩, 44) := ⟨⟨by decide +kernel, by decide +kernel⟩, List.mem_of_getElem? (i := 780) (by decide +kernel), List.mem_of_getElem? (i := 1072) (by decide +kernel), List.mem_of_getElem? (i := 1073) (by decide +kernel)⟩
theorem lw_p34 : lw_okq (⟨"CallLawsModel", "wrongIn", "(II)I"⟩, 44) := ⟨⟨by decide +kernel, by decide +kernel⟩, List.mem_of_getElem? (i := 780) (by decide +kernel), List.mem_of_getElem? (i := 1076) (by decide +kernel), List.mem_of_getElem? (i := 1077) (by decide +kernel)⟩
theorem lw_p35 : lw_okq (⟨"CallLawsModel", "isAllowedByAll", "(IIIIII)Z"⟩, 44) := ⟨⟨by decide +kernel, by decide +kernel⟩, List.mem_of_getElem? (i := 780) (by decide +kernel), List.mem_of_getElem? (i := 1084) (by decide +kernel), List.mem_of_getElem? (i := 1085) (by decide +kernel)⟩
theorem lw_p36 : lw_okq (⟨"CallLawsModel", "quarrelOf", "(I)I"⟩, 44) := ⟨⟨by decide +kernel, by decide +kernel⟩, List.mem_of_getElem? (i := 780) (by decide +kernel), List.mem_of_getElem? (i := 1103) (by decide +kernel), List.mem_of_getElem? (i := 1104) (by decide +kernel)⟩
theorem lw_p37 : lw_okq (⟨"CallLawsModel", "doQuarrel", "(II)Z"⟩, 44) := ⟨⟨by decide +kernel, by decide +kernel⟩, List.mem_of_getElem? (i := 780) (by decide +kernel), List.mem_of_getElem? (i := 1107) (by decide +kernel), List.mem_of_getElem? (i := 1108) (by decide +kernel)⟩
theorem lw_p38 : lw_okq (⟨"CallLawsModel", "isKept", "(II)Z"⟩, 44) := ⟨⟨by decide +kernel, by decide +kernel⟩, List.mem_of_getElem? (i := 780) (by decide +kernel), List.mem_of_getElem? (i := 1115) (by decide +kernel), List.mem_of_getElem? (i := 1116) (by decide +kernel)⟩
theorem lw_p39 : lw_okq (⟨"CallLawsModel", "isHouse", "(I)Z"⟩, 44) := ⟨⟨by decide +kernel, by decide +kernel⟩, List.mem_of_getElem? (i := 780) (by decide +kernel), List.mem_of_getElem? (i := 1127) (by decide +kernel), List.mem_of_getElem? (i := 1128) (by decide +kernel)⟩
theorem lw_p40 : lw_okq (⟨"CallLawsModel", "redOf", "(I)I"⟩, 44) := ⟨⟨by decide +kernel, by decide +kernel⟩, List.mem_of_getElem? (i := 780) (by decide +kernel), List.mem_of_getElem? (i := 1135) (by decide +kernel), List.mem_of_getElem? (i := 1136) (by decide +kernel)⟩
theorem lw_p41 : lw_okq (⟨"CallLawsModel", "kindOf", "(I)I"⟩, 44) := ⟨⟨by decide +kernel, by decide +kernel⟩, List.mem_of_getElem? (i := 780) (by decide +kernel), List.mem_of_getElem? (i := 1154) (by decide +kernel), List.mem_of_getElem? (i := 1155) (by decide +kernel)⟩
theorem lw_p42 : lw_okq (⟨"CallLawsModel", "sizeOf", "(II)I"⟩, 44) := ⟨⟨by decide +kernel, by decide +kernel⟩, List.mem_of_getElem? (i := 780) (by decide +kernel), List.mem_of_getElem? (i := 1170) (by decide +kernel), List.mem_of_getElem? (i := 1171) (by decide +kernel)⟩
theorem lw_p43 : lw_okq (⟨"CallLawsModel", "givenSize", "(II)I"⟩, 44) := ⟨⟨by decide +kernel, by decide +kernel⟩, List.mem_of_getElem? (i := 780) (by decide +kernel), List.mem_of_getElem? (i := 1174) (by decide +kernel), List.mem_of_getElem? (i := 1175) (by decide +kernel)⟩
theorem lw_p44 : lw_okq (⟨"CallLawsModel", "began", "(I)V"⟩, 44) := ⟨⟨by decide +kernel, by decide +kernel⟩, List.mem_of_getElem? (i := 780) (by decide +kernel), List.mem_of_getElem? (i := 1178) (by decide +kernel), List.mem_of_getElem? (i := 1179) (by decide +kernel)⟩
theorem lw_p45 : lw_okq (⟨"CallLawsModel", "aboutHowMany", "(I)I"⟩, 44) := ⟨⟨by decide +kernel, by decide +kernel⟩, List.mem_of_getElem? (i := 780) (by decide +kernel), List.mem_of_getElem? (i := 1182) (by decide +kernel), List.mem_of_getElem? (i := 1183) (by decide +kernel)⟩
theorem lw_p46 : lw_okq (⟨"CallLawsModel", "markOf", "(II)I"⟩, 44) := ⟨⟨by decide +kernel, by decide +kernel⟩, List.mem_of_getElem? (i := 780) (by decide +kernel), List.mem_of_getElem? (i := 1189) (by decide +kernel), List.mem_of_getElem? (i := 1190) (by decide +kernel)⟩
theorem lw_p47 : lw_okq (⟨"CallLawsModel", "isKeptBySome", "(I)Z"⟩, 44) := ⟨⟨by decide +kernel, by decide +kernel⟩, List.mem_of_getElem? (i := 780) (by decide +kernel), List.mem_of_getElem? (i := 1201) (by decide +kernel), List.mem_of_getElem? (i := 1202) (by decide +kernel)⟩
def lw_privs_3 : List (MethodName × Nat) := [(⟨"CallLawsModel", "breaks", "(II)I"⟩, 44), (⟨"CallLawsModel", "isAbout", "(III)Z"⟩, 44), (⟨"CallLawsModel", "wrongIn", "(II)I"⟩, 44), (⟨"CallLawsModel", "isAllowedByAll", "(IIIIII)Z"⟩, 44), (⟨"CallLawsModel", "quarrelOf", "(I)I"⟩, 44), (⟨"CallLawsModel", "doQuarrel", "(II)Z"⟩, 44), (⟨"CallLawsModel", "isKept", "(II)Z"⟩, 44), (⟨"CallLawsModel", "isHouse", "(I)Z"⟩, 44), (⟨"CallLawsModel", "redOf", "(I)I"⟩, 44), (⟨"CallLawsModel", "kindOf", "(I)I"⟩, 44), (⟨"CallLawsModel", "sizeOf", "(II)I"⟩, 44), (⟨"CallLawsModel", "givenSize", "(II)I"⟩, 44), (⟨"CallLawsModel", "began", "(I)V"⟩, 44), (⟨"CallLawsModel", "aboutHowMany", "(I)I"⟩, 44), (⟨"CallLawsModel", "markOf", "(II)I"⟩, 44), (⟨"CallLawsModel", "isKeptBySome", "(I)Z"⟩, 44)]
theorem lw_r3 : ∀ q ∈ lw_privs_3, lw_okq q := List.forall_mem_cons.mpr ⟨lw_p32, List.forall_mem_cons.mpr ⟨lw_p33, List.forall_mem_cons.mpr ⟨lw_p34, List.forall_mem_cons.mpr ⟨lw_p35, List.forall_mem_cons.mpr ⟨lw_p36, List.forall_mem_cons.mpr ⟨lw_p37, List.forall_mem_cons.mpr ⟨lw_p38, List.forall_mem_cons.mpr ⟨lw_p39, List.forall_mem_cons.mpr ⟨lw_p40, List.forall_mem_cons.mpr ⟨lw_p41, List.forall_mem_cons.mpr ⟨lw_p42, List.forall_mem_cons.mpr ⟨lw_p43, List.forall_mem_cons.mpr ⟨lw_p44, List.forall_mem_cons.mpr ⟨lw_p45, List.forall_mem_cons.mpr ⟨lw_p46, List.forall_mem_cons.mpr ⟨lw_p47, fun _ h => absurd h List.not_mem_nil⟩⟩⟩⟩⟩⟩⟩⟩⟩⟩⟩⟩⟩⟩⟩⟩
def lw_privs : List (MethodName × Nat) := lw_privs_1 ++ (lw_privs_2 ++ (lw_privs_3))
def lw_tbl : List Cond := k2_sels lw_privs ++ tables_1
theorem lw_privs_ok : ∀ q ∈ lw_privs, lw_okq q := by
  show ∀ q ∈ lw_privs_1 ++ (lw_privs_2 ++ (lw_privs_3)), lw_okq q
  exact List.forall_mem_append.mpr ⟨lw_r1, List.forall_mem_append.mpr ⟨lw_r2, lw_r3⟩⟩
theorem goodIn_r {big : List Cond} (ws : List Cond) (ps : List Nat) (hp : ws = ps.filterMap (fun i => big[i]?)) (h : ws.all goodWord = true) : GoodIn big ws := by
  intro w hw
  have h1 := List.all_eq_true.mp h w hw
  rw [hp] at hw
  obtain ⟨i, -, hi⟩ := List.mem_filterMap.mp hw
  have hm : w ∈ big := by first | exact List.mem_of_getElem? hi | exact List.getElem?_mem hi
  exact ⟨hm, good_of_word h1⟩
theorem goodIn_app {big a b : List Cond} (ha : GoodIn big a) (hb : GoodIn big b) : GoodIn big (a ++ b) := fun w h => (List.mem_append.mp h).elim (ha w) (hb w)
theorem goodIn_ca {big a b : List Cond} {c : Cond} (ha : GoodIn big (c :: a)) (hb : GoodIn big b) : GoodIn big (c :: (a ++ b)) := fun w h => (List.mem_cons.mp h).elim (fun e => ha w (List.mem_cons.mpr (Or.inl e))) (fun h => (List.mem_append.mp h).elim (fun h => ha w (List.mem_cons.mpr (Or.inr h))) (hb w))
theorem goodIn_sub {big ws : List Cond} (hm : ∀ w ∈ ws, w ∈ big) (h : ws.all goodWord = true) : GoodIn big ws := fun w hw => ⟨hm w hw, good_of_word (List.all_eq_true.mp h w hw)⟩

def RX0 : String := "CallLaws$Edition"
def TX0 : u_T := fun k => match k with
  | 0 => ("CallLaws$Edition", "answers", "[I", true)
  | _ => ("CallLaws$Edition", "kept", "I", false)
def tyX0 : Nat → FieldType := fun k => match k with
  | 0 => .array .int
  | _ => .int
abbrev wsX00 : List Cond := u_ws RX0 TX0 2
theorem nmX0 : ∀ a, a < 2 → ∀ b, b < 2 → a ≠ b → (TX0 a).2.1 ≠ (TX0 b).2.1 := by decide +kernel
theorem tyX0_ok : ∀ k, k < 2 → parseFieldDescriptor (TX0 k).2.2.1 = some (tyX0 k) := by decide +kernel
abbrev cX0_init : ByteArray := prog_2_method_1_code
def yX0_init : MethodName := ⟨RX0, "<init>", "()V"⟩
def RX1 : String := "CallLaws$Houses"
def TX1 : u_T := fun k => match k with
  | 0 => ("CallLaws$Houses", "told", "LCallLaws$Told;", true)
  | 1 => ("CallLaws$Houses", "steps", "[I", true)
  | 2 => ("CallLaws$Houses", "queue", "[I", true)
  | _ => ("CallLaws$Houses", "queued", "I", false)
def tyX1 : Nat → FieldType := fun k => match k with
  | 0 => .object "CallLaws$Told"
  | 1 => .array .int
  | 2 => .array .int
  | _ => .int
abbrev wsX10 : List Cond := u_ws RX1 TX1 4
theorem nmX1 : ∀ a, a < 4 → ∀ b, b < 4 → a ≠ b → (TX1 a).2.1 ≠ (TX1 b).2.1 := by decide +kernel
theorem tyX1_ok : ∀ k, k < 4 → parseFieldDescriptor (TX1 k).2.2.1 = some (tyX1 k) := by decide +kernel
abbrev cX1_init : ByteArray := prog_3_method_1_code
def yX1_init : MethodName := ⟨RX1, "<init>", "(LCallLaws$Told;)V"⟩
abbrev cX1_isThere : ByteArray := prog_3_method_2_code
def yX1_isThere : MethodName := ⟨RX1, "isThere", "(I)Z"⟩
abbrev cX1_standing : ByteArray := prog_3_method_3_code
def yX1_standing : MethodName := ⟨RX1, "standing", "(II)I"⟩
abbrev cX1_leastBroken : ByteArray := prog_3_method_4_code
def yX1_leastBroken : MethodName := ⟨RX1, "leastBroken", "(I)I"⟩
abbrev cX1_measureWaysTo : ByteArray := prog_3_method_5_code
def yX1_measureWaysTo : MethodName := ⟨RX1, "measureWaysTo", "(I)V"⟩
abbrev cX1_reach : ByteArray := prog_3_method_6_code
def yX1_reach : MethodName := ⟨RX1, "reach", "(II)V"⟩
abbrev cX1_spread : ByteArray := prog_3_method_7_code
def yX1_spread : MethodName := ⟨RX1, "spread", "(I)V"⟩
abbrev cX1_stepsFrom : ByteArray := prog_3_method_8_code
def yX1_stepsFrom : MethodName := ⟨RX1, "stepsFrom", "(I)I"⟩
abbrev cX1_firstFrom : ByteArray := prog_3_method_9_code
def yX1_firstFrom : MethodName := ⟨RX1, "firstFrom", "(I)I"⟩
def RX2 : String := "CallLaws$Ledger"
def TX2 : u_T := fun k => match k with
  | 0 => ("CallLaws$Ledger", "editions", "[I", true)
  | 1 => ("CallLaws$Ledger", "looks", "[I", true)
  | 2 => ("CallLaws$Ledger", "ownHours", "[I", true)
  | 3 => ("CallLaws$Ledger", "calls", "[I", true)
  | _ => ("CallLaws$Ledger", "sayings", "I", false)
def tyX2 : Nat → FieldType := fun k => match k with
  | 0 => .array .int
  | 1 => .array .int
  | 2 => .array .int
  | 3 => .array .int
  | _ => .int
abbrev wsX20 : List Cond := u_ws RX2 TX2 5
theorem nmX2 : ∀ a, a < 5 → ∀ b, b < 5 → a ≠ b → (TX2 a).2.1 ≠ (TX2 b).2.1 := by decide +kernel
theorem tyX2_ok : ∀ k, k < 5 → parseFieldDescriptor (TX2 k).2.2.1 = some (tyX2 k) := by decide +kernel
abbrev cX2_init : ByteArray := prog_4_method_1_code
def yX2_init : MethodName := ⟨RX2, "<init>", "()V"⟩
abbrev cX2_become : ByteArray := prog_4_method_2_code
def yX2_become : MethodName := ⟨RX2, "become", "(LCallLaws$Ledger;)V"⟩
def RX3 : String := "CallLaws$Reader"
def TX3 : u_T := fun k => match k with
  | 0 => ("CallLaws$Reader", "tape", "LCallLaws$Tape;", true)
  | 1 => ("CallLaws$Reader", "told", "LCallLaws$Told;", true)
  | 2 => ("CallLaws$Reader", "draft", "LCallLaws$Ledger;", true)
  | 3 => ("CallLaws$Reader", "at", "I", false)
  | _ => ("CallLaws$Reader", "fault", "I", false)
def tyX3 : Nat → FieldType := fun k => match k with
  | 0 => .object "CallLaws$Tape"
  | 1 => .object "CallLaws$Told"
  | 2 => .object "CallLaws$Ledger"
  | 3 => .int
  | _ => .int
abbrev wsX30 : List Cond := u_ws RX3 TX3 5
theorem nmX3 : ∀ a, a < 5 → ∀ b, b < 5 → a ≠ b → (TX3 a).2.1 ≠ (TX3 b).2.1 := by decide +kernel
theorem tyX3_ok : ∀ k, k < 5 → parseFieldDescriptor (TX3 k).2.2.1 = some (tyX3 k) := by decide +kernel
abbrev cX3_init : ByteArray := prog_5_method_1_code
def yX3_init : MethodName := ⟨RX3, "<init>", "(LCallLaws$Tape;LCallLaws$Told;)V"⟩
abbrev cX3_place : ByteArray := prog_5_method_2_code
def yX3_place : MethodName := ⟨RX3, "place", "()I"⟩
abbrev cX3_readText : ByteArray := prog_5_method_3_code
def yX3_readText : MethodName := ⟨RX3, "readText", "()V"⟩
abbrev cX3_readEdition : ByteArray := prog_5_method_4_code
def yX3_readEdition : MethodName := ⟨RX3, "readEdition", "()V"⟩
abbrev cX3_readRule : ByteArray := prog_5_method_5_code
def yX3_readRule : MethodName := ⟨RX3, "readRule", "([I)V"⟩
abbrev cX3_answerBy : ByteArray := prog_5_method_6_code
def yX3_answerBy : MethodName := ⟨RX3, "answerBy", "([III)V"⟩
abbrev cX3_readAnswer : ByteArray := prog_5_method_7_code
def yX3_readAnswer : MethodName := ⟨RX3, "readAnswer", "()I"⟩
abbrev cX3_takesRefuse : ByteArray := prog_5_method_8_code
def yX3_takesRefuse : MethodName := ⟨RX3, "takesRefuse", "()Z"⟩
abbrev cX3_readSaying : ByteArray := prog_5_method_9_code
def yX3_readSaying : MethodName := ⟨RX3, "readSaying", "()V"⟩
abbrev cX3_readThen : ByteArray := prog_5_method_10_code
def yX3_readThen : MethodName := ⟨RX3, "readThen", "(LCallLaws$Saying;)V"⟩
abbrev cX3_readField : ByteArray := prog_5_method_11_code
def yX3_readField : MethodName := ⟨RX3, "readField", "(LCallLaws$Saying;)V"⟩
abbrev cX3_readTry : ByteArray := prog_5_method_12_code
def yX3_readTry : MethodName := ⟨RX3, "readTry", "()V"⟩
abbrev cX3_readWithin : ByteArray := prog_5_method_13_code
def yX3_readWithin : MethodName := ⟨RX3, "readWithin", "()V"⟩
abbrev cX3_isNumber : ByteArray := prog_5_method_14_code
def yX3_isNumber : MethodName := ⟨RX3, "isNumber", "()Z"⟩
abbrev cX3_look : ByteArray := prog_5_method_15_code
def yX3_look : MethodName := ⟨RX3, "look", "(III)I"⟩
abbrev cX3_number : ByteArray := prog_5_method_16_code
def yX3_number : MethodName := ⟨RX3, "number", "(II)I"⟩
abbrev cX3_fresh : ByteArray := prog_5_method_17_code
def yX3_fresh : MethodName := ⟨RX3, "fresh", "(II)I"⟩
abbrev cX3_take : ByteArray := prog_5_method_18_code
def yX3_take : MethodName := ⟨RX3, "take", "(I)V"⟩
def RX4 : String := "CallLaws$Saying"
def TX4 : u_T := fun k => match k with
  | 0 => ("CallLaws$Saying", "caller", "I", false)
  | 1 => ("CallLaws$Saying", "edition", "I", false)
  | 2 => ("CallLaws$Saying", "giver", "I", false)
  | 3 => ("CallLaws$Saying", "from", "I", false)
  | 4 => ("CallLaws$Saying", "to", "I", false)
  | 5 => ("CallLaws$Saying", "mood", "I", false)
  | 6 => ("CallLaws$Saying", "fields", "I", false)
  | 7 => ("CallLaws$Saying", "about", "I", false)
  | _ => ("CallLaws$Saying", "allowed", "I", false)
def tyX4 : Nat → FieldType := fun k => match k with
  | 0 => .int
  | 1 => .int
  | 2 => .int
  | 3 => .int
  | 4 => .int
  | 5 => .int
  | 6 => .int
  | 7 => .int
  | _ => .int
abbrev wsX40 : List Cond := u_ws RX4 TX4 9
theorem nmX4 : ∀ a, a < 9 → ∀ b, b < 9 → a ≠ b → (TX4 a).2.1 ≠ (TX4 b).2.1 := by decide +kernel
theorem tyX4_ok : ∀ k, k < 9 → parseFieldDescriptor (TX4 k).2.2.1 = some (tyX4 k) := by decide +kernel
abbrev cX4_init : ByteArray := prog_6_method_1_code
def yX4_init : MethodName := ⟨RX4, "<init>", "()V"⟩
def RX5 : String := "CallLaws$Sheet"
def TX5 : u_T := fun k => match k with
  | 0 => ("CallLaws$Sheet", "items", "[I", true)
  | 1 => ("CallLaws$Sheet", "here", "Z", false)
  | 2 => ("CallLaws$Sheet", "lane", "I", false)
  | _ => ("CallLaws$Sheet", "size", "I", false)
def tyX5 : Nat → FieldType := fun k => match k with
  | 0 => .array .int
  | 1 => .boolean
  | 2 => .int
  | _ => .int
abbrev wsX50 : List Cond := u_ws RX5 TX5 4
theorem nmX5 : ∀ a, a < 4 → ∀ b, b < 4 → a ≠ b → (TX5 a).2.1 ≠ (TX5 b).2.1 := by decide +kernel
theorem tyX5_ok : ∀ k, k < 4 → parseFieldDescriptor (TX5 k).2.2.1 = some (tyX5 k) := by decide +kernel
abbrev cX5_init : ByteArray := prog_7_method_1_code
def yX5_init : MethodName := ⟨RX5, "<init>", "()V"⟩
abbrev cX5_begin : ByteArray := prog_7_method_2_code
def yX5_begin : MethodName := ⟨RX5, "begin", "(II)V"⟩
abbrev cX5_cut : ByteArray := prog_7_method_3_code
def yX5_cut : MethodName := ⟨RX5, "cut", "(I)I"⟩
abbrev cX5_reaches : ByteArray := prog_7_method_4_code
def yX5_reaches : MethodName := ⟨RX5, "reaches", "(II)Z"⟩
def RX6 : String := "CallLaws$Tape"
def TX6 : u_T := fun k => match k with
  | 0 => ("CallLaws$Tape", "bytes", "[B", true)
  | 1 => ("CallLaws$Tape", "tokens", "[B", true)
  | 2 => ("CallLaws$Tape", "starts", "[S", true)
  | _ => ("CallLaws$Tape", "length", "I", false)
def tyX6 : Nat → FieldType := fun k => match k with
  | 0 => .array .byte
  | 1 => .array .byte
  | 2 => .array .short
  | _ => .int
abbrev wsX60 : List Cond := u_ws RX6 TX6 4
theorem nmX6 : ∀ a, a < 4 → ∀ b, b < 4 → a ≠ b → (TX6 a).2.1 ≠ (TX6 b).2.1 := by decide +kernel
theorem tyX6_ok : ∀ k, k < 4 → parseFieldDescriptor (TX6 k).2.2.1 = some (tyX6 k) := by decide +kernel
abbrev cX6_init : ByteArray := prog_8_method_1_code
def yX6_init : MethodName := ⟨RX6, "<init>", "()V"⟩
abbrev cX6_split : ByteArray := prog_8_method_2_code
def yX6_split : MethodName := ⟨RX6, "split", "()V"⟩
abbrev cX6_endOfToken : ByteArray := prog_8_method_3_code
def yX6_endOfToken : MethodName := ⟨RX6, "endOfToken", "(I)I"⟩
abbrev cX6_tokenOf : ByteArray := prog_8_method_4_code
def yX6_tokenOf : MethodName := ⟨RX6, "tokenOf", "(II)I"⟩
abbrev cX6_numberOf : ByteArray := prog_8_method_5_code
def yX6_numberOf : MethodName := ⟨RX6, "numberOf", "(II)I"⟩
abbrev cX6_wordOf : ByteArray := prog_8_method_6_code
def yX6_wordOf : MethodName := ⟨RX6, "wordOf", "(II)I"⟩
abbrev cX6_spells : ByteArray := prog_8_method_7_code
def yX6_spells : MethodName := ⟨RX6, "spells", "(IILjava/lang/String;)Z"⟩
abbrev cX6_isLetter : ByteArray := prog_8_method_8_code
def yX6_isLetter : MethodName := ⟨RX6, "isLetter", "(B)Z"⟩
abbrev cX6_isFigure : ByteArray := prog_8_method_9_code
def yX6_isFigure : MethodName := ⟨RX6, "isFigure", "(B)Z"⟩
def RX7 : String := "CallLaws$Told"
def TX7 : u_T := fun k => match k with
  | 0 => ("CallLaws$Told", "stand", "LCallLaws$Ledger;", true)
  | 1 => ("CallLaws$Told", "sayings", "[LCallLaws$Saying;", true)
  | 2 => ("CallLaws$Told", "editions", "[LCallLaws$Edition;", true)
  | _ => ("CallLaws$Told", "quarrels", "[I", true)
def tyX7 : Nat → FieldType := fun k => match k with
  | 0 => .object "CallLaws$Ledger"
  | 1 => .array (.object "CallLaws$Saying")
  | 2 => .array (.object "CallLaws$Edition")
  | _ => .array .int
abbrev wsX70 : List Cond := u_ws RX7 TX7 4
theorem nmX7 : ∀ a, a < 4 → ∀ b, b < 4 → a ≠ b → (TX7 a).2.1 ≠ (TX7 b).2.1 := by decide +kernel
theorem tyX7_ok : ∀ k, k < 4 → parseFieldDescriptor (TX7 k).2.2.1 = some (tyX7 k) := by decide +kernel
abbrev cX7_init : ByteArray := prog_9_method_1_code
def yX7_init : MethodName := ⟨RX7, "<init>", "()V"⟩
abbrev cX7_hasSaying : ByteArray := prog_9_method_2_code
def yX7_hasSaying : MethodName := ⟨RX7, "hasSaying", "(I)Z"⟩
abbrev cX7_hasEdition : ByteArray := prog_9_method_3_code
def yX7_hasEdition : MethodName := ⟨RX7, "hasEdition", "(II)Z"⟩
abbrev cX7_editionOf : ByteArray := prog_9_method_4_code
def yX7_editionOf : MethodName := ⟨RX7, "editionOf", "(II)LCallLaws$Edition;"⟩
abbrev cX7_settle : ByteArray := prog_9_method_5_code
def yX7_settle : MethodName := ⟨RX7, "settle", "(LCallLaws$Ledger;)V"⟩
abbrev cX7_keptBy : ByteArray := prog_9_method_6_code
def yX7_keptBy : MethodName := ⟨RX7, "keptBy", "(II)I"⟩
abbrev cX7_leastQuarrel : ByteArray := prog_9_method_7_code
def yX7_leastQuarrel : MethodName := ⟨RX7, "leastQuarrel", "(I)I"⟩
abbrev cX7_sharesGiver : ByteArray := prog_9_method_8_code
def yX7_sharesGiver : MethodName := ⟨RX7, "sharesGiver", "(III)Z"⟩
abbrev cX7_leastThird : ByteArray := prog_9_method_9_code
def yX7_leastThird : MethodName := ⟨RX7, "leastThird", "(II)I"⟩
abbrev cX7_standIns : ByteArray := prog_9_method_10_code
def yX7_standIns : MethodName := ⟨RX7, "standIns", "(IIII)I"⟩
abbrev cX7_kindOf : ByteArray := prog_9_method_11_code
def yX7_kindOf : MethodName := ⟨RX7, "kindOf", "(I)I"⟩
abbrev cX7_countEditions : ByteArray := prog_9_method_12_code
def yX7_countEditions : MethodName := ⟨RX7, "countEditions", "()I"⟩
abbrev cX7_countKept : ByteArray := prog_9_method_13_code
def yX7_countKept : MethodName := ⟨RX7, "countKept", "()I"⟩
abbrev cX7_countWithin : ByteArray := prog_9_method_14_code
def yX7_countWithin : MethodName := ⟨RX7, "countWithin", "()I"⟩
def RX8 : String := "CallLaws"
def TX8 : u_T := fun k => match k with
  | 0 => ("CallLaws", "sheets", "[LCallLaws$Sheet;", true)
  | 1 => ("CallLaws", "tape", "LCallLaws$Tape;", true)
  | 2 => ("CallLaws", "told", "LCallLaws$Told;", true)
  | 3 => ("CallLaws", "reader", "LCallLaws$Reader;", true)
  | 4 => ("CallLaws", "houses", "LCallLaws$Houses;", true)
  | 5 => ("CallLaws", "traced", "[I", true)
  | 6 => ("CallLaws", "tracedCount", "I", false)
  | 7 => ("CallLaws", "latestFault", "I", false)
  | _ => ("CallLaws", "latestFinding", "I", false)
def tyX8 : Nat → FieldType := fun k => match k with
  | 0 => .array (.object "CallLaws$Sheet")
  | 1 => .object "CallLaws$Tape"
  | 2 => .object "CallLaws$Told"
  | 3 => .object "CallLaws$Reader"
  | 4 => .object "CallLaws$Houses"
  | 5 => .array .int
  | 6 => .int
  | 7 => .int
  | _ => .int
abbrev wsX80 : List Cond := u_ws RX8 TX8 9
theorem nmX8 : ∀ a, a < 9 → ∀ b, b < 9 → a ≠ b → (TX8 a).2.1 ≠ (TX8 b).2.1 := by decide +kernel
theorem tyX8_ok : ∀ k, k < 9 → parseFieldDescriptor (TX8 k).2.2.1 = some (tyX8 k) := by decide +kernel
abbrev cX8_init : ByteArray := prog_1_method_1_code
def yX8_init : MethodName := ⟨RX8, "<init>", "()V"⟩
abbrev cX8_sheet : ByteArray := prog_1_method_2_code
def yX8_sheet : MethodName := ⟨RX8, "sheet", "(III)I"⟩
abbrev cX8_set : ByteArray := prog_1_method_3_code
def yX8_set : MethodName := ⟨RX8, "set", "(III)I"⟩
abbrev cX8_copy : ByteArray := prog_1_method_4_code
def yX8_copy : MethodName := ⟨RX8, "copy", "(IIIII)I"⟩
abbrev cX8_drop : ByteArray := prog_1_method_5_code
def yX8_drop : MethodName := ⟨RX8, "drop", "(I)I"⟩
abbrev cX8_feed : ByteArray := prog_1_method_6_code
def yX8_feed : MethodName := ⟨RX8, "feed", "(JI)I"⟩
abbrev cX8_laws : ByteArray := prog_1_method_7_code
def yX8_laws : MethodName := ⟨RX8, "laws", "()I"⟩
abbrev cX8_fault : ByteArray := prog_1_method_8_code
def yX8_fault : MethodName := ⟨RX8, "fault", "()I"⟩
abbrev cX8_editions : ByteArray := prog_1_method_9_code
def yX8_editions : MethodName := ⟨RX8, "editions", "(I)I"⟩
abbrev cX8_answer : ByteArray := prog_1_method_10_code
def yX8_answer : MethodName := ⟨RX8, "answer", "(IIIII)I"⟩
abbrev cX8_saying : ByteArray := prog_1_method_11_code
def yX8_saying : MethodName := ⟨RX8, "saying", "(II)I"⟩
abbrev cX8_play : ByteArray := prog_1_method_12_code
def yX8_play : MethodName := ⟨RX8, "play", "(III)I"⟩
abbrev cX8_standIn : ByteArray := prog_1_method_13_code
def yX8_standIn : MethodName := ⟨RX8, "standIn", "(IIIIII)I"⟩
abbrev cX8_allows : ByteArray := prog_1_method_14_code
def yX8_allows : MethodName := ⟨RX8, "allows", "(IIII)I"⟩
abbrev cX8_noMore : ByteArray := prog_1_method_15_code
def yX8_noMore : MethodName := ⟨RX8, "noMore", "(II)I"⟩
abbrev cX8_quarrel : ByteArray := prog_1_method_16_code
def yX8_quarrel : MethodName := ⟨RX8, "quarrel", "(I)I"⟩
abbrev cX8_change : ByteArray := prog_1_method_17_code
def yX8_change : MethodName := ⟨RX8, "change", "(III)I"⟩
abbrev cX8_right : ByteArray := prog_1_method_18_code
def yX8_right : MethodName := ⟨RX8, "right", "(I)I"⟩
abbrev cX8_house : ByteArray := prog_1_method_19_code
def yX8_house : MethodName := ⟨RX8, "house", "(II)I"⟩
abbrev cX8_letOut : ByteArray := prog_1_method_20_code
def yX8_letOut : MethodName := ⟨RX8, "letOut", "(III)I"⟩
abbrev cX8_hours : ByteArray := prog_1_method_21_code
def yX8_hours : MethodName := ⟨RX8, "hours", "(I)I"⟩
abbrev cX8_kind : ByteArray := prog_1_method_22_code
def yX8_kind : MethodName := ⟨RX8, "kind", "(I)I"⟩
abbrev cX8_as : ByteArray := prog_1_method_23_code
def yX8_as : MethodName := ⟨RX8, "as", "(II)I"⟩
abbrev cX8_ask : ByteArray := prog_1_method_24_code
def yX8_ask : MethodName := ⟨RX8, "ask", "(II)I"⟩
abbrev cX8_trace : ByteArray := prog_1_method_25_code
def yX8_trace : MethodName := ⟨RX8, "trace", "(I)I"⟩
abbrev cX8_count : ByteArray := prog_1_method_26_code
def yX8_count : MethodName := ⟨RX8, "count", "(I)I"⟩
abbrev cX8_status : ByteArray := prog_1_method_27_code
def yX8_status : MethodName := ⟨RX8, "status", "()I"⟩
abbrev cX8_found : ByteArray := prog_1_method_28_code
def yX8_found : MethodName := ⟨RX8, "found", "(I)I"⟩
abbrev cX8_well : ByteArray := prog_1_method_29_code
def yX8_well : MethodName := ⟨RX8, "well", "(I)I"⟩
abbrev cX8_countSheets : ByteArray := prog_1_method_30_code
def yX8_countSheets : MethodName := ⟨RX8, "countSheets", "()I"⟩
abbrev cX8_isBelow : ByteArray := prog_1_method_31_code
def yX8_isBelow : MethodName := ⟨RX8, "isBelow", "(II)Z"⟩
abbrev cX8_isCase : ByteArray := prog_1_method_32_code
def yX8_isCase : MethodName := ⟨RX8, "isCase", "(II)Z"⟩
abbrev cX8_caseOf : ByteArray := prog_1_method_33_code
def yX8_caseOf : MethodName := ⟨RX8, "caseOf", "(II)I"⟩
abbrev cX8_casesOf : ByteArray := prog_1_method_34_code
def yX8_casesOf : MethodName := ⟨RX8, "casesOf", "(III)I"⟩
abbrev cX8_isWithin : ByteArray := prog_1_method_35_code
def yX8_isWithin : MethodName := ⟨RX8, "isWithin", "(II)Z"⟩
abbrev cX8_addHours : ByteArray := prog_1_method_36_code
def yX8_addHours : MethodName := ⟨RX8, "addHours", "(LCallLaws$Ledger;II)I"⟩
abbrev cX8_fieldOf : ByteArray := prog_1_method_37_code
def yX8_fieldOf : MethodName := ⟨RX8, "fieldOf", "(II)I"⟩
abbrev cX8_answerOf : ByteArray := prog_1_method_38_code
def yX8_answerOf : MethodName := ⟨RX8, "answerOf", "(I)I"⟩
abbrev cX8_countGiven : ByteArray := prog_1_method_39_code
def yX8_countGiven : MethodName := ⟨RX8, "countGiven", "(I)I"⟩
abbrev cX8_nthGiven : ByteArray := prog_1_method_40_code
def yX8_nthGiven : MethodName := ⟨RX8, "nthGiven", "(II)I"⟩
abbrev cX8_nthBit : ByteArray := prog_1_method_41_code
def yX8_nthBit : MethodName := ⟨RX8, "nthBit", "(II)I"⟩
abbrev cX8_hasNone : ByteArray := prog_1_method_42_code
def yX8_hasNone : MethodName := ⟨RX8, "hasNone", "(I)Z"⟩
abbrev cX8_firstBroken : ByteArray := prog_1_method_43_code
def yX8_firstBroken : MethodName := ⟨RX8, "firstBroken", "(LCallLaws$Saying;LCallLaws$Edition;)I"⟩
abbrev cX8_wrongField : ByteArray := prog_1_method_44_code
def yX8_wrongField : MethodName := ⟨RX8, "wrongField", "(II)I"⟩
abbrev cX8_leave : ByteArray := prog_1_method_45_code
def yX8_leave : MethodName := ⟨RX8, "leave", "(I)V"⟩
abbrev cX8_askSize : ByteArray := prog_1_method_46_code
def yX8_askSize : MethodName := ⟨RX8, "askSize", "(III)I"⟩
abbrev cX8_askMark : ByteArray := prog_1_method_47_code
def yX8_askMark : MethodName := ⟨RX8, "askMark", "(III)I"⟩
abbrev cX8_sizeLent : ByteArray := prog_1_method_48_code
def yX8_sizeLent : MethodName := ⟨RX8, "sizeLent", "(I)I"⟩
abbrev cX8_sizeOfGiven : ByteArray := prog_1_method_49_code
def yX8_sizeOfGiven : MethodName := ⟨RX8, "sizeOfGiven", "(I)I"⟩
abbrev cX8_sizeOfBefore : ByteArray := prog_1_method_50_code
def yX8_sizeOfBefore : MethodName := ⟨RX8, "sizeOfBefore", "(I)I"⟩
abbrev cX8_sizeOfRefuses : ByteArray := prog_1_method_51_code
def yX8_sizeOfRefuses : MethodName := ⟨RX8, "sizeOfRefuses", "(III)I"⟩
abbrev cX8_sizeOfQuarrel : ByteArray := prog_1_method_52_code
def yX8_sizeOfQuarrel : MethodName := ⟨RX8, "sizeOfQuarrel", "(I)I"⟩
abbrev cX8_markLent : ByteArray := prog_1_method_53_code
def yX8_markLent : MethodName := ⟨RX8, "markLent", "(I)I"⟩
abbrev cX8_markOfGiven : ByteArray := prog_1_method_54_code
def yX8_markOfGiven : MethodName := ⟨RX8, "markOfGiven", "(I)I"⟩
abbrev cX8_markOfLoose : ByteArray := prog_1_method_55_code
def yX8_markOfLoose : MethodName := ⟨RX8, "markOfLoose", "(III)I"⟩
abbrev cX8_markOfQuarrel : ByteArray := prog_1_method_56_code
def yX8_markOfQuarrel : MethodName := ⟨RX8, "markOfQuarrel", "(I)I"⟩
def RX9 : String := "CallLawsModel"
def TX9 : u_T := fun k => match k with
  | 0 => ("CallLawsModel", "thrown", "I", false)
  | 1 => ("CallLawsModel", "status", "I", false)
  | 2 => ("CallLawsModel", "lane", "[I", true)
  | 3 => ("CallLawsModel", "many", "[I", true)
  | 4 => ("CallLawsModel", "item", "[I", true)
  | 5 => ("CallLawsModel", "editions", "[I", true)
  | 6 => ("CallLawsModel", "newEditions", "[I", true)
  | 7 => ("CallLawsModel", "rules", "[I", true)
  | 8 => ("CallLawsModel", "ruleFrom", "[I", true)
  | 9 => ("CallLawsModel", "ruleTo", "[I", true)
  | 10 => ("CallLawsModel", "ruleMood", "[I", true)
  | 11 => ("CallLawsModel", "ruleGives", "[I", true)
  | 12 => ("CallLawsModel", "sayings", "I", false)
  | 13 => ("CallLawsModel", "newSayings", "I", false)
  | 14 => ("CallLawsModel", "callerOf", "[I", true)
  | 15 => ("CallLawsModel", "editionOf", "[I", true)
  | 16 => ("CallLawsModel", "giverOf", "[I", true)
  | 17 => ("CallLawsModel", "askFrom", "[I", true)
  | 18 => ("CallLawsModel", "askTo", "[I", true)
  | 19 => ("CallLawsModel", "moodOf", "[I", true)
  | 20 => ("CallLawsModel", "refuses", "[Z", true)
  | 21 => ("CallLawsModel", "toldOf", "[I", true)
  | 22 => ("CallLawsModel", "fieldOf", "[I", true)
  | 23 => ("CallLawsModel", "tries", "[I", true)
  | 24 => ("CallLawsModel", "newTries", "[I", true)
  | 25 => ("CallLawsModel", "ownHours", "[I", true)
  | 26 => ("CallLawsModel", "calls", "[I", true)
  | 27 => ("CallLawsModel", "newHours", "[I", true)
  | 28 => ("CallLawsModel", "newCalls", "[I", true)
  | 29 => ("CallLawsModel", "tape", "[I", true)
  | 30 => ("CallLawsModel", "taped", "I", false)
  | 31 => ("CallLawsModel", "latest", "I", false)
  | 32 => ("CallLawsModel", "length", "I", false)
  | 33 => ("CallLawsModel", "cursor", "I", false)
  | 34 => ("CallLawsModel", "token", "I", false)
  | 35 => ("CallLawsModel", "from", "I", false)
  | 36 => ("CallLawsModel", "till", "I", false)
  | 37 => ("CallLawsModel", "fault", "I", false)
  | 38 => ("CallLawsModel", "faultAt", "I", false)
  | 39 => ("CallLawsModel", "far", "[I", true)
  | 40 => ("CallLawsModel", "line", "[I", true)
  | 41 => ("CallLawsModel", "hoursThen", "[I", true)
  | 42 => ("CallLawsModel", "trace", "[I", true)
  | _ => ("CallLawsModel", "traced", "I", false)
def tyX9 : Nat → FieldType := fun k => match k with
  | 0 => .int
  | 1 => .int
  | 2 => .array .int
  | 3 => .array .int
  | 4 => .array .int
  | 5 => .array .int
  | 6 => .array .int
  | 7 => .array .int
  | 8 => .array .int
  | 9 => .array .int
  | 10 => .array .int
  | 11 => .array .int
  | 12 => .int
  | 13 => .int
  | 14 => .array .int
  | 15 => .array .int
  | 16 => .array .int
  | 17 => .array .int
  | 18 => .array .int
  | 19 => .array .int
  | 20 => .array .boolean
  | 21 => .array .int
  | 22 => .array .int
  | 23 => .array .int
  | 24 => .array .int
  | 25 => .array .int
  | 26 => .array .int
  | 27 => .array .int
  | 28 => .array .int
  | 29 => .array .int
  | 30 => .int
  | 31 => .int
  | 32 => .int
  | 33 => .int
  | 34 => .int
  | 35 => .int
  | 36 => .int
  | 37 => .int
  | 38 => .int
  | 39 => .array .int
  | 40 => .array .int
  | 41 => .array .int
  | 42 => .array .int
  | _ => .int
abbrev wsX90 : List Cond := u_ws RX9 TX9 44
theorem nmX9 : ∀ a, a < 44 → ∀ b, b < 44 → a ≠ b → (TX9 a).2.1 ≠ (TX9 b).2.1 := by decide +kernel
theorem tyX9_ok : ∀ k, k < 44 → parseFieldDescriptor (TX9 k).2.2.1 = some (tyX9 k) := by decide +kernel
abbrev cX9_init : ByteArray := prog_11_method_1_code
def yX9_init : MethodName := ⟨RX9, "<init>", "()V"⟩
abbrev cX9_in : ByteArray := prog_11_method_3_code
def yX9_in : MethodName := ⟨RX9, "in", "(JJJ)Z"⟩
abbrev cX9_finding : ByteArray := prog_11_method_4_code
def yX9_finding : MethodName := ⟨RX9, "finding", "(I)I"⟩
abbrev cX9_isSheet : ByteArray := prog_11_method_5_code
def yX9_isSheet : MethodName := ⟨RX9, "isSheet", "(I)Z"⟩
abbrev cX9_sheet : ByteArray := prog_11_method_6_code
def yX9_sheet : MethodName := ⟨RX9, "sheet", "(III)I"⟩
abbrev cX9_set : ByteArray := prog_11_method_7_code
def yX9_set : MethodName := ⟨RX9, "set", "(III)I"⟩
abbrev cX9_copy : ByteArray := prog_11_method_8_code
def yX9_copy : MethodName := ⟨RX9, "copy", "(IIIII)I"⟩
abbrev cX9_drop : ByteArray := prog_11_method_9_code
def yX9_drop : MethodName := ⟨RX9, "drop", "(I)I"⟩
abbrev cX9_feed : ByteArray := prog_11_method_10_code
def yX9_feed : MethodName := ⟨RX9, "feed", "(JI)I"⟩
abbrev cX9_byteAt : ByteArray := prog_11_method_11_code
def yX9_byteAt : MethodName := ⟨RX9, "byteAt", "(I)I"⟩
abbrev cX9_isLetter : ByteArray := prog_11_method_12_code
def yX9_isLetter : MethodName := ⟨RX9, "isLetter", "(I)Z"⟩
abbrev cX9_isFigure : ByteArray := prog_11_method_13_code
def yX9_isFigure : MethodName := ⟨RX9, "isFigure", "(I)Z"⟩
abbrev cX9_next : ByteArray := prog_11_method_14_code
def yX9_next : MethodName := ⟨RX9, "next", "()V"⟩
abbrev cX9_bad : ByteArray := prog_11_method_15_code
def yX9_bad : MethodName := ⟨RX9, "bad", "(I)V"⟩
abbrev cX9_must : ByteArray := prog_11_method_16_code
def yX9_must : MethodName := ⟨RX9, "must", "(Z)V"⟩
abbrev cX9_word : ByteArray := prog_11_method_17_code
def yX9_word : MethodName := ⟨RX9, "word", "()J"⟩
abbrev cX9_numberHere : ByteArray := prog_11_method_18_code
def yX9_numberHere : MethodName := ⟨RX9, "numberHere", "()I"⟩
abbrev cX9_numberIn : ByteArray := prog_11_method_19_code
def yX9_numberIn : MethodName := ⟨RX9, "numberIn", "(III)I"⟩
abbrev cX9_mustRefuseOrGive : ByteArray := prog_11_method_20_code
def yX9_mustRefuseOrGive : MethodName := ⟨RX9, "mustRefuseOrGive", "()V"⟩
abbrev cX9_readRule : ByteArray := prog_11_method_21_code
def yX9_readRule : MethodName := ⟨RX9, "readRule", "(I)V"⟩
abbrev cX9_readEdition : ByteArray := prog_11_method_22_code
def yX9_readEdition : MethodName := ⟨RX9, "readEdition", "()V"⟩
abbrev cX9_readSaying : ByteArray := prog_11_method_23_code
def yX9_readSaying : MethodName := ⟨RX9, "readSaying", "()V"⟩
abbrev cX9_readWithin : ByteArray := prog_11_method_24_code
def yX9_readWithin : MethodName := ⟨RX9, "readWithin", "()V"⟩
abbrev cX9_readOne : ByteArray := prog_11_method_25_code
def yX9_readOne : MethodName := ⟨RX9, "readOne", "()V"⟩
abbrev cX9_laws : ByteArray := prog_11_method_26_code
def yX9_laws : MethodName := ⟨RX9, "laws", "()I"⟩
abbrev cX9_fault : ByteArray := prog_11_method_27_code
def yX9_fault : MethodName := ⟨RX9, "fault", "()I"⟩
abbrev cX9_isService : ByteArray := prog_11_method_28_code
def yX9_isService : MethodName := ⟨RX9, "isService", "(I)Z"⟩
abbrev cX9_isEdition : ByteArray := prog_11_method_29_code
def yX9_isEdition : MethodName := ⟨RX9, "isEdition", "(II)Z"⟩
abbrev cX9_isSaying : ByteArray := prog_11_method_30_code
def yX9_isSaying : MethodName := ⟨RX9, "isSaying", "(I)Z"⟩
abbrev cX9_editions : ByteArray := prog_11_method_31_code
def yX9_editions : MethodName := ⟨RX9, "editions", "(I)I"⟩
abbrev cX9_answerOf : ByteArray := prog_11_method_32_code
def yX9_answerOf : MethodName := ⟨RX9, "answerOf", "(IIII)I"⟩
abbrev cX9_fieldIn : ByteArray := prog_11_method_33_code
def yX9_fieldIn : MethodName := ⟨RX9, "fieldIn", "(II)I"⟩
abbrev cX9_answer : ByteArray := prog_11_method_34_code
def yX9_answer : MethodName := ⟨RX9, "answer", "(IIIII)I"⟩
abbrev cX9_saying : ByteArray := prog_11_method_35_code
def yX9_saying : MethodName := ⟨RX9, "saying", "(II)I"⟩
abbrev cX9_isAbout : ByteArray := prog_11_method_36_code
def yX9_isAbout : MethodName := ⟨RX9, "isAbout", "(III)Z"⟩
abbrev cX9_wrongIn : ByteArray := prog_11_method_37_code
def yX9_wrongIn : MethodName := ⟨RX9, "wrongIn", "(II)I"⟩
abbrev cX9_breaks : ByteArray := prog_11_method_38_code
def yX9_breaks : MethodName := ⟨RX9, "breaks", "(II)I"⟩
abbrev cX9_isKept : ByteArray := prog_11_method_39_code
def yX9_isKept : MethodName := ⟨RX9, "isKept", "(II)Z"⟩
abbrev cX9_play : ByteArray := prog_11_method_40_code
def yX9_play : MethodName := ⟨RX9, "play", "(III)I"⟩
abbrev cX9_isAllowedByAll : ByteArray := prog_11_method_41_code
def yX9_isAllowedByAll : MethodName := ⟨RX9, "isAllowedByAll", "(IIIIII)Z"⟩
abbrev cX9_standIn : ByteArray := prog_11_method_42_code
def yX9_standIn : MethodName := ⟨RX9, "standIn", "(IIIIII)I"⟩
abbrev cX9_allows : ByteArray := prog_11_method_43_code
def yX9_allows : MethodName := ⟨RX9, "allows", "(IIII)I"⟩
abbrev cX9_noMore : ByteArray := prog_11_method_44_code
def yX9_noMore : MethodName := ⟨RX9, "noMore", "(II)I"⟩
abbrev cX9_doQuarrel : ByteArray := prog_11_method_45_code
def yX9_doQuarrel : MethodName := ⟨RX9, "doQuarrel", "(II)Z"⟩
abbrev cX9_quarrelOf : ByteArray := prog_11_method_46_code
def yX9_quarrelOf : MethodName := ⟨RX9, "quarrelOf", "(I)I"⟩
abbrev cX9_quarrel : ByteArray := prog_11_method_47_code
def yX9_quarrel : MethodName := ⟨RX9, "quarrel", "(I)I"⟩
abbrev cX9_change : ByteArray := prog_11_method_48_code
def yX9_change : MethodName := ⟨RX9, "change", "(III)I"⟩
abbrev cX9_right : ByteArray := prog_11_method_49_code
def yX9_right : MethodName := ⟨RX9, "right", "(I)I"⟩
abbrev cX9_figure : ByteArray := prog_11_method_50_code
def yX9_figure : MethodName := ⟨RX9, "figure", "(II)I"⟩
abbrev cX9_worth : ByteArray := prog_11_method_51_code
def yX9_worth : MethodName := ⟨RX9, "worth", "(I)I"⟩
abbrev cX9_isHouse : ByteArray := prog_11_method_52_code
def yX9_isHouse : MethodName := ⟨RX9, "isHouse", "(I)Z"⟩
abbrev cX9_redOf : ByteArray := prog_11_method_53_code
def yX9_redOf : MethodName := ⟨RX9, "redOf", "(I)I"⟩
abbrev cX9_house : ByteArray := prog_11_method_54_code
def yX9_house : MethodName := ⟨RX9, "house", "(II)I"⟩
abbrev cX9_letOut : ByteArray := prog_11_method_55_code
def yX9_letOut : MethodName := ⟨RX9, "letOut", "(III)I"⟩
abbrev cX9_hours : ByteArray := prog_11_method_56_code
def yX9_hours : MethodName := ⟨RX9, "hours", "(I)I"⟩
abbrev cX9_bits : ByteArray := prog_11_method_57_code
def yX9_bits : MethodName := ⟨RX9, "bits", "(I)I"⟩
abbrev cX9_kindOf : ByteArray := prog_11_method_58_code
def yX9_kindOf : MethodName := ⟨RX9, "kindOf", "(I)I"⟩
abbrev cX9_isOf : ByteArray := prog_11_method_59_code
def yX9_isOf : MethodName := ⟨RX9, "isOf", "(II)Z"⟩
abbrev cX9_kind : ByteArray := prog_11_method_60_code
def yX9_kind : MethodName := ⟨RX9, "kind", "(I)I"⟩
abbrev cX9_as : ByteArray := prog_11_method_61_code
def yX9_as : MethodName := ⟨RX9, "as", "(II)I"⟩
abbrev cX9_began : ByteArray := prog_11_method_62_code
def yX9_began : MethodName := ⟨RX9, "began", "(I)V"⟩
abbrev cX9_aboutHowMany : ByteArray := prog_11_method_63_code
def yX9_aboutHowMany : MethodName := ⟨RX9, "aboutHowMany", "(I)I"⟩
abbrev cX9_givenSize : ByteArray := prog_11_method_64_code
def yX9_givenSize : MethodName := ⟨RX9, "givenSize", "(II)I"⟩
abbrev cX9_markOf : ByteArray := prog_11_method_65_code
def yX9_markOf : MethodName := ⟨RX9, "markOf", "(II)I"⟩
abbrev cX9_sizeOf : ByteArray := prog_11_method_66_code
def yX9_sizeOf : MethodName := ⟨RX9, "sizeOf", "(II)I"⟩
abbrev cX9_ask : ByteArray := prog_11_method_67_code
def yX9_ask : MethodName := ⟨RX9, "ask", "(II)I"⟩
abbrev cX9_trace : ByteArray := prog_11_method_68_code
def yX9_trace : MethodName := ⟨RX9, "trace", "(I)I"⟩
abbrev cX9_isKeptBySome : ByteArray := prog_11_method_69_code
def yX9_isKeptBySome : MethodName := ⟨RX9, "isKeptBySome", "(I)Z"⟩
abbrev cX9_count : ByteArray := prog_11_method_70_code
def yX9_count : MethodName := ⟨RX9, "count", "(I)I"⟩
abbrev cX9_status : ByteArray := prog_11_method_71_code
def yX9_status : MethodName := ⟨RX9, "status", "()I"⟩
def RJ6 : String := "java/lang/Integer"
def TJ6 : u_T := fun k => match k with
  | _ => ("", "", "", false)
def tyJ6 : Nat → FieldType := fun k => match k with
  | _ => .int
abbrev wsJ60 : List Cond := u_ws RJ6 TJ6 0
theorem nmJ6 : ∀ a, a < 0 → ∀ b, b < 0 → a ≠ b → (TJ6 a).2.1 ≠ (TJ6 b).2.1 := by decide +kernel
theorem tyJ6_ok : ∀ k, k < 0 → parseFieldDescriptor (TJ6 k).2.2.1 = some (tyJ6 k) := by decide +kernel
abbrev cJ6_bitCount_0f7a4 : ByteArray := prog_12_method_49_code
def yJ6_bitCount_0f7a4 : MethodName := ⟨RJ6, "bitCount", "(I)I"⟩
def RJ0 : String := "java/lang/String"
def TJ0 : u_T := fun k => match k with
  | _ => ("", "", "", false)
def tyJ0 : Nat → FieldType := fun k => match k with
  | _ => .int
abbrev wsJ00 : List Cond := u_ws RJ0 TJ0 0
theorem nmJ0 : ∀ a, a < 0 → ∀ b, b < 0 → a ≠ b → (TJ0 a).2.1 ≠ (TJ0 b).2.1 := by decide +kernel
theorem tyJ0_ok : ∀ k, k < 0 → parseFieldDescriptor (TJ0 k).2.2.1 = some (tyJ0 k) := by decide +kernel
abbrev cJ0_length_8abf5 : ByteArray := prog_13_method_54_code
def yJ0_length_8abf5 : MethodName := ⟨RJ0, "length", "()I"⟩
abbrev cJ0_charAt_5068e : ByteArray := prog_13_method_56_code
def yJ0_charAt_5068e : MethodName := ⟨RJ0, "charAt", "(I)C"⟩
abbrev cJ0_coder_7d493 : ByteArray := prog_13_method_152_code
def yJ0_coder_7d493 : MethodName := ⟨RJ0, "coder", "()B"⟩
abbrev cJ0_isLatin1_aae02 : ByteArray := prog_13_method_154_code
def yJ0_isLatin1_aae02 : MethodName := ⟨RJ0, "isLatin1", "()Z"⟩
abbrev cJ0_checkIndex_df160 : ByteArray := prog_13_method_155_code
def yJ0_checkIndex_df160 : MethodName := ⟨RJ0, "checkIndex", "(II)V"⟩
def RJ1 : String := "java/lang/StringLatin1"
def TJ1 : u_T := fun k => match k with
  | _ => ("", "", "", false)
def tyJ1 : Nat → FieldType := fun k => match k with
  | _ => .int
abbrev wsJ10 : List Cond := u_ws RJ1 TJ1 0
theorem nmJ1 : ∀ a, a < 0 → ∀ b, b < 0 → a ≠ b → (TJ1 a).2.1 ≠ (TJ1 b).2.1 := by decide +kernel
theorem tyJ1_ok : ∀ k, k < 0 → parseFieldDescriptor (TJ1 k).2.2.1 = some (tyJ1 k) := by decide +kernel
abbrev cJ1_charAt_3b067 : ByteArray := prog_14_method_2_code
def yJ1_charAt_3b067 : MethodName := ⟨RJ1, "charAt", "([BI)C"⟩
def RJ2 : String := "java/lang/StringUTF16"
def TJ2 : u_T := fun k => match k with
  | _ => ("", "", "", false)
def tyJ2 : Nat → FieldType := fun k => match k with
  | _ => .int
abbrev wsJ20 : List Cond := u_ws RJ2 TJ2 0
theorem nmJ2 : ∀ a, a < 0 → ∀ b, b < 0 → a ≠ b → (TJ2 a).2.1 ≠ (TJ2 b).2.1 := by decide +kernel
theorem tyJ2_ok : ∀ k, k < 0 → parseFieldDescriptor (TJ2 k).2.2.1 = some (tyJ2 k) := by decide +kernel
abbrev cJ2_getChar_3b067 : ByteArray := prog_15_method_5_code
def yJ2_getChar_3b067 : MethodName := ⟨RJ2, "getChar", "([BI)C"⟩
abbrev cJ2_length_9d52b : ByteArray := prog_15_method_6_code
def yJ2_length_9d52b : MethodName := ⟨RJ2, "length", "([B)I"⟩
abbrev cJ2_charAt_3b067 : ByteArray := prog_15_method_83_code
def yJ2_charAt_3b067 : MethodName := ⟨RJ2, "charAt", "([BI)C"⟩
abbrev cJ2_checkIndex_2214a : ByteArray := prog_15_method_91_code
def yJ2_checkIndex_2214a : MethodName := ⟨RJ2, "checkIndex", "(I[B)V"⟩
def RJ10 : String := "java/lang/System"
def TJ10 : u_T := fun k => match k with
  | _ => ("", "", "", false)
def tyJ10 : Nat → FieldType := fun k => match k with
  | _ => .int
abbrev wsJ100 : List Cond := u_ws RJ10 TJ10 0
theorem nmJ10 : ∀ a, a < 0 → ∀ b, b < 0 → a ≠ b → (TJ10 a).2.1 ≠ (TJ10 b).2.1 := by decide +kernel
theorem tyJ10_ok : ∀ k, k < 0 → parseFieldDescriptor (TJ10 k).2.2.1 = some (tyJ10 k) := by decide +kernel
def RJ3 : String := "jdk/internal/util/Preconditions"
def TJ3 : u_T := fun k => match k with
  | _ => ("", "", "", false)
def tyJ3 : Nat → FieldType := fun k => match k with
  | _ => .int
abbrev wsJ30 : List Cond := u_ws RJ3 TJ3 0
theorem nmJ3 : ∀ a, a < 0 → ∀ b, b < 0 → a ≠ b → (TJ3 a).2.1 ≠ (TJ3 b).2.1 := by decide +kernel
theorem tyJ3_ok : ∀ k, k < 0 → parseFieldDescriptor (TJ3 k).2.2.1 = some (tyJ3 k) := by decide +kernel
abbrev cJ3_checkIndex_8e157 : ByteArray := prog_17_method_11_code
def yJ3_checkIndex_8e157 : MethodName := ⟨RJ3, "checkIndex", "(IILjava/util/function/BiFunction;)I"⟩
def RL : String := "CallLawsLaw"
abbrev cL_law : ByteArray := code
def yL_law : MethodName := ⟨RL, "law", "([I)Z"⟩
abbrev vwCl : List vw_C := [(RX0, TX0, 2), (RX1, TX1, 4), (RX2, TX2, 5), (RX3, TX3, 5), (RX4, TX4, 9), (RX5, TX5, 4), (RX6, TX6, 4), (RX7, TX7, 4), (RX8, TX8, 9), (RX9, TX9, 44)]
end
section
/-! A PURE MACHINE for the instructions that this system uses: a state is a program counter, the locals, the stack and a picture of the heap; references are numbers (0 to 16: what was there before, 17 on: what is made, in the order of the making). Part 03 shows that the machine itself follows it. -/
abbrev pe_T : Type := Nat × Instr × Nat × Nat × Int
abbrev pm_T : Type := String × MethodName × ByteArray × Nat × Option FieldType × Nat × List pe_T
abbrev ph_T : Type := List (Nat × Nat) × (Nat → Nat → Nat) × (Nat → Nat → Int32)
abbrev ps_T : Type := Nat × List (Nat × Value) × List Value × ph_T
/-- what was there before: the script, the class's two tables, the seven words, their bytes -/
def px_sh (L : Nat) (a : Nat) : Nat × Nat := ([(0, L), (0, 6), (0, 4), (20, 2), (20, 2), (20, 2), (20, 2), (20, 2), (20, 2), (20, 2), (1, 4), (1, 4), (1, 6), (1, 6), (1, 7), (1, 3), (1, 6)] : List (Nat × Nat)).getD a (99, 0)
/-- kind and size of a cell: 0 ints, 1 bytes, 2 shorts, 3 booleans, 4 to 6 references, 10 on objects, 20 a word -/
def ps_sh (L : Nat) (h : ph_T) (a : Nat) : Nat × Nat := if a < 17 then px_sh L a else h.1.getD (a - 17) (99, 0)
def pi_up (f : Nat → Nat → Int32) (a i : Nat) (v : Int32) : Nat → Nat → Int32 := fun b j => if b = a ∧ j = i then v else f b j
def pi_row (f : Nat → Nat → Int32) (a : Nat) (g : Nat → Int32) : Nat → Nat → Int32 := fun b j => if b = a then g j else f b j
def pr_up (f : Nat → Nat → Nat) (a i : Nat) (v : Nat) : Nat → Nat → Nat := fun b j => if b = a ∧ j = i then v else f b j
def pr_row (f : Nat → Nat → Nat) (a : Nat) (g : Nat → Nat) : Nat → Nat → Nat := fun b j => if b = a then g j else f b j
/-- a field's kind: 0 int, 1 reference, 2 boolean -/
def pf_ty (ci k : Nat) : Nat := (([[1, 0], [1, 1, 1, 0], [1, 1, 1, 1, 0], [1, 1, 1, 0, 0], [0, 0, 0, 0, 0, 0, 0, 0, 0], [1, 2, 0, 0], [1, 1, 1, 0], [1, 1, 1, 1], [1, 1, 1, 1, 1, 1, 0, 0, 0], [0, 0, 1, 1, 1, 1, 1, 1, 1, 1, 1, 1, 0, 0, 1, 1, 1, 1, 1, 1, 1, 1, 1, 1, 1, 1, 1, 1, 1, 1, 0, 0, 0, 0, 0, 0, 0, 0, 0, 1, 1, 1, 1, 0]] : List (List Nat)).getD ci []).getD k 0
def pf_n (ci : Nat) : Nat := ([2, 4, 5, 5, 9, 4, 4, 4, 9, 44] : List Nat).getD ci 0
def pl_get (lv : List (Nat × Value)) (i : Nat) : Option Value := (lv.find? (fun q => q.1 == i)).map (fun q => q.2)
def pl_set (lv : List (Nat × Value)) (i : Nat) (v : Value) : List (Nat × Value) := (i, v) :: lv.filter (fun q => !(q.1 == i) && !(q.1 + 1 == i && q.2.category == 2))
def pl_set2 (lv : List (Nat × Value)) (i : Nat) (v : Value) : List (Nat × Value) := (i, v) :: lv.filter (fun q => !(q.1 == i) && (!(q.1 == i + 1) && !(q.1 + 1 == i && q.2.category == 2)))
def pk_sum (st : List Value) : Nat := (st.map fun v => v.category).sum
def pc_b (c : ClassFile.Cond) (x y : Int32) : Bool := match c with
  | .eq => decide (x = y)
  | .ne => decide (¬ x = y)
  | .lt => decide (x < y)
  | .ge => decide (y ≤ x)
  | .gt => decide (y < x)
  | .le => decide (x ≤ y)
def ph_new (h : ph_T) (kind n : Nat) : ph_T := (h.1 ++ [(kind, n)], pr_row h.2.1 (17 + h.1.length) (fun _ => 0), pi_row h.2.2 (17 + h.1.length) (fun _ => 0))
def pg_get (L : Nat) (h : ph_T) (a k kind : Nat) : Option Value :=
  if (ps_sh L h a).1 = kind then
    if kind = 20 ∧ a < 17 then (if k = 0 then some (.ref (a + 7)) else some (.int 0))
    else if 10 ≤ kind ∧ kind < 20 ∧ k < (ps_sh L h a).2 then
      (if pf_ty (kind - 10) k = 1 then (if h.2.1 a k = 0 then none else some (.ref (h.2.1 a k - 1))) else some (.int (h.2.2 a k)))
    else none
  else none
def pg_put (L : Nat) (h : ph_T) (a k kind : Nat) (w : Value) : Option ph_T :=
  if 17 ≤ a ∧ (ps_sh L h a).1 = kind ∧ 10 ≤ kind ∧ kind < 20 ∧ k < (ps_sh L h a).2 then
    match w with
    | .int x => if pf_ty (kind - 10) k = 0 ∨ (pf_ty (kind - 10) k = 2 ∧ (x = 0 ∨ x = 1)) then some (h.1, h.2.1, pi_up h.2.2 a k x) else none
    | .ref b => if pf_ty (kind - 10) k = 1 then some (h.1, pr_up h.2.1 a k (b + 1), h.2.2) else none
    | _ => none
  else none
def pa_in (i : Int32) (n : Nat) : Bool := decide (¬ (i < 0 ∨ n ≤ i.toNatClampNeg))
def pa_ld (L : Nat) (h : ph_T) (ks : List Nat) (a : Nat) (i : Int32) : Option Value := if (ps_sh L h a).1 ∈ ks ∧ pa_in i (ps_sh L h a).2 = true then some (.int (h.2.2 a i.toNatClampNeg)) else none
def pa_ldr (L : Nat) (h : ph_T) (a : Nat) (i : Int32) : Option Value := if 17 ≤ a ∧ (ps_sh L h a).1 ∈ [4, 5, 6] ∧ pa_in i (ps_sh L h a).2 = true ∧ h.2.1 a i.toNatClampNeg ≠ 0 then some (.ref (h.2.1 a i.toNatClampNeg - 1)) else none
def pa_nar (kind : Nat) (x : Int32) : Int32 := match kind with
  | 0 => x
  | 1 => vp_nar .byte x
  | 2 => vp_nar .short x
  | _ => vp_nar .boolean x
def pa_st (L : Nat) (h : ph_T) (ks : List Nat) (a : Nat) (i x : Int32) : Option ph_T := if 17 ≤ a ∧ (ps_sh L h a).1 ∈ ks ∧ pa_in i (ps_sh L h a).2 = true then some (h.1, h.2.1, pi_up h.2.2 a i.toNatClampNeg (pa_nar (ps_sh L h a).1 x)) else none
/-- of an array of references the kind of its elements -/
def pa_el (kind : Nat) : Nat := match kind with
  | 4 => 15
  | 5 => 14
  | _ => 10
def pa_str (L : Nat) (h : ph_T) (a : Nat) (i : Int32) (b : Nat) : Option ph_T := if 17 ≤ a ∧ 17 ≤ b ∧ (ps_sh L h a).1 ∈ [4, 5, 6] ∧ pa_in i (ps_sh L h a).2 = true ∧ (ps_sh L h b).1 = pa_el (ps_sh L h a).1 then some (h.1, pr_up h.2.1 a i.toNatClampNeg (b + 1), h.2.2) else none
def pa_len (L : Nat) (h : ph_T) (a : Nat) : Option Value := if (ps_sh L h a).1 ≤ 6 then some (.int (Int32.ofNat (ps_sh L h a).2)) else none
def pa_new (h : ph_T) (kind : Nat) (n : Int32) : Option ph_T := if ¬ n < 0 ∧ n.toNatClampNeg ≤ 10000 then some (ph_new h kind n.toNatClampNeg) else none
def pa_cpy (L : Nat) (h : ph_T) (a0 : Nat) (sp : Int32) (a1 : Nat) (dp n : Int32) : Option ph_T :=
  if (17 ≤ a0 ∧ 17 ≤ a1 ∧ (ps_sh L h a0).1 = 0 ∧ (ps_sh L h a1).1 = 0) ∧ ¬ sp < 0 ∧ ¬ dp < 0 ∧ ¬ n < 0 ∧ sp.toNatClampNeg + n.toNatClampNeg ≤ (ps_sh L h a0).2 ∧ dp.toNatClampNeg + n.toNatClampNeg ≤ (ps_sh L h a1).2 then
    some (h.1, h.2.1, pi_row h.2.2 a1 (va_cpy (h.2.2 a0) (h.2.2 a1) sp.toNatClampNeg dp.toNatClampNeg n.toNatClampNeg))
  else none
def po_i (st : List Value) (f : Int32 → Value) : Option (List Value) := match st with
  | .int x :: r => some (f x :: r)
  | _ => none
def po_l (st : List Value) (f : Int64 → Value) : Option (List Value) := match st with
  | .long x :: r => some (f x :: r)
  | _ => none
def po_ii (st : List Value) (f : Int32 → Int32 → Value) : Option (List Value) := match st with
  | .int y :: .int x :: r => some (f x y :: r)
  | _ => none
def po_ll (st : List Value) (f : Int64 → Int64 → Value) : Option (List Value) := match st with
  | .long y :: .long x :: r => some (f x y :: r)
  | _ => none
def po_li (st : List Value) (f : Int64 → Int32 → Value) : Option (List Value) := match st with
  | .int y :: .long x :: r => some (f x y :: r)
  | _ => none
def pt_to (pc : Nat) (off : Int) : Option Nat := if 0 ≤ (pc : Int) + off then some ((pc : Int) + off).toNat else none
def pt_sw (pc : Nat) (d lo hi : Int) (offs : Array Int) (x : Int32) : Option Nat := if x.toInt < lo ∨ hi < x.toInt then pt_to pc d else (offs[(x.toInt - lo).toNat]?).bind (pt_to pc)
def pw_i (o : Option Value) : Option Value := match o with
  | some (.int x) => some (.int x)
  | _ => none
def pw_l (o : Option Value) : Option Value := match o with
  | some (.long x) => some (.long x)
  | _ => none
def pw_a (o : Option Value) : Option Value := match o with
  | some (.ref x) => some (.ref x)
  | _ => none
/-- one instruction, calls of our own methods and returns apart -/
def ps_step (L : Nat) (e : pe_T) (s : ps_T) : Option ps_T :=
  let lv := s.2.1
  let st := s.2.2.1
  let h := s.2.2.2
  let nx := e.2.2.1
  let k := e.2.2.2.1
  let v := e.2.2.2.2
  match e.2.1 with
  | .iconst z => some (nx, lv, .int (Int32.ofInt z) :: st, h)
  | .bipush z => some (nx, lv, .int ((Int8.ofInt z).toInt32) :: st, h)
  | .sipush z => some (nx, lv, .int ((Int16.ofInt z).toInt32) :: st, h)
  | .ldc _ => if k = 0 then some (nx, lv, .int (Int32.ofInt v) :: st, h) else some (nx, lv, .ref v.toNat :: st, h)
  | .ldc_w _ => some (nx, lv, .int (Int32.ofInt v) :: st, h)
  | .lconst z => some (nx, lv, .long (Int64.ofNat (z : Nat)) :: st, h)
  | .ldc2_w _ => some (nx, lv, .long (Int64.ofInt v) :: st, h)
  | .iload j => (pw_i (pl_get lv j)).map (fun w => (nx, lv, w :: st, h))
  | .iload_n j => (pw_i (pl_get lv (j : Nat))).map (fun w => (nx, lv, w :: st, h))
  | .lload j => (pw_l (pl_get lv j)).map (fun w => (nx, lv, w :: st, h))
  | .lload_n j => (pw_l (pl_get lv (j : Nat))).map (fun w => (nx, lv, w :: st, h))
  | .aload j => (pw_a (pl_get lv j)).map (fun w => (nx, lv, w :: st, h))
  | .aload_n j => (pw_a (pl_get lv (j : Nat))).map (fun w => (nx, lv, w :: st, h))
  | .istore j => match st with
    | .int x :: r => some (nx, pl_set lv j (.int x), r, h)
    | _ => none
  | .istore_n j => match st with
    | .int x :: r => some (nx, pl_set lv (j : Nat) (.int x), r, h)
    | _ => none
  | .lstore j => match st with
    | .long x :: r => some (nx, pl_set2 lv j (.long x), r, h)
    | _ => none
  | .lstore_n j => match st with
    | .long x :: r => some (nx, pl_set2 lv (j : Nat) (.long x), r, h)
    | _ => none
  | .astore j => match st with
    | .ref x :: r => some (nx, pl_set lv j (.ref x), r, h)
    | _ => none
  | .astore_n j => match st with
    | .ref x :: r => some (nx, pl_set lv (j : Nat) (.ref x), r, h)
    | _ => none
  | .iinc j z => match pl_get lv j with
    | some (.int x) => some (nx, pl_set lv j (.int (x + Int32.ofInt z)), st, h)
    | _ => none
  | .iadd => (po_ii st fun x y => .int (x + y)).map (fun st => (nx, lv, st, h))
  | .isub => (po_ii st fun x y => .int (x - y)).map (fun st => (nx, lv, st, h))
  | .imul => (po_ii st fun x y => .int (x * y)).map (fun st => (nx, lv, st, h))
  | .iand => (po_ii st fun x y => .int (x &&& y)).map (fun st => (nx, lv, st, h))
  | .ior => (po_ii st fun x y => .int (x ||| y)).map (fun st => (nx, lv, st, h))
  | .ixor => (po_ii st fun x y => .int (x ^^^ y)).map (fun st => (nx, lv, st, h))
  | .ishl => (po_ii st fun x y => .int (x <<< (y &&& 31))).map (fun st => (nx, lv, st, h))
  | .ishr => (po_ii st fun x y => .int (x >>> (y &&& 31))).map (fun st => (nx, lv, st, h))
  | .iushr => (po_ii st fun x y => .int (x.toUInt32 >>> (y.toUInt32 &&& Int32.toUInt32 31)).toInt32).map (fun st => (nx, lv, st, h))
  | .idiv => match st with
    | .int y :: .int x :: r => if y = 0 then none else some (nx, lv, .int (x / y) :: r, h)
    | _ => none
  | .irem => match st with
    | .int y :: .int x :: r => if y = 0 then none else some (nx, lv, .int (x - x / y * y) :: r, h)
    | _ => none
  | .ineg => (po_i st fun x => .int (-x)).map (fun st => (nx, lv, st, h))
  | .i2l => (po_i st fun x => .long x.toInt64).map (fun st => (nx, lv, st, h))
  | .i2b => (po_i st fun x => .int x.toInt8.toInt32).map (fun st => (nx, lv, st, h))
  | .i2s => (po_i st fun x => .int x.toInt16.toInt32).map (fun st => (nx, lv, st, h))
  | .i2c => (po_i st fun x => .int (x.toUInt32 % 65536).toInt32).map (fun st => (nx, lv, st, h))
  | .l2i => (po_l st fun x => .int x.toInt32).map (fun st => (nx, lv, st, h))
  | .ladd => (po_ll st fun x y => .long (x + y)).map (fun st => (nx, lv, st, h))
  | .land => (po_ll st fun x y => .long (x &&& y)).map (fun st => (nx, lv, st, h))
  | .lor => (po_ll st fun x y => .long (x ||| y)).map (fun st => (nx, lv, st, h))
  | .lcmp => (po_ll st fun x y => .int (lg_cmp x y)).map (fun st => (nx, lv, st, h))
  | .lshl => (po_li st fun x y => .long (x <<< (y.toInt64 &&& 63))).map (fun st => (nx, lv, st, h))
  | .lshr => (po_li st fun x y => .long (x >>> (y.toInt64 &&& 63))).map (fun st => (nx, lv, st, h))
  | .dup => match st with
    | w :: r => if w.category = 1 then some (nx, lv, w :: w :: r, h) else none
    | _ => none
  | .dup2 => match st with
    | w :: u :: r => if w.category = 1 ∧ u.category = 1 then some (nx, lv, w :: u :: w :: u :: r, h) else none
    | _ => none
  | .pop => match st with
    | w :: r => if w.category = 1 then some (nx, lv, r, h) else none
    | _ => none
  | .ifCond c _ => match st with
    | .int x :: r => some (if pc_b c x 0 = true then k else nx, lv, r, h)
    | _ => none
  | .if_icmp c _ => match st with
    | .int y :: .int x :: r => some (if pc_b c x y = true then k else nx, lv, r, h)
    | _ => none
  | .goto _ => some (k, lv, st, h)
  | .tableswitch d lo hi offs => match st with
    | .int x :: r => (pt_sw e.1 d lo hi offs x).map (fun t => (t, lv, r, h))
    | _ => none
  | .getfield _ => match st with
    | .ref a :: r => (pg_get L h a k v.toNat).map (fun w => (nx, lv, w :: r, h))
    | _ => none
  | .putfield _ => match st with
    | w :: .ref a :: r => (pg_put L h a k v.toNat w).map (fun h => (nx, lv, r, h))
    | _ => none
  | .getstatic _ => if k = 0 then some (nx, lv, .int (Int32.ofInt v) :: st, h) else if k = 1 then some (nx, lv, .ref v.toNat :: st, h) else if k = 2 then some (nx, lv, .null :: st, h) else none
  | .iaload => match st with
    | .int i :: .ref a :: r => (pa_ld L h [0] a i).map (fun w => (nx, lv, w :: r, h))
    | _ => none
  | .baload => match st with
    | .int i :: .ref a :: r => (pa_ld L h [1, 3] a i).map (fun w => (nx, lv, w :: r, h))
    | _ => none
  | .saload => match st with
    | .int i :: .ref a :: r => (pa_ld L h [2] a i).map (fun w => (nx, lv, w :: r, h))
    | _ => none
  | .aaload => match st with
    | .int i :: .ref a :: r => (pa_ldr L h a i).map (fun w => (nx, lv, w :: r, h))
    | _ => none
  | .iastore => match st with
    | .int x :: .int i :: .ref a :: r => (pa_st L h [0] a i x).map (fun h => (nx, lv, r, h))
    | _ => none
  | .bastore => match st with
    | .int x :: .int i :: .ref a :: r => (pa_st L h [1, 3] a i x).map (fun h => (nx, lv, r, h))
    | _ => none
  | .sastore => match st with
    | .int x :: .int i :: .ref a :: r => (pa_st L h [2] a i x).map (fun h => (nx, lv, r, h))
    | _ => none
  | .aastore => match st with
    | .ref b :: .int i :: .ref a :: r => (pa_str L h a i b).map (fun h => (nx, lv, r, h))
    | _ => none
  | .arraylength => match st with
    | .ref a :: r => (pa_len L h a).map (fun w => (nx, lv, w :: r, h))
    | _ => none
  | .new _ => if k < 10 then some (nx, lv, .ref (17 + h.1.length) :: st, ph_new h (10 + k) (pf_n k)) else none
  | .newarray _ => match st with
    | .int n :: r => (pa_new h k n).map (fun h' => (nx, lv, .ref (17 + h.1.length) :: r, h'))
    | _ => none
  | .anewarray _ => match st with
    | .int n :: r => (pa_new h k n).map (fun h' => (nx, lv, .ref (17 + h.1.length) :: r, h'))
    | _ => none
  | .invokespecial _ => match st with
    | .ref _ :: r => if k = 1000 ∧ pk_sum r ≤ 8 then some (nx, lv, r, h) else none
    | _ => none
  | .invokestatic _ => match st with
    | [.int n, .int dp, .ref a1, .int sp, .ref a0] => if k = 1001 then (pa_cpy L h a0 sp a1 dp n).map (fun h => (nx, lv, [], h)) else none
    | _ => none
  | _ => none
end
section
def gm_X0_init : List pe_T := [(0, .aload_n 0, 1, 0, 0), (1, .invokespecial 3, 4, 1000, 0), (4, .aload_n 0, 5, 0, 0), (5, .bipush 24, 7, 0, 0), (7, .newarray .int, 9, 0, 0), (9, .putfield 9, 12, 0, 10), (12, .return_, 13, 0, 0)]
def mt_X0_init : pm_T := (RX0, yX0_init, cX0_init, 1, none, 1, gm_X0_init)
def gm_X1_init : List pe_T := [(0, .aload_n 0, 1, 0, 0), (1, .invokespecial 3, 4, 1000, 0), (4, .aload_n 0, 5, 0, 0), (5, .sipush 625, 8, 0, 0), (8, .newarray .int, 10, 0, 0), (10, .putfield 9, 13, 1, 11), (13, .aload_n 0, 14, 0, 0), (14, .sipush 625, 17, 0, 0), (17, .newarray .int, 19, 0, 0), (19, .putfield 15, 22, 2, 11), (22, .aload_n 0, 23, 0, 0), (23, .aload_n 1, 24, 0, 0), (24, .putfield 18, 27, 0, 11), (27, .return_, 28, 0, 0)]
def mt_X1_init : pm_T := (RX1, yX1_init, cX1_init, 2, none, 2, gm_X1_init)
def gm_X1_isThere : List pe_T := [(0, .iload_n 1, 1, 0, 0), (1, .sipush 625, 4, 0, 0), (4, .invokestatic 22, 7, 88, 1), (7, .ifCond .ne 5, 10, 12, 0), (10, .iconst 0, 11, 0, 0), (11, .ireturn, 12, 0, 0), (12, .iconst 0, 13, 0, 0), (13, .istore_n 2, 14, 0, 0), (14, .iload_n 2, 15, 0, 0), (15, .iconst 4, 16, 0, 0), (16, .if_icmp .ge 32, 19, 48, 0), (19, .aload_n 0, 20, 0, 0), (20, .iload_n 1, 21, 0, 0), (21, .iload_n 2, 22, 0, 0), (22, .invokevirtual 26, 25, 3, 11), (25, .aload_n 0, 26, 0, 0), (26, .getfield 18, 29, 0, 11), (29, .getfield 30, 32, 0, 17), (32, .getfield 36, 35, 0, 12), (35, .iload_n 2, 36, 0, 0), (36, .iaload, 37, 0, 0), (37, .if_icmp .le 5, 40, 42, 0), (40, .iconst 0, 41, 0, 0), (41, .ireturn, 42, 0, 0), (42, .iinc 2 1, 45, 0, 0), (45, .goto (-31), 48, 14, 0), (48, .iconst 1, 49, 0, 0), (49, .ireturn, 50, 0, 0)]
def mt_X1_isThere : pm_T := (RX1, yX1_isThere, cX1_isThere, 3, (some .boolean), 2, gm_X1_isThere)
def gm_X1_standing : List pe_T := [(0, .iload_n 1, 1, 0, 0), (1, .getstatic 41, 4, 1, 2), (4, .iload_n 2, 5, 0, 0), (5, .iaload, 6, 0, 0), (6, .idiv, 7, 0, 0), (7, .iconst 5, 8, 0, 0), (8, .irem, 9, 0, 0), (9, .ireturn, 10, 0, 0)]
def mt_X1_standing : pm_T := (RX1, yX1_standing, cX1_standing, 3, (some .int), 3, gm_X1_standing)
def gm_X1_leastBroken : List pe_T := [(0, .iconst 0, 1, 0, 0), (1, .istore_n 2, 2, 0, 0), (2, .iload_n 2, 3, 0, 0), (3, .aload_n 0, 4, 0, 0), (4, .getfield 18, 7, 0, 11), (7, .getfield 30, 10, 0, 17), (10, .getfield 44, 13, 4, 12), (13, .if_icmp .ge 80, 16, 93, 0), (16, .aload_n 0, 17, 0, 0), (17, .getfield 18, 20, 0, 11), (20, .getfield 48, 23, 1, 17), (23, .iload_n 2, 24, 0, 0), (24, .aaload, 25, 0, 0), (25, .astore_n 3, 26, 0, 0), (26, .aload_n 0, 27, 0, 0), (27, .iload_n 1, 28, 0, 0), (28, .aload_n 3, 29, 0, 0), (29, .getfield 51, 32, 2, 14), (32, .invokevirtual 26, 35, 3, 11), (35, .istore 4, 37, 0, 0), (37, .iload 4, 39, 0, 0), (39, .ifCond .eq 48, 42, 87, 0), (42, .aload_n 0, 43, 0, 0), (43, .iload_n 1, 44, 0, 0), (44, .aload_n 3, 45, 0, 0), (45, .getfield 56, 48, 0, 14), (48, .invokevirtual 26, 51, 3, 11), (51, .aload_n 3, 52, 0, 0), (52, .getfield 59, 55, 1, 14), (55, .iconst 1, 56, 0, 0), (56, .iadd, 57, 0, 0), (57, .if_icmp .ne 30, 60, 87, 0), (60, .aload_n 0, 61, 0, 0), (61, .getfield 18, 64, 0, 11), (64, .aload_n 3, 65, 0, 0), (65, .getfield 51, 68, 2, 14), (68, .iload 4, 70, 0, 0), (70, .iconst 1, 71, 0, 0), (71, .isub, 72, 0, 0), (72, .invokevirtual 62, 75, 47, 17), (75, .getfield 66, 78, 1, 10), (78, .iload_n 2, 79, 0, 0), (79, .ishr, 80, 0, 0), (80, .iconst 1, 81, 0, 0), (81, .iand, 82, 0, 0), (82, .ifCond .ne 5, 85, 87, 0), (85, .iload_n 2, 86, 0, 0), (86, .ireturn, 87, 0, 0), (87, .iinc 2 1, 90, 0, 0), (90, .goto (-88), 93, 2, 0), (93, .ldc 71, 95, 0, (-1000000)), (95, .ireturn, 96, 0, 0)]
def mt_X1_leastBroken : pm_T := (RX1, yX1_leastBroken, cX1_leastBroken, 5, (some .int), 2, gm_X1_leastBroken)
def gm_X1_measureWaysTo : List pe_T := [(0, .iconst 0, 1, 0, 0), (1, .istore_n 2, 2, 0, 0), (2, .iload_n 2, 3, 0, 0), (3, .sipush 625, 6, 0, 0), (6, .if_icmp .ge 16, 9, 22, 0), (9, .aload_n 0, 10, 0, 0), (10, .getfield 9, 13, 1, 11), (13, .iload_n 2, 14, 0, 0), (14, .iconst (-1), 15, 0, 0), (15, .iastore, 16, 0, 0), (16, .iinc 2 1, 19, 0, 0), (19, .goto (-17), 22, 2, 0), (22, .aload_n 0, 23, 0, 0), (23, .iconst 0, 24, 0, 0), (24, .putfield 72, 27, 3, 11), (27, .aload_n 0, 28, 0, 0), (28, .iload_n 1, 29, 0, 0), (29, .iconst 0, 30, 0, 0), (30, .invokevirtual 75, 33, 6, 11), (33, .iconst 0, 34, 0, 0), (34, .istore_n 2, 35, 0, 0), (35, .iload_n 2, 36, 0, 0), (36, .sipush 625, 39, 0, 0), (39, .if_icmp .ge 27, 42, 66, 0), (42, .iload_n 2, 43, 0, 0), (43, .aload_n 0, 44, 0, 0), (44, .getfield 72, 47, 3, 11), (47, .if_icmp .ge 19, 50, 66, 0), (50, .aload_n 0, 51, 0, 0), (51, .aload_n 0, 52, 0, 0), (52, .getfield 15, 55, 2, 11), (55, .iload_n 2, 56, 0, 0), (56, .iaload, 57, 0, 0), (57, .invokevirtual 79, 60, 7, 11), (60, .iinc 2 1, 63, 0, 0), (63, .goto (-28), 66, 35, 0), (66, .return_, 67, 0, 0)]
def mt_X1_measureWaysTo : pm_T := (RX1, yX1_measureWaysTo, cX1_measureWaysTo, 3, none, 2, gm_X1_measureWaysTo)
def gm_X1_reach : List pe_T := [(0, .aload_n 0, 1, 0, 0), (1, .getfield 9, 4, 1, 11), (4, .iload_n 1, 5, 0, 0), (5, .iaload, 6, 0, 0), (6, .iconst (-1), 7, 0, 0), (7, .if_icmp .eq 4, 10, 11, 0), (10, .return_, 11, 0, 0), (11, .aload_n 0, 12, 0, 0), (12, .iload_n 1, 13, 0, 0), (13, .invokevirtual 83, 16, 4, 11), (16, .ldc 71, 18, 0, (-1000000)), (18, .if_icmp .ne 13, 21, 31, 0), (21, .aload_n 0, 22, 0, 0), (22, .getfield 72, 25, 3, 11), (25, .sipush 625, 28, 0, 0), (28, .if_icmp .lt 12, 31, 40, 0), (31, .aload_n 0, 32, 0, 0), (32, .getfield 9, 35, 1, 11), (35, .iload_n 1, 36, 0, 0), (36, .bipush (-2), 38, 0, 0), (38, .iastore, 39, 0, 0), (39, .return_, 40, 0, 0), (40, .aload_n 0, 41, 0, 0), (41, .getfield 9, 44, 1, 11), (44, .iload_n 1, 45, 0, 0), (45, .iload_n 2, 46, 0, 0), (46, .iastore, 47, 0, 0), (47, .aload_n 0, 48, 0, 0), (48, .getfield 15, 51, 2, 11), (51, .aload_n 0, 52, 0, 0), (52, .getfield 72, 55, 3, 11), (55, .iload_n 1, 56, 0, 0), (56, .iastore, 57, 0, 0), (57, .aload_n 0, 58, 0, 0), (58, .dup, 59, 0, 0), (59, .getfield 72, 62, 3, 11), (62, .iconst 1, 63, 0, 0), (63, .iadd, 64, 0, 0), (64, .putfield 72, 67, 3, 11), (67, .return_, 68, 0, 0)]
def mt_X1_reach : pm_T := (RX1, yX1_reach, cX1_reach, 3, none, 3, gm_X1_reach)
def gm_X1_spread : List pe_T := [(0, .iconst 0, 1, 0, 0), (1, .istore_n 2, 2, 0, 0), (2, .iload_n 2, 3, 0, 0), (3, .iconst 4, 4, 0, 0), (4, .if_icmp .ge 72, 7, 76, 0), (7, .iload_n 1, 8, 0, 0), (8, .aload_n 0, 9, 0, 0), (9, .iload_n 1, 10, 0, 0), (10, .iload_n 2, 11, 0, 0), (11, .invokevirtual 26, 14, 3, 11), (14, .getstatic 41, 17, 1, 2), (17, .iload_n 2, 18, 0, 0), (18, .iaload, 19, 0, 0), (19, .imul, 20, 0, 0), (20, .isub, 21, 0, 0), (21, .istore_n 3, 22, 0, 0), (22, .iconst 0, 23, 0, 0), (23, .istore 4, 25, 0, 0), (25, .iload 4, 27, 0, 0), (27, .aload_n 0, 28, 0, 0), (28, .getfield 18, 31, 0, 11), (31, .getfield 30, 34, 0, 17), (34, .getfield 36, 37, 0, 12), (37, .iload_n 2, 38, 0, 0), (38, .iaload, 39, 0, 0), (39, .if_icmp .gt 31, 42, 70, 0), (42, .aload_n 0, 43, 0, 0), (43, .iload_n 3, 44, 0, 0), (44, .iload 4, 46, 0, 0), (46, .getstatic 41, 49, 1, 2), (49, .iload_n 2, 50, 0, 0), (50, .iaload, 51, 0, 0), (51, .imul, 52, 0, 0), (52, .iadd, 53, 0, 0), (53, .aload_n 0, 54, 0, 0), (54, .getfield 9, 57, 1, 11), (57, .iload_n 1, 58, 0, 0), (58, .iaload, 59, 0, 0), (59, .iconst 1, 60, 0, 0), (60, .iadd, 61, 0, 0), (61, .invokevirtual 75, 64, 6, 11), (64, .iinc 4 1, 67, 0, 0), (67, .goto (-42), 70, 25, 0), (70, .iinc 2 1, 73, 0, 0), (73, .goto (-71), 76, 2, 0), (76, .return_, 77, 0, 0)]
def mt_X1_spread : pm_T := (RX1, yX1_spread, cX1_spread, 5, none, 2, gm_X1_spread)
def gm_X1_stepsFrom : List pe_T := [(0, .aload_n 0, 1, 0, 0), (1, .getfield 9, 4, 1, 11), (4, .iload_n 1, 5, 0, 0), (5, .iaload, 6, 0, 0), (6, .ifCond .ge 8, 9, 14, 0), (9, .ldc 71, 11, 0, (-1000000)), (11, .goto 9, 14, 20, 0), (14, .aload_n 0, 15, 0, 0), (15, .getfield 9, 18, 1, 11), (18, .iload_n 1, 19, 0, 0), (19, .iaload, 20, 0, 0), (20, .ireturn, 21, 0, 0)]
def mt_X1_stepsFrom : pm_T := (RX1, yX1_stepsFrom, cX1_stepsFrom, 2, (some .int), 2, gm_X1_stepsFrom)
def gm_X1_firstFrom : List pe_T := [(0, .aload_n 0, 1, 0, 0), (1, .getfield 9, 4, 1, 11), (4, .iload_n 1, 5, 0, 0), (5, .iaload, 6, 0, 0), (6, .iconst 1, 7, 0, 0), (7, .if_icmp .ge 6, 10, 13, 0), (10, .ldc 71, 12, 0, (-1000000)), (12, .ireturn, 13, 0, 0), (13, .ldc 71, 15, 0, (-1000000)), (15, .istore_n 2, 16, 0, 0), (16, .iconst 0, 17, 0, 0), (17, .istore_n 3, 18, 0, 0), (18, .iload_n 3, 19, 0, 0), (19, .iconst 4, 20, 0, 0), (20, .if_icmp .ge 97, 23, 117, 0), (23, .iload_n 1, 24, 0, 0), (24, .aload_n 0, 25, 0, 0), (25, .iload_n 1, 26, 0, 0), (26, .iload_n 3, 27, 0, 0), (27, .invokevirtual 26, 30, 3, 11), (30, .getstatic 41, 33, 1, 2), (33, .iload_n 3, 34, 0, 0), (34, .iaload, 35, 0, 0), (35, .imul, 36, 0, 0), (36, .isub, 37, 0, 0), (37, .istore 4, 39, 0, 0), (39, .iconst 0, 40, 0, 0), (40, .istore 5, 42, 0, 0), (42, .iload 5, 44, 0, 0), (44, .aload_n 0, 45, 0, 0), (45, .getfield 18, 48, 0, 11), (48, .getfield 30, 51, 0, 17), (51, .getfield 36, 54, 0, 12), (54, .iload_n 3, 55, 0, 0), (55, .iaload, 56, 0, 0), (56, .if_icmp .gt 55, 59, 111, 0), (59, .iload 4, 61, 0, 0), (61, .iload 5, 63, 0, 0), (63, .getstatic 41, 66, 1, 2), (66, .iload_n 3, 67, 0, 0), (67, .iaload, 68, 0, 0), (68, .imul, 69, 0, 0), (69, .iadd, 70, 0, 0), (70, .istore 6, 72, 0, 0), (72, .aload_n 0, 73, 0, 0), (73, .getfield 9, 76, 1, 11), (76, .iload 6, 78, 0, 0), (78, .iaload, 79, 0, 0), (79, .aload_n 0, 80, 0, 0), (80, .getfield 9, 83, 1, 11), (83, .iload_n 1, 84, 0, 0), (84, .iaload, 85, 0, 0), (85, .iconst 1, 86, 0, 0), (86, .isub, 87, 0, 0), (87, .if_icmp .ne 18, 90, 105, 0), (90, .iload_n 2, 91, 0, 0), (91, .ldc 71, 93, 0, (-1000000)), (93, .if_icmp .eq 9, 96, 102, 0), (96, .iload 6, 98, 0, 0), (98, .iload_n 2, 99, 0, 0), (99, .if_icmp .ge 6, 102, 105, 0), (102, .iload 6, 104, 0, 0), (104, .istore_n 2, 105, 0, 0), (105, .iinc 5 1, 108, 0, 0), (108, .goto (-66), 111, 42, 0), (111, .iinc 3 1, 114, 0, 0), (114, .goto (-96), 117, 18, 0), (117, .iload_n 2, 118, 0, 0), (118, .ireturn, 119, 0, 0)]
def mt_X1_firstFrom : pm_T := (RX1, yX1_firstFrom, cX1_firstFrom, 7, (some .int), 2, gm_X1_firstFrom)
def gm_X2_init : List pe_T := [(0, .aload_n 0, 1, 0, 0), (1, .invokespecial 3, 4, 1000, 0), (4, .aload_n 0, 5, 0, 0), (5, .iconst 4, 6, 0, 0), (6, .newarray .int, 8, 0, 0), (8, .putfield 9, 11, 0, 12), (11, .aload_n 0, 12, 0, 0), (12, .bipush 16, 14, 0, 0), (14, .newarray .int, 16, 0, 0), (16, .putfield 15, 19, 1, 12), (19, .aload_n 0, 20, 0, 0), (20, .iconst 4, 21, 0, 0), (21, .newarray .int, 23, 0, 0), (23, .putfield 18, 26, 2, 12), (26, .aload_n 0, 27, 0, 0), (27, .iconst 4, 28, 0, 0), (28, .newarray .int, 30, 0, 0), (30, .putfield 21, 33, 3, 12), (33, .iconst 0, 34, 0, 0), (34, .istore_n 1, 35, 0, 0), (35, .iload_n 1, 36, 0, 0), (36, .iconst 4, 37, 0, 0), (37, .if_icmp .ge 17, 40, 54, 0), (40, .aload_n 0, 41, 0, 0), (41, .getfield 18, 44, 2, 12), (44, .iload_n 1, 45, 0, 0), (45, .ldc 24, 47, 0, (-1000000)), (47, .iastore, 48, 0, 0), (48, .iinc 1 1, 51, 0, 0), (51, .goto (-16), 54, 35, 0), (54, .return_, 55, 0, 0)]
def mt_X2_init : pm_T := (RX2, yX2_init, cX2_init, 2, none, 1, gm_X2_init)
def gm_X2_become : List pe_T := [(0, .aload_n 1, 1, 0, 0), (1, .getfield 9, 4, 0, 12), (4, .iconst 0, 5, 0, 0), (5, .aload_n 0, 6, 0, 0), (6, .getfield 9, 9, 0, 12), (9, .iconst 0, 10, 0, 0), (10, .iconst 4, 11, 0, 0), (11, .invokestatic 25, 14, 1001, 0), (14, .aload_n 1, 15, 0, 0), (15, .getfield 15, 18, 1, 12), (18, .iconst 0, 19, 0, 0), (19, .aload_n 0, 20, 0, 0), (20, .getfield 15, 23, 1, 12), (23, .iconst 0, 24, 0, 0), (24, .bipush 16, 26, 0, 0), (26, .invokestatic 25, 29, 1001, 0), (29, .aload_n 1, 30, 0, 0), (30, .getfield 18, 33, 2, 12), (33, .iconst 0, 34, 0, 0), (34, .aload_n 0, 35, 0, 0), (35, .getfield 18, 38, 2, 12), (38, .iconst 0, 39, 0, 0), (39, .iconst 4, 40, 0, 0), (40, .invokestatic 25, 43, 1001, 0), (43, .aload_n 1, 44, 0, 0), (44, .getfield 21, 47, 3, 12), (47, .iconst 0, 48, 0, 0), (48, .aload_n 0, 49, 0, 0), (49, .getfield 21, 52, 3, 12), (52, .iconst 0, 53, 0, 0), (53, .iconst 4, 54, 0, 0), (54, .invokestatic 25, 57, 1001, 0), (57, .aload_n 0, 58, 0, 0), (58, .aload_n 1, 59, 0, 0), (59, .getfield 31, 62, 4, 12), (62, .putfield 31, 65, 4, 12), (65, .return_, 66, 0, 0)]
def mt_X2_become : pm_T := (RX2, yX2_become, cX2_become, 2, none, 2, gm_X2_become)
def gm_X3_init : List pe_T := [(0, .aload_n 0, 1, 0, 0), (1, .invokespecial 3, 4, 1000, 0), (4, .aload_n 0, 5, 0, 0), (5, .new 9, 8, 2, 0), (8, .dup, 9, 0, 0), (9, .invokespecial 11, 12, 10, 0), (12, .putfield 12, 15, 2, 13), (15, .aload_n 0, 16, 0, 0), (16, .aload_n 1, 17, 0, 0), (17, .putfield 18, 20, 0, 13), (20, .aload_n 0, 21, 0, 0), (21, .aload_n 2, 22, 0, 0), (22, .putfield 22, 25, 1, 13), (25, .return_, 26, 0, 0)]
def mt_X3_init : pm_T := (RX3, yX3_init, cX3_init, 3, none, 3, gm_X3_init)
def gm_X3_place : List pe_T := [(0, .aload_n 0, 1, 0, 0), (1, .getfield 18, 4, 0, 13), (4, .getfield 26, 7, 2, 16), (7, .aload_n 0, 8, 0, 0), (8, .getfield 32, 11, 3, 13), (11, .saload, 12, 0, 0), (12, .ireturn, 13, 0, 0)]
def mt_X3_place : pm_T := (RX3, yX3_place, cX3_place, 1, (some .int), 1, gm_X3_place)
def gm_X3_readText : List pe_T := [(0, .aload_n 0, 1, 0, 0), (1, .getfield 12, 4, 2, 13), (4, .aload_n 0, 5, 0, 0), (5, .getfield 22, 8, 1, 13), (8, .getfield 36, 11, 0, 17), (11, .invokevirtual 41, 14, 11, 12), (14, .aload_n 0, 15, 0, 0), (15, .iconst 0, 16, 0, 0), (16, .putfield 32, 19, 3, 13), (19, .aload_n 0, 20, 0, 0), (20, .iconst 0, 21, 0, 0), (21, .putfield 45, 24, 4, 13), (24, .iconst 0, 25, 0, 0), (25, .istore_n 1, 26, 0, 0), (26, .iload_n 1, 27, 0, 0), (27, .sipush 500, 30, 0, 0), (30, .if_icmp .gt 109, 33, 139, 0), (33, .aload_n 0, 34, 0, 0), (34, .getfield 45, 37, 4, 13), (37, .ifCond .ne 102, 40, 139, 0), (40, .aload_n 0, 41, 0, 0), (41, .getfield 18, 44, 0, 13), (44, .getfield 48, 47, 1, 16), (47, .aload_n 0, 48, 0, 0), (48, .getfield 32, 51, 3, 13), (51, .baload, 52, 0, 0), (52, .bipush 100, 54, 0, 0), (54, .if_icmp .eq 85, 57, 139, 0), (57, .aload_n 0, 58, 0, 0), (58, .getfield 18, 61, 0, 13), (61, .getfield 48, 64, 1, 16), (64, .aload_n 0, 65, 0, 0), (65, .getfield 32, 68, 3, 13), (68, .baload, 69, 0, 0), (69, .tableswitch 59 102 105 #[31, 38, 45, 52], 100, 0, 0), (100, .aload_n 0, 101, 0, 0), (101, .invokevirtual 52, 104, 15, 13), (104, .goto 29, 107, 133, 0), (107, .aload_n 0, 108, 0, 0), (108, .invokevirtual 55, 111, 20, 13), (111, .goto 22, 114, 133, 0), (114, .aload_n 0, 115, 0, 0), (115, .invokevirtual 58, 118, 23, 13), (118, .goto 15, 121, 133, 0), (121, .aload_n 0, 122, 0, 0), (122, .invokevirtual 61, 125, 24, 13), (125, .goto 8, 128, 133, 0), (128, .aload_n 0, 129, 0, 0), (129, .iconst 1, 130, 0, 0), (130, .putfield 45, 133, 4, 13), (133, .iinc 1 1, 136, 0, 0), (136, .goto (-110), 139, 26, 0), (139, .return_, 140, 0, 0)]
def mt_X3_readText : pm_T := (RX3, yX3_readText, cX3_readText, 2, none, 1, gm_X3_readText)
def gm_X3_readEdition : List pe_T := [(0, .aload_n 0, 1, 0, 0), (1, .dup, 2, 0, 0), (2, .getfield 32, 5, 3, 13), (5, .iconst 1, 6, 0, 0), (6, .iadd, 7, 0, 0), (7, .putfield 32, 10, 3, 13), (10, .aload_n 0, 11, 0, 0), (11, .iconst 0, 12, 0, 0), (12, .iconst 3, 13, 0, 0), (13, .iconst 0, 14, 0, 0), (14, .invokevirtual 64, 17, 26, 13), (17, .istore_n 1, 18, 0, 0), (18, .aload_n 0, 19, 0, 0), (19, .getfield 45, 22, 4, 13), (22, .ifCond .ne 21, 25, 43, 0), (25, .aload_n 0, 26, 0, 0), (26, .getfield 12, 29, 2, 13), (29, .getfield 68, 32, 0, 12), (32, .iload_n 1, 33, 0, 0), (33, .iaload, 34, 0, 0), (34, .iconst 4, 35, 0, 0), (35, .if_icmp .lt 8, 38, 43, 0), (38, .aload_n 0, 39, 0, 0), (39, .iconst 3, 40, 0, 0), (40, .putfield 45, 43, 4, 13), (43, .aload_n 0, 44, 0, 0), (44, .getfield 45, 47, 4, 13), (47, .ifCond .eq 4, 50, 51, 0), (50, .return_, 51, 0, 0), (51, .aload_n 0, 52, 0, 0), (52, .dup, 53, 0, 0), (53, .getfield 32, 56, 3, 13), (56, .iconst 1, 57, 0, 0), (57, .iadd, 58, 0, 0), (58, .putfield 32, 61, 3, 13), (61, .aload_n 0, 62, 0, 0), (62, .getfield 22, 65, 1, 13), (65, .iload_n 1, 66, 0, 0), (66, .aload_n 0, 67, 0, 0), (67, .getfield 12, 70, 2, 13), (70, .getfield 68, 73, 0, 12), (73, .iload_n 1, 74, 0, 0), (74, .iaload, 75, 0, 0), (75, .invokevirtual 72, 78, 47, 17), (78, .getfield 76, 81, 0, 10), (81, .astore_n 2, 82, 0, 0), (82, .iconst 0, 83, 0, 0), (83, .istore_n 3, 84, 0, 0), (84, .iload_n 3, 85, 0, 0), (85, .bipush 24, 87, 0, 0), (87, .if_icmp .ge 13, 90, 100, 0), (90, .aload_n 2, 91, 0, 0), (91, .iload_n 3, 92, 0, 0), (92, .iconst 0, 93, 0, 0), (93, .iastore, 94, 0, 0), (94, .iinc 3 1, 97, 0, 0), (97, .goto (-13), 100, 84, 0), (100, .iconst 0, 101, 0, 0), (101, .istore_n 3, 102, 0, 0), (102, .iload_n 3, 103, 0, 0), (103, .bipush 6, 105, 0, 0), (105, .if_icmp .gt 52, 108, 157, 0), (108, .aload_n 0, 109, 0, 0), (109, .getfield 45, 112, 4, 13), (112, .ifCond .ne 45, 115, 157, 0), (115, .aload_n 0, 116, 0, 0), (116, .getfield 18, 119, 0, 13), (119, .getfield 48, 122, 1, 16), (122, .aload_n 0, 123, 0, 0), (123, .getfield 32, 126, 3, 13), (126, .baload, 127, 0, 0), (127, .bipush 106, 129, 0, 0), (129, .if_icmp .ne 28, 132, 157, 0), (132, .iload_n 3, 133, 0, 0), (133, .bipush 6, 135, 0, 0), (135, .if_icmp .ne 11, 138, 146, 0), (138, .aload_n 0, 139, 0, 0), (139, .iconst 3, 140, 0, 0), (140, .putfield 45, 143, 4, 13), (143, .goto 8, 146, 151, 0), (146, .aload_n 0, 147, 0, 0), (147, .aload_n 2, 148, 0, 0), (148, .invokevirtual 81, 151, 16, 13), (151, .iinc 3 1, 154, 0, 0), (154, .goto (-52), 157, 102, 0), (157, .aload_n 0, 158, 0, 0), (158, .bipush 101, 160, 0, 0), (160, .invokevirtual 85, 163, 29, 13), (163, .aload_n 2, 164, 0, 0), (164, .ldc 89, 166, 0, 16777215), (166, .ldc 90, 168, 0, 268435456), (168, .invokestatic 91, 171, 17, 0), (171, .aload_n 0, 172, 0, 0), (172, .getfield 12, 175, 2, 13), (175, .getfield 68, 178, 0, 12), (178, .iload_n 1, 179, 0, 0), (179, .dup2, 180, 0, 0), (180, .iaload, 181, 0, 0), (181, .iconst 1, 182, 0, 0), (182, .iadd, 183, 0, 0), (183, .iastore, 184, 0, 0), (184, .return_, 185, 0, 0)]
def mt_X3_readEdition : pm_T := (RX3, yX3_readEdition, cX3_readEdition, 4, none, 1, gm_X3_readEdition)
def gm_X3_readRule : List pe_T := [(0, .aload_n 0, 1, 0, 0), (1, .dup, 2, 0, 0), (2, .getfield 32, 5, 3, 13), (5, .iconst 1, 6, 0, 0), (6, .iadd, 7, 0, 0), (7, .putfield 32, 10, 3, 13), (10, .aload_n 0, 11, 0, 0), (11, .iconst 0, 12, 0, 0), (12, .bipush 7, 14, 0, 0), (14, .invokevirtual 95, 17, 27, 13), (17, .istore_n 2, 18, 0, 0), (18, .aload_n 0, 19, 0, 0), (19, .iload_n 2, 20, 0, 0), (20, .bipush 7, 22, 0, 0), (22, .invokevirtual 95, 25, 27, 13), (25, .istore_n 3, 26, 0, 0), (26, .aload_n 0, 27, 0, 0), (27, .iconst 0, 28, 0, 0), (28, .iconst 3, 29, 0, 0), (29, .invokevirtual 95, 32, 27, 13), (32, .istore 4, 34, 0, 0), (34, .aload_n 0, 35, 0, 0), (35, .invokevirtual 99, 38, 18, 13), (38, .istore 5, 40, 0, 0), (40, .aload_n 0, 41, 0, 0), (41, .getfield 45, 44, 4, 13), (44, .ifCond .ne 16, 47, 60, 0), (47, .aload_n 1, 48, 0, 0), (48, .iload_n 2, 49, 0, 0), (49, .iload_n 3, 50, 0, 0), (50, .iload 4, 52, 0, 0), (52, .invokestatic 103, 55, 91, 1), (55, .iload 5, 57, 0, 0), (57, .invokestatic 91, 60, 17, 0), (60, .return_, 61, 0, 0)]
def mt_X3_readRule : pm_T := (RX3, yX3_readRule, cX3_readRule, 6, none, 2, gm_X3_readRule)
def gm_X3_answerBy : List pe_T := [(0, .iconst 0, 1, 0, 0), (1, .istore_n 3, 2, 0, 0), (2, .iload_n 3, 3, 0, 0), (3, .bipush 24, 5, 0, 0), (5, .if_icmp .ge 33, 8, 38, 0), (8, .iload_n 3, 9, 0, 0), (9, .aload_n 0, 10, 0, 0), (10, .arraylength, 11, 0, 0), (11, .if_icmp .ge 27, 14, 38, 0), (14, .iload_n 1, 15, 0, 0), (15, .iload_n 3, 16, 0, 0), (16, .ishr, 17, 0, 0), (17, .iconst 1, 18, 0, 0), (18, .iand, 19, 0, 0), (19, .ifCond .eq 13, 22, 32, 0), (22, .aload_n 0, 23, 0, 0), (23, .iload_n 3, 24, 0, 0), (24, .iaload, 25, 0, 0), (25, .ifCond .ne 7, 28, 32, 0), (28, .aload_n 0, 29, 0, 0), (29, .iload_n 3, 30, 0, 0), (30, .iload_n 2, 31, 0, 0), (31, .iastore, 32, 0, 0), (32, .iinc 3 1, 35, 0, 0), (35, .goto (-33), 38, 2, 0), (38, .return_, 39, 0, 0)]
def mt_X3_answerBy : pm_T := (RX3, yX3_answerBy, cX3_answerBy, 4, none, 3, gm_X3_answerBy)
def gm_X3_readAnswer : List pe_T := [(0, .aload_n 0, 1, 0, 0), (1, .invokevirtual 106, 4, 19, 13), (4, .ifCond .eq 6, 7, 10, 0), (7, .ldc 90, 9, 0, 268435456), (9, .ireturn, 10, 0, 0), (10, .iconst 0, 11, 0, 0), (11, .istore_n 1, 12, 0, 0), (12, .iconst 0, 13, 0, 0), (13, .istore_n 2, 14, 0, 0), (14, .iload_n 2, 15, 0, 0), (15, .iconst 4, 16, 0, 0), (16, .if_icmp .ge 26, 19, 42, 0), (19, .iload_n 1, 20, 0, 0), (20, .iconst 1, 21, 0, 0), (21, .bipush 7, 23, 0, 0), (23, .iload_n 2, 24, 0, 0), (24, .imul, 25, 0, 0), (25, .aload_n 0, 26, 0, 0), (26, .iconst 0, 27, 0, 0), (27, .bipush 6, 29, 0, 0), (29, .invokevirtual 95, 32, 27, 13), (32, .iadd, 33, 0, 0), (33, .ishl, 34, 0, 0), (34, .ior, 35, 0, 0), (35, .istore_n 1, 36, 0, 0), (36, .iinc 2 1, 39, 0, 0), (39, .goto (-25), 42, 14, 0), (42, .iload_n 1, 43, 0, 0), (43, .ireturn, 44, 0, 0)]
def mt_X3_readAnswer : pm_T := (RX3, yX3_readAnswer, cX3_readAnswer, 3, (some .int), 1, gm_X3_readAnswer)
def gm_X3_takesRefuse : List pe_T := [(0, .aload_n 0, 1, 0, 0), (1, .getfield 45, 4, 4, 13), (4, .ifCond .ne 32, 7, 36, 0), (7, .aload_n 0, 8, 0, 0), (8, .getfield 18, 11, 0, 13), (11, .getfield 48, 14, 1, 16), (14, .aload_n 0, 15, 0, 0), (15, .getfield 32, 18, 3, 13), (18, .baload, 19, 0, 0), (19, .bipush 107, 21, 0, 0), (21, .if_icmp .ne 15, 24, 36, 0), (24, .aload_n 0, 25, 0, 0), (25, .dup, 26, 0, 0), (26, .getfield 32, 29, 3, 13), (29, .iconst 1, 30, 0, 0), (30, .iadd, 31, 0, 0), (31, .putfield 32, 34, 3, 13), (34, .iconst 1, 35, 0, 0), (35, .ireturn, 36, 0, 0), (36, .aload_n 0, 37, 0, 0), (37, .bipush 108, 39, 0, 0), (39, .invokevirtual 85, 42, 29, 13), (42, .iconst 0, 43, 0, 0), (43, .ireturn, 44, 0, 0)]
def mt_X3_takesRefuse : pm_T := (RX3, yX3_takesRefuse, cX3_takesRefuse, 1, (some .boolean), 1, gm_X3_takesRefuse)
def gm_X3_readSaying : List pe_T := [(0, .aload_n 0, 1, 0, 0), (1, .getfield 12, 4, 2, 13), (4, .getfield 110, 7, 4, 12), (7, .bipush 20, 9, 0, 0), (9, .if_icmp .lt 9, 12, 18, 0), (12, .aload_n 0, 13, 0, 0), (13, .iconst 3, 14, 0, 0), (14, .putfield 45, 17, 4, 13), (17, .return_, 18, 0, 0), (18, .aload_n 0, 19, 0, 0), (19, .dup, 20, 0, 0), (20, .getfield 32, 23, 3, 13), (23, .iconst 1, 24, 0, 0), (24, .iadd, 25, 0, 0), (25, .putfield 32, 28, 3, 13), (28, .aload_n 0, 29, 0, 0), (29, .getfield 22, 32, 1, 13), (32, .getfield 113, 35, 1, 17), (35, .aload_n 0, 36, 0, 0), (36, .getfield 12, 39, 2, 13), (39, .getfield 110, 42, 4, 12), (42, .aaload, 43, 0, 0), (43, .astore_n 1, 44, 0, 0), (44, .aload_n 1, 45, 0, 0), (45, .aload_n 0, 46, 0, 0), (46, .iconst 0, 47, 0, 0), (47, .iconst 3, 48, 0, 0), (48, .invokevirtual 95, 51, 27, 13), (51, .putfield 116, 54, 0, 14), (54, .aload_n 1, 55, 0, 0), (55, .aload_n 0, 56, 0, 0), (56, .iconst 0, 57, 0, 0), (57, .iconst 3, 58, 0, 0), (58, .invokevirtual 95, 61, 27, 13), (61, .putfield 121, 64, 1, 14), (64, .aload_n 1, 65, 0, 0), (65, .aload_n 0, 66, 0, 0), (66, .iconst 3, 67, 0, 0), (67, .iconst 1, 68, 0, 0), (68, .aload_n 1, 69, 0, 0), (69, .getfield 116, 72, 0, 14), (72, .ishl, 73, 0, 0), (73, .invokevirtual 124, 76, 28, 13), (76, .putfield 127, 79, 2, 14), (79, .aload_n 1, 80, 0, 0), (80, .aload_n 0, 81, 0, 0), (81, .iconst 0, 82, 0, 0), (82, .bipush 7, 84, 0, 0), (84, .invokevirtual 95, 87, 27, 13), (87, .putfield 130, 90, 3, 14), (90, .aload_n 1, 91, 0, 0), (91, .aload_n 0, 92, 0, 0), (92, .aload_n 1, 93, 0, 0), (93, .getfield 130, 96, 3, 14), (96, .bipush 7, 98, 0, 0), (98, .invokevirtual 95, 101, 27, 13), (101, .putfield 133, 104, 4, 14), (104, .aload_n 1, 105, 0, 0), (105, .aload_n 0, 106, 0, 0), (106, .iconst 0, 107, 0, 0), (107, .iconst 3, 108, 0, 0), (108, .invokevirtual 95, 111, 27, 13), (111, .putfield 136, 114, 5, 14), (114, .aload_n 1, 115, 0, 0), (115, .aload_n 1, 116, 0, 0), (116, .getfield 130, 119, 3, 14), (119, .aload_n 1, 120, 0, 0), (120, .getfield 133, 123, 4, 14), (123, .aload_n 1, 124, 0, 0), (124, .getfield 136, 127, 5, 14), (127, .invokestatic 103, 130, 91, 1), (130, .putfield 139, 133, 7, 14), (133, .aload_n 0, 134, 0, 0), (134, .aload_n 1, 135, 0, 0), (135, .invokevirtual 142, 138, 21, 13), (138, .aload_n 0, 139, 0, 0), (139, .bipush 101, 141, 0, 0), (141, .invokevirtual 85, 144, 29, 13), (144, .aload_n 0, 145, 0, 0), (145, .getfield 12, 148, 2, 13), (148, .dup, 149, 0, 0), (149, .getfield 110, 152, 4, 12), (152, .iconst 1, 153, 0, 0), (153, .iadd, 154, 0, 0), (154, .putfield 110, 157, 4, 12), (157, .return_, 158, 0, 0)]
def mt_X3_readSaying : pm_T := (RX3, yX3_readSaying, cX3_readSaying, 2, none, 1, gm_X3_readSaying)
def gm_X3_readThen : List pe_T := [(0, .aload_n 1, 1, 0, 0), (1, .iconst 0, 2, 0, 0), (2, .putfield 146, 5, 6, 14), (5, .aload_n 1, 6, 0, 0), (6, .ldc 90, 8, 0, 268435456), (8, .putfield 149, 11, 8, 14), (11, .aload_n 0, 12, 0, 0), (12, .invokevirtual 106, 15, 19, 13), (15, .ifCond .eq 4, 18, 19, 0), (18, .return_, 19, 0, 0), (19, .aload_n 1, 20, 0, 0), (20, .ldc 152, 22, 0, 268435455), (22, .putfield 149, 25, 8, 14), (25, .iconst 0, 26, 0, 0), (26, .istore_n 2, 27, 0, 0), (27, .iload_n 2, 28, 0, 0), (28, .iconst 4, 29, 0, 0), (29, .if_icmp .gt 28, 32, 57, 0), (32, .aload_n 0, 33, 0, 0), (33, .getfield 45, 36, 4, 13), (36, .ifCond .ne 21, 39, 57, 0), (39, .aload_n 0, 40, 0, 0), (40, .invokevirtual 153, 43, 25, 13), (43, .ifCond .eq 14, 46, 57, 0), (46, .aload_n 0, 47, 0, 0), (47, .aload_n 1, 48, 0, 0), (48, .invokevirtual 156, 51, 22, 13), (51, .iinc 2 1, 54, 0, 0), (54, .goto (-27), 57, 27, 0), (57, .return_, 58, 0, 0)]
def mt_X3_readThen : pm_T := (RX3, yX3_readThen, cX3_readThen, 3, none, 2, gm_X3_readThen)
def gm_X3_readField : List pe_T := [(0, .aload_n 0, 1, 0, 0), (1, .iconst 3, 2, 0, 0), (2, .aload_n 1, 3, 0, 0), (3, .getfield 146, 6, 6, 14), (6, .invokevirtual 124, 9, 28, 13), (9, .istore_n 2, 10, 0, 0), (10, .aload_n 0, 11, 0, 0), (11, .iconst 0, 12, 0, 0), (12, .iconst 5, 13, 0, 0), (13, .invokevirtual 95, 16, 27, 13), (16, .istore_n 3, 17, 0, 0), (17, .aload_n 0, 18, 0, 0), (18, .iload_n 3, 19, 0, 0), (19, .iconst 5, 20, 0, 0), (20, .invokevirtual 95, 23, 27, 13), (23, .istore 4, 25, 0, 0), (25, .aload_n 0, 26, 0, 0), (26, .iconst 0, 27, 0, 0), (27, .iconst 1, 28, 0, 0), (28, .invokevirtual 95, 31, 27, 13), (31, .bipush 6, 33, 0, 0), (33, .ishl, 34, 0, 0), (34, .istore 5, 36, 0, 0), (36, .aload_n 0, 37, 0, 0), (37, .getfield 45, 40, 4, 13), (40, .ifCond .eq 4, 43, 44, 0), (43, .return_, 44, 0, 0), (44, .iload_n 3, 45, 0, 0), (45, .istore 6, 47, 0, 0), (47, .iload 6, 49, 0, 0), (49, .iload 4, 51, 0, 0), (51, .if_icmp .gt 18, 54, 69, 0), (54, .iload 5, 56, 0, 0), (56, .iconst 1, 57, 0, 0), (57, .iload 6, 59, 0, 0), (59, .ishl, 60, 0, 0), (60, .ior, 61, 0, 0), (61, .istore 5, 63, 0, 0), (63, .iinc 6 1, 66, 0, 0), (66, .goto (-19), 69, 47, 0), (69, .aload_n 1, 70, 0, 0), (70, .dup, 71, 0, 0), (71, .getfield 146, 74, 6, 14), (74, .iconst 1, 75, 0, 0), (75, .iload_n 2, 76, 0, 0), (76, .ishl, 77, 0, 0), (77, .ior, 78, 0, 0), (78, .putfield 146, 81, 6, 14), (81, .aload_n 1, 82, 0, 0), (82, .dup, 83, 0, 0), (83, .getfield 149, 86, 8, 14), (86, .bipush 127, 88, 0, 0), (88, .bipush 7, 90, 0, 0), (90, .iload_n 2, 91, 0, 0), (91, .imul, 92, 0, 0), (92, .ishl, 93, 0, 0), (93, .iconst (-1), 94, 0, 0), (94, .ixor, 95, 0, 0), (95, .iload 5, 97, 0, 0), (97, .bipush 7, 99, 0, 0), (99, .iload_n 2, 100, 0, 0), (100, .imul, 101, 0, 0), (101, .ishl, 102, 0, 0), (102, .ior, 103, 0, 0), (103, .iand, 104, 0, 0), (104, .putfield 149, 107, 8, 14), (107, .return_, 108, 0, 0)]
def mt_X3_readField : pm_T := (RX3, yX3_readField, cX3_readField, 7, none, 2, gm_X3_readField)
def gm_X3_readTry : List pe_T := [(0, .aload_n 0, 1, 0, 0), (1, .dup, 2, 0, 0), (2, .getfield 32, 5, 3, 13), (5, .iconst 1, 6, 0, 0), (6, .iadd, 7, 0, 0), (7, .putfield 32, 10, 3, 13), (10, .aload_n 0, 11, 0, 0), (11, .iconst 0, 12, 0, 0), (12, .iconst 3, 13, 0, 0), (13, .invokevirtual 95, 16, 27, 13), (16, .istore_n 1, 17, 0, 0), (17, .aload_n 0, 18, 0, 0), (18, .iconst 0, 19, 0, 0), (19, .iconst 3, 20, 0, 0), (20, .invokevirtual 95, 23, 27, 13), (23, .istore_n 2, 24, 0, 0), (24, .aload_n 0, 25, 0, 0), (25, .getfield 12, 28, 2, 13), (28, .getfield 159, 31, 1, 12), (31, .iload_n 1, 32, 0, 0), (32, .iconst 4, 33, 0, 0), (33, .imul, 34, 0, 0), (34, .iload_n 2, 35, 0, 0), (35, .iadd, 36, 0, 0), (36, .dup2, 37, 0, 0), (37, .iaload, 38, 0, 0), (38, .aload_n 0, 39, 0, 0), (39, .iconst 0, 40, 0, 0), (40, .bipush 15, 42, 0, 0), (42, .invokevirtual 95, 45, 27, 13), (45, .ior, 46, 0, 0), (46, .iastore, 47, 0, 0), (47, .aload_n 0, 48, 0, 0), (48, .bipush 101, 50, 0, 0), (50, .invokevirtual 85, 53, 29, 13), (53, .return_, 54, 0, 0)]
def mt_X3_readTry : pm_T := (RX3, yX3_readTry, cX3_readTry, 3, none, 1, gm_X3_readTry)
def gm_X3_readWithin : List pe_T := [(0, .aload_n 0, 1, 0, 0), (1, .dup, 2, 0, 0), (2, .getfield 32, 5, 3, 13), (5, .iconst 1, 6, 0, 0), (6, .iadd, 7, 0, 0), (7, .putfield 32, 10, 3, 13), (10, .aload_n 0, 11, 0, 0), (11, .iconst 0, 12, 0, 0), (12, .iconst 3, 13, 0, 0), (13, .invokevirtual 95, 16, 27, 13), (16, .istore_n 1, 17, 0, 0), (17, .aload_n 0, 18, 0, 0), (18, .getfield 12, 21, 2, 13), (21, .getfield 162, 24, 2, 12), (24, .iload_n 1, 25, 0, 0), (25, .aload_n 0, 26, 0, 0), (26, .iconst 0, 27, 0, 0), (27, .bipush 99, 29, 0, 0), (29, .invokevirtual 95, 32, 27, 13), (32, .iastore, 33, 0, 0), (33, .iconst 1, 34, 0, 0), (34, .iload_n 1, 35, 0, 0), (35, .ishl, 36, 0, 0), (36, .istore_n 2, 37, 0, 0), (37, .iconst 0, 38, 0, 0), (38, .istore_n 3, 39, 0, 0), (39, .iload_n 3, 40, 0, 0), (40, .iconst 4, 41, 0, 0), (41, .if_icmp .ge 34, 44, 75, 0), (44, .aload_n 0, 45, 0, 0), (45, .getfield 45, 48, 4, 13), (48, .ifCond .ne 27, 51, 75, 0), (51, .aload_n 0, 52, 0, 0), (52, .invokevirtual 153, 55, 25, 13), (55, .ifCond .eq 20, 58, 75, 0), (58, .iload_n 2, 59, 0, 0), (59, .iconst 1, 60, 0, 0), (60, .aload_n 0, 61, 0, 0), (61, .iconst 3, 62, 0, 0), (62, .iload_n 2, 63, 0, 0), (63, .invokevirtual 124, 66, 28, 13), (66, .ishl, 67, 0, 0), (67, .ior, 68, 0, 0), (68, .istore_n 2, 69, 0, 0), (69, .iinc 3 1, 72, 0, 0), (72, .goto (-33), 75, 39, 0), (75, .aload_n 0, 76, 0, 0), (76, .getfield 12, 79, 2, 13), (79, .getfield 165, 82, 3, 12), (82, .iload_n 1, 83, 0, 0), (83, .iload_n 2, 84, 0, 0), (84, .iconst 1, 85, 0, 0), (85, .iload_n 1, 86, 0, 0), (86, .ishl, 87, 0, 0), (87, .iconst (-1), 88, 0, 0), (88, .ixor, 89, 0, 0), (89, .iand, 90, 0, 0), (90, .iastore, 91, 0, 0), (91, .aload_n 0, 92, 0, 0), (92, .bipush 101, 94, 0, 0), (94, .invokevirtual 85, 97, 29, 13), (97, .return_, 98, 0, 0)]
def mt_X3_readWithin : pm_T := (RX3, yX3_readWithin, cX3_readWithin, 4, none, 1, gm_X3_readWithin)
def gm_X3_isNumber : List pe_T := [(0, .aload_n 0, 1, 0, 0), (1, .getfield 18, 4, 0, 13), (4, .getfield 48, 7, 1, 16), (7, .aload_n 0, 8, 0, 0), (8, .getfield 32, 11, 3, 13), (11, .baload, 12, 0, 0), (12, .bipush 99, 14, 0, 0), (14, .if_icmp .gt 7, 17, 21, 0), (17, .iconst 1, 18, 0, 0), (18, .goto 4, 21, 22, 0), (21, .iconst 0, 22, 0, 0), (22, .ireturn, 23, 0, 0)]
def mt_X3_isNumber : pm_T := (RX3, yX3_isNumber, cX3_isNumber, 1, (some .boolean), 1, gm_X3_isNumber)
def gm_X3_look : List pe_T := [(0, .aload_n 0, 1, 0, 0), (1, .getfield 45, 4, 4, 13), (4, .ifCond .eq 5, 7, 9, 0), (7, .iload_n 1, 8, 0, 0), (8, .ireturn, 9, 0, 0), (9, .aload_n 0, 10, 0, 0), (10, .getfield 18, 13, 0, 13), (13, .getfield 48, 16, 1, 16), (16, .aload_n 0, 17, 0, 0), (17, .getfield 32, 20, 3, 13), (20, .baload, 21, 0, 0), (21, .istore 4, 23, 0, 0), (23, .iload 4, 25, 0, 0), (25, .bipush 99, 27, 0, 0), (27, .if_icmp .le 10, 30, 37, 0), (30, .aload_n 0, 31, 0, 0), (31, .iconst 1, 32, 0, 0), (32, .putfield 45, 35, 4, 13), (35, .iload_n 1, 36, 0, 0), (36, .ireturn, 37, 0, 0), (37, .iload 4, 39, 0, 0), (39, .iload_n 1, 40, 0, 0), (40, .if_icmp .lt 24, 43, 64, 0), (43, .iload 4, 45, 0, 0), (45, .iload_n 2, 46, 0, 0), (46, .if_icmp .gt 18, 49, 64, 0), (49, .iload 4, 51, 0, 0), (51, .iconst 4, 52, 0, 0), (52, .if_icmp .ge 19, 55, 71, 0), (55, .iload_n 3, 56, 0, 0), (56, .iload 4, 58, 0, 0), (58, .ishr, 59, 0, 0), (59, .iconst 1, 60, 0, 0), (60, .iand, 61, 0, 0), (61, .ifCond .eq 10, 64, 71, 0), (64, .aload_n 0, 65, 0, 0), (65, .iconst 2, 66, 0, 0), (66, .putfield 45, 69, 4, 13), (69, .iload_n 1, 70, 0, 0), (70, .ireturn, 71, 0, 0), (71, .iload 4, 73, 0, 0), (73, .ireturn, 74, 0, 0)]
def mt_X3_look : pm_T := (RX3, yX3_look, cX3_look, 5, (some .int), 4, gm_X3_look)
def gm_X3_number : List pe_T := [(0, .aload_n 0, 1, 0, 0), (1, .iload_n 1, 2, 0, 0), (2, .iload_n 2, 3, 0, 0), (3, .iconst 0, 4, 0, 0), (4, .invokevirtual 64, 7, 26, 13), (7, .istore_n 3, 8, 0, 0), (8, .aload_n 0, 9, 0, 0), (9, .getfield 45, 12, 4, 13), (12, .ifCond .ne 13, 15, 25, 0), (15, .aload_n 0, 16, 0, 0), (16, .dup, 17, 0, 0), (17, .getfield 32, 20, 3, 13), (20, .iconst 1, 21, 0, 0), (21, .iadd, 22, 0, 0), (22, .putfield 32, 25, 3, 13), (25, .iload_n 3, 26, 0, 0), (26, .ireturn, 27, 0, 0)]
def mt_X3_number : pm_T := (RX3, yX3_number, cX3_number, 4, (some .int), 3, gm_X3_number)
def gm_X3_fresh : List pe_T := [(0, .aload_n 0, 1, 0, 0), (1, .iconst 0, 2, 0, 0), (2, .iload_n 1, 3, 0, 0), (3, .iload_n 2, 4, 0, 0), (4, .invokevirtual 64, 7, 26, 13), (7, .istore_n 3, 8, 0, 0), (8, .aload_n 0, 9, 0, 0), (9, .getfield 45, 12, 4, 13), (12, .ifCond .ne 13, 15, 25, 0), (15, .aload_n 0, 16, 0, 0), (16, .dup, 17, 0, 0), (17, .getfield 32, 20, 3, 13), (20, .iconst 1, 21, 0, 0), (21, .iadd, 22, 0, 0), (22, .putfield 32, 25, 3, 13), (25, .iload_n 3, 26, 0, 0), (26, .ireturn, 27, 0, 0)]
def mt_X3_fresh : pm_T := (RX3, yX3_fresh, cX3_fresh, 4, (some .int), 3, gm_X3_fresh)
def gm_X3_take : List pe_T := [(0, .aload_n 0, 1, 0, 0), (1, .getfield 45, 4, 4, 13), (4, .ifCond .eq 4, 7, 8, 0), (7, .return_, 8, 0, 0), (8, .aload_n 0, 9, 0, 0), (9, .getfield 18, 12, 0, 13), (12, .getfield 48, 15, 1, 16), (15, .aload_n 0, 16, 0, 0), (16, .getfield 32, 19, 3, 13), (19, .baload, 20, 0, 0), (20, .iload_n 1, 21, 0, 0), (21, .if_icmp .ne 16, 24, 37, 0), (24, .aload_n 0, 25, 0, 0), (25, .dup, 26, 0, 0), (26, .getfield 32, 29, 3, 13), (29, .iconst 1, 30, 0, 0), (30, .iadd, 31, 0, 0), (31, .putfield 32, 34, 3, 13), (34, .goto 8, 37, 42, 0), (37, .aload_n 0, 38, 0, 0), (38, .iconst 1, 39, 0, 0), (39, .putfield 45, 42, 4, 13), (42, .return_, 43, 0, 0)]
def mt_X3_take : pm_T := (RX3, yX3_take, cX3_take, 2, none, 2, gm_X3_take)
def gm_X4_init : List pe_T := [(0, .aload_n 0, 1, 0, 0), (1, .invokespecial 1, 4, 1000, 0), (4, .return_, 5, 0, 0)]
def mt_X4_init : pm_T := (RX4, yX4_init, cX4_init, 1, none, 1, gm_X4_init)
def gm_X5_init : List pe_T := [(0, .aload_n 0, 1, 0, 0), (1, .invokespecial 3, 4, 1000, 0), (4, .aload_n 0, 5, 0, 0), (5, .bipush 40, 7, 0, 0), (7, .newarray .int, 9, 0, 0), (9, .putfield 9, 12, 0, 15), (12, .return_, 13, 0, 0)]
def mt_X5_init : pm_T := (RX5, yX5_init, cX5_init, 1, none, 1, gm_X5_init)
def gm_X5_begin : List pe_T := [(0, .aload_n 0, 1, 0, 0), (1, .iconst 1, 2, 0, 0), (2, .putfield 15, 5, 1, 15), (5, .aload_n 0, 6, 0, 0), (6, .iload_n 1, 7, 0, 0), (7, .putfield 19, 10, 2, 15), (10, .aload_n 0, 11, 0, 0), (11, .iload_n 2, 12, 0, 0), (12, .putfield 23, 15, 3, 15), (15, .iconst 0, 16, 0, 0), (16, .istore_n 3, 17, 0, 0), (17, .iload_n 3, 18, 0, 0), (18, .bipush 40, 20, 0, 0), (20, .if_icmp .ge 16, 23, 36, 0), (23, .aload_n 0, 24, 0, 0), (24, .getfield 9, 27, 0, 15), (27, .iload_n 3, 28, 0, 0), (28, .iconst 0, 29, 0, 0), (29, .iastore, 30, 0, 0), (30, .iinc 3 1, 33, 0, 0), (33, .goto (-16), 36, 17, 0), (36, .return_, 37, 0, 0)]
def mt_X5_begin : pm_T := (RX5, yX5_begin, cX5_begin, 4, none, 3, gm_X5_begin)
def gm_X5_cut : List pe_T := [(0, .aload_n 0, 1, 0, 0), (1, .getfield 19, 4, 2, 15), (4, .ifCond .ne 6, 7, 10, 0), (7, .iload_n 1, 8, 0, 0), (8, .i2b, 9, 0, 0), (9, .ireturn, 10, 0, 0), (10, .aload_n 0, 11, 0, 0), (11, .getfield 19, 14, 2, 15), (14, .iconst 1, 15, 0, 0), (15, .if_icmp .ne 8, 18, 23, 0), (18, .iload_n 1, 19, 0, 0), (19, .i2s, 20, 0, 0), (20, .goto 4, 23, 24, 0), (23, .iload_n 1, 24, 0, 0), (24, .ireturn, 25, 0, 0)]
def mt_X5_cut : pm_T := (RX5, yX5_cut, cX5_cut, 2, (some .int), 2, gm_X5_cut)
def gm_X5_reaches : List pe_T := [(0, .iload_n 1, 1, 0, 0), (1, .ifCond .lt 29, 4, 30, 0), (4, .iload_n 2, 5, 0, 0), (5, .ifCond .lt 25, 8, 30, 0), (8, .iload_n 1, 9, 0, 0), (9, .aload_n 0, 10, 0, 0), (10, .getfield 23, 13, 3, 15), (13, .if_icmp .gt 17, 16, 30, 0), (16, .iload_n 2, 17, 0, 0), (17, .aload_n 0, 18, 0, 0), (18, .getfield 23, 21, 3, 15), (21, .iload_n 1, 22, 0, 0), (22, .isub, 23, 0, 0), (23, .if_icmp .gt 7, 26, 30, 0), (26, .iconst 1, 27, 0, 0), (27, .goto 4, 30, 31, 0), (30, .iconst 0, 31, 0, 0), (31, .ireturn, 32, 0, 0)]
def mt_X5_reaches : pm_T := (RX5, yX5_reaches, cX5_reaches, 3, (some .boolean), 3, gm_X5_reaches)
def gm_X6_init : List pe_T := [(0, .aload_n 0, 1, 0, 0), (1, .invokespecial 3, 4, 1000, 0), (4, .aload_n 0, 5, 0, 0), (5, .sipush 500, 8, 0, 0), (8, .newarray .byte, 10, 1, 0), (10, .putfield 9, 13, 0, 16), (13, .aload_n 0, 14, 0, 0), (14, .sipush 501, 17, 0, 0), (17, .newarray .byte, 19, 1, 0), (19, .putfield 15, 22, 1, 16), (22, .aload_n 0, 23, 0, 0), (23, .sipush 501, 26, 0, 0), (26, .newarray .short, 28, 2, 0), (28, .putfield 18, 31, 2, 16), (31, .return_, 32, 0, 0)]
def mt_X6_init : pm_T := (RX6, yX6_init, cX6_init, 1, none, 1, gm_X6_init)
def gm_X6_split : List pe_T := [(0, .iconst 0, 1, 0, 0), (1, .istore_n 1, 2, 0, 0), (2, .iconst 0, 3, 0, 0), (3, .istore_n 2, 4, 0, 0), (4, .iload_n 2, 5, 0, 0), (5, .aload_n 0, 6, 0, 0), (6, .getfield 22, 9, 3, 16), (9, .if_icmp .ge 64, 12, 73, 0), (12, .iload_n 2, 13, 0, 0), (13, .iconst 1, 14, 0, 0), (14, .iadd, 15, 0, 0), (15, .istore_n 3, 16, 0, 0), (16, .aload_n 0, 17, 0, 0), (17, .getfield 9, 20, 0, 16), (20, .iload_n 2, 21, 0, 0), (21, .baload, 22, 0, 0), (22, .bipush 32, 24, 0, 0), (24, .if_icmp .eq 44, 27, 68, 0), (27, .aload_n 0, 28, 0, 0), (28, .getfield 9, 31, 0, 16), (31, .iload_n 2, 32, 0, 0), (32, .baload, 33, 0, 0), (33, .bipush 10, 35, 0, 0), (35, .if_icmp .eq 33, 38, 68, 0), (38, .aload_n 0, 39, 0, 0), (39, .iload_n 2, 40, 0, 0), (40, .invokevirtual 26, 43, 37, 16), (43, .istore_n 3, 44, 0, 0), (44, .aload_n 0, 45, 0, 0), (45, .getfield 15, 48, 1, 16), (48, .iload_n 1, 49, 0, 0), (49, .aload_n 0, 50, 0, 0), (50, .iload_n 2, 51, 0, 0), (51, .iload_n 3, 52, 0, 0), (52, .invokevirtual 30, 55, 38, 16), (55, .i2b, 56, 0, 0), (56, .bastore, 57, 0, 0), (57, .aload_n 0, 58, 0, 0), (58, .getfield 18, 61, 2, 16), (61, .iload_n 1, 62, 0, 0), (62, .iload_n 2, 63, 0, 0), (63, .i2s, 64, 0, 0), (64, .sastore, 65, 0, 0), (65, .iinc 1 1, 68, 0, 0), (68, .iload_n 3, 69, 0, 0), (69, .istore_n 2, 70, 0, 0), (70, .goto (-66), 73, 4, 0), (73, .aload_n 0, 74, 0, 0), (74, .getfield 15, 77, 1, 16), (77, .iload_n 1, 78, 0, 0), (78, .bipush 100, 80, 0, 0), (80, .bastore, 81, 0, 0), (81, .aload_n 0, 82, 0, 0), (82, .getfield 18, 85, 2, 16), (85, .iload_n 1, 86, 0, 0), (86, .aload_n 0, 87, 0, 0), (87, .getfield 22, 90, 3, 16), (90, .i2s, 91, 0, 0), (91, .sastore, 92, 0, 0), (92, .return_, 93, 0, 0)]
def mt_X6_split : pm_T := (RX6, yX6_split, cX6_split, 4, none, 1, gm_X6_split)
def gm_X6_endOfToken : List pe_T := [(0, .iload_n 1, 1, 0, 0), (1, .iconst 1, 2, 0, 0), (2, .iadd, 3, 0, 0), (3, .istore_n 2, 4, 0, 0), (4, .aload_n 0, 5, 0, 0), (5, .getfield 9, 8, 0, 16), (8, .iload_n 1, 9, 0, 0), (9, .baload, 10, 0, 0), (10, .invokestatic 34, 13, 42, 0), (13, .ifCond .eq 29, 16, 42, 0), (16, .iload_n 2, 17, 0, 0), (17, .aload_n 0, 18, 0, 0), (18, .getfield 22, 21, 3, 16), (21, .if_icmp .ge 59, 24, 80, 0), (24, .aload_n 0, 25, 0, 0), (25, .getfield 9, 28, 0, 16), (28, .iload_n 2, 29, 0, 0), (29, .baload, 30, 0, 0), (30, .invokestatic 34, 33, 42, 0), (33, .ifCond .eq 47, 36, 80, 0), (36, .iinc 2 1, 39, 0, 0), (39, .goto (-23), 42, 16, 0), (42, .aload_n 0, 43, 0, 0), (43, .getfield 9, 46, 0, 16), (46, .iload_n 1, 47, 0, 0), (47, .baload, 48, 0, 0), (48, .invokestatic 38, 51, 43, 0), (51, .ifCond .eq 29, 54, 80, 0), (54, .iload_n 2, 55, 0, 0), (55, .aload_n 0, 56, 0, 0), (56, .getfield 22, 59, 3, 16), (59, .if_icmp .ge 21, 62, 80, 0), (62, .aload_n 0, 63, 0, 0), (63, .getfield 9, 66, 0, 16), (66, .iload_n 2, 67, 0, 0), (67, .baload, 68, 0, 0), (68, .invokestatic 38, 71, 43, 0), (71, .ifCond .eq 9, 74, 80, 0), (74, .iinc 2 1, 77, 0, 0), (77, .goto (-23), 80, 54, 0), (80, .iload_n 2, 81, 0, 0), (81, .ireturn, 82, 0, 0)]
def mt_X6_endOfToken : pm_T := (RX6, yX6_endOfToken, cX6_endOfToken, 3, (some .int), 2, gm_X6_endOfToken)
def gm_X6_tokenOf : List pe_T := [(0, .aload_n 0, 1, 0, 0), (1, .getfield 9, 4, 0, 16), (4, .iload_n 1, 5, 0, 0), (5, .baload, 6, 0, 0), (6, .invokestatic 34, 9, 42, 0), (9, .ifCond .eq 10, 12, 19, 0), (12, .aload_n 0, 13, 0, 0), (13, .iload_n 1, 14, 0, 0), (14, .iload_n 2, 15, 0, 0), (15, .invokevirtual 41, 18, 40, 16), (18, .ireturn, 19, 0, 0), (19, .aload_n 0, 20, 0, 0), (20, .getfield 9, 23, 0, 16), (23, .iload_n 1, 24, 0, 0), (24, .baload, 25, 0, 0), (25, .invokestatic 38, 28, 43, 0), (28, .ifCond .eq 10, 31, 38, 0), (31, .aload_n 0, 32, 0, 0), (32, .iload_n 1, 33, 0, 0), (33, .iload_n 2, 34, 0, 0), (34, .invokevirtual 44, 37, 39, 16), (37, .ireturn, 38, 0, 0), (38, .aload_n 0, 39, 0, 0), (39, .getfield 9, 42, 0, 16), (42, .iload_n 1, 43, 0, 0), (43, .baload, 44, 0, 0), (44, .bipush 59, 46, 0, 0), (46, .if_icmp .ne 8, 49, 54, 0), (49, .bipush 101, 51, 0, 0), (51, .goto 5, 54, 56, 0), (54, .bipush 109, 56, 0, 0), (56, .ireturn, 57, 0, 0)]
def mt_X6_tokenOf : pm_T := (RX6, yX6_tokenOf, cX6_tokenOf, 3, (some .int), 3, gm_X6_tokenOf)
def gm_X6_numberOf : List pe_T := [(0, .aload_n 0, 1, 0, 0), (1, .getfield 9, 4, 0, 16), (4, .iload_n 2, 5, 0, 0), (5, .iconst 1, 6, 0, 0), (6, .isub, 7, 0, 0), (7, .baload, 8, 0, 0), (8, .bipush 48, 10, 0, 0), (10, .isub, 11, 0, 0), (11, .istore_n 3, 12, 0, 0), (12, .iload_n 2, 13, 0, 0), (13, .iload_n 1, 14, 0, 0), (14, .isub, 15, 0, 0), (15, .iconst 1, 16, 0, 0), (16, .if_icmp .ne 5, 19, 21, 0), (19, .iload_n 3, 20, 0, 0), (20, .ireturn, 21, 0, 0), (21, .iload_n 2, 22, 0, 0), (22, .iload_n 1, 23, 0, 0), (23, .isub, 24, 0, 0), (24, .iconst 2, 25, 0, 0), (25, .if_icmp .ne 20, 28, 45, 0), (28, .bipush 10, 30, 0, 0), (30, .aload_n 0, 31, 0, 0), (31, .getfield 9, 34, 0, 16), (34, .iload_n 1, 35, 0, 0), (35, .baload, 36, 0, 0), (36, .bipush 48, 38, 0, 0), (38, .isub, 39, 0, 0), (39, .imul, 40, 0, 0), (40, .iload_n 3, 41, 0, 0), (41, .iadd, 42, 0, 0), (42, .goto 5, 45, 47, 0), (45, .bipush 109, 47, 0, 0), (47, .ireturn, 48, 0, 0)]
def mt_X6_numberOf : pm_T := (RX6, yX6_numberOf, cX6_numberOf, 4, (some .int), 3, gm_X6_numberOf)
def gm_X6_wordOf : List pe_T := [(0, .aload_n 0, 1, 0, 0), (1, .iload_n 1, 2, 0, 0), (2, .iload_n 2, 3, 0, 0), (3, .ldc 47, 5, 1, 3), (5, .invokevirtual 49, 8, 41, 16), (8, .ifCond .eq 6, 11, 14, 0), (11, .bipush 106, 13, 0, 0), (13, .ireturn, 14, 0, 0), (14, .aload_n 0, 15, 0, 0), (15, .iload_n 1, 16, 0, 0), (16, .iload_n 2, 17, 0, 0), (17, .ldc 53, 19, 1, 4), (19, .invokevirtual 49, 22, 41, 16), (22, .ifCond .eq 6, 25, 28, 0), (25, .bipush 108, 27, 0, 0), (27, .ireturn, 28, 0, 0), (28, .aload_n 0, 29, 0, 0), (29, .iload_n 1, 30, 0, 0), (30, .iload_n 2, 31, 0, 0), (31, .ldc 55, 33, 1, 5), (33, .invokevirtual 49, 36, 41, 16), (36, .ifCond .eq 6, 39, 42, 0), (39, .bipush 107, 41, 0, 0), (41, .ireturn, 42, 0, 0), (42, .aload_n 0, 43, 0, 0), (43, .iload_n 1, 44, 0, 0), (44, .iload_n 2, 45, 0, 0), (45, .ldc 57, 47, 1, 6), (47, .invokevirtual 49, 50, 41, 16), (50, .ifCond .eq 6, 53, 56, 0), (53, .bipush 103, 55, 0, 0), (55, .ireturn, 56, 0, 0), (56, .aload_n 0, 57, 0, 0), (57, .iload_n 1, 58, 0, 0), (58, .iload_n 2, 59, 0, 0), (59, .ldc 59, 61, 1, 7), (61, .invokevirtual 49, 64, 41, 16), (64, .ifCond .eq 6, 67, 70, 0), (67, .bipush 102, 69, 0, 0), (69, .ireturn, 70, 0, 0), (70, .aload_n 0, 71, 0, 0), (71, .iload_n 1, 72, 0, 0), (72, .iload_n 2, 73, 0, 0), (73, .ldc 61, 75, 1, 8), (75, .invokevirtual 49, 78, 41, 16), (78, .ifCond .eq 6, 81, 84, 0), (81, .bipush 104, 83, 0, 0), (83, .ireturn, 84, 0, 0), (84, .aload_n 0, 85, 0, 0), (85, .iload_n 1, 86, 0, 0), (86, .iload_n 2, 87, 0, 0), (87, .ldc 63, 89, 1, 9), (89, .invokevirtual 49, 92, 41, 16), (92, .ifCond .eq 8, 95, 100, 0), (95, .bipush 105, 97, 0, 0), (97, .goto 5, 100, 102, 0), (100, .bipush 109, 102, 0, 0), (102, .ireturn, 103, 0, 0)]
def mt_X6_wordOf : pm_T := (RX6, yX6_wordOf, cX6_wordOf, 3, (some .int), 3, gm_X6_wordOf)
def gm_X6_spells : List pe_T := [(0, .iload_n 2, 1, 0, 0), (1, .iload_n 1, 2, 0, 0), (2, .isub, 3, 0, 0), (3, .aload_n 3, 4, 0, 0), (4, .invokevirtual 65, 7, 185, 20), (7, .if_icmp .eq 5, 10, 12, 0), (10, .iconst 0, 11, 0, 0), (11, .ireturn, 12, 0, 0), (12, .iload_n 1, 13, 0, 0), (13, .istore 4, 15, 0, 0), (15, .iload 4, 17, 0, 0), (17, .iload_n 2, 18, 0, 0), (18, .if_icmp .ge 29, 21, 47, 0), (21, .aload_n 0, 22, 0, 0), (22, .getfield 9, 25, 0, 16), (25, .iload 4, 27, 0, 0), (27, .baload, 28, 0, 0), (28, .aload_n 3, 29, 0, 0), (29, .iload 4, 31, 0, 0), (31, .iload_n 1, 32, 0, 0), (32, .isub, 33, 0, 0), (33, .invokevirtual 70, 36, 186, 20), (36, .if_icmp .eq 5, 39, 41, 0), (39, .iconst 0, 40, 0, 0), (40, .ireturn, 41, 0, 0), (41, .iinc 4 1, 44, 0, 0), (44, .goto (-29), 47, 15, 0), (47, .iconst 1, 48, 0, 0), (48, .ireturn, 49, 0, 0)]
def mt_X6_spells : pm_T := (RX6, yX6_spells, cX6_spells, 5, (some .boolean), 4, gm_X6_spells)
def gm_X6_isLetter : List pe_T := [(0, .iload_n 0, 1, 0, 0), (1, .bipush 97, 3, 0, 0), (3, .if_icmp .lt 13, 6, 16, 0), (6, .iload_n 0, 7, 0, 0), (7, .bipush 122, 9, 0, 0), (9, .if_icmp .gt 7, 12, 16, 0), (12, .iconst 1, 13, 0, 0), (13, .goto 4, 16, 17, 0), (16, .iconst 0, 17, 0, 0), (17, .ireturn, 18, 0, 0)]
def mt_X6_isLetter : pm_T := (RX6, yX6_isLetter, cX6_isLetter, 1, (some .boolean), 1, gm_X6_isLetter)
def gm_X6_isFigure : List pe_T := [(0, .iload_n 0, 1, 0, 0), (1, .bipush 48, 3, 0, 0), (3, .if_icmp .lt 13, 6, 16, 0), (6, .iload_n 0, 7, 0, 0), (7, .bipush 57, 9, 0, 0), (9, .if_icmp .gt 7, 12, 16, 0), (12, .iconst 1, 13, 0, 0), (13, .goto 4, 16, 17, 0), (16, .iconst 0, 17, 0, 0), (17, .ireturn, 18, 0, 0)]
def mt_X6_isFigure : pm_T := (RX6, yX6_isFigure, cX6_isFigure, 1, (some .boolean), 1, gm_X6_isFigure)
def gm_X7_init : List pe_T := [(0, .aload_n 0, 1, 0, 0), (1, .invokespecial 3, 4, 1000, 0), (4, .aload_n 0, 5, 0, 0), (5, .new 9, 8, 2, 0), (8, .dup, 9, 0, 0), (9, .invokespecial 11, 12, 10, 0), (12, .putfield 12, 15, 0, 17), (15, .aload_n 0, 16, 0, 0), (16, .bipush 20, 18, 0, 0), (18, .anewarray 18, 21, 5, 0), (21, .putfield 20, 24, 1, 17), (24, .aload_n 0, 25, 0, 0), (25, .bipush 16, 27, 0, 0), (27, .anewarray 24, 30, 6, 0), (30, .putfield 26, 33, 2, 17), (33, .aload_n 0, 34, 0, 0), (34, .iconst 4, 35, 0, 0), (35, .newarray .int, 37, 0, 0), (37, .putfield 30, 40, 3, 17), (40, .iconst 0, 41, 0, 0), (41, .istore_n 1, 42, 0, 0), (42, .iload_n 1, 43, 0, 0), (43, .bipush 20, 45, 0, 0), (45, .if_icmp .ge 22, 48, 67, 0), (48, .aload_n 0, 49, 0, 0), (49, .getfield 20, 52, 1, 17), (52, .iload_n 1, 53, 0, 0), (53, .new 18, 56, 4, 0), (56, .dup, 57, 0, 0), (57, .invokespecial 34, 60, 30, 1), (60, .aastore, 61, 0, 0), (61, .iinc 1 1, 64, 0, 0), (64, .goto (-22), 67, 42, 0), (67, .iconst 0, 68, 0, 0), (68, .istore_n 1, 69, 0, 0), (69, .iload_n 1, 70, 0, 0), (70, .bipush 16, 72, 0, 0), (72, .if_icmp .ge 22, 75, 94, 0), (75, .aload_n 0, 76, 0, 0), (76, .getfield 26, 79, 2, 17), (79, .iload_n 1, 80, 0, 0), (80, .new 24, 83, 0, 0), (83, .dup, 84, 0, 0), (84, .invokespecial 35, 87, 0, 1), (87, .aastore, 88, 0, 0), (88, .iinc 1 1, 91, 0, 0), (91, .goto (-22), 94, 69, 0), (94, .return_, 95, 0, 0)]
def mt_X7_init : pm_T := (RX7, yX7_init, cX7_init, 2, none, 1, gm_X7_init)
def gm_X7_hasSaying : List pe_T := [(0, .iload_n 1, 1, 0, 0), (1, .aload_n 0, 2, 0, 0), (2, .getfield 12, 5, 0, 17), (5, .getfield 36, 8, 4, 12), (8, .invokestatic 39, 11, 88, 1), (11, .ireturn, 12, 0, 0)]
def mt_X7_hasSaying : pm_T := (RX7, yX7_hasSaying, cX7_hasSaying, 2, (some .boolean), 2, gm_X7_hasSaying)
def gm_X7_hasEdition : List pe_T := [(0, .iload_n 1, 1, 0, 0), (1, .iconst 4, 2, 0, 0), (2, .invokestatic 39, 5, 88, 1), (5, .ifCond .eq 23, 8, 28, 0), (8, .iload_n 2, 9, 0, 0), (9, .aload_n 0, 10, 0, 0), (10, .getfield 12, 13, 0, 17), (13, .getfield 43, 16, 0, 12), (16, .iload_n 1, 17, 0, 0), (17, .iaload, 18, 0, 0), (18, .invokestatic 39, 21, 88, 1), (21, .ifCond .eq 7, 24, 28, 0), (24, .iconst 1, 25, 0, 0), (25, .goto 4, 28, 29, 0), (28, .iconst 0, 29, 0, 0), (29, .ireturn, 30, 0, 0)]
def mt_X7_hasEdition : pm_T := (RX7, yX7_hasEdition, cX7_hasEdition, 3, (some .boolean), 3, gm_X7_hasEdition)
def gm_X7_editionOf : List pe_T := [(0, .aload_n 0, 1, 0, 0), (1, .getfield 26, 4, 2, 17), (4, .iload_n 1, 5, 0, 0), (5, .iconst 4, 6, 0, 0), (6, .imul, 7, 0, 0), (7, .iload_n 2, 8, 0, 0), (8, .iadd, 9, 0, 0), (9, .aaload, 10, 0, 0), (10, .areturn, 11, 0, 0)]
def mt_X7_editionOf : pm_T := (RX7, yX7_editionOf, cX7_editionOf, 3, (some (.object "CallLaws$Edition")), 3, gm_X7_editionOf)
def gm_X7_settle : List pe_T := [(0, .aload_n 0, 1, 0, 0), (1, .getfield 12, 4, 0, 17), (4, .aload_n 1, 5, 0, 0), (5, .invokevirtual 45, 8, 11, 12), (8, .iconst 0, 9, 0, 0), (9, .istore_n 2, 10, 0, 0), (10, .iload_n 2, 11, 0, 0), (11, .iconst 4, 12, 0, 0), (12, .if_icmp .ge 56, 15, 68, 0), (15, .iconst 0, 16, 0, 0), (16, .istore_n 3, 17, 0, 0), (17, .iload_n 3, 18, 0, 0), (18, .aload_n 0, 19, 0, 0), (19, .getfield 12, 22, 0, 17), (22, .getfield 43, 25, 0, 12), (25, .iload_n 2, 26, 0, 0), (26, .iaload, 27, 0, 0), (27, .if_icmp .ge 24, 30, 51, 0), (30, .aload_n 0, 31, 0, 0), (31, .iload_n 2, 32, 0, 0), (32, .iload_n 3, 33, 0, 0), (33, .invokevirtual 49, 36, 47, 17), (36, .aload_n 0, 37, 0, 0), (37, .iload_n 2, 38, 0, 0), (38, .iload_n 3, 39, 0, 0), (39, .invokevirtual 53, 42, 49, 17), (42, .putfield 57, 45, 1, 10), (45, .iinc 3 1, 48, 0, 0), (48, .goto (-31), 51, 17, 0), (51, .aload_n 0, 52, 0, 0), (52, .getfield 30, 55, 3, 17), (55, .iload_n 2, 56, 0, 0), (56, .aload_n 0, 57, 0, 0), (57, .iload_n 2, 58, 0, 0), (58, .invokevirtual 60, 61, 50, 17), (61, .iastore, 62, 0, 0), (62, .iinc 2 1, 65, 0, 0), (65, .goto (-55), 68, 10, 0), (68, .return_, 69, 0, 0)]
def mt_X7_settle : pm_T := (RX7, yX7_settle, cX7_settle, 4, none, 2, gm_X7_settle)
def gm_X7_keptBy : List pe_T := [(0, .iconst 0, 1, 0, 0), (1, .istore_n 3, 2, 0, 0), (2, .iconst 0, 3, 0, 0), (3, .istore 4, 5, 0, 0), (5, .iload 4, 7, 0, 0), (7, .aload_n 0, 8, 0, 0), (8, .getfield 12, 11, 0, 17), (11, .getfield 36, 14, 4, 12), (14, .if_icmp .ge 51, 17, 65, 0), (17, .aload_n 0, 18, 0, 0), (18, .getfield 20, 21, 1, 17), (21, .iload 4, 23, 0, 0), (23, .aaload, 24, 0, 0), (24, .getfield 64, 27, 2, 14), (27, .iload_n 1, 28, 0, 0), (28, .if_icmp .ne 31, 31, 59, 0), (31, .aload_n 0, 32, 0, 0), (32, .getfield 20, 35, 1, 17), (35, .iload 4, 37, 0, 0), (37, .aaload, 38, 0, 0), (38, .aload_n 0, 39, 0, 0), (39, .iload_n 1, 40, 0, 0), (40, .iload_n 2, 41, 0, 0), (41, .invokevirtual 49, 44, 47, 17), (44, .invokestatic 67, 47, 100, 1), (47, .ldc 71, 49, 0, (-1000000)), (49, .if_icmp .ne 10, 52, 59, 0), (52, .iload_n 3, 53, 0, 0), (53, .iconst 1, 54, 0, 0), (54, .iload 4, 56, 0, 0), (56, .ishl, 57, 0, 0), (57, .ior, 58, 0, 0), (58, .istore_n 3, 59, 0, 0), (59, .iinc 4 1, 62, 0, 0), (62, .goto (-57), 65, 5, 0), (65, .iload_n 3, 66, 0, 0), (66, .ireturn, 67, 0, 0)]
def mt_X7_keptBy : pm_T := (RX7, yX7_keptBy, cX7_keptBy, 5, (some .int), 3, gm_X7_keptBy)
def gm_X7_leastQuarrel : List pe_T := [(0, .iconst 1, 1, 0, 0), (1, .istore_n 2, 2, 0, 0), (2, .iload_n 2, 3, 0, 0), (3, .aload_n 0, 4, 0, 0), (4, .getfield 12, 7, 0, 17), (7, .getfield 36, 10, 4, 12), (10, .if_icmp .ge 65, 13, 75, 0), (13, .iconst 0, 14, 0, 0), (14, .istore_n 3, 15, 0, 0), (15, .iload_n 3, 16, 0, 0), (16, .iload_n 2, 17, 0, 0), (17, .if_icmp .ge 52, 20, 69, 0), (20, .aload_n 0, 21, 0, 0), (21, .iload_n 1, 22, 0, 0), (22, .iload_n 3, 23, 0, 0), (23, .iload_n 2, 24, 0, 0), (24, .invokevirtual 72, 27, 51, 17), (27, .ifCond .eq 36, 30, 63, 0), (30, .aload_n 0, 31, 0, 0), (31, .getfield 20, 34, 1, 17), (34, .iload_n 3, 35, 0, 0), (35, .aaload, 36, 0, 0), (36, .getfield 76, 39, 8, 14), (39, .aload_n 0, 40, 0, 0), (40, .getfield 20, 43, 1, 17), (43, .iload_n 2, 44, 0, 0), (44, .aaload, 45, 0, 0), (45, .getfield 76, 48, 8, 14), (48, .iand, 49, 0, 0), (49, .invokestatic 79, 52, 99, 1), (52, .ifCond .eq 11, 55, 63, 0), (55, .iconst 1, 56, 0, 0), (56, .iload_n 3, 57, 0, 0), (57, .ishl, 58, 0, 0), (58, .iconst 1, 59, 0, 0), (59, .iload_n 2, 60, 0, 0), (60, .ishl, 61, 0, 0), (61, .ior, 62, 0, 0), (62, .ireturn, 63, 0, 0), (63, .iinc 3 1, 66, 0, 0), (66, .goto (-51), 69, 15, 0), (69, .iinc 2 1, 72, 0, 0), (72, .goto (-70), 75, 2, 0), (75, .iconst 2, 76, 0, 0), (76, .istore_n 2, 77, 0, 0), (77, .iload_n 2, 78, 0, 0), (78, .aload_n 0, 79, 0, 0), (79, .getfield 12, 82, 0, 17), (82, .getfield 36, 85, 4, 12), (85, .if_icmp .ge 65, 88, 150, 0), (88, .iconst 1, 89, 0, 0), (89, .istore_n 3, 90, 0, 0), (90, .iload_n 3, 91, 0, 0), (91, .iload_n 2, 92, 0, 0), (92, .if_icmp .ge 52, 95, 144, 0), (95, .aload_n 0, 96, 0, 0), (96, .iload_n 1, 97, 0, 0), (97, .iload_n 3, 98, 0, 0), (98, .iload_n 2, 99, 0, 0), (99, .invokevirtual 72, 102, 51, 17), (102, .ifCond .eq 12, 105, 114, 0), (105, .aload_n 0, 106, 0, 0), (106, .iload_n 3, 107, 0, 0), (107, .iload_n 2, 108, 0, 0), (108, .invokevirtual 83, 111, 52, 17), (111, .goto 5, 114, 116, 0), (114, .ldc 71, 116, 0, (-1000000)), (116, .istore 4, 118, 0, 0), (118, .iload 4, 120, 0, 0), (120, .ldc 71, 122, 0, (-1000000)), (122, .if_icmp .eq 16, 125, 138, 0), (125, .iconst 1, 126, 0, 0), (126, .iload 4, 128, 0, 0), (128, .ishl, 129, 0, 0), (129, .iconst 1, 130, 0, 0), (130, .iload_n 3, 131, 0, 0), (131, .ishl, 132, 0, 0), (132, .ior, 133, 0, 0), (133, .iconst 1, 134, 0, 0), (134, .iload_n 2, 135, 0, 0), (135, .ishl, 136, 0, 0), (136, .ior, 137, 0, 0), (137, .ireturn, 138, 0, 0), (138, .iinc 3 1, 141, 0, 0), (141, .goto (-51), 144, 90, 0), (144, .iinc 2 1, 147, 0, 0), (147, .goto (-70), 150, 77, 0), (150, .iconst 0, 151, 0, 0), (151, .ireturn, 152, 0, 0)]
def mt_X7_leastQuarrel : pm_T := (RX7, yX7_leastQuarrel, cX7_leastQuarrel, 5, (some .int), 2, gm_X7_leastQuarrel)
def gm_X7_sharesGiver : List pe_T := [(0, .aload_n 0, 1, 0, 0), (1, .getfield 20, 4, 1, 17), (4, .iload_n 2, 5, 0, 0), (5, .aaload, 6, 0, 0), (6, .getfield 64, 9, 2, 14), (9, .iload_n 1, 10, 0, 0), (10, .if_icmp .ne 42, 13, 52, 0), (13, .aload_n 0, 14, 0, 0), (14, .getfield 20, 17, 1, 17), (17, .iload_n 3, 18, 0, 0), (18, .aaload, 19, 0, 0), (19, .getfield 64, 22, 2, 14), (22, .iload_n 1, 23, 0, 0), (23, .if_icmp .ne 29, 26, 52, 0), (26, .aload_n 0, 27, 0, 0), (27, .getfield 20, 30, 1, 17), (30, .iload_n 2, 31, 0, 0), (31, .aaload, 32, 0, 0), (32, .getfield 86, 35, 7, 14), (35, .aload_n 0, 36, 0, 0), (36, .getfield 20, 39, 1, 17), (39, .iload_n 3, 40, 0, 0), (40, .aaload, 41, 0, 0), (41, .getfield 86, 44, 7, 14), (44, .iand, 45, 0, 0), (45, .ifCond .eq 7, 48, 52, 0), (48, .iconst 1, 49, 0, 0), (49, .goto 4, 52, 53, 0), (52, .iconst 0, 53, 0, 0), (53, .ireturn, 54, 0, 0)]
def mt_X7_sharesGiver : pm_T := (RX7, yX7_sharesGiver, cX7_sharesGiver, 4, (some .boolean), 4, gm_X7_sharesGiver)
def gm_X7_leastThird : List pe_T := [(0, .aload_n 0, 1, 0, 0), (1, .getfield 20, 4, 1, 17), (4, .iload_n 1, 5, 0, 0), (5, .aaload, 6, 0, 0), (6, .getfield 86, 9, 7, 14), (9, .aload_n 0, 10, 0, 0), (10, .getfield 20, 13, 1, 17), (13, .iload_n 2, 14, 0, 0), (14, .aaload, 15, 0, 0), (15, .getfield 86, 18, 7, 14), (18, .iand, 19, 0, 0), (19, .istore_n 3, 20, 0, 0), (20, .aload_n 0, 21, 0, 0), (21, .getfield 20, 24, 1, 17), (24, .iload_n 1, 25, 0, 0), (25, .aaload, 26, 0, 0), (26, .getfield 76, 29, 8, 14), (29, .aload_n 0, 30, 0, 0), (30, .getfield 20, 33, 1, 17), (33, .iload_n 2, 34, 0, 0), (34, .aaload, 35, 0, 0), (35, .getfield 76, 38, 8, 14), (38, .iand, 39, 0, 0), (39, .istore 4, 41, 0, 0), (41, .iconst 0, 42, 0, 0), (42, .istore 5, 44, 0, 0), (44, .iload 5, 46, 0, 0), (46, .iload_n 1, 47, 0, 0), (47, .if_icmp .ge 68, 50, 115, 0), (50, .aload_n 0, 51, 0, 0), (51, .getfield 20, 54, 1, 17), (54, .iload 5, 56, 0, 0), (56, .aaload, 57, 0, 0), (57, .getfield 64, 60, 2, 14), (60, .aload_n 0, 61, 0, 0), (61, .getfield 20, 64, 1, 17), (64, .iload_n 1, 65, 0, 0), (65, .aaload, 66, 0, 0), (66, .getfield 64, 69, 2, 14), (69, .if_icmp .ne 40, 72, 109, 0), (72, .iload_n 3, 73, 0, 0), (73, .aload_n 0, 74, 0, 0), (74, .getfield 20, 77, 1, 17), (77, .iload 5, 79, 0, 0), (79, .aaload, 80, 0, 0), (80, .getfield 86, 83, 7, 14), (83, .iand, 84, 0, 0), (84, .ifCond .eq 25, 87, 109, 0), (87, .iload 4, 89, 0, 0), (89, .aload_n 0, 90, 0, 0), (90, .getfield 20, 93, 1, 17), (93, .iload 5, 95, 0, 0), (95, .aaload, 96, 0, 0), (96, .getfield 76, 99, 8, 14), (99, .iand, 100, 0, 0), (100, .invokestatic 79, 103, 99, 1), (103, .ifCond .eq 6, 106, 109, 0), (106, .iload 5, 108, 0, 0), (108, .ireturn, 109, 0, 0), (109, .iinc 5 1, 112, 0, 0), (112, .goto (-68), 115, 44, 0), (115, .ldc 71, 117, 0, (-1000000)), (117, .ireturn, 118, 0, 0)]
def mt_X7_leastThird : pm_T := (RX7, yX7_leastThird, cX7_leastThird, 6, (some .int), 3, gm_X7_leastThird)
def gm_X7_standIns : List pe_T := [(0, .ldc 89, 2, 0, 536870911), (2, .istore 5, 4, 0, 0), (4, .iconst 0, 5, 0, 0), (5, .istore 6, 7, 0, 0), (7, .iload 6, 9, 0, 0), (9, .aload_n 0, 10, 0, 0), (10, .getfield 12, 13, 0, 17), (13, .getfield 36, 16, 4, 12), (16, .if_icmp .ge 68, 19, 84, 0), (19, .aload_n 0, 20, 0, 0), (20, .getfield 20, 23, 1, 17), (23, .iload 6, 25, 0, 0), (25, .aaload, 26, 0, 0), (26, .astore 7, 28, 0, 0), (28, .aload 7, 30, 0, 0), (30, .getfield 90, 33, 0, 14), (33, .iload_n 1, 34, 0, 0), (34, .if_icmp .ne 44, 37, 78, 0), (37, .aload 7, 39, 0, 0), (39, .getfield 93, 42, 1, 14), (42, .iload_n 2, 43, 0, 0), (43, .if_icmp .ne 35, 46, 78, 0), (46, .aload 7, 48, 0, 0), (48, .getfield 64, 51, 2, 14), (51, .iload_n 3, 52, 0, 0), (52, .if_icmp .ne 26, 55, 78, 0), (55, .aload 7, 57, 0, 0), (57, .getfield 86, 60, 7, 14), (60, .iload 4, 62, 0, 0), (62, .ishr, 63, 0, 0), (63, .iconst 1, 64, 0, 0), (64, .iand, 65, 0, 0), (65, .ifCond .eq 13, 68, 78, 0), (68, .iload 5, 70, 0, 0), (70, .aload 7, 72, 0, 0), (72, .getfield 76, 75, 8, 14), (75, .iand, 76, 0, 0), (76, .istore 5, 78, 0, 0), (78, .iinc 6 1, 81, 0, 0), (81, .goto (-74), 84, 7, 0), (84, .iload 5, 86, 0, 0), (86, .ireturn, 87, 0, 0)]
def mt_X7_standIns : pm_T := (RX7, yX7_standIns, cX7_standIns, 8, (some .int), 5, gm_X7_standIns)
def gm_X7_kindOf : List pe_T := [(0, .aload_n 0, 1, 0, 0), (1, .getfield 20, 4, 1, 17), (4, .iload_n 1, 5, 0, 0), (5, .aaload, 6, 0, 0), (6, .astore_n 2, 7, 0, 0), (7, .aload_n 0, 8, 0, 0), (8, .getfield 30, 11, 3, 17), (11, .aload_n 2, 12, 0, 0), (12, .getfield 64, 15, 2, 14), (15, .iaload, 16, 0, 0), (16, .iload_n 1, 17, 0, 0), (17, .ishr, 18, 0, 0), (18, .iconst 1, 19, 0, 0), (19, .iand, 20, 0, 0), (20, .ifCond .eq 5, 23, 25, 0), (23, .iconst 5, 24, 0, 0), (24, .ireturn, 25, 0, 0), (25, .aload_n 2, 26, 0, 0), (26, .getfield 76, 29, 8, 14), (29, .ldc 96, 31, 0, 268435456), (31, .if_icmp .ne 5, 34, 36, 0), (34, .iconst 2, 35, 0, 0), (35, .ireturn, 36, 0, 0), (36, .aload_n 2, 37, 0, 0), (37, .getfield 97, 40, 5, 14), (40, .iconst 3, 41, 0, 0), (41, .if_icmp .eq 5, 44, 46, 0), (44, .iconst 3, 45, 0, 0), (45, .ireturn, 46, 0, 0), (46, .aload_n 2, 47, 0, 0), (47, .getfield 100, 50, 6, 14), (50, .ifCond .ne 7, 53, 57, 0), (53, .iconst 4, 54, 0, 0), (54, .goto 4, 57, 58, 0), (57, .iconst 1, 58, 0, 0), (58, .ireturn, 59, 0, 0)]
def mt_X7_kindOf : pm_T := (RX7, yX7_kindOf, cX7_kindOf, 3, (some .int), 2, gm_X7_kindOf)
def gm_X7_countEditions : List pe_T := [(0, .iconst 0, 1, 0, 0), (1, .istore_n 1, 2, 0, 0), (2, .iconst 0, 3, 0, 0), (3, .istore_n 2, 4, 0, 0), (4, .iload_n 2, 5, 0, 0), (5, .iconst 4, 6, 0, 0), (6, .if_icmp .ge 21, 9, 27, 0), (9, .iload_n 1, 10, 0, 0), (10, .aload_n 0, 11, 0, 0), (11, .getfield 12, 14, 0, 17), (14, .getfield 43, 17, 0, 12), (17, .iload_n 2, 18, 0, 0), (18, .iaload, 19, 0, 0), (19, .iadd, 20, 0, 0), (20, .istore_n 1, 21, 0, 0), (21, .iinc 2 1, 24, 0, 0), (24, .goto (-20), 27, 4, 0), (27, .iload_n 1, 28, 0, 0), (28, .ireturn, 29, 0, 0)]
def mt_X7_countEditions : pm_T := (RX7, yX7_countEditions, cX7_countEditions, 3, (some .int), 1, gm_X7_countEditions)
def gm_X7_countKept : List pe_T := [(0, .iconst 0, 1, 0, 0), (1, .istore_n 1, 2, 0, 0), (2, .iconst 0, 3, 0, 0), (3, .istore_n 2, 4, 0, 0), (4, .iload_n 2, 5, 0, 0), (5, .iconst 4, 6, 0, 0), (6, .if_icmp .ge 42, 9, 48, 0), (9, .iconst 0, 10, 0, 0), (10, .istore_n 3, 11, 0, 0), (11, .iload_n 3, 12, 0, 0), (12, .aload_n 0, 13, 0, 0), (13, .getfield 12, 16, 0, 17), (16, .getfield 43, 19, 0, 12), (19, .iload_n 2, 20, 0, 0), (20, .iaload, 21, 0, 0), (21, .if_icmp .ge 21, 24, 42, 0), (24, .iload_n 1, 25, 0, 0), (25, .aload_n 0, 26, 0, 0), (26, .iload_n 2, 27, 0, 0), (27, .iload_n 3, 28, 0, 0), (28, .invokevirtual 49, 31, 47, 17), (31, .getfield 57, 34, 1, 10), (34, .ior, 35, 0, 0), (35, .istore_n 1, 36, 0, 0), (36, .iinc 3 1, 39, 0, 0), (39, .goto (-28), 42, 11, 0), (42, .iinc 2 1, 45, 0, 0), (45, .goto (-41), 48, 4, 0), (48, .iload_n 1, 49, 0, 0), (49, .invokestatic 103, 52, 184, 0), (52, .ireturn, 53, 0, 0)]
def mt_X7_countKept : pm_T := (RX7, yX7_countKept, cX7_countKept, 4, (some .int), 1, gm_X7_countKept)
def gm_X7_countWithin : List pe_T := [(0, .iconst 0, 1, 0, 0), (1, .istore_n 1, 2, 0, 0), (2, .iconst 0, 3, 0, 0), (3, .istore_n 2, 4, 0, 0), (4, .iload_n 2, 5, 0, 0), (5, .iconst 4, 6, 0, 0), (6, .if_icmp .ge 26, 9, 32, 0), (9, .aload_n 0, 10, 0, 0), (10, .getfield 12, 13, 0, 17), (13, .getfield 108, 16, 2, 12), (16, .iload_n 2, 17, 0, 0), (17, .iaload, 18, 0, 0), (18, .ldc 71, 20, 0, (-1000000)), (20, .if_icmp .eq 6, 23, 26, 0), (23, .iinc 1 1, 26, 0, 0), (26, .iinc 2 1, 29, 0, 0), (29, .goto (-25), 32, 4, 0), (32, .iload_n 1, 33, 0, 0), (33, .ireturn, 34, 0, 0)]
def mt_X7_countWithin : pm_T := (RX7, yX7_countWithin, cX7_countWithin, 3, (some .int), 1, gm_X7_countWithin)
def gm_X8_init : List pe_T := [(0, .aload_n 0, 1, 0, 0), (1, .invokespecial 3, 4, 1000, 0), (4, .aload_n 0, 5, 0, 0), (5, .bipush 8, 7, 0, 0), (7, .anewarray 9, 10, 4, 0), (10, .putfield 11, 13, 0, 18), (13, .iconst 0, 14, 0, 0), (14, .istore_n 1, 15, 0, 0), (15, .iload_n 1, 16, 0, 0), (16, .bipush 8, 18, 0, 0), (18, .if_icmp .ge 22, 21, 40, 0), (21, .aload_n 0, 22, 0, 0), (22, .getfield 11, 25, 0, 18), (25, .iload_n 1, 26, 0, 0), (26, .new 9, 29, 5, 0), (29, .dup, 30, 0, 0), (30, .invokespecial 15, 33, 31, 1), (33, .aastore, 34, 0, 0), (34, .iinc 1 1, 37, 0, 0), (37, .goto (-22), 40, 15, 0), (40, .aload_n 0, 41, 0, 0), (41, .new 16, 44, 6, 0), (44, .dup, 45, 0, 0), (45, .invokespecial 18, 48, 35, 1), (48, .putfield 19, 51, 1, 18), (51, .aload_n 0, 52, 0, 0), (52, .new 23, 55, 7, 0), (55, .dup, 56, 0, 0), (56, .invokespecial 25, 59, 44, 0), (59, .putfield 26, 62, 2, 18), (62, .aload_n 0, 63, 0, 0), (63, .new 30, 66, 3, 0), (66, .dup, 67, 0, 0), (67, .aload_n 0, 68, 0, 0), (68, .getfield 19, 71, 1, 18), (71, .aload_n 0, 72, 0, 0), (72, .getfield 26, 75, 2, 18), (75, .invokespecial 32, 78, 12, 0), (78, .putfield 35, 81, 3, 18), (81, .aload_n 0, 82, 0, 0), (82, .new 39, 85, 1, 0), (85, .dup, 86, 0, 0), (86, .aload_n 0, 87, 0, 0), (87, .getfield 26, 90, 2, 18), (90, .invokespecial 41, 93, 1, 0), (93, .putfield 44, 96, 4, 18), (96, .aload_n 0, 97, 0, 0), (97, .bipush 16, 99, 0, 0), (99, .newarray .int, 101, 0, 0), (101, .putfield 48, 104, 5, 18), (104, .return_, 105, 0, 0)]
def mt_X8_init : pm_T := (RX8, yX8_init, cX8_init, 2, none, 1, gm_X8_init)
def gm_X8_sheet : List pe_T := [(0, .iload_n 1, 1, 0, 0), (1, .bipush 8, 3, 0, 0), (3, .invokestatic 52, 6, 88, 0), (6, .ifCond .eq 17, 9, 23, 0), (9, .iload_n 2, 10, 0, 0), (10, .iconst 3, 11, 0, 0), (11, .invokestatic 52, 14, 88, 0), (14, .ifCond .eq 9, 17, 23, 0), (17, .iload_n 3, 18, 0, 0), (18, .bipush 40, 20, 0, 0), (20, .if_icmp .le 6, 23, 26, 0), (23, .ldc 56, 25, 0, (-1000001)), (25, .ireturn, 26, 0, 0), (26, .iload_n 3, 27, 0, 0), (27, .ifCond .ge 9, 30, 36, 0), (30, .aload_n 0, 31, 0, 0), (31, .iconst 4, 32, 0, 0), (32, .invokevirtual 57, 35, 85, 18), (35, .ireturn, 36, 0, 0), (36, .aload_n 0, 37, 0, 0), (37, .getfield 11, 40, 0, 18), (40, .iload_n 1, 41, 0, 0), (41, .aaload, 42, 0, 0), (42, .iload_n 2, 43, 0, 0), (43, .iload_n 3, 44, 0, 0), (44, .invokevirtual 61, 47, 32, 15), (47, .aload_n 0, 48, 0, 0), (48, .iload_n 3, 49, 0, 0), (49, .invokevirtual 65, 52, 86, 18), (52, .ireturn, 53, 0, 0)]
def mt_X8_sheet : pm_T := (RX8, yX8_sheet, cX8_sheet, 4, (some .int), 4, gm_X8_sheet)
def gm_X8_set : List pe_T := [(0, .iload_n 1, 1, 0, 0), (1, .bipush 8, 3, 0, 0), (3, .invokestatic 52, 6, 88, 0), (6, .ifCond .ne 6, 9, 12, 0), (9, .ldc 56, 11, 0, (-1000001)), (11, .ireturn, 12, 0, 0), (12, .aload_n 0, 13, 0, 0), (13, .getfield 11, 16, 0, 18), (16, .iload_n 1, 17, 0, 0), (17, .aaload, 18, 0, 0), (18, .astore 4, 20, 0, 0), (20, .aload 4, 22, 0, 0), (22, .getfield 68, 25, 1, 15), (25, .ifCond .ne 9, 28, 34, 0), (28, .aload_n 0, 29, 0, 0), (29, .iconst 1, 30, 0, 0), (30, .invokevirtual 57, 33, 85, 18), (33, .ireturn, 34, 0, 0), (34, .iload_n 2, 35, 0, 0), (35, .aload 4, 37, 0, 0), (37, .getfield 72, 40, 3, 15), (40, .invokestatic 52, 43, 88, 0), (43, .ifCond .ne 9, 46, 52, 0), (46, .aload_n 0, 47, 0, 0), (47, .iconst 2, 48, 0, 0), (48, .invokevirtual 57, 51, 85, 18), (51, .ireturn, 52, 0, 0), (52, .aload 4, 54, 0, 0), (54, .getfield 76, 57, 0, 15), (57, .iload_n 2, 58, 0, 0), (58, .aload 4, 60, 0, 0), (60, .iload_n 3, 61, 0, 0), (61, .invokevirtual 79, 64, 33, 15), (64, .iastore, 65, 0, 0), (65, .aload_n 0, 66, 0, 0), (66, .aload 4, 68, 0, 0), (68, .getfield 76, 71, 0, 15), (71, .iload_n 2, 72, 0, 0), (72, .iaload, 73, 0, 0), (73, .invokevirtual 65, 76, 86, 18), (76, .ireturn, 77, 0, 0)]
def mt_X8_set : pm_T := (RX8, yX8_set, cX8_set, 5, (some .int), 4, gm_X8_set)
def gm_X8_copy : List pe_T := [(0, .iload_n 1, 1, 0, 0), (1, .bipush 8, 3, 0, 0), (3, .invokestatic 52, 6, 88, 0), (6, .ifCond .eq 12, 9, 18, 0), (9, .iload_n 3, 10, 0, 0), (10, .bipush 8, 12, 0, 0), (12, .invokestatic 52, 15, 88, 0), (15, .ifCond .ne 6, 18, 21, 0), (18, .ldc 56, 20, 0, (-1000001)), (20, .ireturn, 21, 0, 0), (21, .aload_n 0, 22, 0, 0), (22, .getfield 11, 25, 0, 18), (25, .iload_n 1, 26, 0, 0), (26, .aaload, 27, 0, 0), (27, .astore 6, 29, 0, 0), (29, .aload_n 0, 30, 0, 0), (30, .getfield 11, 33, 0, 18), (33, .iload_n 3, 34, 0, 0), (34, .aaload, 35, 0, 0), (35, .astore 7, 37, 0, 0), (37, .aload 6, 39, 0, 0), (39, .getfield 68, 42, 1, 15), (42, .ifCond .eq 11, 45, 53, 0), (45, .aload 7, 47, 0, 0), (47, .getfield 68, 50, 1, 15), (50, .ifCond .ne 9, 53, 59, 0), (53, .aload_n 0, 54, 0, 0), (54, .iconst 1, 55, 0, 0), (55, .invokevirtual 57, 58, 85, 18), (58, .ireturn, 59, 0, 0), (59, .aload 6, 61, 0, 0), (61, .getfield 82, 64, 2, 15), (64, .aload 7, 66, 0, 0), (66, .getfield 82, 69, 2, 15), (69, .if_icmp .eq 9, 72, 78, 0), (72, .aload_n 0, 73, 0, 0), (73, .iconst 5, 74, 0, 0), (74, .invokevirtual 57, 77, 85, 18), (77, .ireturn, 78, 0, 0), (78, .aload 6, 80, 0, 0), (80, .iload_n 2, 81, 0, 0), (81, .iload 5, 83, 0, 0), (83, .invokevirtual 85, 86, 34, 15), (86, .ifCond .eq 15, 89, 101, 0), (89, .aload 7, 91, 0, 0), (91, .iload 4, 93, 0, 0), (93, .iload 5, 95, 0, 0), (95, .invokevirtual 85, 98, 34, 15), (98, .ifCond .ne 9, 101, 107, 0), (101, .aload_n 0, 102, 0, 0), (102, .iconst 2, 103, 0, 0), (103, .invokevirtual 57, 106, 85, 18), (106, .ireturn, 107, 0, 0), (107, .aload 6, 109, 0, 0), (109, .getfield 76, 112, 0, 15), (112, .iload_n 2, 113, 0, 0), (113, .aload 7, 115, 0, 0), (115, .getfield 76, 118, 0, 15), (118, .iload 4, 120, 0, 0), (120, .iload 5, 122, 0, 0), (122, .invokestatic 88, 125, 1001, 0), (125, .aload_n 0, 126, 0, 0), (126, .iload 5, 128, 0, 0), (128, .invokevirtual 65, 131, 86, 18), (131, .ireturn, 132, 0, 0)]
def mt_X8_copy : pm_T := (RX8, yX8_copy, cX8_copy, 8, (some .int), 6, gm_X8_copy)
def gm_X8_drop : List pe_T := [(0, .iload_n 1, 1, 0, 0), (1, .bipush 8, 3, 0, 0), (3, .invokestatic 52, 6, 88, 0), (6, .ifCond .ne 6, 9, 12, 0), (9, .ldc 56, 11, 0, (-1000001)), (11, .ireturn, 12, 0, 0), (12, .aload_n 0, 13, 0, 0), (13, .getfield 11, 16, 0, 18), (16, .iload_n 1, 17, 0, 0), (17, .aaload, 18, 0, 0), (18, .astore_n 2, 19, 0, 0), (19, .aload_n 2, 20, 0, 0), (20, .getfield 68, 23, 1, 15), (23, .ifCond .ne 9, 26, 32, 0), (26, .aload_n 0, 27, 0, 0), (27, .iconst 1, 28, 0, 0), (28, .invokevirtual 57, 31, 85, 18), (31, .ireturn, 32, 0, 0), (32, .aload_n 2, 33, 0, 0), (33, .iconst 0, 34, 0, 0), (34, .putfield 68, 37, 1, 15), (37, .aload_n 0, 38, 0, 0), (38, .aload_n 2, 39, 0, 0), (39, .getfield 72, 42, 3, 15), (42, .invokevirtual 65, 45, 86, 18), (45, .ireturn, 46, 0, 0)]
def mt_X8_drop : pm_T := (RX8, yX8_drop, cX8_drop, 3, (some .int), 2, gm_X8_drop)
def gm_X8_feed : List pe_T := [(0, .iload_n 3, 1, 0, 0), (1, .iconst 1, 2, 0, 0), (2, .if_icmp .lt 9, 5, 11, 0), (5, .iload_n 3, 6, 0, 0), (6, .bipush 8, 8, 0, 0), (8, .if_icmp .le 6, 11, 14, 0), (11, .ldc 56, 13, 0, (-1000001)), (13, .ireturn, 14, 0, 0), (14, .aload_n 0, 15, 0, 0), (15, .getfield 19, 18, 1, 18), (18, .getfield 94, 21, 3, 16), (21, .iload_n 3, 22, 0, 0), (22, .iadd, 23, 0, 0), (23, .sipush 500, 26, 0, 0), (26, .if_icmp .le 6, 29, 32, 0), (29, .ldc 97, 31, 0, (-1000003)), (31, .ireturn, 32, 0, 0), (32, .iload_n 3, 33, 0, 0), (33, .iconst 1, 34, 0, 0), (34, .isub, 35, 0, 0), (35, .istore 4, 37, 0, 0), (37, .iload 4, 39, 0, 0), (39, .ifCond .lt 46, 42, 85, 0), (42, .aload_n 0, 43, 0, 0), (43, .getfield 19, 46, 1, 18), (46, .getfield 98, 49, 0, 16), (49, .aload_n 0, 50, 0, 0), (50, .getfield 19, 53, 1, 18), (53, .getfield 94, 56, 3, 16), (56, .lload_n 1, 57, 0, 0), (57, .bipush 8, 59, 0, 0), (59, .iload 4, 61, 0, 0), (61, .imul, 62, 0, 0), (62, .lshr, 63, 0, 0), (63, .l2i, 64, 0, 0), (64, .i2b, 65, 0, 0), (65, .bastore, 66, 0, 0), (66, .aload_n 0, 67, 0, 0), (67, .getfield 19, 70, 1, 18), (70, .dup, 71, 0, 0), (71, .getfield 94, 74, 3, 16), (74, .iconst 1, 75, 0, 0), (75, .iadd, 76, 0, 0), (76, .putfield 94, 79, 3, 16), (79, .iinc 4 (-1), 82, 0, 0), (82, .goto (-45), 85, 37, 0), (85, .aload_n 0, 86, 0, 0), (86, .getfield 19, 89, 1, 18), (89, .getfield 94, 92, 3, 16), (92, .ireturn, 93, 0, 0)]
def mt_X8_feed : pm_T := (RX8, yX8_feed, cX8_feed, 5, (some .int), 3, gm_X8_feed)
def gm_X8_laws : List pe_T := [(0, .aload_n 0, 1, 0, 0), (1, .getfield 19, 4, 1, 18), (4, .invokevirtual 102, 7, 36, 16), (7, .aload_n 0, 8, 0, 0), (8, .getfield 19, 11, 1, 18), (11, .iconst 0, 12, 0, 0), (12, .putfield 94, 15, 3, 16), (15, .aload_n 0, 16, 0, 0), (16, .getfield 35, 19, 3, 18), (19, .invokevirtual 105, 22, 14, 13), (22, .aload_n 0, 23, 0, 0), (23, .getfield 35, 26, 3, 18), (26, .getfield 108, 29, 4, 13), (29, .ifCond .eq 25, 32, 54, 0), (32, .aload_n 0, 33, 0, 0), (33, .aload_n 0, 34, 0, 0), (34, .getfield 35, 37, 3, 18), (37, .getfield 108, 40, 4, 13), (40, .putfield 111, 43, 7, 18), (43, .ldc 114, 45, 0, (-1000100)), (45, .aload_n 0, 46, 0, 0), (46, .getfield 35, 49, 3, 18), (49, .invokevirtual 115, 52, 13, 13), (52, .isub, 53, 0, 0), (53, .ireturn, 54, 0, 0), (54, .aload_n 0, 55, 0, 0), (55, .getfield 26, 58, 2, 18), (58, .aload_n 0, 59, 0, 0), (59, .getfield 35, 62, 3, 18), (62, .getfield 119, 65, 2, 13), (65, .invokevirtual 123, 68, 48, 17), (68, .aload_n 0, 69, 0, 0), (69, .getfield 26, 72, 2, 18), (72, .getfield 127, 75, 0, 17), (75, .getfield 130, 78, 4, 12), (78, .ireturn, 79, 0, 0)]
def mt_X8_laws : pm_T := (RX8, yX8_laws, cX8_laws, 1, (some .int), 1, gm_X8_laws)
def gm_X8_fault : List pe_T := [(0, .aload_n 0, 1, 0, 0), (1, .getfield 111, 4, 7, 18), (4, .ireturn, 5, 0, 0)]
def mt_X8_fault : pm_T := (RX8, yX8_fault, cX8_fault, 1, (some .int), 1, gm_X8_fault)
def gm_X8_editions : List pe_T := [(0, .iload_n 1, 1, 0, 0), (1, .iconst 4, 2, 0, 0), (2, .invokestatic 52, 5, 88, 0), (5, .ifCond .eq 18, 8, 23, 0), (8, .aload_n 0, 9, 0, 0), (9, .getfield 26, 12, 2, 18), (12, .getfield 127, 15, 0, 17), (15, .getfield 135, 18, 0, 12), (18, .iload_n 1, 19, 0, 0), (19, .iaload, 20, 0, 0), (20, .goto 5, 23, 25, 0), (23, .ldc 56, 25, 0, (-1000001)), (25, .ireturn, 26, 0, 0)]
def mt_X8_editions : pm_T := (RX8, yX8_editions, cX8_editions, 2, (some .int), 2, gm_X8_editions)
def gm_X8_answer : List pe_T := [(0, .aload_n 0, 1, 0, 0), (1, .getfield 26, 4, 2, 18), (4, .iload_n 1, 5, 0, 0), (5, .iload_n 2, 6, 0, 0), (6, .invokevirtual 138, 9, 46, 17), (9, .ifCond .eq 21, 12, 30, 0), (12, .iload_n 3, 13, 0, 0), (13, .iload 4, 15, 0, 0), (15, .invokestatic 141, 18, 89, 0), (18, .ifCond .eq 12, 21, 30, 0), (21, .iload 5, 23, 0, 0), (23, .iconst 5, 24, 0, 0), (24, .invokestatic 52, 27, 88, 0), (27, .ifCond .ne 6, 30, 33, 0), (30, .ldc 56, 32, 0, (-1000001)), (32, .ireturn, 33, 0, 0), (33, .aload_n 0, 34, 0, 0), (34, .getfield 26, 37, 2, 18), (37, .iload_n 1, 38, 0, 0), (38, .iload_n 2, 39, 0, 0), (39, .invokevirtual 144, 42, 47, 17), (42, .getfield 148, 45, 0, 10), (45, .iload_n 3, 46, 0, 0), (46, .iload 4, 48, 0, 0), (48, .invokestatic 153, 51, 90, 0), (51, .iaload, 52, 0, 0), (52, .istore 6, 54, 0, 0), (54, .iload 6, 56, 0, 0), (56, .ldc 157, 58, 0, 268435456), (58, .if_icmp .ne 7, 61, 65, 0), (61, .iconst 1, 62, 0, 0), (62, .goto 4, 65, 66, 0), (65, .iconst 0, 66, 0, 0), (66, .istore 7, 68, 0, 0), (68, .iload 5, 70, 0, 0), (70, .iconst 4, 71, 0, 0), (71, .if_icmp .ne 14, 74, 85, 0), (74, .iload 7, 76, 0, 0), (76, .ifCond .eq 7, 79, 83, 0), (79, .iconst 1, 80, 0, 0), (80, .goto 4, 83, 84, 0), (83, .iconst 0, 84, 0, 0), (84, .ireturn, 85, 0, 0), (85, .iload 7, 87, 0, 0), (87, .ifCond .eq 8, 90, 95, 0), (90, .ldc 158, 92, 0, (-1000000)), (92, .goto 14, 95, 106, 0), (95, .iload 6, 97, 0, 0), (97, .iload 5, 99, 0, 0), (99, .invokestatic 159, 102, 94, 0), (102, .iconst 0, 103, 0, 0), (103, .invokestatic 162, 106, 98, 0), (106, .ireturn, 107, 0, 0)]
def mt_X8_answer : pm_T := (RX8, yX8_answer, cX8_answer, 8, (some .int), 6, gm_X8_answer)
def gm_X8_saying : List pe_T := [(0, .aload_n 0, 1, 0, 0), (1, .getfield 26, 4, 2, 18), (4, .iload_n 1, 5, 0, 0), (5, .invokevirtual 165, 8, 45, 17), (8, .ifCond .ne 6, 11, 14, 0), (11, .ldc 56, 13, 0, (-1000001)), (13, .ireturn, 14, 0, 0), (14, .aload_n 0, 15, 0, 0), (15, .getfield 26, 18, 2, 18), (18, .getfield 169, 21, 1, 17), (21, .iload_n 1, 22, 0, 0), (22, .aaload, 23, 0, 0), (23, .astore_n 3, 24, 0, 0), (24, .iload_n 2, 25, 0, 0), (25, .tableswitch 97 0 7 #[47, 52, 57, 62, 67, 72, 77, 92], 72, 0, 0), (72, .aload_n 3, 73, 0, 0), (73, .getfield 172, 76, 0, 14), (76, .ireturn, 77, 0, 0), (77, .aload_n 3, 78, 0, 0), (78, .getfield 177, 81, 1, 14), (81, .ireturn, 82, 0, 0), (82, .aload_n 3, 83, 0, 0), (83, .getfield 180, 86, 2, 14), (86, .ireturn, 87, 0, 0), (87, .aload_n 3, 88, 0, 0), (88, .getfield 183, 91, 3, 14), (91, .ireturn, 92, 0, 0), (92, .aload_n 3, 93, 0, 0), (93, .getfield 186, 96, 4, 14), (96, .ireturn, 97, 0, 0), (97, .aload_n 3, 98, 0, 0), (98, .getfield 189, 101, 5, 14), (101, .ireturn, 102, 0, 0), (102, .aload_n 3, 103, 0, 0), (103, .getfield 192, 106, 8, 14), (106, .ldc 157, 108, 0, 268435456), (108, .if_icmp .ne 7, 111, 115, 0), (111, .iconst 1, 112, 0, 0), (112, .goto 4, 115, 116, 0), (115, .iconst 0, 116, 0, 0), (116, .ireturn, 117, 0, 0), (117, .aload_n 3, 118, 0, 0), (118, .getfield 195, 121, 6, 14), (121, .ireturn, 122, 0, 0), (122, .ldc 56, 124, 0, (-1000001)), (124, .ireturn, 125, 0, 0)]
def mt_X8_saying : pm_T := (RX8, yX8_saying, cX8_saying, 4, (some .int), 3, gm_X8_saying)
def gm_X8_play : List pe_T := [(0, .aload_n 0, 1, 0, 0), (1, .getfield 26, 4, 2, 18), (4, .iload_n 1, 5, 0, 0), (5, .invokevirtual 165, 8, 45, 17), (8, .ifCond .eq 11, 11, 19, 0), (11, .iload_n 3, 12, 0, 0), (12, .iconst 2, 13, 0, 0), (13, .invokestatic 52, 16, 88, 0), (16, .ifCond .ne 6, 19, 22, 0), (19, .ldc 56, 21, 0, (-1000001)), (21, .ireturn, 22, 0, 0), (22, .aload_n 0, 23, 0, 0), (23, .getfield 26, 26, 2, 18), (26, .getfield 169, 29, 1, 17), (29, .iload_n 1, 30, 0, 0), (30, .aaload, 31, 0, 0), (31, .astore 4, 33, 0, 0), (33, .aload_n 0, 34, 0, 0), (34, .getfield 26, 37, 2, 18), (37, .aload 4, 39, 0, 0), (39, .getfield 180, 42, 2, 14), (42, .iload_n 2, 43, 0, 0), (43, .invokevirtual 138, 46, 46, 17), (46, .ifCond .ne 6, 49, 52, 0), (49, .ldc 56, 51, 0, (-1000001)), (51, .ireturn, 52, 0, 0), (52, .aload_n 0, 53, 0, 0), (53, .getfield 26, 56, 2, 18), (56, .aload 4, 58, 0, 0), (58, .getfield 180, 61, 2, 14), (61, .iload_n 2, 62, 0, 0), (62, .invokevirtual 144, 65, 47, 17), (65, .astore 5, 67, 0, 0), (67, .aload 4, 69, 0, 0), (69, .aload 5, 71, 0, 0), (71, .invokestatic 198, 74, 100, 0), (74, .istore 6, 76, 0, 0), (76, .iload_n 3, 77, 0, 0), (77, .ifCond .ne 16, 80, 93, 0), (80, .iload 6, 82, 0, 0), (82, .ldc 158, 84, 0, (-1000000)), (84, .if_icmp .ne 7, 87, 91, 0), (87, .iconst 1, 88, 0, 0), (88, .goto 4, 91, 92, 0), (91, .iconst 0, 92, 0, 0), (92, .ireturn, 93, 0, 0), (93, .iload 6, 95, 0, 0), (95, .ldc 158, 97, 0, (-1000000)), (97, .if_icmp .ne 6, 100, 103, 0), (100, .ldc 158, 102, 0, (-1000000)), (102, .ireturn, 103, 0, 0), (103, .bipush 64, 105, 0, 0), (105, .iload 6, 107, 0, 0), (107, .iconst 3, 108, 0, 0), (108, .idiv, 109, 0, 0), (109, .imul, 110, 0, 0), (110, .bipush 8, 112, 0, 0), (112, .iload 6, 114, 0, 0), (114, .iconst 3, 115, 0, 0), (115, .irem, 116, 0, 0), (116, .imul, 117, 0, 0), (117, .iadd, 118, 0, 0), (118, .aload 5, 120, 0, 0), (120, .getfield 148, 123, 0, 10), (123, .iload 6, 125, 0, 0), (125, .iaload, 126, 0, 0), (126, .aload 4, 128, 0, 0), (128, .getfield 192, 131, 8, 14), (131, .invokestatic 202, 134, 101, 0), (134, .iadd, 135, 0, 0), (135, .ireturn, 136, 0, 0)]
def mt_X8_play : pm_T := (RX8, yX8_play, cX8_play, 7, (some .int), 4, gm_X8_play)
def gm_X8_standIn : List pe_T := [(0, .iload_n 1, 1, 0, 0), (1, .iconst 4, 2, 0, 0), (2, .invokestatic 52, 5, 88, 0), (5, .ifCond .eq 19, 8, 24, 0), (8, .iload_n 2, 9, 0, 0), (9, .iconst 4, 10, 0, 0), (10, .invokestatic 52, 13, 88, 0), (13, .ifCond .eq 11, 16, 24, 0), (16, .iload_n 3, 17, 0, 0), (17, .iconst 4, 18, 0, 0), (18, .invokestatic 52, 21, 88, 0), (21, .ifCond .ne 6, 24, 27, 0), (24, .ldc 56, 26, 0, (-1000001)), (26, .ireturn, 27, 0, 0), (27, .iload_n 1, 28, 0, 0), (28, .iload_n 3, 29, 0, 0), (29, .if_icmp .eq 19, 32, 48, 0), (32, .iload 4, 34, 0, 0), (34, .iload 5, 36, 0, 0), (36, .invokestatic 141, 39, 89, 0), (39, .ifCond .eq 9, 42, 48, 0), (42, .iload 6, 44, 0, 0), (44, .iconst (-1), 45, 0, 0), (45, .if_icmp .ge 6, 48, 51, 0), (48, .ldc 56, 50, 0, (-1000001)), (50, .ireturn, 51, 0, 0), (51, .aload_n 0, 52, 0, 0), (52, .getfield 26, 55, 2, 18), (55, .iload_n 1, 56, 0, 0), (56, .iload_n 2, 57, 0, 0), (57, .iload_n 3, 58, 0, 0), (58, .iload 4, 60, 0, 0), (60, .iload 5, 62, 0, 0), (62, .invokestatic 153, 65, 90, 0), (65, .invokevirtual 205, 68, 53, 17), (68, .istore 7, 70, 0, 0), (70, .iload 7, 72, 0, 0), (72, .invokestatic 209, 75, 96, 0), (75, .istore 8, 77, 0, 0), (77, .iload 7, 79, 0, 0), (79, .ldc 157, 81, 0, 268435456), (81, .iand, 82, 0, 0), (82, .ifCond .eq 10, 85, 92, 0), (85, .iload 8, 87, 0, 0), (87, .iconst 1, 88, 0, 0), (88, .iadd, 89, 0, 0), (89, .goto 5, 92, 94, 0), (92, .iload 8, 94, 0, 0), (94, .istore 9, 96, 0, 0), (96, .iload 6, 98, 0, 0), (98, .iconst (-1), 99, 0, 0), (99, .if_icmp .ne 6, 102, 105, 0), (102, .iload 9, 104, 0, 0), (104, .ireturn, 105, 0, 0), (105, .iload 6, 107, 0, 0), (107, .iload 9, 109, 0, 0), (109, .if_icmp .lt 6, 112, 115, 0), (112, .ldc 158, 114, 0, (-1000000)), (114, .ireturn, 115, 0, 0), (115, .iload 6, 117, 0, 0), (117, .iload 8, 119, 0, 0), (119, .if_icmp .ge 13, 122, 132, 0), (122, .iload 7, 124, 0, 0), (124, .iload 6, 126, 0, 0), (126, .invokestatic 212, 129, 97, 0), (129, .goto 6, 132, 135, 0), (132, .sipush 2401, 135, 0, 0), (135, .ireturn, 136, 0, 0)]
def mt_X8_standIn : pm_T := (RX8, yX8_standIn, cX8_standIn, 10, (some .int), 7, gm_X8_standIn)
def gm_X8_allows : List pe_T := [(0, .aload_n 0, 1, 0, 0), (1, .getfield 26, 4, 2, 18), (4, .iload_n 1, 5, 0, 0), (5, .invokevirtual 165, 8, 45, 17), (8, .ifCond .eq 25, 11, 33, 0), (11, .iload_n 2, 12, 0, 0), (12, .bipush 8, 14, 0, 0), (14, .invokestatic 52, 17, 88, 0), (17, .ifCond .eq 16, 20, 33, 0), (20, .iload 4, 22, 0, 0), (22, .iconst 1, 23, 0, 0), (23, .if_icmp .lt 10, 26, 33, 0), (26, .iload 4, 28, 0, 0), (28, .bipush 20, 30, 0, 0), (30, .if_icmp .le 6, 33, 36, 0), (33, .ldc 56, 35, 0, (-1000001)), (35, .ireturn, 36, 0, 0), (36, .aload_n 0, 37, 0, 0), (37, .getfield 11, 40, 0, 18), (40, .iload_n 2, 41, 0, 0), (41, .aaload, 42, 0, 0), (42, .astore 5, 44, 0, 0), (44, .aload 5, 46, 0, 0), (46, .getfield 68, 49, 1, 15), (49, .ifCond .ne 9, 52, 58, 0), (52, .aload_n 0, 53, 0, 0), (53, .iconst 1, 54, 0, 0), (54, .invokevirtual 57, 57, 85, 18), (57, .ireturn, 58, 0, 0), (58, .aload 5, 60, 0, 0), (60, .iload_n 3, 61, 0, 0), (61, .iload 4, 63, 0, 0), (63, .invokevirtual 85, 66, 34, 15), (66, .ifCond .ne 9, 69, 75, 0), (69, .aload_n 0, 70, 0, 0), (70, .iconst 2, 71, 0, 0), (71, .invokevirtual 57, 74, 85, 18), (74, .ireturn, 75, 0, 0), (75, .iconst 0, 76, 0, 0), (76, .istore 6, 78, 0, 0), (78, .iload_n 3, 79, 0, 0), (79, .istore 7, 81, 0, 0), (81, .iload 7, 83, 0, 0), (83, .iload_n 3, 84, 0, 0), (84, .iload 4, 86, 0, 0), (86, .iadd, 87, 0, 0), (87, .if_icmp .ge 61, 90, 148, 0), (90, .aload 5, 92, 0, 0), (92, .getfield 76, 95, 0, 15), (95, .iload 7, 97, 0, 0), (97, .iaload, 98, 0, 0), (98, .sipush 2402, 101, 0, 0), (101, .invokestatic 52, 104, 88, 0), (104, .ifCond .ne 6, 107, 110, 0), (107, .ldc 56, 109, 0, (-1000001)), (109, .ireturn, 110, 0, 0), (110, .aload 5, 112, 0, 0), (112, .getfield 76, 115, 0, 15), (115, .iload 7, 117, 0, 0), (117, .iaload, 118, 0, 0), (118, .invokestatic 215, 121, 95, 0), (121, .aload_n 0, 122, 0, 0), (122, .getfield 26, 125, 2, 18), (125, .getfield 169, 128, 1, 17), (128, .iload_n 1, 129, 0, 0), (129, .aaload, 130, 0, 0), (130, .getfield 192, 133, 8, 14), (133, .invokestatic 218, 136, 92, 0), (136, .ifCond .eq 6, 139, 142, 0), (139, .iinc 6 1, 142, 0, 0), (142, .iinc 7 1, 145, 0, 0), (145, .goto (-64), 148, 81, 0), (148, .aload_n 0, 149, 0, 0), (149, .iload 6, 151, 0, 0), (151, .invokevirtual 65, 154, 86, 18), (154, .ireturn, 155, 0, 0)]
def mt_X8_allows : pm_T := (RX8, yX8_allows, cX8_allows, 8, (some .int), 5, gm_X8_allows)
def gm_X8_noMore : List pe_T := [(0, .aload_n 0, 1, 0, 0), (1, .getfield 26, 4, 2, 18), (4, .iload_n 1, 5, 0, 0), (5, .invokevirtual 165, 8, 45, 17), (8, .ifCond .eq 14, 11, 22, 0), (11, .aload_n 0, 12, 0, 0), (12, .getfield 26, 15, 2, 18), (15, .iload_n 2, 16, 0, 0), (16, .invokevirtual 165, 19, 45, 17), (19, .ifCond .ne 6, 22, 25, 0), (22, .ldc 56, 24, 0, (-1000001)), (24, .ireturn, 25, 0, 0), (25, .aload_n 0, 26, 0, 0), (26, .getfield 26, 29, 2, 18), (29, .getfield 169, 32, 1, 17), (32, .iload_n 1, 33, 0, 0), (33, .aaload, 34, 0, 0), (34, .astore_n 3, 35, 0, 0), (35, .aload_n 0, 36, 0, 0), (36, .getfield 26, 39, 2, 18), (39, .getfield 169, 42, 1, 17), (42, .iload_n 2, 43, 0, 0), (43, .aaload, 44, 0, 0), (44, .astore 4, 46, 0, 0), (46, .aload_n 3, 47, 0, 0), (47, .getfield 180, 50, 2, 14), (50, .aload 4, 52, 0, 0), (52, .getfield 180, 55, 2, 14), (55, .if_icmp .eq 6, 58, 61, 0), (58, .ldc 221, 60, 0, (-1000002)), (60, .ireturn, 61, 0, 0), (61, .aload_n 3, 62, 0, 0), (62, .getfield 222, 65, 7, 14), (65, .aload 4, 67, 0, 0), (67, .getfield 222, 70, 7, 14), (70, .invokestatic 218, 73, 92, 0), (73, .ifCond .eq 22, 76, 95, 0), (76, .aload 4, 78, 0, 0), (78, .getfield 192, 81, 8, 14), (81, .aload_n 3, 82, 0, 0), (82, .getfield 192, 85, 8, 14), (85, .invokestatic 218, 88, 92, 0), (88, .ifCond .eq 7, 91, 95, 0), (91, .iconst 1, 92, 0, 0), (92, .goto 4, 95, 96, 0), (95, .iconst 0, 96, 0, 0), (96, .ireturn, 97, 0, 0)]
def mt_X8_noMore : pm_T := (RX8, yX8_noMore, cX8_noMore, 5, (some .int), 3, gm_X8_noMore)
def gm_X8_quarrel : List pe_T := [(0, .iload_n 1, 1, 0, 0), (1, .iconst 4, 2, 0, 0), (2, .invokestatic 52, 5, 88, 0), (5, .ifCond .eq 15, 8, 20, 0), (8, .aload_n 0, 9, 0, 0), (9, .getfield 26, 12, 2, 18), (12, .getfield 225, 15, 3, 17), (15, .iload_n 1, 16, 0, 0), (16, .iaload, 17, 0, 0), (17, .goto 5, 20, 22, 0), (20, .ldc 56, 22, 0, (-1000001)), (22, .ireturn, 23, 0, 0)]
def mt_X8_quarrel : pm_T := (RX8, yX8_quarrel, cX8_quarrel, 2, (some .int), 2, gm_X8_quarrel)
def gm_X8_change : List pe_T := [(0, .aload_n 0, 1, 0, 0), (1, .getfield 26, 4, 2, 18), (4, .iload_n 1, 5, 0, 0), (5, .iload_n 2, 6, 0, 0), (6, .invokevirtual 138, 9, 46, 17), (9, .ifCond .eq 15, 12, 24, 0), (12, .aload_n 0, 13, 0, 0), (13, .getfield 26, 16, 2, 18), (16, .iload_n 1, 17, 0, 0), (17, .iload_n 3, 18, 0, 0), (18, .invokevirtual 138, 21, 46, 17), (21, .ifCond .ne 6, 24, 27, 0), (24, .ldc 56, 26, 0, (-1000001)), (26, .ireturn, 27, 0, 0), (27, .aload_n 0, 28, 0, 0), (28, .getfield 26, 31, 2, 18), (31, .iload_n 1, 32, 0, 0), (32, .iload_n 2, 33, 0, 0), (33, .invokevirtual 144, 36, 47, 17), (36, .getfield 228, 39, 1, 10), (39, .aload_n 0, 40, 0, 0), (40, .getfield 26, 43, 2, 18), (43, .iload_n 1, 44, 0, 0), (44, .iload_n 3, 45, 0, 0), (45, .invokevirtual 144, 48, 47, 17), (48, .getfield 228, 51, 1, 10), (51, .iconst (-1), 52, 0, 0), (52, .ixor, 53, 0, 0), (53, .iand, 54, 0, 0), (54, .ireturn, 55, 0, 0)]
def mt_X8_change : pm_T := (RX8, yX8_change, cX8_change, 4, (some .int), 4, gm_X8_change)
def gm_X8_right : List pe_T := [(0, .aload_n 0, 1, 0, 0), (1, .getfield 26, 4, 2, 18), (4, .iload_n 1, 5, 0, 0), (5, .invokevirtual 165, 8, 45, 17), (8, .ifCond .ne 6, 11, 14, 0), (11, .ldc 56, 13, 0, (-1000001)), (13, .ireturn, 14, 0, 0), (14, .aload_n 0, 15, 0, 0), (15, .getfield 26, 18, 2, 18), (18, .getfield 169, 21, 1, 17), (21, .iload_n 1, 22, 0, 0), (22, .aaload, 23, 0, 0), (23, .astore_n 2, 24, 0, 0), (24, .aload_n 2, 25, 0, 0), (25, .getfield 195, 28, 6, 14), (28, .aload_n 0, 29, 0, 0), (29, .getfield 26, 32, 2, 18), (32, .getfield 127, 35, 0, 17), (35, .getfield 231, 38, 1, 12), (38, .aload_n 2, 39, 0, 0), (39, .getfield 172, 42, 0, 14), (42, .iconst 4, 43, 0, 0), (43, .imul, 44, 0, 0), (44, .aload_n 2, 45, 0, 0), (45, .getfield 177, 48, 1, 14), (48, .iadd, 49, 0, 0), (49, .iaload, 50, 0, 0), (50, .iconst (-1), 51, 0, 0), (51, .ixor, 52, 0, 0), (52, .iand, 53, 0, 0), (53, .ireturn, 54, 0, 0)]
def mt_X8_right : pm_T := (RX8, yX8_right, cX8_right, 3, (some .int), 2, gm_X8_right)
def gm_X8_house : List pe_T := [(0, .aload_n 0, 1, 0, 0), (1, .getfield 44, 4, 4, 18), (4, .iload_n 1, 5, 0, 0), (5, .invokevirtual 234, 8, 2, 11), (8, .ifCond .eq 11, 11, 19, 0), (11, .iload_n 2, 12, 0, 0), (12, .iconst 2, 13, 0, 0), (13, .invokestatic 52, 16, 88, 0), (16, .ifCond .ne 6, 19, 22, 0), (19, .ldc 56, 21, 0, (-1000001)), (21, .ireturn, 22, 0, 0), (22, .aload_n 0, 23, 0, 0), (23, .getfield 44, 26, 4, 18), (26, .iload_n 1, 27, 0, 0), (27, .invokevirtual 237, 30, 4, 11), (30, .istore_n 3, 31, 0, 0), (31, .iload_n 2, 32, 0, 0), (32, .ifCond .ne 15, 35, 47, 0), (35, .iload_n 3, 36, 0, 0), (36, .ldc 158, 38, 0, (-1000000)), (38, .if_icmp .ne 7, 41, 45, 0), (41, .iconst 1, 42, 0, 0), (42, .goto 4, 45, 46, 0), (45, .iconst 0, 46, 0, 0), (46, .ireturn, 47, 0, 0), (47, .iload_n 3, 48, 0, 0), (48, .ireturn, 49, 0, 0)]
def mt_X8_house : pm_T := (RX8, yX8_house, cX8_house, 4, (some .int), 3, gm_X8_house)
def gm_X8_letOut : List pe_T := [(0, .aload_n 0, 1, 0, 0), (1, .getfield 44, 4, 4, 18), (4, .iload_n 1, 5, 0, 0), (5, .invokevirtual 234, 8, 2, 11), (8, .ifCond .eq 22, 11, 30, 0), (11, .aload_n 0, 12, 0, 0), (12, .getfield 44, 15, 4, 18), (15, .iload_n 2, 16, 0, 0), (16, .invokevirtual 234, 19, 2, 11), (19, .ifCond .eq 11, 22, 30, 0), (22, .iload_n 3, 23, 0, 0), (23, .iconst 2, 24, 0, 0), (24, .invokestatic 52, 27, 88, 0), (27, .ifCond .ne 6, 30, 33, 0), (30, .ldc 56, 32, 0, (-1000001)), (32, .ireturn, 33, 0, 0), (33, .aload_n 0, 34, 0, 0), (34, .getfield 44, 37, 4, 18), (37, .iload_n 2, 38, 0, 0), (38, .invokevirtual 240, 41, 5, 11), (41, .iload_n 3, 42, 0, 0), (42, .ifCond .ne 14, 45, 56, 0), (45, .aload_n 0, 46, 0, 0), (46, .getfield 44, 49, 4, 18), (49, .iload_n 1, 50, 0, 0), (50, .invokevirtual 244, 53, 8, 11), (53, .goto 11, 56, 64, 0), (56, .aload_n 0, 57, 0, 0), (57, .getfield 44, 60, 4, 18), (60, .iload_n 1, 61, 0, 0), (61, .invokevirtual 247, 64, 9, 11), (64, .ireturn, 65, 0, 0)]
def mt_X8_letOut : pm_T := (RX8, yX8_letOut, cX8_letOut, 4, (some .int), 4, gm_X8_letOut)
def gm_X8_hours : List pe_T := [(0, .iload_n 1, 1, 0, 0), (1, .iconst 4, 2, 0, 0), (2, .invokestatic 52, 5, 88, 0), (5, .ifCond .eq 18, 8, 23, 0), (8, .aload_n 0, 9, 0, 0), (9, .getfield 26, 12, 2, 18), (12, .getfield 127, 15, 0, 17), (15, .iload_n 1, 16, 0, 0), (16, .iconst 0, 17, 0, 0), (17, .invokestatic 250, 20, 93, 0), (20, .goto 5, 23, 25, 0), (23, .ldc 56, 25, 0, (-1000001)), (25, .ireturn, 26, 0, 0)]
def mt_X8_hours : pm_T := (RX8, yX8_hours, cX8_hours, 2, (some .int), 2, gm_X8_hours)
def gm_X8_kind : List pe_T := [(0, .aload_n 0, 1, 0, 0), (1, .getfield 26, 4, 2, 18), (4, .iload_n 1, 5, 0, 0), (5, .invokevirtual 165, 8, 45, 17), (8, .ifCond .eq 14, 11, 22, 0), (11, .aload_n 0, 12, 0, 0), (12, .getfield 26, 15, 2, 18), (15, .iload_n 1, 16, 0, 0), (16, .invokevirtual 254, 19, 54, 17), (19, .goto 5, 22, 24, 0), (22, .ldc 56, 24, 0, (-1000001)), (24, .ireturn, 25, 0, 0)]
def mt_X8_kind : pm_T := (RX8, yX8_kind, cX8_kind, 2, (some .int), 2, gm_X8_kind)
def gm_X8_as : List pe_T := [(0, .aload_n 0, 1, 0, 0), (1, .getfield 26, 4, 2, 18), (4, .iload_n 1, 5, 0, 0), (5, .invokevirtual 165, 8, 45, 17), (8, .ifCond .eq 12, 11, 20, 0), (11, .iload_n 2, 12, 0, 0), (12, .bipush 6, 14, 0, 0), (14, .invokestatic 52, 17, 88, 0), (17, .ifCond .ne 6, 20, 23, 0), (20, .ldc 56, 22, 0, (-1000001)), (22, .ireturn, 23, 0, 0), (23, .aload_n 0, 24, 0, 0), (24, .getfield 26, 27, 2, 18), (27, .iload_n 1, 28, 0, 0), (28, .invokevirtual 254, 31, 54, 17), (31, .istore_n 3, 32, 0, 0), (32, .iconst 0, 33, 0, 0), (33, .istore 4, 35, 0, 0), (35, .iload 4, 37, 0, 0), (37, .bipush 6, 39, 0, 0), (39, .if_icmp .ge 32, 42, 71, 0), (42, .iload_n 3, 43, 0, 0), (43, .ldc 158, 45, 0, (-1000000)), (45, .if_icmp .eq 26, 48, 71, 0), (48, .iload_n 3, 49, 0, 0), (49, .iload_n 2, 50, 0, 0), (50, .if_icmp .ne 9, 53, 59, 0), (53, .aload_n 0, 54, 0, 0), (54, .iload_n 1, 55, 0, 0), (55, .invokevirtual 65, 58, 86, 18), (58, .ireturn, 59, 0, 0), (59, .getstatic 257, 62, 1, 1), (62, .iload_n 3, 63, 0, 0), (63, .iaload, 64, 0, 0), (64, .istore_n 3, 65, 0, 0), (65, .iinc 4 1, 68, 0, 0), (68, .goto (-33), 71, 35, 0), (71, .aload_n 0, 72, 0, 0), (72, .iconst 3, 73, 0, 0), (73, .invokevirtual 57, 76, 85, 18), (76, .ireturn, 77, 0, 0)]
def mt_X8_as : pm_T := (RX8, yX8_as, cX8_as, 5, (some .int), 3, gm_X8_as)
def gm_X8_ask : List pe_T := [(0, .aload_n 0, 1, 0, 0), (1, .getfield 26, 4, 2, 18), (4, .iload_n 1, 5, 0, 0), (5, .invokevirtual 165, 8, 45, 17), (8, .ifCond .eq 11, 11, 19, 0), (11, .iload_n 2, 12, 0, 0), (12, .iconst 2, 13, 0, 0), (13, .invokestatic 52, 16, 88, 0), (16, .ifCond .ne 6, 19, 22, 0), (19, .ldc 56, 21, 0, (-1000001)), (21, .ireturn, 22, 0, 0), (22, .aload_n 0, 23, 0, 0), (23, .iconst 0, 24, 0, 0), (24, .putfield 260, 27, 6, 18), (27, .aload_n 0, 28, 0, 0), (28, .getfield 26, 31, 2, 18), (31, .iload_n 1, 32, 0, 0), (32, .invokevirtual 254, 35, 54, 17), (35, .istore_n 3, 36, 0, 0), (36, .iload_n 2, 37, 0, 0), (37, .ifCond .ne 13, 40, 50, 0), (40, .aload_n 0, 41, 0, 0), (41, .iload_n 1, 42, 0, 0), (42, .iload_n 3, 43, 0, 0), (43, .iconst 0, 44, 0, 0), (44, .invokevirtual 263, 47, 103, 18), (47, .goto 10, 50, 57, 0), (50, .aload_n 0, 51, 0, 0), (51, .iload_n 1, 52, 0, 0), (52, .iload_n 3, 53, 0, 0), (53, .iconst 0, 54, 0, 0), (54, .invokevirtual 267, 57, 104, 18), (57, .ireturn, 58, 0, 0)]
def mt_X8_ask : pm_T := (RX8, yX8_ask, cX8_ask, 4, (some .int), 3, gm_X8_ask)
def gm_X8_trace : List pe_T := [(0, .iload_n 1, 1, 0, 0), (1, .aload_n 0, 2, 0, 0), (2, .getfield 260, 5, 6, 18), (5, .invokestatic 52, 8, 88, 0), (8, .ifCond .eq 12, 11, 20, 0), (11, .aload_n 0, 12, 0, 0), (12, .getfield 48, 15, 5, 18), (15, .iload_n 1, 16, 0, 0), (16, .iaload, 17, 0, 0), (17, .goto 5, 20, 22, 0), (20, .ldc 158, 22, 0, (-1000000)), (22, .ireturn, 23, 0, 0)]
def mt_X8_trace : pm_T := (RX8, yX8_trace, cX8_trace, 2, (some .int), 2, gm_X8_trace)
def gm_X8_count : List pe_T := [(0, .iload_n 1, 1, 0, 0), (1, .tableswitch 87 0 5 #[39, 44, 52, 63, 71, 79], 40, 0, 0), (40, .aload_n 0, 41, 0, 0), (41, .invokevirtual 270, 44, 87, 18), (44, .ireturn, 45, 0, 0), (45, .aload_n 0, 46, 0, 0), (46, .getfield 26, 49, 2, 18), (49, .invokevirtual 273, 52, 55, 17), (52, .ireturn, 53, 0, 0), (53, .aload_n 0, 54, 0, 0), (54, .getfield 26, 57, 2, 18), (57, .getfield 127, 60, 0, 17), (60, .getfield 130, 63, 4, 12), (63, .ireturn, 64, 0, 0), (64, .aload_n 0, 65, 0, 0), (65, .getfield 26, 68, 2, 18), (68, .invokevirtual 276, 71, 56, 17), (71, .ireturn, 72, 0, 0), (72, .aload_n 0, 73, 0, 0), (73, .getfield 26, 76, 2, 18), (76, .invokevirtual 279, 79, 57, 17), (79, .ireturn, 80, 0, 0), (80, .aload_n 0, 81, 0, 0), (81, .getfield 19, 84, 1, 18), (84, .getfield 94, 87, 3, 16), (87, .ireturn, 88, 0, 0), (88, .ldc 56, 90, 0, (-1000001)), (90, .ireturn, 91, 0, 0)]
def mt_X8_count : pm_T := (RX8, yX8_count, cX8_count, 2, (some .int), 2, gm_X8_count)
def gm_X8_status : List pe_T := [(0, .aload_n 0, 1, 0, 0), (1, .getfield 282, 4, 8, 18), (4, .ireturn, 5, 0, 0)]
def mt_X8_status : pm_T := (RX8, yX8_status, cX8_status, 1, (some .int), 1, gm_X8_status)
def gm_X8_found : List pe_T := [(0, .aload_n 0, 1, 0, 0), (1, .iload_n 1, 2, 0, 0), (2, .putfield 282, 5, 8, 18), (5, .ldc_w 285, 8, 0, (-1000010)), (8, .iload_n 1, 9, 0, 0), (9, .isub, 10, 0, 0), (10, .ireturn, 11, 0, 0)]
def mt_X8_found : pm_T := (RX8, yX8_found, cX8_found, 2, (some .int), 2, gm_X8_found)
def gm_X8_well : List pe_T := [(0, .aload_n 0, 1, 0, 0), (1, .iconst 0, 2, 0, 0), (2, .putfield 282, 5, 8, 18), (5, .iload_n 1, 6, 0, 0), (6, .ireturn, 7, 0, 0)]
def mt_X8_well : pm_T := (RX8, yX8_well, cX8_well, 2, (some .int), 2, gm_X8_well)
def gm_X8_countSheets : List pe_T := [(0, .iconst 0, 1, 0, 0), (1, .istore_n 1, 2, 0, 0), (2, .iconst 0, 3, 0, 0), (3, .istore_n 2, 4, 0, 0), (4, .iload_n 2, 5, 0, 0), (5, .bipush 8, 7, 0, 0), (7, .if_icmp .ge 24, 10, 31, 0), (10, .aload_n 0, 11, 0, 0), (11, .getfield 11, 14, 0, 18), (14, .iload_n 2, 15, 0, 0), (15, .aaload, 16, 0, 0), (16, .getfield 68, 19, 1, 15), (19, .ifCond .eq 6, 22, 25, 0), (22, .iinc 1 1, 25, 0, 0), (25, .iinc 2 1, 28, 0, 0), (28, .goto (-24), 31, 4, 0), (31, .iload_n 1, 32, 0, 0), (32, .ireturn, 33, 0, 0)]
def mt_X8_countSheets : pm_T := (RX8, yX8_countSheets, cX8_countSheets, 3, (some .int), 1, gm_X8_countSheets)
def gm_X8_isBelow : List pe_T := [(0, .iload_n 0, 1, 0, 0), (1, .ifCond .lt 12, 4, 13, 0), (4, .iload_n 0, 5, 0, 0), (5, .iload_n 1, 6, 0, 0), (6, .if_icmp .ge 7, 9, 13, 0), (9, .iconst 1, 10, 0, 0), (10, .goto 4, 13, 14, 0), (13, .iconst 0, 14, 0, 0), (14, .ireturn, 15, 0, 0)]
def mt_X8_isBelow : pm_T := (RX8, yX8_isBelow, cX8_isBelow, 2, (some .boolean), 2, gm_X8_isBelow)
def gm_X8_isCase : List pe_T := [(0, .iload_n 0, 1, 0, 0), (1, .bipush 8, 3, 0, 0), (3, .invokestatic 52, 6, 88, 0), (6, .ifCond .eq 15, 9, 21, 0), (9, .iload_n 1, 10, 0, 0), (10, .iconst 3, 11, 0, 0), (11, .invokestatic 52, 14, 88, 0), (14, .ifCond .eq 7, 17, 21, 0), (17, .iconst 1, 18, 0, 0), (18, .goto 4, 21, 22, 0), (21, .iconst 0, 22, 0, 0), (22, .ireturn, 23, 0, 0)]
def mt_X8_isCase : pm_T := (RX8, yX8_isCase, cX8_isCase, 2, (some .boolean), 2, gm_X8_isCase)
def gm_X8_caseOf : List pe_T := [(0, .iconst 3, 1, 0, 0), (1, .iload_n 0, 2, 0, 0), (2, .imul, 3, 0, 0), (3, .iload_n 1, 4, 0, 0), (4, .iadd, 5, 0, 0), (5, .ireturn, 6, 0, 0)]
def mt_X8_caseOf : pm_T := (RX8, yX8_caseOf, cX8_caseOf, 2, (some .int), 2, gm_X8_caseOf)
def gm_X8_casesOf : List pe_T := [(0, .iload_n 2, 1, 0, 0), (1, .iconst 3, 2, 0, 0), (2, .if_icmp .ne 8, 5, 10, 0), (5, .bipush 7, 7, 0, 0), (7, .goto 6, 10, 13, 0), (10, .iconst 1, 11, 0, 0), (11, .iload_n 2, 12, 0, 0), (12, .ishl, 13, 0, 0), (13, .istore_n 3, 14, 0, 0), (14, .iconst 0, 15, 0, 0), (15, .istore 4, 17, 0, 0), (17, .iload_n 0, 18, 0, 0), (18, .istore 5, 20, 0, 0), (20, .iload 5, 22, 0, 0), (22, .iload_n 1, 23, 0, 0), (23, .if_icmp .gt 20, 26, 43, 0), (26, .iload 4, 28, 0, 0), (28, .iload_n 3, 29, 0, 0), (29, .iconst 3, 30, 0, 0), (30, .iload 5, 32, 0, 0), (32, .imul, 33, 0, 0), (33, .ishl, 34, 0, 0), (34, .ior, 35, 0, 0), (35, .istore 4, 37, 0, 0), (37, .iinc 5 1, 40, 0, 0), (40, .goto (-20), 43, 20, 0), (43, .iload 4, 45, 0, 0), (45, .ireturn, 46, 0, 0)]
def mt_X8_casesOf : pm_T := (RX8, yX8_casesOf, cX8_casesOf, 6, (some .int), 3, gm_X8_casesOf)
def gm_X8_isWithin : List pe_T := [(0, .iload_n 0, 1, 0, 0), (1, .iload_n 1, 2, 0, 0), (2, .iconst (-1), 3, 0, 0), (3, .ixor, 4, 0, 0), (4, .iand, 5, 0, 0), (5, .ifCond .ne 7, 8, 12, 0), (8, .iconst 1, 9, 0, 0), (9, .goto 4, 12, 13, 0), (12, .iconst 0, 13, 0, 0), (13, .ireturn, 14, 0, 0)]
def mt_X8_isWithin : pm_T := (RX8, yX8_isWithin, cX8_isWithin, 2, (some .boolean), 2, gm_X8_isWithin)
def gm_X8_addHours : List pe_T := [(0, .iload_n 2, 1, 0, 0), (1, .iconst 4, 2, 0, 0), (2, .if_icmp .ge 14, 5, 16, 0), (5, .aload_n 0, 6, 0, 0), (6, .getfield 286, 9, 2, 12), (9, .iload_n 1, 10, 0, 0), (10, .iaload, 11, 0, 0), (11, .ldc 158, 13, 0, (-1000000)), (13, .if_icmp .ne 6, 16, 19, 0), (16, .ldc 158, 18, 0, (-1000000)), (18, .ireturn, 19, 0, 0), (19, .aload_n 0, 20, 0, 0), (20, .getfield 286, 23, 2, 12), (23, .iload_n 1, 24, 0, 0), (24, .iaload, 25, 0, 0), (25, .istore_n 3, 26, 0, 0), (26, .iconst 0, 27, 0, 0), (27, .istore 4, 29, 0, 0), (29, .iload 4, 31, 0, 0), (31, .iconst 4, 32, 0, 0), (32, .if_icmp .ge 49, 35, 81, 0), (35, .aload_n 0, 36, 0, 0), (36, .getfield 289, 39, 3, 12), (39, .iload_n 1, 40, 0, 0), (40, .iaload, 41, 0, 0), (41, .iload 4, 43, 0, 0), (43, .ishr, 44, 0, 0), (44, .iconst 1, 45, 0, 0), (45, .iand, 46, 0, 0), (46, .ifCond .eq 29, 49, 75, 0), (49, .aload_n 0, 50, 0, 0), (50, .iload 4, 52, 0, 0), (52, .iload_n 2, 53, 0, 0), (53, .iconst 1, 54, 0, 0), (54, .iadd, 55, 0, 0), (55, .invokestatic 250, 58, 93, 0), (58, .istore 5, 60, 0, 0), (60, .iload 5, 62, 0, 0), (62, .ldc 158, 64, 0, (-1000000)), (64, .if_icmp .ne 6, 67, 70, 0), (67, .ldc 158, 69, 0, (-1000000)), (69, .ireturn, 70, 0, 0), (70, .iload_n 3, 71, 0, 0), (71, .iload 5, 73, 0, 0), (73, .iadd, 74, 0, 0), (74, .istore_n 3, 75, 0, 0), (75, .iinc 4 1, 78, 0, 0), (78, .goto (-49), 81, 29, 0), (81, .iload_n 3, 82, 0, 0), (82, .ireturn, 83, 0, 0)]
def mt_X8_addHours : pm_T := (RX8, yX8_addHours, cX8_addHours, 6, (some .int), 3, gm_X8_addHours)
def gm_X8_fieldOf : List pe_T := [(0, .iload_n 0, 1, 0, 0), (1, .bipush 7, 3, 0, 0), (3, .iload_n 1, 4, 0, 0), (4, .imul, 5, 0, 0), (5, .ishr, 6, 0, 0), (6, .bipush 127, 8, 0, 0), (8, .iand, 9, 0, 0), (9, .ireturn, 10, 0, 0)]
def mt_X8_fieldOf : pm_T := (RX8, yX8_fieldOf, cX8_fieldOf, 2, (some .int), 2, gm_X8_fieldOf)
def gm_X8_answerOf : List pe_T := [(0, .iload_n 0, 1, 0, 0), (1, .sipush 2401, 4, 0, 0), (4, .if_icmp .ne 6, 7, 10, 0), (7, .ldc 157, 9, 0, 268435456), (9, .ireturn, 10, 0, 0), (10, .iconst 0, 11, 0, 0), (11, .istore_n 1, 12, 0, 0), (12, .iload_n 0, 13, 0, 0), (13, .istore_n 2, 14, 0, 0), (14, .iconst 0, 15, 0, 0), (15, .istore_n 3, 16, 0, 0), (16, .iload_n 3, 17, 0, 0), (17, .iconst 4, 18, 0, 0), (18, .if_icmp .ge 28, 21, 46, 0), (21, .iload_n 1, 22, 0, 0), (22, .iconst 1, 23, 0, 0), (23, .bipush 7, 25, 0, 0), (25, .iload_n 3, 26, 0, 0), (26, .imul, 27, 0, 0), (27, .iload_n 2, 28, 0, 0), (28, .bipush 7, 30, 0, 0), (30, .irem, 31, 0, 0), (31, .iadd, 32, 0, 0), (32, .ishl, 33, 0, 0), (33, .ior, 34, 0, 0), (34, .istore_n 1, 35, 0, 0), (35, .iload_n 2, 36, 0, 0), (36, .bipush 7, 38, 0, 0), (38, .idiv, 39, 0, 0), (39, .istore_n 2, 40, 0, 0), (40, .iinc 3 1, 43, 0, 0), (43, .goto (-27), 46, 16, 0), (46, .iload_n 1, 47, 0, 0), (47, .ireturn, 48, 0, 0)]
def mt_X8_answerOf : pm_T := (RX8, yX8_answerOf, cX8_answerOf, 4, (some .int), 1, gm_X8_answerOf)
def gm_X8_countGiven : List pe_T := [(0, .iconst 1, 1, 0, 0), (1, .istore_n 1, 2, 0, 0), (2, .iconst 0, 3, 0, 0), (3, .istore_n 2, 4, 0, 0), (4, .iload_n 2, 5, 0, 0), (5, .iconst 4, 6, 0, 0), (6, .if_icmp .ge 20, 9, 26, 0), (9, .iload_n 1, 10, 0, 0), (10, .iload_n 0, 11, 0, 0), (11, .iload_n 2, 12, 0, 0), (12, .invokestatic 159, 15, 94, 0), (15, .invokestatic 292, 18, 184, 0), (18, .imul, 19, 0, 0), (19, .istore_n 1, 20, 0, 0), (20, .iinc 2 1, 23, 0, 0), (23, .goto (-19), 26, 4, 0), (26, .iload_n 1, 27, 0, 0), (27, .ireturn, 28, 0, 0)]
def mt_X8_countGiven : pm_T := (RX8, yX8_countGiven, cX8_countGiven, 3, (some .int), 1, gm_X8_countGiven)
def gm_X8_nthGiven : List pe_T := [(0, .iconst 0, 1, 0, 0), (1, .istore_n 2, 2, 0, 0), (2, .iconst 1, 3, 0, 0), (3, .istore_n 3, 4, 0, 0), (4, .iload_n 1, 5, 0, 0), (5, .istore 4, 7, 0, 0), (7, .iconst 0, 8, 0, 0), (8, .istore 5, 10, 0, 0), (10, .iload 5, 12, 0, 0), (12, .iconst 4, 13, 0, 0), (13, .if_icmp .ge 59, 16, 72, 0), (16, .iload_n 0, 17, 0, 0), (17, .iload 5, 19, 0, 0), (19, .invokestatic 159, 22, 94, 0), (22, .istore 6, 24, 0, 0), (24, .iload 6, 26, 0, 0), (26, .invokestatic 292, 29, 184, 0), (29, .istore 7, 31, 0, 0), (31, .iload 7, 33, 0, 0), (33, .ifCond .ne 6, 36, 39, 0), (36, .ldc 158, 38, 0, (-1000000)), (38, .ireturn, 39, 0, 0), (39, .iload_n 2, 40, 0, 0), (40, .iload_n 3, 41, 0, 0), (41, .iload 6, 43, 0, 0), (43, .iload 4, 45, 0, 0), (45, .iload 7, 47, 0, 0), (47, .irem, 48, 0, 0), (48, .invokestatic 162, 51, 98, 0), (51, .imul, 52, 0, 0), (52, .iadd, 53, 0, 0), (53, .istore_n 2, 54, 0, 0), (54, .iload 4, 56, 0, 0), (56, .iload 7, 58, 0, 0), (58, .idiv, 59, 0, 0), (59, .istore 4, 61, 0, 0), (61, .iload_n 3, 62, 0, 0), (62, .bipush 7, 64, 0, 0), (64, .imul, 65, 0, 0), (65, .istore_n 3, 66, 0, 0), (66, .iinc 5 1, 69, 0, 0), (69, .goto (-59), 72, 10, 0), (72, .iload_n 2, 73, 0, 0), (73, .ireturn, 74, 0, 0)]
def mt_X8_nthGiven : pm_T := (RX8, yX8_nthGiven, cX8_nthGiven, 8, (some .int), 2, gm_X8_nthGiven)
def gm_X8_nthBit : List pe_T := [(0, .iconst 0, 1, 0, 0), (1, .istore_n 2, 2, 0, 0), (2, .iconst 0, 3, 0, 0), (3, .istore_n 3, 4, 0, 0), (4, .iload_n 3, 5, 0, 0), (5, .bipush 7, 7, 0, 0), (7, .if_icmp .ge 27, 10, 34, 0), (10, .iload_n 0, 11, 0, 0), (11, .iload_n 3, 12, 0, 0), (12, .ishr, 13, 0, 0), (13, .iconst 1, 14, 0, 0), (14, .iand, 15, 0, 0), (15, .ifCond .eq 13, 18, 28, 0), (18, .iload_n 2, 19, 0, 0), (19, .iload_n 1, 20, 0, 0), (20, .if_icmp .ne 5, 23, 25, 0), (23, .iload_n 3, 24, 0, 0), (24, .ireturn, 25, 0, 0), (25, .iinc 2 1, 28, 0, 0), (28, .iinc 3 1, 31, 0, 0), (31, .goto (-27), 34, 4, 0), (34, .ldc 158, 36, 0, (-1000000)), (36, .ireturn, 37, 0, 0)]
def mt_X8_nthBit : pm_T := (RX8, yX8_nthBit, cX8_nthBit, 4, (some .int), 2, gm_X8_nthBit)
def gm_X8_hasNone : List pe_T := [(0, .iload_n 0, 1, 0, 0), (1, .ldc 157, 3, 0, 268435456), (3, .iand, 4, 0, 0), (4, .ifCond .ne 14, 7, 18, 0), (7, .iload_n 0, 8, 0, 0), (8, .invokestatic 209, 11, 96, 0), (11, .ifCond .ne 7, 14, 18, 0), (14, .iconst 1, 15, 0, 0), (15, .goto 4, 18, 19, 0), (18, .iconst 0, 19, 0, 0), (19, .ireturn, 20, 0, 0)]
def mt_X8_hasNone : pm_T := (RX8, yX8_hasNone, cX8_hasNone, 1, (some .boolean), 1, gm_X8_hasNone)
def gm_X8_firstBroken : List pe_T := [(0, .iconst 0, 1, 0, 0), (1, .istore_n 2, 2, 0, 0), (2, .iload_n 2, 3, 0, 0), (3, .bipush 24, 5, 0, 0), (5, .if_icmp .ge 38, 8, 43, 0), (8, .aload_n 0, 9, 0, 0), (9, .getfield 222, 12, 7, 14), (12, .iload_n 2, 13, 0, 0), (13, .ishr, 14, 0, 0), (14, .iconst 1, 15, 0, 0), (15, .iand, 16, 0, 0), (16, .ifCond .eq 21, 19, 37, 0), (19, .aload_n 1, 20, 0, 0), (20, .getfield 148, 23, 0, 10), (23, .iload_n 2, 24, 0, 0), (24, .iaload, 25, 0, 0), (25, .aload_n 0, 26, 0, 0), (26, .getfield 192, 29, 8, 14), (29, .invokestatic 218, 32, 92, 0), (32, .ifCond .ne 5, 35, 37, 0), (35, .iload_n 2, 36, 0, 0), (36, .ireturn, 37, 0, 0), (37, .iinc 2 1, 40, 0, 0), (40, .goto (-38), 43, 2, 0), (43, .ldc 158, 45, 0, (-1000000)), (45, .ireturn, 46, 0, 0)]
def mt_X8_firstBroken : pm_T := (RX8, yX8_firstBroken, cX8_firstBroken, 3, (some .int), 2, gm_X8_firstBroken)
def gm_X8_wrongField : List pe_T := [(0, .iload_n 0, 1, 0, 0), (1, .ldc 157, 3, 0, 268435456), (3, .iand, 4, 0, 0), (4, .iload_n 1, 5, 0, 0), (5, .ldc 157, 7, 0, 268435456), (7, .iand, 8, 0, 0), (8, .if_icmp .eq 5, 11, 13, 0), (11, .iconst 4, 12, 0, 0), (12, .ireturn, 13, 0, 0), (13, .iconst 0, 14, 0, 0), (14, .istore_n 2, 15, 0, 0), (15, .iload_n 2, 16, 0, 0), (16, .iconst 4, 17, 0, 0), (17, .if_icmp .ge 23, 20, 40, 0), (20, .iload_n 0, 21, 0, 0), (21, .iload_n 1, 22, 0, 0), (22, .iconst (-1), 23, 0, 0), (23, .ixor, 24, 0, 0), (24, .iand, 25, 0, 0), (25, .iload_n 2, 26, 0, 0), (26, .invokestatic 159, 29, 94, 0), (29, .ifCond .eq 5, 32, 34, 0), (32, .iload_n 2, 33, 0, 0), (33, .ireturn, 34, 0, 0), (34, .iinc 2 1, 37, 0, 0), (37, .goto (-22), 40, 15, 0), (40, .iconst 4, 41, 0, 0), (41, .ireturn, 42, 0, 0)]
def mt_X8_wrongField : pm_T := (RX8, yX8_wrongField, cX8_wrongField, 3, (some .int), 2, gm_X8_wrongField)
def gm_X8_leave : List pe_T := [(0, .aload_n 0, 1, 0, 0), (1, .getfield 260, 4, 6, 18), (4, .bipush 16, 6, 0, 0), (6, .if_icmp .ge 23, 9, 29, 0), (9, .aload_n 0, 10, 0, 0), (10, .getfield 48, 13, 5, 18), (13, .aload_n 0, 14, 0, 0), (14, .getfield 260, 17, 6, 18), (17, .iload_n 1, 18, 0, 0), (18, .iastore, 19, 0, 0), (19, .aload_n 0, 20, 0, 0), (20, .dup, 21, 0, 0), (21, .getfield 260, 24, 6, 18), (24, .iconst 1, 25, 0, 0), (25, .iadd, 26, 0, 0), (26, .putfield 260, 29, 6, 18), (29, .return_, 30, 0, 0)]
def mt_X8_leave : pm_T := (RX8, yX8_leave, cX8_leave, 2, none, 2, gm_X8_leave)
def gm_X8_askSize : List pe_T := [(0, .iload_n 3, 1, 0, 0), (1, .iconst 4, 2, 0, 0), (2, .if_icmp .le 5, 5, 7, 0), (5, .iconst 0, 6, 0, 0), (6, .ireturn, 7, 0, 0), (7, .iload_n 2, 8, 0, 0), (8, .tableswitch 62 1 5 #[36, 48, 42, 36, 56], 44, 0, 0), (44, .aload_n 0, 45, 0, 0), (45, .iload_n 1, 46, 0, 0), (46, .invokevirtual 297, 49, 106, 18), (49, .ireturn, 50, 0, 0), (50, .aload_n 0, 51, 0, 0), (51, .iload_n 1, 52, 0, 0), (52, .invokevirtual 300, 55, 107, 18), (55, .ireturn, 56, 0, 0), (56, .aload_n 0, 57, 0, 0), (57, .iload_n 1, 58, 0, 0), (58, .iload_n 2, 59, 0, 0), (59, .iload_n 3, 60, 0, 0), (60, .invokevirtual 303, 63, 108, 18), (63, .ireturn, 64, 0, 0), (64, .aload_n 0, 65, 0, 0), (65, .iload_n 1, 66, 0, 0), (66, .invokevirtual 306, 69, 109, 18), (69, .ireturn, 70, 0, 0), (70, .aload_n 0, 71, 0, 0), (71, .iload_n 1, 72, 0, 0), (72, .invokevirtual 309, 75, 105, 18), (75, .ireturn, 76, 0, 0)]
def mt_X8_askSize : pm_T := (RX8, yX8_askSize, cX8_askSize, 4, (some .int), 4, gm_X8_askSize)
def gm_X8_askMark : List pe_T := [(0, .iload_n 3, 1, 0, 0), (1, .iconst 4, 2, 0, 0), (2, .if_icmp .le 5, 5, 7, 0), (5, .iconst 0, 6, 0, 0), (6, .ireturn, 7, 0, 0), (7, .iload_n 2, 8, 0, 0), (8, .tableswitch 56 1 5 #[36, 56, 36, 42, 50], 44, 0, 0), (44, .aload_n 0, 45, 0, 0), (45, .iload_n 1, 46, 0, 0), (46, .invokevirtual 312, 49, 111, 18), (49, .ireturn, 50, 0, 0), (50, .aload_n 0, 51, 0, 0), (51, .iload_n 1, 52, 0, 0), (52, .iload_n 2, 53, 0, 0), (53, .iload_n 3, 54, 0, 0), (54, .invokevirtual 315, 57, 112, 18), (57, .ireturn, 58, 0, 0), (58, .aload_n 0, 59, 0, 0), (59, .iload_n 1, 60, 0, 0), (60, .invokevirtual 318, 63, 113, 18), (63, .ireturn, 64, 0, 0), (64, .aload_n 0, 65, 0, 0), (65, .iload_n 1, 66, 0, 0), (66, .invokevirtual 321, 69, 110, 18), (69, .ireturn, 70, 0, 0)]
def mt_X8_askMark : pm_T := (RX8, yX8_askMark, cX8_askMark, 4, (some .int), 4, gm_X8_askMark)
def gm_X8_sizeLent : List pe_T := [(0, .aload_n 0, 1, 0, 0), (1, .bipush 10, 3, 0, 0), (3, .invokevirtual 324, 6, 102, 18), (6, .aload_n 0, 7, 0, 0), (7, .getfield 26, 10, 2, 18), (10, .getfield 169, 13, 1, 17), (13, .iload_n 1, 14, 0, 0), (14, .aaload, 15, 0, 0), (15, .getfield 222, 18, 7, 14), (18, .invokestatic 292, 21, 184, 0), (21, .ireturn, 22, 0, 0)]
def mt_X8_sizeLent : pm_T := (RX8, yX8_sizeLent, cX8_sizeLent, 2, (some .int), 2, gm_X8_sizeLent)
def gm_X8_sizeOfGiven : List pe_T := [(0, .aload_n 0, 1, 0, 0), (1, .bipush 11, 3, 0, 0), (3, .invokevirtual 324, 6, 102, 18), (6, .aload_n 0, 7, 0, 0), (7, .iload_n 1, 8, 0, 0), (8, .invokevirtual 309, 11, 105, 18), (11, .aload_n 0, 12, 0, 0), (12, .getfield 26, 15, 2, 18), (15, .getfield 169, 18, 1, 17), (18, .iload_n 1, 19, 0, 0), (19, .aaload, 20, 0, 0), (20, .getfield 195, 23, 6, 14), (23, .invokestatic 292, 26, 184, 0), (26, .iadd, 27, 0, 0), (27, .ireturn, 28, 0, 0)]
def mt_X8_sizeOfGiven : pm_T := (RX8, yX8_sizeOfGiven, cX8_sizeOfGiven, 2, (some .int), 2, gm_X8_sizeOfGiven)
def gm_X8_sizeOfBefore : List pe_T := [(0, .aload_n 0, 1, 0, 0), (1, .bipush 12, 3, 0, 0), (3, .invokevirtual 324, 6, 102, 18), (6, .iconst 2, 7, 0, 0), (7, .aload_n 0, 8, 0, 0), (8, .iload_n 1, 9, 0, 0), (9, .invokevirtual 297, 12, 106, 18), (12, .imul, 13, 0, 0), (13, .ireturn, 14, 0, 0)]
def mt_X8_sizeOfBefore : pm_T := (RX8, yX8_sizeOfBefore, cX8_sizeOfBefore, 2, (some .int), 2, gm_X8_sizeOfBefore)
def gm_X8_sizeOfRefuses : List pe_T := [(0, .aload_n 0, 1, 0, 0), (1, .bipush 13, 3, 0, 0), (3, .invokevirtual 324, 6, 102, 18), (6, .aload_n 0, 7, 0, 0), (7, .iload_n 1, 8, 0, 0), (8, .invokevirtual 309, 11, 105, 18), (11, .istore 4, 13, 0, 0), (13, .iload 4, 15, 0, 0), (15, .aload_n 0, 16, 0, 0), (16, .iload_n 1, 17, 0, 0), (17, .iload_n 2, 18, 0, 0), (18, .iload_n 3, 19, 0, 0), (19, .iconst 1, 20, 0, 0), (20, .iadd, 21, 0, 0), (21, .invokevirtual 267, 24, 104, 18), (24, .isub, 25, 0, 0), (25, .ireturn, 26, 0, 0)]
def mt_X8_sizeOfRefuses : pm_T := (RX8, yX8_sizeOfRefuses, cX8_sizeOfRefuses, 5, (some .int), 4, gm_X8_sizeOfRefuses)
def gm_X8_sizeOfQuarrel : List pe_T := [(0, .aload_n 0, 1, 0, 0), (1, .bipush 14, 3, 0, 0), (3, .invokevirtual 324, 6, 102, 18), (6, .aload_n 0, 7, 0, 0), (7, .iload_n 1, 8, 0, 0), (8, .invokevirtual 309, 11, 105, 18), (11, .ineg, 12, 0, 0), (12, .ireturn, 13, 0, 0)]
def mt_X8_sizeOfQuarrel : pm_T := (RX8, yX8_sizeOfQuarrel, cX8_sizeOfQuarrel, 2, (some .int), 2, gm_X8_sizeOfQuarrel)
def gm_X8_markLent : List pe_T := [(0, .aload_n 0, 1, 0, 0), (1, .bipush 20, 3, 0, 0), (3, .invokevirtual 324, 6, 102, 18), (6, .iload_n 1, 7, 0, 0), (7, .ireturn, 8, 0, 0)]
def mt_X8_markLent : pm_T := (RX8, yX8_markLent, cX8_markLent, 2, (some .int), 2, gm_X8_markLent)
def gm_X8_markOfGiven : List pe_T := [(0, .aload_n 0, 1, 0, 0), (1, .bipush 21, 3, 0, 0), (3, .invokevirtual 324, 6, 102, 18), (6, .aload_n 0, 7, 0, 0), (7, .iload_n 1, 8, 0, 0), (8, .invokevirtual 321, 11, 110, 18), (11, .bipush 100, 13, 0, 0), (13, .iadd, 14, 0, 0), (14, .ireturn, 15, 0, 0)]
def mt_X8_markOfGiven : pm_T := (RX8, yX8_markOfGiven, cX8_markOfGiven, 2, (some .int), 2, gm_X8_markOfGiven)
def gm_X8_markOfLoose : List pe_T := [(0, .aload_n 0, 1, 0, 0), (1, .bipush 22, 3, 0, 0), (3, .invokevirtual 324, 6, 102, 18), (6, .aload_n 0, 7, 0, 0), (7, .iload_n 1, 8, 0, 0), (8, .invokevirtual 312, 11, 111, 18), (11, .istore 4, 13, 0, 0), (13, .iload 4, 15, 0, 0), (15, .aload_n 0, 16, 0, 0), (16, .iload_n 1, 17, 0, 0), (17, .iload_n 2, 18, 0, 0), (18, .iload_n 3, 19, 0, 0), (19, .iconst 1, 20, 0, 0), (20, .iadd, 21, 0, 0), (21, .invokevirtual 263, 24, 103, 18), (24, .iadd, 25, 0, 0), (25, .ireturn, 26, 0, 0)]
def mt_X8_markOfLoose : pm_T := (RX8, yX8_markOfLoose, cX8_markOfLoose, 5, (some .int), 4, gm_X8_markOfLoose)
def gm_X8_markOfQuarrel : List pe_T := [(0, .aload_n 0, 1, 0, 0), (1, .bipush 23, 3, 0, 0), (3, .invokevirtual 324, 6, 102, 18), (6, .aload_n 0, 7, 0, 0), (7, .iload_n 1, 8, 0, 0), (8, .invokevirtual 321, 11, 110, 18), (11, .sipush 1000, 14, 0, 0), (14, .iadd, 15, 0, 0), (15, .ireturn, 16, 0, 0)]
def mt_X8_markOfQuarrel : pm_T := (RX8, yX8_markOfQuarrel, cX8_markOfQuarrel, 2, (some .int), 2, gm_X8_markOfQuarrel)
def gm_X9_init : List pe_T := [(0, .aload_n 0, 1, 0, 0), (1, .invokespecial 1, 4, 1000, 0), (4, .aload_n 0, 5, 0, 0), (5, .bipush 8, 7, 0, 0), (7, .newarray .int, 9, 0, 0), (9, .dup, 10, 0, 0), (10, .iconst 0, 11, 0, 0), (11, .iconst (-1), 12, 0, 0), (12, .iastore, 13, 0, 0), (13, .dup, 14, 0, 0), (14, .iconst 1, 15, 0, 0), (15, .iconst (-1), 16, 0, 0), (16, .iastore, 17, 0, 0), (17, .dup, 18, 0, 0), (18, .iconst 2, 19, 0, 0), (19, .iconst (-1), 20, 0, 0), (20, .iastore, 21, 0, 0), (21, .dup, 22, 0, 0), (22, .iconst 3, 23, 0, 0), (23, .iconst (-1), 24, 0, 0), (24, .iastore, 25, 0, 0), (25, .dup, 26, 0, 0), (26, .iconst 4, 27, 0, 0), (27, .iconst (-1), 28, 0, 0), (28, .iastore, 29, 0, 0), (29, .dup, 30, 0, 0), (30, .iconst 5, 31, 0, 0), (31, .iconst (-1), 32, 0, 0), (32, .iastore, 33, 0, 0), (33, .dup, 34, 0, 0), (34, .bipush 6, 36, 0, 0), (36, .iconst (-1), 37, 0, 0), (37, .iastore, 38, 0, 0), (38, .dup, 39, 0, 0), (39, .bipush 7, 41, 0, 0), (41, .iconst (-1), 42, 0, 0), (42, .iastore, 43, 0, 0), (43, .putfield 7, 46, 2, 19), (46, .aload_n 0, 47, 0, 0), (47, .bipush 8, 49, 0, 0), (49, .newarray .int, 51, 0, 0), (51, .putfield 13, 54, 3, 19), (54, .aload_n 0, 55, 0, 0), (55, .sipush 320, 58, 0, 0), (58, .newarray .int, 60, 0, 0), (60, .putfield 16, 63, 4, 19), (63, .aload_n 0, 64, 0, 0), (64, .iconst 4, 65, 0, 0), (65, .newarray .int, 67, 0, 0), (67, .putfield 19, 70, 5, 19), (70, .aload_n 0, 71, 0, 0), (71, .iconst 4, 72, 0, 0), (72, .newarray .int, 74, 0, 0), (74, .putfield 22, 77, 6, 19), (77, .aload_n 0, 78, 0, 0), (78, .bipush 16, 80, 0, 0), (80, .newarray .int, 82, 0, 0), (82, .putfield 25, 85, 7, 19), (85, .aload_n 0, 86, 0, 0), (86, .bipush 96, 88, 0, 0), (88, .newarray .int, 90, 0, 0), (90, .putfield 28, 93, 8, 19), (93, .aload_n 0, 94, 0, 0), (94, .bipush 96, 96, 0, 0), (96, .newarray .int, 98, 0, 0), (98, .putfield 31, 101, 9, 19), (101, .aload_n 0, 102, 0, 0), (102, .bipush 96, 104, 0, 0), (104, .newarray .int, 106, 0, 0), (106, .putfield 34, 109, 10, 19), (109, .aload_n 0, 110, 0, 0), (110, .bipush 96, 112, 0, 0), (112, .newarray .int, 114, 0, 0), (114, .putfield 37, 117, 11, 19), (117, .aload_n 0, 118, 0, 0), (118, .bipush 20, 120, 0, 0), (120, .newarray .int, 122, 0, 0), (122, .putfield 40, 125, 14, 19), (125, .aload_n 0, 126, 0, 0), (126, .bipush 20, 128, 0, 0), (128, .newarray .int, 130, 0, 0), (130, .putfield 43, 133, 15, 19), (133, .aload_n 0, 134, 0, 0), (134, .bipush 20, 136, 0, 0), (136, .newarray .int, 138, 0, 0), (138, .putfield 46, 141, 16, 19), (141, .aload_n 0, 142, 0, 0), (142, .bipush 20, 144, 0, 0), (144, .newarray .int, 146, 0, 0), (146, .putfield 49, 149, 17, 19), (149, .aload_n 0, 150, 0, 0), (150, .bipush 20, 152, 0, 0), (152, .newarray .int, 154, 0, 0), (154, .putfield 52, 157, 18, 19), (157, .aload_n 0, 158, 0, 0), (158, .bipush 20, 160, 0, 0), (160, .newarray .int, 162, 0, 0), (162, .putfield 55, 165, 19, 19), (165, .aload_n 0, 166, 0, 0), (166, .bipush 20, 168, 0, 0), (168, .newarray .boolean, 170, 3, 0), (170, .putfield 58, 173, 20, 19), (173, .aload_n 0, 174, 0, 0), (174, .bipush 20, 176, 0, 0), (176, .newarray .int, 178, 0, 0), (178, .putfield 62, 181, 21, 19), (181, .aload_n 0, 182, 0, 0), (182, .bipush 80, 184, 0, 0), (184, .newarray .int, 186, 0, 0), (186, .putfield 65, 189, 22, 19), (189, .aload_n 0, 190, 0, 0), (190, .bipush 16, 192, 0, 0), (192, .newarray .int, 194, 0, 0), (194, .putfield 68, 197, 23, 19), (197, .aload_n 0, 198, 0, 0), (198, .bipush 16, 200, 0, 0), (200, .newarray .int, 202, 0, 0), (202, .putfield 71, 205, 24, 19), (205, .aload_n 0, 206, 0, 0), (206, .iconst 4, 207, 0, 0), (207, .newarray .int, 209, 0, 0), (209, .dup, 210, 0, 0), (210, .iconst 0, 211, 0, 0), (211, .ldc 74, 213, 0, (-1000000)), (213, .iastore, 214, 0, 0), (214, .dup, 215, 0, 0), (215, .iconst 1, 216, 0, 0), (216, .ldc 74, 218, 0, (-1000000)), (218, .iastore, 219, 0, 0), (219, .dup, 220, 0, 0), (220, .iconst 2, 221, 0, 0), (221, .ldc 74, 223, 0, (-1000000)), (223, .iastore, 224, 0, 0), (224, .dup, 225, 0, 0), (225, .iconst 3, 226, 0, 0), (226, .ldc 74, 228, 0, (-1000000)), (228, .iastore, 229, 0, 0), (229, .putfield 75, 232, 25, 19), (232, .aload_n 0, 233, 0, 0), (233, .iconst 4, 234, 0, 0), (234, .newarray .int, 236, 0, 0), (236, .putfield 78, 239, 26, 19), (239, .aload_n 0, 240, 0, 0), (240, .iconst 4, 241, 0, 0), (241, .newarray .int, 243, 0, 0), (243, .putfield 81, 246, 27, 19), (246, .aload_n 0, 247, 0, 0), (247, .iconst 4, 248, 0, 0), (248, .newarray .int, 250, 0, 0), (250, .putfield 84, 253, 28, 19), (253, .aload_n 0, 254, 0, 0), (254, .sipush 500, 257, 0, 0), (257, .newarray .int, 259, 0, 0), (259, .putfield 87, 262, 29, 19), (262, .aload_n 0, 263, 0, 0), (263, .sipush 625, 266, 0, 0), (266, .newarray .int, 268, 0, 0), (268, .putfield 90, 271, 39, 19), (271, .aload_n 0, 272, 0, 0), (272, .sipush 625, 275, 0, 0), (275, .newarray .int, 277, 0, 0), (277, .putfield 93, 280, 40, 19), (280, .aload_n 0, 281, 0, 0), (281, .iconst 4, 282, 0, 0), (282, .newarray .int, 284, 0, 0), (284, .putfield 96, 287, 41, 19), (287, .aload_n 0, 288, 0, 0), (288, .bipush 16, 290, 0, 0), (290, .newarray .int, 292, 0, 0), (292, .putfield 99, 295, 42, 19), (295, .return_, 296, 0, 0)]
def mt_X9_init : pm_T := (RX9, yX9_init, cX9_init, 1, none, 1, gm_X9_init)
def gm_X9_in : List pe_T := [(0, .lload_n 0, 1, 0, 0), (1, .lload_n 2, 2, 0, 0), (2, .lcmp, 3, 0, 0), (3, .ifCond .lt 14, 6, 17, 0), (6, .lload_n 0, 7, 0, 0), (7, .lload 4, 9, 0, 0), (9, .lcmp, 10, 0, 0), (10, .ifCond .gt 7, 13, 17, 0), (13, .iconst 1, 14, 0, 0), (14, .goto 4, 17, 18, 0), (17, .iconst 0, 18, 0, 0), (18, .ireturn, 19, 0, 0)]
def mt_X9_in : pm_T := (RX9, yX9_in, cX9_in, 6, (some .boolean), 3, gm_X9_in)
def gm_X9_finding : List pe_T := [(0, .aload_n 0, 1, 0, 0), (1, .iload_n 1, 2, 0, 0), (2, .putfield 106, 5, 1, 19), (5, .ldc 109, 7, 0, (-1000010)), (7, .iload_n 1, 8, 0, 0), (8, .isub, 9, 0, 0), (9, .ireturn, 10, 0, 0)]
def mt_X9_finding : pm_T := (RX9, yX9_finding, cX9_finding, 2, (some .int), 2, gm_X9_finding)
def gm_X9_isSheet : List pe_T := [(0, .iload_n 0, 1, 0, 0), (1, .i2l, 2, 0, 0), (2, .lconst 0, 3, 0, 0), (3, .ldc2_w 110, 6, 0, 7), (6, .invokestatic 112, 9, 115, 0), (9, .ireturn, 10, 0, 0)]
def mt_X9_isSheet : pm_T := (RX9, yX9_isSheet, cX9_isSheet, 1, (some .boolean), 1, gm_X9_isSheet)
def gm_X9_sheet : List pe_T := [(0, .aload_n 0, 1, 0, 0), (1, .iconst 0, 2, 0, 0), (2, .putfield 102, 5, 0, 19), (5, .iload_n 1, 6, 0, 0), (6, .invokestatic 116, 9, 117, 0), (9, .ifCond .eq 21, 12, 30, 0), (12, .iload_n 2, 13, 0, 0), (13, .i2l, 14, 0, 0), (14, .lconst 0, 15, 0, 0), (15, .ldc2_w 120, 18, 0, 2), (18, .invokestatic 112, 21, 115, 0), (21, .ifCond .eq 9, 24, 30, 0), (24, .iload_n 3, 25, 0, 0), (25, .bipush 40, 27, 0, 0), (27, .if_icmp .le 6, 30, 33, 0), (30, .ldc 122, 32, 0, (-1000001)), (32, .ireturn, 33, 0, 0), (33, .aload_n 0, 34, 0, 0), (34, .iconst 0, 35, 0, 0), (35, .putfield 106, 38, 1, 19), (38, .iload_n 3, 39, 0, 0), (39, .ifCond .ge 9, 42, 48, 0), (42, .aload_n 0, 43, 0, 0), (43, .iconst 4, 44, 0, 0), (44, .invokevirtual 123, 47, 116, 19), (47, .ireturn, 48, 0, 0), (48, .aload_n 0, 49, 0, 0), (49, .getfield 7, 52, 2, 19), (52, .iload_n 1, 53, 0, 0), (53, .iload_n 2, 54, 0, 0), (54, .iastore, 55, 0, 0), (55, .aload_n 0, 56, 0, 0), (56, .getfield 13, 59, 3, 19), (59, .iload_n 1, 60, 0, 0), (60, .iload_n 3, 61, 0, 0), (61, .iastore, 62, 0, 0), (62, .iconst 0, 63, 0, 0), (63, .istore 4, 65, 0, 0), (65, .iload 4, 67, 0, 0), (67, .bipush 40, 69, 0, 0), (69, .if_icmp .ge 22, 72, 91, 0), (72, .aload_n 0, 73, 0, 0), (73, .getfield 16, 76, 4, 19), (76, .bipush 40, 78, 0, 0), (78, .iload_n 1, 79, 0, 0), (79, .imul, 80, 0, 0), (80, .iload 4, 82, 0, 0), (82, .iadd, 83, 0, 0), (83, .iconst 0, 84, 0, 0), (84, .iastore, 85, 0, 0), (85, .iinc 4 1, 88, 0, 0), (88, .goto (-23), 91, 65, 0), (91, .iload_n 3, 92, 0, 0), (92, .ireturn, 93, 0, 0)]
def mt_X9_sheet : pm_T := (RX9, yX9_sheet, cX9_sheet, 5, (some .int), 4, gm_X9_sheet)
def gm_X9_set : List pe_T := [(0, .aload_n 0, 1, 0, 0), (1, .iconst 0, 2, 0, 0), (2, .putfield 102, 5, 0, 19), (5, .iload_n 1, 6, 0, 0), (6, .invokestatic 116, 9, 117, 0), (9, .ifCond .ne 6, 12, 15, 0), (12, .ldc 122, 14, 0, (-1000001)), (14, .ireturn, 15, 0, 0), (15, .aload_n 0, 16, 0, 0), (16, .iconst 0, 17, 0, 0), (17, .putfield 106, 20, 1, 19), (20, .aload_n 0, 21, 0, 0), (21, .getfield 7, 24, 2, 19), (24, .iload_n 1, 25, 0, 0), (25, .iaload, 26, 0, 0), (26, .ifCond .ge 9, 29, 35, 0), (29, .aload_n 0, 30, 0, 0), (30, .iconst 1, 31, 0, 0), (31, .invokevirtual 123, 34, 116, 19), (34, .ireturn, 35, 0, 0), (35, .iload_n 2, 36, 0, 0), (36, .i2l, 37, 0, 0), (37, .lconst 0, 38, 0, 0), (38, .aload_n 0, 39, 0, 0), (39, .getfield 13, 42, 3, 19), (42, .iload_n 1, 43, 0, 0), (43, .iaload, 44, 0, 0), (44, .iconst 1, 45, 0, 0), (45, .isub, 46, 0, 0), (46, .i2l, 47, 0, 0), (47, .invokestatic 112, 50, 115, 0), (50, .ifCond .ne 9, 53, 59, 0), (53, .aload_n 0, 54, 0, 0), (54, .iconst 2, 55, 0, 0), (55, .invokevirtual 123, 58, 116, 19), (58, .ireturn, 59, 0, 0), (59, .aload_n 0, 60, 0, 0), (60, .getfield 16, 63, 4, 19), (63, .bipush 40, 65, 0, 0), (65, .iload_n 1, 66, 0, 0), (66, .imul, 67, 0, 0), (67, .iload_n 2, 68, 0, 0), (68, .iadd, 69, 0, 0), (69, .aload_n 0, 70, 0, 0), (70, .getfield 7, 73, 2, 19), (73, .iload_n 1, 74, 0, 0), (74, .iaload, 75, 0, 0), (75, .ifCond .ne 8, 78, 83, 0), (78, .iload_n 3, 79, 0, 0), (79, .i2b, 80, 0, 0), (80, .goto 19, 83, 99, 0), (83, .aload_n 0, 84, 0, 0), (84, .getfield 7, 87, 2, 19), (87, .iload_n 1, 88, 0, 0), (88, .iaload, 89, 0, 0), (89, .iconst 1, 90, 0, 0), (90, .if_icmp .ne 8, 93, 98, 0), (93, .iload_n 3, 94, 0, 0), (94, .i2s, 95, 0, 0), (95, .goto 4, 98, 99, 0), (98, .iload_n 3, 99, 0, 0), (99, .iastore, 100, 0, 0), (100, .aload_n 0, 101, 0, 0), (101, .getfield 16, 104, 4, 19), (104, .bipush 40, 106, 0, 0), (106, .iload_n 1, 107, 0, 0), (107, .imul, 108, 0, 0), (108, .iload_n 2, 109, 0, 0), (109, .iadd, 110, 0, 0), (110, .iaload, 111, 0, 0), (111, .ireturn, 112, 0, 0)]
def mt_X9_set : pm_T := (RX9, yX9_set, cX9_set, 4, (some .int), 4, gm_X9_set)
def gm_X9_copy : List pe_T := [(0, .aload_n 0, 1, 0, 0), (1, .iconst 0, 2, 0, 0), (2, .putfield 102, 5, 0, 19), (5, .iload_n 1, 6, 0, 0), (6, .invokestatic 116, 9, 117, 0), (9, .ifCond .eq 10, 12, 19, 0), (12, .iload_n 3, 13, 0, 0), (13, .invokestatic 116, 16, 117, 0), (16, .ifCond .ne 6, 19, 22, 0), (19, .ldc 122, 21, 0, (-1000001)), (21, .ireturn, 22, 0, 0), (22, .aload_n 0, 23, 0, 0), (23, .iconst 0, 24, 0, 0), (24, .putfield 106, 27, 1, 19), (27, .aload_n 0, 28, 0, 0), (28, .getfield 7, 31, 2, 19), (31, .iload_n 1, 32, 0, 0), (32, .iaload, 33, 0, 0), (33, .ifCond .lt 12, 36, 45, 0), (36, .aload_n 0, 37, 0, 0), (37, .getfield 7, 40, 2, 19), (40, .iload_n 3, 41, 0, 0), (41, .iaload, 42, 0, 0), (42, .ifCond .ge 9, 45, 51, 0), (45, .aload_n 0, 46, 0, 0), (46, .iconst 1, 47, 0, 0), (47, .invokevirtual 123, 50, 116, 19), (50, .ireturn, 51, 0, 0), (51, .aload_n 0, 52, 0, 0), (52, .getfield 7, 55, 2, 19), (55, .iload_n 1, 56, 0, 0), (56, .iaload, 57, 0, 0), (57, .aload_n 0, 58, 0, 0), (58, .getfield 7, 61, 2, 19), (61, .iload_n 3, 62, 0, 0), (62, .iaload, 63, 0, 0), (63, .if_icmp .eq 9, 66, 72, 0), (66, .aload_n 0, 67, 0, 0), (67, .iconst 5, 68, 0, 0), (68, .invokevirtual 123, 71, 116, 19), (71, .ireturn, 72, 0, 0), (72, .iload_n 2, 73, 0, 0), (73, .ifCond .lt 48, 76, 121, 0), (76, .iload 4, 78, 0, 0), (78, .ifCond .lt 43, 81, 121, 0), (81, .iload 5, 83, 0, 0), (83, .ifCond .lt 38, 86, 121, 0), (86, .iload_n 2, 87, 0, 0), (87, .i2l, 88, 0, 0), (88, .iload 5, 90, 0, 0), (90, .i2l, 91, 0, 0), (91, .ladd, 92, 0, 0), (92, .aload_n 0, 93, 0, 0), (93, .getfield 13, 96, 3, 19), (96, .iload_n 1, 97, 0, 0), (97, .iaload, 98, 0, 0), (98, .i2l, 99, 0, 0), (99, .lcmp, 100, 0, 0), (100, .ifCond .gt 21, 103, 121, 0), (103, .iload 4, 105, 0, 0), (105, .i2l, 106, 0, 0), (106, .iload 5, 108, 0, 0), (108, .i2l, 109, 0, 0), (109, .ladd, 110, 0, 0), (110, .aload_n 0, 111, 0, 0), (111, .getfield 13, 114, 3, 19), (114, .iload_n 3, 115, 0, 0), (115, .iaload, 116, 0, 0), (116, .i2l, 117, 0, 0), (117, .lcmp, 118, 0, 0), (118, .ifCond .le 9, 121, 127, 0), (121, .aload_n 0, 122, 0, 0), (122, .iconst 2, 123, 0, 0), (123, .invokevirtual 123, 126, 116, 19), (126, .ireturn, 127, 0, 0), (127, .iload_n 2, 128, 0, 0), (128, .iload 4, 130, 0, 0), (130, .if_icmp .lt 7, 133, 137, 0), (133, .iconst 1, 134, 0, 0), (134, .goto 4, 137, 138, 0), (137, .iconst 0, 138, 0, 0), (138, .istore 6, 140, 0, 0), (140, .iconst 0, 141, 0, 0), (141, .istore 7, 143, 0, 0), (143, .iload 7, 145, 0, 0), (145, .iload 5, 147, 0, 0), (147, .if_icmp .ge 57, 150, 204, 0), (150, .iload 6, 152, 0, 0), (152, .ifCond .eq 8, 155, 160, 0), (155, .iload 7, 157, 0, 0), (157, .goto 10, 160, 167, 0), (160, .iload 5, 162, 0, 0), (162, .iconst 1, 163, 0, 0), (163, .isub, 164, 0, 0), (164, .iload 7, 166, 0, 0), (166, .isub, 167, 0, 0), (167, .istore 8, 169, 0, 0), (169, .aload_n 0, 170, 0, 0), (170, .getfield 16, 173, 4, 19), (173, .bipush 40, 175, 0, 0), (175, .iload_n 3, 176, 0, 0), (176, .imul, 177, 0, 0), (177, .iload 4, 179, 0, 0), (179, .iadd, 180, 0, 0), (180, .iload 8, 182, 0, 0), (182, .iadd, 183, 0, 0), (183, .aload_n 0, 184, 0, 0), (184, .getfield 16, 187, 4, 19), (187, .bipush 40, 189, 0, 0), (189, .iload_n 1, 190, 0, 0), (190, .imul, 191, 0, 0), (191, .iload_n 2, 192, 0, 0), (192, .iadd, 193, 0, 0), (193, .iload 8, 195, 0, 0), (195, .iadd, 196, 0, 0), (196, .iaload, 197, 0, 0), (197, .iastore, 198, 0, 0), (198, .iinc 7 1, 201, 0, 0), (201, .goto (-58), 204, 143, 0), (204, .iload 5, 206, 0, 0), (206, .ireturn, 207, 0, 0)]
def mt_X9_copy : pm_T := (RX9, yX9_copy, cX9_copy, 9, (some .int), 6, gm_X9_copy)
def gm_X9_drop : List pe_T := [(0, .aload_n 0, 1, 0, 0), (1, .iconst 0, 2, 0, 0), (2, .putfield 102, 5, 0, 19), (5, .iload_n 1, 6, 0, 0), (6, .invokestatic 116, 9, 117, 0), (9, .ifCond .ne 6, 12, 15, 0), (12, .ldc 122, 14, 0, (-1000001)), (14, .ireturn, 15, 0, 0), (15, .aload_n 0, 16, 0, 0), (16, .iconst 0, 17, 0, 0), (17, .putfield 106, 20, 1, 19), (20, .aload_n 0, 21, 0, 0), (21, .getfield 7, 24, 2, 19), (24, .iload_n 1, 25, 0, 0), (25, .iaload, 26, 0, 0), (26, .ifCond .ge 9, 29, 35, 0), (29, .aload_n 0, 30, 0, 0), (30, .iconst 1, 31, 0, 0), (31, .invokevirtual 123, 34, 116, 19), (34, .ireturn, 35, 0, 0), (35, .aload_n 0, 36, 0, 0), (36, .getfield 7, 39, 2, 19), (39, .iload_n 1, 40, 0, 0), (40, .iconst (-1), 41, 0, 0), (41, .iastore, 42, 0, 0), (42, .aload_n 0, 43, 0, 0), (43, .getfield 13, 46, 3, 19), (46, .iload_n 1, 47, 0, 0), (47, .iaload, 48, 0, 0), (48, .ireturn, 49, 0, 0)]
def mt_X9_drop : pm_T := (RX9, yX9_drop, cX9_drop, 2, (some .int), 2, gm_X9_drop)
def gm_X9_feed : List pe_T := [(0, .aload_n 0, 1, 0, 0), (1, .iconst 0, 2, 0, 0), (2, .putfield 102, 5, 0, 19), (5, .iload_n 3, 6, 0, 0), (6, .i2l, 7, 0, 0), (7, .lconst 1, 8, 0, 0), (8, .ldc2_w 127, 11, 0, 8), (11, .invokestatic 112, 14, 115, 0), (14, .ifCond .ne 6, 17, 20, 0), (17, .ldc 122, 19, 0, (-1000001)), (19, .ireturn, 20, 0, 0), (20, .aload_n 0, 21, 0, 0), (21, .getfield 129, 24, 30, 19), (24, .iload_n 3, 25, 0, 0), (25, .iadd, 26, 0, 0), (26, .sipush 500, 29, 0, 0), (29, .if_icmp .le 6, 32, 35, 0), (32, .ldc 132, 34, 0, (-1000003)), (34, .ireturn, 35, 0, 0), (35, .iload_n 3, 36, 0, 0), (36, .iconst 1, 37, 0, 0), (37, .isub, 38, 0, 0), (38, .istore 4, 40, 0, 0), (40, .iload 4, 42, 0, 0), (42, .ifCond .lt 40, 45, 82, 0), (45, .aload_n 0, 46, 0, 0), (46, .getfield 87, 49, 29, 19), (49, .aload_n 0, 50, 0, 0), (50, .getfield 129, 53, 30, 19), (53, .lload_n 1, 54, 0, 0), (54, .bipush 8, 56, 0, 0), (56, .iload 4, 58, 0, 0), (58, .imul, 59, 0, 0), (59, .lshr, 60, 0, 0), (60, .ldc2_w 133, 63, 0, 255), (63, .land, 64, 0, 0), (64, .l2i, 65, 0, 0), (65, .iastore, 66, 0, 0), (66, .aload_n 0, 67, 0, 0), (67, .dup, 68, 0, 0), (68, .getfield 129, 71, 30, 19), (71, .iconst 1, 72, 0, 0), (72, .iadd, 73, 0, 0), (73, .putfield 129, 76, 30, 19), (76, .iinc 4 (-1), 79, 0, 0), (79, .goto (-39), 82, 40, 0), (82, .aload_n 0, 83, 0, 0), (83, .getfield 129, 86, 30, 19), (86, .ireturn, 87, 0, 0)]
def mt_X9_feed : pm_T := (RX9, yX9_feed, cX9_feed, 5, (some .int), 3, gm_X9_feed)
def gm_X9_byteAt : List pe_T := [(0, .iload_n 1, 1, 0, 0), (1, .aload_n 0, 2, 0, 0), (2, .getfield 135, 5, 32, 19), (5, .if_icmp .ge 12, 8, 17, 0), (8, .aload_n 0, 9, 0, 0), (9, .getfield 87, 12, 29, 19), (12, .iload_n 1, 13, 0, 0), (13, .iaload, 14, 0, 0), (14, .goto 5, 17, 19, 0), (17, .ldc 74, 19, 0, (-1000000)), (19, .ireturn, 20, 0, 0)]
def mt_X9_byteAt : pm_T := (RX9, yX9_byteAt, cX9_byteAt, 2, (some .int), 2, gm_X9_byteAt)
def gm_X9_isLetter : List pe_T := [(0, .iload_n 0, 1, 0, 0), (1, .bipush 97, 3, 0, 0), (3, .if_icmp .lt 13, 6, 16, 0), (6, .iload_n 0, 7, 0, 0), (7, .bipush 122, 9, 0, 0), (9, .if_icmp .gt 7, 12, 16, 0), (12, .iconst 1, 13, 0, 0), (13, .goto 4, 16, 17, 0), (16, .iconst 0, 17, 0, 0), (17, .ireturn, 18, 0, 0)]
def mt_X9_isLetter : pm_T := (RX9, yX9_isLetter, cX9_isLetter, 1, (some .boolean), 1, gm_X9_isLetter)
def gm_X9_isFigure : List pe_T := [(0, .iload_n 0, 1, 0, 0), (1, .bipush 48, 3, 0, 0), (3, .if_icmp .lt 13, 6, 16, 0), (6, .iload_n 0, 7, 0, 0), (7, .bipush 57, 9, 0, 0), (9, .if_icmp .gt 7, 12, 16, 0), (12, .iconst 1, 13, 0, 0), (13, .goto 4, 16, 17, 0), (16, .iconst 0, 17, 0, 0), (17, .ireturn, 18, 0, 0)]
def mt_X9_isFigure : pm_T := (RX9, yX9_isFigure, cX9_isFigure, 1, (some .boolean), 1, gm_X9_isFigure)
def gm_X9_next : List pe_T := [(0, .aload_n 0, 1, 0, 0), (1, .aload_n 0, 2, 0, 0), (2, .getfield 138, 5, 33, 19), (5, .invokevirtual 141, 8, 123, 19), (8, .bipush 32, 10, 0, 0), (10, .if_icmp .eq 16, 13, 26, 0), (13, .aload_n 0, 14, 0, 0), (14, .aload_n 0, 15, 0, 0), (15, .getfield 138, 18, 33, 19), (18, .invokevirtual 141, 21, 123, 19), (21, .bipush 10, 23, 0, 0), (23, .if_icmp .ne 16, 26, 39, 0), (26, .aload_n 0, 27, 0, 0), (27, .dup, 28, 0, 0), (28, .getfield 138, 31, 33, 19), (31, .iconst 1, 32, 0, 0), (32, .iadd, 33, 0, 0), (33, .putfield 138, 36, 33, 19), (36, .goto (-36), 39, 0, 0), (39, .aload_n 0, 40, 0, 0), (40, .aload_n 0, 41, 0, 0), (41, .getfield 138, 44, 33, 19), (44, .putfield 144, 47, 35, 19), (47, .aload_n 0, 48, 0, 0), (48, .aload_n 0, 49, 0, 0), (49, .getfield 138, 52, 33, 19), (52, .invokevirtual 141, 55, 123, 19), (55, .istore_n 1, 56, 0, 0), (56, .iload_n 1, 57, 0, 0), (57, .ldc 74, 59, 0, (-1000000)), (59, .if_icmp .ne 11, 62, 70, 0), (62, .aload_n 0, 63, 0, 0), (63, .iconst 1, 64, 0, 0), (64, .putfield 147, 67, 34, 19), (67, .goto 129, 70, 196, 0), (70, .iload_n 1, 71, 0, 0), (71, .invokestatic 150, 74, 124, 0), (74, .ifCond .eq 38, 77, 112, 0), (77, .aload_n 0, 78, 0, 0), (78, .aload_n 0, 79, 0, 0), (79, .getfield 138, 82, 33, 19), (82, .invokevirtual 141, 85, 123, 19), (85, .invokestatic 150, 88, 124, 0), (88, .ifCond .eq 16, 91, 104, 0), (91, .aload_n 0, 92, 0, 0), (92, .dup, 93, 0, 0), (93, .getfield 138, 96, 33, 19), (96, .iconst 1, 97, 0, 0), (97, .iadd, 98, 0, 0), (98, .putfield 138, 101, 33, 19), (101, .goto (-24), 104, 77, 0), (104, .aload_n 0, 105, 0, 0), (105, .iconst 2, 106, 0, 0), (106, .putfield 147, 109, 34, 19), (109, .goto 87, 112, 196, 0), (112, .iload_n 1, 113, 0, 0), (113, .invokestatic 153, 116, 125, 0), (116, .ifCond .eq 55, 119, 171, 0), (119, .aload_n 0, 120, 0, 0), (120, .aload_n 0, 121, 0, 0), (121, .getfield 138, 124, 33, 19), (124, .invokevirtual 141, 127, 123, 19), (127, .invokestatic 153, 130, 125, 0), (130, .ifCond .eq 16, 133, 146, 0), (133, .aload_n 0, 134, 0, 0), (134, .dup, 135, 0, 0), (135, .getfield 138, 138, 33, 19), (138, .iconst 1, 139, 0, 0), (139, .iadd, 140, 0, 0), (140, .putfield 138, 143, 33, 19), (143, .goto (-24), 146, 119, 0), (146, .aload_n 0, 147, 0, 0), (147, .aload_n 0, 148, 0, 0), (148, .getfield 138, 151, 33, 19), (151, .aload_n 0, 152, 0, 0), (152, .getfield 144, 155, 35, 19), (155, .isub, 156, 0, 0), (156, .iconst 2, 157, 0, 0), (157, .if_icmp .le 7, 160, 164, 0), (160, .iconst 0, 161, 0, 0), (161, .goto 4, 164, 165, 0), (164, .iconst 3, 165, 0, 0), (165, .putfield 147, 168, 34, 19), (168, .goto 28, 171, 196, 0), (171, .aload_n 0, 172, 0, 0), (172, .dup, 173, 0, 0), (173, .getfield 138, 176, 33, 19), (176, .iconst 1, 177, 0, 0), (177, .iadd, 178, 0, 0), (178, .putfield 138, 181, 33, 19), (181, .aload_n 0, 182, 0, 0), (182, .iload_n 1, 183, 0, 0), (183, .bipush 59, 185, 0, 0), (185, .if_icmp .ne 7, 188, 192, 0), (188, .iconst 4, 189, 0, 0), (189, .goto 4, 192, 193, 0), (192, .iconst 0, 193, 0, 0), (193, .putfield 147, 196, 34, 19), (196, .aload_n 0, 197, 0, 0), (197, .aload_n 0, 198, 0, 0), (198, .getfield 138, 201, 33, 19), (201, .putfield 156, 204, 36, 19), (204, .return_, 205, 0, 0)]
def mt_X9_next : pm_T := (RX9, yX9_next, cX9_next, 2, none, 1, gm_X9_next)
def gm_X9_bad : List pe_T := [(0, .aload_n 0, 1, 0, 0), (1, .getfield 159, 4, 37, 19), (4, .ifCond .ne 16, 7, 20, 0), (7, .aload_n 0, 8, 0, 0), (8, .iload_n 1, 9, 0, 0), (9, .putfield 159, 12, 37, 19), (12, .aload_n 0, 13, 0, 0), (13, .aload_n 0, 14, 0, 0), (14, .getfield 144, 17, 35, 19), (17, .putfield 162, 20, 38, 19), (20, .return_, 21, 0, 0)]
def mt_X9_bad : pm_T := (RX9, yX9_bad, cX9_bad, 2, none, 2, gm_X9_bad)
def gm_X9_must : List pe_T := [(0, .iload_n 1, 1, 0, 0), (1, .ifCond .ne 8, 4, 9, 0), (4, .aload_n 0, 5, 0, 0), (5, .iconst 1, 6, 0, 0), (6, .invokevirtual 165, 9, 127, 19), (9, .aload_n 0, 10, 0, 0), (10, .getfield 159, 13, 37, 19), (13, .ifCond .ne 7, 16, 20, 0), (16, .aload_n 0, 17, 0, 0), (17, .invokevirtual 169, 20, 126, 19), (20, .return_, 21, 0, 0)]
def mt_X9_must : pm_T := (RX9, yX9_must, cX9_must, 2, none, 2, gm_X9_must)
def gm_X9_word : List pe_T := [(0, .lconst 0, 1, 0, 0), (1, .lstore_n 1, 2, 0, 0), (2, .aload_n 0, 3, 0, 0), (3, .getfield 144, 6, 35, 19), (6, .istore_n 3, 7, 0, 0), (7, .iload_n 3, 8, 0, 0), (8, .aload_n 0, 9, 0, 0), (9, .getfield 156, 12, 36, 19), (12, .if_icmp .ge 44, 15, 56, 0), (15, .aload_n 0, 16, 0, 0), (16, .getfield 147, 19, 34, 19), (19, .iconst 2, 20, 0, 0), (20, .if_icmp .ne 36, 23, 56, 0), (23, .aload_n 0, 24, 0, 0), (24, .getfield 156, 27, 36, 19), (27, .aload_n 0, 28, 0, 0), (28, .getfield 144, 31, 35, 19), (31, .isub, 32, 0, 0), (32, .bipush 8, 34, 0, 0), (34, .if_icmp .ge 22, 37, 56, 0), (37, .lload_n 1, 38, 0, 0), (38, .bipush 8, 40, 0, 0), (40, .lshl, 41, 0, 0), (41, .aload_n 0, 42, 0, 0), (42, .getfield 87, 45, 29, 19), (45, .iload_n 3, 46, 0, 0), (46, .iaload, 47, 0, 0), (47, .i2l, 48, 0, 0), (48, .lor, 49, 0, 0), (49, .lstore_n 1, 50, 0, 0), (50, .iinc 3 1, 53, 0, 0), (53, .goto (-46), 56, 7, 0), (56, .lload_n 1, 57, 0, 0), (57, .lreturn, 58, 0, 0)]
def mt_X9_word : pm_T := (RX9, yX9_word, cX9_word, 4, (some .long), 1, gm_X9_word)
def gm_X9_numberHere : List pe_T := [(0, .iconst 0, 1, 0, 0), (1, .istore_n 1, 2, 0, 0), (2, .aload_n 0, 3, 0, 0), (3, .getfield 144, 6, 35, 19), (6, .istore_n 2, 7, 0, 0), (7, .iload_n 2, 8, 0, 0), (8, .aload_n 0, 9, 0, 0), (9, .getfield 156, 12, 36, 19), (12, .if_icmp .ge 32, 15, 44, 0), (15, .aload_n 0, 16, 0, 0), (16, .getfield 147, 19, 34, 19), (19, .iconst 3, 20, 0, 0), (20, .if_icmp .ne 24, 23, 44, 0), (23, .bipush 10, 25, 0, 0), (25, .iload_n 1, 26, 0, 0), (26, .imul, 27, 0, 0), (27, .aload_n 0, 28, 0, 0), (28, .getfield 87, 31, 29, 19), (31, .iload_n 2, 32, 0, 0), (32, .iaload, 33, 0, 0), (33, .iadd, 34, 0, 0), (34, .bipush 48, 36, 0, 0), (36, .isub, 37, 0, 0), (37, .istore_n 1, 38, 0, 0), (38, .iinc 2 1, 41, 0, 0), (41, .goto (-34), 44, 7, 0), (44, .iload_n 1, 45, 0, 0), (45, .ireturn, 46, 0, 0)]
def mt_X9_numberHere : pm_T := (RX9, yX9_numberHere, cX9_numberHere, 3, (some .int), 1, gm_X9_numberHere)
def gm_X9_numberIn : List pe_T := [(0, .aload_n 0, 1, 0, 0), (1, .getfield 159, 4, 37, 19), (4, .ifCond .le 5, 7, 9, 0), (7, .iconst 0, 8, 0, 0), (8, .ireturn, 9, 0, 0), (9, .aload_n 0, 10, 0, 0), (10, .invokevirtual 172, 13, 130, 19), (13, .istore 4, 15, 0, 0), (15, .aload_n 0, 16, 0, 0), (16, .getfield 147, 19, 34, 19), (19, .iconst 3, 20, 0, 0), (20, .if_icmp .ne 38, 23, 58, 0), (23, .iload 4, 25, 0, 0), (25, .i2l, 26, 0, 0), (26, .iload_n 1, 27, 0, 0), (27, .i2l, 28, 0, 0), (28, .iload_n 2, 29, 0, 0), (29, .i2l, 30, 0, 0), (30, .invokestatic 112, 33, 115, 0), (33, .ifCond .eq 20, 36, 53, 0), (36, .iload 4, 38, 0, 0), (38, .bipush 31, 40, 0, 0), (40, .if_icmp .ge 18, 43, 58, 0), (43, .iload_n 3, 44, 0, 0), (44, .iload 4, 46, 0, 0), (46, .ishr, 47, 0, 0), (47, .iconst 1, 48, 0, 0), (48, .iand, 49, 0, 0), (49, .iconst 1, 50, 0, 0), (50, .if_icmp .ne 8, 53, 58, 0), (53, .aload_n 0, 54, 0, 0), (54, .iconst 2, 55, 0, 0), (55, .invokevirtual 165, 58, 127, 19), (58, .aload_n 0, 59, 0, 0), (59, .aload_n 0, 60, 0, 0), (60, .getfield 147, 63, 34, 19), (63, .iconst 3, 64, 0, 0), (64, .if_icmp .ne 7, 67, 71, 0), (67, .iconst 1, 68, 0, 0), (68, .goto 4, 71, 72, 0), (71, .iconst 0, 72, 0, 0), (72, .invokevirtual 176, 75, 128, 19), (75, .iload 4, 77, 0, 0), (77, .ireturn, 78, 0, 0)]
def mt_X9_numberIn : pm_T := (RX9, yX9_numberIn, cX9_numberIn, 5, (some .int), 4, gm_X9_numberIn)
def gm_X9_mustRefuseOrGive : List pe_T := [(0, .aload_n 0, 1, 0, 0), (1, .getfield 159, 4, 37, 19), (4, .ifCond .ne 34, 7, 38, 0), (7, .aload_n 0, 8, 0, 0), (8, .aload_n 0, 9, 0, 0), (9, .invokevirtual 180, 12, 129, 19), (12, .ldc2_w 184, 15, 0, 125779836236645), (15, .lcmp, 16, 0, 0), (16, .ifCond .eq 14, 19, 30, 0), (19, .aload_n 0, 20, 0, 0), (20, .invokevirtual 180, 23, 129, 19), (23, .ldc2_w 186, 26, 0, 1734964837), (26, .lcmp, 27, 0, 0), (27, .ifCond .ne 7, 30, 34, 0), (30, .iconst 1, 31, 0, 0), (31, .goto 4, 34, 35, 0), (34, .iconst 0, 35, 0, 0), (35, .invokevirtual 176, 38, 128, 19), (38, .return_, 39, 0, 0)]
def mt_X9_mustRefuseOrGive : pm_T := (RX9, yX9_mustRefuseOrGive, cX9_mustRefuseOrGive, 1, none, 1, gm_X9_mustRefuseOrGive)
def gm_X9_readRule : List pe_T := [(0, .aload_n 0, 1, 0, 0), (1, .getfield 25, 4, 7, 19), (4, .iload_n 1, 5, 0, 0), (5, .iaload, 6, 0, 0), (6, .bipush 6, 8, 0, 0), (8, .if_icmp .ne 8, 11, 16, 0), (11, .aload_n 0, 12, 0, 0), (12, .iconst 3, 13, 0, 0), (13, .invokevirtual 165, 16, 127, 19), (16, .aload_n 0, 17, 0, 0), (17, .iconst 1, 18, 0, 0), (18, .invokevirtual 176, 21, 128, 19), (21, .bipush 6, 23, 0, 0), (23, .iload_n 1, 24, 0, 0), (24, .imul, 25, 0, 0), (25, .aload_n 0, 26, 0, 0), (26, .getfield 25, 29, 7, 19), (29, .iload_n 1, 30, 0, 0), (30, .iaload, 31, 0, 0), (31, .iadd, 32, 0, 0), (32, .istore_n 2, 33, 0, 0), (33, .aload_n 0, 34, 0, 0), (34, .iconst 0, 35, 0, 0), (35, .bipush 7, 37, 0, 0), (37, .iconst 0, 38, 0, 0), (38, .invokevirtual 188, 41, 131, 19), (41, .istore_n 3, 42, 0, 0), (42, .aload_n 0, 43, 0, 0), (43, .iload_n 3, 44, 0, 0), (44, .bipush 7, 46, 0, 0), (46, .iconst 0, 47, 0, 0), (47, .invokevirtual 188, 50, 131, 19), (50, .istore 4, 52, 0, 0), (52, .aload_n 0, 53, 0, 0), (53, .iconst 0, 54, 0, 0), (54, .iconst 3, 55, 0, 0), (55, .iconst 0, 56, 0, 0), (56, .invokevirtual 188, 59, 131, 19), (59, .istore 5, 61, 0, 0), (61, .aload_n 0, 62, 0, 0), (62, .invokevirtual 180, 65, 129, 19), (65, .ldc2_w 186, 68, 0, 1734964837), (68, .lcmp, 69, 0, 0), (69, .ifCond .ne 7, 72, 76, 0), (72, .iconst 1, 73, 0, 0), (73, .goto 4, 76, 77, 0), (76, .iconst 0, 77, 0, 0), (77, .istore 6, 79, 0, 0), (79, .aload_n 0, 80, 0, 0), (80, .invokevirtual 192, 83, 132, 19), (83, .iload 6, 85, 0, 0), (85, .ifCond .eq 7, 88, 92, 0), (88, .iconst 0, 89, 0, 0), (89, .goto 6, 92, 95, 0), (92, .sipush 2401, 95, 0, 0), (95, .istore 7, 97, 0, 0), (97, .iconst 1, 98, 0, 0), (98, .istore 8, 100, 0, 0), (100, .iconst 0, 101, 0, 0), (101, .istore 9, 103, 0, 0), (103, .iload 9, 105, 0, 0), (105, .iconst 4, 106, 0, 0), (106, .if_icmp .ge 37, 109, 143, 0), (109, .iload 6, 111, 0, 0), (111, .ifCond .eq 32, 114, 143, 0), (114, .iload 7, 116, 0, 0), (116, .iload 8, 118, 0, 0), (118, .aload_n 0, 119, 0, 0), (119, .iconst 0, 120, 0, 0), (120, .bipush 6, 122, 0, 0), (122, .iconst 0, 123, 0, 0), (123, .invokevirtual 188, 126, 131, 19), (126, .imul, 127, 0, 0), (127, .iadd, 128, 0, 0), (128, .istore 7, 130, 0, 0), (130, .iload 8, 132, 0, 0), (132, .bipush 7, 134, 0, 0), (134, .imul, 135, 0, 0), (135, .istore 8, 137, 0, 0), (137, .iinc 9 1, 140, 0, 0), (140, .goto (-37), 143, 103, 0), (143, .aload_n 0, 144, 0, 0), (144, .getfield 159, 147, 37, 19), (147, .ifCond .ne 44, 150, 191, 0), (150, .aload_n 0, 151, 0, 0), (151, .getfield 28, 154, 8, 19), (154, .iload_n 2, 155, 0, 0), (155, .iload_n 3, 156, 0, 0), (156, .iastore, 157, 0, 0), (157, .aload_n 0, 158, 0, 0), (158, .getfield 31, 161, 9, 19), (161, .iload_n 2, 162, 0, 0), (162, .iload 4, 164, 0, 0), (164, .iastore, 165, 0, 0), (165, .aload_n 0, 166, 0, 0), (166, .getfield 34, 169, 10, 19), (169, .iload_n 2, 170, 0, 0), (170, .iload 5, 172, 0, 0), (172, .iastore, 173, 0, 0), (173, .aload_n 0, 174, 0, 0), (174, .getfield 37, 177, 11, 19), (177, .iload_n 2, 178, 0, 0), (178, .iload 7, 180, 0, 0), (180, .iastore, 181, 0, 0), (181, .aload_n 0, 182, 0, 0), (182, .getfield 25, 185, 7, 19), (185, .iload_n 1, 186, 0, 0), (186, .dup2, 187, 0, 0), (187, .iaload, 188, 0, 0), (188, .iconst 1, 189, 0, 0), (189, .iadd, 190, 0, 0), (190, .iastore, 191, 0, 0), (191, .return_, 192, 0, 0)]
def mt_X9_readRule : pm_T := (RX9, yX9_readRule, cX9_readRule, 10, none, 2, gm_X9_readRule)
def gm_X9_readEdition : List pe_T := [(0, .aload_n 0, 1, 0, 0), (1, .invokevirtual 172, 4, 130, 19), (4, .istore_n 1, 5, 0, 0), (5, .aload_n 0, 6, 0, 0), (6, .getfield 147, 9, 34, 19), (9, .iconst 3, 10, 0, 0), (10, .if_icmp .ne 13, 13, 23, 0), (13, .iload_n 1, 14, 0, 0), (14, .iconst 3, 15, 0, 0), (15, .if_icmp .le 8, 18, 23, 0), (18, .aload_n 0, 19, 0, 0), (19, .iconst 2, 20, 0, 0), (20, .invokevirtual 165, 23, 127, 19), (23, .aload_n 0, 24, 0, 0), (24, .getfield 147, 27, 34, 19), (27, .iconst 3, 28, 0, 0), (28, .if_icmp .ne 23, 31, 51, 0), (31, .iload_n 1, 32, 0, 0), (32, .iconst 4, 33, 0, 0), (33, .if_icmp .ge 18, 36, 51, 0), (36, .aload_n 0, 37, 0, 0), (37, .getfield 22, 40, 6, 19), (40, .iload_n 1, 41, 0, 0), (41, .iaload, 42, 0, 0), (42, .iconst 4, 43, 0, 0), (43, .if_icmp .ne 8, 46, 51, 0), (46, .aload_n 0, 47, 0, 0), (47, .iconst 3, 48, 0, 0), (48, .invokevirtual 165, 51, 127, 19), (51, .aload_n 0, 52, 0, 0), (52, .aload_n 0, 53, 0, 0), (53, .getfield 147, 56, 34, 19), (56, .iconst 3, 57, 0, 0), (57, .if_icmp .ne 7, 60, 64, 0), (60, .iconst 1, 61, 0, 0), (61, .goto 4, 64, 65, 0), (64, .iconst 0, 65, 0, 0), (65, .invokevirtual 176, 68, 128, 19), (68, .aload_n 0, 69, 0, 0), (69, .getfield 159, 72, 37, 19), (72, .ifCond .le 4, 75, 76, 0), (75, .return_, 76, 0, 0), (76, .iconst 4, 77, 0, 0), (77, .iload_n 1, 78, 0, 0), (78, .imul, 79, 0, 0), (79, .aload_n 0, 80, 0, 0), (80, .getfield 22, 83, 6, 19), (83, .iload_n 1, 84, 0, 0), (84, .iaload, 85, 0, 0), (85, .iadd, 86, 0, 0), (86, .istore_n 2, 87, 0, 0), (87, .aload_n 0, 88, 0, 0), (88, .getfield 25, 91, 7, 19), (91, .iload_n 2, 92, 0, 0), (92, .iconst 0, 93, 0, 0), (93, .iastore, 94, 0, 0), (94, .aload_n 0, 95, 0, 0), (95, .getfield 159, 98, 37, 19), (98, .ifCond .ne 22, 101, 120, 0), (101, .aload_n 0, 102, 0, 0), (102, .invokevirtual 180, 105, 129, 19), (105, .ldc2_w 195, 108, 0, 2003330414), (108, .lcmp, 109, 0, 0), (109, .ifCond .ne 11, 112, 120, 0), (112, .aload_n 0, 113, 0, 0), (113, .iload_n 2, 114, 0, 0), (114, .invokevirtual 197, 117, 133, 19), (117, .goto (-23), 120, 94, 0), (120, .aload_n 0, 121, 0, 0), (121, .getfield 22, 124, 6, 19), (124, .iload_n 1, 125, 0, 0), (125, .dup2, 126, 0, 0), (126, .iaload, 127, 0, 0), (127, .iconst 1, 128, 0, 0), (128, .iadd, 129, 0, 0), (129, .iastore, 130, 0, 0), (130, .return_, 131, 0, 0)]
def mt_X9_readEdition : pm_T := (RX9, yX9_readEdition, cX9_readEdition, 3, none, 1, gm_X9_readEdition)
def gm_X9_readSaying : List pe_T := [(0, .aload_n 0, 1, 0, 0), (1, .getfield 200, 4, 13, 19), (4, .istore_n 1, 5, 0, 0), (5, .aload_n 0, 6, 0, 0), (6, .getfield 40, 9, 14, 19), (9, .iload_n 1, 10, 0, 0), (10, .aload_n 0, 11, 0, 0), (11, .iconst 0, 12, 0, 0), (12, .iconst 3, 13, 0, 0), (13, .iconst 0, 14, 0, 0), (14, .invokevirtual 188, 17, 131, 19), (17, .iastore, 18, 0, 0), (18, .aload_n 0, 19, 0, 0), (19, .getfield 43, 22, 15, 19), (22, .iload_n 1, 23, 0, 0), (23, .aload_n 0, 24, 0, 0), (24, .iconst 0, 25, 0, 0), (25, .iconst 3, 26, 0, 0), (26, .iconst 0, 27, 0, 0), (27, .invokevirtual 188, 30, 131, 19), (30, .iastore, 31, 0, 0), (31, .aload_n 0, 32, 0, 0), (32, .getfield 46, 35, 16, 19), (35, .iload_n 1, 36, 0, 0), (36, .aload_n 0, 37, 0, 0), (37, .iconst 0, 38, 0, 0), (38, .iconst 3, 39, 0, 0), (39, .iconst 1, 40, 0, 0), (40, .aload_n 0, 41, 0, 0), (41, .getfield 40, 44, 14, 19), (44, .iload_n 1, 45, 0, 0), (45, .iaload, 46, 0, 0), (46, .ishl, 47, 0, 0), (47, .invokevirtual 188, 50, 131, 19), (50, .iastore, 51, 0, 0), (51, .aload_n 0, 52, 0, 0), (52, .getfield 49, 55, 17, 19), (55, .iload_n 1, 56, 0, 0), (56, .aload_n 0, 57, 0, 0), (57, .iconst 0, 58, 0, 0), (58, .bipush 7, 60, 0, 0), (60, .iconst 0, 61, 0, 0), (61, .invokevirtual 188, 64, 131, 19), (64, .iastore, 65, 0, 0), (65, .aload_n 0, 66, 0, 0), (66, .getfield 52, 69, 18, 19), (69, .iload_n 1, 70, 0, 0), (70, .aload_n 0, 71, 0, 0), (71, .aload_n 0, 72, 0, 0), (72, .getfield 49, 75, 17, 19), (75, .iload_n 1, 76, 0, 0), (76, .iaload, 77, 0, 0), (77, .bipush 7, 79, 0, 0), (79, .iconst 0, 80, 0, 0), (80, .invokevirtual 188, 83, 131, 19), (83, .iastore, 84, 0, 0), (84, .aload_n 0, 85, 0, 0), (85, .getfield 55, 88, 19, 19), (88, .iload_n 1, 89, 0, 0), (89, .aload_n 0, 90, 0, 0), (90, .iconst 0, 91, 0, 0), (91, .iconst 3, 92, 0, 0), (92, .iconst 0, 93, 0, 0), (93, .invokevirtual 188, 96, 131, 19), (96, .iastore, 97, 0, 0), (97, .aload_n 0, 98, 0, 0), (98, .getfield 58, 101, 20, 19), (101, .iload_n 1, 102, 0, 0), (102, .aload_n 0, 103, 0, 0), (103, .invokevirtual 180, 106, 129, 19), (106, .ldc2_w 184, 109, 0, 125779836236645), (109, .lcmp, 110, 0, 0), (110, .ifCond .ne 7, 113, 117, 0), (113, .iconst 1, 114, 0, 0), (114, .goto 4, 117, 118, 0), (117, .iconst 0, 118, 0, 0), (118, .bastore, 119, 0, 0), (119, .aload_n 0, 120, 0, 0), (120, .invokevirtual 192, 123, 132, 19), (123, .aload_n 0, 124, 0, 0), (124, .getfield 62, 127, 21, 19), (127, .iload_n 1, 128, 0, 0), (128, .iconst 0, 129, 0, 0), (129, .iastore, 130, 0, 0), (130, .iconst 0, 131, 0, 0), (131, .istore_n 2, 132, 0, 0), (132, .iload_n 2, 133, 0, 0), (133, .iconst 4, 134, 0, 0), (134, .if_icmp .ge 21, 137, 155, 0), (137, .aload_n 0, 138, 0, 0), (138, .getfield 65, 141, 22, 19), (141, .iconst 4, 142, 0, 0), (142, .iload_n 1, 143, 0, 0), (143, .imul, 144, 0, 0), (144, .iload_n 2, 145, 0, 0), (145, .iadd, 146, 0, 0), (146, .bipush 127, 148, 0, 0), (148, .iastore, 149, 0, 0), (149, .iinc 2 1, 152, 0, 0), (152, .goto (-20), 155, 132, 0), (155, .aload_n 0, 156, 0, 0), (156, .getfield 159, 159, 37, 19), (159, .ifCond .ne 107, 162, 266, 0), (162, .aload_n 0, 163, 0, 0), (163, .getfield 58, 166, 20, 19), (166, .iload_n 1, 167, 0, 0), (167, .baload, 168, 0, 0), (168, .ifCond .ne 98, 171, 266, 0), (171, .aload_n 0, 172, 0, 0), (172, .getfield 147, 175, 34, 19), (175, .iconst 3, 176, 0, 0), (176, .if_icmp .ne 90, 179, 266, 0), (179, .aload_n 0, 180, 0, 0), (180, .iconst 0, 181, 0, 0), (181, .iconst 3, 182, 0, 0), (182, .aload_n 0, 183, 0, 0), (183, .getfield 62, 186, 21, 19), (186, .iload_n 1, 187, 0, 0), (187, .iaload, 188, 0, 0), (188, .invokevirtual 188, 191, 131, 19), (191, .istore_n 2, 192, 0, 0), (192, .aload_n 0, 193, 0, 0), (193, .iconst 0, 194, 0, 0), (194, .iconst 5, 195, 0, 0), (195, .iconst 0, 196, 0, 0), (196, .invokevirtual 188, 199, 131, 19), (199, .istore_n 3, 200, 0, 0), (200, .aload_n 0, 201, 0, 0), (201, .iload_n 3, 202, 0, 0), (202, .iconst 5, 203, 0, 0), (203, .iconst 0, 204, 0, 0), (204, .invokevirtual 188, 207, 131, 19), (207, .istore 4, 209, 0, 0), (209, .aload_n 0, 210, 0, 0), (210, .iconst 0, 211, 0, 0), (211, .iconst 1, 212, 0, 0), (212, .iconst 0, 213, 0, 0), (213, .invokevirtual 188, 216, 131, 19), (216, .istore 5, 218, 0, 0), (218, .aload_n 0, 219, 0, 0), (219, .getfield 159, 222, 37, 19), (222, .ifCond .ne 41, 225, 263, 0), (225, .aload_n 0, 226, 0, 0), (226, .getfield 62, 229, 21, 19), (229, .iload_n 1, 230, 0, 0), (230, .dup2, 231, 0, 0), (231, .iaload, 232, 0, 0), (232, .iconst 1, 233, 0, 0), (233, .iload_n 2, 234, 0, 0), (234, .ishl, 235, 0, 0), (235, .ior, 236, 0, 0), (236, .iastore, 237, 0, 0), (237, .aload_n 0, 238, 0, 0), (238, .getfield 65, 241, 22, 19), (241, .iconst 4, 242, 0, 0), (242, .iload_n 1, 243, 0, 0), (243, .imul, 244, 0, 0), (244, .iload_n 2, 245, 0, 0), (245, .iadd, 246, 0, 0), (246, .iconst 1, 247, 0, 0), (247, .iload 4, 249, 0, 0), (249, .iconst 1, 250, 0, 0), (250, .iadd, 251, 0, 0), (251, .ishl, 252, 0, 0), (252, .iconst 1, 253, 0, 0), (253, .iload_n 3, 254, 0, 0), (254, .ishl, 255, 0, 0), (255, .isub, 256, 0, 0), (256, .iload 5, 258, 0, 0), (258, .bipush 6, 260, 0, 0), (260, .ishl, 261, 0, 0), (261, .ior, 262, 0, 0), (262, .iastore, 263, 0, 0), (263, .goto (-108), 266, 155, 0), (266, .aload_n 0, 267, 0, 0), (267, .dup, 268, 0, 0), (268, .getfield 200, 271, 13, 19), (271, .iconst 1, 272, 0, 0), (272, .iadd, 273, 0, 0), (273, .putfield 200, 276, 13, 19), (276, .return_, 277, 0, 0)]
def mt_X9_readSaying : pm_T := (RX9, yX9_readSaying, cX9_readSaying, 6, none, 1, gm_X9_readSaying)
def gm_X9_readWithin : List pe_T := [(0, .aload_n 0, 1, 0, 0), (1, .iconst 0, 2, 0, 0), (2, .iconst 3, 3, 0, 0), (3, .iconst 0, 4, 0, 0), (4, .invokevirtual 188, 7, 131, 19), (7, .istore_n 1, 8, 0, 0), (8, .aload_n 0, 9, 0, 0), (9, .iconst 0, 10, 0, 0), (10, .bipush 99, 12, 0, 0), (12, .iconst 0, 13, 0, 0), (13, .invokevirtual 188, 16, 131, 19), (16, .istore_n 2, 17, 0, 0), (17, .iconst 0, 18, 0, 0), (18, .istore_n 3, 19, 0, 0), (19, .aload_n 0, 20, 0, 0), (20, .getfield 159, 23, 37, 19), (23, .ifCond .ne 45, 26, 68, 0), (26, .aload_n 0, 27, 0, 0), (27, .getfield 147, 30, 34, 19), (30, .iconst 3, 31, 0, 0), (31, .if_icmp .ne 37, 34, 68, 0), (34, .aload_n 0, 35, 0, 0), (35, .iconst 0, 36, 0, 0), (36, .iconst 3, 37, 0, 0), (37, .iload_n 3, 38, 0, 0), (38, .iconst 1, 39, 0, 0), (39, .iload_n 1, 40, 0, 0), (40, .ishl, 41, 0, 0), (41, .ior, 42, 0, 0), (42, .invokevirtual 188, 45, 131, 19), (45, .istore 4, 47, 0, 0), (47, .iload_n 3, 48, 0, 0), (48, .aload_n 0, 49, 0, 0), (49, .getfield 159, 52, 37, 19), (52, .ifCond .ne 10, 55, 62, 0), (55, .iconst 1, 56, 0, 0), (56, .iload 4, 58, 0, 0), (58, .ishl, 59, 0, 0), (59, .goto 4, 62, 63, 0), (62, .iconst 0, 63, 0, 0), (63, .ior, 64, 0, 0), (64, .istore_n 3, 65, 0, 0), (65, .goto (-46), 68, 19, 0), (68, .aload_n 0, 69, 0, 0), (69, .getfield 159, 72, 37, 19), (72, .ifCond .ne 17, 75, 89, 0), (75, .aload_n 0, 76, 0, 0), (76, .getfield 81, 79, 27, 19), (79, .iload_n 1, 80, 0, 0), (80, .iload_n 2, 81, 0, 0), (81, .iastore, 82, 0, 0), (82, .aload_n 0, 83, 0, 0), (83, .getfield 84, 86, 28, 19), (86, .iload_n 1, 87, 0, 0), (87, .iload_n 3, 88, 0, 0), (88, .iastore, 89, 0, 0), (89, .return_, 90, 0, 0)]
def mt_X9_readWithin : pm_T := (RX9, yX9_readWithin, cX9_readWithin, 5, none, 1, gm_X9_readWithin)
def gm_X9_readOne : List pe_T := [(0, .aload_n 0, 1, 0, 0), (1, .invokevirtual 180, 4, 129, 19), (4, .lstore_n 1, 5, 0, 0), (5, .lload_n 1, 6, 0, 0), (6, .ldc2_w 203, 9, 0, 126862485974631), (9, .lcmp, 10, 0, 0), (10, .ifCond .ne 17, 13, 27, 0), (13, .aload_n 0, 14, 0, 0), (14, .getfield 200, 17, 13, 19), (17, .bipush 20, 19, 0, 0), (19, .if_icmp .ne 8, 22, 27, 0), (22, .aload_n 0, 23, 0, 0), (23, .iconst 3, 24, 0, 0), (24, .invokevirtual 165, 27, 127, 19), (27, .aload_n 0, 28, 0, 0), (28, .lload_n 1, 29, 0, 0), (29, .ldc2_w 205, 32, 0, 28539376735186798), (32, .lcmp, 33, 0, 0), (33, .ifCond .eq 27, 36, 60, 0), (36, .lload_n 1, 37, 0, 0), (37, .ldc2_w 203, 40, 0, 126862485974631), (40, .lcmp, 41, 0, 0), (41, .ifCond .eq 19, 44, 60, 0), (44, .lload_n 1, 45, 0, 0), (45, .ldc2_w 207, 48, 0, 7631481), (48, .lcmp, 49, 0, 0), (49, .ifCond .eq 11, 52, 60, 0), (52, .lload_n 1, 53, 0, 0), (53, .ldc2_w 209, 56, 0, 131294808271214), (56, .lcmp, 57, 0, 0), (57, .ifCond .ne 7, 60, 64, 0), (60, .iconst 1, 61, 0, 0), (61, .goto 4, 64, 65, 0), (64, .iconst 0, 65, 0, 0), (65, .invokevirtual 176, 68, 128, 19), (68, .aload_n 0, 69, 0, 0), (69, .getfield 159, 72, 37, 19), (72, .ifCond .le 4, 75, 76, 0), (75, .return_, 76, 0, 0), (76, .lload_n 1, 77, 0, 0), (77, .ldc2_w 205, 80, 0, 28539376735186798), (80, .lcmp, 81, 0, 0), (81, .ifCond .ne 10, 84, 91, 0), (84, .aload_n 0, 85, 0, 0), (85, .invokevirtual 211, 88, 134, 19), (88, .goto 83, 91, 171, 0), (91, .lload_n 1, 92, 0, 0), (92, .ldc2_w 203, 95, 0, 126862485974631), (95, .lcmp, 96, 0, 0), (96, .ifCond .ne 10, 99, 106, 0), (99, .aload_n 0, 100, 0, 0), (100, .invokevirtual 214, 103, 135, 19), (103, .goto 68, 106, 171, 0), (106, .lload_n 1, 107, 0, 0), (107, .ldc2_w 207, 110, 0, 7631481), (110, .lcmp, 111, 0, 0), (111, .ifCond .ne 56, 114, 167, 0), (114, .aload_n 0, 115, 0, 0), (115, .iconst 0, 116, 0, 0), (116, .iconst 3, 117, 0, 0), (117, .iconst 0, 118, 0, 0), (118, .invokevirtual 188, 121, 131, 19), (121, .istore_n 3, 122, 0, 0), (122, .aload_n 0, 123, 0, 0), (123, .iconst 0, 124, 0, 0), (124, .iconst 3, 125, 0, 0), (125, .iconst 0, 126, 0, 0), (126, .invokevirtual 188, 129, 131, 19), (129, .istore 4, 131, 0, 0), (131, .aload_n 0, 132, 0, 0), (132, .iconst 0, 133, 0, 0), (133, .bipush 15, 135, 0, 0), (135, .iconst 0, 136, 0, 0), (136, .invokevirtual 188, 139, 131, 19), (139, .istore 5, 141, 0, 0), (141, .aload_n 0, 142, 0, 0), (142, .getfield 159, 145, 37, 19), (145, .ifCond .ne 19, 148, 164, 0), (148, .aload_n 0, 149, 0, 0), (149, .getfield 71, 152, 24, 19), (152, .iconst 4, 153, 0, 0), (153, .iload_n 3, 154, 0, 0), (154, .imul, 155, 0, 0), (155, .iload 4, 157, 0, 0), (157, .iadd, 158, 0, 0), (158, .dup2, 159, 0, 0), (159, .iaload, 160, 0, 0), (160, .iload 5, 162, 0, 0), (162, .ior, 163, 0, 0), (163, .iastore, 164, 0, 0), (164, .goto 7, 167, 171, 0), (167, .aload_n 0, 168, 0, 0), (168, .invokevirtual 217, 171, 136, 19), (171, .aload_n 0, 172, 0, 0), (172, .getfield 159, 175, 37, 19), (175, .ifCond .ne 20, 178, 195, 0), (178, .aload_n 0, 179, 0, 0), (179, .aload_n 0, 180, 0, 0), (180, .getfield 147, 183, 34, 19), (183, .iconst 4, 184, 0, 0), (184, .if_icmp .ne 7, 187, 191, 0), (187, .iconst 1, 188, 0, 0), (188, .goto 4, 191, 192, 0), (191, .iconst 0, 192, 0, 0), (192, .invokevirtual 176, 195, 128, 19), (195, .return_, 196, 0, 0)]
def mt_X9_readOne : pm_T := (RX9, yX9_readOne, cX9_readOne, 6, none, 1, gm_X9_readOne)
def gm_X9_laws : List pe_T := [(0, .aload_n 0, 1, 0, 0), (1, .iconst 0, 2, 0, 0), (2, .putfield 102, 5, 0, 19), (5, .aload_n 0, 6, 0, 0), (6, .aload_n 0, 7, 0, 0), (7, .getfield 129, 10, 30, 19), (10, .putfield 135, 13, 32, 19), (13, .aload_n 0, 14, 0, 0), (14, .iconst 0, 15, 0, 0), (15, .putfield 129, 18, 30, 19), (18, .aload_n 0, 19, 0, 0), (19, .iconst 0, 20, 0, 0), (20, .putfield 138, 23, 33, 19), (23, .aload_n 0, 24, 0, 0), (24, .iconst 0, 25, 0, 0), (25, .putfield 159, 28, 37, 19), (28, .aload_n 0, 29, 0, 0), (29, .aload_n 0, 30, 0, 0), (30, .getfield 220, 33, 12, 19), (33, .putfield 200, 36, 13, 19), (36, .iconst 0, 37, 0, 0), (37, .istore_n 1, 38, 0, 0), (38, .iload_n 1, 39, 0, 0), (39, .bipush 16, 41, 0, 0), (41, .if_icmp .ge 21, 44, 62, 0), (44, .aload_n 0, 45, 0, 0), (45, .getfield 71, 48, 24, 19), (48, .iload_n 1, 49, 0, 0), (49, .aload_n 0, 50, 0, 0), (50, .getfield 68, 53, 23, 19), (53, .iload_n 1, 54, 0, 0), (54, .iaload, 55, 0, 0), (55, .iastore, 56, 0, 0), (56, .iinc 1 1, 59, 0, 0), (59, .goto (-21), 62, 38, 0), (62, .iconst 0, 63, 0, 0), (63, .istore_n 1, 64, 0, 0), (64, .iload_n 1, 65, 0, 0), (65, .iconst 4, 66, 0, 0), (66, .if_icmp .ge 45, 69, 111, 0), (69, .aload_n 0, 70, 0, 0), (70, .getfield 22, 73, 6, 19), (73, .iload_n 1, 74, 0, 0), (74, .aload_n 0, 75, 0, 0), (75, .getfield 19, 78, 5, 19), (78, .iload_n 1, 79, 0, 0), (79, .iaload, 80, 0, 0), (80, .iastore, 81, 0, 0), (81, .aload_n 0, 82, 0, 0), (82, .getfield 81, 85, 27, 19), (85, .iload_n 1, 86, 0, 0), (86, .aload_n 0, 87, 0, 0), (87, .getfield 75, 90, 25, 19), (90, .iload_n 1, 91, 0, 0), (91, .iaload, 92, 0, 0), (92, .iastore, 93, 0, 0), (93, .aload_n 0, 94, 0, 0), (94, .getfield 84, 97, 28, 19), (97, .iload_n 1, 98, 0, 0), (98, .aload_n 0, 99, 0, 0), (99, .getfield 78, 102, 26, 19), (102, .iload_n 1, 103, 0, 0), (103, .iaload, 104, 0, 0), (104, .iastore, 105, 0, 0), (105, .iinc 1 1, 108, 0, 0), (108, .goto (-44), 111, 64, 0), (111, .aload_n 0, 112, 0, 0), (112, .invokevirtual 169, 115, 126, 19), (115, .aload_n 0, 116, 0, 0), (116, .getfield 159, 119, 37, 19), (119, .ifCond .ne 18, 122, 137, 0), (122, .aload_n 0, 123, 0, 0), (123, .getfield 147, 126, 34, 19), (126, .iconst 1, 127, 0, 0), (127, .if_icmp .eq 10, 130, 137, 0), (130, .aload_n 0, 131, 0, 0), (131, .invokevirtual 223, 134, 137, 19), (134, .goto (-19), 137, 115, 0), (137, .aload_n 0, 138, 0, 0), (138, .getfield 159, 141, 37, 19), (141, .ifCond .le 19, 144, 160, 0), (144, .aload_n 0, 145, 0, 0), (145, .aload_n 0, 146, 0, 0), (146, .getfield 159, 149, 37, 19), (149, .putfield 226, 152, 31, 19), (152, .ldc 229, 154, 0, (-1000100)), (154, .aload_n 0, 155, 0, 0), (155, .getfield 162, 158, 38, 19), (158, .isub, 159, 0, 0), (159, .ireturn, 160, 0, 0), (160, .aload_n 0, 161, 0, 0), (161, .aload_n 0, 162, 0, 0), (162, .getfield 200, 165, 13, 19), (165, .putfield 220, 168, 12, 19), (168, .iconst 0, 169, 0, 0), (169, .istore_n 1, 170, 0, 0), (170, .iload_n 1, 171, 0, 0), (171, .bipush 16, 173, 0, 0), (173, .if_icmp .ge 21, 176, 194, 0), (176, .aload_n 0, 177, 0, 0), (177, .getfield 68, 180, 23, 19), (180, .iload_n 1, 181, 0, 0), (181, .aload_n 0, 182, 0, 0), (182, .getfield 71, 185, 24, 19), (185, .iload_n 1, 186, 0, 0), (186, .iaload, 187, 0, 0), (187, .iastore, 188, 0, 0), (188, .iinc 1 1, 191, 0, 0), (191, .goto (-21), 194, 170, 0), (194, .iconst 0, 195, 0, 0), (195, .istore_n 1, 196, 0, 0), (196, .iload_n 1, 197, 0, 0), (197, .iconst 4, 198, 0, 0), (198, .if_icmp .ge 45, 201, 243, 0), (201, .aload_n 0, 202, 0, 0), (202, .getfield 19, 205, 5, 19), (205, .iload_n 1, 206, 0, 0), (206, .aload_n 0, 207, 0, 0), (207, .getfield 22, 210, 6, 19), (210, .iload_n 1, 211, 0, 0), (211, .iaload, 212, 0, 0), (212, .iastore, 213, 0, 0), (213, .aload_n 0, 214, 0, 0), (214, .getfield 75, 217, 25, 19), (217, .iload_n 1, 218, 0, 0), (218, .aload_n 0, 219, 0, 0), (219, .getfield 81, 222, 27, 19), (222, .iload_n 1, 223, 0, 0), (223, .iaload, 224, 0, 0), (224, .iastore, 225, 0, 0), (225, .aload_n 0, 226, 0, 0), (226, .getfield 78, 229, 26, 19), (229, .iload_n 1, 230, 0, 0), (230, .aload_n 0, 231, 0, 0), (231, .getfield 84, 234, 28, 19), (234, .iload_n 1, 235, 0, 0), (235, .iaload, 236, 0, 0), (236, .iastore, 237, 0, 0), (237, .iinc 1 1, 240, 0, 0), (240, .goto (-44), 243, 196, 0), (243, .aload_n 0, 244, 0, 0), (244, .getfield 220, 247, 12, 19), (247, .ireturn, 248, 0, 0)]
def mt_X9_laws : pm_T := (RX9, yX9_laws, cX9_laws, 2, (some .int), 1, gm_X9_laws)
def gm_X9_fault : List pe_T := [(0, .aload_n 0, 1, 0, 0), (1, .iconst 0, 2, 0, 0), (2, .putfield 102, 5, 0, 19), (5, .aload_n 0, 6, 0, 0), (6, .getfield 226, 9, 31, 19), (9, .ireturn, 10, 0, 0)]
def mt_X9_fault : pm_T := (RX9, yX9_fault, cX9_fault, 1, (some .int), 1, gm_X9_fault)
def gm_X9_isService : List pe_T := [(0, .iload_n 0, 1, 0, 0), (1, .i2l, 2, 0, 0), (2, .lconst 0, 3, 0, 0), (3, .ldc2_w 230, 6, 0, 3), (6, .invokestatic 112, 9, 115, 0), (9, .ireturn, 10, 0, 0)]
def mt_X9_isService : pm_T := (RX9, yX9_isService, cX9_isService, 1, (some .boolean), 1, gm_X9_isService)
def gm_X9_isEdition : List pe_T := [(0, .iload_n 1, 1, 0, 0), (1, .invokestatic 232, 4, 140, 0), (4, .ifCond .eq 25, 7, 29, 0), (7, .iload_n 2, 8, 0, 0), (8, .i2l, 9, 0, 0), (9, .lconst 0, 10, 0, 0), (10, .aload_n 0, 11, 0, 0), (11, .getfield 19, 14, 5, 19), (14, .iload_n 1, 15, 0, 0), (15, .iaload, 16, 0, 0), (16, .iconst 1, 17, 0, 0), (17, .isub, 18, 0, 0), (18, .i2l, 19, 0, 0), (19, .invokestatic 112, 22, 115, 0), (22, .ifCond .eq 7, 25, 29, 0), (25, .iconst 1, 26, 0, 0), (26, .goto 4, 29, 30, 0), (29, .iconst 0, 30, 0, 0), (30, .ireturn, 31, 0, 0)]
def mt_X9_isEdition : pm_T := (RX9, yX9_isEdition, cX9_isEdition, 3, (some .boolean), 3, gm_X9_isEdition)
def gm_X9_isSaying : List pe_T := [(0, .iload_n 1, 1, 0, 0), (1, .i2l, 2, 0, 0), (2, .lconst 0, 3, 0, 0), (3, .aload_n 0, 4, 0, 0), (4, .getfield 220, 7, 12, 19), (7, .iconst 1, 8, 0, 0), (8, .isub, 9, 0, 0), (9, .i2l, 10, 0, 0), (10, .invokestatic 112, 13, 115, 0), (13, .ireturn, 14, 0, 0)]
def mt_X9_isSaying : pm_T := (RX9, yX9_isSaying, cX9_isSaying, 2, (some .boolean), 2, gm_X9_isSaying)
def gm_X9_editions : List pe_T := [(0, .aload_n 0, 1, 0, 0), (1, .iconst 0, 2, 0, 0), (2, .putfield 102, 5, 0, 19), (5, .iload_n 1, 6, 0, 0), (6, .invokestatic 232, 9, 140, 0), (9, .ifCond .eq 12, 12, 21, 0), (12, .aload_n 0, 13, 0, 0), (13, .getfield 19, 16, 5, 19), (16, .iload_n 1, 17, 0, 0), (17, .iaload, 18, 0, 0), (18, .goto 5, 21, 23, 0), (21, .ldc 122, 23, 0, (-1000001)), (23, .ireturn, 24, 0, 0)]
def mt_X9_editions : pm_T := (RX9, yX9_editions, cX9_editions, 2, (some .int), 2, gm_X9_editions)
def gm_X9_answerOf : List pe_T := [(0, .iconst 4, 1, 0, 0), (1, .iload_n 1, 2, 0, 0), (2, .imul, 3, 0, 0), (3, .iload_n 2, 4, 0, 0), (4, .iadd, 5, 0, 0), (5, .istore 5, 7, 0, 0), (7, .bipush 6, 9, 0, 0), (9, .iload 5, 11, 0, 0), (11, .imul, 12, 0, 0), (12, .istore 6, 14, 0, 0), (14, .iload 6, 16, 0, 0), (16, .bipush 6, 18, 0, 0), (18, .iload 5, 20, 0, 0), (20, .imul, 21, 0, 0), (21, .aload_n 0, 22, 0, 0), (22, .getfield 25, 25, 7, 19), (25, .iload 5, 27, 0, 0), (27, .iaload, 28, 0, 0), (28, .iadd, 29, 0, 0), (29, .if_icmp .ge 64, 32, 93, 0), (32, .iload_n 3, 33, 0, 0), (33, .i2l, 34, 0, 0), (34, .aload_n 0, 35, 0, 0), (35, .getfield 28, 38, 8, 19), (38, .iload 6, 40, 0, 0), (40, .iaload, 41, 0, 0), (41, .i2l, 42, 0, 0), (42, .aload_n 0, 43, 0, 0), (43, .getfield 31, 46, 9, 19), (46, .iload 6, 48, 0, 0), (48, .iaload, 49, 0, 0), (49, .i2l, 50, 0, 0), (50, .invokestatic 112, 53, 115, 0), (53, .ifCond .eq 34, 56, 87, 0), (56, .aload_n 0, 57, 0, 0), (57, .getfield 34, 60, 10, 19), (60, .iload 6, 62, 0, 0), (62, .iaload, 63, 0, 0), (63, .iconst 3, 64, 0, 0), (64, .if_icmp .eq 15, 67, 79, 0), (67, .aload_n 0, 68, 0, 0), (68, .getfield 34, 71, 10, 19), (71, .iload 6, 73, 0, 0), (73, .iaload, 74, 0, 0), (74, .iload 4, 76, 0, 0), (76, .if_icmp .ne 11, 79, 87, 0), (79, .aload_n 0, 80, 0, 0), (80, .getfield 37, 83, 11, 19), (83, .iload 6, 85, 0, 0), (85, .iaload, 86, 0, 0), (86, .ireturn, 87, 0, 0), (87, .iinc 6 1, 90, 0, 0), (90, .goto (-76), 93, 14, 0), (93, .sipush 2401, 96, 0, 0), (96, .ireturn, 97, 0, 0)]
def mt_X9_answerOf : pm_T := (RX9, yX9_answerOf, cX9_answerOf, 7, (some .int), 5, gm_X9_answerOf)
def gm_X9_fieldIn : List pe_T := [(0, .iload_n 0, 1, 0, 0), (1, .istore_n 2, 2, 0, 0), (2, .iconst 0, 3, 0, 0), (3, .istore_n 3, 4, 0, 0), (4, .iload_n 3, 5, 0, 0), (5, .iload_n 1, 6, 0, 0), (6, .if_icmp .ge 14, 9, 20, 0), (9, .iload_n 2, 10, 0, 0), (10, .bipush 7, 12, 0, 0), (12, .idiv, 13, 0, 0), (13, .istore_n 2, 14, 0, 0), (14, .iinc 3 1, 17, 0, 0), (17, .goto (-13), 20, 4, 0), (20, .iload_n 2, 21, 0, 0), (21, .bipush 7, 23, 0, 0), (23, .irem, 24, 0, 0), (24, .ireturn, 25, 0, 0)]
def mt_X9_fieldIn : pm_T := (RX9, yX9_fieldIn, cX9_fieldIn, 4, (some .int), 2, gm_X9_fieldIn)
def gm_X9_answer : List pe_T := [(0, .aload_n 0, 1, 0, 0), (1, .iconst 0, 2, 0, 0), (2, .putfield 102, 5, 0, 19), (5, .aload_n 0, 6, 0, 0), (6, .iload_n 1, 7, 0, 0), (7, .iload_n 2, 8, 0, 0), (8, .invokevirtual 235, 11, 141, 19), (11, .ifCond .eq 41, 14, 52, 0), (14, .iload_n 3, 15, 0, 0), (15, .i2l, 16, 0, 0), (16, .lconst 0, 17, 0, 0), (17, .ldc2_w 110, 20, 0, 7), (20, .invokestatic 112, 23, 115, 0), (23, .ifCond .eq 29, 26, 52, 0), (26, .iload 4, 28, 0, 0), (28, .i2l, 29, 0, 0), (29, .lconst 0, 30, 0, 0), (30, .ldc2_w 120, 33, 0, 2), (33, .invokestatic 112, 36, 115, 0), (36, .ifCond .eq 16, 39, 52, 0), (39, .iload 5, 41, 0, 0), (41, .i2l, 42, 0, 0), (42, .lconst 0, 43, 0, 0), (43, .ldc2_w 239, 46, 0, 4), (46, .invokestatic 112, 49, 115, 0), (49, .ifCond .ne 6, 52, 55, 0), (52, .ldc 122, 54, 0, (-1000001)), (54, .ireturn, 55, 0, 0), (55, .aload_n 0, 56, 0, 0), (56, .iload_n 1, 57, 0, 0), (57, .iload_n 2, 58, 0, 0), (58, .iload_n 3, 59, 0, 0), (59, .iload 4, 61, 0, 0), (61, .invokevirtual 241, 64, 144, 19), (64, .istore 6, 66, 0, 0), (66, .iload 5, 68, 0, 0), (68, .iconst 4, 69, 0, 0), (69, .if_icmp .ne 19, 72, 88, 0), (72, .iload 6, 74, 0, 0), (74, .sipush 2401, 77, 0, 0), (77, .if_icmp .ne 7, 80, 84, 0), (80, .iconst 1, 81, 0, 0), (81, .goto 27, 84, 108, 0), (84, .iconst 0, 85, 0, 0), (85, .goto 23, 88, 108, 0), (88, .iload 6, 90, 0, 0), (90, .sipush 2401, 93, 0, 0), (93, .if_icmp .ne 8, 96, 101, 0), (96, .ldc 74, 98, 0, (-1000000)), (98, .goto 10, 101, 108, 0), (101, .iload 6, 103, 0, 0), (103, .iload 5, 105, 0, 0), (105, .invokestatic 245, 108, 145, 0), (108, .ireturn, 109, 0, 0)]
def mt_X9_answer : pm_T := (RX9, yX9_answer, cX9_answer, 7, (some .int), 6, gm_X9_answer)
def gm_X9_saying : List pe_T := [(0, .aload_n 0, 1, 0, 0), (1, .iconst 0, 2, 0, 0), (2, .putfield 102, 5, 0, 19), (5, .aload_n 0, 6, 0, 0), (6, .iload_n 1, 7, 0, 0), (7, .invokevirtual 249, 10, 142, 19), (10, .ifCond .eq 15, 13, 25, 0), (13, .iload_n 2, 14, 0, 0), (14, .i2l, 15, 0, 0), (15, .lconst 0, 16, 0, 0), (16, .ldc2_w 110, 19, 0, 7), (19, .invokestatic 112, 22, 115, 0), (22, .ifCond .ne 6, 25, 28, 0), (25, .ldc 122, 27, 0, (-1000001)), (27, .ireturn, 28, 0, 0), (28, .iload_n 2, 29, 0, 0), (29, .tableswitch 100 0 6 #[43, 50, 57, 64, 71, 78, 85], 72, 0, 0), (72, .aload_n 0, 73, 0, 0), (73, .getfield 40, 76, 14, 19), (76, .iload_n 1, 77, 0, 0), (77, .iaload, 78, 0, 0), (78, .ireturn, 79, 0, 0), (79, .aload_n 0, 80, 0, 0), (80, .getfield 43, 83, 15, 19), (83, .iload_n 1, 84, 0, 0), (84, .iaload, 85, 0, 0), (85, .ireturn, 86, 0, 0), (86, .aload_n 0, 87, 0, 0), (87, .getfield 46, 90, 16, 19), (90, .iload_n 1, 91, 0, 0), (91, .iaload, 92, 0, 0), (92, .ireturn, 93, 0, 0), (93, .aload_n 0, 94, 0, 0), (94, .getfield 49, 97, 17, 19), (97, .iload_n 1, 98, 0, 0), (98, .iaload, 99, 0, 0), (99, .ireturn, 100, 0, 0), (100, .aload_n 0, 101, 0, 0), (101, .getfield 52, 104, 18, 19), (104, .iload_n 1, 105, 0, 0), (105, .iaload, 106, 0, 0), (106, .ireturn, 107, 0, 0), (107, .aload_n 0, 108, 0, 0), (108, .getfield 55, 111, 19, 19), (111, .iload_n 1, 112, 0, 0), (112, .iaload, 113, 0, 0), (113, .ireturn, 114, 0, 0), (114, .aload_n 0, 115, 0, 0), (115, .getfield 58, 118, 20, 19), (118, .iload_n 1, 119, 0, 0), (119, .baload, 120, 0, 0), (120, .ifCond .eq 7, 123, 127, 0), (123, .iconst 1, 124, 0, 0), (124, .goto 4, 127, 128, 0), (127, .iconst 0, 128, 0, 0), (128, .ireturn, 129, 0, 0), (129, .aload_n 0, 130, 0, 0), (130, .getfield 62, 133, 21, 19), (133, .iload_n 1, 134, 0, 0), (134, .iaload, 135, 0, 0), (135, .ireturn, 136, 0, 0)]
def mt_X9_saying : pm_T := (RX9, yX9_saying, cX9_saying, 3, (some .int), 3, gm_X9_saying)
def gm_X9_isAbout : List pe_T := [(0, .iload_n 2, 1, 0, 0), (1, .i2l, 2, 0, 0), (2, .aload_n 0, 3, 0, 0), (3, .getfield 49, 6, 17, 19), (6, .iload_n 1, 7, 0, 0), (7, .iaload, 8, 0, 0), (8, .i2l, 9, 0, 0), (9, .aload_n 0, 10, 0, 0), (10, .getfield 52, 13, 18, 19), (13, .iload_n 1, 14, 0, 0), (14, .iaload, 15, 0, 0), (15, .i2l, 16, 0, 0), (16, .invokestatic 112, 19, 115, 0), (19, .ifCond .eq 27, 22, 46, 0), (22, .aload_n 0, 23, 0, 0), (23, .getfield 55, 26, 19, 19), (26, .iload_n 1, 27, 0, 0), (27, .iaload, 28, 0, 0), (28, .iconst 3, 29, 0, 0), (29, .if_icmp .eq 13, 32, 42, 0), (32, .aload_n 0, 33, 0, 0), (33, .getfield 55, 36, 19, 19), (36, .iload_n 1, 37, 0, 0), (37, .iaload, 38, 0, 0), (38, .iload_n 3, 39, 0, 0), (39, .if_icmp .ne 7, 42, 46, 0), (42, .iconst 1, 43, 0, 0), (43, .goto 4, 46, 47, 0), (46, .iconst 0, 47, 0, 0), (47, .ireturn, 48, 0, 0)]
def mt_X9_isAbout : pm_T := (RX9, yX9_isAbout, cX9_isAbout, 4, (some .boolean), 4, gm_X9_isAbout)
def gm_X9_wrongIn : List pe_T := [(0, .aload_n 0, 1, 0, 0), (1, .getfield 58, 4, 20, 19), (4, .iload_n 1, 5, 0, 0), (5, .baload, 6, 0, 0), (6, .ifCond .ne 10, 9, 16, 0), (9, .iload_n 2, 10, 0, 0), (10, .sipush 2401, 13, 0, 0), (13, .if_icmp .ne 31, 16, 44, 0), (16, .aload_n 0, 17, 0, 0), (17, .getfield 58, 20, 20, 19), (20, .iload_n 1, 21, 0, 0), (21, .baload, 22, 0, 0), (22, .iload_n 2, 23, 0, 0), (23, .sipush 2401, 26, 0, 0), (26, .if_icmp .ne 7, 29, 33, 0), (29, .iconst 1, 30, 0, 0), (30, .goto 4, 33, 34, 0), (33, .iconst 0, 34, 0, 0), (34, .if_icmp .ne 8, 37, 42, 0), (37, .ldc 74, 39, 0, (-1000000)), (39, .goto 4, 42, 43, 0), (42, .iconst 4, 43, 0, 0), (43, .ireturn, 44, 0, 0), (44, .iconst 0, 45, 0, 0), (45, .istore_n 3, 46, 0, 0), (46, .iload_n 3, 47, 0, 0), (47, .iconst 4, 48, 0, 0), (48, .if_icmp .ge 32, 51, 80, 0), (51, .aload_n 0, 52, 0, 0), (52, .getfield 65, 55, 22, 19), (55, .iconst 4, 56, 0, 0), (56, .iload_n 1, 57, 0, 0), (57, .imul, 58, 0, 0), (58, .iload_n 3, 59, 0, 0), (59, .iadd, 60, 0, 0), (60, .iaload, 61, 0, 0), (61, .iload_n 2, 62, 0, 0), (62, .iload_n 3, 63, 0, 0), (63, .invokestatic 245, 66, 145, 0), (66, .ishr, 67, 0, 0), (67, .iconst 1, 68, 0, 0), (68, .iand, 69, 0, 0), (69, .ifCond .ne 5, 72, 74, 0), (72, .iload_n 3, 73, 0, 0), (73, .ireturn, 74, 0, 0), (74, .iinc 3 1, 77, 0, 0), (77, .goto (-31), 80, 46, 0), (80, .ldc 74, 82, 0, (-1000000)), (82, .ireturn, 83, 0, 0)]
def mt_X9_wrongIn : pm_T := (RX9, yX9_wrongIn, cX9_wrongIn, 4, (some .int), 3, gm_X9_wrongIn)
def gm_X9_breaks : List pe_T := [(0, .iconst 0, 1, 0, 0), (1, .istore_n 3, 2, 0, 0), (2, .iload_n 3, 3, 0, 0), (3, .bipush 8, 5, 0, 0), (5, .if_icmp .ge 77, 8, 82, 0), (8, .iconst 0, 9, 0, 0), (9, .istore 4, 11, 0, 0), (11, .iload 4, 13, 0, 0), (13, .iconst 3, 14, 0, 0), (14, .if_icmp .ge 62, 17, 76, 0), (17, .aload_n 0, 18, 0, 0), (18, .iload_n 1, 19, 0, 0), (19, .iload_n 3, 20, 0, 0), (20, .iload 4, 22, 0, 0), (22, .invokevirtual 252, 25, 148, 19), (25, .ifCond .eq 45, 28, 70, 0), (28, .aload_n 0, 29, 0, 0), (29, .iload_n 1, 30, 0, 0), (30, .aload_n 0, 31, 0, 0), (31, .aload_n 0, 32, 0, 0), (32, .getfield 46, 35, 16, 19), (35, .iload_n 1, 36, 0, 0), (36, .iaload, 37, 0, 0), (37, .iload_n 2, 38, 0, 0), (38, .iload_n 3, 39, 0, 0), (39, .iload 4, 41, 0, 0), (41, .invokevirtual 241, 44, 144, 19), (44, .invokevirtual 256, 47, 149, 19), (47, .istore 5, 49, 0, 0), (49, .iload 5, 51, 0, 0), (51, .ldc 74, 53, 0, (-1000000)), (53, .if_icmp .eq 17, 56, 70, 0), (56, .bipush 64, 58, 0, 0), (58, .iload_n 3, 59, 0, 0), (59, .imul, 60, 0, 0), (60, .bipush 8, 62, 0, 0), (62, .iload 4, 64, 0, 0), (64, .imul, 65, 0, 0), (65, .iadd, 66, 0, 0), (66, .iload 5, 68, 0, 0), (68, .iadd, 69, 0, 0), (69, .ireturn, 70, 0, 0), (70, .iinc 4 1, 73, 0, 0), (73, .goto (-62), 76, 11, 0), (76, .iinc 3 1, 79, 0, 0), (79, .goto (-77), 82, 2, 0), (82, .ldc 74, 84, 0, (-1000000)), (84, .ireturn, 85, 0, 0)]
def mt_X9_breaks : pm_T := (RX9, yX9_breaks, cX9_breaks, 6, (some .int), 3, gm_X9_breaks)
def gm_X9_isKept : List pe_T := [(0, .aload_n 0, 1, 0, 0), (1, .iload_n 1, 2, 0, 0), (2, .iload_n 2, 3, 0, 0), (3, .invokevirtual 259, 6, 150, 19), (6, .ldc 74, 8, 0, (-1000000)), (8, .if_icmp .ne 7, 11, 15, 0), (11, .iconst 1, 12, 0, 0), (12, .goto 4, 15, 16, 0), (15, .iconst 0, 16, 0, 0), (16, .ireturn, 17, 0, 0)]
def mt_X9_isKept : pm_T := (RX9, yX9_isKept, cX9_isKept, 3, (some .boolean), 3, gm_X9_isKept)
def gm_X9_play : List pe_T := [(0, .aload_n 0, 1, 0, 0), (1, .iconst 0, 2, 0, 0), (2, .putfield 102, 5, 0, 19), (5, .aload_n 0, 6, 0, 0), (6, .iload_n 1, 7, 0, 0), (7, .invokevirtual 249, 10, 142, 19), (10, .ifCond .eq 27, 13, 37, 0), (13, .aload_n 0, 14, 0, 0), (14, .aload_n 0, 15, 0, 0), (15, .getfield 46, 18, 16, 19), (18, .iload_n 1, 19, 0, 0), (19, .iaload, 20, 0, 0), (20, .iload_n 2, 21, 0, 0), (21, .invokevirtual 235, 24, 141, 19), (24, .ifCond .eq 13, 27, 37, 0), (27, .iload_n 3, 28, 0, 0), (28, .i2l, 29, 0, 0), (29, .lconst 0, 30, 0, 0), (30, .lconst 1, 31, 0, 0), (31, .invokestatic 112, 34, 115, 0), (34, .ifCond .ne 6, 37, 40, 0), (37, .ldc 122, 39, 0, (-1000001)), (39, .ireturn, 40, 0, 0), (40, .aload_n 0, 41, 0, 0), (41, .iload_n 1, 42, 0, 0), (42, .iload_n 2, 43, 0, 0), (43, .invokevirtual 259, 46, 150, 19), (46, .istore 4, 48, 0, 0), (48, .iload_n 3, 49, 0, 0), (49, .iconst 1, 50, 0, 0), (50, .if_icmp .ne 8, 53, 58, 0), (53, .iload 4, 55, 0, 0), (55, .goto 15, 58, 70, 0), (58, .iload 4, 60, 0, 0), (60, .ldc 74, 62, 0, (-1000000)), (62, .if_icmp .ne 7, 65, 69, 0), (65, .iconst 1, 66, 0, 0), (66, .goto 4, 69, 70, 0), (69, .iconst 0, 70, 0, 0), (70, .ireturn, 71, 0, 0)]
def mt_X9_play : pm_T := (RX9, yX9_play, cX9_play, 5, (some .int), 4, gm_X9_play)
def gm_X9_isAllowedByAll : List pe_T := [(0, .iconst 1, 1, 0, 0), (1, .istore 7, 3, 0, 0), (3, .iconst 0, 4, 0, 0), (4, .istore 8, 6, 0, 0), (6, .iload 8, 8, 0, 0), (8, .aload_n 0, 9, 0, 0), (9, .getfield 220, 12, 12, 19), (12, .if_icmp .ge 92, 15, 104, 0), (15, .iload 7, 17, 0, 0), (17, .ifCond .eq 87, 20, 104, 0), (20, .aload_n 0, 21, 0, 0), (21, .getfield 40, 24, 14, 19), (24, .iload 8, 26, 0, 0), (26, .iaload, 27, 0, 0), (27, .iload_n 1, 28, 0, 0), (28, .if_icmp .ne 42, 31, 70, 0), (31, .aload_n 0, 32, 0, 0), (32, .getfield 43, 35, 15, 19), (35, .iload 8, 37, 0, 0), (37, .iaload, 38, 0, 0), (38, .iload_n 2, 39, 0, 0), (39, .if_icmp .ne 31, 42, 70, 0), (42, .aload_n 0, 43, 0, 0), (43, .getfield 46, 46, 16, 19), (46, .iload 8, 48, 0, 0), (48, .iaload, 49, 0, 0), (49, .iload_n 3, 50, 0, 0), (50, .if_icmp .ne 20, 53, 70, 0), (53, .aload_n 0, 54, 0, 0), (54, .iload 8, 56, 0, 0), (56, .iload 4, 58, 0, 0), (58, .iload 5, 60, 0, 0), (60, .invokevirtual 252, 63, 148, 19), (63, .ifCond .eq 7, 66, 70, 0), (66, .iconst 1, 67, 0, 0), (67, .goto 4, 70, 71, 0), (70, .iconst 0, 71, 0, 0), (71, .istore 9, 73, 0, 0), (73, .iload 9, 75, 0, 0), (75, .ifCond .eq 16, 78, 91, 0), (78, .aload_n 0, 79, 0, 0), (79, .iload 8, 81, 0, 0), (81, .iload 6, 83, 0, 0), (83, .invokevirtual 256, 86, 149, 19), (86, .ldc 74, 88, 0, (-1000000)), (88, .if_icmp .ne 7, 91, 95, 0), (91, .iconst 1, 92, 0, 0), (92, .goto 4, 95, 96, 0), (95, .iconst 0, 96, 0, 0), (96, .istore 7, 98, 0, 0), (98, .iinc 8 1, 101, 0, 0), (101, .goto (-95), 104, 6, 0), (104, .iload 7, 106, 0, 0), (106, .ireturn, 107, 0, 0)]
def mt_X9_isAllowedByAll : pm_T := (RX9, yX9_isAllowedByAll, cX9_isAllowedByAll, 10, (some .boolean), 7, gm_X9_isAllowedByAll)
def gm_X9_standIn : List pe_T := [(0, .aload_n 0, 1, 0, 0), (1, .iconst 0, 2, 0, 0), (2, .putfield 102, 5, 0, 19), (5, .iload_n 1, 6, 0, 0), (6, .invokestatic 232, 9, 140, 0), (9, .ifCond .eq 59, 12, 68, 0), (12, .iload_n 2, 13, 0, 0), (13, .i2l, 14, 0, 0), (14, .lconst 0, 15, 0, 0), (15, .ldc2_w 230, 18, 0, 3), (18, .invokestatic 112, 21, 115, 0), (21, .ifCond .eq 47, 24, 68, 0), (24, .iload_n 3, 25, 0, 0), (25, .invokestatic 232, 28, 140, 0), (28, .ifCond .eq 40, 31, 68, 0), (31, .iload_n 1, 32, 0, 0), (32, .iload_n 3, 33, 0, 0), (33, .if_icmp .eq 35, 36, 68, 0), (36, .iload 4, 38, 0, 0), (38, .i2l, 39, 0, 0), (39, .lconst 0, 40, 0, 0), (40, .ldc2_w 110, 43, 0, 7), (43, .invokestatic 112, 46, 115, 0), (46, .ifCond .eq 22, 49, 68, 0), (49, .iload 5, 51, 0, 0), (51, .i2l, 52, 0, 0), (52, .lconst 0, 53, 0, 0), (53, .ldc2_w 120, 56, 0, 2), (56, .invokestatic 112, 59, 115, 0), (59, .ifCond .eq 9, 62, 68, 0), (62, .iload 6, 64, 0, 0), (64, .iconst (-1), 65, 0, 0), (65, .if_icmp .ge 6, 68, 71, 0), (68, .ldc 122, 70, 0, (-1000001)), (70, .ireturn, 71, 0, 0), (71, .iconst 0, 72, 0, 0), (72, .istore 7, 74, 0, 0), (74, .iconst 0, 75, 0, 0), (75, .istore 8, 77, 0, 0), (77, .iload 8, 79, 0, 0), (79, .sipush 2401, 82, 0, 0), (82, .if_icmp .gt 38, 85, 120, 0), (85, .aload_n 0, 86, 0, 0), (86, .iload_n 1, 87, 0, 0), (87, .iload_n 2, 88, 0, 0), (88, .iload_n 3, 89, 0, 0), (89, .iload 4, 91, 0, 0), (91, .iload 5, 93, 0, 0), (93, .iload 8, 95, 0, 0), (95, .invokevirtual 262, 98, 153, 19), (98, .ifCond .eq 16, 101, 114, 0), (101, .iload 7, 103, 0, 0), (103, .iload 6, 105, 0, 0), (105, .if_icmp .ne 6, 108, 111, 0), (108, .iload 8, 110, 0, 0), (110, .ireturn, 111, 0, 0), (111, .iinc 7 1, 114, 0, 0), (114, .iinc 8 1, 117, 0, 0), (117, .goto (-40), 120, 77, 0), (120, .iload 6, 122, 0, 0), (122, .iconst (-1), 123, 0, 0), (123, .if_icmp .ne 8, 126, 131, 0), (126, .iload 7, 128, 0, 0), (128, .goto 5, 131, 133, 0), (131, .ldc 74, 133, 0, (-1000000)), (133, .ireturn, 134, 0, 0)]
def mt_X9_standIn : pm_T := (RX9, yX9_standIn, cX9_standIn, 9, (some .int), 7, gm_X9_standIn)
def gm_X9_allows : List pe_T := [(0, .aload_n 0, 1, 0, 0), (1, .iconst 0, 2, 0, 0), (2, .putfield 102, 5, 0, 19), (5, .aload_n 0, 6, 0, 0), (6, .iload_n 1, 7, 0, 0), (7, .invokevirtual 249, 10, 142, 19), (10, .ifCond .eq 23, 13, 33, 0), (13, .iload_n 2, 14, 0, 0), (14, .invokestatic 116, 17, 117, 0), (17, .ifCond .eq 16, 20, 33, 0), (20, .iload 4, 22, 0, 0), (22, .i2l, 23, 0, 0), (23, .lconst 1, 24, 0, 0), (24, .ldc2_w 266, 27, 0, 20), (27, .invokestatic 112, 30, 115, 0), (30, .ifCond .ne 6, 33, 36, 0), (33, .ldc 122, 35, 0, (-1000001)), (35, .ireturn, 36, 0, 0), (36, .aload_n 0, 37, 0, 0), (37, .getfield 7, 40, 2, 19), (40, .iload_n 2, 41, 0, 0), (41, .iaload, 42, 0, 0), (42, .ifCond .ge 9, 45, 51, 0), (45, .aload_n 0, 46, 0, 0), (46, .iconst 1, 47, 0, 0), (47, .invokevirtual 123, 50, 116, 19), (50, .ireturn, 51, 0, 0), (51, .iload_n 3, 52, 0, 0), (52, .ifCond .lt 20, 55, 72, 0), (55, .iload_n 3, 56, 0, 0), (56, .i2l, 57, 0, 0), (57, .iload 4, 59, 0, 0), (59, .i2l, 60, 0, 0), (60, .ladd, 61, 0, 0), (61, .aload_n 0, 62, 0, 0), (62, .getfield 13, 65, 3, 19), (65, .iload_n 2, 66, 0, 0), (66, .iaload, 67, 0, 0), (67, .i2l, 68, 0, 0), (68, .lcmp, 69, 0, 0), (69, .ifCond .le 9, 72, 78, 0), (72, .aload_n 0, 73, 0, 0), (73, .iconst 2, 74, 0, 0), (74, .invokevirtual 123, 77, 116, 19), (77, .ireturn, 78, 0, 0), (78, .iconst 0, 79, 0, 0), (79, .istore 5, 81, 0, 0), (81, .bipush 40, 83, 0, 0), (83, .iload_n 2, 84, 0, 0), (84, .imul, 85, 0, 0), (85, .iload_n 3, 86, 0, 0), (86, .iadd, 87, 0, 0), (87, .istore 6, 89, 0, 0), (89, .iload 6, 91, 0, 0), (91, .bipush 40, 93, 0, 0), (93, .iload_n 2, 94, 0, 0), (94, .imul, 95, 0, 0), (95, .iload_n 3, 96, 0, 0), (96, .iadd, 97, 0, 0), (97, .iload 4, 99, 0, 0), (99, .iadd, 100, 0, 0), (100, .if_icmp .ge 57, 103, 157, 0), (103, .aload_n 0, 104, 0, 0), (104, .getfield 16, 107, 4, 19), (107, .iload 6, 109, 0, 0), (109, .iaload, 110, 0, 0), (110, .i2l, 111, 0, 0), (111, .lconst 0, 112, 0, 0), (112, .ldc2_w 268, 115, 0, 2401), (115, .invokestatic 112, 118, 115, 0), (118, .ifCond .ne 6, 121, 124, 0), (121, .ldc 122, 123, 0, (-1000001)), (123, .ireturn, 124, 0, 0), (124, .iload 5, 126, 0, 0), (126, .aload_n 0, 127, 0, 0), (127, .iload_n 1, 128, 0, 0), (128, .aload_n 0, 129, 0, 0), (129, .getfield 16, 132, 4, 19), (132, .iload 6, 134, 0, 0), (134, .iaload, 135, 0, 0), (135, .invokevirtual 256, 138, 149, 19), (138, .ldc 74, 140, 0, (-1000000)), (140, .if_icmp .ne 7, 143, 147, 0), (143, .iconst 1, 144, 0, 0), (144, .goto 4, 147, 148, 0), (147, .iconst 0, 148, 0, 0), (148, .iadd, 149, 0, 0), (149, .istore 5, 151, 0, 0), (151, .iinc 6 1, 154, 0, 0), (154, .goto (-65), 157, 89, 0), (157, .aload_n 0, 158, 0, 0), (158, .iconst 0, 159, 0, 0), (159, .putfield 106, 162, 1, 19), (162, .iload 5, 164, 0, 0), (164, .ireturn, 165, 0, 0)]
def mt_X9_allows : pm_T := (RX9, yX9_allows, cX9_allows, 7, (some .int), 5, gm_X9_allows)
def gm_X9_noMore : List pe_T := [(0, .aload_n 0, 1, 0, 0), (1, .iconst 0, 2, 0, 0), (2, .putfield 102, 5, 0, 19), (5, .aload_n 0, 6, 0, 0), (6, .iload_n 1, 7, 0, 0), (7, .invokevirtual 249, 10, 142, 19), (10, .ifCond .eq 11, 13, 21, 0), (13, .aload_n 0, 14, 0, 0), (14, .iload_n 2, 15, 0, 0), (15, .invokevirtual 249, 18, 142, 19), (18, .ifCond .ne 6, 21, 24, 0), (21, .ldc 122, 23, 0, (-1000001)), (23, .ireturn, 24, 0, 0), (24, .aload_n 0, 25, 0, 0), (25, .getfield 46, 28, 16, 19), (28, .iload_n 1, 29, 0, 0), (29, .iaload, 30, 0, 0), (30, .aload_n 0, 31, 0, 0), (31, .getfield 46, 34, 16, 19), (34, .iload_n 2, 35, 0, 0), (35, .iaload, 36, 0, 0), (36, .if_icmp .eq 7, 39, 43, 0), (39, .ldc_w 270, 42, 0, (-1000002)), (42, .ireturn, 43, 0, 0), (43, .aload_n 0, 44, 0, 0), (44, .getfield 49, 47, 17, 19), (47, .iload_n 2, 48, 0, 0), (48, .iaload, 49, 0, 0), (49, .aload_n 0, 50, 0, 0), (50, .getfield 49, 53, 17, 19), (53, .iload_n 1, 54, 0, 0), (54, .iaload, 55, 0, 0), (55, .if_icmp .gt 62, 58, 117, 0), (58, .aload_n 0, 59, 0, 0), (59, .getfield 52, 62, 18, 19), (62, .iload_n 2, 63, 0, 0), (63, .iaload, 64, 0, 0), (64, .aload_n 0, 65, 0, 0), (65, .getfield 52, 68, 18, 19), (68, .iload_n 1, 69, 0, 0), (69, .iaload, 70, 0, 0), (70, .if_icmp .lt 47, 73, 117, 0), (73, .aload_n 0, 74, 0, 0), (74, .getfield 55, 77, 19, 19), (77, .iload_n 2, 78, 0, 0), (78, .iaload, 79, 0, 0), (79, .iconst 3, 80, 0, 0), (80, .if_icmp .eq 18, 83, 98, 0), (83, .aload_n 0, 84, 0, 0), (84, .getfield 55, 87, 19, 19), (87, .iload_n 2, 88, 0, 0), (88, .iaload, 89, 0, 0), (89, .aload_n 0, 90, 0, 0), (90, .getfield 55, 93, 19, 19), (93, .iload_n 1, 94, 0, 0), (94, .iaload, 95, 0, 0), (95, .if_icmp .ne 22, 98, 117, 0), (98, .aload_n 0, 99, 0, 0), (99, .getfield 58, 102, 20, 19), (102, .iload_n 1, 103, 0, 0), (103, .baload, 104, 0, 0), (104, .aload_n 0, 105, 0, 0), (105, .getfield 58, 108, 20, 19), (108, .iload_n 2, 109, 0, 0), (109, .baload, 110, 0, 0), (110, .if_icmp .ne 7, 113, 117, 0), (113, .iconst 1, 114, 0, 0), (114, .goto 4, 117, 118, 0), (117, .iconst 0, 118, 0, 0), (118, .istore_n 3, 119, 0, 0), (119, .iconst 0, 120, 0, 0), (120, .istore 4, 122, 0, 0), (122, .iload 4, 124, 0, 0), (124, .iconst 4, 125, 0, 0), (125, .if_icmp .ge 56, 128, 181, 0), (128, .aload_n 0, 129, 0, 0), (129, .getfield 58, 132, 20, 19), (132, .iload_n 1, 133, 0, 0), (133, .baload, 134, 0, 0), (134, .ifCond .ne 47, 137, 181, 0), (137, .iload_n 3, 138, 0, 0), (138, .ifCond .eq 35, 141, 173, 0), (141, .aload_n 0, 142, 0, 0), (142, .getfield 65, 145, 22, 19), (145, .iconst 4, 146, 0, 0), (146, .iload_n 2, 147, 0, 0), (147, .imul, 148, 0, 0), (148, .iload 4, 150, 0, 0), (150, .iadd, 151, 0, 0), (151, .iaload, 152, 0, 0), (152, .aload_n 0, 153, 0, 0), (153, .getfield 65, 156, 22, 19), (156, .iconst 4, 157, 0, 0), (157, .iload_n 1, 158, 0, 0), (158, .imul, 159, 0, 0), (159, .iload 4, 161, 0, 0), (161, .iadd, 162, 0, 0), (162, .iaload, 163, 0, 0), (163, .iconst (-1), 164, 0, 0), (164, .ixor, 165, 0, 0), (165, .iand, 166, 0, 0), (166, .ifCond .ne 7, 169, 173, 0), (169, .iconst 1, 170, 0, 0), (170, .goto 4, 173, 174, 0), (173, .iconst 0, 174, 0, 0), (174, .istore_n 3, 175, 0, 0), (175, .iinc 4 1, 178, 0, 0), (178, .goto (-56), 181, 122, 0), (181, .iload_n 3, 182, 0, 0), (182, .ifCond .eq 7, 185, 189, 0), (185, .iconst 1, 186, 0, 0), (186, .goto 4, 189, 190, 0), (189, .iconst 0, 190, 0, 0), (190, .ireturn, 191, 0, 0)]
def mt_X9_noMore : pm_T := (RX9, yX9_noMore, cX9_noMore, 5, (some .int), 3, gm_X9_noMore)
def gm_X9_doQuarrel : List pe_T := [(0, .iconst 0, 1, 0, 0), (1, .istore_n 3, 2, 0, 0), (2, .bipush 7, 4, 0, 0), (4, .istore 4, 6, 0, 0), (6, .bipush 7, 8, 0, 0), (8, .istore 5, 10, 0, 0), (10, .iconst 0, 11, 0, 0), (11, .istore 6, 13, 0, 0), (13, .iconst 0, 14, 0, 0), (14, .istore 7, 16, 0, 0), (16, .bipush 127, 18, 0, 0), (18, .istore 8, 20, 0, 0), (20, .bipush 127, 22, 0, 0), (22, .istore 9, 24, 0, 0), (24, .bipush 127, 26, 0, 0), (26, .istore 10, 28, 0, 0), (28, .bipush 127, 30, 0, 0), (30, .istore 11, 32, 0, 0), (32, .iconst 0, 33, 0, 0), (33, .istore 12, 35, 0, 0), (35, .iload 12, 37, 0, 0), (37, .aload_n 0, 38, 0, 0), (38, .getfield 220, 41, 12, 19), (41, .if_icmp .ge 213, 44, 254, 0), (44, .iload_n 2, 45, 0, 0), (45, .iload 12, 47, 0, 0), (47, .ishr, 48, 0, 0), (48, .iconst 1, 49, 0, 0), (49, .iand, 50, 0, 0), (50, .iconst 1, 51, 0, 0), (51, .if_icmp .ne 197, 54, 248, 0), (54, .aload_n 0, 55, 0, 0), (55, .getfield 46, 58, 16, 19), (58, .iload 12, 60, 0, 0), (60, .iaload, 61, 0, 0), (61, .iload_n 1, 62, 0, 0), (62, .if_icmp .eq 5, 65, 67, 0), (65, .iconst 0, 66, 0, 0), (66, .ireturn, 67, 0, 0), (67, .aload_n 0, 68, 0, 0), (68, .getfield 49, 71, 17, 19), (71, .iload 12, 73, 0, 0), (73, .iaload, 74, 0, 0), (74, .iload_n 3, 75, 0, 0), (75, .if_icmp .le 13, 78, 88, 0), (78, .aload_n 0, 79, 0, 0), (79, .getfield 49, 82, 17, 19), (82, .iload 12, 84, 0, 0), (84, .iaload, 85, 0, 0), (85, .goto 4, 88, 89, 0), (88, .iload_n 3, 89, 0, 0), (89, .istore_n 3, 90, 0, 0), (90, .aload_n 0, 91, 0, 0), (91, .getfield 52, 94, 18, 19), (94, .iload 12, 96, 0, 0), (96, .iaload, 97, 0, 0), (97, .iload 4, 99, 0, 0), (99, .if_icmp .ge 13, 102, 112, 0), (102, .aload_n 0, 103, 0, 0), (103, .getfield 52, 106, 18, 19), (106, .iload 12, 108, 0, 0), (108, .iaload, 109, 0, 0), (109, .goto 5, 112, 114, 0), (112, .iload 4, 114, 0, 0), (114, .istore 4, 116, 0, 0), (116, .iload 5, 118, 0, 0), (118, .aload_n 0, 119, 0, 0), (119, .getfield 55, 122, 19, 19), (122, .iload 12, 124, 0, 0), (124, .iaload, 125, 0, 0), (125, .iconst 3, 126, 0, 0), (126, .if_icmp .ne 8, 129, 134, 0), (129, .bipush 7, 131, 0, 0), (131, .goto 12, 134, 143, 0), (134, .iconst 1, 135, 0, 0), (135, .aload_n 0, 136, 0, 0), (136, .getfield 55, 139, 19, 19), (139, .iload 12, 141, 0, 0), (141, .iaload, 142, 0, 0), (142, .ishl, 143, 0, 0), (143, .iand, 144, 0, 0), (144, .istore 5, 146, 0, 0), (146, .iload 6, 148, 0, 0), (148, .aload_n 0, 149, 0, 0), (149, .getfield 58, 152, 20, 19), (152, .iload 12, 154, 0, 0), (154, .baload, 155, 0, 0), (155, .ifCond .eq 7, 158, 162, 0), (158, .iconst 1, 159, 0, 0), (159, .goto 4, 162, 163, 0), (162, .iconst 0, 163, 0, 0), (163, .iadd, 164, 0, 0), (164, .istore 6, 166, 0, 0), (166, .iload 7, 168, 0, 0), (168, .aload_n 0, 169, 0, 0), (169, .getfield 58, 172, 20, 19), (172, .iload 12, 174, 0, 0), (174, .baload, 175, 0, 0), (175, .ifCond .eq 7, 178, 182, 0), (178, .iconst 0, 179, 0, 0), (179, .goto 4, 182, 183, 0), (182, .iconst 1, 183, 0, 0), (183, .iadd, 184, 0, 0), (184, .istore 7, 186, 0, 0), (186, .iload 8, 188, 0, 0), (188, .aload_n 0, 189, 0, 0), (189, .getfield 65, 192, 22, 19), (192, .iconst 4, 193, 0, 0), (193, .iload 12, 195, 0, 0), (195, .imul, 196, 0, 0), (196, .iaload, 197, 0, 0), (197, .iand, 198, 0, 0), (198, .istore 8, 200, 0, 0), (200, .iload 9, 202, 0, 0), (202, .aload_n 0, 203, 0, 0), (203, .getfield 65, 206, 22, 19), (206, .iconst 4, 207, 0, 0), (207, .iload 12, 209, 0, 0), (209, .imul, 210, 0, 0), (210, .iconst 1, 211, 0, 0), (211, .iadd, 212, 0, 0), (212, .iaload, 213, 0, 0), (213, .iand, 214, 0, 0), (214, .istore 9, 216, 0, 0), (216, .iload 10, 218, 0, 0), (218, .aload_n 0, 219, 0, 0), (219, .getfield 65, 222, 22, 19), (222, .iconst 4, 223, 0, 0), (223, .iload 12, 225, 0, 0), (225, .imul, 226, 0, 0), (226, .iconst 2, 227, 0, 0), (227, .iadd, 228, 0, 0), (228, .iaload, 229, 0, 0), (229, .iand, 230, 0, 0), (230, .istore 10, 232, 0, 0), (232, .iload 11, 234, 0, 0), (234, .aload_n 0, 235, 0, 0), (235, .getfield 65, 238, 22, 19), (238, .iconst 4, 239, 0, 0), (239, .iload 12, 241, 0, 0), (241, .imul, 242, 0, 0), (242, .iconst 3, 243, 0, 0), (243, .iadd, 244, 0, 0), (244, .iaload, 245, 0, 0), (245, .iand, 246, 0, 0), (246, .istore 11, 248, 0, 0), (248, .iinc 12 1, 251, 0, 0), (251, .goto (-216), 254, 35, 0), (254, .iload_n 3, 255, 0, 0), (255, .iload 4, 257, 0, 0), (257, .if_icmp .gt 47, 260, 304, 0), (260, .iload 5, 262, 0, 0), (262, .ifCond .eq 42, 265, 304, 0), (265, .iload 6, 267, 0, 0), (267, .ifCond .le 8, 270, 275, 0), (270, .iload 7, 272, 0, 0), (272, .ifCond .gt 28, 275, 300, 0), (275, .iload 6, 277, 0, 0), (277, .ifCond .ne 27, 280, 304, 0), (280, .iload 8, 282, 0, 0), (282, .ifCond .eq 18, 285, 300, 0), (285, .iload 9, 287, 0, 0), (287, .ifCond .eq 13, 290, 300, 0), (290, .iload 10, 292, 0, 0), (292, .ifCond .eq 8, 295, 300, 0), (295, .iload 11, 297, 0, 0), (297, .ifCond .ne 7, 300, 304, 0), (300, .iconst 1, 301, 0, 0), (301, .goto 4, 304, 305, 0), (304, .iconst 0, 305, 0, 0), (305, .ireturn, 306, 0, 0)]
def mt_X9_doQuarrel : pm_T := (RX9, yX9_doQuarrel, cX9_doQuarrel, 13, (some .boolean), 3, gm_X9_doQuarrel)
def gm_X9_quarrelOf : List pe_T := [(0, .iconst 0, 1, 0, 0), (1, .istore_n 2, 2, 0, 0), (2, .iconst 0, 3, 0, 0), (3, .istore_n 3, 4, 0, 0), (4, .iload_n 3, 5, 0, 0), (5, .aload_n 0, 6, 0, 0), (6, .getfield 220, 9, 12, 19), (9, .if_icmp .ge 61, 12, 70, 0), (12, .iload_n 2, 13, 0, 0), (13, .ifCond .ne 57, 16, 70, 0), (16, .iconst 0, 17, 0, 0), (17, .istore 4, 19, 0, 0), (19, .iload 4, 21, 0, 0), (21, .iload_n 3, 22, 0, 0), (22, .if_icmp .ge 42, 25, 64, 0), (25, .iload_n 2, 26, 0, 0), (26, .ifCond .ne 38, 29, 64, 0), (29, .aload_n 0, 30, 0, 0), (30, .iload_n 1, 31, 0, 0), (31, .iconst 1, 32, 0, 0), (32, .iload_n 3, 33, 0, 0), (33, .ishl, 34, 0, 0), (34, .iconst 1, 35, 0, 0), (35, .iload 4, 37, 0, 0), (37, .ishl, 38, 0, 0), (38, .ior, 39, 0, 0), (39, .invokevirtual 271, 42, 157, 19), (42, .ifCond .eq 14, 45, 56, 0), (45, .iconst 1, 46, 0, 0), (46, .iload_n 3, 47, 0, 0), (47, .ishl, 48, 0, 0), (48, .iconst 1, 49, 0, 0), (49, .iload 4, 51, 0, 0), (51, .ishl, 52, 0, 0), (52, .ior, 53, 0, 0), (53, .goto 4, 56, 57, 0), (56, .iconst 0, 57, 0, 0), (57, .istore_n 2, 58, 0, 0), (58, .iinc 4 1, 61, 0, 0), (61, .goto (-42), 64, 19, 0), (64, .iinc 3 1, 67, 0, 0), (67, .goto (-63), 70, 4, 0), (70, .iconst 0, 71, 0, 0), (71, .istore_n 3, 72, 0, 0), (72, .iload_n 3, 73, 0, 0), (73, .aload_n 0, 74, 0, 0), (74, .getfield 220, 77, 12, 19), (77, .if_icmp .ge 91, 80, 168, 0), (80, .iload_n 2, 81, 0, 0), (81, .ifCond .ne 87, 84, 168, 0), (84, .iconst 0, 85, 0, 0), (85, .istore 4, 87, 0, 0), (87, .iload 4, 89, 0, 0), (89, .iload_n 3, 90, 0, 0), (90, .if_icmp .ge 72, 93, 162, 0), (93, .iload_n 2, 94, 0, 0), (94, .ifCond .ne 68, 97, 162, 0), (97, .iconst 0, 98, 0, 0), (98, .istore 5, 100, 0, 0), (100, .iload 5, 102, 0, 0), (102, .iload 4, 104, 0, 0), (104, .if_icmp .ge 52, 107, 156, 0), (107, .iload_n 2, 108, 0, 0), (108, .ifCond .ne 48, 111, 156, 0), (111, .aload_n 0, 112, 0, 0), (112, .iload_n 1, 113, 0, 0), (113, .iconst 1, 114, 0, 0), (114, .iload_n 3, 115, 0, 0), (115, .ishl, 116, 0, 0), (116, .iconst 1, 117, 0, 0), (117, .iload 4, 119, 0, 0), (119, .ishl, 120, 0, 0), (120, .ior, 121, 0, 0), (121, .iconst 1, 122, 0, 0), (122, .iload 5, 124, 0, 0), (124, .ishl, 125, 0, 0), (125, .ior, 126, 0, 0), (126, .invokevirtual 271, 129, 157, 19), (129, .ifCond .eq 19, 132, 148, 0), (132, .iconst 1, 133, 0, 0), (133, .iload_n 3, 134, 0, 0), (134, .ishl, 135, 0, 0), (135, .iconst 1, 136, 0, 0), (136, .iload 4, 138, 0, 0), (138, .ishl, 139, 0, 0), (139, .ior, 140, 0, 0), (140, .iconst 1, 141, 0, 0), (141, .iload 5, 143, 0, 0), (143, .ishl, 144, 0, 0), (144, .ior, 145, 0, 0), (145, .goto 4, 148, 149, 0), (148, .iconst 0, 149, 0, 0), (149, .istore_n 2, 150, 0, 0), (150, .iinc 5 1, 153, 0, 0), (153, .goto (-53), 156, 100, 0), (156, .iinc 4 1, 159, 0, 0), (159, .goto (-72), 162, 87, 0), (162, .iinc 3 1, 165, 0, 0), (165, .goto (-93), 168, 72, 0), (168, .iload_n 2, 169, 0, 0), (169, .ireturn, 170, 0, 0)]
def mt_X9_quarrelOf : pm_T := (RX9, yX9_quarrelOf, cX9_quarrelOf, 6, (some .int), 2, gm_X9_quarrelOf)
def gm_X9_quarrel : List pe_T := [(0, .aload_n 0, 1, 0, 0), (1, .iconst 0, 2, 0, 0), (2, .putfield 102, 5, 0, 19), (5, .iload_n 1, 6, 0, 0), (6, .invokestatic 232, 9, 140, 0), (9, .ifCond .eq 11, 12, 20, 0), (12, .aload_n 0, 13, 0, 0), (13, .iload_n 1, 14, 0, 0), (14, .invokevirtual 274, 17, 158, 19), (17, .goto 5, 20, 22, 0), (20, .ldc 122, 22, 0, (-1000001)), (22, .ireturn, 23, 0, 0)]
def mt_X9_quarrel : pm_T := (RX9, yX9_quarrel, cX9_quarrel, 2, (some .int), 2, gm_X9_quarrel)
def gm_X9_change : List pe_T := [(0, .aload_n 0, 1, 0, 0), (1, .iconst 0, 2, 0, 0), (2, .putfield 102, 5, 0, 19), (5, .aload_n 0, 6, 0, 0), (6, .iload_n 1, 7, 0, 0), (7, .iload_n 2, 8, 0, 0), (8, .invokevirtual 235, 11, 141, 19), (11, .ifCond .eq 12, 14, 23, 0), (14, .aload_n 0, 15, 0, 0), (15, .iload_n 1, 16, 0, 0), (16, .iload_n 3, 17, 0, 0), (17, .invokevirtual 235, 20, 141, 19), (20, .ifCond .ne 6, 23, 26, 0), (23, .ldc 122, 25, 0, (-1000001)), (25, .ireturn, 26, 0, 0), (26, .iconst 0, 27, 0, 0), (27, .istore 4, 29, 0, 0), (29, .iconst 0, 30, 0, 0), (30, .istore 5, 32, 0, 0), (32, .iload 5, 34, 0, 0), (34, .aload_n 0, 35, 0, 0), (35, .getfield 220, 38, 12, 19), (38, .if_icmp .ge 53, 41, 91, 0), (41, .iload 4, 43, 0, 0), (43, .aload_n 0, 44, 0, 0), (44, .getfield 46, 47, 16, 19), (47, .iload 5, 49, 0, 0), (49, .iaload, 50, 0, 0), (50, .iload_n 1, 51, 0, 0), (51, .if_icmp .ne 30, 54, 81, 0), (54, .aload_n 0, 55, 0, 0), (55, .iload 5, 57, 0, 0), (57, .iload_n 2, 58, 0, 0), (58, .invokevirtual 277, 61, 151, 19), (61, .ifCond .eq 20, 64, 81, 0), (64, .aload_n 0, 65, 0, 0), (65, .iload 5, 67, 0, 0), (67, .iload_n 3, 68, 0, 0), (68, .invokevirtual 277, 71, 151, 19), (71, .ifCond .ne 10, 74, 81, 0), (74, .iconst 1, 75, 0, 0), (75, .iload 5, 77, 0, 0), (77, .ishl, 78, 0, 0), (78, .goto 4, 81, 82, 0), (81, .iconst 0, 82, 0, 0), (82, .ior, 83, 0, 0), (83, .istore 4, 85, 0, 0), (85, .iinc 5 1, 88, 0, 0), (88, .goto (-56), 91, 32, 0), (91, .iload 4, 93, 0, 0), (93, .ireturn, 94, 0, 0)]
def mt_X9_change : pm_T := (RX9, yX9_change, cX9_change, 6, (some .int), 4, gm_X9_change)
def gm_X9_right : List pe_T := [(0, .aload_n 0, 1, 0, 0), (1, .iconst 0, 2, 0, 0), (2, .putfield 102, 5, 0, 19), (5, .aload_n 0, 6, 0, 0), (6, .iload_n 1, 7, 0, 0), (7, .invokevirtual 249, 10, 142, 19), (10, .ifCond .eq 35, 13, 45, 0), (13, .aload_n 0, 14, 0, 0), (14, .getfield 62, 17, 21, 19), (17, .iload_n 1, 18, 0, 0), (18, .iaload, 19, 0, 0), (19, .aload_n 0, 20, 0, 0), (20, .getfield 68, 23, 23, 19), (23, .iconst 4, 24, 0, 0), (24, .aload_n 0, 25, 0, 0), (25, .getfield 40, 28, 14, 19), (28, .iload_n 1, 29, 0, 0), (29, .iaload, 30, 0, 0), (30, .imul, 31, 0, 0), (31, .aload_n 0, 32, 0, 0), (32, .getfield 43, 35, 15, 19), (35, .iload_n 1, 36, 0, 0), (36, .iaload, 37, 0, 0), (37, .iadd, 38, 0, 0), (38, .iaload, 39, 0, 0), (39, .iconst (-1), 40, 0, 0), (40, .ixor, 41, 0, 0), (41, .iand, 42, 0, 0), (42, .goto 5, 45, 47, 0), (45, .ldc 122, 47, 0, (-1000001)), (47, .ireturn, 48, 0, 0)]
def mt_X9_right : pm_T := (RX9, yX9_right, cX9_right, 2, (some .int), 2, gm_X9_right)
def gm_X9_figure : List pe_T := [(0, .iload_n 1, 1, 0, 0), (1, .ifCond .ne 9, 4, 10, 0), (4, .iload_n 0, 5, 0, 0), (5, .iconst 5, 6, 0, 0), (6, .irem, 7, 0, 0), (7, .goto 34, 10, 41, 0), (10, .iload_n 1, 11, 0, 0), (11, .iconst 1, 12, 0, 0), (12, .if_icmp .ne 11, 15, 23, 0), (15, .iload_n 0, 16, 0, 0), (16, .iconst 5, 17, 0, 0), (17, .idiv, 18, 0, 0), (18, .iconst 5, 19, 0, 0), (19, .irem, 20, 0, 0), (20, .goto 21, 23, 41, 0), (23, .iload_n 1, 24, 0, 0), (24, .iconst 2, 25, 0, 0), (25, .if_icmp .ne 12, 28, 37, 0), (28, .iload_n 0, 29, 0, 0), (29, .bipush 25, 31, 0, 0), (31, .idiv, 32, 0, 0), (32, .iconst 5, 33, 0, 0), (33, .irem, 34, 0, 0), (34, .goto 7, 37, 41, 0), (37, .iload_n 0, 38, 0, 0), (38, .bipush 125, 40, 0, 0), (40, .idiv, 41, 0, 0), (41, .ireturn, 42, 0, 0)]
def mt_X9_figure : pm_T := (RX9, yX9_figure, cX9_figure, 2, (some .int), 2, gm_X9_figure)
def gm_X9_worth : List pe_T := [(0, .iload_n 0, 1, 0, 0), (1, .ifCond .ne 7, 4, 8, 0), (4, .iconst 1, 5, 0, 0), (5, .goto 24, 8, 29, 0), (8, .iload_n 0, 9, 0, 0), (9, .iconst 1, 10, 0, 0), (10, .if_icmp .ne 7, 13, 17, 0), (13, .iconst 5, 14, 0, 0), (14, .goto 15, 17, 29, 0), (17, .iload_n 0, 18, 0, 0), (18, .iconst 2, 19, 0, 0), (19, .if_icmp .ne 8, 22, 27, 0), (22, .bipush 25, 24, 0, 0), (24, .goto 5, 27, 29, 0), (27, .bipush 125, 29, 0, 0), (29, .ireturn, 30, 0, 0)]
def mt_X9_worth : pm_T := (RX9, yX9_worth, cX9_worth, 1, (some .int), 1, gm_X9_worth)
def gm_X9_isHouse : List pe_T := [(0, .iload_n 1, 1, 0, 0), (1, .i2l, 2, 0, 0), (2, .lconst 0, 3, 0, 0), (3, .ldc2_w 280, 6, 0, 624), (6, .invokestatic 112, 9, 115, 0), (9, .istore_n 2, 10, 0, 0), (10, .iconst 0, 11, 0, 0), (11, .istore_n 3, 12, 0, 0), (12, .iload_n 3, 13, 0, 0), (13, .iconst 4, 14, 0, 0), (14, .if_icmp .ge 33, 17, 47, 0), (17, .iload_n 2, 18, 0, 0), (18, .ifCond .eq 29, 21, 47, 0), (21, .iload_n 1, 22, 0, 0), (22, .iload_n 3, 23, 0, 0), (23, .invokestatic 282, 26, 162, 0), (26, .aload_n 0, 27, 0, 0), (27, .getfield 19, 30, 5, 19), (30, .iload_n 3, 31, 0, 0), (31, .iaload, 32, 0, 0), (32, .if_icmp .gt 7, 35, 39, 0), (35, .iconst 1, 36, 0, 0), (36, .goto 4, 39, 40, 0), (39, .iconst 0, 40, 0, 0), (40, .istore_n 2, 41, 0, 0), (41, .iinc 3 1, 44, 0, 0), (44, .goto (-32), 47, 12, 0), (47, .iload_n 2, 48, 0, 0), (48, .ireturn, 49, 0, 0)]
def mt_X9_isHouse : pm_T := (RX9, yX9_isHouse, cX9_isHouse, 4, (some .boolean), 2, gm_X9_isHouse)
def gm_X9_redOf : List pe_T := [(0, .iconst 0, 1, 0, 0), (1, .istore_n 2, 2, 0, 0), (2, .iload_n 2, 3, 0, 0), (3, .aload_n 0, 4, 0, 0), (4, .getfield 220, 7, 12, 19), (7, .if_icmp .ge 75, 10, 82, 0), (10, .iload_n 1, 11, 0, 0), (11, .aload_n 0, 12, 0, 0), (12, .getfield 40, 15, 14, 19), (15, .iload_n 2, 16, 0, 0), (16, .iaload, 17, 0, 0), (17, .invokestatic 282, 20, 162, 0), (20, .aload_n 0, 21, 0, 0), (21, .getfield 43, 24, 15, 19), (24, .iload_n 2, 25, 0, 0), (25, .iaload, 26, 0, 0), (26, .iconst 1, 27, 0, 0), (27, .iadd, 28, 0, 0), (28, .if_icmp .ne 20, 31, 48, 0), (31, .iload_n 1, 32, 0, 0), (32, .aload_n 0, 33, 0, 0), (33, .getfield 46, 36, 16, 19), (36, .iload_n 2, 37, 0, 0), (37, .iaload, 38, 0, 0), (38, .invokestatic 282, 41, 162, 0), (41, .ifCond .le 7, 44, 48, 0), (44, .iconst 1, 45, 0, 0), (45, .goto 4, 48, 49, 0), (48, .iconst 0, 49, 0, 0), (49, .istore_n 3, 50, 0, 0), (50, .iload_n 3, 51, 0, 0), (51, .ifCond .eq 25, 54, 76, 0), (54, .aload_n 0, 55, 0, 0), (55, .iload_n 2, 56, 0, 0), (56, .iload_n 1, 57, 0, 0), (57, .aload_n 0, 58, 0, 0), (58, .getfield 46, 61, 16, 19), (61, .iload_n 2, 62, 0, 0), (62, .iaload, 63, 0, 0), (63, .invokestatic 282, 66, 162, 0), (66, .iconst 1, 67, 0, 0), (67, .isub, 68, 0, 0), (68, .invokevirtual 277, 71, 151, 19), (71, .ifCond .ne 5, 74, 76, 0), (74, .iload_n 2, 75, 0, 0), (75, .ireturn, 76, 0, 0), (76, .iinc 2 1, 79, 0, 0), (79, .goto (-77), 82, 2, 0), (82, .ldc 74, 84, 0, (-1000000)), (84, .ireturn, 85, 0, 0)]
def mt_X9_redOf : pm_T := (RX9, yX9_redOf, cX9_redOf, 4, (some .int), 2, gm_X9_redOf)
def gm_X9_house : List pe_T := [(0, .aload_n 0, 1, 0, 0), (1, .iconst 0, 2, 0, 0), (2, .putfield 102, 5, 0, 19), (5, .aload_n 0, 6, 0, 0), (6, .iload_n 1, 7, 0, 0), (7, .invokevirtual 285, 10, 164, 19), (10, .ifCond .eq 13, 13, 23, 0), (13, .iload_n 2, 14, 0, 0), (14, .i2l, 15, 0, 0), (15, .lconst 0, 16, 0, 0), (16, .lconst 1, 17, 0, 0), (17, .invokestatic 112, 20, 115, 0), (20, .ifCond .ne 6, 23, 26, 0), (23, .ldc 122, 25, 0, (-1000001)), (25, .ireturn, 26, 0, 0), (26, .aload_n 0, 27, 0, 0), (27, .iload_n 1, 28, 0, 0), (28, .invokevirtual 288, 31, 165, 19), (31, .istore_n 3, 32, 0, 0), (32, .iload_n 2, 33, 0, 0), (33, .iconst 1, 34, 0, 0), (34, .if_icmp .ne 7, 37, 41, 0), (37, .iload_n 3, 38, 0, 0), (38, .goto 14, 41, 52, 0), (41, .iload_n 3, 42, 0, 0), (42, .ldc 74, 44, 0, (-1000000)), (44, .if_icmp .ne 7, 47, 51, 0), (47, .iconst 1, 48, 0, 0), (48, .goto 4, 51, 52, 0), (51, .iconst 0, 52, 0, 0), (52, .ireturn, 53, 0, 0)]
def mt_X9_house : pm_T := (RX9, yX9_house, cX9_house, 4, (some .int), 3, gm_X9_house)
def gm_X9_letOut : List pe_T := [(0, .aload_n 0, 1, 0, 0), (1, .iconst 0, 2, 0, 0), (2, .putfield 102, 5, 0, 19), (5, .aload_n 0, 6, 0, 0), (6, .iload_n 1, 7, 0, 0), (7, .invokevirtual 285, 10, 164, 19), (10, .ifCond .eq 21, 13, 31, 0), (13, .aload_n 0, 14, 0, 0), (14, .iload_n 2, 15, 0, 0), (15, .invokevirtual 285, 18, 164, 19), (18, .ifCond .eq 13, 21, 31, 0), (21, .iload_n 3, 22, 0, 0), (22, .i2l, 23, 0, 0), (23, .lconst 0, 24, 0, 0), (24, .lconst 1, 25, 0, 0), (25, .invokestatic 112, 28, 115, 0), (28, .ifCond .ne 6, 31, 34, 0), (31, .ldc 122, 33, 0, (-1000001)), (33, .ireturn, 34, 0, 0), (34, .aload_n 0, 35, 0, 0), (35, .iload_n 1, 36, 0, 0), (36, .invokevirtual 288, 39, 165, 19), (39, .ldc 74, 41, 0, (-1000000)), (41, .if_icmp .ne 13, 44, 54, 0), (44, .aload_n 0, 45, 0, 0), (45, .iload_n 2, 46, 0, 0), (46, .invokevirtual 288, 49, 165, 19), (49, .ldc 74, 51, 0, (-1000000)), (51, .if_icmp .eq 6, 54, 57, 0), (54, .ldc 74, 56, 0, (-1000000)), (56, .ireturn, 57, 0, 0), (57, .iconst 0, 58, 0, 0), (58, .istore 4, 60, 0, 0), (60, .iload 4, 62, 0, 0), (62, .sipush 625, 65, 0, 0), (65, .if_icmp .ge 18, 68, 83, 0), (68, .aload_n 0, 69, 0, 0), (69, .getfield 90, 72, 39, 19), (72, .iload 4, 74, 0, 0), (74, .ldc 74, 76, 0, (-1000000)), (76, .iastore, 77, 0, 0), (77, .iinc 4 1, 80, 0, 0), (80, .goto (-20), 83, 60, 0), (83, .aload_n 0, 84, 0, 0), (84, .getfield 90, 87, 39, 19), (87, .iload_n 2, 88, 0, 0), (88, .iconst 0, 89, 0, 0), (89, .iastore, 90, 0, 0), (90, .aload_n 0, 91, 0, 0), (91, .getfield 93, 94, 40, 19), (94, .iconst 0, 95, 0, 0), (95, .iload_n 2, 96, 0, 0), (96, .iastore, 97, 0, 0), (97, .iconst 1, 98, 0, 0), (98, .istore 4, 100, 0, 0), (100, .iconst 0, 101, 0, 0), (101, .istore 5, 103, 0, 0), (103, .iload 5, 105, 0, 0), (105, .iload 4, 107, 0, 0), (107, .if_icmp .ge 132, 110, 239, 0), (110, .iconst 0, 111, 0, 0), (111, .istore 6, 113, 0, 0), (113, .iload 6, 115, 0, 0), (115, .iconst 4, 116, 0, 0), (116, .if_icmp .ge 117, 119, 233, 0), (119, .iconst 0, 120, 0, 0), (120, .istore 7, 122, 0, 0), (122, .iload 7, 124, 0, 0), (124, .aload_n 0, 125, 0, 0), (125, .getfield 19, 128, 5, 19), (128, .iload 6, 130, 0, 0), (130, .iaload, 131, 0, 0), (131, .if_icmp .gt 96, 134, 227, 0), (134, .aload_n 0, 135, 0, 0), (135, .getfield 93, 138, 40, 19), (138, .iload 5, 140, 0, 0), (140, .iaload, 141, 0, 0), (141, .iload 7, 143, 0, 0), (143, .aload_n 0, 144, 0, 0), (144, .getfield 93, 147, 40, 19), (147, .iload 5, 149, 0, 0), (149, .iaload, 150, 0, 0), (150, .iload 6, 152, 0, 0), (152, .invokestatic 282, 155, 162, 0), (155, .isub, 156, 0, 0), (156, .iload 6, 158, 0, 0), (158, .invokestatic 291, 161, 163, 0), (161, .imul, 162, 0, 0), (162, .iadd, 163, 0, 0), (163, .istore 8, 165, 0, 0), (165, .aload_n 0, 166, 0, 0), (166, .getfield 90, 169, 39, 19), (169, .iload 8, 171, 0, 0), (171, .iaload, 172, 0, 0), (172, .ldc 74, 174, 0, (-1000000)), (174, .if_icmp .ne 47, 177, 221, 0), (177, .aload_n 0, 178, 0, 0), (178, .iload 8, 180, 0, 0), (180, .invokevirtual 288, 183, 165, 19), (183, .ldc 74, 185, 0, (-1000000)), (185, .if_icmp .ne 36, 188, 221, 0), (188, .aload_n 0, 189, 0, 0), (189, .getfield 90, 192, 39, 19), (192, .iload 8, 194, 0, 0), (194, .aload_n 0, 195, 0, 0), (195, .getfield 90, 198, 39, 19), (198, .aload_n 0, 199, 0, 0), (199, .getfield 93, 202, 40, 19), (202, .iload 5, 204, 0, 0), (204, .iaload, 205, 0, 0), (205, .iaload, 206, 0, 0), (206, .iconst 1, 207, 0, 0), (207, .iadd, 208, 0, 0), (208, .iastore, 209, 0, 0), (209, .aload_n 0, 210, 0, 0), (210, .getfield 93, 213, 40, 19), (213, .iload 4, 215, 0, 0), (215, .iload 8, 217, 0, 0), (217, .iastore, 218, 0, 0), (218, .iinc 4 1, 221, 0, 0), (221, .iinc 7 1, 224, 0, 0), (224, .goto (-102), 227, 122, 0), (227, .iinc 6 1, 230, 0, 0), (230, .goto (-117), 233, 113, 0), (233, .iinc 5 1, 236, 0, 0), (236, .goto (-133), 239, 103, 0), (239, .iload_n 3, 240, 0, 0), (240, .ifCond .eq 13, 243, 253, 0), (243, .aload_n 0, 244, 0, 0), (244, .getfield 90, 247, 39, 19), (247, .iload_n 1, 248, 0, 0), (248, .iaload, 249, 0, 0), (249, .iconst 1, 250, 0, 0), (250, .if_icmp .ge 19, 253, 269, 0), (253, .iload_n 3, 254, 0, 0), (254, .ifCond .ne 12, 257, 266, 0), (257, .aload_n 0, 258, 0, 0), (258, .getfield 90, 261, 39, 19), (261, .iload_n 1, 262, 0, 0), (262, .iaload, 263, 0, 0), (263, .goto 5, 266, 268, 0), (266, .ldc 74, 268, 0, (-1000000)), (268, .ireturn, 269, 0, 0), (269, .ldc 74, 271, 0, (-1000000)), (271, .istore 5, 273, 0, 0), (273, .iconst 0, 274, 0, 0), (274, .istore 6, 276, 0, 0), (276, .iload 6, 278, 0, 0), (278, .iconst 4, 279, 0, 0), (279, .if_icmp .ge 90, 282, 369, 0), (282, .iconst 0, 283, 0, 0), (283, .istore 7, 285, 0, 0), (285, .iload 7, 287, 0, 0), (287, .aload_n 0, 288, 0, 0), (288, .getfield 19, 291, 5, 19), (291, .iload 6, 293, 0, 0), (293, .iaload, 294, 0, 0), (294, .if_icmp .gt 69, 297, 363, 0), (297, .iload_n 1, 298, 0, 0), (298, .iload 7, 300, 0, 0), (300, .iload_n 1, 301, 0, 0), (301, .iload 6, 303, 0, 0), (303, .invokestatic 282, 306, 162, 0), (306, .isub, 307, 0, 0), (307, .iload 6, 309, 0, 0), (309, .invokestatic 291, 312, 163, 0), (312, .imul, 313, 0, 0), (313, .iadd, 314, 0, 0), (314, .istore 8, 316, 0, 0), (316, .aload_n 0, 317, 0, 0), (317, .getfield 90, 320, 39, 19), (320, .iload 8, 322, 0, 0), (322, .iaload, 323, 0, 0), (323, .aload_n 0, 324, 0, 0), (324, .getfield 90, 327, 39, 19), (327, .iload_n 1, 328, 0, 0), (328, .iaload, 329, 0, 0), (329, .iconst 1, 330, 0, 0), (330, .isub, 331, 0, 0), (331, .if_icmp .ne 22, 334, 353, 0), (334, .iload 5, 336, 0, 0), (336, .ldc 74, 338, 0, (-1000000)), (338, .if_icmp .eq 10, 341, 348, 0), (341, .iload 8, 343, 0, 0), (343, .iload 5, 345, 0, 0), (345, .if_icmp .ge 8, 348, 353, 0), (348, .iload 8, 350, 0, 0), (350, .goto 5, 353, 355, 0), (353, .iload 5, 355, 0, 0), (355, .istore 5, 357, 0, 0), (357, .iinc 7 1, 360, 0, 0), (360, .goto (-75), 363, 285, 0), (363, .iinc 6 1, 366, 0, 0), (366, .goto (-90), 369, 276, 0), (369, .iload 5, 371, 0, 0), (371, .ireturn, 372, 0, 0)]
def mt_X9_letOut : pm_T := (RX9, yX9_letOut, cX9_letOut, 9, (some .int), 4, gm_X9_letOut)
def gm_X9_hours : List pe_T := [(0, .aload_n 0, 1, 0, 0), (1, .iconst 0, 2, 0, 0), (2, .putfield 102, 5, 0, 19), (5, .iload_n 1, 6, 0, 0), (6, .invokestatic 232, 9, 140, 0), (9, .ifCond .ne 6, 12, 15, 0), (12, .ldc 122, 14, 0, (-1000001)), (14, .ireturn, 15, 0, 0), (15, .iconst 0, 16, 0, 0), (16, .istore_n 2, 17, 0, 0), (17, .iload_n 2, 18, 0, 0), (18, .iconst 4, 19, 0, 0), (19, .if_icmp .ge 17, 22, 36, 0), (22, .aload_n 0, 23, 0, 0), (23, .getfield 96, 26, 41, 19), (26, .iload_n 2, 27, 0, 0), (27, .ldc 74, 29, 0, (-1000000)), (29, .iastore, 30, 0, 0), (30, .iinc 2 1, 33, 0, 0), (33, .goto (-16), 36, 17, 0), (36, .iconst 0, 37, 0, 0), (37, .istore_n 2, 38, 0, 0), (38, .iload_n 2, 39, 0, 0), (39, .iconst 4, 40, 0, 0), (40, .if_icmp .ge 141, 43, 181, 0), (43, .iconst 0, 44, 0, 0), (44, .istore_n 3, 45, 0, 0), (45, .iload_n 3, 46, 0, 0), (46, .iconst 4, 47, 0, 0), (47, .if_icmp .ge 128, 50, 175, 0), (50, .aload_n 0, 51, 0, 0), (51, .getfield 75, 54, 25, 19), (54, .iload_n 3, 55, 0, 0), (55, .iaload, 56, 0, 0), (56, .istore 4, 58, 0, 0), (58, .iconst 0, 59, 0, 0), (59, .istore 5, 61, 0, 0), (61, .iload 5, 63, 0, 0), (63, .iconst 4, 64, 0, 0), (64, .if_icmp .ge 77, 67, 141, 0), (67, .iload 4, 69, 0, 0), (69, .ldc 74, 71, 0, (-1000000)), (71, .if_icmp .eq 70, 74, 141, 0), (74, .aload_n 0, 75, 0, 0), (75, .getfield 78, 78, 26, 19), (78, .iload_n 3, 79, 0, 0), (79, .iaload, 80, 0, 0), (80, .iload 5, 82, 0, 0), (82, .ishr, 83, 0, 0), (83, .iconst 1, 84, 0, 0), (84, .iand, 85, 0, 0), (85, .iconst 1, 86, 0, 0), (86, .if_icmp .ne 7, 89, 93, 0), (89, .iconst 1, 90, 0, 0), (90, .goto 4, 93, 94, 0), (93, .iconst 0, 94, 0, 0), (94, .istore 6, 96, 0, 0), (96, .iload 6, 98, 0, 0), (98, .ifCond .ne 8, 101, 106, 0), (101, .iload 4, 103, 0, 0), (103, .goto 30, 106, 133, 0), (106, .aload_n 0, 107, 0, 0), (107, .getfield 96, 110, 41, 19), (110, .iload 5, 112, 0, 0), (112, .iaload, 113, 0, 0), (113, .ldc 74, 115, 0, (-1000000)), (115, .if_icmp .ne 8, 118, 123, 0), (118, .ldc 74, 120, 0, (-1000000)), (120, .goto 13, 123, 133, 0), (123, .iload 4, 125, 0, 0), (125, .aload_n 0, 126, 0, 0), (126, .getfield 96, 129, 41, 19), (129, .iload 5, 131, 0, 0), (131, .iaload, 132, 0, 0), (132, .iadd, 133, 0, 0), (133, .istore 4, 135, 0, 0), (135, .iinc 5 1, 138, 0, 0), (138, .goto (-77), 141, 61, 0), (141, .aload_n 0, 142, 0, 0), (142, .getfield 96, 145, 41, 19), (145, .iload_n 3, 146, 0, 0), (146, .aload_n 0, 147, 0, 0), (147, .getfield 96, 150, 41, 19), (150, .iload_n 3, 151, 0, 0), (151, .iaload, 152, 0, 0), (152, .ldc 74, 154, 0, (-1000000)), (154, .if_icmp .ne 8, 157, 162, 0), (157, .iload 4, 159, 0, 0), (159, .goto 9, 162, 168, 0), (162, .aload_n 0, 163, 0, 0), (163, .getfield 96, 166, 41, 19), (166, .iload_n 3, 167, 0, 0), (167, .iaload, 168, 0, 0), (168, .iastore, 169, 0, 0), (169, .iinc 3 1, 172, 0, 0), (172, .goto (-127), 175, 45, 0), (175, .iinc 2 1, 178, 0, 0), (178, .goto (-140), 181, 38, 0), (181, .aload_n 0, 182, 0, 0), (182, .getfield 96, 185, 41, 19), (185, .iload_n 1, 186, 0, 0), (186, .iaload, 187, 0, 0), (187, .ireturn, 188, 0, 0)]
def mt_X9_hours : pm_T := (RX9, yX9_hours, cX9_hours, 7, (some .int), 2, gm_X9_hours)
def gm_X9_bits : List pe_T := [(0, .iconst 0, 1, 0, 0), (1, .istore_n 1, 2, 0, 0), (2, .iconst 0, 3, 0, 0), (3, .istore_n 2, 4, 0, 0), (4, .iload_n 2, 5, 0, 0), (5, .iconst 4, 6, 0, 0), (6, .if_icmp .ge 17, 9, 23, 0), (9, .iload_n 1, 10, 0, 0), (10, .iload_n 0, 11, 0, 0), (11, .iload_n 2, 12, 0, 0), (12, .ishr, 13, 0, 0), (13, .iconst 1, 14, 0, 0), (14, .iand, 15, 0, 0), (15, .iadd, 16, 0, 0), (16, .istore_n 1, 17, 0, 0), (17, .iinc 2 1, 20, 0, 0), (20, .goto (-16), 23, 4, 0), (23, .iload_n 1, 24, 0, 0), (24, .ireturn, 25, 0, 0)]
def mt_X9_bits : pm_T := (RX9, yX9_bits, cX9_bits, 3, (some .int), 1, gm_X9_bits)
def gm_X9_kindOf : List pe_T := [(0, .aload_n 0, 1, 0, 0), (1, .aload_n 0, 2, 0, 0), (2, .getfield 46, 5, 16, 19), (5, .iload_n 1, 6, 0, 0), (6, .iaload, 7, 0, 0), (7, .invokevirtual 274, 10, 158, 19), (10, .iload_n 1, 11, 0, 0), (11, .ishr, 12, 0, 0), (12, .iconst 1, 13, 0, 0), (13, .iand, 14, 0, 0), (14, .iconst 1, 15, 0, 0), (15, .if_icmp .ne 5, 18, 20, 0), (18, .iconst 5, 19, 0, 0), (19, .ireturn, 20, 0, 0), (20, .aload_n 0, 21, 0, 0), (21, .getfield 58, 24, 20, 19), (24, .iload_n 1, 25, 0, 0), (25, .baload, 26, 0, 0), (26, .ifCond .eq 7, 29, 33, 0), (29, .iconst 2, 30, 0, 0), (30, .goto 31, 33, 61, 0), (33, .aload_n 0, 34, 0, 0), (34, .getfield 55, 37, 19, 19), (37, .iload_n 1, 38, 0, 0), (38, .iaload, 39, 0, 0), (39, .iconst 3, 40, 0, 0), (40, .if_icmp .eq 7, 43, 47, 0), (43, .iconst 3, 44, 0, 0), (44, .goto 17, 47, 61, 0), (47, .aload_n 0, 48, 0, 0), (48, .getfield 62, 51, 21, 19), (51, .iload_n 1, 52, 0, 0), (52, .iaload, 53, 0, 0), (53, .ifCond .ne 7, 56, 60, 0), (56, .iconst 4, 57, 0, 0), (57, .goto 4, 60, 61, 0), (60, .iconst 1, 61, 0, 0), (61, .ireturn, 62, 0, 0)]
def mt_X9_kindOf : pm_T := (RX9, yX9_kindOf, cX9_kindOf, 2, (some .int), 2, gm_X9_kindOf)
def gm_X9_isOf : List pe_T := [(0, .iload_n 1, 1, 0, 0), (1, .ifCond .eq 23, 4, 24, 0), (4, .iload_n 0, 5, 0, 0), (5, .iload_n 1, 6, 0, 0), (6, .if_icmp .eq 18, 9, 24, 0), (9, .iload_n 1, 10, 0, 0), (10, .iconst 1, 11, 0, 0), (11, .if_icmp .ne 17, 14, 28, 0), (14, .iload_n 0, 15, 0, 0), (15, .iconst 3, 16, 0, 0), (16, .if_icmp .eq 8, 19, 24, 0), (19, .iload_n 0, 20, 0, 0), (20, .iconst 4, 21, 0, 0), (21, .if_icmp .ne 7, 24, 28, 0), (24, .iconst 1, 25, 0, 0), (25, .goto 4, 28, 29, 0), (28, .iconst 0, 29, 0, 0), (29, .ireturn, 30, 0, 0)]
def mt_X9_isOf : pm_T := (RX9, yX9_isOf, cX9_isOf, 2, (some .boolean), 2, gm_X9_isOf)
def gm_X9_kind : List pe_T := [(0, .aload_n 0, 1, 0, 0), (1, .iconst 0, 2, 0, 0), (2, .putfield 102, 5, 0, 19), (5, .aload_n 0, 6, 0, 0), (6, .iload_n 1, 7, 0, 0), (7, .invokevirtual 249, 10, 142, 19), (10, .ifCond .eq 11, 13, 21, 0), (13, .aload_n 0, 14, 0, 0), (14, .iload_n 1, 15, 0, 0), (15, .invokevirtual 294, 18, 170, 19), (18, .goto 5, 21, 23, 0), (21, .ldc 122, 23, 0, (-1000001)), (23, .ireturn, 24, 0, 0)]
def mt_X9_kind : pm_T := (RX9, yX9_kind, cX9_kind, 2, (some .int), 2, gm_X9_kind)
def gm_X9_as : List pe_T := [(0, .aload_n 0, 1, 0, 0), (1, .iconst 0, 2, 0, 0), (2, .putfield 102, 5, 0, 19), (5, .aload_n 0, 6, 0, 0), (6, .iload_n 1, 7, 0, 0), (7, .invokevirtual 249, 10, 142, 19), (10, .ifCond .eq 15, 13, 25, 0), (13, .iload_n 2, 14, 0, 0), (14, .i2l, 15, 0, 0), (15, .lconst 0, 16, 0, 0), (16, .ldc2_w 297, 19, 0, 5), (19, .invokestatic 112, 22, 115, 0), (22, .ifCond .ne 6, 25, 28, 0), (25, .ldc 122, 27, 0, (-1000001)), (27, .ireturn, 28, 0, 0), (28, .aload_n 0, 29, 0, 0), (29, .iconst 0, 30, 0, 0), (30, .putfield 106, 33, 1, 19), (33, .aload_n 0, 34, 0, 0), (34, .iload_n 1, 35, 0, 0), (35, .invokevirtual 294, 38, 170, 19), (38, .iload_n 2, 39, 0, 0), (39, .invokestatic 299, 42, 171, 0), (42, .ifCond .eq 7, 45, 49, 0), (45, .iload_n 1, 46, 0, 0), (46, .goto 8, 49, 54, 0), (49, .aload_n 0, 50, 0, 0), (50, .iconst 3, 51, 0, 0), (51, .invokevirtual 123, 54, 116, 19), (54, .ireturn, 55, 0, 0)]
def mt_X9_as : pm_T := (RX9, yX9_as, cX9_as, 3, (some .int), 3, gm_X9_as)
def gm_X9_began : List pe_T := [(0, .aload_n 0, 1, 0, 0), (1, .getfield 302, 4, 43, 19), (4, .bipush 16, 6, 0, 0), (6, .if_icmp .ge 23, 9, 29, 0), (9, .aload_n 0, 10, 0, 0), (10, .getfield 99, 13, 42, 19), (13, .aload_n 0, 14, 0, 0), (14, .getfield 302, 17, 43, 19), (17, .iload_n 1, 18, 0, 0), (18, .iastore, 19, 0, 0), (19, .aload_n 0, 20, 0, 0), (20, .dup, 21, 0, 0), (21, .getfield 302, 24, 43, 19), (24, .iconst 1, 25, 0, 0), (25, .iadd, 26, 0, 0), (26, .putfield 302, 29, 43, 19), (29, .return_, 30, 0, 0)]
def mt_X9_began : pm_T := (RX9, yX9_began, cX9_began, 2, none, 2, gm_X9_began)
def gm_X9_aboutHowMany : List pe_T := [(0, .aload_n 0, 1, 0, 0), (1, .bipush 10, 3, 0, 0), (3, .invokevirtual 305, 6, 174, 19), (6, .aload_n 0, 7, 0, 0), (7, .getfield 52, 10, 18, 19), (10, .iload_n 1, 11, 0, 0), (11, .iaload, 12, 0, 0), (12, .aload_n 0, 13, 0, 0), (13, .getfield 49, 16, 17, 19), (16, .iload_n 1, 17, 0, 0), (17, .iaload, 18, 0, 0), (18, .isub, 19, 0, 0), (19, .iconst 1, 20, 0, 0), (20, .iadd, 21, 0, 0), (21, .aload_n 0, 22, 0, 0), (22, .getfield 55, 25, 19, 19), (25, .iload_n 1, 26, 0, 0), (26, .iaload, 27, 0, 0), (27, .iconst 3, 28, 0, 0), (28, .if_icmp .ne 7, 31, 35, 0), (31, .iconst 3, 32, 0, 0), (32, .goto 4, 35, 36, 0), (35, .iconst 1, 36, 0, 0), (36, .imul, 37, 0, 0), (37, .ireturn, 38, 0, 0)]
def mt_X9_aboutHowMany : pm_T := (RX9, yX9_aboutHowMany, cX9_aboutHowMany, 2, (some .int), 2, gm_X9_aboutHowMany)
def gm_X9_givenSize : List pe_T := [(0, .iload_n 2, 1, 0, 0), (1, .iconst 3, 2, 0, 0), (2, .if_icmp .ne 9, 5, 11, 0), (5, .aload_n 0, 6, 0, 0), (6, .bipush 12, 8, 0, 0), (8, .invokevirtual 305, 11, 174, 19), (11, .aload_n 0, 12, 0, 0), (12, .bipush 11, 14, 0, 0), (14, .invokevirtual 305, 17, 174, 19), (17, .aload_n 0, 18, 0, 0), (18, .iload_n 1, 19, 0, 0), (19, .invokevirtual 308, 22, 175, 19), (22, .aload_n 0, 23, 0, 0), (23, .getfield 62, 26, 21, 19), (26, .iload_n 1, 27, 0, 0), (27, .iaload, 28, 0, 0), (28, .invokestatic 311, 31, 169, 0), (31, .iadd, 32, 0, 0), (32, .istore_n 3, 33, 0, 0), (33, .iload_n 2, 34, 0, 0), (34, .iconst 3, 35, 0, 0), (35, .if_icmp .ne 9, 38, 44, 0), (38, .iconst 2, 39, 0, 0), (39, .iload_n 3, 40, 0, 0), (40, .imul, 41, 0, 0), (41, .goto 4, 44, 45, 0), (44, .iload_n 3, 45, 0, 0), (45, .ireturn, 46, 0, 0)]
def mt_X9_givenSize : pm_T := (RX9, yX9_givenSize, cX9_givenSize, 4, (some .int), 3, gm_X9_givenSize)
def gm_X9_markOf : List pe_T := [(0, .iload_n 2, 1, 0, 0), (1, .iconst 4, 2, 0, 0), (2, .if_icmp .ne 9, 5, 11, 0), (5, .aload_n 0, 6, 0, 0), (6, .bipush 22, 8, 0, 0), (8, .invokevirtual 305, 11, 174, 19), (11, .iload_n 2, 12, 0, 0), (12, .iconst 5, 13, 0, 0), (13, .if_icmp .eq 11, 16, 24, 0), (16, .iload_n 2, 17, 0, 0), (17, .iconst 1, 18, 0, 0), (18, .invokestatic 299, 21, 171, 0), (21, .ifCond .eq 19, 24, 40, 0), (24, .aload_n 0, 25, 0, 0), (25, .iload_n 2, 26, 0, 0), (26, .iconst 5, 27, 0, 0), (27, .if_icmp .ne 8, 30, 35, 0), (30, .bipush 23, 32, 0, 0), (32, .goto 5, 35, 37, 0), (35, .bipush 21, 37, 0, 0), (37, .invokevirtual 305, 40, 174, 19), (40, .aload_n 0, 41, 0, 0), (41, .bipush 20, 43, 0, 0), (43, .invokevirtual 305, 46, 174, 19), (46, .iload_n 1, 47, 0, 0), (47, .iload_n 2, 48, 0, 0), (48, .iconst 5, 49, 0, 0), (49, .if_icmp .ne 9, 52, 58, 0), (52, .sipush 1000, 55, 0, 0), (55, .goto 17, 58, 72, 0), (58, .iload_n 2, 59, 0, 0), (59, .iconst 1, 60, 0, 0), (60, .invokestatic 299, 63, 171, 0), (63, .ifCond .eq 8, 66, 71, 0), (66, .bipush 100, 68, 0, 0), (68, .goto 4, 71, 72, 0), (71, .iconst 0, 72, 0, 0), (72, .iadd, 73, 0, 0), (73, .istore_n 3, 74, 0, 0), (74, .iload_n 2, 75, 0, 0), (75, .iconst 4, 76, 0, 0), (76, .if_icmp .ne 14, 79, 90, 0), (79, .iload_n 3, 80, 0, 0), (80, .aload_n 0, 81, 0, 0), (81, .iload_n 1, 82, 0, 0), (82, .iload_n 2, 83, 0, 0), (83, .invokevirtual 314, 86, 176, 19), (86, .iadd, 87, 0, 0), (87, .goto 4, 90, 91, 0), (90, .iload_n 3, 91, 0, 0), (91, .ireturn, 92, 0, 0)]
def mt_X9_markOf : pm_T := (RX9, yX9_markOf, cX9_markOf, 4, (some .int), 3, gm_X9_markOf)
def gm_X9_sizeOf : List pe_T := [(0, .iload_n 2, 1, 0, 0), (1, .iconst 1, 2, 0, 0), (2, .invokestatic 299, 5, 171, 0), (5, .ifCond .eq 10, 8, 15, 0), (8, .aload_n 0, 9, 0, 0), (9, .iload_n 1, 10, 0, 0), (10, .iload_n 2, 11, 0, 0), (11, .invokevirtual 314, 14, 176, 19), (14, .ireturn, 15, 0, 0), (15, .aload_n 0, 16, 0, 0), (16, .iload_n 2, 17, 0, 0), (17, .iconst 2, 18, 0, 0), (18, .if_icmp .ne 8, 21, 26, 0), (21, .bipush 13, 23, 0, 0), (23, .goto 5, 26, 28, 0), (26, .bipush 14, 28, 0, 0), (28, .invokevirtual 305, 31, 174, 19), (31, .aload_n 0, 32, 0, 0), (32, .iload_n 1, 33, 0, 0), (33, .invokevirtual 308, 36, 175, 19), (36, .istore_n 3, 37, 0, 0), (37, .iload_n 2, 38, 0, 0), (38, .iconst 2, 39, 0, 0), (39, .if_icmp .ne 14, 42, 53, 0), (42, .iload_n 3, 43, 0, 0), (43, .aload_n 0, 44, 0, 0), (44, .iload_n 1, 45, 0, 0), (45, .iload_n 2, 46, 0, 0), (46, .invokevirtual 317, 49, 177, 19), (49, .isub, 50, 0, 0), (50, .goto 5, 53, 55, 0), (53, .iload_n 3, 54, 0, 0), (54, .ineg, 55, 0, 0), (55, .ireturn, 56, 0, 0)]
def mt_X9_sizeOf : pm_T := (RX9, yX9_sizeOf, cX9_sizeOf, 4, (some .int), 3, gm_X9_sizeOf)
def gm_X9_ask : List pe_T := [(0, .aload_n 0, 1, 0, 0), (1, .iconst 0, 2, 0, 0), (2, .putfield 102, 5, 0, 19), (5, .aload_n 0, 6, 0, 0), (6, .iload_n 1, 7, 0, 0), (7, .invokevirtual 249, 10, 142, 19), (10, .ifCond .eq 13, 13, 23, 0), (13, .iload_n 2, 14, 0, 0), (14, .i2l, 15, 0, 0), (15, .lconst 0, 16, 0, 0), (16, .lconst 1, 17, 0, 0), (17, .invokestatic 112, 20, 115, 0), (20, .ifCond .ne 6, 23, 26, 0), (23, .ldc 122, 25, 0, (-1000001)), (25, .ireturn, 26, 0, 0), (26, .aload_n 0, 27, 0, 0), (27, .iconst 0, 28, 0, 0), (28, .putfield 302, 31, 43, 19), (31, .iload_n 2, 32, 0, 0), (32, .ifCond .ne 16, 35, 48, 0), (35, .aload_n 0, 36, 0, 0), (36, .iload_n 1, 37, 0, 0), (37, .aload_n 0, 38, 0, 0), (38, .iload_n 1, 39, 0, 0), (39, .invokevirtual 294, 42, 170, 19), (42, .invokevirtual 320, 45, 178, 19), (45, .goto 13, 48, 58, 0), (48, .aload_n 0, 49, 0, 0), (49, .iload_n 1, 50, 0, 0), (50, .aload_n 0, 51, 0, 0), (51, .iload_n 1, 52, 0, 0), (52, .invokevirtual 294, 55, 170, 19), (55, .invokevirtual 317, 58, 177, 19), (58, .ireturn, 59, 0, 0)]
def mt_X9_ask : pm_T := (RX9, yX9_ask, cX9_ask, 3, (some .int), 3, gm_X9_ask)
def gm_X9_trace : List pe_T := [(0, .aload_n 0, 1, 0, 0), (1, .iconst 0, 2, 0, 0), (2, .putfield 102, 5, 0, 19), (5, .iload_n 1, 6, 0, 0), (6, .i2l, 7, 0, 0), (7, .lconst 0, 8, 0, 0), (8, .aload_n 0, 9, 0, 0), (9, .getfield 302, 12, 43, 19), (12, .iconst 1, 13, 0, 0), (13, .isub, 14, 0, 0), (14, .i2l, 15, 0, 0), (15, .invokestatic 112, 18, 115, 0), (18, .ifCond .eq 12, 21, 30, 0), (21, .aload_n 0, 22, 0, 0), (22, .getfield 99, 25, 42, 19), (25, .iload_n 1, 26, 0, 0), (26, .iaload, 27, 0, 0), (27, .goto 5, 30, 32, 0), (30, .ldc 74, 32, 0, (-1000000)), (32, .ireturn, 33, 0, 0)]
def mt_X9_trace : pm_T := (RX9, yX9_trace, cX9_trace, 2, (some .int), 2, gm_X9_trace)
def gm_X9_isKeptBySome : List pe_T := [(0, .iconst 0, 1, 0, 0), (1, .istore_n 2, 2, 0, 0), (2, .iconst 0, 3, 0, 0), (3, .istore_n 3, 4, 0, 0), (4, .iload_n 3, 5, 0, 0), (5, .aload_n 0, 6, 0, 0), (6, .getfield 19, 9, 5, 19), (9, .aload_n 0, 10, 0, 0), (10, .getfield 46, 13, 16, 19), (13, .iload_n 1, 14, 0, 0), (14, .iaload, 15, 0, 0), (15, .iaload, 16, 0, 0), (16, .if_icmp .ge 28, 19, 44, 0), (19, .iload_n 2, 20, 0, 0), (20, .ifCond .ne 12, 23, 32, 0), (23, .aload_n 0, 24, 0, 0), (24, .iload_n 1, 25, 0, 0), (25, .iload_n 3, 26, 0, 0), (26, .invokevirtual 277, 29, 151, 19), (29, .ifCond .eq 7, 32, 36, 0), (32, .iconst 1, 33, 0, 0), (33, .goto 4, 36, 37, 0), (36, .iconst 0, 37, 0, 0), (37, .istore_n 2, 38, 0, 0), (38, .iinc 3 1, 41, 0, 0), (41, .goto (-37), 44, 4, 0), (44, .iload_n 2, 45, 0, 0), (45, .ireturn, 46, 0, 0)]
def mt_X9_isKeptBySome : pm_T := (RX9, yX9_isKeptBySome, cX9_isKeptBySome, 4, (some .boolean), 2, gm_X9_isKeptBySome)
def gm_X9_count : List pe_T := [(0, .aload_n 0, 1, 0, 0), (1, .iconst 0, 2, 0, 0), (2, .putfield 102, 5, 0, 19), (5, .iconst 0, 6, 0, 0), (6, .istore_n 2, 7, 0, 0), (7, .iload_n 1, 8, 0, 0), (8, .tableswitch 179 0 5 #[40, 73, 101, 106, 140, 174], 48, 0, 0), (48, .iconst 0, 49, 0, 0), (49, .istore_n 3, 50, 0, 0), (50, .iload_n 3, 51, 0, 0), (51, .bipush 8, 53, 0, 0), (53, .if_icmp .ge 26, 56, 79, 0), (56, .iload_n 2, 57, 0, 0), (57, .aload_n 0, 58, 0, 0), (58, .getfield 7, 61, 2, 19), (61, .iload_n 3, 62, 0, 0), (62, .iaload, 63, 0, 0), (63, .ifCond .lt 7, 66, 70, 0), (66, .iconst 1, 67, 0, 0), (67, .goto 4, 70, 71, 0), (70, .iconst 0, 71, 0, 0), (71, .iadd, 72, 0, 0), (72, .istore_n 2, 73, 0, 0), (73, .iinc 3 1, 76, 0, 0), (76, .goto (-26), 79, 50, 0), (79, .iload_n 2, 80, 0, 0), (80, .ireturn, 81, 0, 0), (81, .aload_n 0, 82, 0, 0), (82, .getfield 19, 85, 5, 19), (85, .iconst 0, 86, 0, 0), (86, .iaload, 87, 0, 0), (87, .aload_n 0, 88, 0, 0), (88, .getfield 19, 91, 5, 19), (91, .iconst 1, 92, 0, 0), (92, .iaload, 93, 0, 0), (93, .iadd, 94, 0, 0), (94, .aload_n 0, 95, 0, 0), (95, .getfield 19, 98, 5, 19), (98, .iconst 2, 99, 0, 0), (99, .iaload, 100, 0, 0), (100, .iadd, 101, 0, 0), (101, .aload_n 0, 102, 0, 0), (102, .getfield 19, 105, 5, 19), (105, .iconst 3, 106, 0, 0), (106, .iaload, 107, 0, 0), (107, .iadd, 108, 0, 0), (108, .ireturn, 109, 0, 0), (109, .aload_n 0, 110, 0, 0), (110, .getfield 220, 113, 12, 19), (113, .ireturn, 114, 0, 0), (114, .iconst 0, 115, 0, 0), (115, .istore_n 3, 116, 0, 0), (116, .iload_n 3, 117, 0, 0), (117, .aload_n 0, 118, 0, 0), (118, .getfield 220, 121, 12, 19), (121, .if_icmp .ge 25, 124, 146, 0), (124, .iload_n 2, 125, 0, 0), (125, .aload_n 0, 126, 0, 0), (126, .iload_n 3, 127, 0, 0), (127, .invokevirtual 323, 130, 181, 19), (130, .ifCond .eq 7, 133, 137, 0), (133, .iconst 1, 134, 0, 0), (134, .goto 4, 137, 138, 0), (137, .iconst 0, 138, 0, 0), (138, .iadd, 139, 0, 0), (139, .istore_n 2, 140, 0, 0), (140, .iinc 3 1, 143, 0, 0), (143, .goto (-27), 146, 116, 0), (146, .iload_n 2, 147, 0, 0), (147, .ireturn, 148, 0, 0), (148, .iconst 0, 149, 0, 0), (149, .istore_n 3, 150, 0, 0), (150, .iload_n 3, 151, 0, 0), (151, .iconst 4, 152, 0, 0), (152, .if_icmp .ge 28, 155, 180, 0), (155, .iload_n 2, 156, 0, 0), (156, .aload_n 0, 157, 0, 0), (157, .getfield 75, 160, 25, 19), (160, .iload_n 3, 161, 0, 0), (161, .iaload, 162, 0, 0), (162, .ldc 74, 164, 0, (-1000000)), (164, .if_icmp .ne 7, 167, 171, 0), (167, .iconst 0, 168, 0, 0), (168, .goto 4, 171, 172, 0), (171, .iconst 1, 172, 0, 0), (172, .iadd, 173, 0, 0), (173, .istore_n 2, 174, 0, 0), (174, .iinc 3 1, 177, 0, 0), (177, .goto (-27), 180, 150, 0), (180, .iload_n 2, 181, 0, 0), (181, .ireturn, 182, 0, 0), (182, .aload_n 0, 183, 0, 0), (183, .getfield 129, 186, 30, 19), (186, .ireturn, 187, 0, 0), (187, .ldc 122, 189, 0, (-1000001)), (189, .ireturn, 190, 0, 0)]
def mt_X9_count : pm_T := (RX9, yX9_count, cX9_count, 4, (some .int), 2, gm_X9_count)
def gm_X9_status : List pe_T := [(0, .aload_n 0, 1, 0, 0), (1, .iconst 0, 2, 0, 0), (2, .putfield 102, 5, 0, 19), (5, .aload_n 0, 6, 0, 0), (6, .getfield 106, 9, 1, 19), (9, .ireturn, 10, 0, 0)]
def mt_X9_status : pm_T := (RX9, yX9_status, cX9_status, 1, (some .int), 1, gm_X9_status)
def gm_J6_bitCount_0f7a4 : List pe_T := [(0, .iload_n 0, 1, 0, 0), (1, .iload_n 0, 2, 0, 0), (2, .iconst 1, 3, 0, 0), (3, .iushr, 4, 0, 0), (4, .ldc_w 265, 7, 0, 1431655765), (7, .iand, 8, 0, 0), (8, .isub, 9, 0, 0), (9, .istore_n 0, 10, 0, 0), (10, .iload_n 0, 11, 0, 0), (11, .ldc_w 266, 14, 0, 858993459), (14, .iand, 15, 0, 0), (15, .iload_n 0, 16, 0, 0), (16, .iconst 2, 17, 0, 0), (17, .iushr, 18, 0, 0), (18, .ldc_w 266, 21, 0, 858993459), (21, .iand, 22, 0, 0), (22, .iadd, 23, 0, 0), (23, .istore_n 0, 24, 0, 0), (24, .iload_n 0, 25, 0, 0), (25, .iload_n 0, 26, 0, 0), (26, .iconst 4, 27, 0, 0), (27, .iushr, 28, 0, 0), (28, .iadd, 29, 0, 0), (29, .ldc_w 267, 32, 0, 252645135), (32, .iand, 33, 0, 0), (33, .istore_n 0, 34, 0, 0), (34, .iload_n 0, 35, 0, 0), (35, .iload_n 0, 36, 0, 0), (36, .bipush 8, 38, 0, 0), (38, .iushr, 39, 0, 0), (39, .iadd, 40, 0, 0), (40, .istore_n 0, 41, 0, 0), (41, .iload_n 0, 42, 0, 0), (42, .iload_n 0, 43, 0, 0), (43, .bipush 16, 45, 0, 0), (45, .iushr, 46, 0, 0), (46, .iadd, 47, 0, 0), (47, .istore_n 0, 48, 0, 0), (48, .iload_n 0, 49, 0, 0), (49, .bipush 63, 51, 0, 0), (51, .iand, 52, 0, 0), (52, .ireturn, 53, 0, 0)]
def mt_J6_bitCount_0f7a4 : pm_T := (RJ6, yJ6_bitCount_0f7a4, cJ6_bitCount_0f7a4, 1, (some .int), 1, gm_J6_bitCount_0f7a4)
def gm_J0_length_8abf5 : List pe_T := [(0, .aload_n 0, 1, 0, 0), (1, .getfield 9, 4, 0, 20), (4, .arraylength, 5, 0, 0), (5, .aload_n 0, 6, 0, 0), (6, .invokevirtual 335, 9, 187, 20), (9, .ishr, 10, 0, 0), (10, .ireturn, 11, 0, 0)]
def mt_J0_length_8abf5 : pm_T := (RJ0, yJ0_length_8abf5, cJ0_length_8abf5, 1, (some .int), 1, gm_J0_length_8abf5)
def gm_J0_charAt_5068e : List pe_T := [(0, .aload_n 0, 1, 0, 0), (1, .invokevirtual 492, 4, 188, 20), (4, .ifCond .eq 12, 7, 16, 0), (7, .aload_n 0, 8, 0, 0), (8, .getfield 9, 11, 0, 20), (11, .iload_n 1, 12, 0, 0), (12, .invokestatic 495, 15, 190, 0), (15, .ireturn, 16, 0, 0), (16, .aload_n 0, 17, 0, 0), (17, .getfield 9, 20, 0, 20), (20, .iload_n 1, 21, 0, 0), (21, .invokestatic 498, 24, 9999, 0), (24, .ireturn, 25, 0, 0)]
def mt_J0_charAt_5068e : pm_T := (RJ0, yJ0_charAt_5068e, cJ0_charAt_5068e, 2, (some .char), 2, gm_J0_charAt_5068e)
def gm_J0_coder_7d493 : List pe_T := [(0, .getstatic 38, 3, 0, 1), (3, .ifCond .eq 10, 6, 13, 0), (6, .aload_n 0, 7, 0, 0), (7, .getfield 15, 10, 1, 20), (10, .goto 4, 13, 14, 0), (13, .iconst 1, 14, 0, 0), (14, .ireturn, 15, 0, 0)]
def mt_J0_coder_7d493 : pm_T := (RJ0, yJ0_coder_7d493, cJ0_coder_7d493, 1, (some .byte), 1, gm_J0_coder_7d493)
def gm_J0_isLatin1_aae02 : List pe_T := [(0, .getstatic 38, 3, 0, 1), (3, .ifCond .eq 14, 6, 17, 0), (6, .aload_n 0, 7, 0, 0), (7, .getfield 15, 10, 1, 20), (10, .ifCond .ne 7, 13, 17, 0), (13, .iconst 1, 14, 0, 0), (14, .goto 4, 17, 18, 0), (17, .iconst 0, 18, 0, 0), (18, .ireturn, 19, 0, 0)]
def mt_J0_isLatin1_aae02 : pm_T := (RJ0, yJ0_isLatin1_aae02, cJ0_isLatin1_aae02, 1, (some .boolean), 1, gm_J0_isLatin1_aae02)
def gm_J0_checkIndex_df160 : List pe_T := [(0, .iload_n 0, 1, 0, 0), (1, .iload_n 1, 2, 0, 0), (2, .getstatic 1053, 5, 2, 0), (5, .invokestatic 1059, 8, 191, 0), (8, .pop, 9, 0, 0), (9, .return_, 10, 0, 0)]
def mt_J0_checkIndex_df160 : pm_T := (RJ0, yJ0_checkIndex_df160, cJ0_checkIndex_df160, 2, none, 2, gm_J0_checkIndex_df160)
def gm_J1_charAt_3b067 : List pe_T := [(0, .iload_n 1, 1, 0, 0), (1, .aload_n 0, 2, 0, 0), (2, .arraylength, 3, 0, 0), (3, .invokestatic 9, 6, 189, 0), (6, .aload_n 0, 7, 0, 0), (7, .iload_n 1, 8, 0, 0), (8, .baload, 9, 0, 0), (9, .sipush 255, 12, 0, 0), (12, .iand, 13, 0, 0), (13, .i2c, 14, 0, 0), (14, .ireturn, 15, 0, 0)]
def mt_J1_charAt_3b067 : pm_T := (RJ1, yJ1_charAt_3b067, cJ1_charAt_3b067, 2, (some .char), 2, gm_J1_charAt_3b067)
def gm_J3_checkIndex_8e157 : List pe_T := [(0, .iload_n 0, 1, 0, 0), (1, .ifCond .lt 8, 4, 9, 0), (4, .iload_n 0, 5, 0, 0), (5, .iload_n 1, 6, 0, 0), (6, .if_icmp .lt 10, 9, 16, 0), (9, .aload_n 2, 10, 0, 0), (10, .iload_n 0, 11, 0, 0), (11, .iload_n 1, 12, 0, 0), (12, .invokestatic 95, 15, 9999, 0), (15, .athrow, 16, 0, 0), (16, .iload_n 0, 17, 0, 0), (17, .ireturn, 18, 0, 0)]
def mt_J3_checkIndex_8e157 : pm_T := (RJ3, yJ3_checkIndex_8e157, cJ3_checkIndex_8e157, 3, (some .int), 3, gm_J3_checkIndex_8e157)
def gm_L_law : List pe_T := [(0, .new 7, 3, 8, 0), (3, .dup, 4, 0, 0), (4, .invokespecial 9, 7, 58, 0), (7, .astore_n 1, 8, 0, 0), (8, .new 10, 11, 9, 0), (11, .dup, 12, 0, 0), (12, .invokespecial 12, 15, 114, 0), (15, .astore_n 2, 16, 0, 0), (16, .iconst 0, 17, 0, 0), (17, .istore_n 3, 18, 0, 0), (18, .iload_n 3, 19, 0, 0), (19, .aload_n 0, 20, 0, 0), (20, .arraylength, 21, 0, 0), (21, .bipush 7, 23, 0, 0), (23, .isub, 24, 0, 0), (24, .if_icmp .gt 1054, 27, 1078, 0), (27, .aload_n 0, 28, 0, 0), (28, .iload_n 3, 29, 0, 0), (29, .iaload, 30, 0, 0), (30, .bipush 31, 32, 0, 0), (32, .iand, 33, 0, 0), (33, .tableswitch 1039 0 25 #[119, 162, 205, 268, 291, 354, 367, 380, 403, 466, 499, 542, 617, 670, 703, 726, 769, 792, 825, 868, 891, 914, 947, 980, 1003, 1026], 152, 0, 0), (152, .aload_n 1, 153, 0, 0), (153, .aload_n 0, 154, 0, 0), (154, .iload_n 3, 155, 0, 0), (155, .iconst 1, 156, 0, 0), (156, .iadd, 157, 0, 0), (157, .iaload, 158, 0, 0), (158, .aload_n 0, 159, 0, 0), (159, .iload_n 3, 160, 0, 0), (160, .iconst 2, 161, 0, 0), (161, .iadd, 162, 0, 0), (162, .iaload, 163, 0, 0), (163, .aload_n 0, 164, 0, 0), (164, .iload_n 3, 165, 0, 0), (165, .iconst 3, 166, 0, 0), (166, .iadd, 167, 0, 0), (167, .iaload, 168, 0, 0), (168, .invokevirtual 13, 171, 59, 18), (171, .aload_n 2, 172, 0, 0), (172, .aload_n 0, 173, 0, 0), (173, .iload_n 3, 174, 0, 0), (174, .iconst 1, 175, 0, 0), (175, .iadd, 176, 0, 0), (176, .iaload, 177, 0, 0), (177, .aload_n 0, 178, 0, 0), (178, .iload_n 3, 179, 0, 0), (179, .iconst 2, 180, 0, 0), (180, .iadd, 181, 0, 0), (181, .iaload, 182, 0, 0), (182, .aload_n 0, 183, 0, 0), (183, .iload_n 3, 184, 0, 0), (184, .iconst 3, 185, 0, 0), (185, .iadd, 186, 0, 0), (186, .iaload, 187, 0, 0), (187, .invokevirtual 17, 190, 118, 19), (190, .if_icmp .eq 882, 193, 1072, 0), (193, .iconst 0, 194, 0, 0), (194, .ireturn, 195, 0, 0), (195, .aload_n 1, 196, 0, 0), (196, .aload_n 0, 197, 0, 0), (197, .iload_n 3, 198, 0, 0), (198, .iconst 1, 199, 0, 0), (199, .iadd, 200, 0, 0), (200, .iaload, 201, 0, 0), (201, .aload_n 0, 202, 0, 0), (202, .iload_n 3, 203, 0, 0), (203, .iconst 2, 204, 0, 0), (204, .iadd, 205, 0, 0), (205, .iaload, 206, 0, 0), (206, .aload_n 0, 207, 0, 0), (207, .iload_n 3, 208, 0, 0), (208, .iconst 3, 209, 0, 0), (209, .iadd, 210, 0, 0), (210, .iaload, 211, 0, 0), (211, .invokevirtual 18, 214, 60, 18), (214, .aload_n 2, 215, 0, 0), (215, .aload_n 0, 216, 0, 0), (216, .iload_n 3, 217, 0, 0), (217, .iconst 1, 218, 0, 0), (218, .iadd, 219, 0, 0), (219, .iaload, 220, 0, 0), (220, .aload_n 0, 221, 0, 0), (221, .iload_n 3, 222, 0, 0), (222, .iconst 2, 223, 0, 0), (223, .iadd, 224, 0, 0), (224, .iaload, 225, 0, 0), (225, .aload_n 0, 226, 0, 0), (226, .iload_n 3, 227, 0, 0), (227, .iconst 3, 228, 0, 0), (228, .iadd, 229, 0, 0), (229, .iaload, 230, 0, 0), (230, .invokevirtual 21, 233, 119, 19), (233, .if_icmp .eq 839, 236, 1072, 0), (236, .iconst 0, 237, 0, 0), (237, .ireturn, 238, 0, 0), (238, .aload_n 1, 239, 0, 0), (239, .aload_n 0, 240, 0, 0), (240, .iload_n 3, 241, 0, 0), (241, .iconst 1, 242, 0, 0), (242, .iadd, 243, 0, 0), (243, .iaload, 244, 0, 0), (244, .aload_n 0, 245, 0, 0), (245, .iload_n 3, 246, 0, 0), (246, .iconst 2, 247, 0, 0), (247, .iadd, 248, 0, 0), (248, .iaload, 249, 0, 0), (249, .aload_n 0, 250, 0, 0), (250, .iload_n 3, 251, 0, 0), (251, .iconst 3, 252, 0, 0), (252, .iadd, 253, 0, 0), (253, .iaload, 254, 0, 0), (254, .aload_n 0, 255, 0, 0), (255, .iload_n 3, 256, 0, 0), (256, .iconst 4, 257, 0, 0), (257, .iadd, 258, 0, 0), (258, .iaload, 259, 0, 0), (259, .aload_n 0, 260, 0, 0), (260, .iload_n 3, 261, 0, 0), (261, .iconst 5, 262, 0, 0), (262, .iadd, 263, 0, 0), (263, .iaload, 264, 0, 0), (264, .invokevirtual 22, 267, 61, 18), (267, .aload_n 2, 268, 0, 0), (268, .aload_n 0, 269, 0, 0), (269, .iload_n 3, 270, 0, 0), (270, .iconst 1, 271, 0, 0), (271, .iadd, 272, 0, 0), (272, .iaload, 273, 0, 0), (273, .aload_n 0, 274, 0, 0), (274, .iload_n 3, 275, 0, 0), (275, .iconst 2, 276, 0, 0), (276, .iadd, 277, 0, 0), (277, .iaload, 278, 0, 0), (278, .aload_n 0, 279, 0, 0), (279, .iload_n 3, 280, 0, 0), (280, .iconst 3, 281, 0, 0), (281, .iadd, 282, 0, 0), (282, .iaload, 283, 0, 0), (283, .aload_n 0, 284, 0, 0), (284, .iload_n 3, 285, 0, 0), (285, .iconst 4, 286, 0, 0), (286, .iadd, 287, 0, 0), (287, .iaload, 288, 0, 0), (288, .aload_n 0, 289, 0, 0), (289, .iload_n 3, 290, 0, 0), (290, .iconst 5, 291, 0, 0), (291, .iadd, 292, 0, 0), (292, .iaload, 293, 0, 0), (293, .invokevirtual 26, 296, 120, 19), (296, .if_icmp .eq 776, 299, 1072, 0), (299, .iconst 0, 300, 0, 0), (300, .ireturn, 301, 0, 0), (301, .aload_n 1, 302, 0, 0), (302, .aload_n 0, 303, 0, 0), (303, .iload_n 3, 304, 0, 0), (304, .iconst 1, 305, 0, 0), (305, .iadd, 306, 0, 0), (306, .iaload, 307, 0, 0), (307, .invokevirtual 27, 310, 62, 18), (310, .aload_n 2, 311, 0, 0), (311, .aload_n 0, 312, 0, 0), (312, .iload_n 3, 313, 0, 0), (313, .iconst 1, 314, 0, 0), (314, .iadd, 315, 0, 0), (315, .iaload, 316, 0, 0), (316, .invokevirtual 31, 319, 121, 19), (319, .if_icmp .eq 753, 322, 1072, 0), (322, .iconst 0, 323, 0, 0), (323, .ireturn, 324, 0, 0), (324, .aload_n 1, 325, 0, 0), (325, .aload_n 0, 326, 0, 0), (326, .iload_n 3, 327, 0, 0), (327, .iconst 1, 328, 0, 0), (328, .iadd, 329, 0, 0), (329, .iaload, 330, 0, 0), (330, .i2l, 331, 0, 0), (331, .bipush 32, 333, 0, 0), (333, .lshl, 334, 0, 0), (334, .aload_n 0, 335, 0, 0), (335, .iload_n 3, 336, 0, 0), (336, .iconst 2, 337, 0, 0), (337, .iadd, 338, 0, 0), (338, .iaload, 339, 0, 0), (339, .i2l, 340, 0, 0), (340, .ldc2_w 32, 343, 0, 4294967295), (343, .land, 344, 0, 0), (344, .lor, 345, 0, 0), (345, .aload_n 0, 346, 0, 0), (346, .iload_n 3, 347, 0, 0), (347, .iconst 3, 348, 0, 0), (348, .iadd, 349, 0, 0), (349, .iaload, 350, 0, 0), (350, .invokevirtual 34, 353, 63, 18), (353, .aload_n 2, 354, 0, 0), (354, .aload_n 0, 355, 0, 0), (355, .iload_n 3, 356, 0, 0), (356, .iconst 1, 357, 0, 0), (357, .iadd, 358, 0, 0), (358, .iaload, 359, 0, 0), (359, .i2l, 360, 0, 0), (360, .bipush 32, 362, 0, 0), (362, .lshl, 363, 0, 0), (363, .aload_n 0, 364, 0, 0), (364, .iload_n 3, 365, 0, 0), (365, .iconst 2, 366, 0, 0), (366, .iadd, 367, 0, 0), (367, .iaload, 368, 0, 0), (368, .i2l, 369, 0, 0), (369, .ldc2_w 32, 372, 0, 4294967295), (372, .land, 373, 0, 0), (373, .lor, 374, 0, 0), (374, .aload_n 0, 375, 0, 0), (375, .iload_n 3, 376, 0, 0), (376, .iconst 3, 377, 0, 0), (377, .iadd, 378, 0, 0), (378, .iaload, 379, 0, 0), (379, .invokevirtual 38, 382, 122, 19), (382, .if_icmp .eq 690, 385, 1072, 0), (385, .iconst 0, 386, 0, 0), (386, .ireturn, 387, 0, 0), (387, .aload_n 1, 388, 0, 0), (388, .invokevirtual 39, 391, 64, 18), (391, .aload_n 2, 392, 0, 0), (392, .invokevirtual 43, 395, 138, 19), (395, .if_icmp .eq 677, 398, 1072, 0), (398, .iconst 0, 399, 0, 0), (399, .ireturn, 400, 0, 0), (400, .aload_n 1, 401, 0, 0), (401, .invokevirtual 44, 404, 65, 18), (404, .aload_n 2, 405, 0, 0), (405, .invokevirtual 47, 408, 139, 19), (408, .if_icmp .eq 664, 411, 1072, 0), (411, .iconst 0, 412, 0, 0), (412, .ireturn, 413, 0, 0), (413, .aload_n 1, 414, 0, 0), (414, .aload_n 0, 415, 0, 0), (415, .iload_n 3, 416, 0, 0), (416, .iconst 1, 417, 0, 0), (417, .iadd, 418, 0, 0), (418, .iaload, 419, 0, 0), (419, .invokevirtual 48, 422, 66, 18), (422, .aload_n 2, 423, 0, 0), (423, .aload_n 0, 424, 0, 0), (424, .iload_n 3, 425, 0, 0), (425, .iconst 1, 426, 0, 0), (426, .iadd, 427, 0, 0), (427, .iaload, 428, 0, 0), (428, .invokevirtual 51, 431, 143, 19), (431, .if_icmp .eq 641, 434, 1072, 0), (434, .iconst 0, 435, 0, 0), (435, .ireturn, 436, 0, 0), (436, .aload_n 1, 437, 0, 0), (437, .aload_n 0, 438, 0, 0), (438, .iload_n 3, 439, 0, 0), (439, .iconst 1, 440, 0, 0), (440, .iadd, 441, 0, 0), (441, .iaload, 442, 0, 0), (442, .aload_n 0, 443, 0, 0), (443, .iload_n 3, 444, 0, 0), (444, .iconst 2, 445, 0, 0), (445, .iadd, 446, 0, 0), (446, .iaload, 447, 0, 0), (447, .aload_n 0, 448, 0, 0), (448, .iload_n 3, 449, 0, 0), (449, .iconst 3, 450, 0, 0), (450, .iadd, 451, 0, 0), (451, .iaload, 452, 0, 0), (452, .aload_n 0, 453, 0, 0), (453, .iload_n 3, 454, 0, 0), (454, .iconst 4, 455, 0, 0), (455, .iadd, 456, 0, 0), (456, .iaload, 457, 0, 0), (457, .aload_n 0, 458, 0, 0), (458, .iload_n 3, 459, 0, 0), (459, .iconst 5, 460, 0, 0), (460, .iadd, 461, 0, 0), (461, .iaload, 462, 0, 0), (462, .invokevirtual 52, 465, 67, 18), (465, .aload_n 2, 466, 0, 0), (466, .aload_n 0, 467, 0, 0), (467, .iload_n 3, 468, 0, 0), (468, .iconst 1, 469, 0, 0), (469, .iadd, 470, 0, 0), (470, .iaload, 471, 0, 0), (471, .aload_n 0, 472, 0, 0), (472, .iload_n 3, 473, 0, 0), (473, .iconst 2, 474, 0, 0), (474, .iadd, 475, 0, 0), (475, .iaload, 476, 0, 0), (476, .aload_n 0, 477, 0, 0), (477, .iload_n 3, 478, 0, 0), (478, .iconst 3, 479, 0, 0), (479, .iadd, 480, 0, 0), (480, .iaload, 481, 0, 0), (481, .aload_n 0, 482, 0, 0), (482, .iload_n 3, 483, 0, 0), (483, .iconst 4, 484, 0, 0), (484, .iadd, 485, 0, 0), (485, .iaload, 486, 0, 0), (486, .aload_n 0, 487, 0, 0), (487, .iload_n 3, 488, 0, 0), (488, .iconst 5, 489, 0, 0), (489, .iadd, 490, 0, 0), (490, .iaload, 491, 0, 0), (491, .invokevirtual 55, 494, 146, 19), (494, .if_icmp .eq 578, 497, 1072, 0), (497, .iconst 0, 498, 0, 0), (498, .ireturn, 499, 0, 0), (499, .aload_n 1, 500, 0, 0), (500, .aload_n 0, 501, 0, 0), (501, .iload_n 3, 502, 0, 0), (502, .iconst 1, 503, 0, 0), (503, .iadd, 504, 0, 0), (504, .iaload, 505, 0, 0), (505, .aload_n 0, 506, 0, 0), (506, .iload_n 3, 507, 0, 0), (507, .iconst 2, 508, 0, 0), (508, .iadd, 509, 0, 0), (509, .iaload, 510, 0, 0), (510, .invokevirtual 56, 513, 68, 18), (513, .aload_n 2, 514, 0, 0), (514, .aload_n 0, 515, 0, 0), (515, .iload_n 3, 516, 0, 0), (516, .iconst 1, 517, 0, 0), (517, .iadd, 518, 0, 0), (518, .iaload, 519, 0, 0), (519, .aload_n 0, 520, 0, 0), (520, .iload_n 3, 521, 0, 0), (521, .iconst 2, 522, 0, 0), (522, .iadd, 523, 0, 0), (523, .iaload, 524, 0, 0), (524, .invokevirtual 60, 527, 147, 19), (527, .if_icmp .eq 545, 530, 1072, 0), (530, .iconst 0, 531, 0, 0), (531, .ireturn, 532, 0, 0), (532, .aload_n 1, 533, 0, 0), (533, .aload_n 0, 534, 0, 0), (534, .iload_n 3, 535, 0, 0), (535, .iconst 1, 536, 0, 0), (536, .iadd, 537, 0, 0), (537, .iaload, 538, 0, 0), (538, .aload_n 0, 539, 0, 0), (539, .iload_n 3, 540, 0, 0), (540, .iconst 2, 541, 0, 0), (541, .iadd, 542, 0, 0), (542, .iaload, 543, 0, 0), (543, .aload_n 0, 544, 0, 0), (544, .iload_n 3, 545, 0, 0), (545, .iconst 3, 546, 0, 0), (546, .iadd, 547, 0, 0), (547, .iaload, 548, 0, 0), (548, .invokevirtual 61, 551, 69, 18), (551, .aload_n 2, 552, 0, 0), (552, .aload_n 0, 553, 0, 0), (553, .iload_n 3, 554, 0, 0), (554, .iconst 1, 555, 0, 0), (555, .iadd, 556, 0, 0), (556, .iaload, 557, 0, 0), (557, .aload_n 0, 558, 0, 0), (558, .iload_n 3, 559, 0, 0), (559, .iconst 2, 560, 0, 0), (560, .iadd, 561, 0, 0), (561, .iaload, 562, 0, 0), (562, .aload_n 0, 563, 0, 0), (563, .iload_n 3, 564, 0, 0), (564, .iconst 3, 565, 0, 0), (565, .iadd, 566, 0, 0), (566, .iaload, 567, 0, 0), (567, .invokevirtual 64, 570, 152, 19), (570, .if_icmp .eq 502, 573, 1072, 0), (573, .iconst 0, 574, 0, 0), (574, .ireturn, 575, 0, 0), (575, .aload_n 1, 576, 0, 0), (576, .aload_n 0, 577, 0, 0), (577, .iload_n 3, 578, 0, 0), (578, .iconst 1, 579, 0, 0), (579, .iadd, 580, 0, 0), (580, .iaload, 581, 0, 0), (581, .aload_n 0, 582, 0, 0), (582, .iload_n 3, 583, 0, 0), (583, .iconst 2, 584, 0, 0), (584, .iadd, 585, 0, 0), (585, .iaload, 586, 0, 0), (586, .aload_n 0, 587, 0, 0), (587, .iload_n 3, 588, 0, 0), (588, .iconst 3, 589, 0, 0), (589, .iadd, 590, 0, 0), (590, .iaload, 591, 0, 0), (591, .aload_n 0, 592, 0, 0), (592, .iload_n 3, 593, 0, 0), (593, .iconst 4, 594, 0, 0), (594, .iadd, 595, 0, 0), (595, .iaload, 596, 0, 0), (596, .aload_n 0, 597, 0, 0), (597, .iload_n 3, 598, 0, 0), (598, .iconst 5, 599, 0, 0), (599, .iadd, 600, 0, 0), (600, .iaload, 601, 0, 0), (601, .aload_n 0, 602, 0, 0), (602, .iload_n 3, 603, 0, 0), (603, .bipush 6, 605, 0, 0), (605, .iadd, 606, 0, 0), (606, .iaload, 607, 0, 0), (607, .invokevirtual 65, 610, 70, 18), (610, .aload_n 2, 611, 0, 0), (611, .aload_n 0, 612, 0, 0), (612, .iload_n 3, 613, 0, 0), (613, .iconst 1, 614, 0, 0), (614, .iadd, 615, 0, 0), (615, .iaload, 616, 0, 0), (616, .aload_n 0, 617, 0, 0), (617, .iload_n 3, 618, 0, 0), (618, .iconst 2, 619, 0, 0), (619, .iadd, 620, 0, 0), (620, .iaload, 621, 0, 0), (621, .aload_n 0, 622, 0, 0), (622, .iload_n 3, 623, 0, 0), (623, .iconst 3, 624, 0, 0), (624, .iadd, 625, 0, 0), (625, .iaload, 626, 0, 0), (626, .aload_n 0, 627, 0, 0), (627, .iload_n 3, 628, 0, 0), (628, .iconst 4, 629, 0, 0), (629, .iadd, 630, 0, 0), (630, .iaload, 631, 0, 0), (631, .aload_n 0, 632, 0, 0), (632, .iload_n 3, 633, 0, 0), (633, .iconst 5, 634, 0, 0), (634, .iadd, 635, 0, 0), (635, .iaload, 636, 0, 0), (636, .aload_n 0, 637, 0, 0), (637, .iload_n 3, 638, 0, 0), (638, .bipush 6, 640, 0, 0), (640, .iadd, 641, 0, 0), (641, .iaload, 642, 0, 0), (642, .invokevirtual 69, 645, 154, 19), (645, .if_icmp .eq 427, 648, 1072, 0), (648, .iconst 0, 649, 0, 0), (649, .ireturn, 650, 0, 0), (650, .aload_n 1, 651, 0, 0), (651, .aload_n 0, 652, 0, 0), (652, .iload_n 3, 653, 0, 0), (653, .iconst 1, 654, 0, 0), (654, .iadd, 655, 0, 0), (655, .iaload, 656, 0, 0), (656, .aload_n 0, 657, 0, 0), (657, .iload_n 3, 658, 0, 0), (658, .iconst 2, 659, 0, 0), (659, .iadd, 660, 0, 0), (660, .iaload, 661, 0, 0), (661, .aload_n 0, 662, 0, 0), (662, .iload_n 3, 663, 0, 0), (663, .iconst 3, 664, 0, 0), (664, .iadd, 665, 0, 0), (665, .iaload, 666, 0, 0), (666, .aload_n 0, 667, 0, 0), (667, .iload_n 3, 668, 0, 0), (668, .iconst 4, 669, 0, 0), (669, .iadd, 670, 0, 0), (670, .iaload, 671, 0, 0), (671, .invokevirtual 70, 674, 71, 18), (674, .aload_n 2, 675, 0, 0), (675, .aload_n 0, 676, 0, 0), (676, .iload_n 3, 677, 0, 0), (677, .iconst 1, 678, 0, 0), (678, .iadd, 679, 0, 0), (679, .iaload, 680, 0, 0), (680, .aload_n 0, 681, 0, 0), (681, .iload_n 3, 682, 0, 0), (682, .iconst 2, 683, 0, 0), (683, .iadd, 684, 0, 0), (684, .iaload, 685, 0, 0), (685, .aload_n 0, 686, 0, 0), (686, .iload_n 3, 687, 0, 0), (687, .iconst 3, 688, 0, 0), (688, .iadd, 689, 0, 0), (689, .iaload, 690, 0, 0), (690, .aload_n 0, 691, 0, 0), (691, .iload_n 3, 692, 0, 0), (692, .iconst 4, 693, 0, 0), (693, .iadd, 694, 0, 0), (694, .iaload, 695, 0, 0), (695, .invokevirtual 74, 698, 155, 19), (698, .if_icmp .eq 374, 701, 1072, 0), (701, .iconst 0, 702, 0, 0), (702, .ireturn, 703, 0, 0), (703, .aload_n 1, 704, 0, 0), (704, .aload_n 0, 705, 0, 0), (705, .iload_n 3, 706, 0, 0), (706, .iconst 1, 707, 0, 0), (707, .iadd, 708, 0, 0), (708, .iaload, 709, 0, 0), (709, .aload_n 0, 710, 0, 0), (710, .iload_n 3, 711, 0, 0), (711, .iconst 2, 712, 0, 0), (712, .iadd, 713, 0, 0), (713, .iaload, 714, 0, 0), (714, .invokevirtual 75, 717, 72, 18), (717, .aload_n 2, 718, 0, 0), (718, .aload_n 0, 719, 0, 0), (719, .iload_n 3, 720, 0, 0), (720, .iconst 1, 721, 0, 0), (721, .iadd, 722, 0, 0), (722, .iaload, 723, 0, 0), (723, .aload_n 0, 724, 0, 0), (724, .iload_n 3, 725, 0, 0), (725, .iconst 2, 726, 0, 0), (726, .iadd, 727, 0, 0), (727, .iaload, 728, 0, 0), (728, .invokevirtual 78, 731, 156, 19), (731, .if_icmp .eq 341, 734, 1072, 0), (734, .iconst 0, 735, 0, 0), (735, .ireturn, 736, 0, 0), (736, .aload_n 1, 737, 0, 0), (737, .aload_n 0, 738, 0, 0), (738, .iload_n 3, 739, 0, 0), (739, .iconst 1, 740, 0, 0), (740, .iadd, 741, 0, 0), (741, .iaload, 742, 0, 0), (742, .invokevirtual 79, 745, 73, 18), (745, .aload_n 2, 746, 0, 0), (746, .aload_n 0, 747, 0, 0), (747, .iload_n 3, 748, 0, 0), (748, .iconst 1, 749, 0, 0), (749, .iadd, 750, 0, 0), (750, .iaload, 751, 0, 0), (751, .invokevirtual 82, 754, 159, 19), (754, .if_icmp .eq 318, 757, 1072, 0), (757, .iconst 0, 758, 0, 0), (758, .ireturn, 759, 0, 0), (759, .aload_n 1, 760, 0, 0), (760, .aload_n 0, 761, 0, 0), (761, .iload_n 3, 762, 0, 0), (762, .iconst 1, 763, 0, 0), (763, .iadd, 764, 0, 0), (764, .iaload, 765, 0, 0), (765, .aload_n 0, 766, 0, 0), (766, .iload_n 3, 767, 0, 0), (767, .iconst 2, 768, 0, 0), (768, .iadd, 769, 0, 0), (769, .iaload, 770, 0, 0), (770, .aload_n 0, 771, 0, 0), (771, .iload_n 3, 772, 0, 0), (772, .iconst 3, 773, 0, 0), (773, .iadd, 774, 0, 0), (774, .iaload, 775, 0, 0), (775, .invokevirtual 83, 778, 74, 18), (778, .aload_n 2, 779, 0, 0), (779, .aload_n 0, 780, 0, 0), (780, .iload_n 3, 781, 0, 0), (781, .iconst 1, 782, 0, 0), (782, .iadd, 783, 0, 0), (783, .iaload, 784, 0, 0), (784, .aload_n 0, 785, 0, 0), (785, .iload_n 3, 786, 0, 0), (786, .iconst 2, 787, 0, 0), (787, .iadd, 788, 0, 0), (788, .iaload, 789, 0, 0), (789, .aload_n 0, 790, 0, 0), (790, .iload_n 3, 791, 0, 0), (791, .iconst 3, 792, 0, 0), (792, .iadd, 793, 0, 0), (793, .iaload, 794, 0, 0), (794, .invokevirtual 86, 797, 160, 19), (797, .if_icmp .eq 275, 800, 1072, 0), (800, .iconst 0, 801, 0, 0), (801, .ireturn, 802, 0, 0), (802, .aload_n 1, 803, 0, 0), (803, .aload_n 0, 804, 0, 0), (804, .iload_n 3, 805, 0, 0), (805, .iconst 1, 806, 0, 0), (806, .iadd, 807, 0, 0), (807, .iaload, 808, 0, 0), (808, .invokevirtual 87, 811, 75, 18), (811, .aload_n 2, 812, 0, 0), (812, .aload_n 0, 813, 0, 0), (813, .iload_n 3, 814, 0, 0), (814, .iconst 1, 815, 0, 0), (815, .iadd, 816, 0, 0), (816, .iaload, 817, 0, 0), (817, .invokevirtual 90, 820, 161, 19), (820, .if_icmp .eq 252, 823, 1072, 0), (823, .iconst 0, 824, 0, 0), (824, .ireturn, 825, 0, 0), (825, .aload_n 1, 826, 0, 0), (826, .aload_n 0, 827, 0, 0), (827, .iload_n 3, 828, 0, 0), (828, .iconst 1, 829, 0, 0), (829, .iadd, 830, 0, 0), (830, .iaload, 831, 0, 0), (831, .aload_n 0, 832, 0, 0), (832, .iload_n 3, 833, 0, 0), (833, .iconst 2, 834, 0, 0), (834, .iadd, 835, 0, 0), (835, .iaload, 836, 0, 0), (836, .invokevirtual 91, 839, 76, 18), (839, .aload_n 2, 840, 0, 0), (840, .aload_n 0, 841, 0, 0), (841, .iload_n 3, 842, 0, 0), (842, .iconst 1, 843, 0, 0), (843, .iadd, 844, 0, 0), (844, .iaload, 845, 0, 0), (845, .aload_n 0, 846, 0, 0), (846, .iload_n 3, 847, 0, 0), (847, .iconst 2, 848, 0, 0), (848, .iadd, 849, 0, 0), (849, .iaload, 850, 0, 0), (850, .invokevirtual 94, 853, 166, 19), (853, .if_icmp .eq 219, 856, 1072, 0), (856, .iconst 0, 857, 0, 0), (857, .ireturn, 858, 0, 0), (858, .aload_n 1, 859, 0, 0), (859, .aload_n 0, 860, 0, 0), (860, .iload_n 3, 861, 0, 0), (861, .iconst 1, 862, 0, 0), (862, .iadd, 863, 0, 0), (863, .iaload, 864, 0, 0), (864, .aload_n 0, 865, 0, 0), (865, .iload_n 3, 866, 0, 0), (866, .iconst 2, 867, 0, 0), (867, .iadd, 868, 0, 0), (868, .iaload, 869, 0, 0), (869, .aload_n 0, 870, 0, 0), (870, .iload_n 3, 871, 0, 0), (871, .iconst 3, 872, 0, 0), (872, .iadd, 873, 0, 0), (873, .iaload, 874, 0, 0), (874, .invokevirtual 95, 877, 77, 18), (877, .aload_n 2, 878, 0, 0), (878, .aload_n 0, 879, 0, 0), (879, .iload_n 3, 880, 0, 0), (880, .iconst 1, 881, 0, 0), (881, .iadd, 882, 0, 0), (882, .iaload, 883, 0, 0), (883, .aload_n 0, 884, 0, 0), (884, .iload_n 3, 885, 0, 0), (885, .iconst 2, 886, 0, 0), (886, .iadd, 887, 0, 0), (887, .iaload, 888, 0, 0), (888, .aload_n 0, 889, 0, 0), (889, .iload_n 3, 890, 0, 0), (890, .iconst 3, 891, 0, 0), (891, .iadd, 892, 0, 0), (892, .iaload, 893, 0, 0), (893, .invokevirtual 98, 896, 167, 19), (896, .if_icmp .eq 176, 899, 1072, 0), (899, .iconst 0, 900, 0, 0), (900, .ireturn, 901, 0, 0), (901, .aload_n 1, 902, 0, 0), (902, .aload_n 0, 903, 0, 0), (903, .iload_n 3, 904, 0, 0), (904, .iconst 1, 905, 0, 0), (905, .iadd, 906, 0, 0), (906, .iaload, 907, 0, 0), (907, .invokevirtual 99, 910, 78, 18), (910, .aload_n 2, 911, 0, 0), (911, .aload_n 0, 912, 0, 0), (912, .iload_n 3, 913, 0, 0), (913, .iconst 1, 914, 0, 0), (914, .iadd, 915, 0, 0), (915, .iaload, 916, 0, 0), (916, .invokevirtual 102, 919, 168, 19), (919, .if_icmp .eq 153, 922, 1072, 0), (922, .iconst 0, 923, 0, 0), (923, .ireturn, 924, 0, 0), (924, .aload_n 1, 925, 0, 0), (925, .aload_n 0, 926, 0, 0), (926, .iload_n 3, 927, 0, 0), (927, .iconst 1, 928, 0, 0), (928, .iadd, 929, 0, 0), (929, .iaload, 930, 0, 0), (930, .invokevirtual 103, 933, 79, 18), (933, .aload_n 2, 934, 0, 0), (934, .aload_n 0, 935, 0, 0), (935, .iload_n 3, 936, 0, 0), (936, .iconst 1, 937, 0, 0), (937, .iadd, 938, 0, 0), (938, .iaload, 939, 0, 0), (939, .invokevirtual 106, 942, 172, 19), (942, .if_icmp .eq 130, 945, 1072, 0), (945, .iconst 0, 946, 0, 0), (946, .ireturn, 947, 0, 0), (947, .aload_n 1, 948, 0, 0), (948, .aload_n 0, 949, 0, 0), (949, .iload_n 3, 950, 0, 0), (950, .iconst 1, 951, 0, 0), (951, .iadd, 952, 0, 0), (952, .iaload, 953, 0, 0), (953, .aload_n 0, 954, 0, 0), (954, .iload_n 3, 955, 0, 0), (955, .iconst 2, 956, 0, 0), (956, .iadd, 957, 0, 0), (957, .iaload, 958, 0, 0), (958, .invokevirtual 107, 961, 80, 18), (961, .aload_n 2, 962, 0, 0), (962, .aload_n 0, 963, 0, 0), (963, .iload_n 3, 964, 0, 0), (964, .iconst 1, 965, 0, 0), (965, .iadd, 966, 0, 0), (966, .iaload, 967, 0, 0), (967, .aload_n 0, 968, 0, 0), (968, .iload_n 3, 969, 0, 0), (969, .iconst 2, 970, 0, 0), (970, .iadd, 971, 0, 0), (971, .iaload, 972, 0, 0), (972, .invokevirtual 110, 975, 173, 19), (975, .if_icmp .eq 97, 978, 1072, 0), (978, .iconst 0, 979, 0, 0), (979, .ireturn, 980, 0, 0), (980, .aload_n 1, 981, 0, 0), (981, .aload_n 0, 982, 0, 0), (982, .iload_n 3, 983, 0, 0), (983, .iconst 1, 984, 0, 0), (984, .iadd, 985, 0, 0), (985, .iaload, 986, 0, 0), (986, .aload_n 0, 987, 0, 0), (987, .iload_n 3, 988, 0, 0), (988, .iconst 2, 989, 0, 0), (989, .iadd, 990, 0, 0), (990, .iaload, 991, 0, 0), (991, .invokevirtual 111, 994, 81, 18), (994, .aload_n 2, 995, 0, 0), (995, .aload_n 0, 996, 0, 0), (996, .iload_n 3, 997, 0, 0), (997, .iconst 1, 998, 0, 0), (998, .iadd, 999, 0, 0), (999, .iaload, 1000, 0, 0), (1000, .aload_n 0, 1001, 0, 0), (1001, .iload_n 3, 1002, 0, 0), (1002, .iconst 2, 1003, 0, 0), (1003, .iadd, 1004, 0, 0), (1004, .iaload, 1005, 0, 0), (1005, .invokevirtual 114, 1008, 179, 19), (1008, .if_icmp .eq 64, 1011, 1072, 0), (1011, .iconst 0, 1012, 0, 0), (1012, .ireturn, 1013, 0, 0), (1013, .aload_n 1, 1014, 0, 0), (1014, .aload_n 0, 1015, 0, 0), (1015, .iload_n 3, 1016, 0, 0), (1016, .iconst 1, 1017, 0, 0), (1017, .iadd, 1018, 0, 0), (1018, .iaload, 1019, 0, 0), (1019, .invokevirtual 115, 1022, 82, 18), (1022, .aload_n 2, 1023, 0, 0), (1023, .aload_n 0, 1024, 0, 0), (1024, .iload_n 3, 1025, 0, 0), (1025, .iconst 1, 1026, 0, 0), (1026, .iadd, 1027, 0, 0), (1027, .iaload, 1028, 0, 0), (1028, .invokevirtual 118, 1031, 180, 19), (1031, .if_icmp .eq 41, 1034, 1072, 0), (1034, .iconst 0, 1035, 0, 0), (1035, .ireturn, 1036, 0, 0), (1036, .aload_n 1, 1037, 0, 0), (1037, .aload_n 0, 1038, 0, 0), (1038, .iload_n 3, 1039, 0, 0), (1039, .iconst 1, 1040, 0, 0), (1040, .iadd, 1041, 0, 0), (1041, .iaload, 1042, 0, 0), (1042, .invokevirtual 119, 1045, 83, 18), (1045, .aload_n 2, 1046, 0, 0), (1046, .aload_n 0, 1047, 0, 0), (1047, .iload_n 3, 1048, 0, 0), (1048, .iconst 1, 1049, 0, 0), (1049, .iadd, 1050, 0, 0), (1050, .iaload, 1051, 0, 0), (1051, .invokevirtual 122, 1054, 182, 19), (1054, .if_icmp .eq 18, 1057, 1072, 0), (1057, .iconst 0, 1058, 0, 0), (1058, .ireturn, 1059, 0, 0), (1059, .aload_n 1, 1060, 0, 0), (1060, .invokevirtual 123, 1063, 84, 18), (1063, .aload_n 2, 1064, 0, 0), (1064, .invokevirtual 126, 1067, 183, 19), (1067, .if_icmp .eq 5, 1070, 1072, 0), (1070, .iconst 0, 1071, 0, 0), (1071, .ireturn, 1072, 0, 0), (1072, .iinc 3 7, 1075, 0, 0), (1075, .goto (-1057), 1078, 18, 0), (1078, .iconst 1, 1079, 0, 0), (1079, .ireturn, 1080, 0, 0)]
def mt_L_law : pm_T := (RL, yL_law, cL_law, 4, (some .boolean), 1, gm_L_law)
def pm_tab : List pm_T := [mt_X0_init, mt_X1_init, mt_X1_isThere, mt_X1_standing, mt_X1_leastBroken, mt_X1_measureWaysTo, mt_X1_reach, mt_X1_spread, mt_X1_stepsFrom, mt_X1_firstFrom, mt_X2_init, mt_X2_become, mt_X3_init, mt_X3_place, mt_X3_readText, mt_X3_readEdition, mt_X3_readRule, mt_X3_answerBy, mt_X3_readAnswer, mt_X3_takesRefuse, mt_X3_readSaying, mt_X3_readThen, mt_X3_readField, mt_X3_readTry, mt_X3_readWithin, mt_X3_isNumber, mt_X3_look, mt_X3_number, mt_X3_fresh, mt_X3_take, mt_X4_init, mt_X5_init, mt_X5_begin, mt_X5_cut, mt_X5_reaches, mt_X6_init, mt_X6_split, mt_X6_endOfToken, mt_X6_tokenOf, mt_X6_numberOf, mt_X6_wordOf, mt_X6_spells, mt_X6_isLetter, mt_X6_isFigure, mt_X7_init, mt_X7_hasSaying, mt_X7_hasEdition, mt_X7_editionOf, mt_X7_settle, mt_X7_keptBy, mt_X7_leastQuarrel, mt_X7_sharesGiver, mt_X7_leastThird, mt_X7_standIns, mt_X7_kindOf, mt_X7_countEditions, mt_X7_countKept, mt_X7_countWithin, mt_X8_init, mt_X8_sheet, mt_X8_set, mt_X8_copy, mt_X8_drop, mt_X8_feed, mt_X8_laws, mt_X8_fault, mt_X8_editions, mt_X8_answer, mt_X8_saying, mt_X8_play, mt_X8_standIn, mt_X8_allows, mt_X8_noMore, mt_X8_quarrel, mt_X8_change, mt_X8_right, mt_X8_house, mt_X8_letOut, mt_X8_hours, mt_X8_kind, mt_X8_as, mt_X8_ask, mt_X8_trace, mt_X8_count, mt_X8_status, mt_X8_found, mt_X8_well, mt_X8_countSheets, mt_X8_isBelow, mt_X8_isCase, mt_X8_caseOf, mt_X8_casesOf, mt_X8_isWithin, mt_X8_addHours, mt_X8_fieldOf, mt_X8_answerOf, mt_X8_countGiven, mt_X8_nthGiven, mt_X8_nthBit, mt_X8_hasNone, mt_X8_firstBroken, mt_X8_wrongField, mt_X8_leave, mt_X8_askSize, mt_X8_askMark, mt_X8_sizeLent, mt_X8_sizeOfGiven, mt_X8_sizeOfBefore, mt_X8_sizeOfRefuses, mt_X8_sizeOfQuarrel, mt_X8_markLent, mt_X8_markOfGiven, mt_X8_markOfLoose, mt_X8_markOfQuarrel, mt_X9_init, mt_X9_in, mt_X9_finding, mt_X9_isSheet, mt_X9_sheet, mt_X9_set, mt_X9_copy, mt_X9_drop, mt_X9_feed, mt_X9_byteAt, mt_X9_isLetter, mt_X9_isFigure, mt_X9_next, mt_X9_bad, mt_X9_must, mt_X9_word, mt_X9_numberHere, mt_X9_numberIn, mt_X9_mustRefuseOrGive, mt_X9_readRule, mt_X9_readEdition, mt_X9_readSaying, mt_X9_readWithin, mt_X9_readOne, mt_X9_laws, mt_X9_fault, mt_X9_isService, mt_X9_isEdition, mt_X9_isSaying, mt_X9_editions, mt_X9_answerOf, mt_X9_fieldIn, mt_X9_answer, mt_X9_saying, mt_X9_isAbout, mt_X9_wrongIn, mt_X9_breaks, mt_X9_isKept, mt_X9_play, mt_X9_isAllowedByAll, mt_X9_standIn, mt_X9_allows, mt_X9_noMore, mt_X9_doQuarrel, mt_X9_quarrelOf, mt_X9_quarrel, mt_X9_change, mt_X9_right, mt_X9_figure, mt_X9_worth, mt_X9_isHouse, mt_X9_redOf, mt_X9_house, mt_X9_letOut, mt_X9_hours, mt_X9_bits, mt_X9_kindOf, mt_X9_isOf, mt_X9_kind, mt_X9_as, mt_X9_began, mt_X9_aboutHowMany, mt_X9_givenSize, mt_X9_markOf, mt_X9_sizeOf, mt_X9_ask, mt_X9_trace, mt_X9_isKeptBySome, mt_X9_count, mt_X9_status, mt_J6_bitCount_0f7a4, mt_J0_length_8abf5, mt_J0_charAt_5068e, mt_J0_coder_7d493, mt_J0_isLatin1_aae02, mt_J0_checkIndex_df160, mt_J1_charAt_3b067, mt_J3_checkIndex_8e157, mt_L_law]
def pm (m : Nat) : pm_T := pm_tab.getD m ("", ⟨"", "", ""⟩, ⟨#[]⟩, 0, none, 0, [])
def pf (G : pm_T) (pc : Nat) : Option pe_T := G.2.2.2.2.2.2.find? (fun e => e.1 == pc)
end
section
/-! WHAT WAS THERE BEFORE, and the words of the tables -/
def pz_B : List Cond := lw_tbl.filter goodWord
theorem pz_B_in {w : Cond} (h : w ∈ lw_tbl) (hg : goodWord w = true) : w ∈ pz_B := List.mem_filter.mpr ⟨h, hg⟩
theorem pz_B_good : ∀ w ∈ pz_B, w ∈ lw_tbl ∧ goodWord w = true := fun _ h => List.mem_filter.mp h
def pz_ws (G : pm_T) : List Cond := Cond.code G.2.1 G.2.2.1 G.2.2.2.1 G.2.2.2.2.1 :: pz_B
/-- the seven words: their places in the pool, their texts, their lengths -/
def pz_str : List (Nat × String × Nat) := [(47, "when", 4), (53, "give", 4), (55, "refuse", 6), (57, "saying", 6), (59, "edition", 7), (61, "try", 3), (63, "within", 6)]
def pz_nest : List Cond := lw_tbl.filter (fun w => match w with
  | .methodLinkNest _ _ _ _ => true
  | _ => false)
def pk_ft (k : Nat) : FieldType := ([.int, .byte, .short, .boolean, .object RX5, .object RX4, .object RX0] : List FieldType).getD k .int
theorem pz_sizes {k : Nat} {C : String} {T : u_T} {N : Nat} (hc : vwCl[k]? = some (C, T, N)) : N = pf_n k := by
  have hk : k < 10 := (List.getElem?_eq_some_iff.mp hc).1
  rcases (by omega : k = 0 ∨ k = 1 ∨ k = 2 ∨ k = 3 ∨ k = 4 ∨ k = 5 ∨ k = 6 ∨ k = 7 ∨ k = 8 ∨ k = 9) with rfl | rfl | rfl | rfl | rfl | rfl | rfl | rfl | rfl | rfl <;> cases hc <;> rfl
/-! what must be true of each entry of a method's list -/
def pe_link (own : String) (j : Nat) (y : MethodName) (v : Int) : Prop := if v = 1 then Cond.methodLinkNest own j y "CallLaws" ∈ pz_nest else Cond.methodLink own j y ∈ pz_B
/-- the class of a kind of receiver -/
def pe_cls (kind : Nat) : String := if kind = 20 then "java/lang/String" else ((vwCl[kind - 10]?).map (fun q => q.1)).getD ""
def pe_call (G1 : pm_T) (n : Nat) : Prop := (Cond.code G1.2.1 G1.2.2.1 G1.2.2.2.1 G1.2.2.2.2.1 ∈ pz_B ∧ Cond.initialized G1.2.1.cls ∈ pz_B ∧ plainName G1.2.1.cls = true ∧ G1.1 = G1.2.1.cls ∧ G1.2.2.2.1 ≤ 20) ∧
  G1.2.1.cls ≠ "java/lang/invoke/MethodHandle" ∧ G1.2.1.cls ≠ "java/lang/invoke/VarHandle" ∧ (parseMethodDescriptor G1.2.1.desc).map (fun d => d.parameters.length) = some n
def pe_fld (own : String) (j kind k : Nat) (C : String) (T : u_T) (N : Nat) : Prop := vwCl[kind - 10]? = some (C, T, N) ∧ k < N ∧ (T k).1 = C ∧ Cond.fieldLink own j C (T k).2.1 (T k).2.2.1 ∈ pz_B
def pe_len (i : Instr) : Option Nat := match i with
  | .tableswitch _ _ _ _ => none
  | .bipush _ | .ldc _ | .iload _ | .lload _ | .aload _ | .istore _ | .lstore _ | .astore _ | .newarray _ => some 2
  | .sipush _ | .ldc_w _ | .ldc2_w _ | .iinc _ _ | .ifCond _ _ | .if_icmp _ _ | .goto _ | .getfield _ | .putfield _ | .getstatic _ | .new _ | .anewarray _ | .invokespecial _ | .invokestatic _ | .invokevirtual _ => some 3
  | _ => some 1
def pe_ok (G : pm_T) (e : pe_T) : Prop :=
  decode G.2.2.1 e.1 = .ok (e.2.1, e.2.2.1 - e.1) ∧ (∀ n, pe_len e.2.1 = some n → e.2.2.1 = e.1 + n) ∧
  match e.2.1 with
  | .ldc j => (e.2.2.2.1 = 0 → Cond.constant G.1 j (Int32.ofInt e.2.2.2.2) ∈ pz_B) ∧ (e.2.2.2.1 ≠ 0 → G.1 = RX6 ∧ ∃ i q, pz_str[i]? = some q ∧ q.1 = j ∧ e.2.2.2.2.toNat = 3 + i)
  | .ldc_w j => Cond.constant G.1 j (Int32.ofInt e.2.2.2.2) ∈ pz_B
  | .ldc2_w j => Cond.constantLong G.1 j (Int64.ofInt e.2.2.2.2) ∈ pz_B
  | .istore j => j < G.2.2.2.1
  | .istore_n j => (j : Nat) < G.2.2.2.1
  | .astore j => j < G.2.2.2.1
  | .astore_n j => (j : Nat) < G.2.2.2.1
  | .lstore j => j + 1 < G.2.2.2.1
  | .lstore_n j => (j : Nat) + 1 < G.2.2.2.1
  | .iinc j _ => j < G.2.2.2.1
  | .ifCond _ off => (e.1 : Int) + off = (e.2.2.2.1 : Int)
  | .if_icmp _ off => (e.1 : Int) + off = (e.2.2.2.1 : Int)
  | .goto off => (e.1 : Int) + off = (e.2.2.2.1 : Int)
  | .getfield j => (e.2.2.2.2.toNat = 20 → (e.2.2.2.1 = 0 → Cond.fieldLink G.1 j "java/lang/String" "value" "[B" ∈ pz_B) ∧ (e.2.2.2.1 ≠ 0 → Cond.fieldLink G.1 j "java/lang/String" "coder" "B" ∈ pz_B)) ∧
      (e.2.2.2.2.toNat ≠ 20 → ∃ C T N, pe_fld G.1 j e.2.2.2.2.toNat e.2.2.2.1 C T N)
  | .putfield j => ∃ C T N, pe_fld G.1 j e.2.2.2.2.toNat e.2.2.2.1 C T N ∧ (if pf_ty (e.2.2.2.2.toNat - 10) e.2.2.2.1 = 1 then (T e.2.2.2.1).2.2.2 = true ∧ G.2.1.name = "<init>" ∧ C = G.1 else (T e.2.2.2.1).2.2.2 = false)
  | .getstatic j => (e.2.2.2.1 = 0 → e.2.2.2.2 = 1 ∧ Cond.fieldLink G.1 j "java/lang/String" "COMPACT_STRINGS" "Z" ∈ pz_B) ∧
      (e.2.2.2.1 = 1 → (e.2.2.2.2 = 1 ∧ Cond.fieldLink G.1 j "CallLaws" "ABOVE" "[I" ∈ pz_B) ∨ (e.2.2.2.2 = 2 ∧ Cond.fieldLink G.1 j "CallLaws$Houses" "WEIGHTS" "[I" ∈ pz_B)) ∧
      (e.2.2.2.1 = 2 → Cond.fieldLink G.1 j "jdk/internal/util/Preconditions" "SIOOBE_FORMATTER" "Ljava/util/function/BiFunction;" ∈ pz_B)
  | .new j => e.2.2.2.1 < 10 → ∃ C T N, vwCl[e.2.2.2.1]? = some (C, T, N) ∧ Cond.classLink G.1 j C ∈ pz_B ∧ Cond.instantiable C N ∈ pz_B ∧ Cond.initialized C ∈ pz_B ∧ N = pf_n e.2.2.2.1
  | .newarray t => e.2.2.2.1 < 4 ∧ newarray.typeOf t = pk_ft e.2.2.2.1 ∧ Cond.arrayClass (pk_ft e.2.2.2.1) ∈ pz_B
  | .anewarray j => 4 ≤ e.2.2.2.1 ∧ e.2.2.2.1 < 7 ∧ ∃ C, pk_ft e.2.2.2.1 = .object C ∧ (C = RX5 ∨ C = RX4 ∨ C = RX0) ∧ Cond.classLink G.1 j C ∈ pz_B
  | .invokespecial j => (e.2.2.2.1 = 1000 → Cond.methodLink G.1 j objectInit ∈ pz_B) ∧ (e.2.2.2.1 < 192 → e.2.2.1 = e.1 + 3 ∧ (pm e.2.2.2.1).2.1.name = "<init>" ∧ (pm e.2.2.2.1).2.2.2.2.1 = none ∧ Cond.instanceMethod (pm e.2.2.2.1).2.1 ∈ pz_B ∧ pe_link G.1 j (pm e.2.2.2.1).2.1 e.2.2.2.2 ∧ pe_call (pm e.2.2.2.1) ((pm e.2.2.2.1).2.2.2.2.2.1 - 1))
  | .invokestatic j => (e.2.2.2.1 = 1001 → Cond.methodLink G.1 j arraycopyName ∈ pz_B) ∧ (e.2.2.2.1 < 192 → e.2.2.1 = e.1 + 3 ∧ Cond.static (pm e.2.2.2.1).2.1 ∈ pz_B ∧ pe_link G.1 j (pm e.2.2.2.1).2.1 e.2.2.2.2 ∧ pe_call (pm e.2.2.2.1) (pm e.2.2.2.1).2.2.2.2.2.1)
  | .invokevirtual j => e.2.2.2.1 < 192 → e.2.2.1 = e.1 + 3 ∧ (10 ≤ e.2.2.2.2.toNat ∧ e.2.2.2.2.toNat ≤ 20) ∧ Cond.instanceMethod (pm e.2.2.2.1).2.1 ∈ pz_B ∧ Cond.selects (pm e.2.2.2.1).2.1.cls (pm e.2.2.2.1).2.1 (pm e.2.2.2.1).2.1 ∈ pz_B ∧ Cond.methodLink G.1 j (pm e.2.2.2.1).2.1 ∈ pz_B ∧ pe_cls e.2.2.2.2.toNat = (pm e.2.2.2.1).2.1.cls ∧ pe_call (pm e.2.2.2.1) ((pm e.2.2.2.1).2.2.2.2.2.1 - 1)
  | _ => True
end
section
/-! THE TABLE IS RIGHT: a check that a program decides; hs: where the words stand in the tables -/
def pq (p : Nat) (w : Cond) : Bool := decide (lw_tbl[p]? = some w) && goodWord w
theorem pq_in {p : Nat} {w : Cond} (h : pq p w = true) : w ∈ pz_B := by
  unfold pq at h
  simp only [Bool.and_eq_true, decide_eq_true_eq] at h
  exact pz_B_in (List.mem_of_getElem? h.1) h.2
def pq_link (p : Nat) (own : String) (j : Nat) (y : MethodName) (v : Int) : Bool := if v = 1 then decide (lw_tbl[p]? = some (Cond.methodLinkNest own j y "CallLaws")) else pq p (Cond.methodLink own j y)
theorem pq_link_in {p : Nat} {own : String} {j : Nat} {y : MethodName} {v : Int} (h : pq_link p own j y v = true) : pe_link own j y v := by
  unfold pq_link at h
  unfold pe_link
  split at h
  next hv =>
    rw [if_pos hv]
    exact List.mem_filter.mpr ⟨List.mem_of_getElem? (of_decide_eq_true h), rfl⟩
  next hv =>
    rw [if_neg hv]
    exact pq_in h
def pq_fld (p : Nat) (own : String) (j kind k : Nat) : Bool := match vwCl[kind - 10]? with
  | some (C, T, N) => decide (k < N) && (decide ((T k).1 = C) && pq p (Cond.fieldLink own j C (T k).2.1 (T k).2.2.1))
  | none => false
theorem pq_fld_in {p : Nat} {own : String} {j kind k : Nat} (h : pq_fld p own j kind k = true) : ∃ C T N, pe_fld own j kind k C T N := by
  unfold pq_fld at h
  split at h
  next C T N hc =>
    simp only [Bool.and_eq_true, decide_eq_true_eq] at h
    exact ⟨C, T, N, hc, h.1, h.2.1, pq_in h.2.2⟩
  next => cases h
/-- a method that may be called -/
def pe_mb (m : Nat) (hs : List Nat) : Bool := pq (hs.getD 0 0) (Cond.code (pm m).2.1 (pm m).2.2.1 (pm m).2.2.2.1 (pm m).2.2.2.2.1) && (pq (hs.getD 1 0) (Cond.initialized (pm m).2.1.cls) && (plainName (pm m).2.1.cls && (decide ((pm m).1 = (pm m).2.1.cls) && (decide ((pm m).2.2.2.1 ≤ 20) && decide ((pm m).2.1.cls ≠ "java/lang/invoke/MethodHandle" ∧ (pm m).2.1.cls ≠ "java/lang/invoke/VarHandle")))))
theorem pe_mb_ok {m : Nat} {hs : List Nat} (h : pe_mb m hs = true) {n : Nat} (hn : (parseMethodDescriptor (pm m).2.1.desc).map (fun d => d.parameters.length) = some n) : pe_call (pm m) n := by
  unfold pe_mb at h
  simp only [Bool.and_eq_true, decide_eq_true_eq] at h
  obtain ⟨h1, h2, h3, h4, h5, h6⟩ := h
  exact ⟨⟨pq_in h1, pq_in h2, h3, h4, h5⟩, h6.1, h6.2, hn⟩
def pe_n (m n : Nat) : Bool := decide ((parseMethodDescriptor (pm m).2.1.desc).map (fun d => d.parameters.length) = some n)
def pe_b (G : pm_T) (e : pe_T) (hs : List Nat) : Bool :=
  decide (decode G.2.2.1 e.1 = .ok (e.2.1, e.2.2.1 - e.1)) && ((match pe_len e.2.1 with
    | some n => decide (e.2.2.1 = e.1 + n)
    | none => true) &&
  match e.2.1 with
  | .ldc j => if e.2.2.2.1 = 0 then pq (hs.getD 0 0) (Cond.constant G.1 j (Int32.ofInt e.2.2.2.2)) else decide (G.1 = RX6 ∧ 3 ≤ e.2.2.2.2.toNat ∧ (pz_str[e.2.2.2.2.toNat - 3]?).map (fun q => q.1) = some j)
  | .ldc_w j => pq (hs.getD 0 0) (Cond.constant G.1 j (Int32.ofInt e.2.2.2.2))
  | .ldc2_w j => pq (hs.getD 0 0) (Cond.constantLong G.1 j (Int64.ofInt e.2.2.2.2))
  | .istore j => decide (j < G.2.2.2.1)
  | .istore_n j => decide ((j : Nat) < G.2.2.2.1)
  | .astore j => decide (j < G.2.2.2.1)
  | .astore_n j => decide ((j : Nat) < G.2.2.2.1)
  | .lstore j => decide (j + 1 < G.2.2.2.1)
  | .lstore_n j => decide ((j : Nat) + 1 < G.2.2.2.1)
  | .iinc j _ => decide (j < G.2.2.2.1)
  | .ifCond _ off => decide ((e.1 : Int) + off = (e.2.2.2.1 : Int))
  | .if_icmp _ off => decide ((e.1 : Int) + off = (e.2.2.2.1 : Int))
  | .goto off => decide ((e.1 : Int) + off = (e.2.2.2.1 : Int))
  | .getfield j => if e.2.2.2.2.toNat = 20 then (if e.2.2.2.1 = 0 then pq (hs.getD 0 0) (Cond.fieldLink G.1 j "java/lang/String" "value" "[B") else pq (hs.getD 0 0) (Cond.fieldLink G.1 j "java/lang/String" "coder" "B")) else pq_fld (hs.getD 0 0) G.1 j e.2.2.2.2.toNat e.2.2.2.1
  | .putfield j => pq_fld (hs.getD 0 0) G.1 j e.2.2.2.2.toNat e.2.2.2.1 && (match vwCl[e.2.2.2.2.toNat - 10]? with
    | some (C, T, _) => if pf_ty (e.2.2.2.2.toNat - 10) e.2.2.2.1 = 1 then decide ((T e.2.2.2.1).2.2.2 = true ∧ G.2.1.name = "<init>" ∧ C = G.1) else decide ((T e.2.2.2.1).2.2.2 = false)
    | none => false)
  | .getstatic j => if e.2.2.2.1 = 0 then decide (e.2.2.2.2 = 1) && pq (hs.getD 0 0) (Cond.fieldLink G.1 j "java/lang/String" "COMPACT_STRINGS" "Z")
      else if e.2.2.2.1 = 1 then (if e.2.2.2.2 = 1 then pq (hs.getD 0 0) (Cond.fieldLink G.1 j "CallLaws" "ABOVE" "[I") else decide (e.2.2.2.2 = 2) && pq (hs.getD 0 0) (Cond.fieldLink G.1 j "CallLaws$Houses" "WEIGHTS" "[I"))
      else if e.2.2.2.1 = 2 then pq (hs.getD 0 0) (Cond.fieldLink G.1 j "jdk/internal/util/Preconditions" "SIOOBE_FORMATTER" "Ljava/util/function/BiFunction;") else true
  | .new j => if e.2.2.2.1 < 10 then (match vwCl[e.2.2.2.1]? with
      | some (C, _, N) => pq (hs.getD 0 0) (Cond.classLink G.1 j C) && (pq (hs.getD 1 0) (Cond.instantiable C N) && pq (hs.getD 2 0) (Cond.initialized C))
      | none => false) else true
  | .newarray t => decide (e.2.2.2.1 < 4 ∧ newarray.typeOf t = pk_ft e.2.2.2.1) && pq (hs.getD 0 0) (Cond.arrayClass (pk_ft e.2.2.2.1))
  | .anewarray j => decide (4 ≤ e.2.2.2.1 ∧ e.2.2.2.1 < 7) && (match pk_ft e.2.2.2.1 with
      | .object C => decide (C = RX5 ∨ C = RX4 ∨ C = RX0) && pq (hs.getD 0 0) (Cond.classLink G.1 j C)
      | _ => false)
  | .invokespecial j => if e.2.2.2.1 = 1000 then pq (hs.getD 0 0) (Cond.methodLink G.1 j objectInit) else if e.2.2.2.1 < 192 then decide ((pm e.2.2.2.1).2.1.name = "<init>" ∧ (pm e.2.2.2.1).2.2.2.2.1 = none) && (pq (hs.getD 1 0) (Cond.instanceMethod (pm e.2.2.2.1).2.1) && (pq_link (hs.getD 0 0) G.1 j (pm e.2.2.2.1).2.1 e.2.2.2.2 && pe_n e.2.2.2.1 ((pm e.2.2.2.1).2.2.2.2.2.1 - 1))) else true
  | .invokestatic j => if e.2.2.2.1 = 1001 then pq (hs.getD 0 0) (Cond.methodLink G.1 j arraycopyName) else if e.2.2.2.1 < 192 then pq (hs.getD 1 0) (Cond.static (pm e.2.2.2.1).2.1) && (pq_link (hs.getD 0 0) G.1 j (pm e.2.2.2.1).2.1 e.2.2.2.2 && pe_n e.2.2.2.1 (pm e.2.2.2.1).2.2.2.2.2.1) else true
  | .invokevirtual j => if e.2.2.2.1 < 192 then decide (10 ≤ e.2.2.2.2.toNat ∧ e.2.2.2.2.toNat ≤ 20 ∧ pe_cls e.2.2.2.2.toNat = (pm e.2.2.2.1).2.1.cls) && (pq (hs.getD 1 0) (Cond.instanceMethod (pm e.2.2.2.1).2.1) && (pq (hs.getD 2 0) (Cond.selects (pm e.2.2.2.1).2.1.cls (pm e.2.2.2.1).2.1 (pm e.2.2.2.1).2.1) && (pq (hs.getD 0 0) (Cond.methodLink G.1 j (pm e.2.2.2.1).2.1) && pe_n e.2.2.2.1 ((pm e.2.2.2.1).2.2.2.2.2.1 - 1)))) else true
  | _ => true)
set_option maxHeartbeats 4000000 in
theorem pe_b_ok (hM : ∀ m, m < 192 → ∀ n, (parseMethodDescriptor (pm m).2.1.desc).map (fun d => d.parameters.length) = some n → pe_call (pm m) n) {G : pm_T} {en : pe_T} {hs : List Nat} (h : pe_b G en hs = true) : pe_ok G en := by
  obtain ⟨pc, i, nx, k, v⟩ := en
  unfold pe_b at h
  rw [Bool.and_eq_true, Bool.and_eq_true] at h
  obtain ⟨h1, h2, h3⟩ := h
  have h1 := of_decide_eq_true h1
  have hn : ∀ n, pe_len i = some n → nx = pc + n := by
    intro n hn
    have h2' : (match pe_len i with
      | some n => decide (nx = pc + n)
      | none => true) = true := h2
    rw [hn] at h2'
    exact of_decide_eq_true h2'
  refine ⟨h1, hn, ?_⟩
  cases i with
  | ldc j =>
    refine ⟨fun hk => ?_, fun hk => ?_⟩
    · simp only [show k = 0 from hk, if_true] at h3
      exact pq_in h3
    · simp only [show ¬ k = 0 from hk, if_false, decide_eq_true_eq] at h3
      obtain ⟨g1, g2, g3⟩ := h3
      obtain ⟨q, hq, hq2⟩ := Option.map_eq_some_iff.mp g3
      exact ⟨g1, v.toNat - 3, q, hq, hq2, by show v.toNat = 3 + (v.toNat - 3); omega⟩
  | ldc_w j => exact pq_in h3
  | ldc2_w j => exact pq_in h3
  | istore j => exact of_decide_eq_true h3
  | istore_n j => exact of_decide_eq_true h3
  | astore j => exact of_decide_eq_true h3
  | astore_n j => exact of_decide_eq_true h3
  | lstore j => exact of_decide_eq_true h3
  | lstore_n j => exact of_decide_eq_true h3
  | iinc j z => exact of_decide_eq_true h3
  | ifCond cd off => exact of_decide_eq_true h3
  | if_icmp cd off => exact of_decide_eq_true h3
  | goto off => exact of_decide_eq_true h3
  | getfield j =>
    refine ⟨fun hv => ⟨fun hk => ?_, fun hk => ?_⟩, fun hv => ?_⟩
    · simp only [show v.toNat = 20 from hv, show k = 0 from hk, if_true] at h3
      exact pq_in h3
    · simp only [show v.toNat = 20 from hv, show ¬ k = 0 from hk, if_true, if_false] at h3
      exact pq_in h3
    · simp only [show ¬ v.toNat = 20 from hv, if_false] at h3
      exact pq_fld_in h3
  | putfield j =>
    simp only [Bool.and_eq_true] at h3
    obtain ⟨g1, g2⟩ := h3
    obtain ⟨C, T, N, hf⟩ := pq_fld_in g1
    refine ⟨C, T, N, hf, ?_⟩
    rw [hf.1] at g2
    simp only at g2
    show if pf_ty (v.toNat - 10) k = 1 then _ else _
    split at g2
    next hp => rw [if_pos hp]; exact of_decide_eq_true g2
    next hp => rw [if_neg hp]; exact of_decide_eq_true g2
  | getstatic j =>
    refine ⟨fun hk => ?_, fun hk => ?_, fun hk => ?_⟩
    · simp only [show k = 0 from hk, if_true, Bool.and_eq_true, decide_eq_true_eq] at h3
      exact ⟨h3.1, pq_in h3.2⟩
    · simp only [show k = 1 from hk, if_true, Nat.one_ne_zero, if_false] at h3
      split at h3
      next hv => exact Or.inl ⟨hv, pq_in h3⟩
      next hv =>
        simp only [Bool.and_eq_true, decide_eq_true_eq] at h3
        exact Or.inr ⟨h3.1, pq_in h3.2⟩
    · simp only [show k = 2 from hk, if_true, show ¬ (2 : Nat) = 0 by omega, show ¬ (2 : Nat) = 1 by omega, if_false] at h3
      exact pq_in h3
  | new j =>
    intro hk
    have hk : k < 10 := hk
    simp only [hk, if_true] at h3
    split at h3
    next C T N hc =>
      simp only [Bool.and_eq_true] at h3
      exact ⟨C, T, N, hc, pq_in h3.1, pq_in h3.2.1, pq_in h3.2.2, pz_sizes hc⟩
    next => cases h3
  | newarray t =>
    simp only [Bool.and_eq_true, decide_eq_true_eq] at h3
    exact ⟨h3.1.1, h3.1.2, pq_in h3.2⟩
  | anewarray j =>
    simp only [Bool.and_eq_true, decide_eq_true_eq] at h3
    obtain ⟨g1, g2⟩ := h3
    split at g2
    next C hC =>
      simp only [Bool.and_eq_true, decide_eq_true_eq] at g2
      exact ⟨g1.1, g1.2, C, hC, g2.1, pq_in g2.2⟩
    next => cases g2
  | invokespecial j =>
    refine ⟨fun hk => ?_, fun hk => ?_⟩
    · simp only [show k = 1000 from hk, if_true] at h3
      exact pq_in h3
    · have hk : k < 192 := hk
      simp only [show ¬ k = 1000 by omega, if_false, hk, if_true, Bool.and_eq_true, decide_eq_true_eq] at h3
      exact ⟨hn 3 rfl, h3.1.1, h3.1.2, pq_in h3.2.1, pq_link_in h3.2.2.1, hM k hk _ (of_decide_eq_true h3.2.2.2)⟩
  | invokestatic j =>
    refine ⟨fun hk => ?_, fun hk => ?_⟩
    · simp only [show k = 1001 from hk, if_true] at h3
      exact pq_in h3
    · have hk : k < 192 := hk
      simp only [show ¬ k = 1001 by omega, if_false, hk, if_true, Bool.and_eq_true, decide_eq_true_eq] at h3
      exact ⟨hn 3 rfl, pq_in h3.1, pq_link_in h3.2.1, hM k hk _ (of_decide_eq_true h3.2.2)⟩
  | invokevirtual j =>
    intro hk
    have hk : k < 192 := hk
    simp only [hk, if_true, Bool.and_eq_true, decide_eq_true_eq] at h3
    exact ⟨hn 3 rfl, ⟨h3.1.1, h3.1.2.1⟩, pq_in h3.2.1, pq_in h3.2.2.1, pq_in h3.2.2.2.1, h3.1.2.2, hM k hk _ (of_decide_eq_true h3.2.2.2.2)⟩
  | _ => trivial
def pe_all (G : pm_T) (es : List pe_T) (hs : List (List Nat)) : Bool := decide (es.length = hs.length) && (es.zip hs).all (fun q => pe_b G q.1 q.2)
theorem pe_all_ok (hM : ∀ m, m < 192 → ∀ n, (parseMethodDescriptor (pm m).2.1.desc).map (fun d => d.parameters.length) = some n → pe_call (pm m) n) {G : pm_T} {es : List pe_T} {hs : List (List Nat)} (h : pe_all G es hs = true) : ∀ en ∈ es, pe_ok G en := by
  have h0 : es.length = hs.length ∧ ∀ q ∈ es.zip hs, pe_b G q.1 q.2 = true := by
    simpa only [pe_all, Bool.and_eq_true, decide_eq_true_eq, List.all_eq_true] using h
  clear h
  intro en hen
  obtain ⟨i, hi⟩ := List.getElem?_of_mem hen
  have hl : i < es.length := (List.getElem?_eq_some_iff.mp hi).1
  have hl2 : i < hs.length := Nat.lt_of_lt_of_eq hl h0.1
  have hz : (en, hs[i]) ∈ es.zip hs := by
    refine List.mem_of_getElem? (i := i) ?_
    rw [List.getElem?_zip_eq_some]
    exact ⟨hi, List.getElem?_eq_getElem hl2⟩
  have h3 : pe_b G en hs[i] = true := h0.2 (en, hs[i]) hz
  exact pe_b_ok hM h3
theorem pe_cut {P : pe_T → Prop} {es : List pe_T} (n : Nat) (h1 : ∀ en ∈ es.take n, P en) (h2 : ∀ en ∈ es.drop n, P en) : ∀ en ∈ es, P en := by
  intro en hen
  rw [← List.take_append_drop n es] at hen
  rcases List.mem_append.mp hen with h | h
  · exact h1 en h
  · exact h2 en h
/-- the method table is right -/
def pz_tab : Prop := ∀ m, m < 193 → ∀ en ∈ (pm m).2.2.2.2.2.2, pe_ok (pm m) en
end
section
def pe_mh : List (List Nat) := [[226, 55], [289, 57], [685, 57], [690, 57], [696, 57], [706, 57], [710, 57], [715, 57], [719, 57], [723, 57], [133, 53], [477, 53], [263, 56], [552, 56], [473, 56], [482, 56], [494, 56], [517, 56], [502, 56], [506, 56], [522, 56], [530, 56], [539, 56], [543, 56], [547, 56], [535, 56], [486, 56], [498, 56], [526, 56], [510, 56], [174, 54], [78, 50], [348, 50], [360, 50], [368, 50], [102, 51], [388, 51], [392, 51], [402, 51], [469, 51], [406, 51], [411, 51], [395, 51], [398, 51], [127, 52], [633, 52], [614, 52], [490, 52], [556, 52], [562, 52], [574, 52], [578, 52], [598, 52], [649, 52], [738, 52], [813, 52], [817, 52], [822, 52], [69, 49], [335, 49], [356, 49], [364, 49], [375, 49], [379, 49], [384, 49], [602, 49], [606, 49], [610, 49], [629, 49], [637, 49], [645, 49], [657, 49], [664, 49], [669, 49], [673, 49], [677, 49], [681, 49], [702, 49], [727, 49], [734, 49], [743, 49], [749, 49], [801, 49], [805, 49], [826, 49], [343, 49], [352, 49], [809, 49], [338, 49], [618, 49], [622, 49], [514, 49], [568, 49], [730, 49], [588, 49], [660, 49], [585, 49], [653, 49], [625, 49], [581, 49], [565, 49], [641, 49], [761, 49], [753, 49], [777, 49], [765, 49], [757, 49], [769, 49], [773, 49], [797, 49], [785, 49], [781, 49], [789, 49], [793, 49], [831, 58], [978, 58], [984, 58], [974, 58], [971, 58], [989, 58], [993, 58], [997, 58], [1001, 58], [1016, 58], [1019, 58], [1022, 58], [1012, 58], [1035, 58], [1042, 58], [1030, 58], [1050, 58], [1059, 58], [1064, 58], [1055, 58], [1046, 58], [1069, 58], [1073, 58], [1026, 58], [1008, 58], [1078, 58], [1085, 58], [1094, 58], [1110, 58], [1082, 58], [1099, 58], [1102, 58], [1090, 58], [1106, 58], [1122, 58], [1126, 58], [1118, 58], [1165, 58], [1114, 58], [1134, 58], [1130, 58], [1138, 58], [1144, 58], [1157, 58], [1153, 58], [1149, 58], [1161, 58], [1169, 58], [1181, 58], [1192, 58], [1177, 58], [1185, 58], [1173, 58], [1189, 58], [1196, 58], [1235, 58], [1204, 58], [1212, 58], [1200, 58], [1208, 58], [1228, 58], [1232, 58], [1224, 58], [1239, 58], [1220, 58], [1216, 58], [1243, 58], [1251, 58], [1247, 58], [1255, 58], [591, 64], [415, 60], [425, 60], [419, 60], [429, 60], [435, 60], [432, 61], [440, 62]]
theorem pe_m0 : ((List.range 6).drop 0).all (fun m => pe_mb m (pe_mh.getD m [])) = true := by decide +kernel
theorem pe_m6 : ((List.range 12).drop 6).all (fun m => pe_mb m (pe_mh.getD m [])) = true := by decide +kernel
theorem pe_m12 : ((List.range 18).drop 12).all (fun m => pe_mb m (pe_mh.getD m [])) = true := by decide +kernel
theorem pe_m18 : ((List.range 24).drop 18).all (fun m => pe_mb m (pe_mh.getD m [])) = true := by decide +kernel
theorem pe_m24 : ((List.range 30).drop 24).all (fun m => pe_mb m (pe_mh.getD m [])) = true := by decide +kernel
theorem pe_m30 : ((List.range 36).drop 30).all (fun m => pe_mb m (pe_mh.getD m [])) = true := by decide +kernel
theorem pe_m36 : ((List.range 42).drop 36).all (fun m => pe_mb m (pe_mh.getD m [])) = true := by decide +kernel
theorem pe_m42 : ((List.range 48).drop 42).all (fun m => pe_mb m (pe_mh.getD m [])) = true := by decide +kernel
theorem pe_m48 : ((List.range 54).drop 48).all (fun m => pe_mb m (pe_mh.getD m [])) = true := by decide +kernel
theorem pe_m54 : ((List.range 60).drop 54).all (fun m => pe_mb m (pe_mh.getD m [])) = true := by decide +kernel
theorem pe_m60 : ((List.range 66).drop 60).all (fun m => pe_mb m (pe_mh.getD m [])) = true := by decide +kernel
theorem pe_m66 : ((List.range 72).drop 66).all (fun m => pe_mb m (pe_mh.getD m [])) = true := by decide +kernel
theorem pe_m72 : ((List.range 78).drop 72).all (fun m => pe_mb m (pe_mh.getD m [])) = true := by decide +kernel
theorem pe_m78 : ((List.range 84).drop 78).all (fun m => pe_mb m (pe_mh.getD m [])) = true := by decide +kernel
theorem pe_m84 : ((List.range 90).drop 84).all (fun m => pe_mb m (pe_mh.getD m [])) = true := by decide +kernel
theorem pe_m90 : ((List.range 96).drop 90).all (fun m => pe_mb m (pe_mh.getD m [])) = true := by decide +kernel
theorem pe_m96 : ((List.range 102).drop 96).all (fun m => pe_mb m (pe_mh.getD m [])) = true := by decide +kernel
theorem pe_m102 : ((List.range 108).drop 102).all (fun m => pe_mb m (pe_mh.getD m [])) = true := by decide +kernel
theorem pe_m108 : ((List.range 114).drop 108).all (fun m => pe_mb m (pe_mh.getD m [])) = true := by decide +kernel
theorem pe_m114 : ((List.range 120).drop 114).all (fun m => pe_mb m (pe_mh.getD m [])) = true := by decide +kernel
theorem pe_m120 : ((List.range 126).drop 120).all (fun m => pe_mb m (pe_mh.getD m [])) = true := by decide +kernel
theorem pe_m126 : ((List.range 132).drop 126).all (fun m => pe_mb m (pe_mh.getD m [])) = true := by decide +kernel
theorem pe_m132 : ((List.range 138).drop 132).all (fun m => pe_mb m (pe_mh.getD m [])) = true := by decide +kernel
theorem pe_m138 : ((List.range 144).drop 138).all (fun m => pe_mb m (pe_mh.getD m [])) = true := by decide +kernel
theorem pe_m144 : ((List.range 150).drop 144).all (fun m => pe_mb m (pe_mh.getD m [])) = true := by decide +kernel
theorem pe_m150 : ((List.range 156).drop 150).all (fun m => pe_mb m (pe_mh.getD m [])) = true := by decide +kernel
theorem pe_m156 : ((List.range 162).drop 156).all (fun m => pe_mb m (pe_mh.getD m [])) = true := by decide +kernel
theorem pe_m162 : ((List.range 168).drop 162).all (fun m => pe_mb m (pe_mh.getD m [])) = true := by decide +kernel
theorem pe_m168 : ((List.range 174).drop 168).all (fun m => pe_mb m (pe_mh.getD m [])) = true := by decide +kernel
theorem pe_m174 : ((List.range 180).drop 174).all (fun m => pe_mb m (pe_mh.getD m [])) = true := by decide +kernel
theorem pe_m180 : ((List.range 186).drop 180).all (fun m => pe_mb m (pe_mh.getD m [])) = true := by decide +kernel
theorem pe_m186 : ((List.range 192).drop 186).all (fun m => pe_mb m (pe_mh.getD m [])) = true := by decide +kernel
theorem pe_meth : ∀ m, m < 192 → ∀ n, (parseMethodDescriptor (pm m).2.1.desc).map (fun d => d.parameters.length) = some n → pe_call (pm m) n := by
  intro m hm n hn
  have key : ∀ a b, ((List.range b).drop a).all (fun m => pe_mb m (pe_mh.getD m [])) = true → a ≤ m → m < b → pe_call (pm m) n := fun a b h h1 h2 => pe_mb_ok (List.all_eq_true.mp h m (List.mem_of_getElem? (i := m - a) (by rw [List.getElem?_drop, List.getElem?_range (by omega)]; congr 1; omega))) hn
  rcases (by omega : (0 ≤ m ∧ m < 6) ∨ (6 ≤ m ∧ m < 12) ∨ (12 ≤ m ∧ m < 18) ∨ (18 ≤ m ∧ m < 24) ∨ (24 ≤ m ∧ m < 30) ∨ (30 ≤ m ∧ m < 36) ∨ (36 ≤ m ∧ m < 42) ∨ (42 ≤ m ∧ m < 48) ∨ (48 ≤ m ∧ m < 54) ∨ (54 ≤ m ∧ m < 60) ∨ (60 ≤ m ∧ m < 66) ∨ (66 ≤ m ∧ m < 72) ∨ (72 ≤ m ∧ m < 78) ∨ (78 ≤ m ∧ m < 84) ∨ (84 ≤ m ∧ m < 90) ∨ (90 ≤ m ∧ m < 96) ∨ (96 ≤ m ∧ m < 102) ∨ (102 ≤ m ∧ m < 108) ∨ (108 ≤ m ∧ m < 114) ∨ (114 ≤ m ∧ m < 120) ∨ (120 ≤ m ∧ m < 126) ∨ (126 ≤ m ∧ m < 132) ∨ (132 ≤ m ∧ m < 138) ∨ (138 ≤ m ∧ m < 144) ∨ (144 ≤ m ∧ m < 150) ∨ (150 ≤ m ∧ m < 156) ∨ (156 ≤ m ∧ m < 162) ∨ (162 ≤ m ∧ m < 168) ∨ (168 ≤ m ∧ m < 174) ∨ (174 ≤ m ∧ m < 180) ∨ (180 ≤ m ∧ m < 186) ∨ (186 ≤ m ∧ m < 192)) with h | h | h | h | h | h | h | h | h | h | h | h | h | h | h | h | h | h | h | h | h | h | h | h | h | h | h | h | h | h | h | h
  · exact key _ _ pe_m0 h.1 h.2
  · exact key _ _ pe_m6 h.1 h.2
  · exact key _ _ pe_m12 h.1 h.2
  · exact key _ _ pe_m18 h.1 h.2
  · exact key _ _ pe_m24 h.1 h.2
  · exact key _ _ pe_m30 h.1 h.2
  · exact key _ _ pe_m36 h.1 h.2
  · exact key _ _ pe_m42 h.1 h.2
  · exact key _ _ pe_m48 h.1 h.2
  · exact key _ _ pe_m54 h.1 h.2
  · exact key _ _ pe_m60 h.1 h.2
  · exact key _ _ pe_m66 h.1 h.2
  · exact key _ _ pe_m72 h.1 h.2
  · exact key _ _ pe_m78 h.1 h.2
  · exact key _ _ pe_m84 h.1 h.2
  · exact key _ _ pe_m90 h.1 h.2
  · exact key _ _ pe_m96 h.1 h.2
  · exact key _ _ pe_m102 h.1 h.2
  · exact key _ _ pe_m108 h.1 h.2
  · exact key _ _ pe_m114 h.1 h.2
  · exact key _ _ pe_m120 h.1 h.2
  · exact key _ _ pe_m126 h.1 h.2
  · exact key _ _ pe_m132 h.1 h.2
  · exact key _ _ pe_m138 h.1 h.2
  · exact key _ _ pe_m144 h.1 h.2
  · exact key _ _ pe_m150 h.1 h.2
  · exact key _ _ pe_m156 h.1 h.2
  · exact key _ _ pe_m162 h.1 h.2
  · exact key _ _ pe_m168 h.1 h.2
  · exact key _ _ pe_m174 h.1 h.2
  · exact key _ _ pe_m180 h.1 h.2
  · exact key _ _ pe_m186 h.1 h.2
end
section
theorem tk_X0_init : ∀ en ∈ gm_X0_init, pe_ok mt_X0_init en := pe_all_ok pe_meth (es := gm_X0_init) (hs := [[], [227], [], [], [97], [228], []]) (by decide +kernel)
theorem tk_X1_init : ∀ en ∈ gm_X1_init, pe_ok mt_X1_init en := pe_all_ok pe_meth (es := gm_X1_init) (hs := [[], [290], [], [], [97], [292], [], [], [97], [293], [], [], [291], []]) (by decide +kernel)
theorem tk_X1_isThere : ∀ en ∈ gm_X1_isThere, pe_ok mt_X1_isThere en := pe_all_ok pe_meth (es := gm_X1_isThere) (hs := [[], [], [686, 337], [], [], [], [], [], [], [], [], [], [], [], [687, 688, 689], [], [291], [240], [137], [], [], [], [], [], [], [], [], []]) (by decide +kernel)
theorem tk_X1_standing : ∀ en ∈ gm_X1_standing, pe_ok mt_X1_standing en := pe_all_ok pe_meth (es := gm_X1_standing) (hs := [[], [691], [], [], [], [], [], []]) (by decide +kernel)
theorem tk_X1_leastBroken_0 : ∀ en ∈ (List.take 40 (gm_X1_leastBroken)), pe_ok mt_X1_leastBroken en := pe_all_ok pe_meth (hs := [[], [], [], [], [291], [240], [153], [], [], [291], [244], [], [], [], [], [], [], [184], [687, 688, 689], [], [], [], [], [], [], [176], [687, 688, 689], [], [180], [], [], [], [], [291], [], [184], [], [], [], [697, 488, 489]]) (by decide +kernel)
theorem tk_X1_leastBroken_1 : ∀ en ∈ (List.drop 40 (gm_X1_leastBroken)), pe_ok mt_X1_leastBroken en := pe_all_ok pe_meth (hs := [[231], [], [], [], [], [], [], [], [], [], [698], []]) (by decide +kernel)
theorem tk_X1_leastBroken : ∀ en ∈ gm_X1_leastBroken, pe_ok mt_X1_leastBroken en := pe_cut 40 tk_X1_leastBroken_0 (tk_X1_leastBroken_1)
theorem tk_X1_measureWaysTo : ∀ en ∈ gm_X1_measureWaysTo, pe_ok mt_X1_measureWaysTo en := pe_all_ok pe_meth (es := gm_X1_measureWaysTo) (hs := [[], [], [], [], [], [], [292], [], [], [], [], [], [], [], [294], [], [], [], [707, 708, 709], [], [], [], [], [], [], [], [294], [], [], [], [293], [], [], [712, 713, 714], [], [], []]) (by decide +kernel)
theorem tk_X1_reach : ∀ en ∈ gm_X1_reach, pe_ok mt_X1_reach en := pe_all_ok pe_meth (es := gm_X1_reach) (hs := [[], [292], [], [], [], [], [], [], [], [711, 694, 695], [698], [], [], [294], [], [], [], [292], [], [], [], [], [], [292], [], [], [], [], [293], [], [294], [], [], [], [], [294], [], [], [294], []]) (by decide +kernel)
theorem tk_X1_spread : ∀ en ∈ gm_X1_spread, pe_ok mt_X1_spread en := pe_all_ok pe_meth (es := gm_X1_spread) (hs := [[], [], [], [], [], [], [], [], [], [687, 688, 689], [691], [], [], [], [], [], [], [], [], [], [291], [240], [137], [], [], [], [], [], [], [691], [], [], [], [], [], [292], [], [], [], [], [707, 708, 709], [], [], [], [], []]) (by decide +kernel)
theorem tk_X1_stepsFrom : ∀ en ∈ gm_X1_stepsFrom, pe_ok mt_X1_stepsFrom en := pe_all_ok pe_meth (es := gm_X1_stepsFrom) (hs := [[], [292], [], [], [], [698], [], [], [292], [], [], []]) (by decide +kernel)
theorem tk_X1_firstFrom_0 : ∀ en ∈ (List.take 40 (gm_X1_firstFrom)), pe_ok mt_X1_firstFrom en := pe_all_ok pe_meth (hs := [[], [292], [], [], [], [], [698], [], [698], [], [], [], [], [], [], [], [], [], [], [687, 688, 689], [691], [], [], [], [], [], [], [], [], [], [291], [240], [137], [], [], [], [], [], [691], []]) (by decide +kernel)
theorem tk_X1_firstFrom_1 : ∀ en ∈ (List.drop 40 (gm_X1_firstFrom)), pe_ok mt_X1_firstFrom en := pe_all_ok pe_meth (hs := [[], [], [], [], [], [292], [], [], [], [292], [], [], [], [], [], [], [698], [], [], [], [], [], [], [], [], [], [], [], []]) (by decide +kernel)
theorem tk_X1_firstFrom : ∀ en ∈ gm_X1_firstFrom, pe_ok mt_X1_firstFrom en := pe_cut 40 tk_X1_firstFrom_0 (tk_X1_firstFrom_1)
theorem tk_X2_init : ∀ en ∈ gm_X2_init, pe_ok mt_X2_init en := pe_all_ok pe_meth (es := gm_X2_init) (hs := [[], [134], [], [], [97], [136], [], [], [97], [141], [], [], [97], [144], [], [], [97], [148], [], [], [], [], [], [], [144], [], [135], [], [], [], []]) (by decide +kernel)
theorem tk_X2_become : ∀ en ∈ gm_X2_become, pe_ok mt_X2_become en := pe_all_ok pe_meth (es := gm_X2_become) (hs := [[], [136], [], [], [136], [], [], [478], [], [141], [], [], [141], [], [], [478], [], [144], [], [], [144], [], [], [478], [], [148], [], [], [148], [], [], [478], [], [], [152], [152], []]) (by decide +kernel)
theorem tk_X3_init : ∀ en ∈ gm_X3_init, pe_ok mt_X3_init en := pe_all_ok pe_meth (es := gm_X3_init) (hs := [[], [264], [], [265, 130, 53], [], [266, 132], [269], [], [], [267], [], [], [268], []]) (by decide +kernel)
theorem tk_X3_place : ∀ en ∈ gm_X3_place, pe_ok mt_X3_place en := pe_all_ok pe_meth (es := gm_X3_place) (hs := [[], [267], [109], [], [271], [], []]) (by decide +kernel)
theorem tk_X3_readText_0 : ∀ en ∈ (List.take 40 (gm_X3_readText)), pe_ok mt_X3_readText en := pe_all_ok pe_meth (hs := [[], [269], [], [268], [241], [474, 475, 476], [], [], [271], [], [], [272], [], [], [], [], [], [], [272], [], [], [267], [107], [], [271], [], [], [], [], [267], [107], [], [271], [], [], [], [479, 480, 481], [], [], [519, 520, 521]]) (by decide +kernel)
theorem tk_X3_readText_1 : ∀ en ∈ (List.drop 40 (gm_X3_readText)), pe_ok mt_X3_readText en := pe_all_ok pe_meth (hs := [[], [], [540, 541, 542], [], [], [544, 545, 546], [], [], [], [272], [], [], []]) (by decide +kernel)
theorem tk_X3_readText : ∀ en ∈ gm_X3_readText, pe_ok mt_X3_readText en := pe_cut 40 tk_X3_readText_0 (tk_X3_readText_1)
theorem tk_X3_readEdition_0 : ∀ en ∈ (List.take 40 (gm_X3_readEdition)), pe_ok mt_X3_readEdition en := pe_all_ok pe_meth (hs := [[], [], [271], [], [], [271], [], [], [], [], [483, 484, 485], [], [], [272], [], [], [269], [139], [], [], [], [], [], [], [272], [], [272], [], [], [], [], [271], [], [], [271], [], [268], [], [], [269]]) (by decide +kernel)
theorem tk_X3_readEdition_1 : ∀ en ∈ (List.take 40 (List.drop 40 (gm_X3_readEdition))), pe_ok mt_X3_readEdition en := pe_all_ok pe_meth (hs := [[139], [], [], [487, 488, 489], [229], [], [], [], [], [], [], [], [], [], [], [], [], [], [], [], [], [], [], [272], [], [], [267], [107], [], [271], [], [], [], [], [], [], [], [], [272], []]) (by decide +kernel)
theorem tk_X3_readEdition_2 : ∀ en ∈ (List.drop 40 (List.drop 40 (gm_X3_readEdition))), pe_ok mt_X3_readEdition en := pe_all_ok pe_meth (hs := [[], [], [491, 492, 493], [], [], [], [], [507, 508, 509], [], [518], [511], [515, 516], [], [269], [139], [], [], [], [], [], [], []]) (by decide +kernel)
theorem tk_X3_readEdition : ∀ en ∈ gm_X3_readEdition, pe_ok mt_X3_readEdition en := pe_cut 40 tk_X3_readEdition_0 (pe_cut 40 tk_X3_readEdition_1 (tk_X3_readEdition_2))
theorem tk_X3_readRule : ∀ en ∈ gm_X3_readRule, pe_ok mt_X3_readRule en := pe_all_ok pe_meth (es := gm_X3_readRule) (hs := [[], [], [271], [], [], [271], [], [], [], [495, 496, 497], [], [], [], [], [495, 496, 497], [], [], [], [], [495, 496, 497], [], [], [499, 500, 501], [], [], [272], [], [], [], [], [], [512, 513], [], [515, 516], []]) (by decide +kernel)
theorem tk_X3_answerBy : ∀ en ∈ gm_X3_answerBy, pe_ok mt_X3_answerBy en := pe_all_ok pe_meth (es := gm_X3_answerBy) (hs := [[], [], [], [], [], [], [], [], [], [], [], [], [], [], [], [], [], [], [], [], [], [], [], [], [], []]) (by decide +kernel)
theorem tk_X3_readAnswer : ∀ en ∈ gm_X3_readAnswer, pe_ok mt_X3_readAnswer en := pe_all_ok pe_meth (es := gm_X3_readAnswer) (hs := [[], [503, 504, 505], [], [511], [], [], [], [], [], [], [], [], [], [], [], [], [], [], [], [], [495, 496, 497], [], [], [], [], [], [], [], []]) (by decide +kernel)
theorem tk_X3_takesRefuse : ∀ en ∈ gm_X3_takesRefuse, pe_ok mt_X3_takesRefuse en := pe_all_ok pe_meth (es := gm_X3_takesRefuse) (hs := [[], [272], [], [], [267], [107], [], [271], [], [], [], [], [], [271], [], [], [271], [], [], [], [], [507, 508, 509], [], []]) (by decide +kernel)
theorem tk_X3_readSaying_0 : ∀ en ∈ (List.take 40 (gm_X3_readSaying)), pe_ok mt_X3_readSaying en := pe_all_ok pe_meth (hs := [[], [269], [155], [], [], [], [], [272], [], [], [], [271], [], [], [271], [], [268], [245], [], [269], [155], [], [], [], [], [], [], [495, 496, 497], [177], [], [], [], [], [495, 496, 497], [181], [], [], [], [], []]) (by decide +kernel)
theorem tk_X3_readSaying_1 : ∀ en ∈ (List.take 40 (List.drop 40 (gm_X3_readSaying))), pe_ok mt_X3_readSaying en := pe_all_ok pe_meth (hs := [[177], [], [523, 524, 525], [186], [], [], [], [], [495, 496, 497], [188], [], [], [], [188], [], [495, 496, 497], [190], [], [], [], [], [495, 496, 497], [192], [], [], [188], [], [190], [], [192], [512, 513], [199], [], [], [527, 528, 529], [], [], [507, 508, 509], [], [269]]) (by decide +kernel)
theorem tk_X3_readSaying_2 : ∀ en ∈ (List.drop 40 (List.drop 40 (gm_X3_readSaying))), pe_ok mt_X3_readSaying en := pe_all_ok pe_meth (hs := [[], [155], [], [], [155], []]) (by decide +kernel)
theorem tk_X3_readSaying : ∀ en ∈ gm_X3_readSaying, pe_ok mt_X3_readSaying en := pe_cut 40 tk_X3_readSaying_0 (pe_cut 40 tk_X3_readSaying_1 (tk_X3_readSaying_2))
theorem tk_X3_readThen : ∀ en ∈ gm_X3_readThen, pe_ok mt_X3_readThen en := pe_all_ok pe_meth (es := gm_X3_readThen) (hs := [[], [], [195], [], [511], [202], [], [503, 504, 505], [], [], [], [531], [202], [], [], [], [], [], [], [272], [], [], [532, 533, 534], [], [], [], [536, 537, 538], [], [], []]) (by decide +kernel)
theorem tk_X3_readField_0 : ∀ en ∈ (List.take 40 (gm_X3_readField)), pe_ok mt_X3_readField en := pe_all_ok pe_meth (hs := [[], [], [], [195], [523, 524, 525], [], [], [], [], [495, 496, 497], [], [], [], [], [495, 496, 497], [], [], [], [], [495, 496, 497], [], [], [], [], [272], [], [], [], [], [], [], [], [], [], [], [], [], [], [], []]) (by decide +kernel)
theorem tk_X3_readField_1 : ∀ en ∈ (List.drop 40 (gm_X3_readField)), pe_ok mt_X3_readField en := pe_all_ok pe_meth (hs := [[], [], [195], [], [], [], [], [195], [], [], [202], [], [], [], [], [], [], [], [], [], [], [], [], [], [], [202], []]) (by decide +kernel)
theorem tk_X3_readField : ∀ en ∈ gm_X3_readField, pe_ok mt_X3_readField en := pe_cut 40 tk_X3_readField_0 (tk_X3_readField_1)
theorem tk_X3_readTry : ∀ en ∈ gm_X3_readTry, pe_ok mt_X3_readTry en := pe_all_ok pe_meth (es := gm_X3_readTry) (hs := [[], [], [271], [], [], [271], [], [], [], [495, 496, 497], [], [], [], [], [495, 496, 497], [], [], [269], [142], [], [], [], [], [], [], [], [], [], [], [495, 496, 497], [], [], [], [], [507, 508, 509], []]) (by decide +kernel)
theorem tk_X3_readWithin_0 : ∀ en ∈ (List.take 40 (gm_X3_readWithin)), pe_ok mt_X3_readWithin en := pe_all_ok pe_meth (hs := [[], [], [271], [], [], [271], [], [], [], [495, 496, 497], [], [], [269], [145], [], [], [], [], [495, 496, 497], [], [], [], [], [], [], [], [], [], [], [], [272], [], [], [532, 533, 534], [], [], [], [], [], []]) (by decide +kernel)
theorem tk_X3_readWithin_1 : ∀ en ∈ (List.drop 40 (gm_X3_readWithin)), pe_ok mt_X3_readWithin en := pe_all_ok pe_meth (hs := [[523, 524, 525], [], [], [], [], [], [], [269], [149], [], [], [], [], [], [], [], [], [], [], [], [507, 508, 509], []]) (by decide +kernel)
theorem tk_X3_readWithin : ∀ en ∈ gm_X3_readWithin, pe_ok mt_X3_readWithin en := pe_cut 40 tk_X3_readWithin_0 (tk_X3_readWithin_1)
end
section
theorem tk_X3_isNumber : ∀ en ∈ gm_X3_isNumber, pe_ok mt_X3_isNumber en := pe_all_ok pe_meth (es := gm_X3_isNumber) (hs := [[], [267], [107], [], [271], [], [], [], [], [], [], []]) (by decide +kernel)
theorem tk_X3_look : ∀ en ∈ gm_X3_look, pe_ok mt_X3_look en := pe_all_ok pe_meth (es := gm_X3_look) (hs := [[], [272], [], [], [], [], [267], [107], [], [271], [], [], [], [], [], [], [], [272], [], [], [], [], [], [], [], [], [], [], [], [], [], [], [], [], [], [], [], [272], [], [], [], []]) (by decide +kernel)
theorem tk_X3_number : ∀ en ∈ gm_X3_number, pe_ok mt_X3_number en := pe_all_ok pe_meth (es := gm_X3_number) (hs := [[], [], [], [], [483, 484, 485], [], [], [272], [], [], [], [271], [], [], [271], [], []]) (by decide +kernel)
theorem tk_X3_fresh : ∀ en ∈ gm_X3_fresh, pe_ok mt_X3_fresh en := pe_all_ok pe_meth (es := gm_X3_fresh) (hs := [[], [], [], [], [483, 484, 485], [], [], [272], [], [], [], [271], [], [], [271], [], []]) (by decide +kernel)
theorem tk_X3_take : ∀ en ∈ gm_X3_take, pe_ok mt_X3_take en := pe_all_ok pe_meth (es := gm_X3_take) (hs := [[], [272], [], [], [], [267], [107], [], [271], [], [], [], [], [], [271], [], [], [271], [], [], [], [272], []]) (by decide +kernel)
theorem tk_X4_init : ∀ en ∈ gm_X4_init, pe_ok mt_X4_init en := pe_all_ok pe_meth (es := gm_X4_init) (hs := [[], [175], []]) (by decide +kernel)
theorem tk_X5_init : ∀ en ∈ gm_X5_init, pe_ok mt_X5_init en := pe_all_ok pe_meth (es := gm_X5_init) (hs := [[], [79], [], [], [97], [80], []]) (by decide +kernel)
theorem tk_X5_begin : ∀ en ∈ gm_X5_begin, pe_ok mt_X5_begin en := pe_all_ok pe_meth (es := gm_X5_begin) (hs := [[], [], [82], [], [], [84], [], [], [86], [], [], [], [], [], [], [80], [], [], [], [], [], []]) (by decide +kernel)
theorem tk_X5_cut : ∀ en ∈ gm_X5_cut, pe_ok mt_X5_cut en := pe_all_ok pe_meth (es := gm_X5_cut) (hs := [[], [84], [], [], [], [], [], [84], [], [], [], [], [], [], []]) (by decide +kernel)
theorem tk_X5_reaches : ∀ en ∈ gm_X5_reaches, pe_ok mt_X5_reaches en := pe_all_ok pe_meth (es := gm_X5_reaches) (hs := [[], [], [], [], [], [], [86], [], [], [], [86], [], [], [], [], [], [], []]) (by decide +kernel)
theorem tk_X6_init : ∀ en ∈ gm_X6_init, pe_ok mt_X6_init en := pe_all_ok pe_meth (es := gm_X6_init) (hs := [[], [103], [], [], [121], [104], [], [], [121], [106], [], [], [122], [108], []]) (by decide +kernel)
theorem tk_X6_split_0 : ∀ en ∈ (List.take 40 (gm_X6_split)), pe_ok mt_X6_split en := pe_all_ok pe_meth (hs := [[], [], [], [], [], [], [110], [], [], [], [], [], [], [104], [], [], [], [], [], [104], [], [], [], [], [], [], [389, 390, 391], [], [], [106], [], [], [], [], [399, 400, 401], [], [], [], [108], []]) (by decide +kernel)
theorem tk_X6_split_1 : ∀ en ∈ (List.drop 40 (gm_X6_split)), pe_ok mt_X6_split en := pe_all_ok pe_meth (hs := [[], [], [], [], [], [], [], [], [106], [], [], [], [], [108], [], [], [110], [], [], []]) (by decide +kernel)
theorem tk_X6_split : ∀ en ∈ gm_X6_split, pe_ok mt_X6_split en := pe_cut 40 tk_X6_split_0 (tk_X6_split_1)
theorem tk_X6_endOfToken : ∀ en ∈ gm_X6_endOfToken, pe_ok mt_X6_endOfToken en := pe_all_ok pe_meth (es := gm_X6_endOfToken) (hs := [[], [], [], [], [], [104], [], [], [393, 394], [], [], [], [110], [], [], [104], [], [], [393, 394], [], [], [], [], [104], [], [], [396, 397], [], [], [], [110], [], [], [104], [], [], [396, 397], [], [], [], [], []]) (by decide +kernel)
theorem tk_X6_tokenOf : ∀ en ∈ gm_X6_tokenOf, pe_ok mt_X6_tokenOf en := pe_all_ok pe_meth (es := gm_X6_tokenOf) (hs := [[], [104], [], [], [393, 394], [], [], [], [], [403, 404, 405], [], [], [104], [], [], [396, 397], [], [], [], [], [466, 467, 468], [], [], [104], [], [], [], [], [], [], [], []]) (by decide +kernel)
theorem tk_X6_numberOf : ∀ en ∈ gm_X6_numberOf, pe_ok mt_X6_numberOf en := pe_all_ok pe_meth (es := gm_X6_numberOf) (hs := [[], [104], [], [], [], [], [], [], [], [], [], [], [], [], [], [], [], [], [], [], [], [], [], [104], [], [], [], [], [], [], [], [], [], []]) (by decide +kernel)
theorem tk_X6_wordOf_0 : ∀ en ∈ (List.take 40 (gm_X6_wordOf)), pe_ok mt_X6_wordOf en := pe_all_ok pe_meth (hs := [[], [], [], [], [408, 409, 410], [], [], [], [], [], [], [], [408, 409, 410], [], [], [], [], [], [], [], [408, 409, 410], [], [], [], [], [], [], [], [408, 409, 410], [], [], [], [], [], [], [], [408, 409, 410], [], [], []]) (by decide +kernel)
theorem tk_X6_wordOf_1 : ∀ en ∈ (List.drop 40 (gm_X6_wordOf)), pe_ok mt_X6_wordOf en := pe_all_ok pe_meth (hs := [[], [], [], [], [408, 409, 410], [], [], [], [], [], [], [], [408, 409, 410], [], [], [], [], []]) (by decide +kernel)
theorem tk_X6_wordOf : ∀ en ∈ gm_X6_wordOf, pe_ok mt_X6_wordOf en := pe_cut 40 tk_X6_wordOf_0 (tk_X6_wordOf_1)
theorem tk_X6_spells : ∀ en ∈ gm_X6_spells, pe_ok mt_X6_spells en := pe_all_ok pe_meth (es := gm_X6_spells) (hs := [[], [], [], [], [412, 413, 414], [], [], [], [], [], [], [], [], [], [104], [], [], [], [], [], [], [422, 423, 424], [], [], [], [], [], [], []]) (by decide +kernel)
theorem tk_X6_isLetter : ∀ en ∈ gm_X6_isLetter, pe_ok mt_X6_isLetter en := pe_all_ok pe_meth (es := gm_X6_isLetter) (hs := [[], [], [], [], [], [], [], [], [], []]) (by decide +kernel)
theorem tk_X6_isFigure : ∀ en ∈ gm_X6_isFigure, pe_ok mt_X6_isFigure en := pe_all_ok pe_meth (es := gm_X6_isFigure) (hs := [[], [], [], [], [], [], [], [], [], []]) (by decide +kernel)
theorem tk_X7_init : ∀ en ∈ gm_X7_init, pe_ok mt_X7_init en := pe_all_ok pe_meth (es := gm_X7_init) (hs := [[], [128], [], [129, 130, 53], [], [131, 132], [239], [], [], [167], [243], [], [], [169], [247], [], [], [97], [248], [], [], [], [], [], [], [243], [], [167, 171, 54], [], [172, 173], [], [], [], [], [], [], [], [], [], [247], [], [169, 223, 55], [], [224, 225], [], [], [], []]) (by decide +kernel)
theorem tk_X7_hasSaying : ∀ en ∈ gm_X7_hasSaying, pe_ok mt_X7_hasSaying en := pe_all_ok pe_meth (es := gm_X7_hasSaying) (hs := [[], [], [239], [151], [615, 337], []]) (by decide +kernel)
theorem tk_X7_hasEdition : ∀ en ∈ gm_X7_hasEdition, pe_ok mt_X7_hasEdition en := pe_all_ok pe_meth (es := gm_X7_hasEdition) (hs := [[], [], [615, 337], [], [], [], [239], [138], [], [], [615, 337], [], [], [], [], []]) (by decide +kernel)
theorem tk_X7_editionOf : ∀ en ∈ gm_X7_editionOf, pe_ok mt_X7_editionOf en := pe_all_ok pe_meth (es := gm_X7_editionOf) (hs := [[], [247], [], [], [], [], [], [], []]) (by decide +kernel)
theorem tk_X7_settle : ∀ en ∈ gm_X7_settle, pe_ok mt_X7_settle en := pe_all_ok pe_meth (es := gm_X7_settle) (hs := [[], [239], [], [557, 475, 476], [], [], [], [], [], [], [], [], [], [239], [138], [], [], [], [], [], [], [558, 488, 489], [], [], [], [559, 560, 561], [232], [], [], [], [248], [], [], [], [571, 572, 573], [], [], [], []]) (by decide +kernel)
theorem tk_X7_keptBy : ∀ en ∈ gm_X7_keptBy, pe_ok mt_X7_keptBy en := pe_all_ok pe_meth (es := gm_X7_keptBy) (hs := [[], [], [], [], [], [], [239], [151], [], [], [243], [], [], [185], [], [], [], [243], [], [], [], [], [], [558, 488, 489], [563, 564], [570], [], [], [], [], [], [], [], [], [], [], []]) (by decide +kernel)
theorem tk_X7_leastQuarrel_0 : ∀ en ∈ (List.take 40 (gm_X7_leastQuarrel)), pe_ok mt_X7_leastQuarrel en := pe_all_ok pe_meth (hs := [[], [], [], [], [239], [151], [], [], [], [], [], [], [], [], [], [], [575, 576, 577], [], [], [243], [], [], [201], [], [243], [], [], [201], [], [579, 580], [], [], [], [], [], [], [], [], [], []]) (by decide +kernel)
theorem tk_X7_leastQuarrel_1 : ∀ en ∈ (List.take 40 (List.drop 40 (gm_X7_leastQuarrel))), pe_ok mt_X7_leastQuarrel en := pe_all_ok pe_meth (hs := [[], [], [], [], [], [], [], [239], [151], [], [], [], [], [], [], [], [], [], [], [575, 576, 577], [], [], [], [], [595, 596, 597], [], [570], [], [], [570], [], [], [], [], [], [], [], [], [], []]) (by decide +kernel)
theorem tk_X7_leastQuarrel_2 : ∀ en ∈ (List.drop 40 (List.drop 40 (gm_X7_leastQuarrel))), pe_ok mt_X7_leastQuarrel en := pe_all_ok pe_meth (hs := [[], [], [], [], [], [], [], [], []]) (by decide +kernel)
theorem tk_X7_leastQuarrel : ∀ en ∈ gm_X7_leastQuarrel, pe_ok mt_X7_leastQuarrel en := pe_cut 40 tk_X7_leastQuarrel_0 (pe_cut 40 tk_X7_leastQuarrel_1 (tk_X7_leastQuarrel_2))
theorem tk_X7_sharesGiver : ∀ en ∈ gm_X7_sharesGiver, pe_ok mt_X7_sharesGiver en := pe_all_ok pe_meth (es := gm_X7_sharesGiver) (hs := [[], [243], [], [], [185], [], [], [], [243], [], [], [185], [], [], [], [243], [], [], [198], [], [243], [], [], [198], [], [], [], [], [], []]) (by decide +kernel)
theorem tk_X7_leastThird_0 : ∀ en ∈ (List.take 40 (gm_X7_leastThird)), pe_ok mt_X7_leastThird en := pe_all_ok pe_meth (hs := [[], [243], [], [], [198], [], [243], [], [], [198], [], [], [], [243], [], [], [201], [], [243], [], [], [201], [], [], [], [], [], [], [], [], [243], [], [], [185], [], [243], [], [], [185], []]) (by decide +kernel)
theorem tk_X7_leastThird_1 : ∀ en ∈ (List.drop 40 (gm_X7_leastThird)), pe_ok mt_X7_leastThird en := pe_all_ok pe_meth (hs := [[], [], [243], [], [], [198], [], [], [], [], [243], [], [], [201], [], [579, 580], [], [], [], [], [], [570], []]) (by decide +kernel)
theorem tk_X7_leastThird : ∀ en ∈ gm_X7_leastThird, pe_ok mt_X7_leastThird en := pe_cut 40 tk_X7_leastThird_0 (tk_X7_leastThird_1)
theorem tk_X7_standIns : ∀ en ∈ gm_X7_standIns, pe_ok mt_X7_standIns en := pe_all_ok pe_meth (es := gm_X7_standIns) (hs := [[650], [], [], [], [], [], [239], [151], [], [], [243], [], [], [], [], [178], [], [], [], [182], [], [], [], [185], [], [], [], [198], [], [], [], [], [], [], [], [201], [], [], [], [], [], []]) (by decide +kernel)
theorem tk_X7_kindOf : ∀ en ∈ gm_X7_kindOf, pe_ok mt_X7_kindOf en := pe_all_ok pe_meth (es := gm_X7_kindOf) (hs := [[], [243], [], [], [], [], [248], [], [185], [], [], [], [], [], [], [], [], [], [201], [739], [], [], [], [], [193], [], [], [], [], [], [196], [], [], [], [], []]) (by decide +kernel)
theorem tk_X7_countEditions : ∀ en ∈ gm_X7_countEditions, pe_ok mt_X7_countEditions en := pe_all_ok pe_meth (es := gm_X7_countEditions) (hs := [[], [], [], [], [], [], [], [], [], [239], [138], [], [], [], [], [], [], [], []]) (by decide +kernel)
end
section
theorem tk_X7_countKept : ∀ en ∈ gm_X7_countKept, pe_ok mt_X7_countKept en := pe_all_ok pe_meth (es := gm_X7_countKept) (hs := [[], [], [], [], [], [], [], [], [], [], [], [239], [138], [], [], [], [], [], [], [], [558, 488, 489], [232], [], [], [], [], [], [], [], [818, 590], []]) (by decide +kernel)
theorem tk_X7_countWithin : ∀ en ∈ gm_X7_countWithin, pe_ok mt_X7_countWithin en := pe_all_ok pe_meth (es := gm_X7_countWithin) (hs := [[], [], [], [], [], [], [], [], [239], [146], [], [], [570], [], [], [], [], [], []]) (by decide +kernel)
theorem tk_X8_init_0 : ∀ en ∈ (List.take 40 (gm_X8_init)), pe_ok mt_X8_init en := pe_all_ok pe_meth (hs := [[], [70], [], [], [73], [304], [], [], [], [], [], [], [304], [], [73, 75, 50], [], [76, 77], [], [], [], [], [98, 99, 51], [], [100, 101], [305], [], [123, 124, 52], [], [125, 126], [306], [], [259, 260, 56], [], [], [305], [], [306], [261, 262], [307], []]) (by decide +kernel)
theorem tk_X8_init_1 : ∀ en ∈ (List.drop 40 (gm_X8_init)), pe_ok mt_X8_init en := pe_all_ok pe_meth (hs := [[285, 286, 57], [], [], [306], [287, 288], [308], [], [], [97], [309], []]) (by decide +kernel)
theorem tk_X8_init : ∀ en ∈ gm_X8_init, pe_ok mt_X8_init en := pe_cut 40 tk_X8_init_0 (tk_X8_init_1)
theorem tk_X8_sheet : ∀ en ∈ gm_X8_sheet, pe_ok mt_X8_sheet en := pe_all_ok pe_meth (es := gm_X8_sheet) (hs := [[], [], [336, 337], [], [], [], [336, 337], [], [], [], [], [339], [], [], [], [], [], [340, 342, 0], [], [], [304], [], [], [], [], [345, 346, 347], [], [], [349, 351, 1], []]) (by decide +kernel)
theorem tk_X8_set : ∀ en ∈ gm_X8_set, pe_ok mt_X8_set en := pe_all_ok pe_meth (es := gm_X8_set) (hs := [[], [], [336, 337], [], [339], [], [], [304], [], [], [], [], [83], [], [], [], [340, 342, 0], [], [], [], [87], [336, 337], [], [], [], [340, 342, 0], [], [], [81], [], [], [], [357, 358, 359], [], [], [], [81], [], [], [349, 351, 1], []]) (by decide +kernel)
theorem tk_X8_copy_0 : ∀ en ∈ (List.take 40 (gm_X8_copy)), pe_ok mt_X8_copy en := pe_all_ok pe_meth (hs := [[], [], [336, 337], [], [], [], [336, 337], [], [339], [], [], [304], [], [], [], [], [304], [], [], [], [], [83], [], [], [83], [], [], [], [340, 342, 0], [], [], [85], [], [85], [], [], [], [340, 342, 0], [], []]) (by decide +kernel)
theorem tk_X8_copy_1 : ∀ en ∈ (List.drop 40 (gm_X8_copy)), pe_ok mt_X8_copy en := pe_all_ok pe_meth (hs := [[], [], [365, 366, 367], [], [], [], [], [365, 366, 367], [], [], [], [340, 342, 0], [], [], [81], [], [], [81], [], [], [369], [], [], [349, 351, 1], []]) (by decide +kernel)
theorem tk_X8_copy : ∀ en ∈ gm_X8_copy, pe_ok mt_X8_copy en := pe_cut 40 tk_X8_copy_0 (tk_X8_copy_1)
theorem tk_X8_drop : ∀ en ∈ gm_X8_drop, pe_ok mt_X8_drop en := pe_all_ok pe_meth (es := gm_X8_drop) (hs := [[], [], [336, 337], [], [339], [], [], [304], [], [], [], [], [83], [], [], [], [340, 342, 0], [], [], [], [83], [], [], [87], [349, 351, 1], []]) (by decide +kernel)
theorem tk_X8_feed : ∀ en ∈ gm_X8_feed, pe_ok mt_X8_feed en := pe_all_ok pe_meth (es := gm_X8_feed) (hs := [[], [], [], [], [], [], [339], [], [], [305], [111], [], [], [], [], [380], [], [], [], [], [], [], [], [], [305], [105], [], [305], [111], [], [], [], [], [], [], [], [], [], [305], [], [111], [], [], [111], [], [], [], [305], [111], []]) (by decide +kernel)
theorem tk_X8_laws : ∀ en ∈ gm_X8_laws, pe_ok mt_X8_laws en := pe_all_ok pe_meth (es := gm_X8_laws) (hs := [[], [305], [385, 386, 387], [], [305], [], [111], [], [307], [470, 471, 472], [], [307], [273], [], [], [], [307], [273], [311], [548], [], [307], [549, 550, 551], [], [], [], [306], [], [307], [270], [553, 554, 555], [], [306], [242], [154], []]) (by decide +kernel)
theorem tk_X8_fault : ∀ en ∈ gm_X8_fault, pe_ok mt_X8_fault en := pe_all_ok pe_meth (es := gm_X8_fault) (hs := [[], [311], []]) (by decide +kernel)
theorem tk_X8_editions : ∀ en ∈ gm_X8_editions, pe_ok mt_X8_editions en := pe_all_ok pe_meth (es := gm_X8_editions) (hs := [[], [], [336, 337], [], [], [306], [242], [140], [], [], [], [339], []]) (by decide +kernel)
theorem tk_X8_answer_0 : ∀ en ∈ (List.take 40 (gm_X8_answer)), pe_ok mt_X8_answer en := pe_all_ok pe_meth (hs := [[], [306], [], [], [611, 612, 613], [], [], [], [616, 617], [], [], [], [336, 337], [], [339], [], [], [306], [], [], [619, 488, 489], [230], [], [], [620, 621], [], [], [], [582], [], [], [], [], [], [], [], [], [], [], []]) (by decide +kernel)
theorem tk_X8_answer_1 : ∀ en ∈ (List.drop 40 (gm_X8_answer)), pe_ok mt_X8_answer en := pe_all_ok pe_meth (hs := [[], [], [], [], [], [569], [], [], [], [586, 587], [], [623, 624], []]) (by decide +kernel)
theorem tk_X8_answer : ∀ en ∈ gm_X8_answer, pe_ok mt_X8_answer en := pe_cut 40 tk_X8_answer_0 (tk_X8_answer_1)
theorem tk_X8_saying : ∀ en ∈ gm_X8_saying, pe_ok mt_X8_saying en := pe_all_ok pe_meth (es := gm_X8_saying) (hs := [[], [306], [], [630, 631, 632], [], [339], [], [], [306], [246], [], [], [], [], [], [], [179], [], [], [183], [], [], [187], [], [], [189], [], [], [191], [], [], [194], [], [], [203], [582], [], [], [], [], [], [], [197], [], [339], []]) (by decide +kernel)
theorem tk_X8_play_0 : ∀ en ∈ (List.take 40 (gm_X8_play)), pe_ok mt_X8_play en := pe_all_ok pe_meth (hs := [[], [306], [], [630, 631, 632], [], [], [], [336, 337], [], [339], [], [], [306], [246], [], [], [], [], [306], [], [187], [], [611, 612, 613], [], [339], [], [], [306], [], [187], [], [619, 488, 489], [], [], [], [638, 564], [], [], [], []]) (by decide +kernel)
theorem tk_X8_play_1 : ∀ en ∈ (List.drop 40 (gm_X8_play)), pe_ok mt_X8_play en := pe_all_ok pe_meth (hs := [[569], [], [], [], [], [], [], [569], [], [569], [], [], [], [], [], [], [], [], [], [], [], [], [], [230], [], [], [], [203], [639, 640], [], []]) (by decide +kernel)
theorem tk_X8_play : ∀ en ∈ gm_X8_play, pe_ok mt_X8_play en := pe_cut 40 tk_X8_play_0 (tk_X8_play_1)
theorem tk_X8_standIn_0 : ∀ en ∈ (List.take 40 (gm_X8_standIn)), pe_ok mt_X8_standIn en := pe_all_ok pe_meth (hs := [[], [], [336, 337], [], [], [], [336, 337], [], [], [], [336, 337], [], [339], [], [], [], [], [], [], [616, 617], [], [], [], [], [339], [], [], [306], [], [], [], [], [], [620, 621], [646, 647, 648], [], [], [583, 584], [], []]) (by decide +kernel)
theorem tk_X8_standIn_1 : ∀ en ∈ (List.drop 40 (gm_X8_standIn)), pe_ok mt_X8_standIn en := pe_all_ok pe_meth (hs := [[582], [], [], [], [], [], [], [], [], [], [], [], [], [], [], [], [], [569], [], [], [], [], [], [], [651, 652], [], [], []]) (by decide +kernel)
theorem tk_X8_standIn : ∀ en ∈ gm_X8_standIn, pe_ok mt_X8_standIn en := pe_cut 40 tk_X8_standIn_0 (tk_X8_standIn_1)
theorem tk_X8_allows_0 : ∀ en ∈ (List.take 40 (gm_X8_allows)), pe_ok mt_X8_allows en := pe_all_ok pe_meth (hs := [[], [306], [], [630, 631, 632], [], [], [], [336, 337], [], [], [], [], [], [], [], [339], [], [], [304], [], [], [], [], [83], [], [], [], [340, 342, 0], [], [], [], [], [365, 366, 367], [], [], [], [340, 342, 0], [], [], []]) (by decide +kernel)
theorem tk_X8_allows_1 : ∀ en ∈ (List.drop 40 (gm_X8_allows)), pe_ok mt_X8_allows en := pe_all_ok pe_meth (hs := [[], [], [], [], [], [], [], [], [81], [], [], [], [336, 337], [], [339], [], [], [81], [], [], [658, 659], [], [306], [246], [], [], [203], [566, 567], [], [], [], [], [], [], [349, 351, 1], []]) (by decide +kernel)
theorem tk_X8_allows : ∀ en ∈ gm_X8_allows, pe_ok mt_X8_allows en := pe_cut 40 tk_X8_allows_0 (tk_X8_allows_1)
theorem tk_X8_noMore : ∀ en ∈ gm_X8_noMore, pe_ok mt_X8_noMore en := pe_all_ok pe_meth (es := gm_X8_noMore) (hs := [[], [306], [], [630, 631, 632], [], [], [306], [], [630, 631, 632], [], [339], [], [], [306], [246], [], [], [], [], [306], [246], [], [], [], [], [187], [], [187], [], [665], [], [], [200], [], [200], [566, 567], [], [], [203], [], [203], [566, 567], [], [], [], [], []]) (by decide +kernel)
theorem tk_X8_quarrel : ∀ en ∈ gm_X8_quarrel, pe_ok mt_X8_quarrel en := pe_all_ok pe_meth (es := gm_X8_quarrel) (hs := [[], [], [336, 337], [], [], [306], [249], [], [], [], [339], []]) (by decide +kernel)
theorem tk_X8_change : ∀ en ∈ gm_X8_change, pe_ok mt_X8_change en := pe_all_ok pe_meth (es := gm_X8_change) (hs := [[], [306], [], [], [611, 612, 613], [], [], [306], [], [], [611, 612, 613], [], [339], [], [], [306], [], [], [619, 488, 489], [233], [], [306], [], [], [619, 488, 489], [233], [], [], [], []]) (by decide +kernel)
theorem tk_X8_right : ∀ en ∈ gm_X8_right, pe_ok mt_X8_right en := pe_all_ok pe_meth (es := gm_X8_right) (hs := [[], [306], [], [630, 631, 632], [], [339], [], [], [306], [246], [], [], [], [], [197], [], [306], [242], [143], [], [179], [], [], [], [183], [], [], [], [], [], []]) (by decide +kernel)
theorem tk_X8_house : ∀ en ∈ gm_X8_house, pe_ok mt_X8_house en := pe_all_ok pe_meth (es := gm_X8_house) (hs := [[], [308], [], [682, 683, 684], [], [], [], [336, 337], [], [339], [], [], [308], [], [693, 694, 695], [], [], [], [], [569], [], [], [], [], [], [], []]) (by decide +kernel)
theorem tk_X8_letOut : ∀ en ∈ gm_X8_letOut, pe_ok mt_X8_letOut en := pe_all_ok pe_meth (es := gm_X8_letOut) (hs := [[], [308], [], [682, 683, 684], [], [], [308], [], [682, 683, 684], [], [], [], [336, 337], [], [339], [], [], [308], [], [703, 704, 705], [], [], [], [308], [], [716, 717, 718], [], [], [308], [], [720, 721, 722], []]) (by decide +kernel)
theorem tk_X8_hours : ∀ en ∈ gm_X8_hours, pe_ok mt_X8_hours en := pe_all_ok pe_meth (es := gm_X8_hours) (hs := [[], [], [336, 337], [], [], [306], [242], [], [], [728, 729], [], [339], []]) (by decide +kernel)
theorem tk_X8_kind : ∀ en ∈ gm_X8_kind, pe_ok mt_X8_kind en := pe_all_ok pe_meth (es := gm_X8_kind) (hs := [[], [306], [], [630, 631, 632], [], [], [306], [], [735, 736, 737], [], [339], []]) (by decide +kernel)
theorem tk_X8_as : ∀ en ∈ gm_X8_as, pe_ok mt_X8_as en := pe_all_ok pe_meth (es := gm_X8_as) (hs := [[], [306], [], [630, 631, 632], [], [], [], [336, 337], [], [339], [], [], [306], [], [735, 736, 737], [], [], [], [], [], [], [], [569], [], [], [], [], [], [], [349, 351, 1], [], [744], [], [], [], [], [], [], [], [340, 342, 0], []]) (by decide +kernel)
end
section
theorem tk_X8_ask : ∀ en ∈ gm_X8_ask, pe_ok mt_X8_ask en := pe_all_ok pe_meth (es := gm_X8_ask) (hs := [[], [306], [], [630, 631, 632], [], [], [], [336, 337], [], [339], [], [], [], [310], [], [306], [], [735, 736, 737], [], [], [], [], [], [], [], [750, 752, 2], [], [], [], [], [], [774, 776, 8], []]) (by decide +kernel)
theorem tk_X8_trace : ∀ en ∈ gm_X8_trace, pe_ok mt_X8_trace en := pe_all_ok pe_meth (es := gm_X8_trace) (hs := [[], [], [310], [336, 337], [], [], [309], [], [], [], [569], []]) (by decide +kernel)
theorem tk_X8_count : ∀ en ∈ gm_X8_count, pe_ok mt_X8_count en := pe_all_ok pe_meth (es := gm_X8_count) (hs := [[], [], [], [806, 808, 14], [], [], [306], [810, 811, 812], [], [], [306], [242], [154], [], [], [306], [814, 815, 816], [], [], [306], [819, 820, 821], [], [], [305], [111], [], [339], []]) (by decide +kernel)
theorem tk_X8_status : ∀ en ∈ gm_X8_status, pe_ok mt_X8_status en := pe_all_ok pe_meth (es := gm_X8_status) (hs := [[], [312], []]) (by decide +kernel)
theorem tk_X8_found : ∀ en ∈ gm_X8_found, pe_ok mt_X8_found en := pe_all_ok pe_meth (es := gm_X8_found) (hs := [[], [], [312], [344], [], [], []]) (by decide +kernel)
theorem tk_X8_well : ∀ en ∈ gm_X8_well, pe_ok mt_X8_well en := pe_all_ok pe_meth (es := gm_X8_well) (hs := [[], [], [312], [], []]) (by decide +kernel)
theorem tk_X8_countSheets : ∀ en ∈ gm_X8_countSheets, pe_ok mt_X8_countSheets en := pe_all_ok pe_meth (es := gm_X8_countSheets) (hs := [[], [], [], [], [], [], [], [], [304], [], [], [83], [], [], [], [], [], []]) (by decide +kernel)
theorem tk_X8_isBelow : ∀ en ∈ gm_X8_isBelow, pe_ok mt_X8_isBelow en := pe_all_ok pe_meth (es := gm_X8_isBelow) (hs := [[], [], [], [], [], [], [], [], []]) (by decide +kernel)
theorem tk_X8_isCase : ∀ en ∈ gm_X8_isCase, pe_ok mt_X8_isCase en := pe_all_ok pe_meth (es := gm_X8_isCase) (hs := [[], [], [336, 337], [], [], [], [336, 337], [], [], [], [], []]) (by decide +kernel)
theorem tk_X8_caseOf : ∀ en ∈ gm_X8_caseOf, pe_ok mt_X8_caseOf en := pe_all_ok pe_meth (es := gm_X8_caseOf) (hs := [[], [], [], [], [], []]) (by decide +kernel)
theorem tk_X8_casesOf : ∀ en ∈ gm_X8_casesOf, pe_ok mt_X8_casesOf en := pe_all_ok pe_meth (es := gm_X8_casesOf) (hs := [[], [], [], [], [], [], [], [], [], [], [], [], [], [], [], [], [], [], [], [], [], [], [], [], [], [], [], []]) (by decide +kernel)
theorem tk_X8_isWithin : ∀ en ∈ gm_X8_isWithin, pe_ok mt_X8_isWithin en := pe_all_ok pe_meth (es := gm_X8_isWithin) (hs := [[], [], [], [], [], [], [], [], [], []]) (by decide +kernel)
theorem tk_X8_addHours : ∀ en ∈ gm_X8_addHours, pe_ok mt_X8_addHours en := pe_all_ok pe_meth (es := gm_X8_addHours) (hs := [[], [], [], [], [147], [], [], [569], [], [569], [], [], [147], [], [], [], [], [], [], [], [], [], [150], [], [], [], [], [], [], [], [], [], [], [], [], [728, 729], [], [], [569], [], [569], [], [], [], [], [], [], [], [], []]) (by decide +kernel)
theorem tk_X8_fieldOf : ∀ en ∈ gm_X8_fieldOf, pe_ok mt_X8_fieldOf en := pe_all_ok pe_meth (es := gm_X8_fieldOf) (hs := [[], [], [], [], [], [], [], []]) (by decide +kernel)
theorem tk_X8_answerOf : ∀ en ∈ gm_X8_answerOf, pe_ok mt_X8_answerOf en := pe_all_ok pe_meth (es := gm_X8_answerOf) (hs := [[], [], [], [582], [], [], [], [], [], [], [], [], [], [], [], [], [], [], [], [], [], [], [], [], [], [], [], [], [], [], [], [], [], []]) (by decide +kernel)
theorem tk_X8_countGiven : ∀ en ∈ gm_X8_countGiven, pe_ok mt_X8_countGiven en := pe_all_ok pe_meth (es := gm_X8_countGiven) (hs := [[], [], [], [], [], [], [], [], [], [], [586, 587], [589, 590], [], [], [], [], [], []]) (by decide +kernel)
theorem tk_X8_nthGiven : ∀ en ∈ gm_X8_nthGiven, pe_ok mt_X8_nthGiven en := pe_all_ok pe_meth (es := gm_X8_nthGiven) (hs := [[], [], [], [], [], [], [], [], [], [], [], [], [], [586, 587], [], [], [589, 590], [], [], [], [569], [], [], [], [], [], [], [], [623, 624], [], [], [], [], [], [], [], [], [], [], [], [], [], [], []]) (by decide +kernel)
theorem tk_X8_nthBit : ∀ en ∈ gm_X8_nthBit, pe_ok mt_X8_nthBit en := pe_all_ok pe_meth (es := gm_X8_nthBit) (hs := [[], [], [], [], [], [], [], [], [], [], [], [], [], [], [], [], [], [], [], [], [], [569], []]) (by decide +kernel)
theorem tk_X8_hasNone : ∀ en ∈ gm_X8_hasNone, pe_ok mt_X8_hasNone en := pe_all_ok pe_meth (es := gm_X8_hasNone) (hs := [[], [582], [], [], [], [583, 584], [], [], [], [], []]) (by decide +kernel)
theorem tk_X8_firstBroken : ∀ en ∈ gm_X8_firstBroken, pe_ok mt_X8_firstBroken en := pe_all_ok pe_meth (es := gm_X8_firstBroken) (hs := [[], [], [], [], [], [], [200], [], [], [], [], [], [], [230], [], [], [], [203], [566, 567], [], [], [], [], [], [569], []]) (by decide +kernel)
theorem tk_X8_wrongField : ∀ en ∈ gm_X8_wrongField, pe_ok mt_X8_wrongField en := pe_all_ok pe_meth (es := gm_X8_wrongField) (hs := [[], [582], [], [], [582], [], [], [], [], [], [], [], [], [], [], [], [], [], [], [], [586, 587], [], [], [], [], [], [], []]) (by decide +kernel)
theorem tk_X8_leave : ∀ en ∈ gm_X8_leave, pe_ok mt_X8_leave en := pe_all_ok pe_meth (es := gm_X8_leave) (hs := [[], [310], [], [], [], [309], [], [310], [], [], [], [], [310], [], [], [310], []]) (by decide +kernel)
theorem tk_X8_askSize : ∀ en ∈ gm_X8_askSize, pe_ok mt_X8_askSize en := pe_all_ok pe_meth (es := gm_X8_askSize) (hs := [[], [], [], [], [], [], [], [], [], [754, 756, 3], [], [], [], [766, 768, 6], [], [], [], [], [], [770, 772, 7], [], [], [], [794, 796, 13], [], [], [], [762, 764, 5], []]) (by decide +kernel)
theorem tk_X8_askMark : ∀ en ∈ gm_X8_askMark, pe_ok mt_X8_askMark en := pe_all_ok pe_meth (es := gm_X8_askMark) (hs := [[], [], [], [], [], [], [], [], [], [778, 780, 9], [], [], [], [], [], [786, 788, 11], [], [], [], [790, 792, 12], [], [], [], [782, 784, 10], []]) (by decide +kernel)
theorem tk_X8_sizeLent : ∀ en ∈ gm_X8_sizeLent, pe_ok mt_X8_sizeLent en := pe_all_ok pe_meth (es := gm_X8_sizeLent) (hs := [[], [], [758, 760, 4], [], [306], [246], [], [], [200], [589, 590], []]) (by decide +kernel)
theorem tk_X8_sizeOfGiven : ∀ en ∈ gm_X8_sizeOfGiven, pe_ok mt_X8_sizeOfGiven en := pe_all_ok pe_meth (es := gm_X8_sizeOfGiven) (hs := [[], [], [758, 760, 4], [], [], [762, 764, 5], [], [306], [246], [], [], [197], [589, 590], [], []]) (by decide +kernel)
theorem tk_X8_sizeOfBefore : ∀ en ∈ gm_X8_sizeOfBefore, pe_ok mt_X8_sizeOfBefore en := pe_all_ok pe_meth (es := gm_X8_sizeOfBefore) (hs := [[], [], [758, 760, 4], [], [], [], [754, 756, 3], [], []]) (by decide +kernel)
theorem tk_X8_sizeOfRefuses : ∀ en ∈ gm_X8_sizeOfRefuses, pe_ok mt_X8_sizeOfRefuses en := pe_all_ok pe_meth (es := gm_X8_sizeOfRefuses) (hs := [[], [], [758, 760, 4], [], [], [762, 764, 5], [], [], [], [], [], [], [], [], [774, 776, 8], [], []]) (by decide +kernel)
theorem tk_X8_sizeOfQuarrel : ∀ en ∈ gm_X8_sizeOfQuarrel, pe_ok mt_X8_sizeOfQuarrel en := pe_all_ok pe_meth (es := gm_X8_sizeOfQuarrel) (hs := [[], [], [758, 760, 4], [], [], [762, 764, 5], [], []]) (by decide +kernel)
theorem tk_X8_markLent : ∀ en ∈ gm_X8_markLent, pe_ok mt_X8_markLent en := pe_all_ok pe_meth (es := gm_X8_markLent) (hs := [[], [], [758, 760, 4], [], []]) (by decide +kernel)
theorem tk_X8_markOfGiven : ∀ en ∈ gm_X8_markOfGiven, pe_ok mt_X8_markOfGiven en := pe_all_ok pe_meth (es := gm_X8_markOfGiven) (hs := [[], [], [758, 760, 4], [], [], [782, 784, 10], [], [], []]) (by decide +kernel)
theorem tk_X8_markOfLoose : ∀ en ∈ gm_X8_markOfLoose, pe_ok mt_X8_markOfLoose en := pe_all_ok pe_meth (es := gm_X8_markOfLoose) (hs := [[], [], [758, 760, 4], [], [], [778, 780, 9], [], [], [], [], [], [], [], [], [750, 752, 2], [], []]) (by decide +kernel)
theorem tk_X8_markOfQuarrel : ∀ en ∈ gm_X8_markOfQuarrel, pe_ok mt_X8_markOfQuarrel en := pe_all_ok pe_meth (es := gm_X8_markOfQuarrel) (hs := [[], [], [758, 760, 4], [], [], [782, 784, 10], [], [], []]) (by decide +kernel)
theorem tk_X9_init_0 : ∀ en ∈ (List.take 40 (gm_X9_init)), pe_ok mt_X9_init en := pe_all_ok pe_meth (hs := [[], [832], [], [], [97], [], [], [], [], [], [], [], [], [], [], [], [], [], [], [], [], [], [], [], [], [], [], [], [], [], [], [], [], [], [], [], [], [836], [], []]) (by decide +kernel)
theorem tk_X9_init_1 : ∀ en ∈ (List.take 40 (List.drop 40 (gm_X9_init))), pe_ok mt_X9_init en := pe_all_ok pe_meth (hs := [[97], [837], [], [], [97], [838], [], [], [97], [839], [], [], [97], [840], [], [], [97], [841], [], [], [97], [842], [], [], [97], [843], [], [], [97], [844], [], [], [97], [845], [], [], [97], [848], [], []]) (by decide +kernel)
theorem tk_X9_init_2 : ∀ en ∈ (List.take 40 (List.drop 40 (List.drop 40 (gm_X9_init)))), pe_ok mt_X9_init en := pe_all_ok pe_meth (hs := [[97], [849], [], [], [97], [850], [], [], [97], [851], [], [], [97], [852], [], [], [97], [853], [], [], [967], [854], [], [], [97], [855], [], [], [97], [856], [], [], [97], [857], [], [], [97], [858], [], []]) (by decide +kernel)
theorem tk_X9_init_3 : ∀ en ∈ (List.take 40 (List.drop 40 (List.drop 40 (List.drop 40 (gm_X9_init))))), pe_ok mt_X9_init en := pe_all_ok pe_meth (hs := [[97], [], [], [833], [], [], [], [833], [], [], [], [833], [], [], [], [833], [], [859], [], [], [97], [860], [], [], [97], [861], [], [], [97], [862], [], [], [97], [863], [], [], [97], [873], [], []]) (by decide +kernel)
theorem tk_X9_init_4 : ∀ en ∈ (List.drop 40 (List.drop 40 (List.drop 40 (List.drop 40 (gm_X9_init))))), pe_ok mt_X9_init en := pe_all_ok pe_meth (hs := [[97], [874], [], [], [97], [875], [], [], [97], [876], []]) (by decide +kernel)
theorem tk_X9_init : ∀ en ∈ gm_X9_init, pe_ok mt_X9_init en := pe_cut 40 tk_X9_init_0 (pe_cut 40 tk_X9_init_1 (pe_cut 40 tk_X9_init_2 (pe_cut 40 tk_X9_init_3 (tk_X9_init_4))))
theorem tk_X9_in : ∀ en ∈ gm_X9_in, pe_ok mt_X9_in en := pe_all_ok pe_meth (es := gm_X9_in) (hs := [[], [], [], [], [], [], [], [], [], [], [], []]) (by decide +kernel)
theorem tk_X9_finding : ∀ en ∈ gm_X9_finding, pe_ok mt_X9_finding en := pe_all_ok pe_meth (es := gm_X9_finding) (hs := [[], [], [835], [985], [], [], []]) (by decide +kernel)
theorem tk_X9_isSheet : ∀ en ∈ gm_X9_isSheet, pe_ok mt_X9_isSheet en := pe_all_ok pe_meth (es := gm_X9_isSheet) (hs := [[], [], [], [975], [976, 977], []]) (by decide +kernel)
theorem tk_X9_sheet_0 : ∀ en ∈ (List.take 40 (gm_X9_sheet)), pe_ok mt_X9_sheet en := pe_all_ok pe_meth (hs := [[], [], [834], [], [972, 973], [], [], [], [], [979], [976, 977], [], [], [], [], [980], [], [], [], [835], [], [], [], [], [981, 983, 15], [], [], [836], [], [], [], [], [837], [], [], [], [], [], [], []]) (by decide +kernel)
theorem tk_X9_sheet_1 : ∀ en ∈ (List.drop 40 (gm_X9_sheet)), pe_ok mt_X9_sheet en := pe_all_ok pe_meth (hs := [[], [], [838], [], [], [], [], [], [], [], [], [], [], []]) (by decide +kernel)
theorem tk_X9_sheet : ∀ en ∈ gm_X9_sheet, pe_ok mt_X9_sheet en := pe_cut 40 tk_X9_sheet_0 (tk_X9_sheet_1)
theorem tk_X9_set_0 : ∀ en ∈ (List.take 40 (gm_X9_set)), pe_ok mt_X9_set en := pe_all_ok pe_meth (hs := [[], [], [834], [], [972, 973], [], [980], [], [], [], [835], [], [836], [], [], [], [], [], [981, 983, 15], [], [], [], [], [], [837], [], [], [], [], [], [976, 977], [], [], [], [981, 983, 15], [], [], [838], [], []]) (by decide +kernel)
theorem tk_X9_set_1 : ∀ en ∈ (List.drop 40 (gm_X9_set)), pe_ok mt_X9_set en := pe_all_ok pe_meth (hs := [[], [], [], [], [836], [], [], [], [], [], [], [], [836], [], [], [], [], [], [], [], [], [], [], [838], [], [], [], [], [], [], []]) (by decide +kernel)
theorem tk_X9_set : ∀ en ∈ gm_X9_set, pe_ok mt_X9_set en := pe_cut 40 tk_X9_set_0 (tk_X9_set_1)
end
section
theorem tk_X9_copy_0 : ∀ en ∈ (List.take 40 (gm_X9_copy)), pe_ok mt_X9_copy en := pe_all_ok pe_meth (hs := [[], [], [834], [], [972, 973], [], [], [972, 973], [], [980], [], [], [], [835], [], [836], [], [], [], [], [836], [], [], [], [], [], [981, 983, 15], [], [], [836], [], [], [], [836], [], [], [], [], [], [981, 983, 15]]) (by decide +kernel)
theorem tk_X9_copy_1 : ∀ en ∈ (List.take 40 (List.drop 40 (gm_X9_copy))), pe_ok mt_X9_copy en := pe_all_ok pe_meth (hs := [[], [], [], [], [], [], [], [], [], [], [], [], [], [837], [], [], [], [], [], [], [], [], [], [], [], [837], [], [], [], [], [], [], [], [981, 983, 15], [], [], [], [], [], []]) (by decide +kernel)
theorem tk_X9_copy_2 : ∀ en ∈ (List.take 40 (List.drop 40 (List.drop 40 (gm_X9_copy)))), pe_ok mt_X9_copy en := pe_all_ok pe_meth (hs := [[], [], [], [], [], [], [], [], [], [], [], [], [], [], [], [], [], [], [838], [], [], [], [], [], [], [], [], [838], [], [], [], [], [], [], [], [], [], [], [], []]) (by decide +kernel)
theorem tk_X9_copy_3 : ∀ en ∈ (List.drop 40 (List.drop 40 (List.drop 40 (gm_X9_copy)))), pe_ok mt_X9_copy en := pe_all_ok pe_meth (hs := [[]]) (by decide +kernel)
theorem tk_X9_copy : ∀ en ∈ gm_X9_copy, pe_ok mt_X9_copy en := pe_cut 40 tk_X9_copy_0 (pe_cut 40 tk_X9_copy_1 (pe_cut 40 tk_X9_copy_2 (tk_X9_copy_3)))
theorem tk_X9_drop : ∀ en ∈ gm_X9_drop, pe_ok mt_X9_drop en := pe_all_ok pe_meth (es := gm_X9_drop) (hs := [[], [], [834], [], [972, 973], [], [980], [], [], [], [835], [], [836], [], [], [], [], [], [981, 983, 15], [], [], [836], [], [], [], [], [837], [], [], []]) (by decide +kernel)
theorem tk_X9_feed : ∀ en ∈ gm_X9_feed, pe_ok mt_X9_feed en := pe_all_ok pe_meth (es := gm_X9_feed) (hs := [[], [], [834], [], [], [], [1002], [976, 977], [], [980], [], [], [864], [], [], [], [], [1003], [], [], [], [], [], [], [], [], [863], [], [864], [], [], [], [], [], [1004], [], [], [], [], [], [864], [], [], [864], [], [], [], [864], []]) (by decide +kernel)
theorem tk_X9_byteAt : ∀ en ∈ gm_X9_byteAt, pe_ok mt_X9_byteAt en := pe_all_ok pe_meth (es := gm_X9_byteAt) (hs := [[], [], [866], [], [], [863], [], [], [], [833], []]) (by decide +kernel)
theorem tk_X9_isLetter : ∀ en ∈ gm_X9_isLetter, pe_ok mt_X9_isLetter en := pe_all_ok pe_meth (es := gm_X9_isLetter) (hs := [[], [], [], [], [], [], [], [], [], []]) (by decide +kernel)
theorem tk_X9_isFigure : ∀ en ∈ gm_X9_isFigure, pe_ok mt_X9_isFigure en := pe_all_ok pe_meth (es := gm_X9_isFigure) (hs := [[], [], [], [], [], [], [], [], [], []]) (by decide +kernel)
theorem tk_X9_next_0 : ∀ en ∈ (List.take 40 (gm_X9_next)), pe_ok mt_X9_next en := pe_all_ok pe_meth (hs := [[], [], [867], [1013, 1015, 17], [], [], [], [], [867], [1013, 1015, 17], [], [], [], [], [867], [], [], [867], [], [], [], [867], [869], [], [], [867], [1013, 1015, 17], [], [], [833], [], [], [], [868], [], [], [1017, 1018], [], [], []]) (by decide +kernel)
theorem tk_X9_next_1 : ∀ en ∈ (List.take 40 (List.drop 40 (gm_X9_next))), pe_ok mt_X9_next en := pe_all_ok pe_meth (hs := [[867], [1013, 1015, 17], [1017, 1018], [], [], [], [867], [], [], [867], [], [], [], [868], [], [], [1020, 1021], [], [], [], [867], [1013, 1015, 17], [1020, 1021], [], [], [], [867], [], [], [867], [], [], [], [867], [], [869], [], [], [], []]) (by decide +kernel)
theorem tk_X9_next_2 : ∀ en ∈ (List.drop 40 (List.drop 40 (gm_X9_next))), pe_ok mt_X9_next en := pe_all_ok pe_meth (hs := [[], [], [868], [], [], [], [867], [], [], [867], [], [], [], [], [], [], [], [868], [], [], [867], [870], []]) (by decide +kernel)
theorem tk_X9_next : ∀ en ∈ gm_X9_next, pe_ok mt_X9_next en := pe_cut 40 tk_X9_next_0 (pe_cut 40 tk_X9_next_1 (tk_X9_next_2))
theorem tk_X9_bad : ∀ en ∈ gm_X9_bad, pe_ok mt_X9_bad en := pe_all_ok pe_meth (es := gm_X9_bad) (hs := [[], [871], [], [], [], [871], [], [], [869], [872], []]) (by decide +kernel)
theorem tk_X9_must : ∀ en ∈ gm_X9_must, pe_ok mt_X9_must en := pe_all_ok pe_meth (es := gm_X9_must) (hs := [[], [], [], [], [1032, 1034, 20], [], [871], [], [], [1009, 1011, 16], []]) (by decide +kernel)
theorem tk_X9_word : ∀ en ∈ gm_X9_word, pe_ok mt_X9_word en := pe_all_ok pe_meth (es := gm_X9_word) (hs := [[], [], [], [869], [], [], [], [870], [], [], [868], [], [], [], [870], [], [869], [], [], [], [], [], [], [], [863], [], [], [], [], [], [], [], [], []]) (by decide +kernel)
theorem tk_X9_numberHere : ∀ en ∈ gm_X9_numberHere, pe_ok mt_X9_numberHere en := pe_all_ok pe_meth (es := gm_X9_numberHere) (hs := [[], [], [], [869], [], [], [], [870], [], [], [868], [], [], [], [], [], [], [863], [], [], [], [], [], [], [], [], [], []]) (by decide +kernel)
theorem tk_X9_numberIn : ∀ en ∈ gm_X9_numberIn, pe_ok mt_X9_numberIn en := pe_all_ok pe_meth (es := gm_X9_numberIn) (hs := [[], [871], [], [], [], [], [1047, 1049, 23], [], [], [868], [], [], [], [], [], [], [], [], [976, 977], [], [], [], [], [], [], [], [], [], [], [], [], [], [1032, 1034, 20], [], [], [868], [], [], [], [], [], [1039, 1041, 21], [], []]) (by decide +kernel)
theorem tk_X9_mustRefuseOrGive : ∀ en ∈ gm_X9_mustRefuseOrGive, pe_ok mt_X9_mustRefuseOrGive en := pe_all_ok pe_meth (es := gm_X9_mustRefuseOrGive) (hs := [[], [871], [], [], [], [1027, 1029, 19], [1065], [], [], [], [1027, 1029, 19], [1060], [], [], [], [], [], [1039, 1041, 21], []]) (by decide +kernel)
theorem tk_X9_readRule_0 : ∀ en ∈ (List.take 40 (gm_X9_readRule)), pe_ok mt_X9_readRule en := pe_all_ok pe_meth (hs := [[], [841], [], [], [], [], [], [], [1032, 1034, 20], [], [], [1039, 1041, 21], [], [], [], [], [841], [], [], [], [], [], [], [], [], [1056, 1058, 25], [], [], [], [], [], [1056, 1058, 25], [], [], [], [], [], [1056, 1058, 25], [], []]) (by decide +kernel)
theorem tk_X9_readRule_1 : ∀ en ∈ (List.take 40 (List.drop 40 (gm_X9_readRule))), pe_ok mt_X9_readRule en := pe_all_ok pe_meth (hs := [[1027, 1029, 19], [1060], [], [], [], [], [], [], [], [1061, 1063, 26], [], [], [], [], [], [], [], [], [], [], [], [], [], [], [], [], [], [], [], [], [], [1056, 1058, 25], [], [], [], [], [], [], [], []]) (by decide +kernel)
theorem tk_X9_readRule_2 : ∀ en ∈ (List.drop 40 (List.drop 40 (gm_X9_readRule))), pe_ok mt_X9_readRule en := pe_all_ok pe_meth (hs := [[], [], [871], [], [], [842], [], [], [], [], [843], [], [], [], [], [844], [], [], [], [], [845], [], [], [], [], [841], [], [], [], [], [], [], []]) (by decide +kernel)
theorem tk_X9_readRule : ∀ en ∈ gm_X9_readRule, pe_ok mt_X9_readRule en := pe_cut 40 tk_X9_readRule_0 (pe_cut 40 tk_X9_readRule_1 (tk_X9_readRule_2))
theorem tk_X9_readEdition_0 : ∀ en ∈ (List.take 40 (gm_X9_readEdition)), pe_ok mt_X9_readEdition en := pe_all_ok pe_meth (hs := [[], [1047, 1049, 23], [], [], [868], [], [], [], [], [], [], [], [1032, 1034, 20], [], [868], [], [], [], [], [], [], [840], [], [], [], [], [], [], [1032, 1034, 20], [], [], [868], [], [], [], [], [], [1039, 1041, 21], [], [871]]) (by decide +kernel)
theorem tk_X9_readEdition_1 : ∀ en ∈ (List.drop 40 (gm_X9_readEdition)), pe_ok mt_X9_readEdition en := pe_all_ok pe_meth (hs := [[], [], [], [], [], [], [840], [], [], [], [], [], [841], [], [], [], [], [871], [], [], [1027, 1029, 19], [1051], [], [], [], [], [1052, 1054, 24], [], [], [840], [], [], [], [], [], [], []]) (by decide +kernel)
theorem tk_X9_readEdition : ∀ en ∈ gm_X9_readEdition, pe_ok mt_X9_readEdition en := pe_cut 40 tk_X9_readEdition_0 (tk_X9_readEdition_1)
theorem tk_X9_readSaying_0 : ∀ en ∈ (List.take 40 (gm_X9_readSaying)), pe_ok mt_X9_readSaying en := pe_all_ok pe_meth (hs := [[], [847], [], [], [848], [], [], [], [], [], [1056, 1058, 25], [], [], [849], [], [], [], [], [], [1056, 1058, 25], [], [], [850], [], [], [], [], [], [], [848], [], [], [], [1056, 1058, 25], [], [], [851], [], [], []]) (by decide +kernel)
theorem tk_X9_readSaying_1 : ∀ en ∈ (List.take 40 (List.drop 40 (gm_X9_readSaying))), pe_ok mt_X9_readSaying en := pe_all_ok pe_meth (hs := [[], [], [1056, 1058, 25], [], [], [852], [], [], [], [851], [], [], [], [], [1056, 1058, 25], [], [], [853], [], [], [], [], [], [1056, 1058, 25], [], [], [854], [], [], [1027, 1029, 19], [1065], [], [], [], [], [], [], [], [1061, 1063, 26], []]) (by decide +kernel)
theorem tk_X9_readSaying_2 : ∀ en ∈ (List.take 40 (List.drop 40 (List.drop 40 (gm_X9_readSaying)))), pe_ok mt_X9_readSaying en := pe_all_ok pe_meth (hs := [[855], [], [], [], [], [], [], [], [], [], [856], [], [], [], [], [], [], [], [], [], [], [871], [], [], [854], [], [], [], [], [868], [], [], [], [], [], [], [855], [], [], [1056, 1058, 25]]) (by decide +kernel)
theorem tk_X9_readSaying_3 : ∀ en ∈ (List.take 40 (List.drop 40 (List.drop 40 (List.drop 40 (gm_X9_readSaying))))), pe_ok mt_X9_readSaying en := pe_all_ok pe_meth (hs := [[], [], [], [], [], [1056, 1058, 25], [], [], [], [], [], [1056, 1058, 25], [], [], [], [], [], [1056, 1058, 25], [], [], [871], [], [], [855], [], [], [], [], [], [], [], [], [], [856], [], [], [], [], [], []]) (by decide +kernel)
theorem tk_X9_readSaying_4 : ∀ en ∈ (List.drop 40 (List.drop 40 (List.drop 40 (List.drop 40 (gm_X9_readSaying))))), pe_ok mt_X9_readSaying en := pe_all_ok pe_meth (hs := [[], [], [], [], [], [], [], [], [], [], [], [], [], [], [], [], [847], [], [], [847], []]) (by decide +kernel)
theorem tk_X9_readSaying : ∀ en ∈ gm_X9_readSaying, pe_ok mt_X9_readSaying en := pe_cut 40 tk_X9_readSaying_0 (pe_cut 40 tk_X9_readSaying_1 (pe_cut 40 tk_X9_readSaying_2 (pe_cut 40 tk_X9_readSaying_3 (tk_X9_readSaying_4))))
theorem tk_X9_readWithin_0 : ∀ en ∈ (List.take 40 (gm_X9_readWithin)), pe_ok mt_X9_readWithin en := pe_all_ok pe_meth (hs := [[], [], [], [], [1056, 1058, 25], [], [], [], [], [], [1056, 1058, 25], [], [], [], [], [871], [], [], [868], [], [], [], [], [], [], [], [], [], [], [1056, 1058, 25], [], [], [], [871], [], [], [], [], [], []]) (by decide +kernel)
theorem tk_X9_readWithin_1 : ∀ en ∈ (List.drop 40 (gm_X9_readWithin)), pe_ok mt_X9_readWithin en := pe_all_ok pe_meth (hs := [[], [], [], [], [871], [], [], [861], [], [], [], [], [862], [], [], [], []]) (by decide +kernel)
theorem tk_X9_readWithin : ∀ en ∈ gm_X9_readWithin, pe_ok mt_X9_readWithin en := pe_cut 40 tk_X9_readWithin_0 (tk_X9_readWithin_1)
end
section
theorem tk_X9_readOne_0 : ∀ en ∈ (List.take 40 (gm_X9_readOne)), pe_ok mt_X9_readOne en := pe_all_ok pe_meth (hs := [[], [1027, 1029, 19], [], [], [1031], [], [], [], [847], [], [], [], [], [1032, 1034, 20], [], [], [1036], [], [], [], [1031], [], [], [], [1037], [], [], [], [1038], [], [], [], [], [], [1039, 1041, 21], [], [871], [], [], []]) (by decide +kernel)
theorem tk_X9_readOne_1 : ∀ en ∈ (List.take 40 (List.drop 40 (gm_X9_readOne))), pe_ok mt_X9_readOne en := pe_all_ok pe_meth (hs := [[1036], [], [], [], [1043, 1045, 22], [], [], [1031], [], [], [], [1066, 1068, 27], [], [], [1037], [], [], [], [], [], [], [1056, 1058, 25], [], [], [], [], [], [1056, 1058, 25], [], [], [], [], [], [1056, 1058, 25], [], [], [871], [], [], [858]]) (by decide +kernel)
theorem tk_X9_readOne_2 : ∀ en ∈ (List.drop 40 (List.drop 40 (gm_X9_readOne))), pe_ok mt_X9_readOne en := pe_all_ok pe_meth (hs := [[], [], [], [], [], [], [], [], [], [], [], [], [1070, 1072, 28], [], [871], [], [], [], [868], [], [], [], [], [], [1039, 1041, 21], []]) (by decide +kernel)
theorem tk_X9_readOne : ∀ en ∈ gm_X9_readOne, pe_ok mt_X9_readOne en := pe_cut 40 tk_X9_readOne_0 (pe_cut 40 tk_X9_readOne_1 (tk_X9_readOne_2))
theorem tk_X9_laws_0 : ∀ en ∈ (List.take 40 (gm_X9_laws)), pe_ok mt_X9_laws en := pe_all_ok pe_meth (hs := [[], [], [834], [], [], [864], [866], [], [], [864], [], [], [867], [], [], [871], [], [], [846], [847], [], [], [], [], [], [], [858], [], [], [857], [], [], [], [], [], [], [], [], [], []]) (by decide +kernel)
theorem tk_X9_laws_1 : ∀ en ∈ (List.take 40 (List.drop 40 (gm_X9_laws))), pe_ok mt_X9_laws en := pe_all_ok pe_meth (hs := [[], [840], [], [], [839], [], [], [], [], [861], [], [], [859], [], [], [], [], [862], [], [], [860], [], [], [], [], [], [], [1009, 1011, 16], [], [871], [], [], [868], [], [], [], [1023, 1025, 18], [], [], [871]]) (by decide +kernel)
theorem tk_X9_laws_2 : ∀ en ∈ (List.take 40 (List.drop 40 (List.drop 40 (gm_X9_laws)))), pe_ok mt_X9_laws en := pe_all_ok pe_meth (hs := [[], [], [], [871], [865], [1074], [], [872], [], [], [], [], [847], [846], [], [], [], [], [], [], [857], [], [], [858], [], [], [], [], [], [], [], [], [], [], [], [839], [], [], [840], []]) (by decide +kernel)
theorem tk_X9_laws_3 : ∀ en ∈ (List.drop 40 (List.drop 40 (List.drop 40 (gm_X9_laws)))), pe_ok mt_X9_laws en := pe_all_ok pe_meth (hs := [[], [], [], [859], [], [], [861], [], [], [], [], [860], [], [], [862], [], [], [], [], [], [], [846], []]) (by decide +kernel)
theorem tk_X9_laws : ∀ en ∈ gm_X9_laws, pe_ok mt_X9_laws en := pe_cut 40 tk_X9_laws_0 (pe_cut 40 tk_X9_laws_1 (pe_cut 40 tk_X9_laws_2 (tk_X9_laws_3)))
theorem tk_X9_fault : ∀ en ∈ gm_X9_fault, pe_ok mt_X9_fault en := pe_all_ok pe_meth (es := gm_X9_fault) (hs := [[], [], [834], [], [865], []]) (by decide +kernel)
theorem tk_X9_isService : ∀ en ∈ gm_X9_isService, pe_ok mt_X9_isService en := pe_all_ok pe_meth (es := gm_X9_isService) (hs := [[], [], [], [1086], [976, 977], []]) (by decide +kernel)
theorem tk_X9_isEdition : ∀ en ∈ gm_X9_isEdition, pe_ok mt_X9_isEdition en := pe_all_ok pe_meth (es := gm_X9_isEdition) (hs := [[], [1083, 1084], [], [], [], [], [], [839], [], [], [], [], [], [976, 977], [], [], [], [], []]) (by decide +kernel)
theorem tk_X9_isSaying : ∀ en ∈ gm_X9_isSaying, pe_ok mt_X9_isSaying en := pe_all_ok pe_meth (es := gm_X9_isSaying) (hs := [[], [], [], [], [846], [], [], [], [976, 977], []]) (by decide +kernel)
theorem tk_X9_editions : ∀ en ∈ gm_X9_editions, pe_ok mt_X9_editions en := pe_all_ok pe_meth (es := gm_X9_editions) (hs := [[], [], [834], [], [1083, 1084], [], [], [839], [], [], [], [980], []]) (by decide +kernel)
theorem tk_X9_answerOf_0 : ∀ en ∈ (List.take 40 (gm_X9_answerOf)), pe_ok mt_X9_answerOf en := pe_all_ok pe_meth (hs := [[], [], [], [], [], [], [], [], [], [], [], [], [], [], [], [841], [], [], [], [], [], [], [], [842], [], [], [], [], [843], [], [], [], [976, 977], [], [], [844], [], [], [], []]) (by decide +kernel)
theorem tk_X9_answerOf_1 : ∀ en ∈ (List.drop 40 (gm_X9_answerOf)), pe_ok mt_X9_answerOf en := pe_all_ok pe_meth (hs := [[], [844], [], [], [], [], [], [845], [], [], [], [], [], [], []]) (by decide +kernel)
theorem tk_X9_answerOf : ∀ en ∈ gm_X9_answerOf, pe_ok mt_X9_answerOf en := pe_cut 40 tk_X9_answerOf_0 (tk_X9_answerOf_1)
theorem tk_X9_fieldIn : ∀ en ∈ gm_X9_fieldIn, pe_ok mt_X9_fieldIn en := pe_all_ok pe_meth (es := gm_X9_fieldIn) (hs := [[], [], [], [], [], [], [], [], [], [], [], [], [], [], [], [], []]) (by decide +kernel)
theorem tk_X9_answer_0 : ∀ en ∈ (List.take 40 (gm_X9_answer)), pe_ok mt_X9_answer en := pe_all_ok pe_meth (hs := [[], [], [834], [], [], [], [1091, 1093, 29], [], [], [], [], [975], [976, 977], [], [], [], [], [979], [976, 977], [], [], [], [], [1095], [976, 977], [], [980], [], [], [], [], [], [], [1096, 1098, 30], [], [], [], [], [], []]) (by decide +kernel)
theorem tk_X9_answer_1 : ∀ en ∈ (List.drop 40 (gm_X9_answer)), pe_ok mt_X9_answer en := pe_all_ok pe_meth (hs := [[], [], [], [], [], [], [], [], [833], [], [], [], [1100, 1101], []]) (by decide +kernel)
theorem tk_X9_answer : ∀ en ∈ gm_X9_answer, pe_ok mt_X9_answer en := pe_cut 40 tk_X9_answer_0 (tk_X9_answer_1)
theorem tk_X9_saying_0 : ∀ en ∈ (List.take 40 (gm_X9_saying)), pe_ok mt_X9_saying en := pe_all_ok pe_meth (hs := [[], [], [834], [], [], [1107, 1109, 31], [], [], [], [], [975], [976, 977], [], [980], [], [], [], [], [848], [], [], [], [], [849], [], [], [], [], [850], [], [], [], [], [851], [], [], [], [], [852], []]) (by decide +kernel)
theorem tk_X9_saying_1 : ∀ en ∈ (List.drop 40 (gm_X9_saying)), pe_ok mt_X9_saying en := pe_all_ok pe_meth (hs := [[], [], [], [853], [], [], [], [], [854], [], [], [], [], [], [], [], [], [855], [], [], []]) (by decide +kernel)
theorem tk_X9_saying : ∀ en ∈ gm_X9_saying, pe_ok mt_X9_saying en := pe_cut 40 tk_X9_saying_0 (tk_X9_saying_1)
theorem tk_X9_isAbout : ∀ en ∈ gm_X9_isAbout, pe_ok mt_X9_isAbout en := pe_all_ok pe_meth (es := gm_X9_isAbout) (hs := [[], [], [], [851], [], [], [], [], [852], [], [], [], [976, 977], [], [], [853], [], [], [], [], [], [853], [], [], [], [], [], [], [], []]) (by decide +kernel)
theorem tk_X9_wrongIn : ∀ en ∈ gm_X9_wrongIn, pe_ok mt_X9_wrongIn en := pe_all_ok pe_meth (es := gm_X9_wrongIn) (hs := [[], [854], [], [], [], [], [], [], [], [854], [], [], [], [], [], [], [], [], [], [833], [], [], [], [], [], [], [], [], [], [856], [], [], [], [], [], [], [], [], [1100, 1101], [], [], [], [], [], [], [], [], [833], []]) (by decide +kernel)
theorem tk_X9_breaks : ∀ en ∈ gm_X9_breaks, pe_ok mt_X9_breaks en := pe_all_ok pe_meth (es := gm_X9_breaks) (hs := [[], [], [], [], [], [], [], [], [], [], [], [], [], [], [1119, 1121, 33], [], [], [], [], [], [850], [], [], [], [], [], [1096, 1098, 30], [1123, 1125, 34], [], [], [833], [], [], [], [], [], [], [], [], [], [], [], [], [], [], [], [833], []]) (by decide +kernel)
theorem tk_X9_isKept : ∀ en ∈ gm_X9_isKept, pe_ok mt_X9_isKept en := pe_all_ok pe_meth (es := gm_X9_isKept) (hs := [[], [], [], [1115, 1117, 32], [833], [], [], [], [], []]) (by decide +kernel)
theorem tk_X9_play : ∀ en ∈ gm_X9_play, pe_ok mt_X9_play en := pe_all_ok pe_meth (es := gm_X9_play) (hs := [[], [], [834], [], [], [1107, 1109, 31], [], [], [], [850], [], [], [], [1091, 1093, 29], [], [], [], [], [], [976, 977], [], [980], [], [], [], [], [1115, 1117, 32], [], [], [], [], [], [], [], [833], [], [], [], [], []]) (by decide +kernel)
theorem tk_X9_isAllowedByAll_0 : ∀ en ∈ (List.take 40 (gm_X9_isAllowedByAll)), pe_ok mt_X9_isAllowedByAll en := pe_all_ok pe_meth (hs := [[], [], [], [], [], [], [846], [], [], [], [], [848], [], [], [], [], [], [849], [], [], [], [], [], [850], [], [], [], [], [], [], [], [], [1119, 1121, 33], [], [], [], [], [], [], []]) (by decide +kernel)
theorem tk_X9_isAllowedByAll_1 : ∀ en ∈ (List.drop 40 (gm_X9_isAllowedByAll)), pe_ok mt_X9_isAllowedByAll en := pe_all_ok pe_meth (hs := [[], [], [], [1123, 1125, 34], [833], [], [], [], [], [], [], [], [], []]) (by decide +kernel)
theorem tk_X9_isAllowedByAll : ∀ en ∈ gm_X9_isAllowedByAll, pe_ok mt_X9_isAllowedByAll en := pe_cut 40 tk_X9_isAllowedByAll_0 (tk_X9_isAllowedByAll_1)
theorem tk_X9_standIn_0 : ∀ en ∈ (List.take 40 (gm_X9_standIn)), pe_ok mt_X9_standIn en := pe_all_ok pe_meth (hs := [[], [], [834], [], [1083, 1084], [], [], [], [], [1086], [976, 977], [], [], [1083, 1084], [], [], [], [], [], [], [], [975], [976, 977], [], [], [], [], [979], [976, 977], [], [], [], [], [980], [], [], [], [], [], []]) (by decide +kernel)
theorem tk_X9_standIn_1 : ∀ en ∈ (List.drop 40 (gm_X9_standIn)), pe_ok mt_X9_standIn en := pe_all_ok pe_meth (hs := [[], [], [], [], [], [], [], [], [], [1131, 1133, 35], [], [], [], [], [], [], [], [], [], [], [], [], [], [], [833], []]) (by decide +kernel)
theorem tk_X9_standIn : ∀ en ∈ gm_X9_standIn, pe_ok mt_X9_standIn en := pe_cut 40 tk_X9_standIn_0 (tk_X9_standIn_1)
theorem tk_X9_allows_0 : ∀ en ∈ (List.take 40 (gm_X9_allows)), pe_ok mt_X9_allows en := pe_all_ok pe_meth (hs := [[], [], [834], [], [], [1107, 1109, 31], [], [], [972, 973], [], [], [], [], [1139], [976, 977], [], [980], [], [], [836], [], [], [], [], [], [981, 983, 15], [], [], [], [], [], [], [], [], [], [837], [], [], [], []]) (by decide +kernel)
theorem tk_X9_allows_1 : ∀ en ∈ (List.take 40 (List.drop 40 (gm_X9_allows))), pe_ok mt_X9_allows en := pe_all_ok pe_meth (hs := [[], [], [], [981, 983, 15], [], [], [], [], [], [], [], [], [], [], [], [], [], [], [], [], [], [], [], [838], [], [], [], [], [1140], [976, 977], [], [980], [], [], [], [], [], [838], [], []]) (by decide +kernel)
theorem tk_X9_allows_2 : ∀ en ∈ (List.drop 40 (List.drop 40 (gm_X9_allows))), pe_ok mt_X9_allows en := pe_all_ok pe_meth (hs := [[1123, 1125, 34], [833], [], [], [], [], [], [], [], [], [], [], [835], [], []]) (by decide +kernel)
theorem tk_X9_allows : ∀ en ∈ gm_X9_allows, pe_ok mt_X9_allows en := pe_cut 40 tk_X9_allows_0 (pe_cut 40 tk_X9_allows_1 (tk_X9_allows_2))
theorem tk_X9_noMore_0 : ∀ en ∈ (List.take 40 (gm_X9_noMore)), pe_ok mt_X9_noMore en := pe_all_ok pe_meth (hs := [[], [], [834], [], [], [1107, 1109, 31], [], [], [], [1107, 1109, 31], [], [980], [], [], [850], [], [], [], [850], [], [], [], [1145], [], [], [851], [], [], [], [851], [], [], [], [], [852], [], [], [], [852], []]) (by decide +kernel)
theorem tk_X9_noMore_1 : ∀ en ∈ (List.take 40 (List.drop 40 (gm_X9_noMore))), pe_ok mt_X9_noMore en := pe_all_ok pe_meth (hs := [[], [], [], [853], [], [], [], [], [], [853], [], [], [], [853], [], [], [], [], [854], [], [], [], [854], [], [], [], [], [], [], [], [], [], [], [], [], [], [854], [], [], []]) (by decide +kernel)
theorem tk_X9_noMore_2 : ∀ en ∈ (List.drop 40 (List.drop 40 (gm_X9_noMore))), pe_ok mt_X9_noMore en := pe_all_ok pe_meth (hs := [[], [], [], [856], [], [], [], [], [], [], [], [856], [], [], [], [], [], [], [], [], [], [], [], [], [], [], [], [], [], [], [], [], [], []]) (by decide +kernel)
theorem tk_X9_noMore : ∀ en ∈ gm_X9_noMore, pe_ok mt_X9_noMore en := pe_cut 40 tk_X9_noMore_0 (pe_cut 40 tk_X9_noMore_1 (tk_X9_noMore_2))
end
section
theorem tk_X9_doQuarrel_0 : ∀ en ∈ (List.take 40 (gm_X9_doQuarrel)), pe_ok mt_X9_doQuarrel en := pe_all_ok pe_meth (hs := [[], [], [], [], [], [], [], [], [], [], [], [], [], [], [], [], [], [], [], [], [], [], [846], [], [], [], [], [], [], [], [], [], [850], [], [], [], [], [], [], []]) (by decide +kernel)
theorem tk_X9_doQuarrel_1 : ∀ en ∈ (List.take 40 (List.drop 40 (gm_X9_doQuarrel))), pe_ok mt_X9_doQuarrel en := pe_all_ok pe_meth (hs := [[851], [], [], [], [], [], [851], [], [], [], [], [], [], [852], [], [], [], [], [], [852], [], [], [], [], [], [], [], [853], [], [], [], [], [], [], [], [], [853], [], [], []]) (by decide +kernel)
theorem tk_X9_doQuarrel_2 : ∀ en ∈ (List.take 40 (List.drop 40 (List.drop 40 (gm_X9_doQuarrel)))), pe_ok mt_X9_doQuarrel en := pe_all_ok pe_meth (hs := [[], [], [], [], [854], [], [], [], [], [], [], [], [], [], [], [854], [], [], [], [], [], [], [], [], [], [], [856], [], [], [], [], [], [], [], [], [856], [], [], [], []]) (by decide +kernel)
theorem tk_X9_doQuarrel_3 : ∀ en ∈ (List.take 40 (List.drop 40 (List.drop 40 (List.drop 40 (gm_X9_doQuarrel))))), pe_ok mt_X9_doQuarrel en := pe_all_ok pe_meth (hs := [[], [], [], [], [], [], [856], [], [], [], [], [], [], [], [], [], [], [856], [], [], [], [], [], [], [], [], [], [], [], [], [], [], [], [], [], [], [], [], [], []]) (by decide +kernel)
theorem tk_X9_doQuarrel_4 : ∀ en ∈ (List.drop 40 (List.drop 40 (List.drop 40 (List.drop 40 (gm_X9_doQuarrel))))), pe_ok mt_X9_doQuarrel en := pe_all_ok pe_meth (hs := [[], [], [], [], [], [], [], [], [], [], []]) (by decide +kernel)
theorem tk_X9_doQuarrel : ∀ en ∈ gm_X9_doQuarrel, pe_ok mt_X9_doQuarrel en := pe_cut 40 tk_X9_doQuarrel_0 (pe_cut 40 tk_X9_doQuarrel_1 (pe_cut 40 tk_X9_doQuarrel_2 (pe_cut 40 tk_X9_doQuarrel_3 (tk_X9_doQuarrel_4))))
theorem tk_X9_quarrelOf_0 : ∀ en ∈ (List.take 40 (gm_X9_quarrelOf)), pe_ok mt_X9_quarrelOf en := pe_all_ok pe_meth (hs := [[], [], [], [], [], [], [846], [], [], [], [], [], [], [], [], [], [], [], [], [], [], [], [], [], [], [], [1154, 1156, 37], [], [], [], [], [], [], [], [], [], [], [], [], []]) (by decide +kernel)
theorem tk_X9_quarrelOf_1 : ∀ en ∈ (List.take 40 (List.drop 40 (gm_X9_quarrelOf))), pe_ok mt_X9_quarrelOf en := pe_all_ok pe_meth (hs := [[], [], [], [], [], [], [846], [], [], [], [], [], [], [], [], [], [], [], [], [], [], [], [], [], [], [], [], [], [], [], [], [], [], [], [], [], [], [1154, 1156, 37], [], []]) (by decide +kernel)
theorem tk_X9_quarrelOf_2 : ∀ en ∈ (List.drop 40 (List.drop 40 (gm_X9_quarrelOf))), pe_ok mt_X9_quarrelOf en := pe_all_ok pe_meth (hs := [[], [], [], [], [], [], [], [], [], [], [], [], [], [], [], [], [], [], [], [], []]) (by decide +kernel)
theorem tk_X9_quarrelOf : ∀ en ∈ gm_X9_quarrelOf, pe_ok mt_X9_quarrelOf en := pe_cut 40 tk_X9_quarrelOf_0 (pe_cut 40 tk_X9_quarrelOf_1 (tk_X9_quarrelOf_2))
theorem tk_X9_quarrel : ∀ en ∈ gm_X9_quarrel, pe_ok mt_X9_quarrel en := pe_all_ok pe_meth (es := gm_X9_quarrel) (hs := [[], [], [834], [], [1083, 1084], [], [], [], [1150, 1152, 36], [], [980], []]) (by decide +kernel)
theorem tk_X9_change_0 : ∀ en ∈ (List.take 40 (gm_X9_change)), pe_ok mt_X9_change en := pe_all_ok pe_meth (hs := [[], [], [834], [], [], [], [1091, 1093, 29], [], [], [], [], [1091, 1093, 29], [], [980], [], [], [], [], [], [], [], [846], [], [], [], [850], [], [], [], [], [], [], [], [1162, 1164, 38], [], [], [], [], [1162, 1164, 38], []]) (by decide +kernel)
theorem tk_X9_change_1 : ∀ en ∈ (List.drop 40 (gm_X9_change)), pe_ok mt_X9_change en := pe_all_ok pe_meth (hs := [[], [], [], [], [], [], [], [], [], [], []]) (by decide +kernel)
theorem tk_X9_change : ∀ en ∈ gm_X9_change, pe_ok mt_X9_change en := pe_cut 40 tk_X9_change_0 (tk_X9_change_1)
theorem tk_X9_right : ∀ en ∈ gm_X9_right, pe_ok mt_X9_right en := pe_all_ok pe_meth (es := gm_X9_right) (hs := [[], [], [834], [], [], [1107, 1109, 31], [], [], [855], [], [], [], [857], [], [], [848], [], [], [], [], [849], [], [], [], [], [], [], [], [], [980], []]) (by decide +kernel)
theorem tk_X9_figure : ∀ en ∈ gm_X9_figure, pe_ok mt_X9_figure en := pe_all_ok pe_meth (es := gm_X9_figure) (hs := [[], [], [], [], [], [], [], [], [], [], [], [], [], [], [], [], [], [], [], [], [], [], [], [], [], [], [], []]) (by decide +kernel)
theorem tk_X9_worth : ∀ en ∈ gm_X9_worth, pe_ok mt_X9_worth en := pe_all_ok pe_meth (es := gm_X9_worth) (hs := [[], [], [], [], [], [], [], [], [], [], [], [], [], [], [], []]) (by decide +kernel)
theorem tk_X9_isHouse : ∀ en ∈ gm_X9_isHouse, pe_ok mt_X9_isHouse en := pe_all_ok pe_meth (es := gm_X9_isHouse) (hs := [[], [], [], [1178], [976, 977], [], [], [], [], [], [], [], [], [], [], [1179, 1180], [], [839], [], [], [], [], [], [], [], [], [], [], []]) (by decide +kernel)
theorem tk_X9_redOf : ∀ en ∈ gm_X9_redOf, pe_ok mt_X9_redOf en := pe_all_ok pe_meth (es := gm_X9_redOf) (hs := [[], [], [], [], [846], [], [], [], [848], [], [], [1179, 1180], [], [849], [], [], [], [], [], [], [], [850], [], [], [1179, 1180], [], [], [], [], [], [], [], [], [], [], [], [850], [], [], [1179, 1180], [], [], [1162, 1164, 38], [], [], [], [], [], [833], []]) (by decide +kernel)
theorem tk_X9_house : ∀ en ∈ gm_X9_house, pe_ok mt_X9_house en := pe_all_ok pe_meth (es := gm_X9_house) (hs := [[], [], [834], [], [], [1174, 1176, 39], [], [], [], [], [], [976, 977], [], [980], [], [], [], [1182, 1184, 40], [], [], [], [], [], [], [], [833], [], [], [], [], []]) (by decide +kernel)
theorem tk_X9_letOut_0 : ∀ en ∈ (List.take 40 (gm_X9_letOut)), pe_ok mt_X9_letOut en := pe_all_ok pe_meth (hs := [[], [], [834], [], [], [1174, 1176, 39], [], [], [], [1174, 1176, 39], [], [], [], [], [], [976, 977], [], [980], [], [], [], [1182, 1184, 40], [833], [], [], [], [1182, 1184, 40], [833], [], [833], [], [], [], [], [], [], [], [873], [], [833]]) (by decide +kernel)
theorem tk_X9_letOut_1 : ∀ en ∈ (List.take 40 (List.drop 40 (gm_X9_letOut))), pe_ok mt_X9_letOut en := pe_all_ok pe_meth (hs := [[], [], [], [], [873], [], [], [], [], [874], [], [], [], [], [], [], [], [], [], [], [], [], [], [], [], [], [], [], [], [839], [], [], [], [], [874], [], [], [], [], [874]]) (by decide +kernel)
theorem tk_X9_letOut_2 : ∀ en ∈ (List.take 40 (List.drop 40 (List.drop 40 (gm_X9_letOut)))), pe_ok mt_X9_letOut en := pe_all_ok pe_meth (hs := [[], [], [], [1179, 1180], [], [], [1190, 1191], [], [], [], [], [873], [], [], [833], [], [], [], [1182, 1184, 40], [833], [], [], [873], [], [], [873], [], [874], [], [], [], [], [], [], [], [874], [], [], [], []]) (by decide +kernel)
theorem tk_X9_letOut_3 : ∀ en ∈ (List.take 40 (List.drop 40 (List.drop 40 (List.drop 40 (gm_X9_letOut))))), pe_ok mt_X9_letOut en := pe_all_ok pe_meth (hs := [[], [], [], [], [], [], [], [], [], [873], [], [], [], [], [], [], [], [873], [], [], [], [833], [], [833], [], [], [], [], [], [], [], [], [], [], [839], [], [], [], [], []]) (by decide +kernel)
theorem tk_X9_letOut_4 : ∀ en ∈ (List.drop 40 (List.drop 40 (List.drop 40 (List.drop 40 (gm_X9_letOut))))), pe_ok mt_X9_letOut en := pe_all_ok pe_meth (hs := [[], [], [1179, 1180], [], [], [1190, 1191], [], [], [], [], [873], [], [], [], [873], [], [], [], [], [], [], [833], [], [], [], [], [], [], [], [], [], [], [], [], [], []]) (by decide +kernel)
theorem tk_X9_letOut : ∀ en ∈ gm_X9_letOut, pe_ok mt_X9_letOut en := pe_cut 40 tk_X9_letOut_0 (pe_cut 40 tk_X9_letOut_1 (pe_cut 40 tk_X9_letOut_2 (pe_cut 40 tk_X9_letOut_3 (tk_X9_letOut_4))))
theorem tk_X9_hours_0 : ∀ en ∈ (List.take 40 (gm_X9_hours)), pe_ok mt_X9_hours en := pe_all_ok pe_meth (hs := [[], [], [834], [], [1083, 1084], [], [980], [], [], [], [], [], [], [], [875], [], [833], [], [], [], [], [], [], [], [], [], [], [], [], [], [], [859], [], [], [], [], [], [], [], []]) (by decide +kernel)
theorem tk_X9_hours_1 : ∀ en ∈ (List.take 40 (List.drop 40 (gm_X9_hours))), pe_ok mt_X9_hours en := pe_all_ok pe_meth (hs := [[], [833], [], [], [860], [], [], [], [], [], [], [], [], [], [], [], [], [], [], [], [], [], [875], [], [], [833], [], [833], [], [], [], [875], [], [], [], [], [], [], [], [875]]) (by decide +kernel)
theorem tk_X9_hours_2 : ∀ en ∈ (List.drop 40 (List.drop 40 (gm_X9_hours))), pe_ok mt_X9_hours en := pe_all_ok pe_meth (hs := [[], [], [875], [], [], [833], [], [], [], [], [875], [], [], [], [], [], [], [], [], [875], [], [], []]) (by decide +kernel)
theorem tk_X9_hours : ∀ en ∈ gm_X9_hours, pe_ok mt_X9_hours en := pe_cut 40 tk_X9_hours_0 (pe_cut 40 tk_X9_hours_1 (tk_X9_hours_2))
theorem tk_X9_bits : ∀ en ∈ gm_X9_bits, pe_ok mt_X9_bits en := pe_all_ok pe_meth (es := gm_X9_bits) (hs := [[], [], [], [], [], [], [], [], [], [], [], [], [], [], [], [], [], [], []]) (by decide +kernel)
theorem tk_X9_kindOf : ∀ en ∈ gm_X9_kindOf, pe_ok mt_X9_kindOf en := pe_all_ok pe_meth (es := gm_X9_kindOf) (hs := [[], [], [850], [], [], [1150, 1152, 36], [], [], [], [], [], [], [], [], [], [854], [], [], [], [], [], [], [853], [], [], [], [], [], [], [], [855], [], [], [], [], [], [], []]) (by decide +kernel)
theorem tk_X9_isOf : ∀ en ∈ gm_X9_isOf, pe_ok mt_X9_isOf en := pe_all_ok pe_meth (es := gm_X9_isOf) (hs := [[], [], [], [], [], [], [], [], [], [], [], [], [], [], [], [], [], []]) (by decide +kernel)
theorem tk_X9_kind : ∀ en ∈ gm_X9_kind, pe_ok mt_X9_kind en := pe_all_ok pe_meth (es := gm_X9_kind) (hs := [[], [], [834], [], [], [1107, 1109, 31], [], [], [], [1201, 1203, 41], [], [980], []]) (by decide +kernel)
end
section
theorem tk_X9_as : ∀ en ∈ gm_X9_as, pe_ok mt_X9_as en := pe_all_ok pe_meth (es := gm_X9_as) (hs := [[], [], [834], [], [], [1107, 1109, 31], [], [], [], [], [1209], [976, 977], [], [980], [], [], [], [835], [], [], [1201, 1203, 41], [], [1210, 1211], [], [], [], [], [], [981, 983, 15], []]) (by decide +kernel)
theorem tk_X9_began : ∀ en ∈ gm_X9_began, pe_ok mt_X9_began en := pe_all_ok pe_meth (es := gm_X9_began) (hs := [[], [877], [], [], [], [876], [], [877], [], [], [], [], [877], [], [], [877], []]) (by decide +kernel)
theorem tk_X9_aboutHowMany : ∀ en ∈ gm_X9_aboutHowMany, pe_ok mt_X9_aboutHowMany en := pe_all_ok pe_meth (es := gm_X9_aboutHowMany) (hs := [[], [], [1225, 1227, 44], [], [852], [], [], [], [851], [], [], [], [], [], [], [853], [], [], [], [], [], [], [], [], []]) (by decide +kernel)
theorem tk_X9_givenSize : ∀ en ∈ gm_X9_givenSize, pe_ok mt_X9_givenSize en := pe_all_ok pe_meth (es := gm_X9_givenSize) (hs := [[], [], [], [], [], [1225, 1227, 44], [], [], [1225, 1227, 44], [], [], [1229, 1231, 45], [], [855], [], [], [1233, 1234], [], [], [], [], [], [], [], [], [], [], []]) (by decide +kernel)
theorem tk_X9_markOf_0 : ∀ en ∈ (List.take 40 (gm_X9_markOf)), pe_ok mt_X9_markOf en := pe_all_ok pe_meth (hs := [[], [], [], [], [], [1225, 1227, 44], [], [], [], [], [], [1210, 1211], [], [], [], [], [], [], [], [], [1225, 1227, 44], [], [], [1225, 1227, 44], [], [], [], [], [], [], [], [], [1210, 1211], [], [], [], [], [], [], []]) (by decide +kernel)
theorem tk_X9_markOf_1 : ∀ en ∈ (List.drop 40 (gm_X9_markOf)), pe_ok mt_X9_markOf en := pe_all_ok pe_meth (hs := [[], [], [], [], [], [], [1221, 1223, 43], [], [], [], []]) (by decide +kernel)
theorem tk_X9_markOf : ∀ en ∈ gm_X9_markOf, pe_ok mt_X9_markOf en := pe_cut 40 tk_X9_markOf_0 (tk_X9_markOf_1)
theorem tk_X9_sizeOf : ∀ en ∈ gm_X9_sizeOf, pe_ok mt_X9_sizeOf en := pe_all_ok pe_meth (es := gm_X9_sizeOf) (hs := [[], [], [1210, 1211], [], [], [], [], [1221, 1223, 43], [], [], [], [], [], [], [], [], [1225, 1227, 44], [], [], [1229, 1231, 45], [], [], [], [], [], [], [], [], [1236, 1238, 46], [], [], [], [], []]) (by decide +kernel)
theorem tk_X9_ask : ∀ en ∈ gm_X9_ask, pe_ok mt_X9_ask en := pe_all_ok pe_meth (es := gm_X9_ask) (hs := [[], [], [834], [], [], [1107, 1109, 31], [], [], [], [], [], [976, 977], [], [980], [], [], [], [877], [], [], [], [], [], [], [1201, 1203, 41], [1217, 1219, 42], [], [], [], [], [], [1201, 1203, 41], [1236, 1238, 46], []]) (by decide +kernel)
theorem tk_X9_trace : ∀ en ∈ gm_X9_trace, pe_ok mt_X9_trace en := pe_all_ok pe_meth (es := gm_X9_trace) (hs := [[], [], [834], [], [], [], [], [877], [], [], [], [976, 977], [], [], [876], [], [], [], [833], []]) (by decide +kernel)
theorem tk_X9_isKeptBySome : ∀ en ∈ gm_X9_isKeptBySome, pe_ok mt_X9_isKeptBySome en := pe_all_ok pe_meth (es := gm_X9_isKeptBySome) (hs := [[], [], [], [], [], [], [839], [], [850], [], [], [], [], [], [], [], [], [], [1162, 1164, 38], [], [], [], [], [], [], [], [], []]) (by decide +kernel)
theorem tk_X9_count_0 : ∀ en ∈ (List.take 40 (gm_X9_count)), pe_ok mt_X9_count en := pe_all_ok pe_meth (hs := [[], [], [834], [], [], [], [], [], [], [], [], [], [], [], [836], [], [], [], [], [], [], [], [], [], [], [], [], [], [839], [], [], [], [839], [], [], [], [], [839], [], []]) (by decide +kernel)
theorem tk_X9_count_1 : ∀ en ∈ (List.take 40 (List.drop 40 (gm_X9_count))), pe_ok mt_X9_count en := pe_all_ok pe_meth (hs := [[], [], [839], [], [], [], [], [], [846], [], [], [], [], [], [846], [], [], [], [], [1248, 1250, 47], [], [], [], [], [], [], [], [], [], [], [], [], [], [], [], [], [], [859], [], []]) (by decide +kernel)
theorem tk_X9_count_2 : ∀ en ∈ (List.drop 40 (List.drop 40 (gm_X9_count))), pe_ok mt_X9_count en := pe_all_ok pe_meth (hs := [[833], [], [], [], [], [], [], [], [], [], [], [], [864], [], [980], []]) (by decide +kernel)
theorem tk_X9_count : ∀ en ∈ gm_X9_count, pe_ok mt_X9_count en := pe_cut 40 tk_X9_count_0 (pe_cut 40 tk_X9_count_1 (tk_X9_count_2))
theorem tk_X9_status : ∀ en ∈ gm_X9_status, pe_ok mt_X9_status en := pe_all_ok pe_meth (es := gm_X9_status) (hs := [[], [], [834], [], [835], []]) (by decide +kernel)
theorem tk_J6_bitCount_0f7a4 : ∀ en ∈ gm_J6_bitCount_0f7a4, pe_ok mt_J6_bitCount_0f7a4 en := pe_all_ok pe_meth (es := gm_J6_bitCount_0f7a4) (hs := [[], [], [], [], [592], [], [], [], [], [593], [], [], [], [], [593], [], [], [], [], [], [], [], [], [594], [], [], [], [], [], [], [], [], [], [], [], [], [], [], [], [], [], []]) (by decide +kernel)
theorem tk_J0_length_8abf5 : ∀ en ∈ gm_J0_length_8abf5, pe_ok mt_J0_length_8abf5 en := pe_all_ok pe_meth (es := gm_J0_length_8abf5) (hs := [[], [1257], [], [], [416, 417, 418], [], []]) (by decide +kernel)
theorem tk_J0_charAt_5068e : ∀ en ∈ gm_J0_charAt_5068e, pe_ok mt_J0_charAt_5068e en := pe_all_ok pe_meth (es := gm_J0_charAt_5068e) (hs := [[], [426, 427, 428], [], [], [1257], [], [430, 431], [], [], [1257], [], [], []]) (by decide +kernel)
theorem tk_J0_coder_7d493 : ∀ en ∈ gm_J0_coder_7d493, pe_ok mt_J0_coder_7d493 en := pe_all_ok pe_meth (es := gm_J0_coder_7d493) (hs := [[420], [], [], [1258], [], [], []]) (by decide +kernel)
theorem tk_J0_isLatin1_aae02 : ∀ en ∈ gm_J0_isLatin1_aae02, pe_ok mt_J0_isLatin1_aae02 en := pe_all_ok pe_meth (es := gm_J0_isLatin1_aae02) (hs := [[420], [], [], [1258], [], [], [], [], []]) (by decide +kernel)
theorem tk_J0_checkIndex_df160 : ∀ en ∈ gm_J0_checkIndex_df160, pe_ok mt_J0_checkIndex_df160 en := pe_all_ok pe_meth (es := gm_J0_checkIndex_df160) (hs := [[], [], [436], [438, 439], [], []]) (by decide +kernel)
theorem tk_J1_charAt_3b067 : ∀ en ∈ gm_J1_charAt_3b067, pe_ok mt_J1_charAt_3b067 en := pe_all_ok pe_meth (es := gm_J1_charAt_3b067) (hs := [[], [], [], [433, 434], [], [], [], [], [], [], []]) (by decide +kernel)
theorem tk_J3_checkIndex_8e157 : ∀ en ∈ gm_J3_checkIndex_8e157, pe_ok mt_J3_checkIndex_8e157 en := pe_all_ok pe_meth (es := gm_J3_checkIndex_8e157) (hs := [[], [], [], [], [], [], [], [], [], [], [], []]) (by decide +kernel)
theorem tk_L_law_0 : ∀ en ∈ (List.take 40 (gm_L_law)), pe_ok mt_L_law en := pe_all_ok pe_meth (hs := [[65, 66, 49], [], [67, 68], [], [827, 828, 58], [], [829, 830], [], [], [], [], [], [], [], [], [], [], [], [], [], [], [], [], [], [], [], [], [], [], [], [], [], [], [], [], [], [], [], [332, 333, 334], []]) (by decide +kernel)
theorem tk_L_law_1 : ∀ en ∈ (List.take 40 (List.drop 40 (gm_L_law))), pe_ok mt_L_law en := pe_all_ok pe_meth (hs := [[], [], [], [], [], [], [], [], [], [], [], [], [], [], [], [968, 969, 970], [], [], [], [], [], [], [], [], [], [], [], [], [], [], [], [], [], [], [], [353, 354, 355], [], [], [], []]) (by decide +kernel)
theorem tk_L_law_2 : ∀ en ∈ (List.take 40 (List.drop 40 (List.drop 40 (gm_L_law)))), pe_ok mt_L_law en := pe_all_ok pe_meth (hs := [[], [], [], [], [], [], [], [], [], [], [], [], [986, 987, 988], [], [], [], [], [], [], [], [], [], [], [], [], [], [], [], [], [], [], [], [], [], [], [], [], [], [], []]) (by decide +kernel)
theorem tk_L_law_3 : ∀ en ∈ (List.take 40 (List.drop 40 (List.drop 40 (List.drop 40 (gm_L_law))))), pe_ok mt_L_law en := pe_all_ok pe_meth (hs := [[], [], [361, 362, 363], [], [], [], [], [], [], [], [], [], [], [], [], [], [], [], [], [], [], [], [], [], [], [], [], [], [], [990, 991, 992], [], [], [], [], [], [], [], [], [], [372, 373, 374]]) (by decide +kernel)
theorem tk_L_law_4 : ∀ en ∈ (List.take 40 (List.drop 40 (List.drop 40 (List.drop 40 (List.drop 40 (gm_L_law)))))), pe_ok mt_L_law en := pe_all_ok pe_meth (hs := [[], [], [], [], [], [], [994, 995, 996], [], [], [], [], [], [], [], [], [], [], [], [], [], [], [], [], [], [], [1256], [], [], [], [], [], [], [], [376, 377, 378], [], [], [], [], [], []]) (by decide +kernel)
theorem tk_L_law_5 : ∀ en ∈ (List.take 40 (List.drop 40 (List.drop 40 (List.drop 40 (List.drop 40 (List.drop 40 (gm_L_law))))))), pe_ok mt_L_law en := pe_all_ok pe_meth (hs := [[], [], [], [], [], [], [], [], [], [1256], [], [], [], [], [], [], [], [998, 999, 1000], [], [], [], [], [381, 382, 383], [], [1005, 1006, 1007], [], [], [], [], [599, 600, 601], [], [1075, 1076, 1077], [], [], [], [], [], [], [], []]) (by decide +kernel)
theorem tk_L_law_6 : ∀ en ∈ (List.take 40 (List.drop 40 (List.drop 40 (List.drop 40 (List.drop 40 (List.drop 40 (List.drop 40 (gm_L_law)))))))), pe_ok mt_L_law en := pe_all_ok pe_meth (hs := [[], [603, 604, 605], [], [], [], [], [], [], [1079, 1080, 1081], [], [], [], [], [], [], [], [], [], [], [], [], [], [], [], [], [], [], [], [], [], [], [], [], [], [], [], [], [], [607, 608, 609], []]) (by decide +kernel)
theorem tk_L_law_7 : ∀ en ∈ (List.take 40 (List.drop 40 (List.drop 40 (List.drop 40 (List.drop 40 (List.drop 40 (List.drop 40 (List.drop 40 (gm_L_law))))))))), pe_ok mt_L_law en := pe_all_ok pe_meth (hs := [[], [], [], [], [], [], [], [], [], [], [], [], [], [], [], [], [], [], [], [], [], [], [], [], [], [1087, 1088, 1089], [], [], [], [], [], [], [], [], [], [], [], [], [], []]) (by decide +kernel)
theorem tk_L_law_8 : ∀ en ∈ (List.take 40 (List.drop 40 (List.drop 40 (List.drop 40 (List.drop 40 (List.drop 40 (List.drop 40 (List.drop 40 (List.drop 40 (gm_L_law)))))))))), pe_ok mt_L_law en := pe_all_ok pe_meth (hs := [[626, 627, 628], [], [], [], [], [], [], [], [], [], [], [], [1103, 1104, 1105], [], [], [], [], [], [], [], [], [], [], [], [], [], [], [], [], [], [], [], [634, 635, 636], [], [], [], [], [], [], []]) (by decide +kernel)
theorem tk_L_law_9 : ∀ en ∈ (List.take 40 (List.drop 40 (List.drop 40 (List.drop 40 (List.drop 40 (List.drop 40 (List.drop 40 (List.drop 40 (List.drop 40 (List.drop 40 (gm_L_law))))))))))), pe_ok mt_L_law en := pe_all_ok pe_meth (hs := [[], [], [], [], [], [], [], [], [], [1111, 1112, 1113], [], [], [], [], [], [], [], [], [], [], [], [], [], [], [], [], [], [], [], [], [], [], [], [], [], [], [], [], [], []]) (by decide +kernel)
theorem tk_L_law_10 : ∀ en ∈ (List.take 40 (List.drop 40 (List.drop 40 (List.drop 40 (List.drop 40 (List.drop 40 (List.drop 40 (List.drop 40 (List.drop 40 (List.drop 40 (List.drop 40 (gm_L_law)))))))))))), pe_ok mt_L_law en := pe_all_ok pe_meth (hs := [[], [], [], [], [642, 643, 644], [], [], [], [], [], [], [], [], [], [], [], [], [], [], [], [], [], [], [], [], [], [], [], [], [], [], [], [], [], [], [], [1127, 1128, 1129], [], [], []]) (by decide +kernel)
theorem tk_L_law_11 : ∀ en ∈ (List.take 40 (List.drop 40 (List.drop 40 (List.drop 40 (List.drop 40 (List.drop 40 (List.drop 40 (List.drop 40 (List.drop 40 (List.drop 40 (List.drop 40 (List.drop 40 (gm_L_law))))))))))))), pe_ok mt_L_law en := pe_all_ok pe_meth (hs := [[], [], [], [], [], [], [], [], [], [], [], [], [], [], [], [], [], [], [], [], [], [654, 655, 656], [], [], [], [], [], [], [], [], [], [], [], [], [], [], [], [], [], []]) (by decide +kernel)
theorem tk_L_law_12 : ∀ en ∈ (List.take 40 (List.drop 40 (List.drop 40 (List.drop 40 (List.drop 40 (List.drop 40 (List.drop 40 (List.drop 40 (List.drop 40 (List.drop 40 (List.drop 40 (List.drop 40 (List.drop 40 (gm_L_law)))))))))))))), pe_ok mt_L_law en := pe_all_ok pe_meth (hs := [[], [], [], [1135, 1136, 1137], [], [], [], [], [], [], [], [], [], [], [], [], [], [], [661, 662, 663], [], [], [], [], [], [], [], [], [], [], [], [1141, 1142, 1143], [], [], [], [], [], [], [], [], []]) (by decide +kernel)
theorem tk_L_law_13 : ∀ en ∈ (List.take 40 (List.drop 40 (List.drop 40 (List.drop 40 (List.drop 40 (List.drop 40 (List.drop 40 (List.drop 40 (List.drop 40 (List.drop 40 (List.drop 40 (List.drop 40 (List.drop 40 (List.drop 40 (gm_L_law))))))))))))))), pe_ok mt_L_law en := pe_all_ok pe_meth (hs := [[666, 667, 668], [], [], [], [], [], [], [1146, 1147, 1148], [], [], [], [], [], [], [], [], [], [], [], [], [], [], [], [], [], [], [], [670, 671, 672], [], [], [], [], [], [], [], [], [], [], [], []]) (by decide +kernel)
theorem tk_L_law_14 : ∀ en ∈ (List.take 40 (List.drop 40 (List.drop 40 (List.drop 40 (List.drop 40 (List.drop 40 (List.drop 40 (List.drop 40 (List.drop 40 (List.drop 40 (List.drop 40 (List.drop 40 (List.drop 40 (List.drop 40 (List.drop 40 (gm_L_law)))))))))))))))), pe_ok mt_L_law en := pe_all_ok pe_meth (hs := [[], [], [], [], [1158, 1159, 1160], [], [], [], [], [], [], [], [], [], [674, 675, 676], [], [], [], [], [], [], [1166, 1167, 1168], [], [], [], [], [], [], [], [], [], [], [], [], [], [], [678, 679, 680], [], [], []]) (by decide +kernel)
theorem tk_L_law_15 : ∀ en ∈ (List.take 40 (List.drop 40 (List.drop 40 (List.drop 40 (List.drop 40 (List.drop 40 (List.drop 40 (List.drop 40 (List.drop 40 (List.drop 40 (List.drop 40 (List.drop 40 (List.drop 40 (List.drop 40 (List.drop 40 (List.drop 40 (gm_L_law))))))))))))))))), pe_ok mt_L_law en := pe_all_ok pe_meth (hs := [[], [], [], [], [], [], [], [], [1170, 1171, 1172], [], [], [], [], [], [], [], [], [], [], [], [], [], [], [], [], [], [], [], [699, 700, 701], [], [], [], [], [], [], [], [], [], [], []]) (by decide +kernel)
theorem tk_L_law_16 : ∀ en ∈ (List.take 40 (List.drop 40 (List.drop 40 (List.drop 40 (List.drop 40 (List.drop 40 (List.drop 40 (List.drop 40 (List.drop 40 (List.drop 40 (List.drop 40 (List.drop 40 (List.drop 40 (List.drop 40 (List.drop 40 (List.drop 40 (List.drop 40 (gm_L_law)))))))))))))))))), pe_ok mt_L_law en := pe_all_ok pe_meth (hs := [[], [], [], [], [], [1186, 1187, 1188], [], [], [], [], [], [], [], [], [], [724, 725, 726], [], [], [], [], [], [], [1193, 1194, 1195], [], [], [], [], [], [], [], [], [], [731, 732, 733], [], [], [], [], [], [], [1197, 1198, 1199]]) (by decide +kernel)
theorem tk_L_law_17 : ∀ en ∈ (List.take 40 (List.drop 40 (List.drop 40 (List.drop 40 (List.drop 40 (List.drop 40 (List.drop 40 (List.drop 40 (List.drop 40 (List.drop 40 (List.drop 40 (List.drop 40 (List.drop 40 (List.drop 40 (List.drop 40 (List.drop 40 (List.drop 40 (List.drop 40 (gm_L_law))))))))))))))))))), pe_ok mt_L_law en := pe_all_ok pe_meth (hs := [[], [], [], [], [], [], [], [], [], [], [], [], [], [], [740, 741, 742], [], [], [], [], [], [], [], [], [], [], [], [1205, 1206, 1207], [], [], [], [], [], [], [], [], [], [], [], [], []]) (by decide +kernel)
theorem tk_L_law_18 : ∀ en ∈ (List.take 40 (List.drop 40 (List.drop 40 (List.drop 40 (List.drop 40 (List.drop 40 (List.drop 40 (List.drop 40 (List.drop 40 (List.drop 40 (List.drop 40 (List.drop 40 (List.drop 40 (List.drop 40 (List.drop 40 (List.drop 40 (List.drop 40 (List.drop 40 (List.drop 40 (gm_L_law)))))))))))))))))))), pe_ok mt_L_law en := pe_all_ok pe_meth (hs := [[], [746, 747, 748], [], [], [], [], [], [], [], [], [], [], [], [1213, 1214, 1215], [], [], [], [], [], [], [], [], [], [798, 799, 800], [], [], [], [], [], [], [1240, 1241, 1242], [], [], [], [], [], [], [], [], []]) (by decide +kernel)
theorem tk_L_law_19 : ∀ en ∈ (List.drop 40 (List.drop 40 (List.drop 40 (List.drop 40 (List.drop 40 (List.drop 40 (List.drop 40 (List.drop 40 (List.drop 40 (List.drop 40 (List.drop 40 (List.drop 40 (List.drop 40 (List.drop 40 (List.drop 40 (List.drop 40 (List.drop 40 (List.drop 40 (List.drop 40 (gm_L_law)))))))))))))))))))), pe_ok mt_L_law en := pe_all_ok pe_meth (hs := [[802, 803, 804], [], [], [], [], [], [], [1244, 1245, 1246], [], [], [], [], [823, 824, 825], [], [1252, 1253, 1254], [], [], [], [], [], [], []]) (by decide +kernel)
theorem tk_L_law : ∀ en ∈ gm_L_law, pe_ok mt_L_law en := pe_cut 40 tk_L_law_0 (pe_cut 40 tk_L_law_1 (pe_cut 40 tk_L_law_2 (pe_cut 40 tk_L_law_3 (pe_cut 40 tk_L_law_4 (pe_cut 40 tk_L_law_5 (pe_cut 40 tk_L_law_6 (pe_cut 40 tk_L_law_7 (pe_cut 40 tk_L_law_8 (pe_cut 40 tk_L_law_9 (pe_cut 40 tk_L_law_10 (pe_cut 40 tk_L_law_11 (pe_cut 40 tk_L_law_12 (pe_cut 40 tk_L_law_13 (pe_cut 40 tk_L_law_14 (pe_cut 40 tk_L_law_15 (pe_cut 40 tk_L_law_16 (pe_cut 40 tk_L_law_17 (pe_cut 40 tk_L_law_18 (tk_L_law_19)))))))))))))))))))
end
section
theorem tg_0 : ∀ G ∈ ([mt_X0_init, mt_X1_init, mt_X1_isThere, mt_X1_standing, mt_X1_leastBroken, mt_X1_measureWaysTo, mt_X1_reach, mt_X1_spread, mt_X1_stepsFrom, mt_X1_firstFrom, mt_X2_init, mt_X2_become, mt_X3_init, mt_X3_place, mt_X3_readText, mt_X3_readEdition] : List pm_T), ∀ en ∈ G.2.2.2.2.2.2, pe_ok G en := List.forall_mem_cons.mpr ⟨tk_X0_init, List.forall_mem_cons.mpr ⟨tk_X1_init, List.forall_mem_cons.mpr ⟨tk_X1_isThere, List.forall_mem_cons.mpr ⟨tk_X1_standing, List.forall_mem_cons.mpr ⟨tk_X1_leastBroken, List.forall_mem_cons.mpr ⟨tk_X1_measureWaysTo, List.forall_mem_cons.mpr ⟨tk_X1_reach, List.forall_mem_cons.mpr ⟨tk_X1_spread, List.forall_mem_cons.mpr ⟨tk_X1_stepsFrom, List.forall_mem_cons.mpr ⟨tk_X1_firstFrom, List.forall_mem_cons.mpr ⟨tk_X2_init, List.forall_mem_cons.mpr ⟨tk_X2_become, List.forall_mem_cons.mpr ⟨tk_X3_init, List.forall_mem_cons.mpr ⟨tk_X3_place, List.forall_mem_cons.mpr ⟨tk_X3_readText, List.forall_mem_cons.mpr ⟨tk_X3_readEdition, fun _ h => absurd h List.not_mem_nil⟩⟩⟩⟩⟩⟩⟩⟩⟩⟩⟩⟩⟩⟩⟩⟩
theorem tg_16 : ∀ G ∈ ([mt_X3_readRule, mt_X3_answerBy, mt_X3_readAnswer, mt_X3_takesRefuse, mt_X3_readSaying, mt_X3_readThen, mt_X3_readField, mt_X3_readTry, mt_X3_readWithin, mt_X3_isNumber, mt_X3_look, mt_X3_number, mt_X3_fresh, mt_X3_take, mt_X4_init, mt_X5_init] : List pm_T), ∀ en ∈ G.2.2.2.2.2.2, pe_ok G en := List.forall_mem_cons.mpr ⟨tk_X3_readRule, List.forall_mem_cons.mpr ⟨tk_X3_answerBy, List.forall_mem_cons.mpr ⟨tk_X3_readAnswer, List.forall_mem_cons.mpr ⟨tk_X3_takesRefuse, List.forall_mem_cons.mpr ⟨tk_X3_readSaying, List.forall_mem_cons.mpr ⟨tk_X3_readThen, List.forall_mem_cons.mpr ⟨tk_X3_readField, List.forall_mem_cons.mpr ⟨tk_X3_readTry, List.forall_mem_cons.mpr ⟨tk_X3_readWithin, List.forall_mem_cons.mpr ⟨tk_X3_isNumber, List.forall_mem_cons.mpr ⟨tk_X3_look, List.forall_mem_cons.mpr ⟨tk_X3_number, List.forall_mem_cons.mpr ⟨tk_X3_fresh, List.forall_mem_cons.mpr ⟨tk_X3_take, List.forall_mem_cons.mpr ⟨tk_X4_init, List.forall_mem_cons.mpr ⟨tk_X5_init, fun _ h => absurd h List.not_mem_nil⟩⟩⟩⟩⟩⟩⟩⟩⟩⟩⟩⟩⟩⟩⟩⟩
theorem tg_32 : ∀ G ∈ ([mt_X5_begin, mt_X5_cut, mt_X5_reaches, mt_X6_init, mt_X6_split, mt_X6_endOfToken, mt_X6_tokenOf, mt_X6_numberOf, mt_X6_wordOf, mt_X6_spells, mt_X6_isLetter, mt_X6_isFigure, mt_X7_init, mt_X7_hasSaying, mt_X7_hasEdition, mt_X7_editionOf] : List pm_T), ∀ en ∈ G.2.2.2.2.2.2, pe_ok G en := List.forall_mem_cons.mpr ⟨tk_X5_begin, List.forall_mem_cons.mpr ⟨tk_X5_cut, List.forall_mem_cons.mpr ⟨tk_X5_reaches, List.forall_mem_cons.mpr ⟨tk_X6_init, List.forall_mem_cons.mpr ⟨tk_X6_split, List.forall_mem_cons.mpr ⟨tk_X6_endOfToken, List.forall_mem_cons.mpr ⟨tk_X6_tokenOf, List.forall_mem_cons.mpr ⟨tk_X6_numberOf, List.forall_mem_cons.mpr ⟨tk_X6_wordOf, List.forall_mem_cons.mpr ⟨tk_X6_spells, List.forall_mem_cons.mpr ⟨tk_X6_isLetter, List.forall_mem_cons.mpr ⟨tk_X6_isFigure, List.forall_mem_cons.mpr ⟨tk_X7_init, List.forall_mem_cons.mpr ⟨tk_X7_hasSaying, List.forall_mem_cons.mpr ⟨tk_X7_hasEdition, List.forall_mem_cons.mpr ⟨tk_X7_editionOf, fun _ h => absurd h List.not_mem_nil⟩⟩⟩⟩⟩⟩⟩⟩⟩⟩⟩⟩⟩⟩⟩⟩
theorem tg_48 : ∀ G ∈ ([mt_X7_settle, mt_X7_keptBy, mt_X7_leastQuarrel, mt_X7_sharesGiver, mt_X7_leastThird, mt_X7_standIns, mt_X7_kindOf, mt_X7_countEditions, mt_X7_countKept, mt_X7_countWithin, mt_X8_init, mt_X8_sheet, mt_X8_set, mt_X8_copy, mt_X8_drop, mt_X8_feed] : List pm_T), ∀ en ∈ G.2.2.2.2.2.2, pe_ok G en := List.forall_mem_cons.mpr ⟨tk_X7_settle, List.forall_mem_cons.mpr ⟨tk_X7_keptBy, List.forall_mem_cons.mpr ⟨tk_X7_leastQuarrel, List.forall_mem_cons.mpr ⟨tk_X7_sharesGiver, List.forall_mem_cons.mpr ⟨tk_X7_leastThird, List.forall_mem_cons.mpr ⟨tk_X7_standIns, List.forall_mem_cons.mpr ⟨tk_X7_kindOf, List.forall_mem_cons.mpr ⟨tk_X7_countEditions, List.forall_mem_cons.mpr ⟨tk_X7_countKept, List.forall_mem_cons.mpr ⟨tk_X7_countWithin, List.forall_mem_cons.mpr ⟨tk_X8_init, List.forall_mem_cons.mpr ⟨tk_X8_sheet, List.forall_mem_cons.mpr ⟨tk_X8_set, List.forall_mem_cons.mpr ⟨tk_X8_copy, List.forall_mem_cons.mpr ⟨tk_X8_drop, List.forall_mem_cons.mpr ⟨tk_X8_feed, fun _ h => absurd h List.not_mem_nil⟩⟩⟩⟩⟩⟩⟩⟩⟩⟩⟩⟩⟩⟩⟩⟩
theorem tg_64 : ∀ G ∈ ([mt_X8_laws, mt_X8_fault, mt_X8_editions, mt_X8_answer, mt_X8_saying, mt_X8_play, mt_X8_standIn, mt_X8_allows, mt_X8_noMore, mt_X8_quarrel, mt_X8_change, mt_X8_right, mt_X8_house, mt_X8_letOut, mt_X8_hours, mt_X8_kind] : List pm_T), ∀ en ∈ G.2.2.2.2.2.2, pe_ok G en := List.forall_mem_cons.mpr ⟨tk_X8_laws, List.forall_mem_cons.mpr ⟨tk_X8_fault, List.forall_mem_cons.mpr ⟨tk_X8_editions, List.forall_mem_cons.mpr ⟨tk_X8_answer, List.forall_mem_cons.mpr ⟨tk_X8_saying, List.forall_mem_cons.mpr ⟨tk_X8_play, List.forall_mem_cons.mpr ⟨tk_X8_standIn, List.forall_mem_cons.mpr ⟨tk_X8_allows, List.forall_mem_cons.mpr ⟨tk_X8_noMore, List.forall_mem_cons.mpr ⟨tk_X8_quarrel, List.forall_mem_cons.mpr ⟨tk_X8_change, List.forall_mem_cons.mpr ⟨tk_X8_right, List.forall_mem_cons.mpr ⟨tk_X8_house, List.forall_mem_cons.mpr ⟨tk_X8_letOut, List.forall_mem_cons.mpr ⟨tk_X8_hours, List.forall_mem_cons.mpr ⟨tk_X8_kind, fun _ h => absurd h List.not_mem_nil⟩⟩⟩⟩⟩⟩⟩⟩⟩⟩⟩⟩⟩⟩⟩⟩
theorem tg_80 : ∀ G ∈ ([mt_X8_as, mt_X8_ask, mt_X8_trace, mt_X8_count, mt_X8_status, mt_X8_found, mt_X8_well, mt_X8_countSheets, mt_X8_isBelow, mt_X8_isCase, mt_X8_caseOf, mt_X8_casesOf, mt_X8_isWithin, mt_X8_addHours, mt_X8_fieldOf, mt_X8_answerOf] : List pm_T), ∀ en ∈ G.2.2.2.2.2.2, pe_ok G en := List.forall_mem_cons.mpr ⟨tk_X8_as, List.forall_mem_cons.mpr ⟨tk_X8_ask, List.forall_mem_cons.mpr ⟨tk_X8_trace, List.forall_mem_cons.mpr ⟨tk_X8_count, List.forall_mem_cons.mpr ⟨tk_X8_status, List.forall_mem_cons.mpr ⟨tk_X8_found, List.forall_mem_cons.mpr ⟨tk_X8_well, List.forall_mem_cons.mpr ⟨tk_X8_countSheets, List.forall_mem_cons.mpr ⟨tk_X8_isBelow, List.forall_mem_cons.mpr ⟨tk_X8_isCase, List.forall_mem_cons.mpr ⟨tk_X8_caseOf, List.forall_mem_cons.mpr ⟨tk_X8_casesOf, List.forall_mem_cons.mpr ⟨tk_X8_isWithin, List.forall_mem_cons.mpr ⟨tk_X8_addHours, List.forall_mem_cons.mpr ⟨tk_X8_fieldOf, List.forall_mem_cons.mpr ⟨tk_X8_answerOf, fun _ h => absurd h List.not_mem_nil⟩⟩⟩⟩⟩⟩⟩⟩⟩⟩⟩⟩⟩⟩⟩⟩
theorem tg_96 : ∀ G ∈ ([mt_X8_countGiven, mt_X8_nthGiven, mt_X8_nthBit, mt_X8_hasNone, mt_X8_firstBroken, mt_X8_wrongField, mt_X8_leave, mt_X8_askSize, mt_X8_askMark, mt_X8_sizeLent, mt_X8_sizeOfGiven, mt_X8_sizeOfBefore, mt_X8_sizeOfRefuses, mt_X8_sizeOfQuarrel, mt_X8_markLent, mt_X8_markOfGiven] : List pm_T), ∀ en ∈ G.2.2.2.2.2.2, pe_ok G en := List.forall_mem_cons.mpr ⟨tk_X8_countGiven, List.forall_mem_cons.mpr ⟨tk_X8_nthGiven, List.forall_mem_cons.mpr ⟨tk_X8_nthBit, List.forall_mem_cons.mpr ⟨tk_X8_hasNone, List.forall_mem_cons.mpr ⟨tk_X8_firstBroken, List.forall_mem_cons.mpr ⟨tk_X8_wrongField, List.forall_mem_cons.mpr ⟨tk_X8_leave, List.forall_mem_cons.mpr ⟨tk_X8_askSize, List.forall_mem_cons.mpr ⟨tk_X8_askMark, List.forall_mem_cons.mpr ⟨tk_X8_sizeLent, List.forall_mem_cons.mpr ⟨tk_X8_sizeOfGiven, List.forall_mem_cons.mpr ⟨tk_X8_sizeOfBefore, List.forall_mem_cons.mpr ⟨tk_X8_sizeOfRefuses, List.forall_mem_cons.mpr ⟨tk_X8_sizeOfQuarrel, List.forall_mem_cons.mpr ⟨tk_X8_markLent, List.forall_mem_cons.mpr ⟨tk_X8_markOfGiven, fun _ h => absurd h List.not_mem_nil⟩⟩⟩⟩⟩⟩⟩⟩⟩⟩⟩⟩⟩⟩⟩⟩
theorem tg_112 : ∀ G ∈ ([mt_X8_markOfLoose, mt_X8_markOfQuarrel, mt_X9_init, mt_X9_in, mt_X9_finding, mt_X9_isSheet, mt_X9_sheet, mt_X9_set, mt_X9_copy, mt_X9_drop, mt_X9_feed, mt_X9_byteAt, mt_X9_isLetter, mt_X9_isFigure, mt_X9_next, mt_X9_bad] : List pm_T), ∀ en ∈ G.2.2.2.2.2.2, pe_ok G en := List.forall_mem_cons.mpr ⟨tk_X8_markOfLoose, List.forall_mem_cons.mpr ⟨tk_X8_markOfQuarrel, List.forall_mem_cons.mpr ⟨tk_X9_init, List.forall_mem_cons.mpr ⟨tk_X9_in, List.forall_mem_cons.mpr ⟨tk_X9_finding, List.forall_mem_cons.mpr ⟨tk_X9_isSheet, List.forall_mem_cons.mpr ⟨tk_X9_sheet, List.forall_mem_cons.mpr ⟨tk_X9_set, List.forall_mem_cons.mpr ⟨tk_X9_copy, List.forall_mem_cons.mpr ⟨tk_X9_drop, List.forall_mem_cons.mpr ⟨tk_X9_feed, List.forall_mem_cons.mpr ⟨tk_X9_byteAt, List.forall_mem_cons.mpr ⟨tk_X9_isLetter, List.forall_mem_cons.mpr ⟨tk_X9_isFigure, List.forall_mem_cons.mpr ⟨tk_X9_next, List.forall_mem_cons.mpr ⟨tk_X9_bad, fun _ h => absurd h List.not_mem_nil⟩⟩⟩⟩⟩⟩⟩⟩⟩⟩⟩⟩⟩⟩⟩⟩
theorem tg_128 : ∀ G ∈ ([mt_X9_must, mt_X9_word, mt_X9_numberHere, mt_X9_numberIn, mt_X9_mustRefuseOrGive, mt_X9_readRule, mt_X9_readEdition, mt_X9_readSaying, mt_X9_readWithin, mt_X9_readOne, mt_X9_laws, mt_X9_fault, mt_X9_isService, mt_X9_isEdition, mt_X9_isSaying, mt_X9_editions] : List pm_T), ∀ en ∈ G.2.2.2.2.2.2, pe_ok G en := List.forall_mem_cons.mpr ⟨tk_X9_must, List.forall_mem_cons.mpr ⟨tk_X9_word, List.forall_mem_cons.mpr ⟨tk_X9_numberHere, List.forall_mem_cons.mpr ⟨tk_X9_numberIn, List.forall_mem_cons.mpr ⟨tk_X9_mustRefuseOrGive, List.forall_mem_cons.mpr ⟨tk_X9_readRule, List.forall_mem_cons.mpr ⟨tk_X9_readEdition, List.forall_mem_cons.mpr ⟨tk_X9_readSaying, List.forall_mem_cons.mpr ⟨tk_X9_readWithin, List.forall_mem_cons.mpr ⟨tk_X9_readOne, List.forall_mem_cons.mpr ⟨tk_X9_laws, List.forall_mem_cons.mpr ⟨tk_X9_fault, List.forall_mem_cons.mpr ⟨tk_X9_isService, List.forall_mem_cons.mpr ⟨tk_X9_isEdition, List.forall_mem_cons.mpr ⟨tk_X9_isSaying, List.forall_mem_cons.mpr ⟨tk_X9_editions, fun _ h => absurd h List.not_mem_nil⟩⟩⟩⟩⟩⟩⟩⟩⟩⟩⟩⟩⟩⟩⟩⟩
theorem tg_144 : ∀ G ∈ ([mt_X9_answerOf, mt_X9_fieldIn, mt_X9_answer, mt_X9_saying, mt_X9_isAbout, mt_X9_wrongIn, mt_X9_breaks, mt_X9_isKept, mt_X9_play, mt_X9_isAllowedByAll, mt_X9_standIn, mt_X9_allows, mt_X9_noMore, mt_X9_doQuarrel, mt_X9_quarrelOf, mt_X9_quarrel] : List pm_T), ∀ en ∈ G.2.2.2.2.2.2, pe_ok G en := List.forall_mem_cons.mpr ⟨tk_X9_answerOf, List.forall_mem_cons.mpr ⟨tk_X9_fieldIn, List.forall_mem_cons.mpr ⟨tk_X9_answer, List.forall_mem_cons.mpr ⟨tk_X9_saying, List.forall_mem_cons.mpr ⟨tk_X9_isAbout, List.forall_mem_cons.mpr ⟨tk_X9_wrongIn, List.forall_mem_cons.mpr ⟨tk_X9_breaks, List.forall_mem_cons.mpr ⟨tk_X9_isKept, List.forall_mem_cons.mpr ⟨tk_X9_play, List.forall_mem_cons.mpr ⟨tk_X9_isAllowedByAll, List.forall_mem_cons.mpr ⟨tk_X9_standIn, List.forall_mem_cons.mpr ⟨tk_X9_allows, List.forall_mem_cons.mpr ⟨tk_X9_noMore, List.forall_mem_cons.mpr ⟨tk_X9_doQuarrel, List.forall_mem_cons.mpr ⟨tk_X9_quarrelOf, List.forall_mem_cons.mpr ⟨tk_X9_quarrel, fun _ h => absurd h List.not_mem_nil⟩⟩⟩⟩⟩⟩⟩⟩⟩⟩⟩⟩⟩⟩⟩⟩
theorem tg_160 : ∀ G ∈ ([mt_X9_change, mt_X9_right, mt_X9_figure, mt_X9_worth, mt_X9_isHouse, mt_X9_redOf, mt_X9_house, mt_X9_letOut, mt_X9_hours, mt_X9_bits, mt_X9_kindOf, mt_X9_isOf, mt_X9_kind, mt_X9_as, mt_X9_began, mt_X9_aboutHowMany] : List pm_T), ∀ en ∈ G.2.2.2.2.2.2, pe_ok G en := List.forall_mem_cons.mpr ⟨tk_X9_change, List.forall_mem_cons.mpr ⟨tk_X9_right, List.forall_mem_cons.mpr ⟨tk_X9_figure, List.forall_mem_cons.mpr ⟨tk_X9_worth, List.forall_mem_cons.mpr ⟨tk_X9_isHouse, List.forall_mem_cons.mpr ⟨tk_X9_redOf, List.forall_mem_cons.mpr ⟨tk_X9_house, List.forall_mem_cons.mpr ⟨tk_X9_letOut, List.forall_mem_cons.mpr ⟨tk_X9_hours, List.forall_mem_cons.mpr ⟨tk_X9_bits, List.forall_mem_cons.mpr ⟨tk_X9_kindOf, List.forall_mem_cons.mpr ⟨tk_X9_isOf, List.forall_mem_cons.mpr ⟨tk_X9_kind, List.forall_mem_cons.mpr ⟨tk_X9_as, List.forall_mem_cons.mpr ⟨tk_X9_began, List.forall_mem_cons.mpr ⟨tk_X9_aboutHowMany, fun _ h => absurd h List.not_mem_nil⟩⟩⟩⟩⟩⟩⟩⟩⟩⟩⟩⟩⟩⟩⟩⟩
theorem tg_176 : ∀ G ∈ ([mt_X9_givenSize, mt_X9_markOf, mt_X9_sizeOf, mt_X9_ask, mt_X9_trace, mt_X9_isKeptBySome, mt_X9_count, mt_X9_status, mt_J6_bitCount_0f7a4, mt_J0_length_8abf5, mt_J0_charAt_5068e, mt_J0_coder_7d493, mt_J0_isLatin1_aae02, mt_J0_checkIndex_df160, mt_J1_charAt_3b067, mt_J3_checkIndex_8e157] : List pm_T), ∀ en ∈ G.2.2.2.2.2.2, pe_ok G en := List.forall_mem_cons.mpr ⟨tk_X9_givenSize, List.forall_mem_cons.mpr ⟨tk_X9_markOf, List.forall_mem_cons.mpr ⟨tk_X9_sizeOf, List.forall_mem_cons.mpr ⟨tk_X9_ask, List.forall_mem_cons.mpr ⟨tk_X9_trace, List.forall_mem_cons.mpr ⟨tk_X9_isKeptBySome, List.forall_mem_cons.mpr ⟨tk_X9_count, List.forall_mem_cons.mpr ⟨tk_X9_status, List.forall_mem_cons.mpr ⟨tk_J6_bitCount_0f7a4, List.forall_mem_cons.mpr ⟨tk_J0_length_8abf5, List.forall_mem_cons.mpr ⟨tk_J0_charAt_5068e, List.forall_mem_cons.mpr ⟨tk_J0_coder_7d493, List.forall_mem_cons.mpr ⟨tk_J0_isLatin1_aae02, List.forall_mem_cons.mpr ⟨tk_J0_checkIndex_df160, List.forall_mem_cons.mpr ⟨tk_J1_charAt_3b067, List.forall_mem_cons.mpr ⟨tk_J3_checkIndex_8e157, fun _ h => absurd h List.not_mem_nil⟩⟩⟩⟩⟩⟩⟩⟩⟩⟩⟩⟩⟩⟩⟩⟩
theorem tg_192 : ∀ G ∈ ([mt_L_law] : List pm_T), ∀ en ∈ G.2.2.2.2.2.2, pe_ok G en := List.forall_mem_cons.mpr ⟨tk_L_law, fun _ h => absurd h List.not_mem_nil⟩
set_option maxRecDepth 100000 in
theorem pm_tab_cut : pm_tab = [mt_X0_init, mt_X1_init, mt_X1_isThere, mt_X1_standing, mt_X1_leastBroken, mt_X1_measureWaysTo, mt_X1_reach, mt_X1_spread, mt_X1_stepsFrom, mt_X1_firstFrom, mt_X2_init, mt_X2_become, mt_X3_init, mt_X3_place, mt_X3_readText, mt_X3_readEdition] ++ ([mt_X3_readRule, mt_X3_answerBy, mt_X3_readAnswer, mt_X3_takesRefuse, mt_X3_readSaying, mt_X3_readThen, mt_X3_readField, mt_X3_readTry, mt_X3_readWithin, mt_X3_isNumber, mt_X3_look, mt_X3_number, mt_X3_fresh, mt_X3_take, mt_X4_init, mt_X5_init] ++ ([mt_X5_begin, mt_X5_cut, mt_X5_reaches, mt_X6_init, mt_X6_split, mt_X6_endOfToken, mt_X6_tokenOf, mt_X6_numberOf, mt_X6_wordOf, mt_X6_spells, mt_X6_isLetter, mt_X6_isFigure, mt_X7_init, mt_X7_hasSaying, mt_X7_hasEdition, mt_X7_editionOf] ++ ([mt_X7_settle, mt_X7_keptBy, mt_X7_leastQuarrel, mt_X7_sharesGiver, mt_X7_leastThird, mt_X7_standIns, mt_X7_kindOf, mt_X7_countEditions, mt_X7_countKept, mt_X7_countWithin, mt_X8_init, mt_X8_sheet, mt_X8_set, mt_X8_copy, mt_X8_drop, mt_X8_feed] ++ ([mt_X8_laws, mt_X8_fault, mt_X8_editions, mt_X8_answer, mt_X8_saying, mt_X8_play, mt_X8_standIn, mt_X8_allows, mt_X8_noMore, mt_X8_quarrel, mt_X8_change, mt_X8_right, mt_X8_house, mt_X8_letOut, mt_X8_hours, mt_X8_kind] ++ ([mt_X8_as, mt_X8_ask, mt_X8_trace, mt_X8_count, mt_X8_status, mt_X8_found, mt_X8_well, mt_X8_countSheets, mt_X8_isBelow, mt_X8_isCase, mt_X8_caseOf, mt_X8_casesOf, mt_X8_isWithin, mt_X8_addHours, mt_X8_fieldOf, mt_X8_answerOf] ++ ([mt_X8_countGiven, mt_X8_nthGiven, mt_X8_nthBit, mt_X8_hasNone, mt_X8_firstBroken, mt_X8_wrongField, mt_X8_leave, mt_X8_askSize, mt_X8_askMark, mt_X8_sizeLent, mt_X8_sizeOfGiven, mt_X8_sizeOfBefore, mt_X8_sizeOfRefuses, mt_X8_sizeOfQuarrel, mt_X8_markLent, mt_X8_markOfGiven] ++ ([mt_X8_markOfLoose, mt_X8_markOfQuarrel, mt_X9_init, mt_X9_in, mt_X9_finding, mt_X9_isSheet, mt_X9_sheet, mt_X9_set, mt_X9_copy, mt_X9_drop, mt_X9_feed, mt_X9_byteAt, mt_X9_isLetter, mt_X9_isFigure, mt_X9_next, mt_X9_bad] ++ ([mt_X9_must, mt_X9_word, mt_X9_numberHere, mt_X9_numberIn, mt_X9_mustRefuseOrGive, mt_X9_readRule, mt_X9_readEdition, mt_X9_readSaying, mt_X9_readWithin, mt_X9_readOne, mt_X9_laws, mt_X9_fault, mt_X9_isService, mt_X9_isEdition, mt_X9_isSaying, mt_X9_editions] ++ ([mt_X9_answerOf, mt_X9_fieldIn, mt_X9_answer, mt_X9_saying, mt_X9_isAbout, mt_X9_wrongIn, mt_X9_breaks, mt_X9_isKept, mt_X9_play, mt_X9_isAllowedByAll, mt_X9_standIn, mt_X9_allows, mt_X9_noMore, mt_X9_doQuarrel, mt_X9_quarrelOf, mt_X9_quarrel] ++ ([mt_X9_change, mt_X9_right, mt_X9_figure, mt_X9_worth, mt_X9_isHouse, mt_X9_redOf, mt_X9_house, mt_X9_letOut, mt_X9_hours, mt_X9_bits, mt_X9_kindOf, mt_X9_isOf, mt_X9_kind, mt_X9_as, mt_X9_began, mt_X9_aboutHowMany] ++ ([mt_X9_givenSize, mt_X9_markOf, mt_X9_sizeOf, mt_X9_ask, mt_X9_trace, mt_X9_isKeptBySome, mt_X9_count, mt_X9_status, mt_J6_bitCount_0f7a4, mt_J0_length_8abf5, mt_J0_charAt_5068e, mt_J0_coder_7d493, mt_J0_isLatin1_aae02, mt_J0_checkIndex_df160, mt_J1_charAt_3b067, mt_J3_checkIndex_8e157] ++ ([mt_L_law])))))))))))) := rfl
theorem pz_tab_ok : pz_tab := by
  have h : ∀ G ∈ pm_tab, ∀ en ∈ G.2.2.2.2.2.2, pe_ok G en := by
    rw [pm_tab_cut]
    exact List.forall_mem_append.mpr ⟨tg_0, List.forall_mem_append.mpr ⟨tg_16, List.forall_mem_append.mpr ⟨tg_32, List.forall_mem_append.mpr ⟨tg_48, List.forall_mem_append.mpr ⟨tg_64, List.forall_mem_append.mpr ⟨tg_80, List.forall_mem_append.mpr ⟨tg_96, List.forall_mem_append.mpr ⟨tg_112, List.forall_mem_append.mpr ⟨tg_128, List.forall_mem_append.mpr ⟨tg_144, List.forall_mem_append.mpr ⟨tg_160, List.forall_mem_append.mpr ⟨tg_176, tg_192⟩⟩⟩⟩⟩⟩⟩⟩⟩⟩⟩⟩
  intro m hm
  refine h (pm m) ?_
  unfold pm
  rw [List.getD_eq_getElem?_getD, List.getElem?_eq_getElem (show m < pm_tab.length from hm)]
  exact List.getElem_mem _
end
section
/-! WHAT A METHOD DOES, as a relation: pr_C d m As h r h': method number m, called on As with the heap h, answers r and leaves h', with calls at most d deep. -/
def pr_call (C : Nat → List Value → ph_T → Option Value → ph_T → Prop) (L : Nat) (e : pe_T) (s s' : ps_T) : Prop :=
  ∃ (As rest : List Value) (r : Option Value) (h' : ph_T), s.2.2.1 = As.reverse ++ rest ∧ As.length = (pm e.2.2.2.1).2.2.2.2.2.1 ∧ pk_sum rest ≤ 8 ∧ e.2.2.2.1 < 192 ∧
    ((∃ j, e.2.1 = .invokestatic j) ∨ (∃ (j b : Nat) (Bs : List Value), e.2.1 = .invokespecial j ∧ As = .ref b :: Bs) ∨ (∃ (j b : Nat) (Bs : List Value), e.2.1 = .invokevirtual j ∧ As = .ref b :: Bs ∧ (ps_sh L s.2.2.2 b).1 = e.2.2.2.2.toNat ∧ (b < 17 ∨ e.2.2.2.2.toNat < 20))) ∧
    C e.2.2.2.1 As s.2.2.2 r h' ∧ s' = (e.2.2.1, s.2.1, r.toList ++ rest, h')
def pr_S (C : Nat → List Value → ph_T → Option Value → ph_T → Prop) (L : Nat) (G : pm_T) (s s' : ps_T) : Prop :=
  (∃ ks, s' = (s.1, lv_pick s.2.1 ks, s.2.2.1, s.2.2.2)) ∨ ∃ e, pf G s.1 = some e ∧ (ps_step L e s = some s' ∨ pr_call C L e s s')
def pr_N (C : Nat → List Value → ph_T → Option Value → ph_T → Prop) (L : Nat) (G : pm_T) : Nat → ps_T → ps_T → Prop
  | 0 => fun s s' => s = s'
  | n + 1 => fun s s' => ∃ s1, pr_S C L G s s1 ∧ pr_N C L G n s1 s'
def pr_R (G : pm_T) (s : ps_T) (r : Option Value) : Prop :=
  ∃ e, pf G s.1 = some e ∧
    ((e.2.1 = .ireturn ∧ ∃ x ty, s.2.2.1 = [.int x] ∧ G.2.2.2.2.1 = some ty ∧ narrow ty (.int x) = .int x ∧ r = some (.int x)) ∨
     (e.2.1 = .lreturn ∧ ∃ x, s.2.2.1 = [.long x] ∧ G.2.2.2.2.1 = some .long ∧ r = some (.long x)) ∨
     (e.2.1 = .areturn ∧ ∃ (a : Nat) (n : String), s.2.2.1 = [.ref a] ∧ G.2.2.2.2.1 = some (.object n) ∧ r = some (.ref a)) ∨
     (e.2.1 = .return_ ∧ s.2.2.1 = [] ∧ G.2.2.2.2.1 = none ∧ r = none))
def pr_E (As : List Value) (h : ph_T) : ps_T := (0, lv_args 0 As, [], h)
def pr_C (L : Nat) : Nat → Nat → List Value → ph_T → Option Value → ph_T → Prop
  | 0 => fun _ _ _ _ _ => False
  | d + 1 => fun m As h r h' => pk_sum As ≤ (pm m).2.2.2.1 ∧ ∃ n s', pr_N (pr_C L d) L (pm m) n (pr_E As h) s' ∧ pr_R (pm m) s' r ∧ s'.2.2.2 = h'
/-- from the state s the method G comes to its end with r and h' -/
def pr_G (L d : Nat) (G : pm_T) (s : ps_T) (r : Option Value) (h' : ph_T) : Prop := ∃ n s', pr_N (pr_C L d) L G n s s' ∧ pr_R G s' r ∧ s'.2.2.2 = h'
theorem pr_N_mono {C C' : Nat → List Value → ph_T → Option Value → ph_T → Prop} (hC : ∀ m As h r h', C m As h r h' → C' m As h r h') {L : Nat} {G : pm_T} : ∀ (n : Nat) (s s' : ps_T), pr_N C L G n s s' → pr_N C' L G n s s' := by
  intro n
  induction n with
  | zero => intro s s' h; exact h
  | succ n ih =>
    intro s s' h
    obtain ⟨s1, hd | ⟨e, he, hs⟩, h2⟩ := h
    · exact ⟨s1, Or.inl hd, ih _ _ h2⟩
    refine ⟨s1, Or.inr ⟨e, he, ?_⟩, ih _ _ h2⟩
    rcases hs with hs | ⟨As, rest, r, h', a1, a2, a3, a4, a5, a6, a7⟩
    · exact Or.inl hs
    · exact Or.inr ⟨As, rest, r, h', a1, a2, a3, a4, a5, hC _ _ _ _ _ a6, a7⟩
theorem pr_C_up {L : Nat} : ∀ (d : Nat) (m : Nat) (As : List Value) (h : ph_T) (r : Option Value) (h' : ph_T), pr_C L d m As h r h' → pr_C L (d + 1) m As h r h' := by
  intro d
  induction d with
  | zero => intro m As h r h' q; exact q.elim
  | succ d ih =>
    intro m As h r h' q
    obtain ⟨hk, n, s', h1, h2⟩ := q
    exact ⟨hk, n, s', pr_N_mono ih _ _ _ h1, h2⟩
theorem pr_C_le {L d d' : Nat} (hd : d ≤ d') {m : Nat} {As : List Value} {h : ph_T} {r : Option Value} {h' : ph_T} (q : pr_C L d m As h r h') : pr_C L d' m As h r h' := by
  induction hd with
  | refl => exact q
  | step _ ih => exact pr_C_up _ _ _ _ _ _ ih
theorem pr_C.of {L d m : Nat} {G : pm_T} (hG : pm m = G) {As : List Value} {h : ph_T} {r : Option Value} {h' : ph_T} (hk : Nat.ble (pk_sum As) G.2.2.2.1 = true) (q : pr_G L d G (0, lv_args 0 As, [], h) r h') : pr_C L (d + 1) m As h r h' := by
  subst hG
  exact ⟨Nat.le_of_ble_eq_true hk, q⟩
section PG
variable {L d : Nat} {G : pm_T} {r : Option Value} {h' h : ph_T} {pc nx k : Nat} {v : Int} {lv lv' : List (Nat × Value)} {st : List Value} {x y : Int32}
theorem gs_step {e : pe_T} {s s1 : ps_T} (hf : pf G s.1 = some e) (hs : ps_step L e s = some s1) (q : pr_G L d G s1 r h') : pr_G L d G s r h' := by
  obtain ⟨n, s', h1, h2⟩ := q
  exact ⟨n + 1, s', ⟨s1, Or.inr ⟨e, hf, Or.inl hs⟩, h1⟩, h2⟩
theorem gs_drop (ks : List Nat) (hk : lv_pick lv ks = lv') (q : pr_G L d G (pc, lv', st, h) r h') : pr_G L d G (pc, lv, st, h) r h' := by
  subst hk
  obtain ⟨n, s', h1, h2⟩ := q
  exact ⟨n + 1, s', ⟨_, Or.inl ⟨ks, rfl⟩, h1⟩, h2⟩
theorem gs_iconst {z : Int} (hf : pf G pc = some (pc, .iconst z, nx, k, v)) (hx : Int32.ofInt z = x) (q : pr_G L d G (nx, lv, .int x :: st, h) r h') : pr_G L d G (pc, lv, st, h) r h' := by subst hx; exact gs_step hf rfl q
theorem gs_bipush {z : Int} (hf : pf G pc = some (pc, .bipush z, nx, k, v)) (hx : (Int8.ofInt z).toInt32 = x) (q : pr_G L d G (nx, lv, .int x :: st, h) r h') : pr_G L d G (pc, lv, st, h) r h' := by subst hx; exact gs_step hf rfl q
theorem gs_sipush {z : Int} (hf : pf G pc = some (pc, .sipush z, nx, k, v)) (hx : (Int16.ofInt z).toInt32 = x) (q : pr_G L d G (nx, lv, .int x :: st, h) r h') : pr_G L d G (pc, lv, st, h) r h' := by subst hx; exact gs_step hf rfl q
theorem gs_ldc {j : Nat} (hf : pf G pc = some (pc, .ldc j, nx, 0, v)) (hx : Int32.ofInt v = x) (q : pr_G L d G (nx, lv, .int x :: st, h) r h') : pr_G L d G (pc, lv, st, h) r h' := by subst hx; exact gs_step hf rfl q
theorem gs_ldcs {j a : Nat} (hf : pf G pc = some (pc, .ldc j, nx, 1, v)) (hx : v.toNat = a) (q : pr_G L d G (nx, lv, .ref a :: st, h) r h') : pr_G L d G (pc, lv, st, h) r h' := by subst hx; exact gs_step hf rfl q
theorem gs_ldc_w {j : Nat} (hf : pf G pc = some (pc, .ldc_w j, nx, k, v)) (hx : Int32.ofInt v = x) (q : pr_G L d G (nx, lv, .int x :: st, h) r h') : pr_G L d G (pc, lv, st, h) r h' := by subst hx; exact gs_step hf rfl q
theorem gs_lconst {z : Fin 2} {w : Int64} (hf : pf G pc = some (pc, .lconst z, nx, k, v)) (hx : Int64.ofNat (z : Nat) = w) (q : pr_G L d G (nx, lv, .long w :: st, h) r h') : pr_G L d G (pc, lv, st, h) r h' := by subst hx; exact gs_step hf rfl q
theorem gs_ldc2 {j : Nat} {w : Int64} (hf : pf G pc = some (pc, .ldc2_w j, nx, k, v)) (hx : Int64.ofInt v = w) (q : pr_G L d G (nx, lv, .long w :: st, h) r h') : pr_G L d G (pc, lv, st, h) r h' := by subst hx; exact gs_step hf rfl q
theorem gs_iload {j : Nat} (hf : pf G pc = some (pc, .iload j, nx, k, v)) (hg : pl_get lv j = some (.int x)) (q : pr_G L d G (nx, lv, .int x :: st, h) r h') : pr_G L d G (pc, lv, st, h) r h' := gs_step hf (by simp [ps_step, hg, pw_i]) q
theorem gs_iload_n {j : Fin 4} (hf : pf G pc = some (pc, .iload_n j, nx, k, v)) (hg : pl_get lv (j : Nat) = some (.int x)) (q : pr_G L d G (nx, lv, .int x :: st, h) r h') : pr_G L d G (pc, lv, st, h) r h' := gs_step hf (by simp [ps_step, hg, pw_i]) q
theorem gs_lload {j : Nat} {w : Int64} (hf : pf G pc = some (pc, .lload j, nx, k, v)) (hg : pl_get lv j = some (.long w)) (q : pr_G L d G (nx, lv, .long w :: st, h) r h') : pr_G L d G (pc, lv, st, h) r h' := gs_step hf (by simp [ps_step, hg, pw_l]) q
theorem gs_lload_n {j : Fin 4} {w : Int64} (hf : pf G pc = some (pc, .lload_n j, nx, k, v)) (hg : pl_get lv (j : Nat) = some (.long w)) (q : pr_G L d G (nx, lv, .long w :: st, h) r h') : pr_G L d G (pc, lv, st, h) r h' := gs_step hf (by simp [ps_step, hg, pw_l]) q
theorem gs_aload {j a : Nat} (hf : pf G pc = some (pc, .aload j, nx, k, v)) (hg : pl_get lv j = some (.ref a)) (q : pr_G L d G (nx, lv, .ref a :: st, h) r h') : pr_G L d G (pc, lv, st, h) r h' := gs_step hf (by simp [ps_step, hg, pw_a]) q
theorem gs_aload_n {j : Fin 4} {a : Nat} (hf : pf G pc = some (pc, .aload_n j, nx, k, v)) (hg : pl_get lv (j : Nat) = some (.ref a)) (q : pr_G L d G (nx, lv, .ref a :: st, h) r h') : pr_G L d G (pc, lv, st, h) r h' := gs_step hf (by simp [ps_step, hg, pw_a]) q
theorem gs_istore {j : Nat} (hf : pf G pc = some (pc, .istore j, nx, k, v)) (hg : pl_set lv j (.int x) = lv') (q : pr_G L d G (nx, lv', st, h) r h') : pr_G L d G (pc, lv, .int x :: st, h) r h' := by subst hg; exact gs_step hf rfl q
theorem gs_istore_n {j : Fin 4} (hf : pf G pc = some (pc, .istore_n j, nx, k, v)) (hg : pl_set lv (j : Nat) (.int x) = lv') (q : pr_G L d G (nx, lv', st, h) r h') : pr_G L d G (pc, lv, .int x :: st, h) r h' := by subst hg; exact gs_step hf rfl q
theorem gs_lstore {j : Nat} {w : Int64} (hf : pf G pc = some (pc, .lstore j, nx, k, v)) (hg : pl_set2 lv j (.long w) = lv') (q : pr_G L d G (nx, lv', st, h) r h') : pr_G L d G (pc, lv, .long w :: st, h) r h' := by subst hg; exact gs_step hf rfl q
theorem gs_lstore_n {j : Fin 4} {w : Int64} (hf : pf G pc = some (pc, .lstore_n j, nx, k, v)) (hg : pl_set2 lv (j : Nat) (.long w) = lv') (q : pr_G L d G (nx, lv', st, h) r h') : pr_G L d G (pc, lv, .long w :: st, h) r h' := by subst hg; exact gs_step hf rfl q
theorem gs_astore {j a : Nat} (hf : pf G pc = some (pc, .astore j, nx, k, v)) (hg : pl_set lv j (.ref a) = lv') (q : pr_G L d G (nx, lv', st, h) r h') : pr_G L d G (pc, lv, .ref a :: st, h) r h' := by subst hg; exact gs_step hf rfl q
theorem gs_astore_n {j : Fin 4} {a : Nat} (hf : pf G pc = some (pc, .astore_n j, nx, k, v)) (hg : pl_set lv (j : Nat) (.ref a) = lv') (q : pr_G L d G (nx, lv', st, h) r h') : pr_G L d G (pc, lv, .ref a :: st, h) r h' := by subst hg; exact gs_step hf rfl q
theorem gs_iinc {j : Nat} {z : Int} (hf : pf G pc = some (pc, .iinc j z, nx, k, v)) (hx : pl_get lv j = some (.int x)) (hg : pl_set lv j (.int (x + Int32.ofInt z)) = lv') (q : pr_G L d G (nx, lv', st, h) r h') : pr_G L d G (pc, lv, st, h) r h' := by subst hg; exact gs_step hf (by simp [ps_step, hx]) q
theorem gs_iadd (hf : pf G pc = some (pc, .iadd, nx, k, v)) (q : pr_G L d G (nx, lv, .int (x + y) :: st, h) r h') : pr_G L d G (pc, lv, .int y :: .int x :: st, h) r h' := gs_step hf rfl q
theorem gs_isub (hf : pf G pc = some (pc, .isub, nx, k, v)) (q : pr_G L d G (nx, lv, .int (x - y) :: st, h) r h') : pr_G L d G (pc, lv, .int y :: .int x :: st, h) r h' := gs_step hf rfl q
theorem gs_imul (hf : pf G pc = some (pc, .imul, nx, k, v)) (q : pr_G L d G (nx, lv, .int (x * y) :: st, h) r h') : pr_G L d G (pc, lv, .int y :: .int x :: st, h) r h' := gs_step hf rfl q
theorem gs_iand (hf : pf G pc = some (pc, .iand, nx, k, v)) (q : pr_G L d G (nx, lv, .int (x &&& y) :: st, h) r h') : pr_G L d G (pc, lv, .int y :: .int x :: st, h) r h' := gs_step hf rfl q
theorem gs_ior (hf : pf G pc = some (pc, .ior, nx, k, v)) (q : pr_G L d G (nx, lv, .int (x ||| y) :: st, h) r h') : pr_G L d G (pc, lv, .int y :: .int x :: st, h) r h' := gs_step hf rfl q
theorem gs_ixor (hf : pf G pc = some (pc, .ixor, nx, k, v)) (q : pr_G L d G (nx, lv, .int (x ^^^ y) :: st, h) r h') : pr_G L d G (pc, lv, .int y :: .int x :: st, h) r h' := gs_step hf rfl q
theorem gs_ishl (hf : pf G pc = some (pc, .ishl, nx, k, v)) (q : pr_G L d G (nx, lv, .int (x <<< (y &&& 31)) :: st, h) r h') : pr_G L d G (pc, lv, .int y :: .int x :: st, h) r h' := gs_step hf rfl q
theorem gs_ishr (hf : pf G pc = some (pc, .ishr, nx, k, v)) (q : pr_G L d G (nx, lv, .int (x >>> (y &&& 31)) :: st, h) r h') : pr_G L d G (pc, lv, .int y :: .int x :: st, h) r h' := gs_step hf rfl q
theorem gs_iushr (hf : pf G pc = some (pc, .iushr, nx, k, v)) (q : pr_G L d G (nx, lv, .int (x.toUInt32 >>> (y.toUInt32 &&& Int32.toUInt32 31)).toInt32 :: st, h) r h') : pr_G L d G (pc, lv, .int y :: .int x :: st, h) r h' := gs_step hf rfl q
theorem gs_idiv (hf : pf G pc = some (pc, .idiv, nx, k, v)) (hy : ¬ y = 0) (q : pr_G L d G (nx, lv, .int (x / y) :: st, h) r h') : pr_G L d G (pc, lv, .int y :: .int x :: st, h) r h' := gs_step hf (by simp [ps_step, hy]) q
theorem gs_irem (hf : pf G pc = some (pc, .irem, nx, k, v)) (hy : ¬ y = 0) (q : pr_G L d G (nx, lv, .int (x - x / y * y) :: st, h) r h') : pr_G L d G (pc, lv, .int y :: .int x :: st, h) r h' := gs_step hf (by simp [ps_step, hy]) q
theorem gs_ineg (hf : pf G pc = some (pc, .ineg, nx, k, v)) (q : pr_G L d G (nx, lv, .int (-x) :: st, h) r h') : pr_G L d G (pc, lv, .int x :: st, h) r h' := gs_step hf rfl q
theorem gs_i2l (hf : pf G pc = some (pc, .i2l, nx, k, v)) (q : pr_G L d G (nx, lv, .long x.toInt64 :: st, h) r h') : pr_G L d G (pc, lv, .int x :: st, h) r h' := gs_step hf rfl q
theorem gs_i2b (hf : pf G pc = some (pc, .i2b, nx, k, v)) (q : pr_G L d G (nx, lv, .int x.toInt8.toInt32 :: st, h) r h') : pr_G L d G (pc, lv, .int x :: st, h) r h' := gs_step hf rfl q
theorem gs_i2s (hf : pf G pc = some (pc, .i2s, nx, k, v)) (q : pr_G L d G (nx, lv, .int x.toInt16.toInt32 :: st, h) r h') : pr_G L d G (pc, lv, .int x :: st, h) r h' := gs_step hf rfl q
theorem gs_i2c (hf : pf G pc = some (pc, .i2c, nx, k, v)) (q : pr_G L d G (nx, lv, .int (x.toUInt32 % 65536).toInt32 :: st, h) r h') : pr_G L d G (pc, lv, .int x :: st, h) r h' := gs_step hf rfl q
theorem gs_l2i {w : Int64} (hf : pf G pc = some (pc, .l2i, nx, k, v)) (q : pr_G L d G (nx, lv, .int w.toInt32 :: st, h) r h') : pr_G L d G (pc, lv, .long w :: st, h) r h' := gs_step hf rfl q
theorem gs_ladd {w z : Int64} (hf : pf G pc = some (pc, .ladd, nx, k, v)) (q : pr_G L d G (nx, lv, .long (w + z) :: st, h) r h') : pr_G L d G (pc, lv, .long z :: .long w :: st, h) r h' := gs_step hf rfl q
theorem gs_land {w z : Int64} (hf : pf G pc = some (pc, .land, nx, k, v)) (q : pr_G L d G (nx, lv, .long (w &&& z) :: st, h) r h') : pr_G L d G (pc, lv, .long z :: .long w :: st, h) r h' := gs_step hf rfl q
theorem gs_lor {w z : Int64} (hf : pf G pc = some (pc, .lor, nx, k, v)) (q : pr_G L d G (nx, lv, .long (w ||| z) :: st, h) r h') : pr_G L d G (pc, lv, .long z :: .long w :: st, h) r h' := gs_step hf rfl q
theorem gs_lcmp {w z : Int64} (hf : pf G pc = some (pc, .lcmp, nx, k, v)) (q : pr_G L d G (nx, lv, .int (lg_cmp w z) :: st, h) r h') : pr_G L d G (pc, lv, .long z :: .long w :: st, h) r h' := gs_step hf rfl q
theorem gs_lshl {w : Int64} (hf : pf G pc = some (pc, .lshl, nx, k, v)) (q : pr_G L d G (nx, lv, .long (w <<< (y.toInt64 &&& 63)) :: st, h) r h') : pr_G L d G (pc, lv, .int y :: .long w :: st, h) r h' := gs_step hf rfl q
theorem gs_lshr {w : Int64} (hf : pf G pc = some (pc, .lshr, nx, k, v)) (q : pr_G L d G (nx, lv, .long (w >>> (y.toInt64 &&& 63)) :: st, h) r h') : pr_G L d G (pc, lv, .int y :: .long w :: st, h) r h' := gs_step hf rfl q
theorem gs_dup {w : Value} (hf : pf G pc = some (pc, .dup, nx, k, v)) (hc : w.category = 1) (q : pr_G L d G (nx, lv, w :: w :: st, h) r h') : pr_G L d G (pc, lv, w :: st, h) r h' := gs_step hf (by simp [ps_step, hc]) q
theorem gs_dup2 {w u : Value} (hf : pf G pc = some (pc, .dup2, nx, k, v)) (hc : w.category = 1) (hd : u.category = 1) (q : pr_G L d G (nx, lv, w :: u :: w :: u :: st, h) r h') : pr_G L d G (pc, lv, w :: u :: st, h) r h' := gs_step hf (by simp [ps_step, hc, hd]) q
theorem gs_pop {w : Value} (hf : pf G pc = some (pc, .pop, nx, k, v)) (hc : w.category = 1) (q : pr_G L d G (nx, lv, st, h) r h') : pr_G L d G (pc, lv, w :: st, h) r h' := gs_step hf (by simp [ps_step, hc]) q
theorem gs_goto {z : Int} (hf : pf G pc = some (pc, .goto z, nx, k, v)) (q : pr_G L d G (k, lv, st, h) r h') : pr_G L d G (pc, lv, st, h) r h' := gs_step hf rfl q
theorem gs_if0 {c : ClassFile.Cond} {z : Int} (hf : pf G pc = some (pc, .ifCond c z, nx, k, v)) (qt : pc_b c x 0 = true → pr_G L d G (k, lv, st, h) r h') (qf : pc_b c x 0 = false → pr_G L d G (nx, lv, st, h) r h') : pr_G L d G (pc, lv, .int x :: st, h) r h' := by
  refine gs_step hf rfl ?_
  cases hc : pc_b c x 0 with
  | true => exact qt hc
  | false => exact qf hc
theorem gs_if2 {c : ClassFile.Cond} {z : Int} (hf : pf G pc = some (pc, .if_icmp c z, nx, k, v)) (qt : pc_b c x y = true → pr_G L d G (k, lv, st, h) r h') (qf : pc_b c x y = false → pr_G L d G (nx, lv, st, h) r h') : pr_G L d G (pc, lv, .int y :: .int x :: st, h) r h' := by
  refine gs_step hf rfl ?_
  cases hc : pc_b c x y with
  | true => exact qt hc
  | false => exact qf hc
theorem gs_eq0 {z : Int} (hf : pf G pc = some (pc, .ifCond .eq z, nx, k, v)) (qt : x = 0 → pr_G L d G (k, lv, st, h) r h') (qf : ¬ x = 0 → pr_G L d G (nx, lv, st, h) r h') : pr_G L d G (pc, lv, .int x :: st, h) r h' := gs_if0 hf (fun q => qt (by simpa [pc_b] using q)) (fun q => qf (by simpa [pc_b] using q))
theorem gs_ne0 {z : Int} (hf : pf G pc = some (pc, .ifCond .ne z, nx, k, v)) (qt : ¬ x = 0 → pr_G L d G (k, lv, st, h) r h') (qf : x = 0 → pr_G L d G (nx, lv, st, h) r h') : pr_G L d G (pc, lv, .int x :: st, h) r h' := gs_if0 hf (fun q => qt (by simpa [pc_b] using q)) (fun q => qf (by simpa [pc_b] using q))
theorem gs_lt0 {z : Int} (hf : pf G pc = some (pc, .ifCond .lt z, nx, k, v)) (qt : x < 0 → pr_G L d G (k, lv, st, h) r h') (qf : ¬ x < 0 → pr_G L d G (nx, lv, st, h) r h') : pr_G L d G (pc, lv, .int x :: st, h) r h' := gs_if0 hf (fun q => qt (of_decide_eq_true q)) (fun q => qf (of_decide_eq_false q))
theorem gs_ge0 {z : Int} (hf : pf G pc = some (pc, .ifCond .ge z, nx, k, v)) (qt : 0 ≤ x → pr_G L d G (k, lv, st, h) r h') (qf : ¬ 0 ≤ x → pr_G L d G (nx, lv, st, h) r h') : pr_G L d G (pc, lv, .int x :: st, h) r h' := gs_if0 hf (fun q => qt (of_decide_eq_true q)) (fun q => qf (of_decide_eq_false q))
theorem gs_gt0 {z : Int} (hf : pf G pc = some (pc, .ifCond .gt z, nx, k, v)) (qt : 0 < x → pr_G L d G (k, lv, st, h) r h') (qf : ¬ 0 < x → pr_G L d G (nx, lv, st, h) r h') : pr_G L d G (pc, lv, .int x :: st, h) r h' := gs_if0 hf (fun q => qt (of_decide_eq_true q)) (fun q => qf (of_decide_eq_false q))
theorem gs_le0 {z : Int} (hf : pf G pc = some (pc, .ifCond .le z, nx, k, v)) (qt : x ≤ 0 → pr_G L d G (k, lv, st, h) r h') (qf : ¬ x ≤ 0 → pr_G L d G (nx, lv, st, h) r h') : pr_G L d G (pc, lv, .int x :: st, h) r h' := gs_if0 hf (fun q => qt (of_decide_eq_true q)) (fun q => qf (of_decide_eq_false q))
theorem gs_eq2 {z : Int} (hf : pf G pc = some (pc, .if_icmp .eq z, nx, k, v)) (qt : x = y → pr_G L d G (k, lv, st, h) r h') (qf : ¬ x = y → pr_G L d G (nx, lv, st, h) r h') : pr_G L d G (pc, lv, .int y :: .int x :: st, h) r h' := gs_if2 hf (fun q => qt (of_decide_eq_true q)) (fun q => qf (of_decide_eq_false q))
theorem gs_ne2 {z : Int} (hf : pf G pc = some (pc, .if_icmp .ne z, nx, k, v)) (qt : ¬ x = y → pr_G L d G (k, lv, st, h) r h') (qf : x = y → pr_G L d G (nx, lv, st, h) r h') : pr_G L d G (pc, lv, .int y :: .int x :: st, h) r h' := gs_if2 hf (fun q => qt (of_decide_eq_true q)) (fun q => qf (Classical.not_not.mp (of_decide_eq_false q)))
theorem gs_lt2 {z : Int} (hf : pf G pc = some (pc, .if_icmp .lt z, nx, k, v)) (qt : x < y → pr_G L d G (k, lv, st, h) r h') (qf : ¬ x < y → pr_G L d G (nx, lv, st, h) r h') : pr_G L d G (pc, lv, .int y :: .int x :: st, h) r h' := gs_if2 hf (fun q => qt (of_decide_eq_true q)) (fun q => qf (of_decide_eq_false q))
theorem gs_ge2 {z : Int} (hf : pf G pc = some (pc, .if_icmp .ge z, nx, k, v)) (qt : y ≤ x → pr_G L d G (k, lv, st, h) r h') (qf : ¬ y ≤ x → pr_G L d G (nx, lv, st, h) r h') : pr_G L d G (pc, lv, .int y :: .int x :: st, h) r h' := gs_if2 hf (fun q => qt (of_decide_eq_true q)) (fun q => qf (of_decide_eq_false q))
theorem gs_gt2 {z : Int} (hf : pf G pc = some (pc, .if_icmp .gt z, nx, k, v)) (qt : y < x → pr_G L d G (k, lv, st, h) r h') (qf : ¬ y < x → pr_G L d G (nx, lv, st, h) r h') : pr_G L d G (pc, lv, .int y :: .int x :: st, h) r h' := gs_if2 hf (fun q => qt (of_decide_eq_true q)) (fun q => qf (of_decide_eq_false q))
theorem gs_le2 {z : Int} (hf : pf G pc = some (pc, .if_icmp .le z, nx, k, v)) (qt : x ≤ y → pr_G L d G (k, lv, st, h) r h') (qf : ¬ x ≤ y → pr_G L d G (nx, lv, st, h) r h') : pr_G L d G (pc, lv, .int y :: .int x :: st, h) r h' := gs_if2 hf (fun q => qt (of_decide_eq_true q)) (fun q => qf (of_decide_eq_false q))
theorem gs_switch {dd lo hi : Int} {offs : Array Int} {t : Nat} (hf : pf G pc = some (pc, .tableswitch dd lo hi offs, nx, k, v)) (ht : pt_sw pc dd lo hi offs x = some t) (q : pr_G L d G (t, lv, st, h) r h') : pr_G L d G (pc, lv, .int x :: st, h) r h' := gs_step hf (by simp [ps_step, ht]) q
theorem gs_get {j a : Nat} {w : Value} (hf : pf G pc = some (pc, .getfield j, nx, k, v)) (hg : pg_get L h a k v.toNat = some w) (q : pr_G L d G (nx, lv, w :: st, h) r h') : pr_G L d G (pc, lv, .ref a :: st, h) r h' := gs_step hf (by simp [ps_step, hg]) q
theorem gs_put {j a : Nat} {w : Value} {h1 : ph_T} (hf : pf G pc = some (pc, .putfield j, nx, k, v)) (hg : pg_put L h a k v.toNat w = some h1) (q : pr_G L d G (nx, lv, st, h1) r h') : pr_G L d G (pc, lv, w :: .ref a :: st, h) r h' := gs_step hf (by simp [ps_step, hg]) q
theorem gs_static0 {j : Nat} (hf : pf G pc = some (pc, .getstatic j, nx, 0, v)) (hx : Int32.ofInt v = x) (q : pr_G L d G (nx, lv, .int x :: st, h) r h') : pr_G L d G (pc, lv, st, h) r h' := by subst hx; exact gs_step hf rfl q
theorem gs_static1 {j a : Nat} (hf : pf G pc = some (pc, .getstatic j, nx, 1, v)) (hx : v.toNat = a) (q : pr_G L d G (nx, lv, .ref a :: st, h) r h') : pr_G L d G (pc, lv, st, h) r h' := by subst hx; exact gs_step hf rfl q
theorem gs_static2 {j : Nat} (hf : pf G pc = some (pc, .getstatic j, nx, 2, v)) (q : pr_G L d G (nx, lv, .null :: st, h) r h') : pr_G L d G (pc, lv, st, h) r h' := gs_step hf rfl q
theorem gs_iald {a : Nat} {w : Value} (hf : pf G pc = some (pc, .iaload, nx, k, v)) (hg : pa_ld L h [0] a x = some w) (q : pr_G L d G (nx, lv, w :: st, h) r h') : pr_G L d G (pc, lv, .int x :: .ref a :: st, h) r h' := gs_step hf (by simp [ps_step, hg]) q
theorem gs_bald {a : Nat} {w : Value} (hf : pf G pc = some (pc, .baload, nx, k, v)) (hg : pa_ld L h [1, 3] a x = some w) (q : pr_G L d G (nx, lv, w :: st, h) r h') : pr_G L d G (pc, lv, .int x :: .ref a :: st, h) r h' := gs_step hf (by simp [ps_step, hg]) q
theorem gs_sald {a : Nat} {w : Value} (hf : pf G pc = some (pc, .saload, nx, k, v)) (hg : pa_ld L h [2] a x = some w) (q : pr_G L d G (nx, lv, w :: st, h) r h') : pr_G L d G (pc, lv, .int x :: .ref a :: st, h) r h' := gs_step hf (by simp [ps_step, hg]) q
theorem gs_aald {a : Nat} {w : Value} (hf : pf G pc = some (pc, .aaload, nx, k, v)) (hg : pa_ldr L h a x = some w) (q : pr_G L d G (nx, lv, w :: st, h) r h') : pr_G L d G (pc, lv, .int x :: .ref a :: st, h) r h' := gs_step hf (by simp [ps_step, hg]) q
theorem gs_iast {a : Nat} {h1 : ph_T} (hf : pf G pc = some (pc, .iastore, nx, k, v)) (hg : pa_st L h [0] a x y = some h1) (q : pr_G L d G (nx, lv, st, h1) r h') : pr_G L d G (pc, lv, .int y :: .int x :: .ref a :: st, h) r h' := gs_step hf (by simp [ps_step, hg]) q
theorem gs_bast {a : Nat} {h1 : ph_T} (hf : pf G pc = some (pc, .bastore, nx, k, v)) (hg : pa_st L h [1, 3] a x y = some h1) (q : pr_G L d G (nx, lv, st, h1) r h') : pr_G L d G (pc, lv, .int y :: .int x :: .ref a :: st, h) r h' := gs_step hf (by simp [ps_step, hg]) q
theorem gs_sast {a : Nat} {h1 : ph_T} (hf : pf G pc = some (pc, .sastore, nx, k, v)) (hg : pa_st L h [2] a x y = some h1) (q : pr_G L d G (nx, lv, st, h1) r h') : pr_G L d G (pc, lv, .int y :: .int x :: .ref a :: st, h) r h' := gs_step hf (by simp [ps_step, hg]) q
theorem gs_alen {a : Nat} {w : Value} (hf : pf G pc = some (pc, .arraylength, nx, k, v)) (hg : pa_len L h a = some w) (q : pr_G L d G (nx, lv, w :: st, h) r h') : pr_G L d G (pc, lv, .ref a :: st, h) r h' := gs_step hf (by simp [ps_step, hg]) q
theorem gs_cpy {j a0 a1 : Nat} {sp dp n : Int32} {h1 : ph_T} (hf : pf G pc = some (pc, .invokestatic j, nx, 1001, v)) (hg : pa_cpy L h a0 sp a1 dp n = some h1) (q : pr_G L d G (nx, lv, [], h1) r h') : pr_G L d G (pc, lv, [.int n, .int dp, .ref a1, .int sp, .ref a0], h) r h' := gs_step hf (by simp [ps_step, hg]) q
theorem gs_calls {j : Nat} (hf : pf G pc = some (pc, .invokestatic j, nx, k, v)) {As : List Value} {r1 : Option Value} {h1 : ph_T} {st1 : List Value} (hc : pr_C L d k As h r1 h1) (hs : As.reverse ++ st = st1) (hn : As.length = (pm k).2.2.2.2.2.1) (hw : pk_sum st ≤ 8) (hk : k < 192) (q : pr_G L d G (nx, lv, r1.toList ++ st, h1) r h') : pr_G L d G (pc, lv, st1, h) r h' := by
  obtain ⟨n, s', h1', h2⟩ := q
  exact ⟨n + 1, s', ⟨_, Or.inr ⟨_, hf, Or.inr ⟨As, st, r1, h1, hs.symm, hn, hw, hk, Or.inl ⟨j, rfl⟩, hc, rfl⟩⟩, h1'⟩, h2⟩
theorem gs_callv {j b : Nat} (hf : pf G pc = some (pc, .invokevirtual j, nx, k, v)) {Bs : List Value} {r1 : Option Value} {h1 : ph_T} {st1 : List Value} (hc : pr_C L d k (.ref b :: Bs) h r1 h1) (hs : (.ref b :: Bs : List Value).reverse ++ st = st1) (hn : (.ref b :: Bs : List Value).length = (pm k).2.2.2.2.2.1) (hw : pk_sum st ≤ 8) (hk : k < 192) (hb : (ps_sh L h b).1 = v.toNat) (hb2 : b < 17 ∨ v.toNat < 20) (q : pr_G L d G (nx, lv, r1.toList ++ st, h1) r h') : pr_G L d G (pc, lv, st1, h) r h' := by
  obtain ⟨n, s', h1', h2⟩ := q
  exact ⟨n + 1, s', ⟨_, Or.inr ⟨_, hf, Or.inr ⟨_, st, r1, h1, hs.symm, hn, hw, hk, Or.inr (Or.inr ⟨j, b, Bs, rfl, rfl, hb, hb2⟩), hc, rfl⟩⟩, h1'⟩, h2⟩
theorem gs_iret {ty : FieldType} (hf : pf G pc = some (pc, .ireturn, nx, k, v)) (hG : G.2.2.2.2.1 = some ty) (hn : narrow ty (.int x) = .int x) (hx : r = some (.int x)) (hh : h = h') : pr_G L d G (pc, lv, [.int x], h) r h' :=
  ⟨0, _, rfl, ⟨_, hf, Or.inl ⟨rfl, x, ty, rfl, hG, hn, hx⟩⟩, hh⟩
theorem gs_lret {w : Int64} (hf : pf G pc = some (pc, .lreturn, nx, k, v)) (hG : G.2.2.2.2.1 = some .long) (hx : r = some (.long w)) (hh : h = h') : pr_G L d G (pc, lv, [.long w], h) r h' :=
  ⟨0, _, rfl, ⟨_, hf, Or.inr (Or.inl ⟨rfl, w, rfl, hG, hx⟩)⟩, hh⟩
theorem gs_aret {a : Nat} {n : String} (hf : pf G pc = some (pc, .areturn, nx, k, v)) (hG : G.2.2.2.2.1 = some (.object n)) (hx : r = some (.ref a)) (hh : h = h') : pr_G L d G (pc, lv, [.ref a], h) r h' :=
  ⟨0, _, rfl, ⟨_, hf, Or.inr (Or.inr (Or.inl ⟨rfl, a, n, rfl, hG, hx⟩))⟩, hh⟩
theorem gs_vret (hf : pf G pc = some (pc, .return_, nx, k, v)) (hG : G.2.2.2.2.1 = none) (hx : r = none) (hh : h = h') : pr_G L d G (pc, lv, [], h) r h' :=
  ⟨0, _, rfl, ⟨_, hf, Or.inr (Or.inr (Or.inr ⟨rfl, rfl, hG, hx⟩))⟩, hh⟩
end PG
end
section
/-! THE PICTURE AND THE HEAP: what a pure heap says of the machine's. Z: class numbers, array classes, the first new address, the addresses of what was there before, the formatter. -/
abbrev pz_T : Type := va_G × (Nat → ClassId) × Nat × (Nat → Nat) × Value
def pz_A (Z : pz_T) : Nat → Prop := fun q => Z.2.2.1 ≤ q
def pz_ad (Z : pz_T) (k : Nat) : Nat := if k < 17 then Z.2.2.2.1 k else Z.2.2.1 + (k - 17)
def pz_v (Z : pz_T) (v : Value) : Value := match v with
  | .ref k => .ref (pz_ad Z k)
  | .null => Z.2.2.2.2
  | x => x
def pz_tys (Z : pz_T) : List (ClassId × FieldType) := (List.range 7).map (fun k => (Z.2.1 k, pk_ft k))
def pz_rf (Z : pz_T) (n : Nat) : Option Nat := if n = 0 then none else some (pz_ad Z (n - 1))
def pz_fv (Z : pz_T) (h : ph_T) (a ci j : Nat) : Value := if pf_ty ci j = 1 then va_rf (pz_rf Z (h.2.1 a j)) else .int (h.2.2 a j)
def pz_cell (Z : pz_T) (h : ph_T) (a : Nat) (q : Nat × Nat) : va_E :=
  if q.1 < 4 then .inl (Z.2.1 q.1, q.2, .inl (h.2.2 a))
  else if q.1 < 7 then .inl (Z.2.1 q.1, q.2, .inr (.inr (.inr (.inr (fun j => pz_rf Z (h.2.1 a j))))))
  else .inr (q.1 - 10, (List.range q.2).map (fun j => pz_fv Z h a (q.1 - 10) j))
def pz_W (Z : pz_T) (h : ph_T) : va_W := (List.range h.1.length).map (fun k => (Z.2.2.1 + k, pz_cell Z h (17 + k) (h.1.getD k (99, 0))))
def pz_P (Z : pz_T) (h : ph_T) (H : Heap) : Prop := va_P Z.1 vwCl (pz_W Z h) H
def pz_tot (sh : List (Nat × Nat)) : Nat := (sh.map (fun q => q.2)).sum
theorem pz_W_at (Z : pz_T) (h : ph_T) {k : Nat} (hk : k < h.1.length) : (pz_W Z h)[k]? = some (Z.2.2.1 + k, pz_cell Z h (17 + k) (h.1.getD k (99, 0))) := by
  simp [pz_W, hk]
theorem pz_W_len (Z : pz_T) (h : ph_T) : (pz_W Z h).length = h.1.length := by simp [pz_W]
theorem pz_W_D (Z : pz_T) (h : ph_T) : va_D (pz_A Z) (pz_W Z h) := by
  have key : ∀ (k : Nat) (q : Nat × va_E), (pz_W Z h)[k]? = some q → q.1 = Z.2.2.1 + k := by
    intro k q hk
    have hl : k < h.1.length := by
      have := (List.getElem?_eq_some_iff.mp hk).1
      rwa [pz_W_len] at this
    rw [pz_W_at Z h hl] at hk
    cases hk
    rfl
  refine ⟨fun i j p q hi hj hpq => ?_, fun k q hk => ?_⟩
  · have h1 := key i p hi
    have h2 := key j q hj
    omega
  · show Z.2.2.1 ≤ q.1
    rw [key k q hk]
    omega
/-- kind and place of a new cell -/
theorem pz_sh_in {L : Nat} {h : ph_T} {a : Nat} {q : Nat × Nat} (ha : 17 ≤ a) (hq : ps_sh L h a = q) (hn : q.1 ≠ 99) : a - 17 < h.1.length ∧ h.1.getD (a - 17) (99, 0) = q ∧ 17 + (a - 17) = a := by
  unfold ps_sh at hq
  rw [if_neg (by omega)] at hq
  refine ⟨?_, hq, by omega⟩
  by_cases hl : a - 17 < h.1.length
  · exact hl
  · rw [List.getD_eq_getElem?_getD, List.getElem?_eq_none (by omega)] at hq
    subst hq
    exact absurd rfl hn
theorem pz_at {Z : pz_T} {L : Nat} {h : ph_T} {a : Nat} {q : Nat × Nat} (ha : 17 ≤ a) (hq : ps_sh L h a = q) (hn : q.1 ≠ 99) : (pz_W Z h)[a - 17]? = some (pz_ad Z a, pz_cell Z h a q) := by
  obtain ⟨h1, h2, h3⟩ := pz_sh_in ha hq hn
  rw [pz_W_at Z h h1, h2, h3]
  unfold pz_ad
  rw [if_neg (by omega)]
theorem pz_tys_at (Z : pz_T) {k : Nat} (hk : k < 7) : (pz_tys Z)[k]? = some (Z.2.1 k, pk_ft k) := by simp [pz_tys, hk]
theorem pz_v_cat {Z : pz_T} (hf : Z.2.2.2.2 = .null ∨ ∃ t, Z.2.2.2.2 = .ref t) (v : Value) : (pz_v Z v).category = v.category := by
  cases v <;> try rfl
  show Z.2.2.2.2.category = 1
  rcases hf with e | ⟨t, e⟩ <;> rw [e] <;> rfl
/-- two pictures of one world: the same cells -/
theorem pz_W_set {Z : pz_T} {h h1 : ph_T} (hl : h1.1 = h.1) {k : Nat} (hk : k < h.1.length) {e : va_E} (he : pz_cell Z h1 (17 + k) (h.1.getD k (99, 0)) = e) (ho : ∀ j, j < h.1.length → j ≠ k → pz_cell Z h1 (17 + j) (h.1.getD j (99, 0)) = pz_cell Z h (17 + j) (h.1.getD j (99, 0))) :
    (pz_W Z h).set k (Z.2.2.1 + k, e) = pz_W Z h1 := by
  apply List.ext_getElem?
  intro j
  by_cases hj : j < h.1.length
  · rw [pz_W_at Z h1 (by rw [hl]; exact hj), hl]
    by_cases hjk : j = k
    · subst hjk
      rw [List.getElem?_set_self (by rw [pz_W_len]; exact hj), he]
    · rw [List.getElem?_set_ne (fun z => hjk z.symm), pz_W_at Z h hj, ho j hj hjk]
  · rw [List.getElem?_eq_none (by rw [List.length_set, pz_W_len]; omega), List.getElem?_eq_none (by rw [pz_W_len, hl]; omega)]
theorem pi_up_row {f : Nat → Nat → Int32} {a i : Nat} {v : Int32} : pi_up f a i v a = upd (f a) i v := by
  funext j
  by_cases hj : j = i
  · subst hj
    rw [pk_us]
    unfold pi_up
    rw [if_pos ⟨rfl, rfl⟩]
  · rw [pk_un hj]
    unfold pi_up
    rw [if_neg (fun q => hj q.2)]
theorem pi_up_off {f : Nat → Nat → Int32} {a b i : Nat} {v : Int32} (hb : b ≠ a) : pi_up f a i v b = f b := by
  funext j
  unfold pi_up
  rw [if_neg (fun q => hb q.1)]
theorem pr_up_off {f : Nat → Nat → Nat} {a b i v : Nat} (hb : b ≠ a) : pr_up f a i v b = f b := by
  funext j
  unfold pr_up
  rw [if_neg (fun q => hb q.1)]
theorem pi_row_on {f : Nat → Nat → Int32} {a : Nat} {g : Nat → Int32} : pi_row f a g a = g := by
  funext j
  unfold pi_row
  rw [if_pos rfl]
theorem pi_row_off {f : Nat → Nat → Int32} {a b : Nat} {g : Nat → Int32} (hb : b ≠ a) : pi_row f a g b = f b := by
  funext j
  unfold pi_row
  rw [if_neg hb]
theorem pr_row_on {f : Nat → Nat → Nat} {a : Nat} {g : Nat → Nat} : pr_row f a g a = g := by
  funext j
  unfold pr_row
  rw [if_pos rfl]
theorem pr_row_off {f : Nat → Nat → Nat} {a b : Nat} {g : Nat → Nat} (hb : b ≠ a) : pr_row f a g b = f b := by
  funext j
  unfold pr_row
  rw [if_neg hb]
theorem pz_cell_congr {Z : pz_T} {h h1 : ph_T} {a : Nat} {q : Nat × Nat} (hr : h1.2.1 a = h.2.1 a) (hi : h1.2.2 a = h.2.2 a) : pz_cell Z h1 a q = pz_cell Z h a q := by
  unfold pz_cell pz_fv
  rw [hr, hi]
/-- a world with one cell more -/
theorem pz_W_push {Z : pz_T} {h : ph_T} {kind n : Nat} : pz_W Z (ph_new h kind n) = pz_W Z h ++ [(Z.2.2.1 + h.1.length, pz_cell Z (ph_new h kind n) (17 + h.1.length) (kind, n))] := by
  apply List.ext_getElem?
  intro j
  have hl : (ph_new h kind n).1.length = h.1.length + 1 := by simp [ph_new]
  by_cases hj : j < h.1.length
  · rw [pz_W_at Z _ (by omega), List.getElem?_append_left (by rw [pz_W_len]; exact hj), pz_W_at Z h hj]
    have e1 : (ph_new h kind n).1.getD j (99, 0) = h.1.getD j (99, 0) := by
      simp only [ph_new, List.getD_eq_getElem?_getD, List.getElem?_append_left hj]
    rw [e1, pz_cell_congr (h := h)]
    · exact pr_row_off (by omega)
    · exact pi_row_off (by omega)
  · by_cases hj2 : j = h.1.length
    · subst hj2
      rw [pz_W_at Z _ (by omega), List.getElem?_append_right (by rw [pz_W_len]; omega), pz_W_len, Nat.sub_self]
      have e1 : (ph_new h kind n).1.getD h.1.length (99, 0) = (kind, n) := by
        simp [ph_new, List.getD_eq_getElem?_getD]
      rw [e1]
      rfl
    · rw [List.getElem?_eq_none (by rw [pz_W_len]; omega), List.getElem?_eq_none (by simp [pz_W_len]; omega)]
theorem pz_tot_push (sh : List (Nat × Nat)) (q : Nat × Nat) : pz_tot (sh ++ [q]) = pz_tot sh + q.2 := by simp [pz_tot]
theorem pz_P_size {Z : pz_T} {h : ph_T} {H : Heap} (hP : pz_P Z h H) (hb : Z.2.2.1 ≤ H.size) : Z.2.2.1 + h.1.length ≤ H.size := by
  by_cases h0 : h.1.length = 0
  · omega
  · have := (hP (h.1.length - 1) _ (pz_W_at Z h (by omega))).lt
    have e : (Z.2.2.1 + (h.1.length - 1), pz_cell Z h (17 + (h.1.length - 1)) (h.1.getD (h.1.length - 1) (99, 0))).1 = Z.2.2.1 + (h.1.length - 1) := rfl
    omega
end
section
/-! WHAT WAS THERE BEFORE -/
def pz_X (Z : pz_T) (L : Nat) (h : ph_T) (U : State) (H : Heap) : Prop :=
  (va_X (Z.2.2.2.1 0) L (h.2.2 0) U H ∧ Z.2.2.2.1 0 < Z.2.2.1) ∧
  (va_T .int (Z.2.2.2.1 1) 6 (fun j => .int (h.2.2 1 j)) (pz_A Z) U H ∧ va_Z "CallLaws" "ABOVE" "[I" (.ref (Z.2.2.2.1 1)) (pz_A Z) U H) ∧
  (va_T .int (Z.2.2.2.1 2) 4 (fun j => .int (h.2.2 2 j)) (pz_A Z) U H ∧ va_Z "CallLaws$Houses" "WEIGHTS" "[I" (.ref (Z.2.2.2.1 2)) (pz_A Z) U H) ∧
  va_Z "java/lang/String" "COMPACT_STRINGS" "Z" (.int 1) (pz_A Z) U H ∧
  va_Z "jdk/internal/util/Preconditions" "SIOOBE_FORMATTER" "Ljava/util/function/BiFunction;" Z.2.2.2.2 (pz_A Z) U H ∧
  ∀ i : Nat, i < 7 → va_O "java/lang/String" (Z.2.2.2.1 (3 + i)) (pz_A Z) U H ∧ va_OF "java/lang/String" "coder" "B" (.int 0) (Z.2.2.2.1 (3 + i)) (pz_A Z) U H ∧ va_OF "java/lang/String" "value" "[B" (.ref (Z.2.2.2.1 (10 + i))) (Z.2.2.2.1 (3 + i)) (pz_A Z) U H ∧ va_T .byte (Z.2.2.2.1 (10 + i)) (px_sh L (10 + i)).2 (fun j => .int (h.2.2 (10 + i) j)) (pz_A Z) U H
def pz_N (Z : pz_T) (U : State) : Prop :=
  (∀ w ∈ pz_nest, va_Nw w U) ∧ (va_AO RX5 U ∧ va_AO RX4 U ∧ va_AO RX0 U) ∧ ∀ (i : Nat) (q : Nat × String × Nat), pz_str[i]? = some q → vk_R RX6 q.1 q.2.1 (Z.2.2.2.1 (3 + i)) U
theorem pz_X.moved {Z : pz_T} {L : Nat} {h : ph_T} {u U : State} {H : Heap} (hvm : u.vm.Alike U.vm) (x : pz_X Z L h u H) : pz_X Z L h U H := by
  obtain ⟨⟨a1, a2⟩, ⟨b1, b2⟩, ⟨c1, c2⟩, d1, e1, f1⟩ := x
  exact ⟨⟨a1.moved hvm, a2⟩, ⟨b1.moved hvm, b2.moved hvm⟩, ⟨c1.moved hvm, c2.moved hvm⟩, d1.moved hvm, e1.moved hvm, fun i hi => ⟨va_O.moved hvm (f1 i hi).1, va_OF.moved hvm (f1 i hi).2.1, va_OF.moved hvm (f1 i hi).2.2.1, va_T.moved hvm (f1 i hi).2.2.2⟩⟩
theorem pz_X.kept {Z : pz_T} {L : Nat} {h : ph_T} {U : State} {H H1 : Heap} (x : pz_X Z L h U H) (hb : Z.2.2.1 ≤ H.size) (hq : ∀ a : Nat, a < H.size → ¬ pz_A Z a → H1[a]? = H[a]?) : pz_X Z L h U H1 := by
  obtain ⟨⟨a1, a2⟩, ⟨b1, b2⟩, ⟨c1, c2⟩, d1, e1, f1⟩ := x
  exact ⟨⟨a1.kept (hq _ (Nat.lt_of_lt_of_le a2 hb) (Nat.not_le.mpr a2)), a2⟩, ⟨b1.kept hq, b2.kept hq⟩, ⟨c1.kept hq, c2.kept hq⟩, d1.kept hq, e1.kept hq, fun i hi => ⟨(f1 i hi).1.kept hq, (f1 i hi).2.1.kept hq, (f1 i hi).2.2.1.kept hq, (f1 i hi).2.2.2.kept hq⟩⟩
theorem pz_X.same {Z : pz_T} {L : Nat} {h h1 : ph_T} {U : State} {H : Heap} (x : pz_X Z L h U H) (he : ∀ a, a < 17 → h1.2.2 a = h.2.2 a) : pz_X Z L h1 U H := by
  obtain ⟨⟨a1, a2⟩, ⟨b1, b2⟩, ⟨c1, c2⟩, d1, e1, f1⟩ := x
  refine ⟨⟨?_, a2⟩, ⟨?_, b2⟩, ⟨?_, c2⟩, d1, e1, fun i hi => ⟨(f1 i hi).1, (f1 i hi).2.1, (f1 i hi).2.2.1, ?_⟩⟩
  · rw [he 0 (by omega)]; exact a1
  · rw [he 1 (by omega)]; exact b1
  · rw [he 2 (by omega)]; exact c1
  · rw [he (10 + i) (by omega)]; exact (f1 i hi).2.2.2
theorem pz_N.warm {Z : pz_T} {s U : State} (hW : s.WarmedH U.vm) (x : pz_N Z s) : pz_N Z U := by
  obtain ⟨a, ⟨b1, b2, b3⟩, c⟩ := x
  refine ⟨fun w hw => ?_, ⟨va_AO.moved hW.alike b1, va_AO.moved hW.alike b2, va_AO.moved hW.alike b3⟩, fun i q hq => vk_R.warm hW (c i q hq)⟩
  have h1 := a w hw
  have h2 := (List.mem_filter.mp hw).2
  cases w <;> first | exact va_Nw.warmM hW h1 | (simp at h2; done)
theorem pz_N.same {Z : pz_T} {u U : State} (hv : U.vm = u.vm) (x : pz_N Z u) : pz_N Z U := by
  obtain ⟨a, ⟨b1, b2, b3⟩, c⟩ := x
  have hA : u.vm.Alike U.vm := by rw [hv]; exact Vm.Alike.refl _
  refine ⟨fun w hw => ?_, ⟨va_AO.moved hA b1, va_AO.moved hA b2, va_AO.moved hA b3⟩, fun i q hq => vk_R.same hv (c i q hq)⟩
  have h2 := (List.mem_filter.mp hw).2
  have h1 := a w hw
  cases w <;> first | exact va_tabs rfl hv.symm h1 | (simp at h2; done)
/-- all that a method's start says of a heap and a state -/
def pz_R (Z : pz_T) (L : Nat) (h : ph_T) (U : State) : Prop := (pz_P Z h U.heap ∧ U.heap.size = Z.2.2.1 + h.1.length) ∧ va_K Z.1 vwCl (pz_tys Z) U ∧ pz_X Z L h U U.heap ∧ pz_N Z U
end
section
/-! ONE STEP: where the pure machine goes, the machine goes. -/
def pz_C (Z : pz_T) (L : Nat) (p : Program) (R : Room) (s : State) (m : MethodId) (args : Array Value) (meth : Method) (c : Code) (G : pm_T) (h0 : ph_T) (n0 : Nat) : Prop :=
  (p.tables.exec = Jvm.exec ∧ c.code = G.2.2.1 ∧ c.maxLocals = G.2.2.2.1 ∧ s.vm.findClass G.1 = some m.cls ∧ ∀ w ∈ pz_B, w.before args s = true) ∧
  (va_K Z.1 vwCl (pz_tys Z) s ∧ pz_X Z L h0 s s.heap ∧ pz_N Z s ∧ s.heap.size = Z.2.2.1 + n0) ∧
  (Z.2.2.2.2 = .null ∨ ∃ t, Z.2.2.2.2 = .ref t) ∧ meth.name = G.2.1.name ∧ 1 ≤ R.frames ∧ 60 ≤ R.locals
def pz_J (Z : pz_T) (p : Program) (l : Launch) (e : Env) (R : Room) (s : State) (m : MethodId) (args : Array Value) (below : List Frame) (meth : Method) (c : Code) (Q : State → Prop) (G : pm_T) (h0 : ph_T) (n0 t0 : Nat) (x : ps_T) : Prop :=
  ∀ (H : Heap) (locs : List Loc) (ls : Array Slot) (cells slots : Nat), pz_P Z x.2.2.2 H → va_S (pz_A Z) s.heap H locs → lv_has ls G.2.2.2.1 (x.2.1.map (fun q => (q.1, pz_v Z q.2))) → (∀ a, a < 17 → x.2.2.2.2.2 a = h0.2.2 a) → cells + n0 = x.2.2.2.1.length → slots + t0 = pz_tot x.2.2.2.1 →
    W p l e R s m args below meth c H locs cells slots Q (F0 m x.1 ls (x.2.2.1.map (pz_v Z)))
theorem pz_sized {p : Program} {l : Launch} {e : Env} {R : Room} {s : State} {m : MethodId} {args : Array Value} {below : List Frame} {meth : Method} {c : Code} {H : Heap} {locs : List Loc} {cells slots : Nat} {Q : State → Prop} {g : JFrame} (k : H.size ≤ s.heap.size + cells → W p l e R s m args below meth c H locs cells slots Q g) : W p l e R s m args below meth c H locs cells slots Q g := fun T hT X => k (by rw [← hT]; exact X.heapSize) T hT X
theorem pl_get_at {Z : pz_T} {lv : List (Nat × Value)} {ls : Array Slot} {nL j : Nat} {w : Value} (hl : lv_has ls nL (lv.map (fun q => (q.1, pz_v Z q.2)))) (hg : pl_get lv j = some w) : ls[j]? = some (.val (pz_v Z w)) := by
  unfold pl_get at hg
  cases hq : lv.find? (fun q => q.1 == j) with
  | none => rw [hq] at hg; cases hg
  | some q =>
    rw [hq] at hg
    cases hg
    have h1 : q ∈ lv := List.mem_of_find?_eq_some hq
    have h2 : q.1 = j := by have := List.find?_some hq; simpa using this
    have h3 := hl.2.2 (q.1, pz_v Z q.2) (List.mem_map.mpr ⟨q, h1, rfl⟩)
    rw [← h2]
    exact h3
theorem pl_map_set {Z : pz_T} (hf : Z.2.2.2.2 = .null ∨ ∃ t, Z.2.2.2.2 = .ref t) (lv : List (Nat × Value)) (i : Nat) (w : Value) :
    (i, pz_v Z w) :: (lv.map (fun q => (q.1, pz_v Z q.2))).filter (fun q => !(q.1 == i) && !(q.1 + 1 == i && q.2.category == 2)) = (pl_set lv i w).map (fun q => (q.1, pz_v Z q.2)) := by
  simp only [pl_set, List.map_cons, List.filter_map, Function.comp_def, pz_v_cat hf]
theorem pl_map_set2 {Z : pz_T} (hf : Z.2.2.2.2 = .null ∨ ∃ t, Z.2.2.2.2 = .ref t) (lv : List (Nat × Value)) (i : Nat) (w : Value) :
    (i, pz_v Z w) :: (lv.map (fun q => (q.1, pz_v Z q.2))).filter (fun q => !(q.1 == i) && (!(q.1 == i + 1) && !(q.1 + 1 == i && q.2.category == 2))) = (pl_set2 lv i w).map (fun q => (q.1, pz_v Z q.2)) := by
  simp only [pl_set2, List.map_cons, List.filter_map, Function.comp_def, pz_v_cat hf]
theorem pk_sum_map {Z : pz_T} (hf : Z.2.2.2.2 = .null ∨ ∃ t, Z.2.2.2.2 = .ref t) (st : List Value) : ((st.map (pz_v Z)).map fun v => v.category).sum = pk_sum st := by
  unfold pk_sum
  rw [List.map_map]
  congr 1
  exact List.map_congr_left (fun v _ => pz_v_cat hf v)
section PZ
variable {Z : pz_T} {L : Nat} {p : Program} {l : Launch} {e : Env} {R : Room} {s : State} {m : MethodId} {args : Array Value} {below : List Frame} {meth : Method} {c : Code} {Q : State → Prop} {G : pm_T} {h0 : ph_T} {n0 t0 : Nat}
variable {pc nx k : Nat} {v : Int} {lv : List (Nat × Value)} {st : List Value} {h : ph_T} {x1 : ps_T}
theorem sd_loadI (C0 : pz_C Z L p R s m args meth c G h0 n0) {j : Nat} {i : Instr} {n : Nat} (hi : (i = .iload j ∧ n = 2) ∨ ∃ q : Fin 4, i = .iload_n q ∧ (q : Nat) = j ∧ n = 1) (hd : decode G.2.2.1 pc = .ok (i, n)) {w : Value} (hw : pw_i (pl_get lv j) = some w) (q : pz_J Z p l e R s m args below meth c Q G h0 n0 t0 (pc + n, lv, w :: st, h)) : pz_J Z p l e R s m args below meth c Q G h0 n0 t0 (pc, lv, st, h) := by
  obtain ⟨⟨hx, hb, -, -, -⟩, -⟩ := C0
  intro H locs ls cells slots hP hS hl he hc hs
  obtain ⟨x, hg⟩ : ∃ x, pl_get lv j = some (.int x) ∧ w = .int x := by
    unfold pw_i at hw
    split at hw
    · cases hw; exact ⟨_, by assumption, rfl⟩
    · cases hw
  obtain ⟨hg, rfl⟩ := hg
  have ha := pl_get_at hl hg
  rcases hi with ⟨rfl, rfl⟩ | ⟨z, rfl, hz, rfl⟩
  · exact lv_iload hx hb hd ha (q H locs ls cells slots hP hS hl he hc hs)
  · exact lv_iload_n hx hb hd hz ha (q H locs ls cells slots hP hS hl he hc hs)
theorem sd_loadL (C0 : pz_C Z L p R s m args meth c G h0 n0) {j : Nat} {i : Instr} {n : Nat} (hi : (i = .lload j ∧ n = 2) ∨ ∃ q : Fin 4, i = .lload_n q ∧ (q : Nat) = j ∧ n = 1) (hd : decode G.2.2.1 pc = .ok (i, n)) {w : Value} (hw : pw_l (pl_get lv j) = some w) (q : pz_J Z p l e R s m args below meth c Q G h0 n0 t0 (pc + n, lv, w :: st, h)) : pz_J Z p l e R s m args below meth c Q G h0 n0 t0 (pc, lv, st, h) := by
  obtain ⟨⟨hx, hb, -, -, -⟩, -⟩ := C0
  intro H locs ls cells slots hP hS hl he hc hs
  obtain ⟨x, hg⟩ : ∃ x, pl_get lv j = some (.long x) ∧ w = .long x := by
    unfold pw_l at hw
    split at hw
    · cases hw; exact ⟨_, by assumption, rfl⟩
    · cases hw
  obtain ⟨hg, rfl⟩ := hg
  have ha := pl_get_at hl hg
  rcases hi with ⟨rfl, rfl⟩ | ⟨z, rfl, hz, rfl⟩
  · exact lv_lload hx hb hd ha (q H locs ls cells slots hP hS hl he hc hs)
  · exact lv_lload_n hx hb hd hz ha (q H locs ls cells slots hP hS hl he hc hs)
theorem sd_loadA (C0 : pz_C Z L p R s m args meth c G h0 n0) {j : Nat} {i : Instr} {n : Nat} (hi : (i = .aload j ∧ n = 2) ∨ ∃ q : Fin 4, i = .aload_n q ∧ (q : Nat) = j ∧ n = 1) (hd : decode G.2.2.1 pc = .ok (i, n)) {w : Value} (hw : pw_a (pl_get lv j) = some w) (q : pz_J Z p l e R s m args below meth c Q G h0 n0 t0 (pc + n, lv, w :: st, h)) : pz_J Z p l e R s m args below meth c Q G h0 n0 t0 (pc, lv, st, h) := by
  obtain ⟨⟨hx, hb, -, -, -⟩, -⟩ := C0
  intro H locs ls cells slots hP hS hl he hc hs
  obtain ⟨x, hg⟩ : ∃ x, pl_get lv j = some (.ref x) ∧ w = .ref x := by
    unfold pw_a at hw
    split at hw
    · cases hw; exact ⟨_, by assumption, rfl⟩
    · cases hw
  obtain ⟨hg, rfl⟩ := hg
  have ha := pl_get_at hl hg
  rcases hi with ⟨rfl, rfl⟩ | ⟨z, rfl, hz, rfl⟩
  · exact lv_aload hx hb hd ha (q H locs ls cells slots hP hS hl he hc hs)
  · exact lv_aload_n hx hb hd hz ha (q H locs ls cells slots hP hS hl he hc hs)
theorem sd_storeI (C0 : pz_C Z L p R s m args meth c G h0 n0) {j : Nat} {i : Instr} {n : Nat} (hi : (i = .istore j ∧ n = 2) ∨ ∃ q : Fin 4, i = .istore_n q ∧ (q : Nat) = j ∧ n = 1) (hd : decode G.2.2.1 pc = .ok (i, n)) (hj : j < G.2.2.2.1) {x : Int32} (q : pz_J Z p l e R s m args below meth c Q G h0 n0 t0 (pc + n, pl_set lv j (.int x), st, h)) : pz_J Z p l e R s m args below meth c Q G h0 n0 t0 (pc, lv, .int x :: st, h) := by
  obtain ⟨⟨hx, hb, -, -, -⟩, -, hf, -⟩ := C0
  intro H locs ls cells slots hP hS hl he hc hs
  rcases hi with ⟨rfl, rfl⟩ | ⟨z, rfl, hz, rfl⟩
  · exact lv_istore hx hb hd hl hj (pl_map_set hf lv j (.int x)) (fun ls' hl' => q H locs ls' cells slots hP hS hl' he hc hs)
  · exact lv_istore_n hx hb hd hz hl hj (pl_map_set hf lv j (.int x)) (fun ls' hl' => q H locs ls' cells slots hP hS hl' he hc hs)
theorem sd_storeL (C0 : pz_C Z L p R s m args meth c G h0 n0) {j : Nat} {i : Instr} {n : Nat} (hi : (i = .lstore j ∧ n = 2) ∨ ∃ q : Fin 4, i = .lstore_n q ∧ (q : Nat) = j ∧ n = 1) (hd : decode G.2.2.1 pc = .ok (i, n)) (hj : j + 1 < G.2.2.2.1) {x : Int64} (q : pz_J Z p l e R s m args below meth c Q G h0 n0 t0 (pc + n, pl_set2 lv j (.long x), st, h)) : pz_J Z p l e R s m args below meth c Q G h0 n0 t0 (pc, lv, .long x :: st, h) := by
  obtain ⟨⟨hx, hb, -, -, -⟩, -, hf, -⟩ := C0
  intro H locs ls cells slots hP hS hl he hc hs
  rcases hi with ⟨rfl, rfl⟩ | ⟨z, rfl, hz, rfl⟩
  · exact lv_lstore hx hb hd hl hj (pl_map_set2 hf lv j (.long x)) (fun ls' hl' => q H locs ls' cells slots hP hS hl' he hc hs)
  · exact lv_lstore_n hx hb hd hz hl hj (pl_map_set2 hf lv j (.long x)) (fun ls' hl' => q H locs ls' cells slots hP hS hl' he hc hs)
theorem sd_storeA (C0 : pz_C Z L p R s m args meth c G h0 n0) {j : Nat} {i : Instr} {n : Nat} (hi : (i = .astore j ∧ n = 2) ∨ ∃ q : Fin 4, i = .astore_n q ∧ (q : Nat) = j ∧ n = 1) (hd : decode G.2.2.1 pc = .ok (i, n)) (hj : j < G.2.2.2.1) {x : Nat} (q : pz_J Z p l e R s m args below meth c Q G h0 n0 t0 (pc + n, pl_set lv j (.ref x), st, h)) : pz_J Z p l e R s m args below meth c Q G h0 n0 t0 (pc, lv, .ref x :: st, h) := by
  obtain ⟨⟨hx, hb, -, -, -⟩, -, hf, -⟩ := C0
  intro H locs ls cells slots hP hS hl he hc hs
  rcases hi with ⟨rfl, rfl⟩ | ⟨z, rfl, hz, rfl⟩
  · exact lv_astore hx hb hd hl hj (pl_map_set hf lv j (.ref x)) (fun ls' hl' => q H locs ls' cells slots hP hS hl' he hc hs)
  · exact lv_astore_n hx hb hd hz hl hj (pl_map_set hf lv j (.ref x)) (fun ls' hl' => q H locs ls' cells slots hP hS hl' he hc hs)
theorem sd_iinc (C0 : pz_C Z L p R s m args meth c G h0 n0) {j : Nat} {z : Int} (hd : decode G.2.2.1 pc = .ok (.iinc j z, 3)) (hj : j < G.2.2.2.1) {x : Int32} (hg : pl_get lv j = some (.int x)) (q : pz_J Z p l e R s m args below meth c Q G h0 n0 t0 (pc + 3, pl_set lv j (.int (x + Int32.ofInt z)), st, h)) : pz_J Z p l e R s m args below meth c Q G h0 n0 t0 (pc, lv, st, h) := by
  obtain ⟨⟨hx, hb, -, -, -⟩, -, hf, -⟩ := C0
  intro H locs ls cells slots hP hS hl he hc hs
  have ha := pl_get_at hl hg
  have hk : ∃ k' : Nat, (lv.map (fun q => (q.1, pz_v Z q.2)))[k']? = some (j, .int x) := by
    unfold pl_get at hg
    cases hq : lv.find? (fun q => q.1 == j) with
    | none => rw [hq] at hg; cases hg
    | some q =>
      rw [hq] at hg
      have h1 : q ∈ lv := List.mem_of_find?_eq_some hq
      have h2 : q.1 = j := by have := List.find?_some hq; simpa using this
      have h3 : q.2 = .int x := Option.some.inj hg
      have h4 : (j, Value.int x) ∈ lv.map (fun q => (q.1, pz_v Z q.2)) := List.mem_map.mpr ⟨q, h1, by rw [h2, h3]; rfl⟩
      exact List.getElem?_of_mem h4
  obtain ⟨k', hk⟩ := hk
  exact lv_iinc hx hb hd hl hk rfl hj (pl_map_set hf lv j (.int (x + Int32.ofInt z))) (fun ls' hl' => q H locs ls' cells slots hP hS hl' he hc hs)
theorem sd_if0 (C0 : pz_C Z L p R s m args meth c G h0 n0) {cd : ClassFile.Cond} {off : Int} (hd : decode G.2.2.1 pc = .ok (.ifCond cd off, 3)) (ht : (pc : Int) + off = (k : Int)) {x : Int32} (q : pz_J Z p l e R s m args below meth c Q G h0 n0 t0 (if pc_b cd x 0 = true then k else pc + 3, lv, st, h)) : pz_J Z p l e R s m args below meth c Q G h0 n0 t0 (pc, lv, .int x :: st, h) := by
  obtain ⟨⟨hx, hb, -, -, -⟩, -⟩ := C0
  intro H locs ls cells slots hP hS hl he hc hs
  have q := q H locs ls cells slots hP hS hl he hc hs
  cases cd with
  | eq => exact lv_if_eq hx hb hd ht (fun z => by simpa [pc_b, z] using q) (fun z => by simpa [pc_b, z] using q)
  | ne => exact lv_if_ne hx hb hd ht (fun z => by simpa [pc_b, z] using q) (fun z => by simpa [pc_b, z] using q)
  | lt => exact lv_if_lt hx hb hd ht (fun z => by simpa [pc_b, z] using q) (fun z => by simpa [pc_b, z] using q)
  | ge => exact lv_if_ge hx hb hd ht (fun z => by simpa [pc_b, z] using q) (fun z => by simpa [pc_b, z] using q)
  | gt => exact lv_if_gt hx hb hd ht (fun z => by simpa [pc_b, z] using q) (fun z => by simpa [pc_b, z] using q)
  | le => exact lv_if_le hx hb hd ht (fun z => by simpa [pc_b, z] using q) (fun z => by simpa [pc_b, z] using q)
theorem sd_if2 (C0 : pz_C Z L p R s m args meth c G h0 n0) {cd : ClassFile.Cond} {off : Int} (hd : decode G.2.2.1 pc = .ok (.if_icmp cd off, 3)) (ht : (pc : Int) + off = (k : Int)) {x y : Int32} (q : pz_J Z p l e R s m args below meth c Q G h0 n0 t0 (if pc_b cd x y = true then k else pc + 3, lv, st, h)) : pz_J Z p l e R s m args below meth c Q G h0 n0 t0 (pc, lv, .int y :: .int x :: st, h) := by
  obtain ⟨⟨hx, hb, -, -, -⟩, -⟩ := C0
  intro H locs ls cells slots hP hS hl he hc hs
  have q := q H locs ls cells slots hP hS hl he hc hs
  cases cd with
  | eq => exact lv_icmp_eq hx hb hd ht (fun z => by simpa [pc_b, z] using q) (fun z => by simpa [pc_b, z] using q)
  | ne => exact lv_icmp_ne hx hb hd ht (fun z => by simpa [pc_b, z] using q) (fun z => by simpa [pc_b, z] using q)
  | lt => exact lv_icmp_lt hx hb hd ht (fun z => by simpa [pc_b, z] using q) (fun z => by simpa [pc_b, z] using q)
  | ge => exact lv_icmp_ge hx hb hd ht (fun z => by simpa [pc_b, z] using q) (fun z => by simpa [pc_b, z] using q)
  | gt => exact lv_icmp_gt hx hb hd ht (fun z => by simpa [pc_b, z] using q) (fun z => by simpa [pc_b, z] using q)
  | le => exact lv_icmp_le hx hb hd ht (fun z => by simpa [pc_b, z] using q) (fun z => by simpa [pc_b, z] using q)
theorem pt_to_eq {a : Nat} {off : Int} {t : Nat} (h : pt_to a off = some t) : (a : Int) + off = (t : Int) := by
  unfold pt_to at h
  split at h
  · cases h
    omega
  · cases h
theorem sd_switch (C0 : pz_C Z L p R s m args meth c G h0 n0) {dd lo hi : Int} {offs : Array Int} {len t : Nat} (hd : decode G.2.2.1 pc = .ok (.tableswitch dd lo hi offs, len)) {x : Int32} (ht : pt_sw pc dd lo hi offs x = some t) (q : pz_J Z p l e R s m args below meth c Q G h0 n0 t0 (t, lv, st, h)) : pz_J Z p l e R s m args below meth c Q G h0 n0 t0 (pc, lv, .int x :: st, h) := by
  obtain ⟨⟨hx, hb, -, -, -⟩, -⟩ := C0
  intro H locs ls cells slots hP hS hl he hc hs
  have q := q H locs ls cells slots hP hS hl he hc hs
  unfold pt_sw at ht
  split at ht
  next z => exact lv_tableOut hx hb hd z (pt_to_eq ht) q
  next z =>
    cases ho : offs[(x.toInt - lo).toNat]? with
    | none => rw [ho] at ht; cases ht
    | some off =>
      rw [ho] at ht
      exact lv_tableIn hx hb hd (fun w => z (Or.inl w)) (fun w => z (Or.inr w)) ho (pt_to_eq ht) q
end PZ
end
section
/-! ONE STEP at the heap -/
theorem px_kinds : ∀ a, a < 17 → ∀ L, ((px_sh L a).1 = 0 ∧ (a = 0 ∨ a = 1 ∨ a = 2)) ∨ ((px_sh L a).1 = 20 ∧ 3 ≤ a ∧ a < 10) ∨ ((px_sh L a).1 = 1 ∧ 10 ≤ a) := by
  intro a ha L
  rcases (by omega : a = 0 ∨ a = 1 ∨ a = 2 ∨ a = 3 ∨ a = 4 ∨ a = 5 ∨ a = 6 ∨ a = 7 ∨ a = 8 ∨ a = 9 ∨ a = 10 ∨ a = 11 ∨ a = 12 ∨ a = 13 ∨ a = 14 ∨ a = 15 ∨ a = 16) with rfl | rfl | rfl | rfl | rfl | rfl | rfl | rfl | rfl | rfl | rfl | rfl | rfl | rfl | rfl | rfl | rfl <;> simp [px_sh]
theorem ps_sh_ext {L : Nat} {h : ph_T} {a : Nat} (ha : a < 17) : ps_sh L h a = px_sh L a := by unfold ps_sh; rw [if_pos ha]
theorem pz_ad_ext {Z : pz_T} {a : Nat} (ha : a < 17) : pz_ad Z a = Z.2.2.2.1 a := by unfold pz_ad; rw [if_pos ha]
theorem pz_ad_in {Z : pz_T} {a : Nat} (ha : 17 ≤ a) : pz_ad Z a = Z.2.2.1 + (a - 17) := by unfold pz_ad; rw [if_neg (by omega)]
theorem pa_in_iff {i : Int32} {n : Nat} : pa_in i n = true ↔ vp_in i n := by unfold pa_in vp_in; exact decide_eq_true_iff
theorem pz_cell_i {Z : pz_T} {h : ph_T} {a : Nat} {q : Nat × Nat} (hq : q.1 < 4) : pz_cell Z h a q = .inl (Z.2.1 q.1, q.2, .inl (h.2.2 a)) := by unfold pz_cell; rw [if_pos hq]
theorem pz_cell_r {Z : pz_T} {h : ph_T} {a : Nat} {q : Nat × Nat} (hq : 4 ≤ q.1) (hq2 : q.1 < 7) : pz_cell Z h a q = .inl (Z.2.1 q.1, q.2, .inr (.inr (.inr (.inr (fun j => pz_rf Z (h.2.1 a j)))))) := by unfold pz_cell; rw [if_neg (by omega), if_pos hq2]
theorem pz_cell_o {Z : pz_T} {h : ph_T} {a : Nat} {q : Nat × Nat} (hq : 7 ≤ q.1) : pz_cell Z h a q = .inr (q.1 - 10, (List.range q.2).map (fun j => pz_fv Z h a (q.1 - 10) j)) := by unfold pz_cell; rw [if_neg (by omega), if_neg (by omega)]
theorem pz_words {k : Nat} {C : String} {T : u_T} {N : Nat} (hc : vwCl[k]? = some (C, T, N)) : ∀ w ∈ u_ws C T N, w ∈ pz_B := by
  have key : ∀ q ∈ vwCl, ∀ w ∈ u_ws q.1 q.2.1 q.2.2, w ∈ pz_B := by
    have h : vwCl.all (fun q => (u_ws q.1 q.2.1 q.2.2).all (fun w => decide (w ∈ lw_tbl) && goodWord w)) = true := by decide +kernel
    intro q hq w hw
    have h1 := List.all_eq_true.mp (List.all_eq_true.mp h q hq) w hw
    simp only [Bool.and_eq_true, decide_eq_true_eq] at h1
    exact pz_B_in h1.1 h1.2
  exact key _ (List.mem_of_getElem? hc)
def pz_fty (ci k : Nat) : FieldType := match pf_ty ci k with
  | 0 => .int
  | 2 => .boolean
  | _ => .array .int
theorem pz_names {k : Nat} {C : String} {T : u_T} {N : Nat} (hc : vwCl[k]? = some (C, T, N)) : (∀ a, a < N → ∀ b, b < N → a ≠ b → (T a).2.1 ≠ (T b).2.1) ∧ ∃ ty : Nat → FieldType, (∀ j, j < N → parseFieldDescriptor (T j).2.2.1 = some (ty j) ∧ ((pf_ty k j = 0 ∧ ty j = .int) ∨ (pf_ty k j = 2 ∧ ty j = .boolean) ∨ (pf_ty k j = 1 ∧ ((∃ n, ty j = .object n) ∨ ∃ t, ty j = .array t)))) := by
  have hk : k < 10 := (List.getElem?_eq_some_iff.mp hc).1
  rcases (by omega : k = 0 ∨ k = 1 ∨ k = 2 ∨ k = 3 ∨ k = 4 ∨ k = 5 ∨ k = 6 ∨ k = 7 ∨ k = 8 ∨ k = 9) with rfl | rfl | rfl | rfl | rfl | rfl | rfl | rfl | rfl | rfl <;> cases hc
  · exact ⟨nmX0, tyX0, fun j hj => ⟨tyX0_ok j hj, by rcases (by omega : j = 0 ∨ j = 1) with rfl | rfl <;> simp [pf_ty, tyX0]⟩⟩
  · exact ⟨nmX1, tyX1, fun j hj => ⟨tyX1_ok j hj, by rcases (by omega : j = 0 ∨ j = 1 ∨ j = 2 ∨ j = 3) with rfl | rfl | rfl | rfl <;> simp [pf_ty, tyX1]⟩⟩
  · exact ⟨nmX2, tyX2, fun j hj => ⟨tyX2_ok j hj, by rcases (by omega : j = 0 ∨ j = 1 ∨ j = 2 ∨ j = 3 ∨ j = 4) with rfl | rfl | rfl | rfl | rfl <;> simp [pf_ty, tyX2]⟩⟩
  · exact ⟨nmX3, tyX3, fun j hj => ⟨tyX3_ok j hj, by rcases (by omega : j = 0 ∨ j = 1 ∨ j = 2 ∨ j = 3 ∨ j = 4) with rfl | rfl | rfl | rfl | rfl <;> simp [pf_ty, tyX3]⟩⟩
  · exact ⟨nmX4, tyX4, fun j hj => ⟨tyX4_ok j hj, by rcases (by omega : j = 0 ∨ j = 1 ∨ j = 2 ∨ j = 3 ∨ j = 4 ∨ j = 5 ∨ j = 6 ∨ j = 7 ∨ j = 8) with rfl | rfl | rfl | rfl | rfl | rfl | rfl | rfl | rfl <;> simp [pf_ty, tyX4]⟩⟩
  · exact ⟨nmX5, tyX5, fun j hj => ⟨tyX5_ok j hj, by rcases (by omega : j = 0 ∨ j = 1 ∨ j = 2 ∨ j = 3) with rfl | rfl | rfl | rfl <;> simp [pf_ty, tyX5]⟩⟩
  · exact ⟨nmX6, tyX6, fun j hj => ⟨tyX6_ok j hj, by rcases (by omega : j = 0 ∨ j = 1 ∨ j = 2 ∨ j = 3) with rfl | rfl | rfl | rfl <;> simp [pf_ty, tyX6]⟩⟩
  · exact ⟨nmX7, tyX7, fun j hj => ⟨tyX7_ok j hj, by rcases (by omega : j = 0 ∨ j = 1 ∨ j = 2 ∨ j = 3) with rfl | rfl | rfl | rfl <;> simp [pf_ty, tyX7]⟩⟩
  · exact ⟨nmX8, tyX8, fun j hj => ⟨tyX8_ok j hj, by rcases (by omega : j = 0 ∨ j = 1 ∨ j = 2 ∨ j = 3 ∨ j = 4 ∨ j = 5 ∨ j = 6 ∨ j = 7 ∨ j = 8) with rfl | rfl | rfl | rfl | rfl | rfl | rfl | rfl | rfl <;> simp [pf_ty, tyX8]⟩⟩
  · refine ⟨nmX9, tyX9, fun j hj => ⟨tyX9_ok j hj, ?_⟩⟩
    have key : ∀ j, j < 44 → (pf_ty 9 j = 0 ∧ tyX9 j = .int) ∨ (pf_ty 9 j = 1 ∧ (tyX9 j = .array .int ∨ tyX9 j = .array .boolean)) := by decide +kernel
    rcases key j hj with q | ⟨q1, q2 | q2⟩
    · exact Or.inl q
    · exact Or.inr (Or.inr ⟨q1, Or.inr ⟨_, q2⟩⟩)
    · exact Or.inr (Or.inr ⟨q1, Or.inr ⟨_, q2⟩⟩)
end
section
/-! ONE STEP at the heap: fields, arrays, what is made -/
section PH
variable {Z : pz_T} {L : Nat} {p : Program} {l : Launch} {e : Env} {R : Room} {s : State} {m : MethodId} {args : Array Value} {below : List Frame} {meth : Method} {c : Code} {Q : State → Prop} {G : pm_T} {h0 : ph_T} {n0 t0 : Nat}
variable {pc nx k : Nat} {v : Int} {lv : List (Nat × Value)} {st : List Value} {h : ph_T} {x1 : ps_T}
theorem sd_get (C0 : pz_C Z L p R s m args meth c G h0 n0) {j a kind : Nat} (hd : decode G.2.2.1 pc = .ok (.getfield j, 3))
    (ho : (kind = 20 → (k = 0 → Cond.fieldLink G.1 j "java/lang/String" "value" "[B" ∈ pz_B) ∧ (k ≠ 0 → Cond.fieldLink G.1 j "java/lang/String" "coder" "B" ∈ pz_B)) ∧ (kind ≠ 20 → ∃ C T N, pe_fld G.1 j kind k C T N))
    {w : Value} (hg : pg_get L h a k kind = some w) (q : pz_J Z p l e R s m args below meth c Q G h0 n0 t0 (pc + 3, lv, w :: st, h)) : pz_J Z p l e R s m args below meth c Q G h0 n0 t0 (pc, lv, .ref a :: st, h) := by
  obtain ⟨⟨hx, hb, -, hown, hts⟩, ⟨hK, hX, -, -⟩, -⟩ := C0
  intro H locs ls cells slots hP hS hl he hc hs
  have q := q H locs ls cells slots hP hS hl he hc hs
  unfold pg_get at hg
  split at hg
  next hkd =>
    split at hg
    next h20 =>
      obtain ⟨h20, ha⟩ := h20
      subst h20
      rw [ps_sh_ext ha] at hkd
      have h3 : 3 ≤ a ∧ a < 10 := by rcases px_kinds a ha L with z | z | z <;> omega
      obtain ⟨i, rfl⟩ : ∃ i, a = 3 + i := ⟨a - 3, by omega⟩
      obtain ⟨-, -, -, -, -, f1⟩ := hX
      have f1 := f1 i (by omega)
      have e1 : pz_v Z (.ref (3 + i)) = .ref (Z.2.2.2.1 (3 + i)) := by show Value.ref (pz_ad Z (3 + i)) = _; rw [pz_ad_ext ha]
      show W p l e R s m args below meth c H locs cells slots Q (F0 m pc ls (pz_v Z (.ref (3 + i)) :: st.map (pz_v Z)))
      rw [e1]
      split at hg
      next hk =>
        cases hg
        refine vk_getf hx hb f1.2.2.1 hS hown (hts _ ((ho.1 rfl).1 hk)) (fun x h => h) hd ?_
        have e2 : pz_v Z (.ref (3 + i + 7)) = .ref (Z.2.2.2.1 (10 + i)) := by show Value.ref (pz_ad Z (3 + i + 7)) = _; rw [pz_ad_ext (by omega), show 3 + i + 7 = 10 + i by omega]
        rw [← e2]
        exact q
      next hk =>
        cases hg
        exact vk_getf hx hb f1.2.1 hS hown (hts _ ((ho.1 rfl).2 hk)) (fun x h => h) hd q
    next h20 =>
      split at hg
      next hk =>
        have ha : 17 ≤ a := by
          by_cases ha : a < 17
          · exfalso
            rw [ps_sh_ext ha] at hkd
            rcases px_kinds a ha L with z | z | z <;> omega
          · omega
        obtain ⟨C, T, N, hcl, hkN, hTC, hlink⟩ := ho.2 (by omega)
        have hat := pz_at (Z := Z) (L := L) (h := h) ha rfl (by omega)
        rw [pz_cell_o (by omega), hkd] at hat
        have hv : (List.map (fun j => pz_fv Z h a (kind - 10) j) (List.range (ps_sh L h a).2))[k]? = some (pz_v Z w) := by
          rw [List.getElem?_map, List.getElem?_range hk.2.2]
          show some (pz_fv Z h a (kind - 10) k) = _
          unfold pz_fv
          split at hg
          next hr =>
            rw [if_pos hr]
            split at hg
            · cases hg
            next hz =>
              cases hg
              unfold pz_rf
              rw [if_neg hz]
              rfl
          next hr =>
            rw [if_neg hr]
            cases hg
            rfl
        exact va_get (ref := C) hx hb hts (pz_words hcl) hown hK hP (a - 17) hat hcl k hkN (hts _ hlink) (fun x h => by rw [hTC] at h; exact h) hv hd q
      next => cases hg
  next => cases hg
theorem sd_put (C0 : pz_C Z L p R s m args meth c G h0 n0) {j a kind : Nat} (hd : decode G.2.2.1 pc = .ok (.putfield j, 3))
    (ho : ∃ C T N, pe_fld G.1 j kind k C T N ∧ (if pf_ty (kind - 10) k = 1 then (T k).2.2.2 = true ∧ G.2.1.name = "<init>" ∧ C = G.1 else (T k).2.2.2 = false))
    {w : Value} {h1 : ph_T} (hg : pg_put L h a k kind w = some h1) (q : pz_J Z p l e R s m args below meth c Q G h0 n0 t0 (pc + 3, lv, st, h1)) : pz_J Z p l e R s m args below meth c Q G h0 n0 t0 (pc, lv, w :: .ref a :: st, h) := by
  obtain ⟨⟨hx, hb, -, hown, hts⟩, ⟨hK, -, -, -⟩, hf, hnm, -⟩ := C0
  intro H locs ls cells slots hP hS hl he hc hs
  obtain ⟨C, T, N, ⟨hcl, hkN, hTC, hlink⟩, hfin⟩ := ho
  obtain ⟨hnames, ty, hty⟩ := pz_names hcl
  unfold pg_put at hg
  split at hg
  next hk =>
    obtain ⟨ha, hkd, hk1, hk2, hk3⟩ := hk
    obtain ⟨g1, g2, g3⟩ := pz_sh_in (L := L) (h := h) ha rfl (by omega)
    have hat := pz_at (Z := Z) (L := L) (h := h) ha rfl (by omega)
    rw [pz_cell_o (by omega), hkd] at hat
    have hlen : k < (List.map (fun j => pz_fv Z h a (kind - 10) j) (List.range (ps_sh L h a).2)).length := by simpa using hk3
    have key : ∀ (w1 : Value) (hh : ph_T), hh.1 = h.1 → (∀ b, b ≠ a → hh.2.1 b = h.2.1 b ∧ hh.2.2 b = h.2.2 b) → (∀ i, i ≠ k → pz_fv Z hh a (kind - 10) i = pz_fv Z h a (kind - 10) i) → pz_fv Z hh a (kind - 10) k = w1 →
        (pz_W Z h).set (a - 17) (pz_ad Z a, .inr (kind - 10, ((List.range (ps_sh L h a).2).map (fun j => pz_fv Z h a (kind - 10) j)).set k w1)) = pz_W Z hh := by
      intro w1 hh e1 e2 e3 e4
      rw [pz_ad_in ha]
      refine pz_W_set e1 g1 ?_ ?_
      · rw [g3, g2, pz_cell_o (by omega), hkd]
        congr 2
        apply List.ext_getElem?
        intro i
        by_cases hi : i < (ps_sh L h a).2
        · rw [List.getElem?_map, List.getElem?_range hi]
          by_cases hik : i = k
          · subst hik
            rw [List.getElem?_set_self hlen]
            exact congrArg some e4
          · rw [List.getElem?_set_ne (fun z => hik z.symm), List.getElem?_map, List.getElem?_range hi]
            exact congrArg some (e3 i hik)
        · rw [List.getElem?_eq_none (by simpa using hi), List.getElem?_eq_none (by simpa using hi)]
      · intro i hi hia
        exact pz_cell_congr (e2 (17 + i) (by omega)).1 (e2 (17 + i) (by omega)).2
    have hpf : (parseFieldDescriptor (T k).2.2.1 = some (ty k)) := (hty k hkN).1
    split at hg
    next x =>
      split at hg
      next ht =>
        cases hg
        have hne1 : ¬ pf_ty (kind - 10) k = 1 := by omega
        rw [if_neg hne1] at hfin
        have hfv : pz_fv Z (h.1, h.2.1, pi_up h.2.2 a k x) a (kind - 10) k = .int x := by
          unfold pz_fv
          rw [if_neg hne1]
          show Value.int (pi_up h.2.2 a k x a k) = _
          unfold pi_up
          rw [if_pos ⟨rfl, rfl⟩]
        have hW := key (.int x) (h.1, h.2.1, pi_up h.2.2 a k x) rfl (fun b hb => ⟨rfl, pi_up_off hb⟩) (fun i hi => by
          unfold pz_fv
          split
          · rfl
          · show Value.int (pi_up h.2.2 a k x a i) = _
            unfold pi_up
            rw [if_neg (fun z => hi z.2)]) hfv
        have hnf : narrow (ty k) (.int x) = .int x ∧ fits (ty k) (.int x) = true := by
          rcases (hty k hkN).2 with ⟨z1, z2⟩ | ⟨z1, z2⟩ | ⟨z1, z2⟩
          · rw [z2]; exact ⟨rfl, rfl⟩
          · rw [z2]
            rcases ht with z | ⟨-, z | z⟩
            · omega
            · subst z; decide
            · subst z; decide
          · omega
        refine va_put (ref := C) (v := .int x) hx hb hts (pz_words hcl) ty (fun i hi => (hty i hi).1) hnames hown hK hP (pz_W_D Z h) hS (a - 17) hat hcl k hkN (hts _ hlink) (fun x h => by rw [hTC] at h; exact h) hfin hpf hnf.1 hnf.2 hlen hd (fun H1 locs1 p1 d1 s1 => ?_)
        rw [hW] at p1
        exact q H1 locs1 ls cells slots p1 s1 hl (fun b hb => by rw [show (h.1, h.2.1, pi_up h.2.2 a k x).2.2 b = h.2.2 b from pi_up_off (by omega)]; exact he b hb) hc hs
      next => cases hg
    next b =>
      split at hg
      next ht =>
        cases hg
        rw [if_pos ht] at hfin
        have hfv : pz_fv Z (h.1, pr_up h.2.1 a k (b + 1), h.2.2) a (kind - 10) k = .ref (pz_ad Z b) := by
          unfold pz_fv
          rw [if_pos ht]
          show va_rf (pz_rf Z (pr_up h.2.1 a k (b + 1) a k)) = _
          unfold pr_up
          rw [if_pos ⟨rfl, rfl⟩]
          unfold pz_rf
          rw [if_neg (by omega)]
          rfl
        have hW := key (.ref (pz_ad Z b)) (h.1, pr_up h.2.1 a k (b + 1), h.2.2) rfl (fun b hb => ⟨pr_up_off hb, rfl⟩) (fun i hi => by
          unfold pz_fv
          split
          · show va_rf (pz_rf Z (pr_up h.2.1 a k (b + 1) a i)) = _
            unfold pr_up
            rw [if_neg (fun z => hi z.2)]
          · rfl) hfv
        have hnf : narrow (ty k) (.ref (pz_ad Z b)) = .ref (pz_ad Z b) ∧ fits (ty k) (.ref (pz_ad Z b)) = true := by
          rcases (hty k hkN).2 with ⟨z1, z2⟩ | ⟨z1, z2⟩ | ⟨z1, ⟨n, z2⟩ | ⟨t, z2⟩⟩
          · omega
          · omega
          · rw [z2]; exact ⟨rfl, rfl⟩
          · rw [z2]; exact ⟨rfl, rfl⟩
        refine va_putF (ref := C) (v := .ref (pz_ad Z b)) hx hb hts (pz_words hcl) ty (fun i hi => (hty i hi).1) hnames hown hK hP (pz_W_D Z h) hS (a - 17) hat hcl k hkN (hts _ hlink) (fun x h => by rw [hTC] at h; exact h) hfin.1 (by rw [hnm]; exact hfin.2.1) (by rw [hTC]; exact hfin.2.2) hpf hnf.1 hnf.2 hlen hd (fun H1 locs1 p1 d1 s1 => ?_)
        rw [hW] at p1
        exact q H1 locs1 ls cells slots p1 s1 hl he hc hs
      next => cases hg
    next => cases hg
  next => cases hg
end PH
end
section
/-! ONE STEP at arrays -/
section PA
variable {Z : pz_T} {L : Nat} {p : Program} {l : Launch} {e : Env} {R : Room} {s : State} {m : MethodId} {args : Array Value} {below : List Frame} {meth : Method} {c : Code} {Q : State → Prop} {G : pm_T} {h0 : ph_T} {n0 t0 : Nat}
variable {pc nx k : Nat} {v : Int} {lv : List (Nat × Value)} {st : List Value} {h : ph_T} {x1 : ps_T}
theorem sd_iald (C0 : pz_C Z L p R s m args meth c G h0 n0) {a : Nat} {i : Int32} (hd : decode G.2.2.1 pc = .ok (.iaload, 1)) {w : Value} (hg : pa_ld L h [0] a i = some w) (q : pz_J Z p l e R s m args below meth c Q G h0 n0 t0 (pc + 1, lv, w :: st, h)) : pz_J Z p l e R s m args below meth c Q G h0 n0 t0 (pc, lv, .int i :: .ref a :: st, h) := by
  obtain ⟨⟨hx, hb, -, hown, hts⟩, ⟨hK, hX, -, hsz⟩, -⟩ := C0
  intro H locs ls cells slots hP hS hl he hc hs
  have hP : pz_P Z h H := hP
  have q := q H locs ls cells slots hP hS hl he hc hs
  unfold pa_ld at hg
  split at hg
  next hk =>
    cases hg
    obtain ⟨hk1, hk2⟩ := hk
    have hin := pa_in_iff.mp hk2
    have hk0 : (ps_sh L h a).1 = 0 := by simpa using hk1
    show W p l e R s m args below meth c H locs cells slots Q (F0 m pc ls (.int i :: .ref (pz_ad Z a) :: st.map (pz_v Z)))
    by_cases ha : a < 17
    · rw [ps_sh_ext ha] at hk0 hin
      rw [pz_ad_ext ha]
      obtain ⟨⟨a1, a2⟩, ⟨b1, -⟩, ⟨c1, -⟩, -⟩ := hX
      have q : W p l e R s m args below meth c H locs cells slots Q (F0 m (pc + 1) ls (.int (h0.2.2 a i.toNatClampNeg) :: st.map (pz_v Z))) := by
        have q2 := q
        rw [show (pc + 1, lv, Value.int (h.2.2 a i.toNatClampNeg) :: st, h).2.2.1 = Value.int (h.2.2 a i.toNatClampNeg) :: st from rfl, he a ha] at q2
        exact q2
      rcases (by rcases px_kinds a ha L with z | z | z <;> omega : a = 0 ∨ a = 1 ∨ a = 2) with rfl | rfl | rfl
      · exact va_sld hx hb a1 (by omega) (show ¬ Z.2.2.1 ≤ Z.2.2.2.1 0 by omega) hS hin hd q
      · exact va_ti hx hb b1 hS hin rfl hd q
      · exact va_ti hx hb c1 hS hin rfl hd q
    · have hat := pz_at (Z := Z) (L := L) (h := h) (a := a) (by omega) rfl (by omega)
      rw [pz_cell_i (by omega)] at hat
      exact va_iald hx hb hK hP (a - 17) 0 hat (by rw [hk0]; exact pz_tys_at Z (by omega)) hin hd q
  next => cases hg
theorem sd_bald (C0 : pz_C Z L p R s m args meth c G h0 n0) {a : Nat} {i : Int32} (hd : decode G.2.2.1 pc = .ok (.baload, 1)) {w : Value} (hg : pa_ld L h [1, 3] a i = some w) (q : pz_J Z p l e R s m args below meth c Q G h0 n0 t0 (pc + 1, lv, w :: st, h)) : pz_J Z p l e R s m args below meth c Q G h0 n0 t0 (pc, lv, .int i :: .ref a :: st, h) := by
  obtain ⟨⟨hx, hb, -, hown, hts⟩, ⟨hK, hX, -, hsz⟩, -⟩ := C0
  intro H locs ls cells slots hP hS hl he hc hs
  have hP : pz_P Z h H := hP
  have q := q H locs ls cells slots hP hS hl he hc hs
  unfold pa_ld at hg
  split at hg
  next hk =>
    cases hg
    obtain ⟨hk1, hk2⟩ := hk
    have hin := pa_in_iff.mp hk2
    have hk0 : (ps_sh L h a).1 = 1 ∨ (ps_sh L h a).1 = 3 := by simpa using hk1
    show W p l e R s m args below meth c H locs cells slots Q (F0 m pc ls (.int i :: .ref (pz_ad Z a) :: st.map (pz_v Z)))
    by_cases ha : a < 17
    · rw [ps_sh_ext ha] at hk0 hin
      rw [pz_ad_ext ha]
      obtain ⟨-, -, -, -, -, f1⟩ := hX
      obtain ⟨i', rfl⟩ : ∃ i', a = 10 + i' := ⟨a - 10, by rcases px_kinds a ha L with z | z | z <;> omega⟩
      have f1 := (f1 i' (by omega)).2.2.2
      have q : W p l e R s m args below meth c H locs cells slots Q (F0 m (pc + 1) ls (.int (h0.2.2 (10 + i') i.toNatClampNeg) :: st.map (pz_v Z))) := by
        have q2 := q
        rw [show (pc + 1, lv, Value.int (h.2.2 (10 + i') i.toNatClampNeg) :: st, h).2.2.1 = Value.int (h.2.2 (10 + i') i.toNatClampNeg) :: st from rfl, he _ ha] at q2
        exact q2
      exact va_tb hx hb f1 hS hin rfl hd q
    · have hat := pz_at (Z := Z) (L := L) (h := h) (a := a) (by omega) rfl (by omega)
      rw [pz_cell_i (by omega)] at hat
      rcases hk0 with hk0 | hk0
      · exact va_bald hx hb hK hP (a - 17) 1 hat (by rw [hk0]; exact pz_tys_at Z (by omega)) hin hd q
      · exact va_zald hx hb hK hP (a - 17) 3 hat (by rw [hk0]; exact pz_tys_at Z (by omega)) hin hd q
  next => cases hg
theorem sd_sald (C0 : pz_C Z L p R s m args meth c G h0 n0) {a : Nat} {i : Int32} (hd : decode G.2.2.1 pc = .ok (.saload, 1)) {w : Value} (hg : pa_ld L h [2] a i = some w) (q : pz_J Z p l e R s m args below meth c Q G h0 n0 t0 (pc + 1, lv, w :: st, h)) : pz_J Z p l e R s m args below meth c Q G h0 n0 t0 (pc, lv, .int i :: .ref a :: st, h) := by
  obtain ⟨⟨hx, hb, -, hown, hts⟩, ⟨hK, hX, -, hsz⟩, -⟩ := C0
  intro H locs ls cells slots hP hS hl he hc hs
  have hP : pz_P Z h H := hP
  have q := q H locs ls cells slots hP hS hl he hc hs
  unfold pa_ld at hg
  split at hg
  next hk =>
    cases hg
    obtain ⟨hk1, hk2⟩ := hk
    have hin := pa_in_iff.mp hk2
    have hk0 : (ps_sh L h a).1 = 2 := by simpa using hk1
    have ha : 17 ≤ a := by
      by_cases ha : a < 17
      · rw [ps_sh_ext ha] at hk0
        rcases px_kinds a ha L with z | z | z <;> omega
      · omega
    have hat := pz_at (Z := Z) (L := L) (h := h) (a := a) (by omega) rfl (by omega)
    rw [pz_cell_i (by omega)] at hat
    exact va_sald hx hb hK hP (a - 17) 2 hat (by rw [hk0]; exact pz_tys_at Z (by omega)) hin hd q
  next => cases hg
theorem sd_aald (C0 : pz_C Z L p R s m args meth c G h0 n0) {a : Nat} {i : Int32} (hd : decode G.2.2.1 pc = .ok (.aaload, 1)) {w : Value} (hg : pa_ldr L h a i = some w) (q : pz_J Z p l e R s m args below meth c Q G h0 n0 t0 (pc + 1, lv, w :: st, h)) : pz_J Z p l e R s m args below meth c Q G h0 n0 t0 (pc, lv, .int i :: .ref a :: st, h) := by
  obtain ⟨⟨hx, hb, -, hown, hts⟩, ⟨hK, hX, -, hsz⟩, -⟩ := C0
  intro H locs ls cells slots hP hS hl he hc hs
  have hP : pz_P Z h H := hP
  have q := q H locs ls cells slots hP hS hl he hc hs
  unfold pa_ldr at hg
  split at hg
  next hk =>
    cases hg
    obtain ⟨ha, hk1, hk2, hk3⟩ := hk
    have hin := pa_in_iff.mp hk2
    have hk0 : (ps_sh L h a).1 = 4 ∨ (ps_sh L h a).1 = 5 ∨ (ps_sh L h a).1 = 6 := by simpa using hk1
    have hat := pz_at (Z := Z) (L := L) (h := h) (a := a) (by omega) rfl (by omega)
    rw [pz_cell_r (by omega) (by omega)] at hat
    have e1 : pz_rf Z (h.2.1 a i.toNatClampNeg) = some (pz_ad Z (h.2.1 a i.toNatClampNeg - 1)) := by unfold pz_rf; rw [if_neg hk3]
    have q : W p l e R s m args below meth c H locs cells slots Q (F0 m (pc + 1) ls (va_rf (pz_rf Z (h.2.1 a i.toNatClampNeg)) :: st.map (pz_v Z))) := by rw [e1]; exact q
    have hT := pz_tys_at Z (show (ps_sh L h a).1 < 7 by omega)
    rcases hk0 with hk0 | hk0 | hk0 <;> (have hT' := hT; rw [show pk_ft (ps_sh L h a).1 = _ from congrArg pk_ft hk0] at hT'; exact va_aldq (f := fun j => pz_rf Z (h.2.1 a j)) hx hb hK hP (a - 17) _ hat hT' hin hd q)
  next => cases hg
theorem pz_st_key {a : Nat} {i : Nat} {x : Int32} (ha : 17 ≤ a) (hk : (ps_sh L h a).1 < 4) : (pz_W Z h).set (a - 17) (pz_ad Z a, .inl (Z.2.1 (ps_sh L h a).1, (ps_sh L h a).2, .inl (upd (h.2.2 a) i x))) = pz_W Z (h.1, h.2.1, pi_up h.2.2 a i x) := by
  obtain ⟨g1, g2, g3⟩ := pz_sh_in (L := L) (h := h) (a := a) ha rfl (by omega)
  rw [pz_ad_in ha]
  refine pz_W_set (h := h) (h1 := (h.1, h.2.1, pi_up h.2.2 a i x)) rfl g1 ?_ ?_
  · rw [g3, g2, pz_cell_i hk]
    show (Sum.inl (Z.2.1 (ps_sh L h a).1, (ps_sh L h a).2, Sum.inl (pi_up h.2.2 a i x a)) : va_E) = _
    rw [pi_up_row]
  · intro j hj hja
    exact pz_cell_congr rfl (pi_up_off (by omega))
theorem sd_iast (C0 : pz_C Z L p R s m args meth c G h0 n0) {a : Nat} {i x : Int32} (hd : decode G.2.2.1 pc = .ok (.iastore, 1)) {h1 : ph_T} (hg : pa_st L h [0] a i x = some h1) (q : pz_J Z p l e R s m args below meth c Q G h0 n0 t0 (pc + 1, lv, st, h1)) : pz_J Z p l e R s m args below meth c Q G h0 n0 t0 (pc, lv, .int x :: .int i :: .ref a :: st, h) := by
  obtain ⟨⟨hx, hb, -, hown, hts⟩, ⟨hK, hX, -, hsz⟩, -⟩ := C0
  intro H locs ls cells slots hP hS hl he hc hs
  have hP : pz_P Z h H := hP
  unfold pa_st at hg
  split at hg
  next hk =>
    cases hg
    obtain ⟨ha, hk1, hk2⟩ := hk
    have hin := pa_in_iff.mp hk2
    have hk0 : (ps_sh L h a).1 = 0 := by simpa using hk1
    have hat := pz_at (Z := Z) (L := L) (h := h) (a := a) (by omega) rfl (by omega)
    rw [pz_cell_i (by omega)] at hat
    refine va_iast hx hb hK hP (pz_W_D Z h) hS (a - 17) 0 hat (by rw [hk0]; exact pz_tys_at Z (by omega)) hin hd (fun H1 locs1 p1 d1 s1 => ?_)
    rw [pz_st_key (h := h) ha (by omega)] at p1
    refine q H1 locs1 ls cells slots ?_ s1 hl (fun b hb => (pi_up_off (by omega)).trans (he b hb)) hc hs
    rw [show pa_nar (ps_sh L h a).1 x = x by rw [hk0]; rfl]
    exact p1
  next => cases hg
theorem sd_bast (C0 : pz_C Z L p R s m args meth c G h0 n0) {a : Nat} {i x : Int32} (hd : decode G.2.2.1 pc = .ok (.bastore, 1)) {h1 : ph_T} (hg : pa_st L h [1, 3] a i x = some h1) (q : pz_J Z p l e R s m args below meth c Q G h0 n0 t0 (pc + 1, lv, st, h1)) : pz_J Z p l e R s m args below meth c Q G h0 n0 t0 (pc, lv, .int x :: .int i :: .ref a :: st, h) := by
  obtain ⟨⟨hx, hb, -, hown, hts⟩, ⟨hK, hX, -, hsz⟩, -⟩ := C0
  intro H locs ls cells slots hP hS hl he hc hs
  have hP : pz_P Z h H := hP
  unfold pa_st at hg
  split at hg
  next hk =>
    cases hg
    obtain ⟨ha, hk1, hk2⟩ := hk
    have hin := pa_in_iff.mp hk2
    have hk0 : (ps_sh L h a).1 = 1 ∨ (ps_sh L h a).1 = 3 := by simpa using hk1
    have hat := pz_at (Z := Z) (L := L) (h := h) (a := a) (by omega) rfl (by omega)
    rw [pz_cell_i (by omega)] at hat
    rcases hk0 with hk0 | hk0
    · refine va_bast hx hb hK hP (pz_W_D Z h) hS (a - 17) 1 hat (by rw [hk0]; exact pz_tys_at Z (by omega)) hin hd (fun H1 locs1 p1 d1 s1 => ?_)
      rw [pz_st_key (h := h) ha (by omega)] at p1
      refine q H1 locs1 ls cells slots ?_ s1 hl (fun b hb => (pi_up_off (by omega)).trans (he b hb)) hc hs
      rw [show pa_nar (ps_sh L h a).1 x = vp_nar .byte x by rw [hk0]; rfl]
      exact p1
    · refine va_zast hx hb hK hP (pz_W_D Z h) hS (a - 17) 3 hat (by rw [hk0]; exact pz_tys_at Z (by omega)) hin hd (fun H1 locs1 p1 d1 s1 => ?_)
      rw [pz_st_key (h := h) ha (by omega)] at p1
      refine q H1 locs1 ls cells slots ?_ s1 hl (fun b hb => (pi_up_off (by omega)).trans (he b hb)) hc hs
      rw [show pa_nar (ps_sh L h a).1 x = vp_nar .boolean x by rw [hk0]; rfl]
      exact p1
  next => cases hg
theorem sd_sast (C0 : pz_C Z L p R s m args meth c G h0 n0) {a : Nat} {i x : Int32} (hd : decode G.2.2.1 pc = .ok (.sastore, 1)) {h1 : ph_T} (hg : pa_st L h [2] a i x = some h1) (q : pz_J Z p l e R s m args below meth c Q G h0 n0 t0 (pc + 1, lv, st, h1)) : pz_J Z p l e R s m args below meth c Q G h0 n0 t0 (pc, lv, .int x :: .int i :: .ref a :: st, h) := by
  obtain ⟨⟨hx, hb, -, hown, hts⟩, ⟨hK, hX, -, hsz⟩, -⟩ := C0
  intro H locs ls cells slots hP hS hl he hc hs
  have hP : pz_P Z h H := hP
  unfold pa_st at hg
  split at hg
  next hk =>
    cases hg
    obtain ⟨ha, hk1, hk2⟩ := hk
    have hin := pa_in_iff.mp hk2
    have hk0 : (ps_sh L h a).1 = 2 := by simpa using hk1
    have hat := pz_at (Z := Z) (L := L) (h := h) (a := a) (by omega) rfl (by omega)
    rw [pz_cell_i (by omega)] at hat
    refine va_sast hx hb hK hP (pz_W_D Z h) hS (a - 17) 2 hat (by rw [hk0]; exact pz_tys_at Z (by omega)) hin hd (fun H1 locs1 p1 d1 s1 => ?_)
    rw [pz_st_key (h := h) ha (by omega)] at p1
    refine q H1 locs1 ls cells slots ?_ s1 hl (fun b hb => (pi_up_off (by omega)).trans (he b hb)) hc hs
    rw [show pa_nar (ps_sh L h a).1 x = vp_nar .short x by rw [hk0]; rfl]
    exact p1
  next => cases hg
theorem sd_aast (C0 : pz_C Z L p R s m args meth c G h0 n0) {a b : Nat} {i : Int32} (hd : decode G.2.2.1 pc = .ok (.aastore, 1)) {h1 : ph_T} (hg : pa_str L h a i b = some h1) (q : pz_J Z p l e R s m args below meth c Q G h0 n0 t0 (pc + 1, lv, st, h1)) : pz_J Z p l e R s m args below meth c Q G h0 n0 t0 (pc, lv, .ref b :: .int i :: .ref a :: st, h) := by
  obtain ⟨⟨hx, hb, -, hown, hts⟩, ⟨hK, hX, -, hsz⟩, -⟩ := C0
  intro H locs ls cells slots hP hS hl he hc hs
  have hP : pz_P Z h H := hP
  unfold pa_str at hg
  split at hg
  next hk =>
    cases hg
    obtain ⟨ha, hb7, hk1, hk2, hk3⟩ := hk
    have hin := pa_in_iff.mp hk2
    have hk0 : (ps_sh L h a).1 = 4 ∨ (ps_sh L h a).1 = 5 ∨ (ps_sh L h a).1 = 6 := by simpa using hk1
    obtain ⟨g1, g2, g3⟩ := pz_sh_in (L := L) (h := h) (a := a) ha rfl (by omega)
    have hat := pz_at (Z := Z) (L := L) (h := h) (a := a) (by omega) rfl (by omega)
    rw [pz_cell_r (by omega) (by omega)] at hat
    have hW : (pz_W Z h).set (a - 17) (pz_ad Z a, .inl (Z.2.1 (ps_sh L h a).1, (ps_sh L h a).2, .inr (.inr (.inr (.inr (va_up (fun j => pz_rf Z (h.2.1 a j)) i.toNatClampNeg (some (pz_ad Z b)))))))) = pz_W Z (h.1, pr_up h.2.1 a i.toNatClampNeg (b + 1), h.2.2) := by
      rw [pz_ad_in ha]
      refine pz_W_set (h := h) (h1 := (h.1, pr_up h.2.1 a i.toNatClampNeg (b + 1), h.2.2)) rfl g1 ?_ ?_
      · rw [g3, g2, pz_cell_r (by omega) (by omega)]
        congr 7
        funext j
        show pz_rf Z (pr_up h.2.1 a i.toNatClampNeg (b + 1) a j) = _
        unfold pr_up va_up
        by_cases hj : j = i.toNatClampNeg
        · rw [if_pos ⟨rfl, hj⟩, if_pos hj]
          unfold pz_rf
          rw [if_neg (by omega)]
          rfl
        · rw [if_neg (fun z => hj z.2), if_neg hj]
      · intro j hj hja
        exact pz_cell_congr (pr_up_off (by omega)) rfl
    have hT := pz_tys_at Z (show (ps_sh L h a).1 < 7 by omega)
    have hbk : (ps_sh L h b).1 = 15 ∨ (ps_sh L h b).1 = 14 ∨ (ps_sh L h b).1 = 10 := by rcases hk0 with z | z | z <;> (rw [z] at hk3; simp [pa_el] at hk3; omega)
    have hbt := pz_at (Z := Z) (L := L) (h := h) (a := b) hb7 rfl (by omega)
    rw [pz_cell_o (by omega)] at hbt
    have fin : ∀ (r : vw_C), pk_ft (ps_sh L h a).1 = .object r.1 → vwCl[(ps_sh L h b).1 - 10]? = some r → W p l e R s m args below meth c H locs cells slots Q (F0 m pc ls (.ref (pz_ad Z b) :: .int i :: .ref (pz_ad Z a) :: st.map (pz_v Z))) := by
      intro r hr hcl
      rw [hr] at hT
      refine va_astq hx hb hK hP (pz_W_D Z h) hS (a - 17) _ (b - 17) _ hat hT hbt hcl hin hd (fun H1 locs1 p1 d1 s1 => ?_)
      rw [hW] at p1
      exact q H1 locs1 ls cells slots p1 s1 hl he hc hs
    rcases hk0 with z | z | z
    · rw [z] at hk3
      exact fin (RX5, TX5, 4) (by rw [z]; rfl) (by rw [hk3]; rfl)
    · rw [z] at hk3
      exact fin (RX4, TX4, 9) (by rw [z]; rfl) (by rw [hk3]; rfl)
    · rw [z] at hk3
      exact fin (RX0, TX0, 2) (by rw [z]; rfl) (by rw [hk3]; rfl)
  next => cases hg
theorem sd_alen (C0 : pz_C Z L p R s m args meth c G h0 n0) {a : Nat} (hd : decode G.2.2.1 pc = .ok (.arraylength, 1)) {w : Value} (hg : pa_len L h a = some w) (q : pz_J Z p l e R s m args below meth c Q G h0 n0 t0 (pc + 1, lv, w :: st, h)) : pz_J Z p l e R s m args below meth c Q G h0 n0 t0 (pc, lv, .ref a :: st, h) := by
  obtain ⟨⟨hx, hb, -, hown, hts⟩, ⟨hK, hX, -, hsz⟩, -⟩ := C0
  intro H locs ls cells slots hP hS hl he hc hs
  have hP : pz_P Z h H := hP
  have q := q H locs ls cells slots hP hS hl he hc hs
  unfold pa_len at hg
  split at hg
  next hk =>
    cases hg
    show W p l e R s m args below meth c H locs cells slots Q (F0 m pc ls (.ref (pz_ad Z a) :: st.map (pz_v Z)))
    by_cases ha : a < 17
    · rw [pz_ad_ext ha]
      rw [ps_sh_ext ha] at hk q
      obtain ⟨⟨a1, a2⟩, ⟨b1, -⟩, ⟨c1, -⟩, -, -, f1⟩ := hX
      by_cases h10 : 10 ≤ a
      · obtain ⟨i', rfl⟩ : ∃ i', a = 10 + i' := ⟨a - 10, by omega⟩
        exact va_tlen hx hb (f1 i' (by omega)).2.2.2 hS rfl hd q
      · rcases (by rcases px_kinds a ha L with z | z | z <;> omega : a = 0 ∨ a = 1 ∨ a = 2) with rfl | rfl | rfl
        · exact va_slen hx hb a1 (by omega) (show ¬ Z.2.2.1 ≤ Z.2.2.2.1 0 by omega) hS hd q
        · exact va_tlen hx hb b1 hS rfl hd q
        · exact va_tlen hx hb c1 hS rfl hd q
    · have hat := pz_at (Z := Z) (L := L) (h := h) (a := a) (by omega) rfl (by omega)
      by_cases h4 : (ps_sh L h a).1 < 4
      · rw [pz_cell_i h4] at hat
        exact va_alen hx hb hK hP (a - 17) (ps_sh L h a).1 hat (pz_tys_at Z (by omega)) rfl hd q
      · rw [pz_cell_r (by omega) (by omega)] at hat
        exact va_alen hx hb hK hP (a - 17) (ps_sh L h a).1 hat (pz_tys_at Z (by omega)) rfl hd q
  next => cases hg
theorem sd_cpy (C0 : pz_C Z L p R s m args meth c G h0 n0) (hw : Cond.native arraycopyName ∈ pz_B ∧ Cond.static arraycopyName ∈ pz_B ∧ Cond.initialized "java/lang/System" ∈ pz_B ∧ nativeFrameWords "java/lang/System" "arraycopy" 5 + 11 ≤ 60) {j a0 a1 : Nat} {sp dp n : Int32} (hd : decode G.2.2.1 pc = .ok (.invokestatic j, 3)) (hlk : Cond.methodLink G.1 j arraycopyName ∈ pz_B) {h1 : ph_T} (hg : pa_cpy L h a0 sp a1 dp n = some h1) (q : pz_J Z p l e R s m args below meth c Q G h0 n0 t0 (pc + 3, lv, [], h1)) : pz_J Z p l e R s m args below meth c Q G h0 n0 t0 (pc, lv, [.int n, .int dp, .ref a1, .int sp, .ref a0], h) := by
  obtain ⟨⟨hx, hb, hml, hown, hts⟩, ⟨hK, hX, -, hsz⟩, -, -, hR1, hR2⟩ := C0
  intro H locs ls cells slots hP hS hl he hc hs
  have hP : pz_P Z h H := hP
  unfold pa_cpy at hg
  split at hg
  next hk =>
    cases hg
    obtain ⟨⟨ha0, ha1, hk0, hk1⟩, z1, z2, z3, z4, z5⟩ := hk
    have hat0 := pz_at (Z := Z) (L := L) (h := h) (a := a0) ha0 rfl (by omega)
    rw [pz_cell_i (by omega)] at hat0
    have hat1 := pz_at (Z := Z) (L := L) (h := h) (a := a1) ha1 rfl (by omega)
    rw [pz_cell_i (by omega)] at hat1
    obtain ⟨g1, g2, g3⟩ := pz_sh_in (L := L) (h := h) (a := a1) ha1 rfl (by omega)
    have hW : (pz_W Z h).set (a1 - 17) (pz_ad Z a1, .inl (Z.2.1 (ps_sh L h a1).1, (ps_sh L h a1).2, .inl (va_cpy (h.2.2 a0) (h.2.2 a1) sp.toNatClampNeg dp.toNatClampNeg n.toNatClampNeg))) = pz_W Z (h.1, h.2.1, pi_row h.2.2 a1 (va_cpy (h.2.2 a0) (h.2.2 a1) sp.toNatClampNeg dp.toNatClampNeg n.toNatClampNeg)) := by
      rw [pz_ad_in ha1]
      refine pz_W_set (h := h) (h1 := (h.1, h.2.1, pi_row h.2.2 a1 (va_cpy (h.2.2 a0) (h.2.2 a1) sp.toNatClampNeg dp.toNatClampNeg n.toNatClampNeg))) rfl g1 ?_ ?_
      · rw [g3, g2, pz_cell_i (by omega)]
        show (Sum.inl (Z.2.1 (ps_sh L h a1).1, (ps_sh L h a1).2, Sum.inl (pi_row h.2.2 a1 _ a1)) : va_E) = _
        rw [pi_row_on]
      · intro j hj hja
        exact pz_cell_congr rfl (pi_row_off (by omega))
    refine va_copyi (ls := ls) (rest := []) hx hb (by rw [hml]; exact hl.1.symm) hown (hts _ hlk) (hts _ hw.1) (hts _ hw.2.1) (hts _ hw.2.2.1) hK hP (pz_W_D Z h) hS (a0 - 17) (a1 - 17) 0 0 (ty := .int) hat0 hat1 (by rw [hk0]; exact pz_tys_at Z (by omega)) (by rw [hk1]; exact pz_tys_at Z (by omega)) rfl z1 z2 z3 z4 z5 (fun i _ => rfl) hR1 (by simp only [List.map_nil, List.sum_nil]; omega) hd (fun H1 locs1 p1 d1 s1 => ?_)
    rw [hW] at p1
    exact q H1 locs1 ls cells slots p1 s1 hl (fun b hb => (pi_row_off (by omega)).trans (he b hb)) hc hs
  next => cases hg
end PA
end
section
/-! ONE STEP: what is made, constants, statics -/
section PM
variable {Z : pz_T} {L : Nat} {p : Program} {l : Launch} {e : Env} {R : Room} {s : State} {m : MethodId} {args : Array Value} {below : List Frame} {meth : Method} {c : Code} {Q : State → Prop} {G : pm_T} {h0 : ph_T} {n0 t0 : Nat}
variable {pc nx k : Nat} {v : Int} {lv : List (Nat × Value)} {st : List Value} {h : ph_T} {x1 : ps_T}
/-- behind a making: the world with the new cell -/
theorem pz_made {H H1 : Heap} {kind n : Nat} (hP : pz_P Z h H) (o1 : ∀ q : Nat, q < H.size → H1[q]? = H[q]?) (hat : va_at Z.1 vwCl (Z.2.2.1 + h.1.length, pz_cell Z (ph_new h kind n) (17 + h.1.length) (kind, n)) H1) : pz_P Z (ph_new h kind n) H1 := by
  unfold pz_P
  rw [pz_W_push]
  refine va_P.app (va_P.kept hP (fun k x hx => o1 x.1 ((hP k x hx).lt))) (fun k x hx => ?_)
  have hz : k < 1 := (List.getElem?_eq_some_iff.mp hx).1
  rw [show k = 0 by omega] at hx
  cases hx
  exact hat
theorem pz_made_ext {kind n : Nat} {a : Nat} (ha : a < 17) : (ph_new h kind n).2.2 a = h.2.2 a := pi_row_off (by omega)
theorem pz_size_eq {H : Heap} {locs : List Loc} {cells : Nat} (hP : pz_P Z h H) (hS : va_S (pz_A Z) s.heap H locs) (hsz : s.heap.size = Z.2.2.1 + n0) (hc : cells + n0 = h.1.length) (hle : H.size ≤ s.heap.size + cells) : H.size = Z.2.2.1 + h.1.length := by
  have h1 := pz_P_size hP (by have := hS.1; omega)
  omega
theorem sd_new (C0 : pz_C Z L p R s m args meth c G h0 n0) {j : Nat} (hd : decode G.2.2.1 pc = .ok (.new j, 3)) (hk : k < 10) (ho : ∃ C T N, vwCl[k]? = some (C, T, N) ∧ Cond.classLink G.1 j C ∈ pz_B ∧ Cond.instantiable C N ∈ pz_B ∧ Cond.initialized C ∈ pz_B ∧ N = pf_n k)
    (hr : (ph_new h (10 + k) (pf_n k)).1.length ≤ n0 + R.cells ∧ pz_tot (ph_new h (10 + k) (pf_n k)).1 ≤ t0 + R.slots)
    (q : pz_J Z p l e R s m args below meth c Q G h0 n0 t0 (pc + 3, lv, .ref (17 + h.1.length) :: st, ph_new h (10 + k) (pf_n k))) : pz_J Z p l e R s m args below meth c Q G h0 n0 t0 (pc, lv, st, h) := by
  obtain ⟨⟨hx, hb, -, hown, hts⟩, ⟨hK, hX, -, hsz⟩, -⟩ := C0
  intro H locs ls cells slots hP hS hl he hc hs
  have hP : pz_P Z h H := hP
  have hc : cells + n0 = h.1.length := hc
  have hs : slots + t0 = pz_tot h.1 := hs
  obtain ⟨C, T, N, hcl, w1, w2, w3, rfl⟩ := ho
  obtain ⟨-, ty, hty⟩ := pz_names hcl
  have hKn := hK.1 k _ hcl
  refine pz_sized (fun hle => ?_)
  have hHs := pz_size_eq hP hS hsz hc hle
  have r1 : (ph_new h (10 + k) (pf_n k)).1.length = h.1.length + 1 := by simp [ph_new]
  have r2 : pz_tot (ph_new h (10 + k) (pf_n k)).1 = pz_tot h.1 + pf_n k := pz_tot_push _ _
  refine W.newcK hx hb hown (hts _ w1) (hts _ w2) (hts _ w3) rfl hd (by omega) (by omega) hKn.2.1 hHs fun H1 kC hkC e1 z1 o1 => ?_
  have hat : va_at Z.1 vwCl (Z.2.2.1 + h.1.length, pz_cell Z (ph_new h (10 + k) (pf_n k)) (17 + h.1.length) (10 + k, pf_n k)) H1 := by
    rw [pz_cell_o (by show 7 ≤ 10 + k; omega), show (10 + k, pf_n k).1 - 10 = k by show 10 + k - 10 = k; omega]
    refine ⟨_, hcl, (u_born ty hts (pz_words hcl) hKn hkC e1 (fun i hi => (hty i hi).1)).to (fun i hi => ?_)⟩
    have e2 : vp_V (List.map (fun j => pz_fv Z (ph_new h (10 + k) (pf_n k)) (17 + h.1.length) k j) (List.range (pf_n k))) i = pz_fv Z (ph_new h (10 + k) (pf_n k)) (17 + h.1.length) k i := by
      unfold vp_V
      rw [List.getD_eq_getElem?_getD, List.getElem?_map, List.getElem?_range hi]
      rfl
    show defaultValue (ty i) = vp_V _ i
    refine Eq.trans ?_ e2.symm
    unfold pz_fv
    have f1 : (ph_new h (10 + k) (pf_n k)).2.1 (17 + h.1.length) i = 0 := congrFun (pr_row_on (f := h.2.1) (a := 17 + h.1.length) (g := fun _ => 0)) i
    have f2 : (ph_new h (10 + k) (pf_n k)).2.2 (17 + h.1.length) i = 0 := congrFun (pi_row_on (f := h.2.2) (a := 17 + h.1.length) (g := fun _ => 0)) i
    rw [f1, f2]
    rcases (hty i hi).2 with ⟨g1, g2⟩ | ⟨g1, g2⟩ | ⟨g1, ⟨n, g2⟩ | ⟨t, g2⟩⟩ <;> rw [g1, g2] <;> rfl
  have qq := q H1 locs ls (cells + 1) (slots + pf_n k) (pz_made hP (fun x hx => o1 x (by omega)) hat) ⟨Nat.le_trans hS.1 (by omega), fun x h1 h2 => (o1 x (by have := hS.1; omega)).trans (hS.2.1 x h1 h2), hS.2.2⟩ hl (fun a ha => (pz_made_ext ha).trans (he a ha)) (by show _ = (ph_new h (10 + k) (pf_n k)).1.length; omega) (by show _ = pz_tot (ph_new h (10 + k) (pf_n k)).1; omega)
  have e3 : pz_v Z (.ref (17 + h.1.length)) = .ref (Z.2.2.1 + h.1.length) := by show Value.ref (pz_ad Z _) = _; rw [pz_ad_in (by omega), show 17 + h.1.length - 17 = h.1.length by omega]
  rw [← e3]
  exact qq
theorem sd_newa (C0 : pz_C Z L p R s m args meth c G h0 n0) {t : ArrayType} (hd : decode G.2.2.1 pc = .ok (.newarray t, 2)) (ho : k < 4 ∧ newarray.typeOf t = pk_ft k ∧ Cond.arrayClass (pk_ft k) ∈ pz_B) {n : Int32} {h1 : ph_T} (hg : pa_new h k n = some h1)
    (hr : h1.1.length ≤ n0 + R.cells ∧ pz_tot h1.1 ≤ t0 + R.slots)
    (q : pz_J Z p l e R s m args below meth c Q G h0 n0 t0 (pc + 2, lv, .ref (17 + h.1.length) :: st, h1)) : pz_J Z p l e R s m args below meth c Q G h0 n0 t0 (pc, lv, .int n :: st, h) := by
  obtain ⟨⟨hx, hb, -, hown, hts⟩, ⟨hK, hX, -, hsz⟩, -⟩ := C0
  intro H locs ls cells slots hP hS hl he hc hs
  have hP : pz_P Z h H := hP
  have hc : cells + n0 = h.1.length := hc
  have hs : slots + t0 = pz_tot h.1 := hs
  obtain ⟨hk, ht, hw⟩ := ho
  unfold pa_new at hg
  split at hg
  next hn =>
    cases hg
    refine pz_sized (fun hle => ?_)
    have hHs := pz_size_eq hP hS hsz hc hle
    have r1 : (ph_new h k n.toNatClampNeg).1.length = h.1.length + 1 := by simp [ph_new]
    have r2 : pz_tot (ph_new h k n.toNatClampNeg).1 = pz_tot h.1 + n.toNatClampNeg := pz_tot_push _ _
    have hkk : k = 0 ∨ k = 1 ∨ k = 2 ∨ k = 3 := by omega
    have hdef : defaultValue (newarray.typeOf t) = .int 0 := by rw [ht]; rcases hkk with rfl | rfl | rfl | rfl <;> rfl
    have hcb : componentBytes (newarray.typeOf t) ≤ 4 := by rw [ht]; rcases hkk with rfl | rfl | rfl | rfl <;> decide
    refine va_newaK hx hb (by rw [ht]; exact hts _ hw) rfl hd rfl hn.1 rfl (Nat.le_trans (Nat.mul_le_mul hn.2 hcb) (by decide)) (by omega) (by omega) hHs fun H1 cA e1 z1 o1 hAr hNm => ?_
    have hcA : cA = Z.2.1 k := by
      have h2 := (hK.2 k _ (pz_tys_at Z (by omega))).2
      rw [ht] at hNm
      rcases hkk with rfl | rfl | rfl | rfl
      all_goals exact Option.some.inj (hNm.symm.trans h2)
    have hat : va_at Z.1 vwCl (Z.2.2.1 + h.1.length, pz_cell Z (ph_new h k n.toNatClampNeg) (17 + h.1.length) (k, n.toNatClampNeg)) H1 := by
      rw [pz_cell_i hk]
      show H1[Z.2.2.1 + h.1.length]? = some (vp_cell (Z.2.1 k) (n.toNatClampNeg, .inl ((ph_new h k n.toNatClampNeg).2.2 (17 + h.1.length))))
      rw [vp_cell_i, show (ph_new h k n.toNatClampNeg).2.2 (17 + h.1.length) = fun _ => 0 from pi_row_on, e1, hdef, hcA]
    have qq := q H1 locs ls (cells + 1) (slots + n.toNatClampNeg) (pz_made hP (fun x hx => o1 x (by omega)) hat) ⟨Nat.le_trans hS.1 (by omega), fun x h1 h2 => (o1 x (by have := hS.1; omega)).trans (hS.2.1 x h1 h2), hS.2.2⟩ hl (fun a ha => (pz_made_ext ha).trans (he a ha)) (by show _ = (ph_new h k n.toNatClampNeg).1.length; omega) (by show _ = pz_tot (ph_new h k n.toNatClampNeg).1; omega)
    have e3 : pz_v Z (.ref (17 + h.1.length)) = .ref (Z.2.2.1 + h.1.length) := by show Value.ref (pz_ad Z _) = _; rw [pz_ad_in (by omega), show 17 + h.1.length - 17 = h.1.length by omega]
    rw [← e3]
    exact qq
  next => cases hg
theorem sd_anew (C0 : pz_C Z L p R s m args meth c G h0 n0) {j : Nat} (hd : decode G.2.2.1 pc = .ok (.anewarray j, 3)) (ho : 4 ≤ k ∧ k < 7 ∧ ∃ C, pk_ft k = .object C ∧ (C = RX5 ∨ C = RX4 ∨ C = RX0) ∧ Cond.classLink G.1 j C ∈ pz_B) {n : Int32} {h1 : ph_T} (hg : pa_new h k n = some h1)
    (hr : h1.1.length ≤ n0 + R.cells ∧ pz_tot h1.1 ≤ t0 + R.slots)
    (q : pz_J Z p l e R s m args below meth c Q G h0 n0 t0 (pc + 3, lv, .ref (17 + h.1.length) :: st, h1)) : pz_J Z p l e R s m args below meth c Q G h0 n0 t0 (pc, lv, .int n :: st, h) := by
  obtain ⟨⟨hx, hb, -, hown, hts⟩, ⟨hK, hX, hN, hsz⟩, -⟩ := C0
  intro H locs ls cells slots hP hS hl he hc hs
  have hP : pz_P Z h H := hP
  have hc : cells + n0 = h.1.length := hc
  have hs : slots + t0 = pz_tot h.1 := hs
  obtain ⟨hk4, hk7, C, hC, hC3, hw⟩ := ho
  have hAO : va_AO C s := by
    obtain ⟨-, ⟨a1, a2, a3⟩, -⟩ := hN
    rcases hC3 with rfl | rfl | rfl
    · exact a1
    · exact a2
    · exact a3
  unfold pa_new at hg
  split at hg
  next hn =>
    cases hg
    refine pz_sized (fun hle => ?_)
    have hHs := pz_size_eq hP hS hsz hc hle
    have r1 : (ph_new h k n.toNatClampNeg).1.length = h.1.length + 1 := by simp [ph_new]
    have r2 : pz_tot (ph_new h k n.toNatClampNeg).1 = pz_tot h.1 + n.toNatClampNeg := pz_tot_push _ _
    refine W.anew hx hb hown (hts _ hw) (va_AO.use hAO) rfl hd rfl hn.1 (Nat.le_trans (Nat.mul_le_mul hn.2 (Nat.le_refl 4)) (by decide)) (by omega) (by omega) fun cA kA comp f1 f2 f3 f4 => ?_
    generalize hH1 : H.push ({ cls := cA, slots := Array.replicate n.toNatClampNeg .null, vm := .none } : Cell) = H1
    have z1 : H1.size = H.size + 1 := by rw [← hH1, Array.size_push]
    have e1 : H1[H.size]? = some (arrV cA n.toNatClampNeg (fun _ => .null)) := by rw [← hH1, Array.getElem?_push_size, ← arrV_new]
    have o1 : ∀ q : Nat, q < H.size → H1[q]? = H[q]? := fun q hq => by rw [← hH1, Array.getElem?_push, if_neg (Nat.ne_of_lt hq)]
    have hcA : cA = Z.2.1 k := by
      have h2 := (hK.2 k _ (pz_tys_at Z (by omega))).2
      rw [show ((Z.2.1 k, pk_ft k) : ClassId × FieldType).2 = .object C from hC] at h2
      obtain ⟨kA', comp', -, -, -, h3⟩ := h2
      exact Option.some.inj (f1.symm.trans h3)
    have hat : va_at Z.1 vwCl (Z.2.2.1 + h.1.length, pz_cell Z (ph_new h k n.toNatClampNeg) (17 + h.1.length) (k, n.toNatClampNeg)) H1 := by
      rw [pz_cell_r (by show 4 ≤ k; omega) (by show k < 7; omega)]
      show H1[Z.2.2.1 + h.1.length]? = some (vp_cell (Z.2.1 k) (n.toNatClampNeg, .inr (.inr (.inr (.inr (fun j => pz_rf Z ((ph_new h k n.toNatClampNeg).2.1 (17 + h.1.length) j)))))))
      rw [vp_cell_q, show (ph_new h k n.toNatClampNeg).2.1 (17 + h.1.length) = fun _ => 0 from pr_row_on, ← hHs, e1, hcA]
      rfl
    have qq := q H1 locs ls (cells + 1) (slots + n.toNatClampNeg) (pz_made hP o1 hat) ⟨Nat.le_trans hS.1 (by omega), fun x h1 h2 => (o1 x (by have := hS.1; omega)).trans (hS.2.1 x h1 h2), hS.2.2⟩ hl (fun a ha => (pz_made_ext ha).trans (he a ha)) (by show _ = (ph_new h k n.toNatClampNeg).1.length; omega) (by show _ = pz_tot (ph_new h k n.toNatClampNeg).1; omega)
    have e3 : pz_v Z (.ref (17 + h.1.length)) = .ref H.size := by show Value.ref (pz_ad Z _) = _; rw [pz_ad_in (by omega), show 17 + h.1.length - 17 = h.1.length by omega, hHs]
    rw [← e3]
    exact qq
  next => cases hg
theorem sd_obj (C0 : pz_C Z L p R s m args meth c G h0 n0) (hw : Cond.instanceMethod objectInit ∈ pz_B ∧ Cond.code objectInit ⟨#[0xb1]⟩ 1 none ∈ pz_B) {j a : Nat} (hd : decode G.2.2.1 pc = .ok (.invokespecial j, 3)) (hlk : Cond.methodLink G.1 j objectInit ∈ pz_B) (hk : pk_sum st ≤ 8) (q : pz_J Z p l e R s m args below meth c Q G h0 n0 t0 (pc + 3, lv, st, h)) : pz_J Z p l e R s m args below meth c Q G h0 n0 t0 (pc, lv, .ref a :: st, h) := by
  obtain ⟨⟨hx, hb, hml, hown, hts⟩, -, hf, -, hR1, hR2⟩ := C0
  intro H locs ls cells slots hP hS hl he hc hs
  refine W.objInit hx hb hown (hts _ hlk) (hts _ hw.1) (hts _ hw.2) rfl (by rw [hml]; exact hl.1) rfl hd hR1 ?_ (q H locs ls cells slots hP hS hl he hc hs)
  have h1 := lv_room (m := m) (pc := pc) (ls := ls) (rest := ((Value.ref a :: st).map (pz_v Z))) (st := st.map (pz_v Z)) (by rw [pk_sum_map hf]; exact hk)
  show 2 * (F0 m pc ls ((Value.ref a :: st).map (pz_v Z))).monitorRoom + ((st.map (pz_v Z)).map fun v => v.category).sum + 12 ≤ R.locals
  omega
theorem sd_static (C0 : pz_C Z L p R s m args meth c G h0 n0) {j : Nat} (hd : decode G.2.2.1 pc = .ok (.getstatic j, 3))
    (ho : (k = 0 → v = 1 ∧ Cond.fieldLink G.1 j "java/lang/String" "COMPACT_STRINGS" "Z" ∈ pz_B) ∧ (k = 1 → (v = 1 ∧ Cond.fieldLink G.1 j "CallLaws" "ABOVE" "[I" ∈ pz_B) ∨ (v = 2 ∧ Cond.fieldLink G.1 j "CallLaws$Houses" "WEIGHTS" "[I" ∈ pz_B)) ∧
      (k = 2 → Cond.fieldLink G.1 j "jdk/internal/util/Preconditions" "SIOOBE_FORMATTER" "Ljava/util/function/BiFunction;" ∈ pz_B))
    (hs1 : (if k = 0 then some (pc + 3, lv, Value.int (Int32.ofInt v) :: st, h) else if k = 1 then some (pc + 3, lv, Value.ref v.toNat :: st, h) else if k = 2 then some (pc + 3, lv, Value.null :: st, h) else none) = some x1)
    (q : pz_J Z p l e R s m args below meth c Q G h0 n0 t0 x1) : pz_J Z p l e R s m args below meth c Q G h0 n0 t0 (pc, lv, st, h) := by
  obtain ⟨⟨hx, hb, hml, hown, hts⟩, ⟨hK, hX, hN, hsz⟩, hf, -, hR1, hR2⟩ := C0
  intro H locs ls cells slots hP hS hl he hc hs
  obtain ⟨-, ⟨-, b2⟩, ⟨-, c2⟩, d1, e1, -⟩ := hX
  split at hs1
  next hk =>
    cases hs1
    obtain ⟨rfl, w⟩ := ho.1 hk
    exact va_gets hx hb d1 hS hown (hts _ w) (fun x h => h) hd (q H locs ls cells slots hP hS hl he hc hs)
  next =>
    split at hs1
    next hk =>
      cases hs1
      have q := q H locs ls cells slots hP hS hl he hc hs
      rcases ho.2.1 hk with ⟨rfl, w⟩ | ⟨rfl, w⟩
      · refine va_gets hx hb b2 hS hown (hts _ w) (fun x h => h) hd ?_
        rw [← pz_ad_ext (Z := Z) (a := 1) (by omega)]
        exact q
      · refine va_gets hx hb c2 hS hown (hts _ w) (fun x h => h) hd ?_
        rw [← pz_ad_ext (Z := Z) (a := 2) (by omega)]
        exact q
    next =>
      split at hs1
      next hk =>
        cases hs1
        exact va_gets hx hb e1 hS hown (hts _ (ho.2.2 hk)) (fun x h => h) hd (q H locs ls cells slots hP hS hl he hc hs)
      next => cases hs1
theorem sd_ldc (C0 : pz_C Z L p R s m args meth c G h0 n0) {j : Nat} (hd : decode G.2.2.1 pc = .ok (.ldc j, 2))
    (ho : (k = 0 → Cond.constant G.1 j (Int32.ofInt v) ∈ pz_B) ∧ (k ≠ 0 → G.1 = RX6 ∧ ∃ i q, pz_str[i]? = some q ∧ q.1 = j ∧ v.toNat = 3 + i))
    (hs1 : (if k = 0 then some (pc + 2, lv, Value.int (Int32.ofInt v) :: st, h) else some (pc + 2, lv, Value.ref v.toNat :: st, h)) = some x1)
    (q : pz_J Z p l e R s m args below meth c Q G h0 n0 t0 x1) : pz_J Z p l e R s m args below meth c Q G h0 n0 t0 (pc, lv, st, h) := by
  obtain ⟨⟨hx, hb, hml, hown, hts⟩, ⟨hK, hX, hN, hsz⟩, hf, -, hR1, hR2⟩ := C0
  intro H locs ls cells slots hP hS hl he hc hs
  split at hs1
  next hk =>
    cases hs1
    exact lv_ldc hx hb hown (hts _ (ho.1 hk)) hd (q H locs ls cells slots hP hS hl he hc hs)
  next hk =>
    cases hs1
    have q := q H locs ls cells slots hP hS hl he hc hs
    obtain ⟨hG, i, z, hz, rfl, hv⟩ := ho.2 hk
    have hi : i < 7 := (List.getElem?_eq_some_iff.mp hz).1
    have hR := hN.2.2 i z hz
    rw [hG] at hown
    refine va_ldcS hx hb hown hR hd ?_
    rw [← pz_ad_ext (Z := Z) (a := 3 + i) (by omega), ← hv]
    exact q
end PM
end
section
/-! ONE STEP, whichever -/
def pz_sys : Prop := (Cond.native arraycopyName ∈ pz_B ∧ Cond.static arraycopyName ∈ pz_B ∧ Cond.initialized "java/lang/System" ∈ pz_B ∧ nativeFrameWords "java/lang/System" "arraycopy" 5 + 11 ≤ 60) ∧ Cond.instanceMethod objectInit ∈ pz_B ∧ Cond.code objectInit ⟨#[0xb1]⟩ 1 none ∈ pz_B
theorem pz_sys_ok : pz_sys := by
  have h : ([Cond.native arraycopyName, Cond.static arraycopyName, Cond.initialized "java/lang/System", Cond.instanceMethod objectInit, Cond.code objectInit ⟨#[0xb1]⟩ 1 none] : List Cond).all (fun w => decide (w ∈ lw_tbl) && goodWord w) = true := by decide +kernel
  have k : ∀ w ∈ ([Cond.native arraycopyName, Cond.static arraycopyName, Cond.initialized "java/lang/System", Cond.instanceMethod objectInit, Cond.code objectInit ⟨#[0xb1]⟩ 1 none] : List Cond), w ∈ pz_B := by
    intro w hw
    have h1 := List.all_eq_true.mp h w hw
    simp only [Bool.and_eq_true, decide_eq_true_eq] at h1
    exact pz_B_in h1.1 h1.2
  exact ⟨⟨k _ (by simp), k _ (by simp), k _ (by simp), by decide +kernel⟩, k _ (by simp), k _ (by simp)⟩
section PS
variable {Z : pz_T} {L : Nat} {p : Program} {l : Launch} {e : Env} {R : Room} {s : State} {m : MethodId} {args : Array Value} {below : List Frame} {meth : Method} {c : Code} {Q : State → Prop} {G : pm_T} {h0 : ph_T} {n0 t0 : Nat}
variable {pc nx k : Nat} {v : Int} {lv : List (Nat × Value)} {st : List Value} {h : ph_T} {x1 : ps_T}
theorem po_i_eq {f : Int32 → Value} {st' : List Value} (hs : po_i st f = some st') : ∃ x r, st = .int x :: r ∧ st' = f x :: r := by
  unfold po_i at hs
  split at hs
  · cases hs; exact ⟨_, _, rfl, rfl⟩
  · cases hs
theorem po_l_eq {f : Int64 → Value} {st' : List Value} (hs : po_l st f = some st') : ∃ x r, st = .long x :: r ∧ st' = f x :: r := by
  unfold po_l at hs
  split at hs
  · cases hs; exact ⟨_, _, rfl, rfl⟩
  · cases hs
theorem po_ii_eq {f : Int32 → Int32 → Value} {st' : List Value} (hs : po_ii st f = some st') : ∃ x y r, st = .int y :: .int x :: r ∧ st' = f x y :: r := by
  unfold po_ii at hs
  split at hs
  · cases hs; exact ⟨_, _, _, rfl, rfl⟩
  · cases hs
theorem po_ll_eq {f : Int64 → Int64 → Value} {st' : List Value} (hs : po_ll st f = some st') : ∃ x y r, st = .long y :: .long x :: r ∧ st' = f x y :: r := by
  unfold po_ll at hs
  split at hs
  · cases hs; exact ⟨_, _, _, rfl, rfl⟩
  · cases hs
theorem po_li_eq {f : Int64 → Int32 → Value} {st' : List Value} (hs : po_li st f = some st') : ∃ x y r, st = .int y :: .long x :: r ∧ st' = f x y :: r := by
  unfold po_li at hs
  split at hs
  · cases hs; exact ⟨_, _, _, rfl, rfl⟩
  · cases hs
set_option maxHeartbeats 4000000 in
theorem pz_step (C0 : pz_C Z L p R s m args meth c G h0 n0) {en : pe_T} (hok : pe_ok G en) {x x1 : ps_T} (hpc : x.1 = en.1) (hs : ps_step L en x = some x1) (hr : x1.2.2.2.1.length ≤ n0 + R.cells ∧ pz_tot x1.2.2.2.1 ≤ t0 + R.slots)
    (q : pz_J Z p l e R s m args below meth c Q G h0 n0 t0 x1) : pz_J Z p l e R s m args below meth c Q G h0 n0 t0 x := by
  obtain ⟨pc, lv, st, h⟩ := x
  obtain ⟨pc', i, nx, k, v⟩ := en
  have hpc : pc = pc' := hpc
  subst hpc
  obtain ⟨hd0, hn, ho⟩ := hok
  have hd0 : decode G.2.2.1 pc = .ok (i, nx - pc) := hd0
  have hn : ∀ n, pe_len i = some n → nx = pc + n := hn
  have key : ∀ n, pe_len i = some n → decode G.2.2.1 pc = .ok (i, n) ∧ nx = pc + n := fun n z => by
    have := hn n z
    subst this
    rw [show pc + n - pc = n by omega] at hd0
    exact ⟨hd0, rfl⟩
  have hx := C0.1.1
  have hb := C0.1.2.1
  cases i with
  | iconst z =>
    obtain ⟨hd, rfl⟩ := key 1 rfl
    cases hs
    exact fun H locs ls cells slots a1 a2 a3 a4 a5 a6 => lv_iconst hx hb hd rfl (q H locs ls cells slots a1 a2 a3 a4 a5 a6)
  | bipush z =>
    obtain ⟨hd, rfl⟩ := key 2 rfl
    cases hs
    exact fun H locs ls cells slots a1 a2 a3 a4 a5 a6 => lv_bipush hx hb hd rfl (q H locs ls cells slots a1 a2 a3 a4 a5 a6)
  | sipush z =>
    obtain ⟨hd, rfl⟩ := key 3 rfl
    cases hs
    exact fun H locs ls cells slots a1 a2 a3 a4 a5 a6 => lv_sipush hx hb hd rfl (q H locs ls cells slots a1 a2 a3 a4 a5 a6)
  | lconst z =>
    obtain ⟨hd, rfl⟩ := key 1 rfl
    cases hs
    exact fun H locs ls cells slots a1 a2 a3 a4 a5 a6 => lv_lconst hx hb hd rfl (q H locs ls cells slots a1 a2 a3 a4 a5 a6)
  | ldc j =>
    obtain ⟨hd, rfl⟩ := key 2 rfl
    exact sd_ldc C0 hd ho hs q
  | ldc_w j =>
    obtain ⟨hd, rfl⟩ := key 3 rfl
    cases hs
    exact fun H locs ls cells slots a1 a2 a3 a4 a5 a6 => lv_ldcw hx hb C0.1.2.2.2.1 (C0.1.2.2.2.2 _ ho) hd (q H locs ls cells slots a1 a2 a3 a4 a5 a6)
  | ldc2_w j =>
    obtain ⟨hd, rfl⟩ := key 3 rfl
    cases hs
    exact fun H locs ls cells slots a1 a2 a3 a4 a5 a6 => lv_ldc2 hx hb C0.1.2.2.2.1 (C0.1.2.2.2.2 _ ho) hd (q H locs ls cells slots a1 a2 a3 a4 a5 a6)
  | iload j =>
    obtain ⟨hd, rfl⟩ := key 2 rfl
    obtain ⟨w, hw, rfl⟩ := Option.map_eq_some_iff.mp hs
    exact sd_loadI C0 (Or.inl ⟨rfl, rfl⟩) hd hw q
  | iload_n j =>
    obtain ⟨hd, rfl⟩ := key 1 rfl
    obtain ⟨w, hw, rfl⟩ := Option.map_eq_some_iff.mp hs
    exact sd_loadI C0 (Or.inr ⟨j, rfl, rfl, rfl⟩) hd hw q
  | lload j =>
    obtain ⟨hd, rfl⟩ := key 2 rfl
    obtain ⟨w, hw, rfl⟩ := Option.map_eq_some_iff.mp hs
    exact sd_loadL C0 (Or.inl ⟨rfl, rfl⟩) hd hw q
  | lload_n j =>
    obtain ⟨hd, rfl⟩ := key 1 rfl
    obtain ⟨w, hw, rfl⟩ := Option.map_eq_some_iff.mp hs
    exact sd_loadL C0 (Or.inr ⟨j, rfl, rfl, rfl⟩) hd hw q
  | aload j =>
    obtain ⟨hd, rfl⟩ := key 2 rfl
    obtain ⟨w, hw, rfl⟩ := Option.map_eq_some_iff.mp hs
    exact sd_loadA C0 (Or.inl ⟨rfl, rfl⟩) hd hw q
  | aload_n j =>
    obtain ⟨hd, rfl⟩ := key 1 rfl
    obtain ⟨w, hw, rfl⟩ := Option.map_eq_some_iff.mp hs
    exact sd_loadA C0 (Or.inr ⟨j, rfl, rfl, rfl⟩) hd hw q
  | istore j =>
    obtain ⟨hd, rfl⟩ := key 2 rfl
    simp only [ps_step] at hs
    split at hs
    · cases hs; exact sd_storeI C0 (Or.inl ⟨rfl, rfl⟩) hd ho q
    · cases hs
  | istore_n j =>
    obtain ⟨hd, rfl⟩ := key 1 rfl
    simp only [ps_step] at hs
    split at hs
    · cases hs; exact sd_storeI C0 (Or.inr ⟨j, rfl, rfl, rfl⟩) hd ho q
    · cases hs
  | lstore j =>
    obtain ⟨hd, rfl⟩ := key 2 rfl
    simp only [ps_step] at hs
    split at hs
    · cases hs; exact sd_storeL C0 (Or.inl ⟨rfl, rfl⟩) hd ho q
    · cases hs
  | lstore_n j =>
    obtain ⟨hd, rfl⟩ := key 1 rfl
    simp only [ps_step] at hs
    split at hs
    · cases hs; exact sd_storeL C0 (Or.inr ⟨j, rfl, rfl, rfl⟩) hd ho q
    · cases hs
  | astore j =>
    obtain ⟨hd, rfl⟩ := key 2 rfl
    simp only [ps_step] at hs
    split at hs
    · cases hs; exact sd_storeA C0 (Or.inl ⟨rfl, rfl⟩) hd ho q
    · cases hs
  | astore_n j =>
    obtain ⟨hd, rfl⟩ := key 1 rfl
    simp only [ps_step] at hs
    split at hs
    · cases hs; exact sd_storeA C0 (Or.inr ⟨j, rfl, rfl, rfl⟩) hd ho q
    · cases hs
  | iinc j z =>
    obtain ⟨hd, rfl⟩ := key 3 rfl
    simp only [ps_step] at hs
    split at hs
    · cases hs; exact sd_iinc C0 hd ho (by assumption) q
    · cases hs
  | iadd =>
    obtain ⟨hd, rfl⟩ := key 1 rfl
    obtain ⟨st', hw, rfl⟩ := Option.map_eq_some_iff.mp hs
    obtain ⟨x, y, r, rfl, rfl⟩ := po_ii_eq hw
    exact fun H locs ls cells slots a1 a2 a3 a4 a5 a6 => lv_iadd hx hb hd (q H locs ls cells slots a1 a2 a3 a4 a5 a6)
  | isub =>
    obtain ⟨hd, rfl⟩ := key 1 rfl
    obtain ⟨st', hw, rfl⟩ := Option.map_eq_some_iff.mp hs
    obtain ⟨x, y, r, rfl, rfl⟩ := po_ii_eq hw
    exact fun H locs ls cells slots a1 a2 a3 a4 a5 a6 => lv_isub hx hb hd (q H locs ls cells slots a1 a2 a3 a4 a5 a6)
  | imul =>
    obtain ⟨hd, rfl⟩ := key 1 rfl
    obtain ⟨st', hw, rfl⟩ := Option.map_eq_some_iff.mp hs
    obtain ⟨x, y, r, rfl, rfl⟩ := po_ii_eq hw
    exact fun H locs ls cells slots a1 a2 a3 a4 a5 a6 => lv_imul hx hb hd (q H locs ls cells slots a1 a2 a3 a4 a5 a6)
  | iand =>
    obtain ⟨hd, rfl⟩ := key 1 rfl
    obtain ⟨st', hw, rfl⟩ := Option.map_eq_some_iff.mp hs
    obtain ⟨x, y, r, rfl, rfl⟩ := po_ii_eq hw
    exact fun H locs ls cells slots a1 a2 a3 a4 a5 a6 => lv_iand hx hb hd (q H locs ls cells slots a1 a2 a3 a4 a5 a6)
  | ior =>
    obtain ⟨hd, rfl⟩ := key 1 rfl
    obtain ⟨st', hw, rfl⟩ := Option.map_eq_some_iff.mp hs
    obtain ⟨x, y, r, rfl, rfl⟩ := po_ii_eq hw
    exact fun H locs ls cells slots a1 a2 a3 a4 a5 a6 => lv_ior hx hb hd (q H locs ls cells slots a1 a2 a3 a4 a5 a6)
  | ixor =>
    obtain ⟨hd, rfl⟩ := key 1 rfl
    obtain ⟨st', hw, rfl⟩ := Option.map_eq_some_iff.mp hs
    obtain ⟨x, y, r, rfl, rfl⟩ := po_ii_eq hw
    exact fun H locs ls cells slots a1 a2 a3 a4 a5 a6 => lv_ixor hx hb hd (q H locs ls cells slots a1 a2 a3 a4 a5 a6)
  | ishl =>
    obtain ⟨hd, rfl⟩ := key 1 rfl
    obtain ⟨st', hw, rfl⟩ := Option.map_eq_some_iff.mp hs
    obtain ⟨x, y, r, rfl, rfl⟩ := po_ii_eq hw
    exact fun H locs ls cells slots a1 a2 a3 a4 a5 a6 => lv_ishl hx hb hd (q H locs ls cells slots a1 a2 a3 a4 a5 a6)
  | ishr =>
    obtain ⟨hd, rfl⟩ := key 1 rfl
    obtain ⟨st', hw, rfl⟩ := Option.map_eq_some_iff.mp hs
    obtain ⟨x, y, r, rfl, rfl⟩ := po_ii_eq hw
    exact fun H locs ls cells slots a1 a2 a3 a4 a5 a6 => lv_ishr hx hb hd (q H locs ls cells slots a1 a2 a3 a4 a5 a6)
  | iushr =>
    obtain ⟨hd, rfl⟩ := key 1 rfl
    obtain ⟨st', hw, rfl⟩ := Option.map_eq_some_iff.mp hs
    obtain ⟨x, y, r, rfl, rfl⟩ := po_ii_eq hw
    exact fun H locs ls cells slots a1 a2 a3 a4 a5 a6 => lv_iushr hx hb hd rfl (q H locs ls cells slots a1 a2 a3 a4 a5 a6)
  | ineg =>
    obtain ⟨hd, rfl⟩ := key 1 rfl
    obtain ⟨st', hw, rfl⟩ := Option.map_eq_some_iff.mp hs
    obtain ⟨x, r, rfl, rfl⟩ := po_i_eq hw
    exact fun H locs ls cells slots a1 a2 a3 a4 a5 a6 => lv_ineg hx hb hd (q H locs ls cells slots a1 a2 a3 a4 a5 a6)
  | i2l =>
    obtain ⟨hd, rfl⟩ := key 1 rfl
    obtain ⟨st', hw, rfl⟩ := Option.map_eq_some_iff.mp hs
    obtain ⟨x, r, rfl, rfl⟩ := po_i_eq hw
    exact fun H locs ls cells slots a1 a2 a3 a4 a5 a6 => lv_i2l hx hb hd rfl (q H locs ls cells slots a1 a2 a3 a4 a5 a6)
  | i2b =>
    obtain ⟨hd, rfl⟩ := key 1 rfl
    obtain ⟨st', hw, rfl⟩ := Option.map_eq_some_iff.mp hs
    obtain ⟨x, r, rfl, rfl⟩ := po_i_eq hw
    exact fun H locs ls cells slots a1 a2 a3 a4 a5 a6 => lv_i2b hx hb hd rfl (q H locs ls cells slots a1 a2 a3 a4 a5 a6)
  | i2s =>
    obtain ⟨hd, rfl⟩ := key 1 rfl
    obtain ⟨st', hw, rfl⟩ := Option.map_eq_some_iff.mp hs
    obtain ⟨x, r, rfl, rfl⟩ := po_i_eq hw
    exact fun H locs ls cells slots a1 a2 a3 a4 a5 a6 => lv_i2s hx hb hd rfl (q H locs ls cells slots a1 a2 a3 a4 a5 a6)
  | i2c =>
    obtain ⟨hd, rfl⟩ := key 1 rfl
    obtain ⟨st', hw, rfl⟩ := Option.map_eq_some_iff.mp hs
    obtain ⟨x, r, rfl, rfl⟩ := po_i_eq hw
    exact fun H locs ls cells slots a1 a2 a3 a4 a5 a6 => lv_i2c hx hb hd rfl (q H locs ls cells slots a1 a2 a3 a4 a5 a6)
  | l2i =>
    obtain ⟨hd, rfl⟩ := key 1 rfl
    obtain ⟨st', hw, rfl⟩ := Option.map_eq_some_iff.mp hs
    obtain ⟨x, r, rfl, rfl⟩ := po_l_eq hw
    exact fun H locs ls cells slots a1 a2 a3 a4 a5 a6 => lv_l2i hx hb hd rfl (q H locs ls cells slots a1 a2 a3 a4 a5 a6)
  | ladd =>
    obtain ⟨hd, rfl⟩ := key 1 rfl
    obtain ⟨st', hw, rfl⟩ := Option.map_eq_some_iff.mp hs
    obtain ⟨x, y, r, rfl, rfl⟩ := po_ll_eq hw
    exact fun H locs ls cells slots a1 a2 a3 a4 a5 a6 => lv_ladd hx hb hd (q H locs ls cells slots a1 a2 a3 a4 a5 a6)
  | land =>
    obtain ⟨hd, rfl⟩ := key 1 rfl
    obtain ⟨st', hw, rfl⟩ := Option.map_eq_some_iff.mp hs
    obtain ⟨x, y, r, rfl, rfl⟩ := po_ll_eq hw
    exact fun H locs ls cells slots a1 a2 a3 a4 a5 a6 => lv_land hx hb hd (q H locs ls cells slots a1 a2 a3 a4 a5 a6)
  | lor =>
    obtain ⟨hd, rfl⟩ := key 1 rfl
    obtain ⟨st', hw, rfl⟩ := Option.map_eq_some_iff.mp hs
    obtain ⟨x, y, r, rfl, rfl⟩ := po_ll_eq hw
    exact fun H locs ls cells slots a1 a2 a3 a4 a5 a6 => lv_lor hx hb hd (q H locs ls cells slots a1 a2 a3 a4 a5 a6)
  | lcmp =>
    obtain ⟨hd, rfl⟩ := key 1 rfl
    obtain ⟨st', hw, rfl⟩ := Option.map_eq_some_iff.mp hs
    obtain ⟨x, y, r, rfl, rfl⟩ := po_ll_eq hw
    exact fun H locs ls cells slots a1 a2 a3 a4 a5 a6 => W.lcmp hx hb hd (q H locs ls cells slots a1 a2 a3 a4 a5 a6)
  | lshl =>
    obtain ⟨hd, rfl⟩ := key 1 rfl
    obtain ⟨st', hw, rfl⟩ := Option.map_eq_some_iff.mp hs
    obtain ⟨x, y, r, rfl, rfl⟩ := po_li_eq hw
    exact fun H locs ls cells slots a1 a2 a3 a4 a5 a6 => lv_lshl hx hb hd rfl (q H locs ls cells slots a1 a2 a3 a4 a5 a6)
  | lshr =>
    obtain ⟨hd, rfl⟩ := key 1 rfl
    obtain ⟨st', hw, rfl⟩ := Option.map_eq_some_iff.mp hs
    obtain ⟨x, y, r, rfl, rfl⟩ := po_li_eq hw
    exact fun H locs ls cells slots a1 a2 a3 a4 a5 a6 => lv_lshr hx hb hd rfl (q H locs ls cells slots a1 a2 a3 a4 a5 a6)
  | idiv =>
    obtain ⟨hd, rfl⟩ := key 1 rfl
    simp only [ps_step] at hs
    split at hs
    · split at hs
      · cases hs
      next hz => cases hs; exact fun H locs ls cells slots a1 a2 a3 a4 a5 a6 => lv_idiv hx hb hd hz (q H locs ls cells slots a1 a2 a3 a4 a5 a6)
    · cases hs
  | irem =>
    obtain ⟨hd, rfl⟩ := key 1 rfl
    simp only [ps_step] at hs
    split at hs
    · split at hs
      · cases hs
      next hz => cases hs; exact fun H locs ls cells slots a1 a2 a3 a4 a5 a6 => lv_irem hx hb hd hz (q H locs ls cells slots a1 a2 a3 a4 a5 a6)
    · cases hs
  | dup =>
    obtain ⟨hd, rfl⟩ := key 1 rfl
    simp only [ps_step] at hs
    split at hs
    · split at hs
      next hz => cases hs; exact fun H locs ls cells slots a1 a2 a3 a4 a5 a6 => lv_dup hx hb hd ((pz_v_cat C0.2.2.1 _).trans hz) (q H locs ls cells slots a1 a2 a3 a4 a5 a6)
      · cases hs
    · cases hs
  | dup2 =>
    obtain ⟨hd, rfl⟩ := key 1 rfl
    simp only [ps_step] at hs
    split at hs
    · split at hs
      next hz => cases hs; exact fun H locs ls cells slots a1 a2 a3 a4 a5 a6 => lv_dup2_11 hx hb hd ((pz_v_cat C0.2.2.1 _).trans hz.1) ((pz_v_cat C0.2.2.1 _).trans hz.2) (q H locs ls cells slots a1 a2 a3 a4 a5 a6)
      · cases hs
    · cases hs
  | pop =>
    obtain ⟨hd, rfl⟩ := key 1 rfl
    simp only [ps_step] at hs
    split at hs
    · split at hs
      next hz => cases hs; exact fun H locs ls cells slots a1 a2 a3 a4 a5 a6 => lv_pop hx hb hd ((pz_v_cat C0.2.2.1 _).trans hz) (q H locs ls cells slots a1 a2 a3 a4 a5 a6)
      · cases hs
    · cases hs
  | ifCond cd off =>
    obtain ⟨hd, rfl⟩ := key 3 rfl
    simp only [ps_step] at hs
    split at hs
    · cases hs; exact sd_if0 C0 hd ho q
    · cases hs
  | if_icmp cd off =>
    obtain ⟨hd, rfl⟩ := key 3 rfl
    simp only [ps_step] at hs
    split at hs
    · cases hs; exact sd_if2 C0 hd ho q
    · cases hs
  | goto off =>
    obtain ⟨hd, rfl⟩ := key 3 rfl
    cases hs
    exact fun H locs ls cells slots a1 a2 a3 a4 a5 a6 => lv_goto hx hb hd ho (q H locs ls cells slots a1 a2 a3 a4 a5 a6)
  | tableswitch dd lo hi offs =>
    simp only [ps_step] at hs
    split at hs
    · obtain ⟨t, ht, rfl⟩ := Option.map_eq_some_iff.mp hs
      exact sd_switch C0 hd0 ht q
    · cases hs
  | getfield j =>
    obtain ⟨hd, rfl⟩ := key 3 rfl
    simp only [ps_step] at hs
    split at hs
    · obtain ⟨w, hw, rfl⟩ := Option.map_eq_some_iff.mp hs
      exact sd_get C0 hd ho hw q
    · cases hs
  | putfield j =>
    obtain ⟨hd, rfl⟩ := key 3 rfl
    simp only [ps_step] at hs
    split at hs
    · obtain ⟨w, hw, rfl⟩ := Option.map_eq_some_iff.mp hs
      exact sd_put C0 hd ho hw q
    · cases hs
  | getstatic j =>
    obtain ⟨hd, rfl⟩ := key 3 rfl
    exact sd_static C0 hd ho hs q
  | iaload =>
    obtain ⟨hd, rfl⟩ := key 1 rfl
    simp only [ps_step] at hs
    split at hs
    · obtain ⟨w, hw, rfl⟩ := Option.map_eq_some_iff.mp hs
      exact sd_iald C0 hd hw q
    · cases hs
  | baload =>
    obtain ⟨hd, rfl⟩ := key 1 rfl
    simp only [ps_step] at hs
    split at hs
    · obtain ⟨w, hw, rfl⟩ := Option.map_eq_some_iff.mp hs
      exact sd_bald C0 hd hw q
    · cases hs
  | saload =>
    obtain ⟨hd, rfl⟩ := key 1 rfl
    simp only [ps_step] at hs
    split at hs
    · obtain ⟨w, hw, rfl⟩ := Option.map_eq_some_iff.mp hs
      exact sd_sald C0 hd hw q
    · cases hs
  | aaload =>
    obtain ⟨hd, rfl⟩ := key 1 rfl
    simp only [ps_step] at hs
    split at hs
    · obtain ⟨w, hw, rfl⟩ := Option.map_eq_some_iff.mp hs
      exact sd_aald C0 hd hw q
    · cases hs
  | iastore =>
    obtain ⟨hd, rfl⟩ := key 1 rfl
    simp only [ps_step] at hs
    split at hs
    · obtain ⟨w, hw, rfl⟩ := Option.map_eq_some_iff.mp hs
      exact sd_iast C0 hd hw q
    · cases hs
  | bastore =>
    obtain ⟨hd, rfl⟩ := key 1 rfl
    simp only [ps_step] at hs
    split at hs
    · obtain ⟨w, hw, rfl⟩ := Option.map_eq_some_iff.mp hs
      exact sd_bast C0 hd hw q
    · cases hs
  | sastore =>
    obtain ⟨hd, rfl⟩ := key 1 rfl
    simp only [ps_step] at hs
    split at hs
    · obtain ⟨w, hw, rfl⟩ := Option.map_eq_some_iff.mp hs
      exact sd_sast C0 hd hw q
    · cases hs
  | aastore =>
    obtain ⟨hd, rfl⟩ := key 1 rfl
    simp only [ps_step] at hs
    split at hs
    · obtain ⟨w, hw, rfl⟩ := Option.map_eq_some_iff.mp hs
      exact sd_aast C0 hd hw q
    · cases hs
  | arraylength =>
    obtain ⟨hd, rfl⟩ := key 1 rfl
    simp only [ps_step] at hs
    split at hs
    · obtain ⟨w, hw, rfl⟩ := Option.map_eq_some_iff.mp hs
      exact sd_alen C0 hd hw q
    · cases hs
  | new j =>
    obtain ⟨hd, rfl⟩ := key 3 rfl
    simp only [ps_step] at hs
    split at hs
    next hk => cases hs; exact sd_new C0 hd hk (ho hk) hr q
    · cases hs
  | newarray t =>
    obtain ⟨hd, rfl⟩ := key 2 rfl
    simp only [ps_step] at hs
    split at hs
    · obtain ⟨w, hw, rfl⟩ := Option.map_eq_some_iff.mp hs
      exact sd_newa C0 hd ho hw hr q
    · cases hs
  | anewarray j =>
    obtain ⟨hd, rfl⟩ := key 3 rfl
    simp only [ps_step] at hs
    split at hs
    · obtain ⟨w, hw, rfl⟩ := Option.map_eq_some_iff.mp hs
      exact sd_anew C0 hd ho hw hr q
    · cases hs
  | invokespecial j =>
    obtain ⟨hd, rfl⟩ := key 3 rfl
    simp only [ps_step] at hs
    split at hs
    · split at hs
      next hk => cases hs; exact sd_obj C0 pz_sys_ok.2 hd (ho.1 hk.1) hk.2 q
      · cases hs
    · cases hs
  | invokestatic j =>
    obtain ⟨hd, rfl⟩ := key 3 rfl
    simp only [ps_step] at hs
    split at hs
    · split at hs
      next hk =>
        obtain ⟨w, hw, rfl⟩ := Option.map_eq_some_iff.mp hs
        exact sd_cpy C0 pz_sys_ok.1 hd (ho.1 hk) hw q
      · cases hs
    · cases hs
  | _ => cases hs
end PS
end
section
/-! heaps only grow, what was there before stays -/
def pz_mono (h h' : ph_T) : Prop := h.1.length ≤ h'.1.length ∧ pz_tot h.1 ≤ pz_tot h'.1 ∧ ∀ a, a < 17 → h'.2.2 a = h.2.2 a
theorem pz_mono.rf {h : ph_T} : pz_mono h h := ⟨Nat.le_refl _, Nat.le_refl _, fun _ _ => rfl⟩
theorem pz_mono.tr {h h1 h2 : ph_T} (a : pz_mono h h1) (b : pz_mono h1 h2) : pz_mono h h2 := ⟨Nat.le_trans a.1 b.1, Nat.le_trans a.2.1 b.2.1, fun i hi => (b.2.2 i hi).trans (a.2.2 i hi)⟩
theorem pz_mono_up {h : ph_T} {a i : Nat} {x : Int32} (ha : 17 ≤ a) : pz_mono h (h.1, h.2.1, pi_up h.2.2 a i x) := ⟨Nat.le_refl _, Nat.le_refl _, fun b hb => pi_up_off (by omega)⟩
theorem pz_mono_row {h : ph_T} {a : Nat} {g : Nat → Int32} (ha : 17 ≤ a) : pz_mono h (h.1, h.2.1, pi_row h.2.2 a g) := ⟨Nat.le_refl _, Nat.le_refl _, fun b hb => pi_row_off (by omega)⟩
theorem pz_mono_new {h : ph_T} {kind n : Nat} : pz_mono h (ph_new h kind n) := ⟨by simp [ph_new], by rw [show (ph_new h kind n).1 = h.1 ++ [(kind, n)] from rfl, pz_tot_push]; omega, fun b hb => pi_row_off (by omega)⟩
theorem pg_put_mono {L : Nat} {h h1 : ph_T} {a k kind : Nat} {w : Value} (hg : pg_put L h a k kind w = some h1) : pz_mono h h1 := by
  unfold pg_put at hg
  split at hg
  next hk =>
    split at hg
    · split at hg
      · cases hg; exact pz_mono_up hk.1
      · cases hg
    · split at hg
      · cases hg; exact ⟨Nat.le_refl _, Nat.le_refl _, fun _ _ => rfl⟩
      · cases hg
    · cases hg
  next => cases hg
theorem pa_st_mono {L : Nat} {h h1 : ph_T} {ks : List Nat} {a : Nat} {i x : Int32} (hg : pa_st L h ks a i x = some h1) : pz_mono h h1 := by
  unfold pa_st at hg
  split at hg
  next hk => cases hg; exact pz_mono_up hk.1
  next => cases hg
theorem pa_str_mono {L : Nat} {h h1 : ph_T} {a b : Nat} {i : Int32} (hg : pa_str L h a i b = some h1) : pz_mono h h1 := by
  unfold pa_str at hg
  split at hg
  next hk => cases hg; exact ⟨Nat.le_refl _, Nat.le_refl _, fun _ _ => rfl⟩
  next => cases hg
theorem pa_new_mono {h h1 : ph_T} {k : Nat} {n : Int32} (hg : pa_new h k n = some h1) : pz_mono h h1 := by
  unfold pa_new at hg
  split at hg
  next hk => cases hg; exact pz_mono_new
  next => cases hg
theorem pa_cpy_mono {L : Nat} {h h1 : ph_T} {a0 a1 : Nat} {sp dp n : Int32} (hg : pa_cpy L h a0 sp a1 dp n = some h1) : pz_mono h h1 := by
  unfold pa_cpy at hg
  split at hg
  next hk => cases hg; exact pz_mono_row hk.1.2.1
  next => cases hg
set_option maxHeartbeats 4000000 in
theorem ps_mono {L : Nat} {en : pe_T} {x x1 : ps_T} (hs : ps_step L en x = some x1) : pz_mono x.2.2.2 x1.2.2.2 := by
  obtain ⟨pc, lv, st, h⟩ := x
  obtain ⟨pc', i, nx, k, v⟩ := en
  cases i with
  | putfield j =>
    simp only [ps_step] at hs
    split at hs
    · obtain ⟨w, hw, rfl⟩ := Option.map_eq_some_iff.mp hs
      exact pg_put_mono hw
    · cases hs
  | iastore =>
    simp only [ps_step] at hs
    split at hs
    · obtain ⟨w, hw, rfl⟩ := Option.map_eq_some_iff.mp hs
      exact pa_st_mono hw
    · cases hs
  | bastore =>
    simp only [ps_step] at hs
    split at hs
    · obtain ⟨w, hw, rfl⟩ := Option.map_eq_some_iff.mp hs
      exact pa_st_mono hw
    · cases hs
  | sastore =>
    simp only [ps_step] at hs
    split at hs
    · obtain ⟨w, hw, rfl⟩ := Option.map_eq_some_iff.mp hs
      exact pa_st_mono hw
    · cases hs
  | aastore =>
    simp only [ps_step] at hs
    split at hs
    · obtain ⟨w, hw, rfl⟩ := Option.map_eq_some_iff.mp hs
      exact pa_str_mono hw
    · cases hs
  | new j =>
    simp only [ps_step] at hs
    split at hs
    · cases hs; exact pz_mono_new
    · cases hs
  | newarray t =>
    simp only [ps_step] at hs
    split at hs
    · obtain ⟨w, hw, rfl⟩ := Option.map_eq_some_iff.mp hs
      exact pa_new_mono hw
    · cases hs
  | anewarray t =>
    simp only [ps_step] at hs
    split at hs
    · obtain ⟨w, hw, rfl⟩ := Option.map_eq_some_iff.mp hs
      exact pa_new_mono hw
    · cases hs
  | invokestatic j =>
    simp only [ps_step] at hs
    split at hs
    · split at hs
      · obtain ⟨w, hw, rfl⟩ := Option.map_eq_some_iff.mp hs
        exact pa_cpy_mono hw
      · cases hs
    · cases hs
  | _ =>
    simp only [ps_step] at hs
    first
      | (cases hs; done)
      | (cases hs; exact pz_mono.rf)
      | (obtain ⟨w, hw, rfl⟩ := Option.map_eq_some_iff.mp hs; exact pz_mono.rf)
      | (split at hs <;> first | (cases hs; done) | (cases hs; exact pz_mono.rf) | (obtain ⟨w, hw, rfl⟩ := Option.map_eq_some_iff.mp hs; exact pz_mono.rf) | (split at hs <;> first | (cases hs; done) | (cases hs; exact pz_mono.rf) | (split at hs <;> first | (cases hs; done) | (cases hs; exact pz_mono.rf))))
theorem pr_mono (L : Nat) : ∀ (d m : Nat) (As : List Value) (h : ph_T) (r : Option Value) (h' : ph_T), pr_C L d m As h r h' → pz_mono h h' := by
  intro d
  induction d with
  | zero => intro m As h r h' q; exact q.elim
  | succ d ih =>
    intro m As h r h' q
    obtain ⟨-, n, s', h1, -, rfl⟩ := q
    have key : ∀ (n : Nat) (x s' : ps_T), pr_N (pr_C L d) L (pm m) n x s' → pz_mono x.2.2.2 s'.2.2.2 := by
      intro n
      induction n with
      | zero => intro x s' q; cases q; exact pz_mono.rf
      | succ n ihn =>
        intro x s' q
        obtain ⟨s1, ⟨ks, rfl⟩ | ⟨en, he, hs⟩, h2⟩ := q
        · exact ihn _ _ h2
        refine pz_mono.tr ?_ (ihn _ _ h2)
        rcases hs with hs | ⟨As, rest, r, h', a1, a2, a3, a4, a5, a6, rfl⟩
        · exact ps_mono hs
        · exact ih _ _ _ _ _ a6
    exact key n _ _ h1
theorem pr_mono_N {L d m : Nat} : ∀ (n : Nat) (x s' : ps_T), pr_N (pr_C L d) L (pm m) n x s' → pz_mono x.2.2.2 s'.2.2.2 := by
  intro n
  induction n with
  | zero => intro x s' q; cases q; exact pz_mono.rf
  | succ n ihn =>
    intro x s' q
    obtain ⟨s1, ⟨ks, rfl⟩ | ⟨en, he, hs⟩, h2⟩ := q
    · exact ihn _ _ h2
    refine pz_mono.tr ?_ (ihn _ _ h2)
    rcases hs with hs | ⟨As, rest, r, h', a1, a2, a3, a4, a5, a6, rfl⟩
    · exact ps_mono hs
    · exact pr_mono L _ _ _ _ _ _ a6
end
section
/-! CALLS, and a method as a whole -/
def pz_rm (d mc ms : Nat) : Room := { frames := d, cells := mc, slots := ms, locals := 60 * d }
def pz_Pc (Z : pz_T) (L : Nat) (As : List Value) (h : ph_T) : Array Value → State → Prop := fun v U => v = (As.map (pz_v Z)).toArray ∧ pz_R Z L h U
def pz_Qc (Z : pz_T) (r : Option Value) (h' : ph_T) : Array Value → State → Outcome → State → Prop := fun _ st oc t => oc = .returned (r.map (pz_v Z)) ∧ pz_P Z h' t.heap ∧ va_F (pz_A Z) st t
/-- a method's contract at the machine -/
def pz_M (Z : pz_T) (L : Nat) (l : Launch) (d m : Nat) (As : List Value) (h : ph_T) (r : Option Value) (h' : ph_T) : Prop :=
  Met l (pm m).2.1 (pz_ws (pm m)) (pz_rm d (h'.1.length - h.1.length) (pz_tot h'.1 - pz_tot h.1)) (pz_Pc Z L As h) (pz_Qc Z r h') (h'.1.length - h.1.length) (pz_tot h'.1 - pz_tot h.1) (pz_A Z)
theorem pz_blind {Z : pz_T} {L : Nat} {As : List Value} {h : ph_T} : FrameBlind (pz_Pc Z L As h) := by
  intro a U g mk q
  obtain ⟨h1, ⟨h2, h3⟩, h4, h5, h6⟩ := q
  exact ⟨h1, ⟨h2, h3⟩, va_K.moved (u := U) (U := U.calling g mk a) (Vm.Alike.refl U.vm) h4, pz_X.moved (u := U) (U := U.calling g mk a) (Vm.Alike.refl U.vm) h5, pz_N.same (u := U) rfl h6⟩
theorem pz_good {ws : List Cond} (h : ∀ w ∈ ws, w ∈ pz_B) : GoodIn pz_B ws := fun w hw => ⟨h w hw, good_of_word (pz_B_good w (h w hw)).2⟩
theorem pz_ws_in {G : pm_T} (hc : Cond.code G.2.1 G.2.2.1 G.2.2.2.1 G.2.2.2.2.1 ∈ pz_B) : ∀ w ∈ pz_ws G, w ∈ pz_B := by
  intro w hw
  rcases List.mem_cons.mp hw with rfl | hw
  · exact hc
  · exact hw
theorem pz_args (Z : pz_T) (hf : Z.2.2.2.2 = .null ∨ ∃ t, Z.2.2.2.2 = .ref t) : ∀ (As : List Value) (i : Nat), lv_args i (As.map (pz_v Z)) = (lv_args i As).map (fun q => (q.1, pz_v Z q.2)) := by
  intro As
  induction As with
  | nil => intro i; rfl
  | cons a As ih =>
    intro i
    show (i, pz_v Z a) :: lv_args (if (pz_v Z a).category = 2 then i + 2 else i + 1) (As.map (pz_v Z)) = _
    rw [pz_v_cat hf, ih]
    rfl
theorem pz_argl (Z : pz_T) (hf : Z.2.2.2.2 = .null ∨ ∃ t, Z.2.2.2.2 = .ref t) : ∀ (As : List Value), (lg_sl (As.map (pz_v Z))).length = pk_sum As := by
  intro As
  induction As with
  | nil => rfl
  | cons a As ih =>
    have e1 : lg_sl ((a :: As).map (pz_v Z)) = (if (pz_v Z a).category = 2 then [.val (pz_v Z a), .second] else [.val (pz_v Z a)]) ++ lg_sl (As.map (pz_v Z)) := by simp [lg_sl]
    have e2 : pk_sum (a :: As) = a.category + pk_sum As := by simp [pk_sum]
    rw [e1, e2, List.length_append, ih, pz_v_cat hf]
    rcases lv_cat a with z | z <;> rw [z] <;> simp
section PC
variable {Z : pz_T} {L : Nat} {p : Program} {l : Launch} {e : Env} {R : Room} {s : State} {m : MethodId} {args : Array Value} {below : List Frame} {meth : Method} {c : Code} {Q : State → Prop} {G : pm_T} {h0 : ph_T} {n0 t0 : Nat}
theorem pz_after {H : Heap} {locs : List Loc} {cells slots mc ms pc : Nat} {ls : Array Slot} {st0 rest : List Value} {r : Option Value} {h' : ph_T} {a : Array Value} (hr : va_Run p l e R s m args below meth c H locs cells slots mc ms (F0 m pc ls st0) rest (pz_Qc Z r h' a) (pz_A Z)) (hS : va_S (pz_A Z) s.heap H locs)
    (kk : ∀ (H1 : Heap) (locs1 : List Loc), pz_P Z h' H1 → va_S (pz_A Z) s.heap H1 locs1 → W p l e R s m args below meth c H1 locs1 (cells + mc) (slots + ms) Q (F0 m (pc + 3) ls ((r.map (pz_v Z)).toList ++ rest))) : W p l e R s m args below meth c H locs cells slots Q (F0 m pc ls st0) := by
  intro T hT X
  obtain ⟨v, st₀, t, T', Lq, g0, X', hL, e1, e2, ⟨hv, hp, hz, hk⟩, stp⟩ := hr T hT X
  cases hv
  rw [g0] at hz hk
  obtain ⟨t2, a1, b1⟩ := kk T'.heap (locs ++ Lq) (by rw [e1]; exact hp) ⟨Nat.le_trans hS.1 (by rw [e1]; exact hz), fun q h1 h2 => by rw [e1, hk q (Nat.lt_of_lt_of_le h1 hS.1) h2]; exact hS.2.1 q h1 h2, fun q hq => by
    rcases List.mem_append.mp hq with h | h
    · exact hS.2.2 q h
    · exact hL q h⟩ T' rfl X'
  exact ⟨t2, stp t2 a1, b1⟩
theorem pz_pre (C0 : pz_C Z L p R s m args meth c G h0 n0) {h : ph_T} {H : Heap} {locs : List Loc} {cells : Nat} {As : List Value} (hP : pz_P Z h H) (hS : va_S (pz_A Z) s.heap H locs) (he : ∀ a, a < 17 → h.2.2 a = h0.2.2 a) (hc : cells + n0 = h.1.length) (hle : H.size ≤ s.heap.size + cells) :
    ∀ U : State, U.heap = H → s.WarmedH U.vm → pz_Pc Z L As h (As.map (pz_v Z)).toArray U := by
  obtain ⟨-, ⟨hK, hX, hN, hsz⟩, -⟩ := C0
  intro U hU hW
  refine ⟨rfl, ⟨by rw [hU]; exact hP, by rw [hU]; exact pz_size_eq hP hS hsz hc hle⟩, va_K.moved hW.alike hK, ?_, pz_N.warm hW hN⟩
  rw [hU]
  exact ((hX.kept (by omega) hS.2.1).same he).moved hW.alike
set_option maxHeartbeats 1000000 in
theorem pz_callW (C0 : pz_C Z L p R s m args meth c G h0 n0) {en : pe_T} (hok : pe_ok G en) {C : Nat → List Value → ph_T → Option Value → ph_T → Prop} {d : Nat} (hC : ∀ k As h r h', C k As h r h' → k < 192 → (∃ n, pe_call (pm k) n) → pz_mono h h' ∧ pz_M Z L l d k As h r h') {x x1 : ps_T} (hpc : x.1 = en.1) (hs : pr_call C L en x x1)
    (hRd : d + 1 ≤ R.frames ∧ 60 * d + 60 ≤ R.locals) (hr : x1.2.2.2.1.length ≤ n0 + R.cells ∧ pz_tot x1.2.2.2.1 ≤ t0 + R.slots)
    (q : pz_J Z p l e R s m args below meth c Q G h0 n0 t0 x1) : pz_J Z p l e R s m args below meth c Q G h0 n0 t0 x := by
  obtain ⟨pc, lv, st, h⟩ := x
  obtain ⟨pc', i, nx, k, v⟩ := en
  have hpc : pc = pc' := hpc
  subst hpc
  obtain ⟨hd0, hn, ho⟩ := hok
  have hd0 : decode G.2.2.1 pc = .ok (i, nx - pc) := hd0
  obtain ⟨As, rest, r, h', a1, a2, a3, a4, a5, a6, rfl⟩ := hs
  have a1 : st = As.reverse ++ rest := a1
  have a2 : As.length = (pm k).2.2.2.2.2.1 := a2
  have a4 : k < 192 := a4
  have a6 : C k As h r h' := a6
  have hr : h'.1.length ≤ n0 + R.cells ∧ pz_tot h'.1 ≤ t0 + R.slots := hr
  have hf := C0.2.2.1
  have hS5 := C0.1
  intro H locs ls cells slots hP hS hl he hc hsl
  have hP : pz_P Z h H := hP
  have hc : cells + n0 = h.1.length := hc
  have hsl : slots + t0 = pz_tot h.1 := hsl
  refine pz_sized (fun hle => ?_)
  have hpre := pz_pre C0 (As := As) hP hS he hc hle
  have fin : ∀ (hm : pz_mono h h') (hnx : nx = pc + 3) (st0 : List Value) (av : Array Value), va_Run p l e R s m args below meth c H locs cells slots (h'.1.length - h.1.length) (pz_tot h'.1 - pz_tot h.1) (F0 m pc ls st0) (rest.map (pz_v Z)) (pz_Qc Z r h' av) (pz_A Z) → W p l e R s m args below meth c H locs cells slots Q (F0 m pc ls st0) := by
    intro hm hnx st0 av hrun
    refine pz_after hrun hS (fun H1 locs1 p1 s1 => ?_)
    have qq := q H1 locs1 ls (cells + (h'.1.length - h.1.length)) (slots + (pz_tot h'.1 - pz_tot h.1)) p1 s1 hl (fun a ha => (hm.2.2 a ha).trans (he a ha)) (by show _ = h'.1.length; have := hm.1; omega) (by show _ = pz_tot h'.1; have := hm.2.1; omega)
    have e1 : ((r.toList ++ rest).map (pz_v Z)) = (r.map (pz_v Z)).toList ++ rest.map (pz_v Z) := by cases r <;> rfl
    rw [← e1, ← hnx]
    exact qq
  have room : pk_sum rest ≤ 8 := a3
  have hW : 2 * (F0 m pc ls (st.map (pz_v Z))).monitorRoom + ((rest.map (pz_v Z)).map fun v => v.category).sum ≤ 8 := lv_room (by rw [pk_sum_map hf]; exact room)
  rcases a5 with ⟨j, hi⟩ | ⟨j, b, Bs, hi, hA⟩ | ⟨j, b, Bs, hi, hA, hb, hb2⟩
  · have hi : i = .invokestatic j := hi
    subst hi
    obtain ⟨hnx, w1, w2, w3⟩ := ho.2 a4
    have hnx : nx = pc + 3 := hnx
    obtain ⟨hm, hM⟩ := hC _ _ _ _ _ a6 a4 ⟨_, w3⟩
    obtain ⟨⟨c1, c2, c3, c8, c4⟩, c5, c6, c7⟩ := w3
    have c4 : (pm k).2.2.2.1 ≤ 20 := c4
    have hd : decode G.2.2.1 pc = .ok (.invokestatic j, 3) := by rw [hd0, hnx, show pc + 3 - pc = 3 by omega]
    have hst : (F0 m pc ls (st.map (pz_v Z))).stack = (As.map (pz_v Z)).reverse ++ rest.map (pz_v Z) := by show st.map (pz_v Z) = _; rw [a1, List.map_append, List.map_reverse]
    by_cases hv : v = 1
    · unfold pe_link at w2
      rw [if_pos hv] at w2
      exact fin hm hnx _ _ (va_runSN hS5 hM ⟨va_cnB _ hS5.2.2.2.2 (pz_good (pz_ws_in c1)) rfl rfl rfl (C0.2.1.2.2.1.1 _ w2) (hS5.2.2.2.2 _ c2) ⟨c5, c6, c7⟩ ⟨hRd.1, by show 8 + ((pm k).2.2.2.1 + 11) + 60 * d ≤ R.locals; omega⟩, hS5.2.2.2.2 _ w1, trivial⟩ ⟨pz_blind, hpre⟩ rfl (by rw [List.length_map]; exact a2) hl.1 hst hW hd ⟨by have := hm.1; omega, by have := hm.2.1; omega⟩)
    · unfold pe_link at w2
      rw [if_neg hv] at w2
      refine fin hm hnx _ _ (va_runS hS5 hM (va_cwS _ hS5.2.2.2.2 (pz_good (fun w hw => ?_)) rfl rfl rfl ⟨c5, c6, c7⟩ ⟨hRd.1, by show 8 + ((pm k).2.2.2.1 + 11) + 60 * d ≤ R.locals; omega⟩) ⟨pz_blind, hpre⟩ rfl (by rw [List.length_map]; exact a2) hl.1 hst hW hd ⟨by have := hm.1; omega, by have := hm.2.1; omega⟩)
      rcases List.mem_append.mp hw with hw | hw
      · simp only [List.mem_cons, List.not_mem_nil, or_false] at hw
        rcases hw with rfl | rfl | rfl
        · exact w2
        · exact w1
        · exact c2
      · exact pz_ws_in c1 w hw
  · have hi : i = .invokespecial j := hi
    subst hi
    subst hA
    obtain ⟨hnx, w0, wn, w1, w2, w3⟩ := ho.2 a4
    have hnx : nx = pc + 3 := hnx
    obtain ⟨hm, hM⟩ := hC _ _ _ _ _ a6 a4 ⟨_, w3⟩
    obtain ⟨⟨c1, c2, c3, c8, c4⟩, c5, c6, c7⟩ := w3
    have c4 : (pm k).2.2.2.1 ≤ 20 := c4
    have hd : decode G.2.2.1 pc = .ok (.invokespecial j, 3) := by rw [hd0, hnx, show pc + 3 - pc = 3 by omega]
    have hst : (F0 m pc ls (st.map (pz_v Z))).stack = (Bs.map (pz_v Z)).reverse ++ .ref (pz_ad Z b) :: rest.map (pz_v Z) := by
      show st.map (pz_v Z) = _
      rw [a1]
      simp [pz_v]
    have hlen : (Bs.map (pz_v Z)).length = (pm k).2.2.2.2.2.1 - 1 := by rw [List.length_map, ← a2]; simp
    have wn : (pm k).2.2.2.2.1 = none := wn
    have hws : pz_ws (pm k) = Cond.code (pm k).2.1 (pm k).2.2.1 (pm k).2.2.2.1 none :: pz_B := by rw [← wn]; rfl
    by_cases hv : v = 1
    · unfold pe_link at w2
      rw [if_pos hv] at w2
      exact fin hm hnx _ _ (va_runIN hS5 hM ⟨va_cnB _ hS5.2.2.2.2 (pz_good (pz_ws_in c1)) hws rfl rfl (C0.2.1.2.2.1.1 _ w2) (hS5.2.2.2.2 _ c2) ⟨c5, c6, c7⟩ ⟨hRd.1, by show 8 + ((pm k).2.2.2.1 + 11) + 60 * d ≤ R.locals; omega⟩, w0, hS5.2.2.2.2 _ w1⟩ ⟨pz_blind, hpre⟩ rfl hlen hl.1 hst hW hd ⟨by have := hm.1; omega, by have := hm.2.1; omega⟩)
    · unfold pe_link at w2
      rw [if_neg hv] at w2
      exact fin hm hnx _ _ (va_runI hS5 hM (cwI _ hS5.2.2.2.2 (pz_good (pz_ws_in c1)) hws rfl rfl (hS5.2.2.2.2 _ c2) (hS5.2.2.2.2 _ w2) (hS5.2.2.2.2 _ w1) w0 ⟨c5, c6, c7⟩ ⟨hRd.1, by show 8 + ((pm k).2.2.2.1 + 11) + 60 * d ≤ R.locals; omega⟩) ⟨pz_blind, hpre⟩ rfl hlen hl.1 hst hW hd ⟨by have := hm.1; omega, by have := hm.2.1; omega⟩)
  · have hi : i = .invokevirtual j := hi
    subst hi
    subst hA
    obtain ⟨hnx, w6, w1, w2, w3, w4, w5⟩ := ho a4
    have hnx : nx = pc + 3 := hnx
    have w4 : pe_cls v.toNat = (pm k).2.1.cls := w4
    have hb : (ps_sh L h b).1 = v.toNat := hb
    have hb2 : b < 17 ∨ v.toNat < 20 := hb2
    have w6 : 10 ≤ v.toNat ∧ v.toNat ≤ 20 := w6
    obtain ⟨hm, hM⟩ := hC _ _ _ _ _ a6 a4 ⟨_, w5⟩
    obtain ⟨⟨c1, c2, c3, c8, c4⟩, c5, c6, c7⟩ := w5
    have c4 : (pm k).2.2.2.1 ≤ 20 := c4
    have hd : decode G.2.2.1 pc = .ok (.invokevirtual j, 3) := by rw [hd0, hnx, show pc + 3 - pc = 3 by omega]
    have hst : (F0 m pc ls (st.map (pz_v Z))).stack = (Bs.map (pz_v Z)).reverse ++ .ref (pz_ad Z b) :: rest.map (pz_v Z) := by
      show st.map (pz_v Z) = _
      rw [a1]
      simp [pz_v]
    have hlen : (Bs.map (pz_v Z)).length = (pm k).2.2.2.2.2.1 - 1 := by rw [List.length_map, ← a2]; simp
    have hrecv : ∃ cellB : Cell, H[pz_ad Z b]? = some cellB ∧ cellB.vm.isStatics = false ∧ s.vm.findClass (pm k).2.1.cls = some cellB.cls := by
      rw [← w4]
      unfold pe_cls
      by_cases h20 : v.toNat = 20
      · rw [if_pos h20]
        have hb17 : b < 17 := by omega
        rw [ps_sh_ext hb17] at hb
        obtain ⟨i', rfl⟩ : ∃ i', b = 3 + i' := ⟨b - 3, by rcases px_kinds b hb17 L with z | z | z <;> omega⟩
        have hi7 : i' < 7 := by rcases px_kinds (3 + i') hb17 L with z | z | z <;> omega
        obtain ⟨cell, f1, f2, f3, -⟩ := ((C0.2.1.2.1.2.2.2.2.2 i' hi7).1).kept hS.2.1
        rw [pz_ad_ext hb17]
        exact ⟨cell, f1, f2, f3⟩
      · rw [if_neg h20]
        have hb17 : 17 ≤ b := by
          by_cases z : b < 17
          · rw [ps_sh_ext z] at hb
            rcases px_kinds b z L with y | y | y <;> omega
          · omega
        have hat := pz_at (Z := Z) (L := L) (h := h) (a := b) hb17 rfl (by omega)
        rw [pz_cell_o (by omega), hb] at hat
        have hci : v.toNat - 10 < vwCl.length := by show v.toNat - 10 < 10; omega
        have hcl : vwCl[v.toNat - 10]? = some vwCl[v.toNat - 10] := List.getElem?_eq_getElem hci
        rw [hcl]
        exact va_recv C0.2.1.1 hP hcl hat
    refine fin hm hnx _ _ (va_runV hS5 hM (cwV _ hS5.2.2.2.2 (pz_good (fun w hw => ?_)) rfl rfl rfl ⟨rfl, c5, c6, c7⟩ ⟨hRd.1, by show 8 + ((pm k).2.2.2.1 + 11) + 60 * d ≤ R.locals; omega⟩) ⟨pz_blind, hrecv, hpre⟩ rfl hlen hl.1 hst hW hd ⟨by have := hm.1; omega, by have := hm.2.1; omega⟩)
    unfold wsV at hw
    rcases List.mem_append.mp hw with hw | hw
    · simp only [List.mem_cons, List.not_mem_nil, or_false] at hw
      rcases hw with rfl | rfl | rfl | rfl
      · exact w3
      · exact w1
      · exact w2
      · exact c2
    · exact pz_ws_in c1 w hw
end PC
end
section
/-! THE MACHINE FOLLOWS THE PURE MACHINE -/
section PT
variable {Z : pz_T} {L : Nat} {p : Program} {l : Launch} {e : Env} {R : Room} {s : State} {m : MethodId} {args : Array Value} {below : List Frame} {meth : Method} {c : Code} {Q : State → Prop} {h0 : ph_T} {n0 t0 : Nat}
theorem pf_mem {G : pm_T} {pc : Nat} {en : pe_T} (h : pf G pc = some en) : en ∈ G.2.2.2.2.2.2 ∧ pc = en.1 := by
  unfold pf at h
  refine ⟨List.mem_of_find?_eq_some h, ?_⟩
  have := List.find?_some h
  exact (by simpa using this : en.1 = pc).symm
theorem pz_run (htab : pz_tab) {k : Nat} (hk : k < 193) (C0 : pz_C Z L p R s m args meth c (pm k) h0 n0) {d : Nat} (hC : ∀ k As h r h', pr_C L d k As h r h' → k < 192 → (∃ n, pe_call (pm k) n) → pz_mono h h' ∧ pz_M Z L l d k As h r h') (hRd : d + 1 ≤ R.frames ∧ 60 * d + 60 ≤ R.locals) :
    ∀ (n : Nat) (x x1 : ps_T), pr_N (pr_C L d) L (pm k) n x x1 → (x1.2.2.2.1.length ≤ n0 + R.cells ∧ pz_tot x1.2.2.2.1 ≤ t0 + R.slots) → pz_J Z p l e R s m args below meth c Q (pm k) h0 n0 t0 x1 → pz_J Z p l e R s m args below meth c Q (pm k) h0 n0 t0 x := by
  intro n
  induction n with
  | zero => intro x x1 h _ q; cases h; exact q
  | succ n ih =>
    intro x x1 h hr q
    obtain ⟨s1, hdr | ⟨en, hf, hs⟩, h2⟩ := h
    · have q1 := ih s1 x1 h2 hr q
      obtain ⟨ks, rfl⟩ := hdr
      intro H locs ls cells slots hP hS hl he hc hsl
      refine q1 H locs ls cells slots hP hS (lv_sub hl ks ?_) he hc hsl
      simp [lv_pick, List.map_filterMap]
    have q1 := ih s1 x1 h2 hr q
    have hm := pr_mono_N n s1 x1 h2
    have hr1 : s1.2.2.2.1.length ≤ n0 + R.cells ∧ pz_tot s1.2.2.2.1 ≤ t0 + R.slots := ⟨Nat.le_trans hm.1 hr.1, Nat.le_trans hm.2.1 hr.2⟩
    obtain ⟨hin, hpc⟩ := pf_mem hf
    have hok := htab k hk en hin
    rcases hs with hs | hs
    · exact pz_step C0 hok hpc hs hr1 q1
    · exact pz_callW C0 hok hC hpc hs hRd hr1 q1
theorem pz_retW (htab : pz_tab) {k : Nat} (hk : k < 193) (C0 : pz_C Z L p R s m args meth c (pm k) h0 n0) (hr : meth.sig.returnType = (pm k).2.2.2.2.1) (hlocks : meth.locks = false) {x : ps_T} {r : Option Value} (hx : pr_R (pm k) x r) {mc ms : Nat} (hmc : mc + n0 = x.2.2.2.1.length) (hms : ms + t0 = pz_tot x.2.2.2.1) :
    pz_J Z p l e R s m args below meth c (MQ below (pz_Qc Z r x.2.2.2) args s mc ms (pz_A Z)) (pm k) h0 n0 t0 x := by
  obtain ⟨pc, lv, st, h⟩ := x
  obtain ⟨⟨hx', hb, -, -, -⟩, -⟩ := C0
  obtain ⟨en, hf, hx⟩ := hx
  obtain ⟨hin, hpc⟩ := pf_mem hf
  obtain ⟨hd0, hn, -⟩ := htab k hk en hin
  have hpc : pc = en.1 := hpc
  intro H locs ls cells slots hP hS hl he hc hs
  have hmc : mc + n0 = h.1.length := hmc
  have hms : ms + t0 = pz_tot h.1 := hms
  have hc : cells + n0 = h.1.length := hc
  have hs : slots + t0 = pz_tot h.1 := hs
  have e1 : mc = cells := by omega
  have e2 : ms = slots := by omega
  subst e1; subst e2
  have hq : ∀ t : State, t.heap = H → s.WarmedH t.vm → pz_Qc Z r h args s (.returned (r.map (pz_v Z))) t := fun t ht _ => ⟨rfl, by rw [ht]; exact hP, hS.F ht⟩
  have key : ∀ i, en.2.1 = i → pe_len i = some 1 → decode (pm k).2.2.1 pc = .ok (i, 1) := by
    intro i hi h1
    have h2 := hn 1 (by rw [hi]; exact h1)
    rw [hpc, hd0, hi, h2, show en.1 + 1 - en.1 = 1 by omega]
  rcases hx with ⟨hi, y, ty, hst, hty, hna, rfl⟩ | ⟨hi, y, hst, hty, rfl⟩ | ⟨hi, a, n, hst, hty, rfl⟩ | ⟨hi, hst, hty, rfl⟩
  · have hst : st = [.int y] := hst
    subst hst
    exact W.zret hx' hb (by rw [hr]; exact hty) hna hq hS.2.2 (key _ hi rfl) hlocks
  · have hst : st = [.long y] := hst
    subst hst
    exact W.lret hx' hb (by rw [hr]; exact hty) hq hS.2.2 (key _ hi rfl) hlocks
  · have hst : st = [.ref a] := hst
    subst hst
    exact W.aret hx' hb (by rw [hr]; exact hty) (Or.inl ⟨_, rfl⟩) (Or.inr ⟨_, rfl⟩) hq hS.2.2 (key _ hi rfl) hlocks
  · have hst : st = [] := hst
    subst hst
    exact W.vret hx' hb (by rw [hr]; exact hty) hq hS.2.2 (key _ hi rfl) hlocks
end PT
theorem pz_sound (htab : pz_tab) (Z : pz_T) (hf : Z.2.2.2.2 = .null ∨ ∃ t, Z.2.2.2.2 = .ref t) (L : Nat) (l : Launch) : ∀ (d k : Nat) (As : List Value) (h : ph_T) (r : Option Value) (h' : ph_T), pr_C L d k As h r h' → k < 192 → (∃ n, pe_call (pm k) n) → pz_mono h h' ∧ pz_M Z L l d k As h r h' := by
  intro d
  induction d with
  | zero => intro k As h r h' q; exact q.elim
  | succ d ih =>
    intro k As h r h' q hk hpe
    refine ⟨pr_mono L _ _ _ _ _ _ q, ?_⟩
    obtain ⟨hlen, n, x', h1, h2, rfl⟩ := q
    obtain ⟨-, ⟨-, -, hplain, hcls, -⟩, -⟩ := hpe
    have hm := pr_mono_N n _ x' h1
    refine Met.ofW (cc := (pm k).2.2.1) (maxL := (pm k).2.2.2.1) (ret := (pm k).2.2.2.2.1) hplain rfl ?_
    intro p e s m args below meth c s₁ B hml hv
    obtain ⟨rfl, ⟨hP, hsz⟩, hK, hX, hN⟩ := hv
    have hts0 := atoms_spec (ws := pz_ws (pm k)) B.pre
    have hts : ∀ w ∈ pz_B, w.before (As.map (pz_v Z)).toArray s = true := fun w hw => hts0 w (List.mem_cons_of_mem _ hw)
    have hown : s.vm.findClass (pm k).1 = some m.cls := by rw [hcls]; exact findClass_of_methodNamed B.named
    have hnm : meth.name = (pm k).2.1.name := (name_of_methodNamed B.named B.method).1
    have C0 : pz_C Z L p (headSpec (pz_ws (pm k)) (pz_rm (d + 1) (x'.2.2.2.1.length - h.1.length) (pz_tot x'.2.2.2.1 - pz_tot h.1))).room s m (As.map (pz_v Z)).toArray meth c (pm k) h h.1.length :=
      ⟨⟨B.exec, B.bytes, hml, hown, hts⟩, ⟨hK, hX, hN, hsz⟩, hf, hnm, by show 1 ≤ d + 1; omega, by show 60 ≤ 60 * (d + 1); omega⟩
    have hR1 : x'.2.2.2.1.length ≤ h.1.length + (x'.2.2.2.1.length - h.1.length) ∧ pz_tot x'.2.2.2.1 ≤ pz_tot h.1 + (pz_tot x'.2.2.2.1 - pz_tot h.1) := ⟨by omega, by omega⟩
    have hJ := pz_retW (l := l) (e := e) (below := below) (t0 := pz_tot h.1) htab (by omega) C0 B.returns B.notSynchronized h2 (mc := x'.2.2.2.1.length - h.1.length) (ms := pz_tot x'.2.2.2.1 - pz_tot h.1) (by have : h.1.length ≤ x'.2.2.2.1.length := hm.1; omega) (by have : pz_tot h.1 ≤ pz_tot x'.2.2.2.1 := hm.2.1; omega)
    have hJ0 := pz_run (d := d) htab (by omega) C0 ih ⟨by show d + 1 ≤ d + 1; omega, by show 60 * d + 60 ≤ 60 * (d + 1); omega⟩ n _ x' h1 hR1 hJ
    have hl := lv_entry (As.map (pz_v Z)) (n := (pm k).2.2.2.1) (by rw [pz_argl Z hf]; exact hlen)
    rw [pz_args Z hf] at hl
    rw [lg_entry_eq]
    exact hJ0 s.heap [] _ 0 0 hP va_S.rf hl (fun _ _ => rfl) (by show 0 + h.1.length = h.1.length; omega) (by show 0 + pz_tot h.1 = pz_tot h.1; omega)
end
section
/-! THE HEAP BEHIND THE CONSTRUCTORS: its cells and references never change any more, only the ints do. -/
abbrev pd_M : Type := Nat → Nat → Int32
def SH : List (Nat × Nat) := [(18, 9), (4, 8), (15, 4), (0, 40), (15, 4), (0, 40), (15, 4), (0, 40), (15, 4), (0, 40), (15, 4), (0, 40), (15, 4), (0, 40), (15, 4), (0, 40), (15, 4), (0, 40), (16, 4), (1, 500), (1, 501), (2, 501), (17, 4), (12, 5), (0, 4), (0, 16), (0, 4), (0, 4), (5, 20), (6, 16), (0, 4), (14, 9), (14, 9), (14, 9), (14, 9), (14, 9), (14, 9), (14, 9), (14, 9), (14, 9), (14, 9), (14, 9), (14, 9), (14, 9), (14, 9), (14, 9), (14, 9), (14, 9), (14, 9), (14, 9), (14, 9), (10, 2), (0, 24), (10, 2), (0, 24), (10, 2), (0, 24), (10, 2), (0, 24), (10, 2), (0, 24), (10, 2), (0, 24), (10, 2), (0, 24), (10, 2), (0, 24), (10, 2), (0, 24), (10, 2), (0, 24), (10, 2), (0, 24), (10, 2), (0, 24), (10, 2), (0, 24), (10, 2), (0, 24), (10, 2), (0, 24), (10, 2), (0, 24), (13, 5), (12, 5), (0, 4), (0, 16), (0, 4), (0, 4), (11, 4), (0, 625), (0, 625), (0, 16), (19, 44), (0, 8), (0, 8), (0, 320), (0, 4), (0, 4), (0, 16), (0, 96), (0, 96), (0, 96), (0, 96), (0, 20), (0, 20), (0, 20), (0, 20), (0, 20), (0, 20), (3, 20), (0, 20), (0, 80), (0, 16), (0, 16), (0, 4), (0, 4), (0, 4), (0, 4), (0, 500), (0, 625), (0, 625), (0, 4), (0, 16)]
def MRL : List (List Nat) := [[19, 36, 40, 101, 107, 110], [20, 22, 24, 26, 28, 30, 32, 34], [21], [], [23], [], [25], [], [27], [], [29], [], [31], [], [33], [], [35], [], [37, 38, 39], [], [], [], [41, 46, 47, 48], [42, 43, 44, 45], [], [], [], [], [49, 50, 51, 52, 53, 54, 55, 56, 57, 58, 59, 60, 61, 62, 63, 64, 65, 66, 67, 68], [69, 71, 73, 75, 77, 79, 81, 83, 85, 87, 89, 91, 93, 95, 97, 99], [], [], [], [], [], [], [], [], [], [], [], [], [], [], [], [], [], [], [], [], [], [70], [], [72], [], [74], [], [76], [], [78], [], [80], [], [82], [], [84], [], [86], [], [88], [], [90], [], [92], [], [94], [], [96], [], [98], [], [100], [], [36, 40, 102], [103, 104, 105, 106], [], [], [], [], [40, 108, 109], [], [], [], [0, 0, 112, 113, 114, 115, 116, 117, 118, 119, 120, 121, 0, 0, 122, 123, 124, 125, 126, 127, 128, 129, 130, 131, 132, 133, 134, 135, 136, 137, 0, 0, 0, 0, 0, 0, 0, 0, 0, 138, 139, 140, 141], [], [], [], [], [], [], [], [], [], [], [], [], [], [], [], [], [], [], [], [], [], [], [], [], [], [], [], [], [], []]
def MR (a k : Nat) : Nat := (MRL.getD (a - 17) []).getD k 0
abbrev hH (f : pd_M) : ph_T := (SH, MR, f)
def sk (a : Nat) : Nat × Nat := SH.getD (a - 17) (99, 0)
theorem ge_of {a k n : Nat} (h : sk a = (k, n)) (hk : k ≠ 18) : 17 ≤ a := by
  by_cases ha : a < 17
  · exfalso
    unfold sk at h
    rw [show a - 17 = 0 by omega] at h
    have : (18, 9) = (k, n) := h
    cases this
    exact hk rfl
  · omega
theorem sh_of {L : Nat} {f : pd_M} {a k n : Nat} (h : sk a = (k, n)) (hk : k ≠ 18) : ps_sh L (hH f) a = (k, n) := by
  have := ge_of h hk
  unfold ps_sh
  rw [if_neg (by omega)]
  exact h
theorem sh_str {L : Nat} {f : pd_M} {a : Nat} (h : 3 ≤ a ∧ a < 10) : ps_sh L (hH f) a = (20, 2) := by
  unfold ps_sh
  rw [if_pos (by omega)]
  rcases (by omega : a = 3 ∨ a = 4 ∨ a = 5 ∨ a = 6 ∨ a = 7 ∨ a = 8 ∨ a = 9) with rfl | rfl | rfl | rfl | rfl | rfl | rfl <;> rfl
theorem str_lt {a : Nat} (h : 3 ≤ a ∧ a < 10) : a < 17 := by omega
theorem lt_of_in {i : Int32} {n : Nat} (h : pa_in i n = true) : i.toNatClampNeg < n := by
  have := pa_in_iff.mp h
  unfold vp_in at this
  omega
theorem sh_ge {L : Nat} {f : pd_M} {a k n : Nat} (h : ps_sh L (hH f) a = (k, n)) (h1 : 10 ≤ k) (h2 : k < 20) : 17 ≤ a := by
  by_cases ha : a < 17
  · exfalso
    rw [ps_sh_ext ha] at h
    have h3 : (px_sh L a).1 = k := by rw [h]
    rcases px_kinds a ha L with z | z | z <;> omega
  · omega
theorem fr_15_0 : ∀ a, a < 141 → sk a = (15, 4) → MR a 0 = a + 1 + 1 ∧ sk (a + 1) = (0, 40) := by decide +kernel
theorem fr_10_0 : ∀ a, a < 141 → sk a = (10, 2) → MR a 0 = a + 1 + 1 ∧ sk (a + 1) = (0, 24) := by decide +kernel
theorem fr_12_0 : ∀ a, a < 141 → sk a = (12, 5) → MR a 0 = a + 1 + 1 ∧ sk (a + 1) = (0, 4) := by decide +kernel
theorem fr_12_1 : ∀ a, a < 141 → sk a = (12, 5) → MR a 1 = a + 2 + 1 ∧ sk (a + 2) = (0, 16) := by decide +kernel
theorem fr_12_2 : ∀ a, a < 141 → sk a = (12, 5) → MR a 2 = a + 3 + 1 ∧ sk (a + 3) = (0, 4) := by decide +kernel
theorem fr_12_3 : ∀ a, a < 141 → sk a = (12, 5) → MR a 3 = a + 4 + 1 ∧ sk (a + 4) = (0, 4) := by decide +kernel
theorem sk_lt {a k n : Nat} (h : sk a = (k, n)) (hk : k ≠ 99) : a < 141 := by
  by_cases ha : a < 141
  · exact ha
  · exfalso
    unfold sk at h
    rw [List.getD_eq_getElem?_getD, List.getElem?_eq_none (by show 124 ≤ a - 17; omega)] at h
    cases h
    exact hk rfl
theorem ref_15_0 {a : Nat} (h : sk a = (15, 4)) : MR a 0 = a + 1 + 1 := (fr_15_0 a (sk_lt h (by decide)) h).1
theorem fam_15_0 {a : Nat} (h : sk a = (15, 4)) : sk (a + 1) = (0, 40) := (fr_15_0 a (sk_lt h (by decide)) h).2
theorem ref_10_0 {a : Nat} (h : sk a = (10, 2)) : MR a 0 = a + 1 + 1 := (fr_10_0 a (sk_lt h (by decide)) h).1
theorem fam_10_0 {a : Nat} (h : sk a = (10, 2)) : sk (a + 1) = (0, 24) := (fr_10_0 a (sk_lt h (by decide)) h).2
theorem ref_12_0 {a : Nat} (h : sk a = (12, 5)) : MR a 0 = a + 1 + 1 := (fr_12_0 a (sk_lt h (by decide)) h).1
theorem fam_12_0 {a : Nat} (h : sk a = (12, 5)) : sk (a + 1) = (0, 4) := (fr_12_0 a (sk_lt h (by decide)) h).2
theorem ref_12_1 {a : Nat} (h : sk a = (12, 5)) : MR a 1 = a + 2 + 1 := (fr_12_1 a (sk_lt h (by decide)) h).1
theorem fam_12_1 {a : Nat} (h : sk a = (12, 5)) : sk (a + 2) = (0, 16) := (fr_12_1 a (sk_lt h (by decide)) h).2
theorem ref_12_2 {a : Nat} (h : sk a = (12, 5)) : MR a 2 = a + 3 + 1 := (fr_12_2 a (sk_lt h (by decide)) h).1
theorem fam_12_2 {a : Nat} (h : sk a = (12, 5)) : sk (a + 3) = (0, 4) := (fr_12_2 a (sk_lt h (by decide)) h).2
theorem ref_12_3 {a : Nat} (h : sk a = (12, 5)) : MR a 3 = a + 4 + 1 := (fr_12_3 a (sk_lt h (by decide)) h).1
theorem fam_12_3 {a : Nat} (h : sk a = (12, 5)) : sk (a + 4) = (0, 4) := (fr_12_3 a (sk_lt h (by decide)) h).2
theorem arr_18 : ∀ j, j < 8 → sk (19 + 2 * j) = (15, 4) ∧ MR 18 j = 19 + 2 * j + 1 := by decide +kernel
theorem arr_sh_18 {j : Nat} (h : j < 8) : sk (19 + 2 * j) = (15, 4) := (arr_18 j h).1
theorem arr_rf_18 {j : Nat} (h : j < 8) : MR 18 j = 19 + 2 * j + 1 := (arr_18 j h).2
theorem arr_45 : ∀ j, j < 20 → sk (48 + j) = (14, 9) ∧ MR 45 j = 48 + j + 1 := by decide +kernel
theorem arr_sh_45 {j : Nat} (h : j < 20) : sk (48 + j) = (14, 9) := (arr_45 j h).1
theorem arr_rf_45 {j : Nat} (h : j < 20) : MR 45 j = 48 + j + 1 := (arr_45 j h).2
theorem arr_46 : ∀ j, j < 16 → sk (68 + 2 * j) = (10, 2) ∧ MR 46 j = 68 + 2 * j + 1 := by decide +kernel
theorem arr_sh_46 {j : Nat} (h : j < 16) : sk (68 + 2 * j) = (10, 2) := (arr_46 j h).1
theorem arr_rf_46 {j : Nat} (h : j < 16) : MR 46 j = 68 + 2 * j + 1 := (arr_46 j h).2
def pd_oki (kind n k : Nat) : Bool := decide (10 ≤ kind ∧ kind < 20 ∧ k < n) && decide (pf_ty (kind - 10) k ≠ 1)
def pd_okr (kind n k : Nat) : Bool := decide (10 ≤ kind ∧ kind < 20 ∧ k < n) && decide (pf_ty (kind - 10) k = 1)
def pd_okp (t kind n k : Nat) : Bool := decide (10 ≤ kind ∧ kind < 20 ∧ k < n) && decide (pf_ty (kind - 10) k = t)
section DG
variable {L : Nat} {f : pd_M} {a b k kind n j : Nat} {i x : Int32}
theorem gd_i (hsh : ps_sh L (hH f) a = (kind, n)) (hk : pd_oki kind n k = true) : pg_get L (hH f) a k kind = some (.int (f a k)) := by
  unfold pd_oki at hk
  simp only [Bool.and_eq_true, decide_eq_true_eq] at hk
  unfold pg_get
  rw [hsh]
  rw [if_pos rfl, if_neg (by omega), if_pos ⟨hk.1.1, hk.1.2.1, hk.1.2.2⟩, if_neg hk.2]
theorem gd_r (hsh : ps_sh L (hH f) a = (kind, n)) (hk : pd_okr kind n k = true) (hr : MR a k = b + 1) : pg_get L (hH f) a k kind = some (.ref b) := by
  unfold pd_okr at hk
  simp only [Bool.and_eq_true, decide_eq_true_eq] at hk
  unfold pg_get
  rw [hsh]
  rw [if_pos rfl, if_neg (by omega), if_pos ⟨hk.1.1, hk.1.2.1, hk.1.2.2⟩, if_pos hk.2]
  show (if MR a k = 0 then none else some (Value.ref (MR a k - 1))) = _
  rw [hr, if_neg (by omega)]
  rfl
theorem gd_pi (hsh : ps_sh L (hH f) a = (kind, n)) (hk : pd_okp 0 kind n k = true) : pg_put L (hH f) a k kind (.int x) = some (hH (pi_up f a k x)) := by
  unfold pd_okp at hk
  simp only [Bool.and_eq_true, decide_eq_true_eq] at hk
  have h17 := sh_ge hsh hk.1.1 hk.1.2.1
  unfold pg_put
  rw [hsh, if_pos ⟨h17, rfl, hk.1.1, hk.1.2.1, hk.1.2.2⟩]
  show (if pf_ty (kind - 10) k = 0 ∨ _ then _ else _) = _
  rw [if_pos (Or.inl hk.2)]
theorem gd_pz (hsh : ps_sh L (hH f) a = (kind, n)) (hk : pd_okp 2 kind n k = true) (hx : x = 0 ∨ x = 1) : pg_put L (hH f) a k kind (.int x) = some (hH (pi_up f a k x)) := by
  unfold pd_okp at hk
  simp only [Bool.and_eq_true, decide_eq_true_eq] at hk
  have h17 := sh_ge hsh hk.1.1 hk.1.2.1
  unfold pg_put
  rw [hsh, if_pos ⟨h17, rfl, hk.1.1, hk.1.2.1, hk.1.2.2⟩]
  show (if pf_ty (kind - 10) k = 0 ∨ _ then _ else _) = _
  rw [if_pos (Or.inr ⟨hk.2, hx⟩)]
theorem gd_ld {ks : List Nat} (hsh : ps_sh L (hH f) a = (kind, n)) (hk : kind ∈ ks) (hin : pa_in i n = true) (hj : i.toNatClampNeg = j) : pa_ld L (hH f) ks a i = some (.int (f a j)) := by
  unfold pa_ld
  rw [hsh, if_pos ⟨hk, hin⟩, hj]
theorem gd_ia (hsh : ps_sh L (hH f) a = (0, n)) (hin : pa_in i n = true) (hj : i.toNatClampNeg = j) : pa_ld L (hH f) [0] a i = some (.int (f a j)) := gd_ld hsh (by simp) hin hj
theorem gd_ba (hsh : ps_sh L (hH f) a = (1, n)) (hin : pa_in i n = true) (hj : i.toNatClampNeg = j) : pa_ld L (hH f) [1, 3] a i = some (.int (f a j)) := gd_ld hsh (by simp) hin hj
theorem gd_za (hsh : ps_sh L (hH f) a = (3, n)) (hin : pa_in i n = true) (hj : i.toNatClampNeg = j) : pa_ld L (hH f) [1, 3] a i = some (.int (f a j)) := gd_ld hsh (by simp) hin hj
theorem gd_sa (hsh : ps_sh L (hH f) a = (2, n)) (hin : pa_in i n = true) (hj : i.toNatClampNeg = j) : pa_ld L (hH f) [2] a i = some (.int (f a j)) := gd_ld hsh (by simp) hin hj
theorem gd_aa (hsh : ps_sh L (hH f) a = (kind, n)) (h17 : 17 ≤ a) (hk : decide (kind ∈ [4, 5, 6]) = true) (hin : pa_in i n = true) (hj : i.toNatClampNeg = j) (hr : MR a j = b + 1) : pa_ldr L (hH f) a i = some (.ref b) := by
  unfold pa_ldr
  rw [hsh, hj]
  show (if 17 ≤ a ∧ kind ∈ [4, 5, 6] ∧ pa_in i n = true ∧ MR a j ≠ 0 then some (Value.ref (MR a j - 1)) else none) = _
  rw [hr, if_pos ⟨h17, of_decide_eq_true hk, hin, by omega⟩]
  rfl
theorem gd_st {ks : List Nat} (hsh : ps_sh L (hH f) a = (kind, n)) (h17 : 17 ≤ a) (hk : kind ∈ ks) (hin : pa_in i n = true) (hj : i.toNatClampNeg = j) : pa_st L (hH f) ks a i x = some (hH (pi_up f a j (pa_nar kind x))) := by
  unfold pa_st
  rw [hsh, if_pos ⟨h17, hk, hin⟩, hj]
theorem gd_si (hsh : ps_sh L (hH f) a = (0, n)) (h17 : 17 ≤ a) (hin : pa_in i n = true) (hj : i.toNatClampNeg = j) : pa_st L (hH f) [0] a i x = some (hH (pi_up f a j x)) := gd_st hsh h17 (by simp) hin hj
theorem gd_sb (hsh : ps_sh L (hH f) a = (1, n)) (h17 : 17 ≤ a) (hin : pa_in i n = true) (hj : i.toNatClampNeg = j) : pa_st L (hH f) [1, 3] a i x = some (hH (pi_up f a j x.toInt8.toInt32)) := by
  rw [← vp_nar_byte]
  exact gd_st hsh h17 (by simp) hin hj
theorem gd_ss (hsh : ps_sh L (hH f) a = (2, n)) (h17 : 17 ≤ a) (hin : pa_in i n = true) (hj : i.toNatClampNeg = j) : pa_st L (hH f) [2] a i x = some (hH (pi_up f a j x.toInt16.toInt32)) := by
  rw [← vp_nar_short]
  exact gd_st hsh h17 (by simp) hin hj
theorem gd_sz (hsh : ps_sh L (hH f) a = (3, n)) (h17 : 17 ≤ a) (hin : pa_in i n = true) (hj : i.toNatClampNeg = j) : pa_st L (hH f) [1, 3] a i x = some (hH (pi_up f a j (vp_nar .boolean x))) := gd_st hsh h17 (by simp) hin hj
theorem gd_len (hsh : ps_sh L (hH f) a = (kind, n)) (hk : Nat.ble kind 6 = true) (hx : Int32.ofNat n = x) : pa_len L (hH f) a = some (.int x) := by
  unfold pa_len
  rw [hsh, if_pos (Nat.le_of_ble_eq_true hk), hx]
def pd_cp (sp dp m : Int32) (n0 n1 : Nat) : Bool := decide (¬ sp < 0 ∧ ¬ dp < 0 ∧ ¬ m < 0 ∧ sp.toNatClampNeg + m.toNatClampNeg ≤ n0 ∧ dp.toNatClampNeg + m.toNatClampNeg ≤ n1)
theorem gd_cp {a0 a1 n0 n1 : Nat} {sp dp m : Int32} (h0 : ps_sh L (hH f) a0 = (0, n0)) (h1 : ps_sh L (hH f) a1 = (0, n1)) (g0 : 17 ≤ a0) (g1 : 17 ≤ a1) (hc : pd_cp sp dp m n0 n1 = true) : pa_cpy L (hH f) a0 sp a1 dp m = some (hH (pi_row f a1 (va_cpy (f a0) (f a1) sp.toNatClampNeg dp.toNatClampNeg m.toNatClampNeg))) := by
  unfold pa_cpy
  rw [h0, h1, if_pos ⟨⟨g0, g1, rfl, rfl⟩, of_decide_eq_true hc⟩]
end DG
def pn {α β : Type} (x : α) (k : α → β) : β := k x
theorem pn_some {α β : Type} {x : α} {k : α → β} {o : β} (h : pn x k = o) : ∃ y, y = x ∧ k y = o := ⟨x, rfl, h⟩
def ob1 {α δ : Type} (x : Option α) (k : α → Option δ) : Option δ := match x with
  | some a => k a
  | none => none
def ob2 {α β δ : Type} (x : Option (α × β)) (k : α → β → Option δ) : Option δ := match x with
  | some (a, b) => k a b
  | none => none
def ob3 {α β γ δ : Type} (x : Option (α × β × γ)) (k : α → β → γ → Option δ) : Option δ := match x with
  | some (a, b, c) => k a b c
  | none => none
def ob4 {α β γ ε δ : Type} (x : Option (α × β × γ × ε)) (k : α → β → γ → ε → Option δ) : Option δ := match x with
  | some (a, b, c, d) => k a b c d
  | none => none
def ob5 {α β γ ε ζ δ : Type} (x : Option (α × β × γ × ε × ζ)) (k : α → β → γ → ε → ζ → Option δ) : Option δ := match x with
  | some (a, b, c, d, e) => k a b c d e
  | none => none
def ob9 {α1 α2 α3 α4 α5 α6 α7 α8 α9 δ : Type} (x : Option (α1 × α2 × α3 × α4 × α5 × α6 × α7 × α8 × α9)) (k : α1 → α2 → α3 → α4 → α5 → α6 → α7 → α8 → α9 → Option δ) : Option δ := match x with
  | some (a1, a2, a3, a4, a5, a6, a7, a8, a9) => k a1 a2 a3 a4 a5 a6 a7 a8 a9
  | none => none
def obu {δ : Type} (x : Option Unit) (k : Unit → Option δ) : Option δ := match x with
  | some _ => k ()
  | none => none
theorem ob1_some {α δ : Type} {x : Option α} {k : α → Option δ} {o : δ} (h : ob1 x k = some o) : ∃ a, x = some a ∧ k a = some o := by
  cases x with
  | none => cases h
  | some a => exact ⟨a, rfl, h⟩
theorem ob2_some {α β δ : Type} {x : Option (α × β)} {k : α → β → Option δ} {o : δ} (h : ob2 x k = some o) : ∃ a b, x = some (a, b) ∧ k a b = some o := by
  cases x with
  | none => cases h
  | some a => exact ⟨a.1, a.2, rfl, h⟩
theorem ob3_some {α β γ δ : Type} {x : Option (α × β × γ)} {k : α → β → γ → Option δ} {o : δ} (h : ob3 x k = some o) : ∃ a b c, x = some (a, b, c) ∧ k a b c = some o := by
  cases x with
  | none => cases h
  | some a => exact ⟨a.1, a.2.1, a.2.2, rfl, h⟩
theorem ob4_some {α β γ ε δ : Type} {x : Option (α × β × γ × ε)} {k : α → β → γ → ε → Option δ} {o : δ} (h : ob4 x k = some o) : ∃ a b c d, x = some (a, b, c, d) ∧ k a b c d = some o := by
  cases x with
  | none => cases h
  | some a => exact ⟨a.1, a.2.1, a.2.2.1, a.2.2.2, rfl, h⟩
theorem ob5_some {α β γ ε ζ δ : Type} {x : Option (α × β × γ × ε × ζ)} {k : α → β → γ → ε → ζ → Option δ} {o : δ} (h : ob5 x k = some o) : ∃ a b c d e, x = some (a, b, c, d, e) ∧ k a b c d e = some o := by
  cases x with
  | none => cases h
  | some a => exact ⟨a.1, a.2.1, a.2.2.1, a.2.2.2.1, a.2.2.2.2, rfl, h⟩
theorem ob9_some {α1 α2 α3 α4 α5 α6 α7 α8 α9 δ : Type} {x : Option (α1 × α2 × α3 × α4 × α5 × α6 × α7 × α8 × α9)} {k : α1 → α2 → α3 → α4 → α5 → α6 → α7 → α8 → α9 → Option δ} {o : δ} (h : ob9 x k = some o) : ∃ a1 a2 a3 a4 a5 a6 a7 a8 a9, x = some (a1, a2, a3, a4, a5, a6, a7, a8, a9) ∧ k a1 a2 a3 a4 a5 a6 a7 a8 a9 = some o := by
  cases x with
  | none => cases h
  | some a => exact ⟨a.1, a.2.1, a.2.2.1, a.2.2.2.1, a.2.2.2.2.1, a.2.2.2.2.2.1, a.2.2.2.2.2.2.1, a.2.2.2.2.2.2.2.1, a.2.2.2.2.2.2.2.2, rfl, h⟩
theorem obu_some {δ : Type} {x : Option Unit} {k : Unit → Option δ} {o : δ} (h : obu x k = some o) : x = some () ∧ k () = some o := by
  cases x with
  | none => cases h
  | some a => exact ⟨rfl, h⟩
def os0 {ρ δ : Type} (x : Option (ρ ⊕ Unit)) (g : ρ → Option δ) (k : Option δ) : Option δ := match x with
  | some (.inl q) => g q
  | some (.inr _) => k
  | none => none
def os1 {ρ α δ : Type} (x : Option (ρ ⊕ α)) (g : ρ → Option δ) (k : α → Option δ) : Option δ := match x with
  | some (.inl q) => g q
  | some (.inr a) => k a
  | none => none
def os2 {ρ α β δ : Type} (x : Option (ρ ⊕ (α × β))) (g : ρ → Option δ) (k : α → β → Option δ) : Option δ := match x with
  | some (.inl q) => g q
  | some (.inr (a, b)) => k a b
  | none => none
theorem os0_some {ρ δ : Type} {x : Option (ρ ⊕ Unit)} {g : ρ → Option δ} {k : Option δ} {o : δ} (h : os0 x g k = some o) : (∃ q, x = some (.inl q) ∧ g q = some o) ∨ (x = some (.inr ()) ∧ k = some o) := by
  cases x with
  | none => cases h
  | some a =>
    cases a with
    | inl q => exact Or.inl ⟨q, rfl, h⟩
    | inr a => exact Or.inr ⟨rfl, h⟩
theorem os1_some {ρ α δ : Type} {x : Option (ρ ⊕ α)} {g : ρ → Option δ} {k : α → Option δ} {o : δ} (h : os1 x g k = some o) : (∃ q, x = some (.inl q) ∧ g q = some o) ∨ (∃ a, x = some (.inr a) ∧ k a = some o) := by
  cases x with
  | none => cases h
  | some a =>
    cases a with
    | inl q => exact Or.inl ⟨q, rfl, h⟩
    | inr a => exact Or.inr ⟨a, rfl, h⟩
theorem os2_some {ρ α β δ : Type} {x : Option (ρ ⊕ (α × β))} {g : ρ → Option δ} {k : α → β → Option δ} {o : δ} (h : os2 x g k = some o) : (∃ q, x = some (.inl q) ∧ g q = some o) ∨ (∃ a b, x = some (.inr (a, b)) ∧ k a b = some o) := by
  cases x with
  | none => cases h
  | some a =>
    cases a with
    | inl q => exact Or.inl ⟨q, rfl, h⟩
    | inr a => exact Or.inr ⟨a.1, a.2, rfl, h⟩
theorem nar_z {x : Int32} (h : x = 0 ∨ x = 1) : narrow .boolean (.int x) = .int x := by
  rcases h with rfl | rfl <;> decide
theorem sw_out {pc : Nat} {dd lo hi : Int} {offs : Array Int} {x : Int32} {t : Nat} (ht : pt_to pc dd = some t) (hk : ∀ k : Int, lo ≤ k ∧ k ≤ hi → ¬ x = Int32.ofInt k) (hb : -2147483648 ≤ lo ∧ hi ≤ 2147483647) : pt_sw pc dd lo hi offs x = some t := by
  unfold pt_sw
  rw [if_pos, ht]
  by_cases h : x.toInt < lo ∨ hi < x.toInt
  · exact h
  · exfalso
    refine hk x.toInt (by omega) ?_
    rw [Int32.ofInt_toInt]
section PG2
variable {L d : Nat} {G : pm_T} {r : Option Value} {h' h : ph_T} {pc nx k : Nat} {v : Int} {lv lv' : List (Nat × Value)} {st st1 : List Value} {x y : Int32}
theorem gs_topi (hx : y = x) (q : pr_G L d G (pc, lv, .int y :: st, h) r h') : pr_G L d G (pc, lv, .int x :: st, h) r h' := by subst hx; exact q
theorem gs_topl {x y : Int64} (hx : y = x) (q : pr_G L d G (pc, lv, .long y :: st, h) r h') : pr_G L d G (pc, lv, .long x :: st, h) r h' := by subst hx; exact q
theorem gs_heap {f g : pd_M} (hf : g = f) (q : pr_G L d G (pc, lv, st, hH g) r h') : pr_G L d G (pc, lv, st, hH f) r h' := by subst hf; exact q
theorem gs_iinc1 {j : Nat} {z : Int} {x1 c : Int32} (hf : pf G pc = some (pc, .iinc j z, nx, k, v)) (hx : pl_get lv j = some (.int x)) (hc : Int32.ofInt z = c) (h1 : x1 = x + c) (hg : pl_set lv j (.int x1) = lv') (q : pr_G L d G (nx, lv', st, h) r h') : pr_G L d G (pc, lv, st, h) r h' := by
  subst hc
  subst h1
  exact gs_iinc hf hx hg q
section CS
variable {As Bs : List Value} {h1 : ph_T} {j b : Nat}
theorem gs_callsI {w : Int32} (hf : pf G pc = some (pc, .invokestatic j, nx, k, v)) (hc : pr_C L d k As h (some (.int w)) h1) (hs : As.reverse ++ st = st1) (hn : As.length = (pm k).2.2.2.2.2.1) (hw : Nat.ble (pk_sum st) 8 = true) (hk : k < 192) (q : pr_G L d G (nx, lv, .int w :: st, h1) r h') : pr_G L d G (pc, lv, st1, h) r h' := gs_calls hf hc hs hn (Nat.le_of_ble_eq_true hw) hk q
theorem gs_callsL {w : Int64} (hf : pf G pc = some (pc, .invokestatic j, nx, k, v)) (hc : pr_C L d k As h (some (.long w)) h1) (hs : As.reverse ++ st = st1) (hn : As.length = (pm k).2.2.2.2.2.1) (hw : Nat.ble (pk_sum st) 8 = true) (hk : k < 192) (q : pr_G L d G (nx, lv, .long w :: st, h1) r h') : pr_G L d G (pc, lv, st1, h) r h' := gs_calls hf hc hs hn (Nat.le_of_ble_eq_true hw) hk q
theorem gs_callsV (hf : pf G pc = some (pc, .invokestatic j, nx, k, v)) (hc : pr_C L d k As h none h1) (hs : As.reverse ++ st = st1) (hn : As.length = (pm k).2.2.2.2.2.1) (hw : Nat.ble (pk_sum st) 8 = true) (hk : k < 192) (q : pr_G L d G (nx, lv, st, h1) r h') : pr_G L d G (pc, lv, st1, h) r h' := gs_calls hf hc hs hn (Nat.le_of_ble_eq_true hw) hk q
theorem gs_callvI {w : Int32} (hf : pf G pc = some (pc, .invokevirtual j, nx, k, v)) (hc : pr_C L d k (.ref b :: Bs) h (some (.int w)) h1) (hs : (.ref b :: Bs : List Value).reverse ++ st = st1) (hn : (.ref b :: Bs : List Value).length = (pm k).2.2.2.2.2.1) (hw : Nat.ble (pk_sum st) 8 = true) (hk : k < 192) (hb : (ps_sh L h b).1 = v.toNat) (hb2 : b < 17 ∨ v.toNat < 20) (q : pr_G L d G (nx, lv, .int w :: st, h1) r h') : pr_G L d G (pc, lv, st1, h) r h' := gs_callv hf hc hs hn (Nat.le_of_ble_eq_true hw) hk hb hb2 q
theorem gs_callvL {w : Int64} (hf : pf G pc = some (pc, .invokevirtual j, nx, k, v)) (hc : pr_C L d k (.ref b :: Bs) h (some (.long w)) h1) (hs : (.ref b :: Bs : List Value).reverse ++ st = st1) (hn : (.ref b :: Bs : List Value).length = (pm k).2.2.2.2.2.1) (hw : Nat.ble (pk_sum st) 8 = true) (hk : k < 192) (hb : (ps_sh L h b).1 = v.toNat) (hb2 : b < 17 ∨ v.toNat < 20) (q : pr_G L d G (nx, lv, .long w :: st, h1) r h') : pr_G L d G (pc, lv, st1, h) r h' := gs_callv hf hc hs hn (Nat.le_of_ble_eq_true hw) hk hb hb2 q
theorem gs_callvR {w : Nat} (hf : pf G pc = some (pc, .invokevirtual j, nx, k, v)) (hc : pr_C L d k (.ref b :: Bs) h (some (.ref w)) h1) (hs : (.ref b :: Bs : List Value).reverse ++ st = st1) (hn : (.ref b :: Bs : List Value).length = (pm k).2.2.2.2.2.1) (hw : Nat.ble (pk_sum st) 8 = true) (hk : k < 192) (hb : (ps_sh L h b).1 = v.toNat) (hb2 : b < 17 ∨ v.toNat < 20) (q : pr_G L d G (nx, lv, .ref w :: st, h1) r h') : pr_G L d G (pc, lv, st1, h) r h' := gs_callv hf hc hs hn (Nat.le_of_ble_eq_true hw) hk hb hb2 q
theorem gs_callvV (hf : pf G pc = some (pc, .invokevirtual j, nx, k, v)) (hc : pr_C L d k (.ref b :: Bs) h none h1) (hs : (.ref b :: Bs : List Value).reverse ++ st = st1) (hn : (.ref b :: Bs : List Value).length = (pm k).2.2.2.2.2.1) (hw : Nat.ble (pk_sum st) 8 = true) (hk : k < 192) (hb : (ps_sh L h b).1 = v.toNat) (hb2 : b < 17 ∨ v.toNat < 20) (q : pr_G L d G (nx, lv, st, h1) r h') : pr_G L d G (pc, lv, st1, h) r h' := gs_callv hf hc hs hn (Nat.le_of_ble_eq_true hw) hk hb hb2 q
end CS
end PG2
end
