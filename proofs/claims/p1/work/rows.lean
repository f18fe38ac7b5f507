section
-- ===== PART A: goes FIRST, ahead of the names: the tables' words, and 'selects' of the private methods out of them =====
/-- a private method of a class that the tables say can be made, by its rows of tables_1 -/
def lw_okq (q : MethodName × Nat) : Prop := (q.1.cls ≠ "java/lang/invoke/MethodHandle" ∧ q.1.cls ≠ "java/lang/invoke/VarHandle") ∧ Cond.instantiable q.1.cls q.2 ∈ tables_1 ∧ Cond.privateMethod q.1 ∈ tables_1 ∧ Cond.instanceMethod q.1 ∈ tables_1
theorem lw_p0 : lw_okq (⟨"java/lang/Throwable", "fillInStackTrace", "(I)Ljava/lang/Throwable;"⟩, 6) := ⟨⟨by decide +kernel, by decide +kernel⟩, List.mem_of_getElem? (i := 395) (by decide +kernel), List.mem_of_getElem? (i := 393) (by decide +kernel), List.mem_of_getElem? (i := 394) (by decide +kernel)⟩
theorem lw_p1 : lw_okq (⟨"StoryMachine$Instruction", "decodeHead", "()I"⟩, 11) := ⟨⟨by decide +kernel, by decide +kernel⟩, List.mem_of_getElem? (i := 214) (by decide +kernel), List.mem_of_getElem? (i := 501) (by decide +kernel), List.mem_of_getElem? (i := 502) (by decide +kernel)⟩
theorem lw_p2 : lw_okq (⟨"StoryMachine$Instruction", "nextByte", "()I"⟩, 11) := ⟨⟨by decide +kernel, by decide +kernel⟩, List.mem_of_getElem? (i := 214) (by decide +kernel), List.mem_of_getElem? (i := 505) (by decide +kernel), List.mem_of_getElem? (i := 506) (by decide +kernel)⟩
theorem lw_p3 : lw_okq (⟨"StoryMachine$Instruction", "readNumbers", "(I)V"⟩, 11) := ⟨⟨by decide +kernel, by decide +kernel⟩, List.mem_of_getElem? (i := 214) (by decide +kernel), List.mem_of_getElem? (i := 528) (by decide +kernel), List.mem_of_getElem? (i := 529) (by decide +kernel)⟩
theorem lw_p4 : lw_okq (⟨"StoryMachine$Instruction", "readNumber", "(I)I"⟩, 11) := ⟨⟨by decide +kernel, by decide +kernel⟩, List.mem_of_getElem? (i := 214) (by decide +kernel), List.mem_of_getElem? (i := 532) (by decide +kernel), List.mem_of_getElem? (i := 533) (by decide +kernel)⟩
theorem lw_p5 : lw_okq (⟨"StoryMachine$Variables", "globalPlace", "(I)I"⟩, 2) := ⟨⟨by decide +kernel, by decide +kernel⟩, List.mem_of_getElem? (i := 163) (by decide +kernel), List.mem_of_getElem? (i := 557) (by decide +kernel), List.mem_of_getElem? (i := 558) (by decide +kernel)⟩
theorem lw_p6 : lw_okq (⟨"StoryMachine$Instruction", "formOf", "()I"⟩, 11) := ⟨⟨by decide +kernel, by decide +kernel⟩, List.mem_of_getElem? (i := 214) (by decide +kernel), List.mem_of_getElem? (i := 565) (by decide +kernel), List.mem_of_getElem? (i := 566) (by decide +kernel)⟩
theorem lw_p7 : lw_okq (⟨"StoryMachine$Instruction", "needed", "()I"⟩, 11) := ⟨⟨by decide +kernel, by decide +kernel⟩, List.mem_of_getElem? (i := 214) (by decide +kernel), List.mem_of_getElem? (i := 577) (by decide +kernel), List.mem_of_getElem? (i := 578) (by decide +kernel)⟩
theorem lw_p8 : lw_okq (⟨"StoryMachine$Instruction", "readBranch", "()V"⟩, 11) := ⟨⟨by decide +kernel, by decide +kernel⟩, List.mem_of_getElem? (i := 214) (by decide +kernel), List.mem_of_getElem? (i := 593) (by decide +kernel), List.mem_of_getElem? (i := 594) (by decide +kernel)⟩
theorem lw_p9 : lw_okq (⟨"StoryMachine$Engine", "doNone", "()V"⟩, 15) := ⟨⟨by decide +kernel, by decide +kernel⟩, List.mem_of_getElem? (i := 133) (by decide +kernel), List.mem_of_getElem? (i := 597) (by decide +kernel), List.mem_of_getElem? (i := 598) (by decide +kernel)⟩
theorem lw_p10 : lw_okq (⟨"StoryMachine$Engine", "returnWith", "(I)V"⟩, 15) := ⟨⟨by decide +kernel, by decide +kernel⟩, List.mem_of_getElem? (i := 133) (by decide +kernel), List.mem_of_getElem? (i := 601) (by decide +kernel), List.mem_of_getElem? (i := 602) (by decide +kernel)⟩
theorem lw_p11 : lw_okq (⟨"StoryMachine$Memory", "mayWrite", "(II)Z"⟩, 1) := ⟨⟨by decide +kernel, by decide +kernel⟩, List.mem_of_getElem? (i := 37) (by decide +kernel), List.mem_of_getElem? (i := 638) (by decide +kernel), List.mem_of_getElem? (i := 639) (by decide +kernel)⟩
theorem lw_p12 : lw_okq (⟨"StoryMachine$Printer", "putLetter", "(I)V"⟩, 5) := ⟨⟨by decide +kernel, by decide +kernel⟩, List.mem_of_getElem? (i := 109) (by decide +kernel), List.mem_of_getElem? (i := 647) (by decide +kernel), List.mem_of_getElem? (i := 648) (by decide +kernel)⟩
theorem lw_p13 : lw_okq (⟨"StoryMachine$Printer", "putOf", "(II)V"⟩, 5) := ⟨⟨by decide +kernel, by decide +kernel⟩, List.mem_of_getElem? (i := 109) (by decide +kernel), List.mem_of_getElem? (i := 655) (by decide +kernel), List.mem_of_getElem? (i := 656) (by decide +kernel)⟩
theorem lw_p14 : lw_okq (⟨"StoryMachine$Engine", "branch", "(Z)V"⟩, 15) := ⟨⟨by decide +kernel, by decide +kernel⟩, List.mem_of_getElem? (i := 133) (by decide +kernel), List.mem_of_getElem? (i := 704) (by decide +kernel), List.mem_of_getElem? (i := 705) (by decide +kernel)⟩
theorem lw_p15 : lw_okq (⟨"StoryMachine$Engine", "doFirst", "(I)V"⟩, 15) := ⟨⟨by decide +kernel, by decide +kernel⟩, List.mem_of_getElem? (i := 133) (by decide +kernel), List.mem_of_getElem? (i := 729) (by decide +kernel), List.mem_of_getElem? (i := 730) (by decide +kernel)⟩
def lw_privs_1 : List (MethodName × Nat) := [(⟨"java/lang/Throwable", "fillInStackTrace", "(I)Ljava/lang/Throwable;"⟩, 6), (⟨"StoryMachine$Instruction", "decodeHead", "()I"⟩, 11), (⟨"StoryMachine$Instruction", "nextByte", "()I"⟩, 11), (⟨"StoryMachine$Instruction", "readNumbers", "(I)V"⟩, 11), (⟨"StoryMachine$Instruction", "readNumber", "(I)I"⟩, 11), (⟨"StoryMachine$Variables", "globalPlace", "(I)I"⟩, 2), (⟨"StoryMachine$Instruction", "formOf", "()I"⟩, 11), (⟨"StoryMachine$Instruction", "needed", "()I"⟩, 11), (⟨"StoryMachine$Instruction", "readBranch", "()V"⟩, 11), (⟨"StoryMachine$Engine", "doNone", "()V"⟩, 15), (⟨"StoryMachine$Engine", "returnWith", "(I)V"⟩, 15), (⟨"StoryMachine$Memory", "mayWrite", "(II)Z"⟩, 1), (⟨"StoryMachine$Printer", "putLetter", "(I)V"⟩, 5), (⟨"StoryMachine$Printer", "putOf", "(II)V"⟩, 5), (⟨"StoryMachine$Engine", "branch", "(Z)V"⟩, 15), (⟨"StoryMachine$Engine", "doFirst", "(I)V"⟩, 15)]
theorem lw_r1 : ∀ q ∈ lw_privs_1, lw_okq q := List.forall_mem_cons.mpr ⟨lw_p0, List.forall_mem_cons.mpr ⟨lw_p1, List.forall_mem_cons.mpr ⟨lw_p2, List.forall_mem_cons.mpr ⟨lw_p3, List.forall_mem_cons.mpr ⟨lw_p4, List.forall_mem_cons.mpr ⟨lw_p5, List.forall_mem_cons.mpr ⟨lw_p6, List.forall_mem_cons.mpr ⟨lw_p7, List.forall_mem_cons.mpr ⟨lw_p8, List.forall_mem_cons.mpr ⟨lw_p9, List.forall_mem_cons.mpr ⟨lw_p10, List.forall_mem_cons.mpr ⟨lw_p11, List.forall_mem_cons.mpr ⟨lw_p12, List.forall_mem_cons.mpr ⟨lw_p13, List.forall_mem_cons.mpr ⟨lw_p14, List.forall_mem_cons.mpr ⟨lw_p15, fun _ h => absurd h List.not_mem_nil⟩⟩⟩⟩⟩⟩⟩⟩⟩⟩⟩⟩⟩⟩⟩⟩
theorem lw_p16 : lw_okq (⟨"StoryMachine$Engine", "firstValue", "(I)I"⟩, 15) := ⟨⟨by decide +kernel, by decide +kernel⟩, List.mem_of_getElem? (i := 133) (by decide +kernel), List.mem_of_getElem? (i := 734) (by decide +kernel), List.mem_of_getElem? (i := 735) (by decide +kernel)⟩
theorem lw_p17 : lw_okq (⟨"StoryMachine$Tree", "placeOf", "(I)I"⟩, 1) := ⟨⟨by decide +kernel, by decide +kernel⟩, List.mem_of_getElem? (i := 176) (by decide +kernel), List.mem_of_getElem? (i := 742) (by decide +kernel), List.mem_of_getElem? (i := 743) (by decide +kernel)⟩
theorem lw_p18 : lw_okq (⟨"StoryMachine$Engine", "changedBy", "(II)I"⟩, 15) := ⟨⟨by decide +kernel, by decide +kernel⟩, List.mem_of_getElem? (i := 133) (by decide +kernel), List.mem_of_getElem? (i := 767) (by decide +kernel), List.mem_of_getElem? (i := 768) (by decide +kernel)⟩
theorem lw_p19 : lw_okq (⟨"StoryMachine$Tree", "linkTo", "(II)I"⟩, 1) := ⟨⟨by decide +kernel, by decide +kernel⟩, List.mem_of_getElem? (i := 176) (by decide +kernel), List.mem_of_getElem? (i := 775) (by decide +kernel), List.mem_of_getElem? (i := 776) (by decide +kernel)⟩
theorem lw_p20 : lw_okq (⟨"StoryMachine$Engine", "putName", "(I)V"⟩, 15) := ⟨⟨by decide +kernel, by decide +kernel⟩, List.mem_of_getElem? (i := 133) (by decide +kernel), List.mem_of_getElem? (i := 783) (by decide +kernel), List.mem_of_getElem? (i := 784) (by decide +kernel)⟩
theorem lw_p21 : lw_okq (⟨"StoryMachine$Engine", "doSecond", "(II)V"⟩, 15) := ⟨⟨by decide +kernel, by decide +kernel⟩, List.mem_of_getElem? (i := 133) (by decide +kernel), List.mem_of_getElem? (i := 792) (by decide +kernel), List.mem_of_getElem? (i := 793) (by decide +kernel)⟩
theorem lw_p22 : lw_okq (⟨"StoryMachine$Engine", "secondAsks", "(II)Z"⟩, 15) := ⟨⟨by decide +kernel, by decide +kernel⟩, List.mem_of_getElem? (i := 133) (by decide +kernel), List.mem_of_getElem? (i := 796) (by decide +kernel), List.mem_of_getElem? (i := 797) (by decide +kernel)⟩
theorem lw_p23 : lw_okq (⟨"StoryMachine$Engine", "isAmongOthers", "(I)Z"⟩, 15) := ⟨⟨by decide +kernel, by decide +kernel⟩, List.mem_of_getElem? (i := 133) (by decide +kernel), List.mem_of_getElem? (i := 800) (by decide +kernel), List.mem_of_getElem? (i := 801) (by decide +kernel)⟩
theorem lw_p24 : lw_okq (⟨"StoryMachine$Tree", "attributePlace", "(II)I"⟩, 1) := ⟨⟨by decide +kernel, by decide +kernel⟩, List.mem_of_getElem? (i := 176) (by decide +kernel), List.mem_of_getElem? (i := 808) (by decide +kernel), List.mem_of_getElem? (i := 809) (by decide +kernel)⟩
theorem lw_p25 : lw_okq (⟨"StoryMachine$Engine", "secondValue", "(II)I"⟩, 15) := ⟨⟨by decide +kernel, by decide +kernel⟩, List.mem_of_getElem? (i := 133) (by decide +kernel), List.mem_of_getElem? (i := 812) (by decide +kernel), List.mem_of_getElem? (i := 813) (by decide +kernel)⟩
theorem lw_p26 : lw_okq (⟨"StoryMachine$Tree", "defaultOf", "(I)I"⟩, 1) := ⟨⟨by decide +kernel, by decide +kernel⟩, List.mem_of_getElem? (i := 176) (by decide +kernel), List.mem_of_getElem? (i := 829) (by decide +kernel), List.mem_of_getElem? (i := 830) (by decide +kernel)⟩
theorem lw_p27 : lw_okq (⟨"StoryMachine$Engine", "doMany", "(III)V"⟩, 15) := ⟨⟨by decide +kernel, by decide +kernel⟩, List.mem_of_getElem? (i := 133) (by decide +kernel), List.mem_of_getElem? (i := 866) (by decide +kernel), List.mem_of_getElem? (i := 867) (by decide +kernel)⟩
theorem lw_p28 : lw_okq (⟨"StoryMachine$Engine", "call", "(I)V"⟩, 15) := ⟨⟨by decide +kernel, by decide +kernel⟩, List.mem_of_getElem? (i := 133) (by decide +kernel), List.mem_of_getElem? (i := 870) (by decide +kernel), List.mem_of_getElem? (i := 871) (by decide +kernel)⟩
theorem lw_p29 : lw_okq (⟨"StoryMachine$Engine", "readLine", "(II)V"⟩, 15) := ⟨⟨by decide +kernel, by decide +kernel⟩, List.mem_of_getElem? (i := 133) (by decide +kernel), List.mem_of_getElem? (i := 891) (by decide +kernel), List.mem_of_getElem? (i := 892) (by decide +kernel)⟩
theorem lw_p30 : lw_okq (⟨"StoryMachine$Dictionary", "isSeparator", "(I)Z"⟩, 6) := ⟨⟨by decide +kernel, by decide +kernel⟩, List.mem_of_getElem? (i := 186) (by decide +kernel), List.mem_of_getElem? (i := 902) (by decide +kernel), List.mem_of_getElem? (i := 903) (by decide +kernel)⟩
theorem lw_p31 : lw_okq (⟨"StoryMachine$Dictionary", "addWord", "(II)V"⟩, 6) := ⟨⟨by decide +kernel, by decide +kernel⟩, List.mem_of_getElem? (i := 186) (by decide +kernel), List.mem_of_getElem? (i := 908) (by decide +kernel), List.mem_of_getElem? (i := 909) (by decide +kernel)⟩
def lw_privs_2 : List (MethodName × Nat) := [(⟨"StoryMachine$Engine", "firstValue", "(I)I"⟩, 15), (⟨"StoryMachine$Tree", "placeOf", "(I)I"⟩, 1), (⟨"StoryMachine$Engine", "changedBy", "(II)I"⟩, 15), (⟨"StoryMachine$Tree", "linkTo", "(II)I"⟩, 1), (⟨"StoryMachine$Engine", "putName", "(I)V"⟩, 15), (⟨"StoryMachine$Engine", "doSecond", "(II)V"⟩, 15), (⟨"StoryMachine$Engine", "secondAsks", "(II)Z"⟩, 15), (⟨"StoryMachine$Engine", "isAmongOthers", "(I)Z"⟩, 15), (⟨"StoryMachine$Tree", "attributePlace", "(II)I"⟩, 1), (⟨"StoryMachine$Engine", "secondValue", "(II)I"⟩, 15), (⟨"StoryMachine$Tree", "defaultOf", "(I)I"⟩, 1), (⟨"StoryMachine$Engine", "doMany", "(III)V"⟩, 15), (⟨"StoryMachine$Engine", "call", "(I)V"⟩, 15), (⟨"StoryMachine$Engine", "readLine", "(II)V"⟩, 15), (⟨"StoryMachine$Dictionary", "isSeparator", "(I)Z"⟩, 6), (⟨"StoryMachine$Dictionary", "addWord", "(II)V"⟩, 6)]
theorem lw_r2 : ∀ q ∈ lw_privs_2, lw_okq q := List.forall_mem_cons.mpr ⟨lw_p16, List.forall_mem_cons.mpr ⟨lw_p17, List.forall_mem_cons.mpr ⟨lw_p18, List.forall_mem_cons.mpr ⟨lw_p19, List.forall_mem_cons.mpr ⟨lw_p20, List.forall_mem_cons.mpr ⟨lw_p21, List.forall_mem_cons.mpr ⟨lw_p22, List.forall_mem_cons.mpr ⟨lw_p23, List.forall_mem_cons.mpr ⟨lw_p24, List.forall_mem_cons.mpr ⟨lw_p25, List.forall_mem_cons.mpr ⟨lw_p26, List.forall_mem_cons.mpr ⟨lw_p27, List.forall_mem_cons.mpr ⟨lw_p28, List.forall_mem_cons.mpr ⟨lw_p29, List.forall_mem_cons.mpr ⟨lw_p30, List.forall_mem_cons.mpr ⟨lw_p31, fun _ h => absurd h List.not_mem_nil⟩⟩⟩⟩⟩⟩⟩⟩⟩⟩⟩⟩⟩⟩⟩⟩
theorem lw_p32 : lw_okq (⟨"StoryMachine$Dictionary", "pack", "([III)V"⟩, 6) := ⟨⟨by decide +kernel, by decide +kernel⟩, List.mem_of_getElem? (i := 186) (by decide +kernel), List.mem_of_getElem? (i := 916) (by decide +kernel), List.mem_of_getElem? (i := 917) (by decide +kernel)⟩
theorem lw_p33 : lw_okq (⟨"StoryMachine$Dictionary", "addCharacter", "(I)V"⟩, 6) := ⟨⟨by decide +kernel, by decide +kernel⟩, List.mem_of_getElem? (i := 186) (by decide +kernel), List.mem_of_getElem? (i := 920) (by decide +kernel), List.mem_of_getElem? (i := 921) (by decide +kernel)⟩
theorem lw_p34 : lw_okq (⟨"StoryMachine$Dictionary", "addLetter", "(I)V"⟩, 6) := ⟨⟨by decide +kernel, by decide +kernel⟩, List.mem_of_getElem? (i := 186) (by decide +kernel), List.mem_of_getElem? (i := 989) (by decide +kernel), List.mem_of_getElem? (i := 990) (by decide +kernel)⟩
theorem lw_p35 : lw_okq (⟨"StoryMachine$Dictionary", "packedWord", "(I)I"⟩, 6) := ⟨⟨by decide +kernel, by decide +kernel⟩, List.mem_of_getElem? (i := 186) (by decide +kernel), List.mem_of_getElem? (i := 993) (by decide +kernel), List.mem_of_getElem? (i := 994) (by decide +kernel)⟩
theorem lw_p36 : lw_okq (⟨"StoryMachine$Engine", "randomNumber", "(I)I"⟩, 15) := ⟨⟨by decide +kernel, by decide +kernel⟩, List.mem_of_getElem? (i := 133) (by decide +kernel), List.mem_of_getElem? (i := 1007) (by decide +kernel), List.mem_of_getElem? (i := 1008) (by decide +kernel)⟩
theorem lw_p37 : lw_okq (⟨"StoryMachineModel", "step", "()V"⟩, 51) := ⟨⟨by decide +kernel, by decide +kernel⟩, List.mem_of_getElem? (i := 1058) (by decide +kernel), List.mem_of_getElem? (i := 1226) (by decide +kernel), List.mem_of_getElem? (i := 1227) (by decide +kernel)⟩
theorem lw_p38 : lw_okq (⟨"StoryMachineModel", "code", "()I"⟩, 51) := ⟨⟨by decide +kernel, by decide +kernel⟩, List.mem_of_getElem? (i := 1058) (by decide +kernel), List.mem_of_getElem? (i := 1230) (by decide +kernel), List.mem_of_getElem? (i := 1231) (by decide +kernel)⟩
theorem lw_p39 : lw_okq (⟨"StoryMachineModel", "byteAt", "(I)I"⟩, 51) := ⟨⟨by decide +kernel, by decide +kernel⟩, List.mem_of_getElem? (i := 1058) (by decide +kernel), List.mem_of_getElem? (i := 1234) (by decide +kernel), List.mem_of_getElem? (i := 1235) (by decide +kernel)⟩
theorem lw_p40 : lw_okq (⟨"StoryMachineModel", "good", "(ZI)Z"⟩, 51) := ⟨⟨by decide +kernel, by decide +kernel⟩, List.mem_of_getElem? (i := 1058) (by decide +kernel), List.mem_of_getElem? (i := 1238) (by decide +kernel), List.mem_of_getElem? (i := 1239) (by decide +kernel)⟩
theorem lw_p41 : lw_okq (⟨"StoryMachineModel", "readNumbers", "(I)V"⟩, 51) := ⟨⟨by decide +kernel, by decide +kernel⟩, List.mem_of_getElem? (i := 1058) (by decide +kernel), List.mem_of_getElem? (i := 1242) (by decide +kernel), List.mem_of_getElem? (i := 1243) (by decide +kernel)⟩
theorem lw_p42 : lw_okq (⟨"StoryMachineModel", "number", "(I)V"⟩, 51) := ⟨⟨by decide +kernel, by decide +kernel⟩, List.mem_of_getElem? (i := 1058) (by decide +kernel), List.mem_of_getElem? (i := 1246) (by decide +kernel), List.mem_of_getElem? (i := 1247) (by decide +kernel)⟩
theorem lw_p43 : lw_okq (⟨"StoryMachineModel", "wordAt", "(I)I"⟩, 51) := ⟨⟨by decide +kernel, by decide +kernel⟩, List.mem_of_getElem? (i := 1058) (by decide +kernel), List.mem_of_getElem? (i := 1250) (by decide +kernel), List.mem_of_getElem? (i := 1251) (by decide +kernel)⟩
theorem lw_p44 : lw_okq (⟨"StoryMachineModel", "readVariable", "(I)I"⟩, 51) := ⟨⟨by decide +kernel, by decide +kernel⟩, List.mem_of_getElem? (i := 1058) (by decide +kernel), List.mem_of_getElem? (i := 1254) (by decide +kernel), List.mem_of_getElem? (i := 1255) (by decide +kernel)⟩
theorem lw_p45 : lw_okq (⟨"StoryMachineModel", "pop", "()I"⟩, 51) := ⟨⟨by decide +kernel, by decide +kernel⟩, List.mem_of_getElem? (i := 1058) (by decide +kernel), List.mem_of_getElem? (i := 1258) (by decide +kernel), List.mem_of_getElem? (i := 1259) (by decide +kernel)⟩
theorem lw_p46 : lw_okq (⟨"StoryMachineModel", "peekVariable", "(I)I"⟩, 51) := ⟨⟨by decide +kernel, by decide +kernel⟩, List.mem_of_getElem? (i := 1058) (by decide +kernel), List.mem_of_getElem? (i := 1262) (by decide +kernel), List.mem_of_getElem? (i := 1263) (by decide +kernel)⟩
theorem lw_p47 : lw_okq (⟨"StoryMachineModel", "readRest", "(II)V"⟩, 51) := ⟨⟨by decide +kernel, by decide +kernel⟩, List.mem_of_getElem? (i := 1058) (by decide +kernel), List.mem_of_getElem? (i := 1272) (by decide +kernel), List.mem_of_getElem? (i := 1273) (by decide +kernel)⟩
def lw_privs_3 : List (MethodName × Nat) := [(⟨"StoryMachine$Dictionary", "pack", "([III)V"⟩, 6), (⟨"StoryMachine$Dictionary", "addCharacter", "(I)V"⟩, 6), (⟨"StoryMachine$Dictionary", "addLetter", "(I)V"⟩, 6), (⟨"StoryMachine$Dictionary", "packedWord", "(I)I"⟩, 6), (⟨"StoryMachine$Engine", "randomNumber", "(I)I"⟩, 15), (⟨"StoryMachineModel", "step", "()V"⟩, 51), (⟨"StoryMachineModel", "code", "()I"⟩, 51), (⟨"StoryMachineModel", "byteAt", "(I)I"⟩, 51), (⟨"StoryMachineModel", "good", "(ZI)Z"⟩, 51), (⟨"StoryMachineModel", "readNumbers", "(I)V"⟩, 51), (⟨"StoryMachineModel", "number", "(I)V"⟩, 51), (⟨"StoryMachineModel", "wordAt", "(I)I"⟩, 51), (⟨"StoryMachineModel", "readVariable", "(I)I"⟩, 51), (⟨"StoryMachineModel", "pop", "()I"⟩, 51), (⟨"StoryMachineModel", "peekVariable", "(I)I"⟩, 51), (⟨"StoryMachineModel", "readRest", "(II)V"⟩, 51)]
theorem lw_r3 : ∀ q ∈ lw_privs_3, lw_okq q := List.forall_mem_cons.mpr ⟨lw_p32, List.forall_mem_cons.mpr ⟨lw_p33, List.forall_mem_cons.mpr ⟨lw_p34, List.forall_mem_cons.mpr ⟨lw_p35, List.forall_mem_cons.mpr ⟨lw_p36, List.forall_mem_cons.mpr ⟨lw_p37, List.forall_mem_cons.mpr ⟨lw_p38, List.forall_mem_cons.mpr ⟨lw_p39, List.forall_mem_cons.mpr ⟨lw_p40, List.forall_mem_cons.mpr ⟨lw_p41, List.forall_mem_cons.mpr ⟨lw_p42, List.forall_mem_cons.mpr ⟨lw_p43, List.forall_mem_cons.mpr ⟨lw_p44, List.forall_mem_cons.mpr ⟨lw_p45, List.forall_mem_cons.mpr ⟨lw_p46, List.forall_mem_cons.mpr ⟨lw_p47, fun _ h => absurd h List.not_mem_nil⟩⟩⟩⟩⟩⟩⟩⟩⟩⟩⟩⟩⟩⟩⟩⟩
theorem lw_p48 : lw_okq (⟨"StoryMachineModel", "second", "(III)V"⟩, 51) := ⟨⟨by decide +kernel, by decide +kernel⟩, List.mem_of_getElem? (i := 1058) (by decide +kernel), List.mem_of_getElem? (i := 1282) (by decide +kernel), List.mem_of_getElem? (i := 1283) (by decide +kernel)⟩
theorem lw_p49 : lw_okq (⟨"StoryMachineModel", "branch", "(Z)V"⟩, 51) := ⟨⟨by decide +kernel, by decide +kernel⟩, List.mem_of_getElem? (i := 1058) (by decide +kernel), List.mem_of_getElem? (i := 1286) (by decide +kernel), List.mem_of_getElem? (i := 1287) (by decide +kernel)⟩
theorem lw_p50 : lw_okq (⟨"StoryMachineModel", "leave", "(I)V"⟩, 51) := ⟨⟨by decide +kernel, by decide +kernel⟩, List.mem_of_getElem? (i := 1058) (by decide +kernel), List.mem_of_getElem? (i := 1290) (by decide +kernel), List.mem_of_getElem? (i := 1291) (by decide +kernel)⟩
theorem lw_p51 : lw_okq (⟨"StoryMachineModel", "write", "(II)V"⟩, 51) := ⟨⟨by decide +kernel, by decide +kernel⟩, List.mem_of_getElem? (i := 1058) (by decide +kernel), List.mem_of_getElem? (i := 1294) (by decide +kernel), List.mem_of_getElem? (i := 1295) (by decide +kernel)⟩
theorem lw_p52 : lw_okq (⟨"StoryMachineModel", "push", "(I)V"⟩, 51) := ⟨⟨by decide +kernel, by decide +kernel⟩, List.mem_of_getElem? (i := 1058) (by decide +kernel), List.mem_of_getElem? (i := 1298) (by decide +kernel), List.mem_of_getElem? (i := 1299) (by decide +kernel)⟩
theorem lw_p53 : lw_okq (⟨"StoryMachineModel", "replace", "(II)V"⟩, 51) := ⟨⟨by decide +kernel, by decide +kernel⟩, List.mem_of_getElem? (i := 1058) (by decide +kernel), List.mem_of_getElem? (i := 1303) (by decide +kernel), List.mem_of_getElem? (i := 1304) (by decide +kernel)⟩
theorem lw_p54 : lw_okq (⟨"StoryMachineModel", "setWord", "(II)V"⟩, 51) := ⟨⟨by decide +kernel, by decide +kernel⟩, List.mem_of_getElem? (i := 1058) (by decide +kernel), List.mem_of_getElem? (i := 1307) (by decide +kernel), List.mem_of_getElem? (i := 1308) (by decide +kernel)⟩
theorem lw_p55 : lw_okq (⟨"StoryMachineModel", "own", "(I)Z"⟩, 51) := ⟨⟨by decide +kernel, by decide +kernel⟩, List.mem_of_getElem? (i := 1058) (by decide +kernel), List.mem_of_getElem? (i := 1311) (by decide +kernel), List.mem_of_getElem? (i := 1312) (by decide +kernel)⟩
theorem lw_p56 : lw_okq (⟨"StoryMachineModel", "change", "(II)I"⟩, 51) := ⟨⟨by decide +kernel, by decide +kernel⟩, List.mem_of_getElem? (i := 1058) (by decide +kernel), List.mem_of_getElem? (i := 1319) (by decide +kernel), List.mem_of_getElem? (i := 1320) (by decide +kernel)⟩
theorem lw_p57 : lw_okq (⟨"StoryMachineModel", "of", "(II)I"⟩, 51) := ⟨⟨by decide +kernel, by decide +kernel⟩, List.mem_of_getElem? (i := 1058) (by decide +kernel), List.mem_of_getElem? (i := 1323) (by decide +kernel), List.mem_of_getElem? (i := 1324) (by decide +kernel)⟩
theorem lw_p58 : lw_okq (⟨"StoryMachineModel", "objectAt", "(I)I"⟩, 51) := ⟨⟨by decide +kernel, by decide +kernel⟩, List.mem_of_getElem? (i := 1058) (by decide +kernel), List.mem_of_getElem? (i := 1327) (by decide +kernel), List.mem_of_getElem? (i := 1328) (by decide +kernel)⟩
theorem lw_p59 : lw_okq (⟨"StoryMachineModel", "give", "(I)V"⟩, 51) := ⟨⟨by decide +kernel, by decide +kernel⟩, List.mem_of_getElem? (i := 1058) (by decide +kernel), List.mem_of_getElem? (i := 1331) (by decide +kernel), List.mem_of_getElem? (i := 1332) (by decide +kernel)⟩
theorem lw_p60 : lw_okq (⟨"StoryMachineModel", "has", "(II)Z"⟩, 51) := ⟨⟨by decide +kernel, by decide +kernel⟩, List.mem_of_getElem? (i := 1058) (by decide +kernel), List.mem_of_getElem? (i := 1335) (by decide +kernel), List.mem_of_getElem? (i := 1336) (by decide +kernel)⟩
theorem lw_p61 : lw_okq (⟨"StoryMachineModel", "insert", "(II)V"⟩, 51) := ⟨⟨by decide +kernel, by decide +kernel⟩, List.mem_of_getElem? (i := 1058) (by decide +kernel), List.mem_of_getElem? (i := 1339) (by decide +kernel), List.mem_of_getElem? (i := 1340) (by decide +kernel)⟩
theorem lw_p62 : lw_okq (⟨"StoryMachineModel", "take", "(I)V"⟩, 51) := ⟨⟨by decide +kernel, by decide +kernel⟩, List.mem_of_getElem? (i := 1058) (by decide +kernel), List.mem_of_getElem? (i := 1343) (by decide +kernel), List.mem_of_getElem? (i := 1344) (by decide +kernel)⟩
theorem lw_p63 : lw_okq (⟨"StoryMachineModel", "setOf", "(III)V"⟩, 51) := ⟨⟨by decide +kernel, by decide +kernel⟩, List.mem_of_getElem? (i := 1058) (by decide +kernel), List.mem_of_getElem? (i := 1347) (by decide +kernel), List.mem_of_getElem? (i := 1348) (by decide +kernel)⟩
def lw_privs_4 : List (MethodName × Nat) := [(⟨"StoryMachineModel", "second", "(III)V"⟩, 51), (⟨"StoryMachineModel", "branch", "(Z)V"⟩, 51), (⟨"StoryMachineModel", "leave", "(I)V"⟩, 51), (⟨"StoryMachineModel", "write", "(II)V"⟩, 51), (⟨"StoryMachineModel", "push", "(I)V"⟩, 51), (⟨"StoryMachineModel", "replace", "(II)V"⟩, 51), (⟨"StoryMachineModel", "setWord", "(II)V"⟩, 51), (⟨"StoryMachineModel", "own", "(I)Z"⟩, 51), (⟨"StoryMachineModel", "change", "(II)I"⟩, 51), (⟨"StoryMachineModel", "of", "(II)I"⟩, 51), (⟨"StoryMachineModel", "objectAt", "(I)I"⟩, 51), (⟨"StoryMachineModel", "give", "(I)V"⟩, 51), (⟨"StoryMachineModel", "has", "(II)Z"⟩, 51), (⟨"StoryMachineModel", "insert", "(II)V"⟩, 51), (⟨"StoryMachineModel", "take", "(I)V"⟩, 51), (⟨"StoryMachineModel", "setOf", "(III)V"⟩, 51)]
theorem lw_r4 : ∀ q ∈ lw_privs_4, lw_okq q := List.forall_mem_cons.mpr ⟨lw_p48, List.forall_mem_cons.mpr ⟨lw_p49, List.forall_mem_cons.mpr ⟨lw_p50, List.forall_mem_cons.mpr ⟨lw_p51, List.forall_mem_cons.mpr ⟨lw_p52, List.forall_mem_cons.mpr ⟨lw_p53, List.forall_mem_cons.mpr ⟨lw_p54, List.forall_mem_cons.mpr ⟨lw_p55, List.forall_mem_cons.mpr ⟨lw_p56, List.forall_mem_cons.mpr ⟨lw_p57, List.forall_mem_cons.mpr ⟨lw_p58, List.forall_mem_cons.mpr ⟨lw_p59, List.forall_mem_cons.mpr ⟨lw_p60, List.forall_mem_cons.mpr ⟨lw_p61, List.forall_mem_cons.mpr ⟨lw_p62, List.forall_mem_cons.mpr ⟨lw_p63, fun _ h => absurd h List.not_mem_nil⟩⟩⟩⟩⟩⟩⟩⟩⟩⟩⟩⟩⟩⟩⟩⟩
theorem lw_p64 : lw_okq (⟨"StoryMachineModel", "setByte", "(II)V"⟩, 51) := ⟨⟨by decide +kernel, by decide +kernel⟩, List.mem_of_getElem? (i := 1058) (by decide +kernel), List.mem_of_getElem? (i := 1351) (by decide +kernel), List.mem_of_getElem? (i := 1352) (by decide +kernel)⟩
theorem lw_p65 : lw_okq (⟨"StoryMachineModel", "mark", "(IIZ)V"⟩, 51) := ⟨⟨by decide +kernel, by decide +kernel⟩, List.mem_of_getElem? (i := 1058) (by decide +kernel), List.mem_of_getElem? (i := 1355) (by decide +kernel), List.mem_of_getElem? (i := 1356) (by decide +kernel)⟩
theorem lw_p66 : lw_okq (⟨"StoryMachineModel", "reckon", "(III)V"⟩, 51) := ⟨⟨by decide +kernel, by decide +kernel⟩, List.mem_of_getElem? (i := 1058) (by decide +kernel), List.mem_of_getElem? (i := 1359) (by decide +kernel), List.mem_of_getElem? (i := 1360) (by decide +kernel)⟩
theorem lw_p67 : lw_okq (⟨"StoryMachineModel", "property", "(II)I"⟩, 51) := ⟨⟨by decide +kernel, by decide +kernel⟩, List.mem_of_getElem? (i := 1058) (by decide +kernel), List.mem_of_getElem? (i := 1363) (by decide +kernel), List.mem_of_getElem? (i := 1364) (by decide +kernel)⟩
theorem lw_p68 : lw_okq (⟨"StoryMachineModel", "bytesOf", "(II)I"⟩, 51) := ⟨⟨by decide +kernel, by decide +kernel⟩, List.mem_of_getElem? (i := 1058) (by decide +kernel), List.mem_of_getElem? (i := 1367) (by decide +kernel), List.mem_of_getElem? (i := 1368) (by decide +kernel)⟩
theorem lw_p69 : lw_okq (⟨"StoryMachineModel", "sizeAt", "(II)I"⟩, 51) := ⟨⟨by decide +kernel, by decide +kernel⟩, List.mem_of_getElem? (i := 1058) (by decide +kernel), List.mem_of_getElem? (i := 1371) (by decide +kernel), List.mem_of_getElem? (i := 1372) (by decide +kernel)⟩
theorem lw_p70 : lw_okq (⟨"StoryMachineModel", "firstProperty", "(I)I"⟩, 51) := ⟨⟨by decide +kernel, by decide +kernel⟩, List.mem_of_getElem? (i := 1058) (by decide +kernel), List.mem_of_getElem? (i := 1375) (by decide +kernel), List.mem_of_getElem? (i := 1376) (by decide +kernel)⟩
theorem lw_p71 : lw_okq (⟨"StoryMachineModel", "lengthAt", "(I)I"⟩, 51) := ⟨⟨by decide +kernel, by decide +kernel⟩, List.mem_of_getElem? (i := 1058) (by decide +kernel), List.mem_of_getElem? (i := 1379) (by decide +kernel), List.mem_of_getElem? (i := 1380) (by decide +kernel)⟩
theorem lw_p72 : lw_okq (⟨"StoryMachineModel", "propertyBehind", "(II)I"⟩, 51) := ⟨⟨by decide +kernel, by decide +kernel⟩, List.mem_of_getElem? (i := 1058) (by decide +kernel), List.mem_of_getElem? (i := 1383) (by decide +kernel), List.mem_of_getElem? (i := 1384) (by decide +kernel)⟩
theorem lw_p73 : lw_okq (⟨"StoryMachineModel", "first", "(II)V"⟩, 51) := ⟨⟨by decide +kernel, by decide +kernel⟩, List.mem_of_getElem? (i := 1058) (by decide +kernel), List.mem_of_getElem? (i := 1387) (by decide +kernel), List.mem_of_getElem? (i := 1388) (by decide +kernel)⟩
theorem lw_p74 : lw_okq (⟨"StoryMachineModel", "giveAndAsk", "(I)V"⟩, 51) := ⟨⟨by decide +kernel, by decide +kernel⟩, List.mem_of_getElem? (i := 1058) (by decide +kernel), List.mem_of_getElem? (i := 1391) (by decide +kernel), List.mem_of_getElem? (i := 1392) (by decide +kernel)⟩
theorem lw_p75 : lw_okq (⟨"StoryMachineModel", "giveIf", "(I)V"⟩, 51) := ⟨⟨by decide +kernel, by decide +kernel⟩, List.mem_of_getElem? (i := 1058) (by decide +kernel), List.mem_of_getElem? (i := 1395) (by decide +kernel), List.mem_of_getElem? (i := 1396) (by decide +kernel)⟩
theorem lw_p76 : lw_okq (⟨"StoryMachineModel", "showText", "(I)I"⟩, 51) := ⟨⟨by decide +kernel, by decide +kernel⟩, List.mem_of_getElem? (i := 1058) (by decide +kernel), List.mem_of_getElem? (i := 1399) (by decide +kernel), List.mem_of_getElem? (i := 1400) (by decide +kernel)⟩
theorem lw_p77 : lw_okq (⟨"StoryMachineModel", "letter", "(I)V"⟩, 51) := ⟨⟨by decide +kernel, by decide +kernel⟩, List.mem_of_getElem? (i := 1058) (by decide +kernel), List.mem_of_getElem? (i := 1404) (by decide +kernel), List.mem_of_getElem? (i := 1405) (by decide +kernel)⟩
theorem lw_p78 : lw_okq (⟨"StoryMachineModel", "show", "(I)V"⟩, 51) := ⟨⟨by decide +kernel, by decide +kernel⟩, List.mem_of_getElem? (i := 1058) (by decide +kernel), List.mem_of_getElem? (i := 1408) (by decide +kernel), List.mem_of_getElem? (i := 1409) (by decide +kernel)⟩
theorem lw_p79 : lw_okq (⟨"StoryMachineModel", "showName", "(I)V"⟩, 51) := ⟨⟨by decide +kernel, by decide +kernel⟩, List.mem_of_getElem? (i := 1058) (by decide +kernel), List.mem_of_getElem? (i := 1415) (by decide +kernel), List.mem_of_getElem? (i := 1416) (by decide +kernel)⟩
def lw_privs_5 : List (MethodName × Nat) := [(⟨"StoryMachineModel", "setByte", "(II)V"⟩, 51), (⟨"StoryMachineModel", "mark", "(IIZ)V"⟩, 51), (⟨"StoryMachineModel", "reckon", "(III)V"⟩, 51), (⟨"StoryMachineModel", "property", "(II)I"⟩, 51), (⟨"StoryMachineModel", "bytesOf", "(II)I"⟩, 51), (⟨"StoryMachineModel", "sizeAt", "(II)I"⟩, 51), (⟨"StoryMachineModel", "firstProperty", "(I)I"⟩, 51), (⟨"StoryMachineModel", "lengthAt", "(I)I"⟩, 51), (⟨"StoryMachineModel", "propertyBehind", "(II)I"⟩, 51), (⟨"StoryMachineModel", "first", "(II)V"⟩, 51), (⟨"StoryMachineModel", "giveAndAsk", "(I)V"⟩, 51), (⟨"StoryMachineModel", "giveIf", "(I)V"⟩, 51), (⟨"StoryMachineModel", "showText", "(I)I"⟩, 51), (⟨"StoryMachineModel", "letter", "(I)V"⟩, 51), (⟨"StoryMachineModel", "show", "(I)V"⟩, 51), (⟨"StoryMachineModel", "showName", "(I)V"⟩, 51)]
theorem lw_r5 : ∀ q ∈ lw_privs_5, lw_okq q := List.forall_mem_cons.mpr ⟨lw_p64, List.forall_mem_cons.mpr ⟨lw_p65, List.forall_mem_cons.mpr ⟨lw_p66, List.forall_mem_cons.mpr ⟨lw_p67, List.forall_mem_cons.mpr ⟨lw_p68, List.forall_mem_cons.mpr ⟨lw_p69, List.forall_mem_cons.mpr ⟨lw_p70, List.forall_mem_cons.mpr ⟨lw_p71, List.forall_mem_cons.mpr ⟨lw_p72, List.forall_mem_cons.mpr ⟨lw_p73, List.forall_mem_cons.mpr ⟨lw_p74, List.forall_mem_cons.mpr ⟨lw_p75, List.forall_mem_cons.mpr ⟨lw_p76, List.forall_mem_cons.mpr ⟨lw_p77, List.forall_mem_cons.mpr ⟨lw_p78, List.forall_mem_cons.mpr ⟨lw_p79, fun _ h => absurd h List.not_mem_nil⟩⟩⟩⟩⟩⟩⟩⟩⟩⟩⟩⟩⟩⟩⟩⟩
theorem lw_p80 : lw_okq (⟨"StoryMachineModel", "none", "(I)V"⟩, 51) := ⟨⟨by decide +kernel, by decide +kernel⟩, List.mem_of_getElem? (i := 1058) (by decide +kernel), List.mem_of_getElem? (i := 1419) (by decide +kernel), List.mem_of_getElem? (i := 1420) (by decide +kernel)⟩
theorem lw_p81 : lw_okq (⟨"StoryMachineModel", "save", "()V"⟩, 51) := ⟨⟨by decide +kernel, by decide +kernel⟩, List.mem_of_getElem? (i := 1058) (by decide +kernel), List.mem_of_getElem? (i := 1423) (by decide +kernel), List.mem_of_getElem? (i := 1424) (by decide +kernel)⟩
theorem lw_p82 : lw_okq (⟨"StoryMachineModel", "restore", "()V"⟩, 51) := ⟨⟨by decide +kernel, by decide +kernel⟩, List.mem_of_getElem? (i := 1058) (by decide +kernel), List.mem_of_getElem? (i := 1430) (by decide +kernel), List.mem_of_getElem? (i := 1431) (by decide +kernel)⟩
theorem lw_p83 : lw_okq (⟨"StoryMachineModel", "leaveWith", "(I)V"⟩, 51) := ⟨⟨by decide +kernel, by decide +kernel⟩, List.mem_of_getElem? (i := 1058) (by decide +kernel), List.mem_of_getElem? (i := 1434) (by decide +kernel), List.mem_of_getElem? (i := 1435) (by decide +kernel)⟩
theorem lw_p84 : lw_okq (⟨"StoryMachineModel", "manyList", "(IIII)V"⟩, 51) := ⟨⟨by decide +kernel, by decide +kernel⟩, List.mem_of_getElem? (i := 1058) (by decide +kernel), List.mem_of_getElem? (i := 1438) (by decide +kernel), List.mem_of_getElem? (i := 1439) (by decide +kernel)⟩
theorem lw_p85 : lw_okq (⟨"StoryMachineModel", "call", "()V"⟩, 51) := ⟨⟨by decide +kernel, by decide +kernel⟩, List.mem_of_getElem? (i := 1058) (by decide +kernel), List.mem_of_getElem? (i := 1442) (by decide +kernel), List.mem_of_getElem? (i := 1443) (by decide +kernel)⟩
theorem lw_p86 : lw_okq (⟨"StoryMachineModel", "setProperty", "(III)V"⟩, 51) := ⟨⟨by decide +kernel, by decide +kernel⟩, List.mem_of_getElem? (i := 1058) (by decide +kernel), List.mem_of_getElem? (i := 1446) (by decide +kernel), List.mem_of_getElem? (i := 1447) (by decide +kernel)⟩
theorem lw_p87 : lw_okq (⟨"StoryMachineModel", "readLine", "(II)V"⟩, 51) := ⟨⟨by decide +kernel, by decide +kernel⟩, List.mem_of_getElem? (i := 1058) (by decide +kernel), List.mem_of_getElem? (i := 1450) (by decide +kernel), List.mem_of_getElem? (i := 1451) (by decide +kernel)⟩
theorem lw_p88 : lw_okq (⟨"StoryMachineModel", "findWords", "(II)I"⟩, 51) := ⟨⟨by decide +kernel, by decide +kernel⟩, List.mem_of_getElem? (i := 1058) (by decide +kernel), List.mem_of_getElem? (i := 1454) (by decide +kernel), List.mem_of_getElem? (i := 1455) (by decide +kernel)⟩
theorem lw_p89 : lw_okq (⟨"StoryMachineModel", "begins", "(II)Z"⟩, 51) := ⟨⟨by decide +kernel, by decide +kernel⟩, List.mem_of_getElem? (i := 1058) (by decide +kernel), List.mem_of_getElem? (i := 1458) (by decide +kernel), List.mem_of_getElem? (i := 1459) (by decide +kernel)⟩
theorem lw_p90 : lw_okq (⟨"StoryMachineModel", "separates", "(I)Z"⟩, 51) := ⟨⟨by decide +kernel, by decide +kernel⟩, List.mem_of_getElem? (i := 1058) (by decide +kernel), List.mem_of_getElem? (i := 1462) (by decide +kernel), List.mem_of_getElem? (i := 1463) (by decide +kernel)⟩
theorem lw_p91 : lw_okq (⟨"StoryMachineModel", "lengthFrom", "(III)I"⟩, 51) := ⟨⟨by decide +kernel, by decide +kernel⟩, List.mem_of_getElem? (i := 1058) (by decide +kernel), List.mem_of_getElem? (i := 1466) (by decide +kernel), List.mem_of_getElem? (i := 1467) (by decide +kernel)⟩
theorem lw_p92 : lw_okq (⟨"StoryMachineModel", "parse", "(III)V"⟩, 51) := ⟨⟨by decide +kernel, by decide +kernel⟩, List.mem_of_getElem? (i := 1058) (by decide +kernel), List.mem_of_getElem? (i := 1470) (by decide +kernel), List.mem_of_getElem? (i := 1471) (by decide +kernel)⟩
theorem lw_p93 : lw_okq (⟨"StoryMachineModel", "entry", "(II)I"⟩, 51) := ⟨⟨by decide +kernel, by decide +kernel⟩, List.mem_of_getElem? (i := 1058) (by decide +kernel), List.mem_of_getElem? (i := 1474) (by decide +kernel), List.mem_of_getElem? (i := 1475) (by decide +kernel)⟩
theorem lw_p94 : lw_okq (⟨"StoryMachineModel", "addCharacter", "(I)V"⟩, 51) := ⟨⟨by decide +kernel, by decide +kernel⟩, List.mem_of_getElem? (i := 1058) (by decide +kernel), List.mem_of_getElem? (i := 1478) (by decide +kernel), List.mem_of_getElem? (i := 1479) (by decide +kernel)⟩
theorem lw_p95 : lw_okq (⟨"StoryMachineModel", "addLetter", "(I)V"⟩, 51) := ⟨⟨by decide +kernel, by decide +kernel⟩, List.mem_of_getElem? (i := 1058) (by decide +kernel), List.mem_of_getElem? (i := 1482) (by decide +kernel), List.mem_of_getElem? (i := 1483) (by decide +kernel)⟩
def lw_privs_6 : List (MethodName × Nat) := [(⟨"StoryMachineModel", "none", "(I)V"⟩, 51), (⟨"StoryMachineModel", "save", "()V"⟩, 51), (⟨"StoryMachineModel", "restore", "()V"⟩, 51), (⟨"StoryMachineModel", "leaveWith", "(I)V"⟩, 51), (⟨"StoryMachineModel", "manyList", "(IIII)V"⟩, 51), (⟨"StoryMachineModel", "call", "()V"⟩, 51), (⟨"StoryMachineModel", "setProperty", "(III)V"⟩, 51), (⟨"StoryMachineModel", "readLine", "(II)V"⟩, 51), (⟨"StoryMachineModel", "findWords", "(II)I"⟩, 51), (⟨"StoryMachineModel", "begins", "(II)Z"⟩, 51), (⟨"StoryMachineModel", "separates", "(I)Z"⟩, 51), (⟨"StoryMachineModel", "lengthFrom", "(III)I"⟩, 51), (⟨"StoryMachineModel", "parse", "(III)V"⟩, 51), (⟨"StoryMachineModel", "entry", "(II)I"⟩, 51), (⟨"StoryMachineModel", "addCharacter", "(I)V"⟩, 51), (⟨"StoryMachineModel", "addLetter", "(I)V"⟩, 51)]
theorem lw_r6 : ∀ q ∈ lw_privs_6, lw_okq q := List.forall_mem_cons.mpr ⟨lw_p80, List.forall_mem_cons.mpr ⟨lw_p81, List.forall_mem_cons.mpr ⟨lw_p82, List.forall_mem_cons.mpr ⟨lw_p83, List.forall_mem_cons.mpr ⟨lw_p84, List.forall_mem_cons.mpr ⟨lw_p85, List.forall_mem_cons.mpr ⟨lw_p86, List.forall_mem_cons.mpr ⟨lw_p87, List.forall_mem_cons.mpr ⟨lw_p88, List.forall_mem_cons.mpr ⟨lw_p89, List.forall_mem_cons.mpr ⟨lw_p90, List.forall_mem_cons.mpr ⟨lw_p91, List.forall_mem_cons.mpr ⟨lw_p92, List.forall_mem_cons.mpr ⟨lw_p93, List.forall_mem_cons.mpr ⟨lw_p94, List.forall_mem_cons.mpr ⟨lw_p95, fun _ h => absurd h List.not_mem_nil⟩⟩⟩⟩⟩⟩⟩⟩⟩⟩⟩⟩⟩⟩⟩⟩
theorem lw_p96 : lw_okq (⟨"StoryMachineModel", "showNumber", "(I)V"⟩, 51) := ⟨⟨by decide +kernel, by decide +kernel⟩, List.mem_of_getElem? (i := 1058) (by decide +kernel), List.mem_of_getElem? (i := 1486) (by decide +kernel), List.mem_of_getElem? (i := 1487) (by decide +kernel)⟩
theorem lw_p97 : lw_okq (⟨"StoryMachineModel", "draw", "(I)V"⟩, 51) := ⟨⟨by decide +kernel, by decide +kernel⟩, List.mem_of_getElem? (i := 1058) (by decide +kernel), List.mem_of_getElem? (i := 1490) (by decide +kernel), List.mem_of_getElem? (i := 1491) (by decide +kernel)⟩
theorem lw_p98 : lw_okq (⟨"StoryMachineModel", "replaceIf", "(II)V"⟩, 51) := ⟨⟨by decide +kernel, by decide +kernel⟩, List.mem_of_getElem? (i := 1058) (by decide +kernel), List.mem_of_getElem? (i := 1494) (by decide +kernel), List.mem_of_getElem? (i := 1495) (by decide +kernel)⟩
def lw_privs_7 : List (MethodName × Nat) := [(⟨"StoryMachineModel", "showNumber", "(I)V"⟩, 51), (⟨"StoryMachineModel", "draw", "(I)V"⟩, 51), (⟨"StoryMachineModel", "replaceIf", "(II)V"⟩, 51)]
theorem lw_r7 : ∀ q ∈ lw_privs_7, lw_okq q := List.forall_mem_cons.mpr ⟨lw_p96, List.forall_mem_cons.mpr ⟨lw_p97, List.forall_mem_cons.mpr ⟨lw_p98, fun _ h => absurd h List.not_mem_nil⟩⟩⟩
def lw_privs : List (MethodName × Nat) := lw_privs_1 ++ (lw_privs_2 ++ (lw_privs_3 ++ (lw_privs_4 ++ (lw_privs_5 ++ (lw_privs_6 ++ (lw_privs_7))))))
def lw_tbl : List Cond := k2_sels lw_privs ++ tables_1
theorem lw_privs_ok : ∀ q ∈ lw_privs, lw_okq q := by
  show ∀ q ∈ lw_privs_1 ++ (lw_privs_2 ++ (lw_privs_3 ++ (lw_privs_4 ++ (lw_privs_5 ++ (lw_privs_6 ++ (lw_privs_7)))))), lw_okq q
  exact List.forall_mem_append.mpr ⟨lw_r1, List.forall_mem_append.mpr ⟨lw_r2, List.forall_mem_append.mpr ⟨lw_r3, List.forall_mem_append.mpr ⟨lw_r4, List.forall_mem_append.mpr ⟨lw_r5, List.forall_mem_append.mpr ⟨lw_r6, lw_r7⟩⟩⟩⟩⟩⟩
end
section
/-! One list of words for all: lw_tbl. Every word of it stays true under warmer tables. -/
def tw_ok : Cond → Bool
  | .arrayClass _ => true
  | .methodLinkNest _ _ _ _ => true
  | .declares _ => true
  | .castable _ _ => true
  | w => w.onTables && w.keeps
theorem tw_warm {w : Cond} (h : tw_ok w = true) {args a' : Array Value} {s U : State} (hW : s.WarmedH U.vm) (hb : w.before args s = true) : w.before a' U = true := by
  cases w with
  | methodLinkNest a i x h => exact va_Nw.use rfl (va_Nw.warmM hW (va_Nw.of rfl hb))
  | declares x => exact va_Nw.use rfl (va_Nw.warmD hW (va_Nw.of rfl hb))
  | castable C T => exact va_Nw.use rfl (va_Nw.warmC hW (va_Nw.of rfl hb))
  | arrayClass ty => exact word_at hW (Or.inr ⟨ty, rfl⟩) hb
  | _ => exact word_at hW (Or.inl h) hb
/-- the words that contracts lean on: those of lw_tbl that hang on the tables alone -/
def tw_tbl : List Cond := lw_tbl.filter tw_ok
theorem tw_mem {w : Cond} (h : w ∈ lw_tbl) (hw : tw_ok w = true) : w ∈ tw_tbl := List.mem_filter.mpr ⟨h, hw⟩
theorem tw_of {args : Array Value} {s : State} (hts : ∀ w ∈ lw_tbl, w.before args s = true) : ∀ w ∈ tw_tbl, w.before args s = true := fun w hw => hts w (List.mem_filter.mp hw).1
theorem tw_ws {args : Array Value} {s : State} (hts : ∀ w ∈ tw_tbl, w.before args s = true) : ∀ w ∈ tw_tbl, ∀ (a' : Array Value) (U : State), s.WarmedH U.vm → w.before a' U = true :=
  fun w hw _ _ hW => tw_warm (List.mem_filter.mp hw).2 hW (hts w hw)
end
section
/-! Both ends of a method: it returned, or it threw. tx_Met is a contract of either end; tx_Th: an exception is on its way over a frame. -/
def tx_End (first t : State) (L : List Loc) (k n : Nat) : Prop := first.WarmedH t.vm ∧ first.sameButNew ({ t with vm := first.vm } : State) L k n
def tx_Met (l : Launch) (y : MethodName) (ws : List Cond) (rm : Room) (Pc : Array Value → State → Prop) (Qc : Array Value → State → Outcome → State → Prop) (mc ms : Nat) (free : Addr → Prop) : Prop :=
  MetFree l y (headSpec ws rm) Pc (fun _ _ _ _ _ => True) (fun a st o t => Qc a st o t ∧ ∃ L, tx_End st t L mc ms ∧ ∀ q ∈ L, free q.base)
def tx_MQ (below : List Frame) (Qc : Array Value → State → Outcome → State → Prop) (a : Array Value) (s : State) (mc ms : Nat) (free : Addr → Prop) : State → Prop := fun t =>
  ∃ o, t.status = .running ∧ Ended t below o ∧ Qc a s o t ∧ ∃ L, tx_End s t L mc ms ∧ ∀ q ∈ L, free q.base
/-- what a caller knows of a callee's code, with or without handlers -/
def tx_code (y : MethodName) (maxL : Nat) (s : State) : Prop := ∃ (mk : MethodId) (me : Method) (cM : Code), s.methodNamed? y = some mk ∧ s.vm.method? mk = some me ∧ me.code = some cM ∧ cM.maxLocals = maxL ∧ me.locks = false ∧ parseMethodDescriptor y.desc = some me.sig
theorem tx_code.of {y : MethodName} {cc : ByteArray} {maxL : Nat} {ret : Option FieldType} {args : Array Value} {s : State} (h : (Cond.code y cc maxL ret).before args s = true) : tx_code y maxL s := by
  obtain ⟨mk, hn⟩ := Cond.code_named h
  obtain ⟨me, cM, h1, h2, h3, h4, h5, h6, h7, h8⟩ := Cond.code_spec hn h
  exact ⟨mk, me, cM, hn, h1, h2, h4, h6, h8⟩
theorem tx_code.ofW {y : MethodName} {cc : ByteArray} {maxL : Nat} {ret : Option FieldType} {hs : List (Nat × Nat × Nat × Nat)} {args : Array Value} {s : State} (h : (Cond.codeWith y cc maxL ret hs).before args s = true) : tx_code y maxL s := by
  obtain ⟨mk, me, cM, h0, h1, h2, h3, h4, h5, h6, h7, h8⟩ := Cond.codeWith_spec h
  exact ⟨mk, me, cM, h0, h1, h2, h4, h7, h8⟩
section TX1
variable {p : Program} {l : Launch} {e : Env} {R : Room} {s : State} {m : MethodId} {args : Array Value} {below : List Frame} {meth : Method} {c : Code} {H : Heap} {locs : List Loc} {cells slots : Nat}
theorem tx_mono {Q Q' : State → Prop} {g : JFrame} (h : ∀ t, Q t → Q' t) (k : W p l e R s m args below meth c H locs cells slots Q g) : W p l e R s m args below meth c H locs cells slots Q' g := by
  intro T hT X
  obtain ⟨t, a, b⟩ := k T hT X
  exact ⟨t, a, h t b⟩
theorem tx_ret {Qc : Array Value → State → Outcome → State → Prop} {mc ms : Nat} {free : Addr → Prop} {g : JFrame} (k : W p l e R s m args below meth c H locs cells slots (MQ below Qc args s mc ms free) g) :
    W p l e R s m args below meth c H locs cells slots (tx_MQ below Qc args s mc ms free) g := by
  refine tx_mono (fun t h => ?_) k
  obtain ⟨o, h1, h2, h3, L, h4, h5⟩ := h
  exact ⟨o, h1, h2, h3, L, ⟨h4.2.1, h4.2.2⟩, h5⟩
theorem tx_of {y : MethodName} {ws : List Cond} {rm : Room} {Pc : Array Value → State → Prop} {Qc : Array Value → State → Outcome → State → Prop} {mc ms : Nat} {free : Addr → Prop} (h : Met l y ws rm Pc Qc mc ms free) : tx_Met l y ws rm Pc Qc mc ms free := by
  intro p e ha hc hk s m args below hf happ hP hK
  obtain ⟨n, o, h1, h2, h3, h4, L, h5, h6⟩ := h p e ha hc hk s m args below hf happ hP hK
  exact ⟨n, o, h1, h2, h3, h4, L, ⟨h5.2.1, h5.2.2⟩, h6⟩
theorem tx_ofW {y : MethodName} {ws : List Cond} {rm : Room} {Pc : Array Value → State → Prop} {Qc : Array Value → State → Outcome → State → Prop} {mc ms : Nat} {free : Addr → Prop} {cc : ByteArray} {maxL : Nat} {ret : Option FieldType}
    (hy : plainName y.cls = true)
    (his : ∀ args (s : State) m, (headSpec ws rm).pre.before args s = true → s.methodNamed? y = some m → ∃ meth c, s.vm.method? m = some meth ∧ meth.code = some c ∧ c.code = cc ∧ c.maxLocals = maxL ∧ meth.sig.returnType = ret ∧ meth.locks = false)
    (body : ∀ p e s m args below meth c s₁, BodyLoose p l y (headSpec ws rm) cc maxL ret e s m args below meth c s₁ → c.maxLocals = maxL → Pc args s →
      W p l e (headSpec ws rm).room s m args below meth c s.heap [] 0 0 (tx_MQ below Qc args s mc ms free) (entryFrame m args maxL)) : tx_Met l y ws rm Pc Qc mc ms free := by
  refine MetFree.of_bodyS (code := cc) (maxLocals := maxL) (ret := ret) hy his ?_
  intro p e s m args below meth c s₁ B hml hP _
  have hh0 : s₁.heap = s.heap := by rw [B.state]; rfl
  obtain ⟨t, a1, o, b1, b2, b3⟩ := body p e s m args below meth c s₁ B hml hP s₁ hh0 (Stand.of_body B)
  exact ⟨t, o, a1, b1, b2, ⟨b3.1, b3.2⟩⟩
theorem tx_is {y : MethodName} {ws ws' : List Cond} {rm : Room} {cc : ByteArray} {maxL : Nat} {ret : Option FieldType} (hw : ws = Cond.code y cc maxL ret :: ws') :
    ∀ args (s : State) m, (headSpec ws rm).pre.before args s = true → s.methodNamed? y = some m → ∃ meth c, s.vm.method? m = some meth ∧ meth.code = some c ∧ c.code = cc ∧ c.maxLocals = maxL ∧ meth.sig.returnType = ret ∧ meth.locks = false := by
  intro args s m h hn
  obtain ⟨meth, c, h1, h2, h3, h4, h5, h6, -, -⟩ := Cond.code_spec hn (atoms_spec (ws := ws) h _ (by rw [hw]; exact List.mem_cons_self))
  exact ⟨meth, c, h1, h2, h3, h4, h5, h6⟩
theorem tx_isW {y : MethodName} {ws ws' : List Cond} {rm : Room} {cc : ByteArray} {maxL : Nat} {ret : Option FieldType} {hs : List (Nat × Nat × Nat × Nat)} (hw : ws = Cond.codeWith y cc maxL ret hs :: ws') :
    ∀ args (s : State) m, (headSpec ws rm).pre.before args s = true → s.methodNamed? y = some m → ∃ meth c, s.vm.method? m = some meth ∧ meth.code = some c ∧ c.code = cc ∧ c.maxLocals = maxL ∧ meth.sig.returnType = ret ∧ meth.locks = false := by
  intro args s m h hn
  obtain ⟨m', meth, c, h0, h1, h2, h3, h4, h5, h6, h7, -⟩ := Cond.codeWith_spec (atoms_spec (ws := ws) h _ (by rw [hw]; exact List.mem_cons_self))
  cases hn.symm.trans h0
  exact ⟨meth, c, h1, h2, h3, h4, h6, h7⟩
/-- no handler in a method without a table -/
theorem tx_noH {y : MethodName} {S : Spec} {cc : ByteArray} {maxL : Nat} {ret : Option FieldType} {s₁ : State} (B : BodyLoose p l y S cc maxL ret e s m args below meth c s₁) (h : (Cond.code y cc maxL ret).before args s = true) (pc : Nat) : ∀ x ∈ c.exceptionTable.toList, covers x pc = false := by
  intro x hx
  have h1 := B.noHandlers h
  have h2 : c.exceptionTable.toList = [] := by
    have : c.exceptionTable = #[] := Array.isEmpty_iff.mp h1
    rw [this]
  rw [h2] at hx
  cases hx
theorem tx_tab {y : MethodName} {S : Spec} {cc : ByteArray} {maxL : Nat} {ret : Option FieldType} {hs : List (Nat × Nat × Nat × Nat)} {s₁ : State} (B : BodyLoose p l y S cc maxL ret e s m args below meth c s₁) (h : (Cond.codeWith y cc maxL ret hs).before args s = true) : c.exceptionTable.toList = tableOf hs := by
  obtain ⟨m', meth', c', h0, h1, h2, h3, h4, h5, -⟩ := Cond.codeWith_spec h
  cases B.named.symm.trans h0
  cases B.method.symm.trans h1
  cases (Stand.of_body B).code.symm.trans h2
  rw [← h5, table_eq]
/-- the walk stands anew: from here on nothing has moved yet -/
theorem tx_restart {T : State} (X : Stand p l e R s m args below meth c T locs cells slots) {R' : Room} (h1 : R'.frames ≤ R.frames) (h2 : R'.locals ≤ R.locals) (h3 : cells + R'.cells ≤ R.cells) (h4 : slots + R'.slots ≤ R.slots) :
    Stand p l e R' (T.setFrames (.invoking m args :: below)) m args below meth c T [] 0 0 := by
  obtain ⟨g₀, hfr⟩ := X.frames_eq
  have hcur : T.cur < T.threads.size := State.cur_lt_of_frames hfr
  have hF : (T.setFrames (.invoking m args :: below)).frames = .invoking m args :: below := State.frames_setFrames _ hcur
  obtain ⟨t, ht, -⟩ := State.frames_cons hfr
  obtain ⟨t', ht', -⟩ := State.frames_cons hF
  have hcur' : (T.setFrames (.invoking m args :: below)).cur < (T.setFrames (.invoking m args :: below)).threads.size := State.cur_lt_of_frames hF
  refine ⟨X.admits, X.cas, X.clock, hF, ?_, ?_, X.method', X.code, X.here, X.tail, State.WarmedH.refl (T.setFrames (.invoking m args :: below)), by rw [State.stackLimits_setFrames], by rw [State.stackBytes_setFrames], ?_⟩
  · obtain ⟨r1, r2, r3, r4⟩ := State.hasRoom_stack X.room
    have r5 := State.hasRoom_real X.room
    have h := X.room
    simp only [State.hasRoom, Bool.and_eq_true, decide_eq_true_eq] at h
    rw [State.localsInUse_invoking X.frames X.method X.code] at r3 r4 r5
    rw [X.frames, List.length_cons] at r1 r2
    have hU := State.localsInUse_invoking hF X.method' X.code
    have hz := X.heapSize
    have hu := X.used
    simp only [State.hasRoom, Bool.and_eq_true, decide_eq_true_eq, hF, hU, List.length_cons, State.stackLimits_setFrames, State.stackBytes_setFrames, X.limits, X.bytes]
    refine ⟨⟨⟨⟨by omega, by omega, by omega, by omega, by omega, h.1.1.1.2.2.2.2.2⟩, ?_⟩, ?_⟩, X.book⟩
    · have := h.1.1.2
      show T.heap.size + R'.cells ≤ e.platform.maxCells
      omega
    · have := h.1.2
      show T.slotsUsed + R'.slots ≤ e.platform.maxSlots
      omega
  · have hh := X.hears
    cases below with
    | nil => simpa [State.hears, X.method, show (T.setFrames (.invoking m args :: [])).vm = T.vm from rfl, X.method'] using hh
    | cons y r => cases y <;> simpa [State.hears, State.code?_eq, show ∀ fs, (T.setFrames fs).vm = T.vm from fun _ => rfl, X.warmed.alike.method?, X.method, X.method'] using hh
  · have h := (State.sameButNew.refl (T.setFrames (.invoking m args :: below)) ht').setFrames T.frames hcur'
    rw [State.setFrames_setFrames, State.setFrames_self ht] at h
    exact h
/-- what the walk from the new start moved, beside what was moved before it -/
theorem tx_same {T U : State} {k n : Nat} (X : Stand p l e R s m args below meth c T locs cells slots) (fs : List Frame) (hW : (T.setFrames fs).WarmedH U.vm) (h : (T.setFrames fs).sameButNew ({ U with vm := (T.setFrames fs).vm } : State) [] k n) :
    tx_End s U locs (cells + k) (slots + n) := by
  have hT : T.sameButNew (U.setVm T.vm) [] k n := by
    obtain ⟨e1, e2⟩ := h
    rw [State.setFrames_setFrames] at e1
    exact ⟨e1, e2⟩
  have h2 := X.same.trans (hT.setVm s.vm)
  rw [List.append_nil] at h2
  exact ⟨State.WarmedH.trans X.warmed hW, h2⟩
end TX1
end
section
/-! A throw, a call of a method with either end, and what becomes of an exception in the caller. -/
theorem tx_kept {s t : State} {k n : Nat} (h : s.sameButNew t [] k n) : ∀ q : Nat, q < s.heap.size → t.heap[q]? = s.heap[q]? := by
  intro q hq
  obtain ⟨-, -, -, -, -, h6⟩ := h
  have hc : s.heap[q]? = some s.heap[q] := Array.getElem?_eq_getElem hq
  obtain ⟨c', h1, h2, h3, h4⟩ := h6 q _ hc
  have he : c'.slots = (s.heap[q]).slots := Array.ext_getElem? (fun i => h4 i (by simp))
  rw [h1, hc, h2, he]
section TX2
variable {p : Program} {l : Launch} {e : Env} {R : Room} {s : State} {m : MethodId} {args : Array Value} {below : List Frame} {meth : Method} {c : Code} {H : Heap} {locs : List Loc} {cells slots : Nat}
/-- an exception is on its way over the frame g -/
def tx_Th (p : Program) (l : Launch) (e : Env) (R : Room) (s : State) (m : MethodId) (args : Array Value) (below : List Frame) (meth : Method) (c : Code) (H : Heap) (locs : List Loc) (cells slots : Nat) (Q : State → Prop) (g : JFrame) (x : Addr) : Prop :=
  ∀ T : State, T.heap = H → Stand p l e R s m args below meth c T locs cells slots → ∃ t, Steps p.tables e below ((T.setTop g).pushFrame (.throwing x)) t ∧ Q t
theorem tx_leave {Qc : Array Value → State → Outcome → State → Prop} {free : Addr → Prop} {pc : Nat} {ls : Array Slot} {st : List Value} {x : Addr} (hout : ∀ h ∈ c.exceptionTable.toList, covers h pc = false)
    (hq : ∀ t : State, t.heap = H → s.WarmedH t.vm → Qc args s (.threw x) t) (hf : ∀ q ∈ locs, free q.base) (hlocks : meth.locks = false) :
    tx_Th p l e R s m args below meth c H locs cells slots (tx_MQ below Qc args s cells slots free) (F0 m pc ls st) x := by
  intro T hT X
  obtain ⟨st1, hrun, hend, hW, hsame⟩ := X.leaveThrown x (g := F0 m pc ls st) rfl rfl rfl hout hlocks
  exact ⟨_, st1, .threw x, hrun, hend, hq _ hT hW, locs, ⟨hW, hsame⟩, hf⟩
set_option maxHeartbeats 4000000 in
/-- new X; dup; X.<init>(); athrow, in a method that does not catch it there -/
theorem tx_throw {cc : ByteArray} (hexec : p.tables.exec = Jvm.exec) (hb : c.code = cc) (hfl : l.flags = pinnedFlags ++ [noTraceFlag]) {own X : String} {names : List String} {ic ix : Nat} (hown : s.vm.findClass own = some m.cls)
    (hX : Bundle.fit X = true) (hnames : ∀ n ∈ names, Bundle.fit n = true)
    (hat : ∀ U : State, U.heap = H → s.WarmedH U.vm → (∀ a ∈ Bundle.ownAtoms0 own ic X names, a.before args U = true) ∧ (Cond.classLink own ix X).before args U = true ∧ (Cond.initialized X).before args U = true)
    {Qc : Array Value → State → Outcome → State → Prop} {free : Addr → Prop} {pc : Nat} {ls : Array Slot} {rest : List Value} (hsize : ls.size = c.maxLocals)
    (d0 : decode cc pc = .ok (.new ix, 3)) (d3 : decode cc (pc + 3) = .ok (.dup, 1)) (d4 : decode cc (pc + 3 + 1) = .ok (.invokespecial ic, 3)) (d7 : decode cc (pc + 3 + 1 + 3) = .ok (.athrow, 1))
    (hout : ∀ x ∈ c.exceptionTable.toList, covers x (pc + 3 + 1 + 3) = false)
    (hc : cells + 1 ≤ R.cells) (hsl : slots + 6 ≤ R.slots) (hRf : names.length + 3 < R.frames) (hRl : (rest.map fun v => v.category).sum + (13 * (names.length + 1) + 42) ≤ R.locals)
    (hq : ∀ (t : State) (ce : Cell), s.WarmedH t.vm → t.heap.size = H.size + 1 → (∀ q : Nat, q < H.size → t.heap[q]? = H[q]?) → t.heap[H.size]? = some ce → t.vm.findClass X = some ce.cls → ce.vm = .none → Qc args s (.threw H.size) t) (hf : ∀ q ∈ locs, free q.base) (hlocks : meth.locks = false) :
    W p l e R s m args below meth c H locs cells slots (tx_MQ below Qc args s (cells + 1) (slots + 6) free) (F0 m pc ls rest) := by
  intro T hT XS
  have htr : e.platform.stackTraces = false := Launch.traces_off hfl XS.admits
  have X0 := tx_restart XS (R' := { frames := R.frames, locals := R.locals, cells := 1, slots := 6 }) (Nat.le_refl _) (Nat.le_refl _) hc hsl
  have hown' : (T.setFrames (.invoking m args :: below)).vm.findClass own = some m.cls := by
    show T.vm.findClass own = _
    rw [XS.warmed.alike.findClass]; exact hown
  obtain ⟨ha, hl, hi⟩ := hat (T.setFrames (.invoking m args :: below)) hT XS.warmed
  generalize hs' : T.setFrames (.invoking m args :: below) = s' at X0 hown' ha hl hi
  have hins : (Cond.instantiable X 6).before args s' = true := ha _ (by simp [Bundle.ownAtoms0])
  obtain ⟨cX, kX0, hfc, hkX0, -⟩ := Cond.instantiable_spec hins
  have hsz' : s'.heap = T.heap := by rw [← hs']; rfl
  have w : W p l e { frames := R.frames, locals := R.locals, cells := 1, slots := 6 } s' m args below meth c T.heap [] 0 0
      (fun U => U.status = .running ∧ Ended U below (.threw T.heap.size) ∧ s'.WarmedH U.vm ∧ s'.sameButNew ({ U with vm := s'.vm } : State) [] 1 6 ∧ ∃ ce, U.heap[T.heap.size]? = some ce ∧ Bundle.OwnCell args s' X T.heap.size .null ce) (F0 m pc ls rest) := by
    refine W.newcK hexec hb hown' hl hins hi rfl d0 (Nat.le_refl 1) (Nat.le_refl 6) hfc rfl fun H' kC hkC e1 z1 o1 => ?_
    refine lv_dup hexec hb d3 rfl ?_
    intro T2 hT2 X2
    obtain ⟨U, st, h1, h2, h3, h4, ce, h5, h6⟩ := X2.ctorThrow0 hexec htr hown' hX hnames ha (fun x hx => by cases hx) hfc hkC (a := T.heap.size) (by rw [hT2]; exact e1) (by rw [hsz']; exact Nat.le_refl _)
      (g := F0 m (pc + 3 + 1) ls (.ref T.heap.size :: .ref T.heap.size :: rest)) rfl hsize rfl rfl rfl (by rw [hb]; exact d4) (by rw [hb]; exact d7) hout hRf
      (by simp only [List.map_cons, List.sum_cons, Value.category, JFrame.monitorRoom] at *; omega) hlocks
    exact ⟨U, st, h1, h2, h3, h4, ce, h5, h6⟩
  obtain ⟨U, st, h1, h2, h3, h4, ce, h5, h6⟩ := w T rfl X0
  have hE : tx_End s U locs (cells + 1) (slots + 6) := by
    subst hs'
    exact tx_same XS _ h3 h4
  have hkept : ∀ q : Nat, q < T.heap.size → U.heap[q]? = T.heap[q]? := by
    have := tx_kept h4
    rw [hsz'] at this
    exact this
  have hlt : T.heap.size < U.heap.size := (Array.getElem?_eq_some_iff.mp h5).1
  have hle : U.heap.size ≤ T.heap.size + 1 := by
    have := h4.2.2.1
    rw [hsz'] at this
    exact this
  subst hT
  refine ⟨U, st, .threw T.heap.size, h1, h2, hq U ce hE.1 (by omega) hkept h5 ?_ h6.vm, locs, hE, hf⟩
  rw [h3.alike.findClass]
  exact h6.cls
end TX2
end
section
section TX3
variable {p : Program} {l : Launch} {e : Env} {R : Room} {s : State} {m : MethodId} {args : Array Value} {below : List Frame} {meth : Method} {c : Code} {H : Heap} {locs : List Loc} {cells slots : Nat}
theorem tx_back {T : State} (X : Stand p l e R s m args below meth c T locs cells slots) {y : MethodName} {ws : List Cond} {rm : Room} {Pc : Array Value → State → Prop} {Qc : Array Value → State → Outcome → State → Prop} {mc ms maxL : Nat} {free : Addr → Prop}
    (hM : tx_Met l y ws rm Pc Qc mc ms free) (hrc : rm.cells = mc) (hrs : rm.slots = ms) (hfr : rm.frames + 1 ≤ R.frames) (hlo : 8 + (maxL + 11) + rm.locals ≤ R.locals)
    {g : JFrame} (hg : g.method = m) (hsize : g.locals.size = c.maxLocals) {ig : Instr} {len : Nat} (hdg : decode c.code g.pc = .ok (ig, len)) (hW : 2 * g.monitorRoom + (g.stack.map fun v => v.category).sum ≤ 8)
    {mk : MethodId} {me : Method} {cM : Code} (hn : T.methodNamed? y = some mk) (hm : T.vm.method? mk = some me) (hc : me.code = some cM) (hml : cM.maxLocals = maxL) {a : Array Value}
    (hini : (Cond.initialized y.cls).before a T = true) (hpre : (headSpec ws rm).pre.before a T = true) (hP : Pc a (T.calling g mk a)) (hce : cells + mc ≤ R.cells) (hsl : slots + ms ≤ R.slots) :
    ∃ (o : Outcome) (t T' : State) (L : List Loc), Stand p l e R s m args below meth c T' (locs ++ L) (cells + mc) (slots + ms) ∧ (∀ q ∈ L, free q.base) ∧ T'.heap = t.heap ∧ T'.vm = t.vm ∧ Qc a (T.calling g mk a) o t ∧
      (∀ v, o = .returned v → Steps p.tables e below (doInvoke e (T.setTop g) [] mk a).1 (T'.setTop { g with pc := g.pc + len, stack := v.toList ++ g.stack })) ∧
      (∀ x, o = .threw x → Steps p.tables e below (doInvoke e (T.setTop g) [] mk a).1 ((T'.setTop g).pushFrame (.throwing x))) := by
  obtain ⟨kY, hkY, -⟩ := className_of_methodNamed hn
  have hinitY : kY.init = .initialized := Cond.initialized_spec (findClass_of_methodNamed hn) hkY hini
  have h : At T g.method c below := by rw [hg]; exact X.here
  have happ : (headSpec ws rm).appliesLoose y e.platform (T.calling g mk a) = true :=
    Spec.appliesLoose_calling (g := g) h hdg hn hkY hinitY (X.room_calling (g := g) (R' := rm) hsize hm hc hfr (by rw [hml]; omega) (by rw [hrc]; exact hce) (by rw [hrs]; exact hsl)) hpre
  have hfr2 : (T.setTop g).frames = .java g :: below := by rw [State.frames_setTop' g h.top, X.tail]
  obtain ⟨o, s₂, hsteps, -, hend, hq, L, hE, hL⟩ := Steps.callFree hM p X.admits X.cas X.clock (acts := []) (mid := [.java g]) (below := below) hfr2 happ hP trivial
  rw [hfr2] at hend
  cases o with
  | returned v =>
    obtain ⟨T', X', -, -, ht⟩ := X.outOf hg hdg hend hE.1 hE.2
    refine ⟨_, s₂, T', L, X', hL, ?_, ?_, hq, fun v' he => ?_, fun x he => by cases he⟩
    · rw [ht]; simp [State.setTop, State.modifyTopJava]
    · rw [ht]; simp [State.setTop, State.modifyTopJava]
    · cases he; rw [← ht]; exact hsteps
  | threw x =>
    obtain ⟨T', X', -, -, ht⟩ := X.outOfThrown hg hend hE.1 hE.2
    refine ⟨_, s₂, T', L, X', hL, ?_, ?_, hq, fun v' he => (by cases he), fun x' he => ?_⟩
    · rw [ht]; simp [State.pushFrame, State.setFrames, State.setTop, State.modifyTopJava]
    · rw [ht]; simp [State.pushFrame, State.setFrames, State.setTop, State.modifyTopJava]
    · cases he; rw [← ht]; exact hsteps
/-- a call of a method of either end -/
def tx_Run (p : Program) (l : Launch) (e : Env) (R : Room) (s : State) (m : MethodId) (args : Array Value) (below : List Frame) (meth : Method) (c : Code) (H : Heap) (locs : List Loc) (cells slots mc ms : Nat) (g : JFrame) (rest : List Value) (Qa : State → Outcome → State → Prop) (free : Addr → Prop) : Prop :=
  ∀ T : State, T.heap = H → Stand p l e R s m args below meth c T locs cells slots → ∃ (o : Outcome) (st₀ t T' : State) (L : List Loc), st₀.heap = H ∧ Stand p l e R s m args below meth c T' (locs ++ L) (cells + mc) (slots + ms) ∧ (∀ q ∈ L, free q.base) ∧ T'.heap = t.heap ∧ T'.vm = t.vm ∧ Qa st₀ o t ∧
    (∀ v, o = .returned v → ∀ tg, Steps p.tables e below (T'.setTop { g with pc := g.pc + 3, stack := v.toList ++ rest }) tg → Steps p.tables e below (T.setTop g) tg) ∧
    (∀ x, o = .threw x → ∀ tg, Steps p.tables e below ((T'.setTop { g with stack := rest }).pushFrame (.throwing x)) tg → Steps p.tables e below (T.setTop g) tg)
abbrev tx_CB (R : Room) (s : State) (args : Array Value) (own : String) (index : Nat) (y : MethodName) (maxL : Nat) (ws : List Cond) (rm : Room) (mc ms n : Nat) : Prop :=
  rm.cells = mc ∧ rm.slots = ms ∧ rm.frames + 1 ≤ R.frames ∧ 8 + (maxL + 11) + rm.locals ≤ R.locals ∧ (∀ w ∈ ws, ∀ (a' : Array Value) (U : State), s.WarmedH U.vm → w.before a' U = true) ∧ tx_code y maxL s ∧
  (Cond.initialized y.cls).before args s = true ∧ (y.cls ≠ "java/lang/invoke/MethodHandle" ∧ y.cls ≠ "java/lang/invoke/VarHandle") ∧ (∀ sig, parseMethodDescriptor y.desc = some sig → n = sig.parameters.length) ∧ (Cond.methodLink own index y).before args s = true
variable {y : MethodName} {cc : ByteArray} {maxL nL mc ms n index : Nat} {ws Ts : List Cond} {rm : Room} {Pc : Array Value → State → Prop} {Qc : Array Value → State → Outcome → State → Prop} {free : Addr → Prop} {own C : String} {b : Addr} {As rest : List Value} {g : JFrame}
theorem tx_runS (S : CallFix p m c cc nL s args Ts own) (hM : tx_Met l y ws rm Pc Qc mc ms free) (cw : tx_CB R s args own index y maxL ws rm mc ms n) (hst : (Cond.static y).before args s = true) (hp : PreS s H Pc As)
    (hg : g.method = m) (hn : As.length = n) (hsize : g.locals.size = nL) (hstack : g.stack = As.reverse ++ rest) (hW : 2 * g.monitorRoom + (rest.map fun v => v.category).sum ≤ 8) (hdg : decode cc g.pc = .ok (.invokestatic index, 3)) (hf : cells + mc ≤ R.cells ∧ slots + ms ≤ R.slots) :
    tx_Run p l e R s m args below meth c H locs cells slots mc ms g rest (Qc As.toArray) free := by
  obtain ⟨hrc, hrs, hfr, hlo, hws, ⟨mk, me, cM, hnamed, hmeth, hcode, hml2, hlk, hsig⟩, hini, hy, hlen, hl⟩ := cw
  obtain ⟨hx, hb, hml, ho, -⟩ := S
  intro T hT X
  have hstatic : me.isStatic = true := Cond.static_spec hnamed hmeth hst
  obtain ⟨kP, hkP, -⟩ := className_of_methodNamed hnamed
  have hinitP : kP.init = .initialized := Cond.initialized_spec (findClass_of_methodNamed hnamed) hkP hini
  obtain ⟨vm₁, X₁, hstep₁⟩ := X.invokestatic hx ho hl hnamed hmeth hstatic hkP hinitP hy (g := g) hg (argsL := As) (rest := rest) (hn.trans (hlen _ hsig)) hstack (by rw [hb]; exact hdg)
  obtain ⟨o, t, T', L, X', hL, e1, e2, hq, k1, k2⟩ := tx_back X₁ hM hrc hrs hfr hlo (g := { g with stack := rest }) hg (hsize.trans hml.symm) (by rw [hb]; exact hdg) hW (X₁.named hnamed) (by rw [X₁.warmed.alike.method?]; exact hmeth) hcode hml2 (a := As.toArray)
    (word_at X₁.warmed (Or.inl (by first | rfl | simp [Cond.onTables, Cond.keeps, Cond.steady])) hini) (atoms_intro fun w hw => hws w hw _ _ X₁.warmed) (hp.1 _ _ _ _ (hp.2 (T.setVm vm₁) hT X₁.warmed)) hf.1 hf.2
  refine ⟨o, (T.setVm vm₁).calling { g with stack := rest } mk As.toArray, t, T', L, hT, X', hL, e1, e2, hq, fun v he tg h => hstep₁ _ fun acts => ?_, fun x he tg h => hstep₁ _ fun acts => ?_⟩
  · rw [doInvoke_state]; exact (k1 v he).trans h
  · rw [doInvoke_state]; exact (k2 x he).trans h
theorem tx_runV (S : CallFix p m c cc nL s args Ts own) (hM : tx_Met l y ws rm Pc Qc mc ms free) (cw : tx_CB R s args own index y maxL ws rm mc ms n) (hin : (Cond.instanceMethod y).before args s = true) (hse : (Cond.selects C y y).before args s = true) (hp : PreV s H C b Pc As)
    (hg : g.method = m) (hn : As.length = n) (hsize : g.locals.size = nL) (hstack : g.stack = As.reverse ++ .ref b :: rest) (hW : 2 * g.monitorRoom + (rest.map fun v => v.category).sum ≤ 8) (hdg : decode cc g.pc = .ok (.invokevirtual index, 3)) (hf : cells + mc ≤ R.cells ∧ slots + ms ≤ R.slots) :
    tx_Run p l e R s m args below meth c H locs cells slots mc ms g rest (Qc (Value.ref b :: As).toArray) free := by
  obtain ⟨hrc, hrs, hfr, hlo, hws, ⟨mk, me, cM, hnamed, hmeth, hcode, hml2, hlk, hsig⟩, hini, hy, hlen, hl⟩ := cw
  obtain ⟨hx, hb, hml, ho, -⟩ := S
  obtain ⟨hbl, ⟨cellB, hcB, hoB, hclB⟩, hPc⟩ := hp
  intro T hT X
  obtain ⟨mk', me', hnamed', hmeth', hstM, habM⟩ := Cond.instanceMethod_spec hin
  cases hnamed.symm.trans hnamed'
  cases hmeth.symm.trans hmeth'
  obtain ⟨c2, r2, m2, q1, q2, q3, q4, kP, hkP, hkPi⟩ := Cond.selects_spec hse
  cases hclB.symm.trans q1
  cases (State.methodFound?_of_named hnamed hy).symm.trans q2
  cases hnamed.symm.trans q3
  have hselP : selectMethod e.platform s.vm cellB.cls mk = .method mk := by rw [Launch.admits_selectMethod X.admits]; exact q4
  obtain ⟨vm₁, X₁, hstep₁⟩ := X.invokevirtual hx ho hl hnamed hmeth hstM hkP hkPi hy (a := b) (cell := cellB) (by rw [hT]; exact hcB)
    (fun z h => by rw [h] at hoB; cases hoB) hselP hmeth habM hkP hkPi (g := g) hg (argsL := As) (rest := rest) (hn.trans (hlen _ hsig)) hstack (by rw [hb]; exact hdg)
  obtain ⟨o, t, T', L, X', hL, e1, e2, hq, k1, k2⟩ := tx_back X₁ hM hrc hrs hfr hlo (g := { g with stack := rest }) hg (hsize.trans hml.symm) (by rw [hb]; exact hdg) hW (X₁.named hnamed) (by rw [X₁.warmed.alike.method?]; exact hmeth) hcode hml2 (a := (Value.ref b :: As).toArray)
    (word_at X₁.warmed (Or.inl (by first | rfl | simp [Cond.onTables, Cond.keeps, Cond.steady])) hini) (atoms_intro fun w hw => hws w hw _ _ X₁.warmed) (hbl _ _ _ _ (hPc (T.setVm vm₁) hT X₁.warmed)) hf.1 hf.2
  refine ⟨o, (T.setVm vm₁).calling { g with stack := rest } mk (Value.ref b :: As).toArray, t, T', L, hT, X', hL, e1, e2, hq, fun v he tg h => hstep₁ _ fun acts => ?_, fun x he tg h => hstep₁ _ fun acts => ?_⟩
  · rw [doInvoke_state]; exact (k1 v he).trans h
  · rw [doInvoke_state]; exact (k2 x he).trans h
theorem tx_call {Q : State → Prop} {Qa : State → Outcome → State → Prop} {pc : Nat} {ls : Array Slot} {st0 : List Value} (hr : tx_Run p l e R s m args below meth c H locs cells slots mc ms (F0 m pc ls st0) rest Qa free)
    (kr : ∀ (v : Option Value) (st₀ t : State) (L : List Loc), st₀.heap = H → s.WarmedH t.vm → (∀ q ∈ L, free q.base) → Qa st₀ (.returned v) t → W p l e R s m args below meth c t.heap (locs ++ L) (cells + mc) (slots + ms) Q (F0 m (pc + 3) ls (v.toList ++ rest)))
    (kt : ∀ (x : Addr) (st₀ t : State) (L : List Loc), st₀.heap = H → s.WarmedH t.vm → (∀ q ∈ L, free q.base) → Qa st₀ (.threw x) t → tx_Th p l e R s m args below meth c t.heap (locs ++ L) (cells + mc) (slots + ms) Q (F0 m pc ls rest) x) :
    W p l e R s m args below meth c H locs cells slots Q (F0 m pc ls st0) := by
  intro T hT X
  obtain ⟨o, st₀, t, T', L, h0, X', hL, e1, e2, hq, k1, k2⟩ := hr T hT X
  have hWt : s.WarmedH t.vm := by rw [← e2]; exact X'.warmed
  cases o with
  | returned v =>
    obtain ⟨t2, a1, b1⟩ := kr v st₀ t L h0 hWt hL hq T' e1 X'
    exact ⟨t2, k1 v rfl t2 a1, b1⟩
  | threw x =>
    obtain ⟨t2, a1, b1⟩ := kt x st₀ t L h0 hWt hL hq T' e1 X'
    exact ⟨t2, k2 x rfl t2 a1, b1⟩
end TX3
end
section
/-! An exception is caught: the handler's class is resolved there (cold or warm). -/
theorem tx_goClass {E : CtlPost} {e : Env} {d : Bool} {acts : List Action} {s : State} {f : JFrame} {a : Addr} {Q : Handler → Pre} {x : ExceptionTableEntry} {t : List ExceptionTableEntry} {c : ClassId} {cell : Cell} {vm' : Vm} (hx : covers x f.pc = true) (h0 : x.catchType ≠ 0)
    (hg : (Jvm.resolveClass f.method.cls x.catchType).Gives e.toSetting s.vm (.ok c) vm') (hsz : vm'.classes.size ≤ s.vm.classes.size)
    (hcell : s.heap[a]? = some cell) (hobj : ∀ k, cell.vm ≠ .statics k) (hk : ∃ k, vm'.classes[cell.cls]? = some k) (hc : ∃ k, vm'.classes[c]? = some k) :
    wp (findHandler.go f a (x :: t)) Q E e d acts s ↔
      if vm'.assignable cell.cls c = true then Q (.found x.handlerPc) d acts (s.setVm vm') else wp (findHandler.go f a t) Q E e d acts (s.setVm vm') := by
  simp only [covers] at hx
  obtain ⟨ha, ht⟩ := hg.op (op := VmOp.resolveClass f.method.cls x.catchType) rfl
  cases hfit : vm'.assignable cell.cls c <;>
    simp [findHandler.go, hx, h0, ha, ht, hsz, hcell, hobj, hk, hc, hfit, VmOp.dirties, VmOp.acts]
/-- what the search gives, and the tables that it leaves -/
def tx_Finds (e : Env) (s : State) (f : JFrame) (a : Addr) (h : Handler) (vm' : Vm) : Prop :=
  ∀ (Q : Handler → Pre) (E : CtlPost) (d : Bool) (acts : List Action), wp (findHandler f a) Q E e d acts s ↔ Q h d acts (s.setVm vm')
theorem tx_catchStep {e : Env} {s : State} {a : Addr} {f : JFrame} {r : List Frame} {pc : Nat} {vm' : Vm} (hfind : tx_Finds e s f a (.found pc) vm') :
    (stepThrowing e s a (.java f :: r)).Is ((s.setVm vm').setFrames (.java { f with pc := pc, stack := [.ref a] } :: r)) [] := by
  simp only [stepThrowing, searchFrame, vmDo]
  generalize hr : Sem.go _ e false [] s = res
  obtain ⟨as, rfl, ha⟩ := Sem.eq_ok_of hr (a := Handler.found pc) (s' := s.setVm vm') (acts' := []) (by simp [hfind _ _ _ _])
  exact ⟨rfl, ha⟩
theorem tx_caught {tb : Tables} {e : Env} {s target : State} {g : JFrame} {c : Code} {below : List Frame} {a : Addr} (h : At s g.method c below) {pc : Nat} {vm' : Vm} (hfind : tx_Finds e ((s.setTop g).pushFrame (.throwing a)) g a (.found pc) vm')
    (hrest : Steps tb e below ((s.setVm vm').setTop { g with pc := pc, stack := [.ref a] }) target) :
    Steps tb e below ((s.setTop g).pushFrame (.throwing a)) target := by
  obtain ⟨hgo, hw⟩ := h.throwing a
  refine Steps.head hgo hw ?_
  rw [stepThread_throwing (frames_entered h.top _), (tx_catchStep (s := (s.setTop g).pushFrame (.throwing a)) hfind).1]
  obtain ⟨g₀, hg⟩ := Option.isSome_iff_exists.mp h.top
  obtain ⟨r, hr⟩ := State.topJava?_eq_some.mp hg
  have hr' : (s.setVm vm').frames = .java g₀ :: r := hr
  have e1 : (((s.setTop g).pushFrame (.throwing a)).setVm vm').setFrames (.java { g with pc := pc, stack := [.ref a] } :: s.frames.tail) = (s.setVm vm').setTop { g with pc := pc, stack := [.ref a] } := by
    rw [State.setTop_of_frames _ hr', State.pushFrame, State.setTop_of_frames _ hr, State.setFrames_setFrames, hr]
    show ((s.setVm vm').setFrames _).setFrames _ = _
    rw [State.setFrames_setFrames]
    rfl
  rw [e1]
  exact hrest
section TX4
variable {p : Program} {l : Launch} {e : Env} {R : Room} {s : State} {m : MethodId} {args : Array Value} {below : List Frame} {meth : Method} {c : Code} {H : Heap} {locs : List Loc} {cells slots : Nat}
/-- the first handler takes it -/
theorem tx_catch {Q : State → Prop} {pc s1 e1 h1 ct : Nat} {hs : List (Nat × Nat × Nat × Nat)} (htab : c.exceptionTable.toList = tableOf ((s1, e1, h1, ct) :: hs)) (hcov : (decide (s1 ≤ pc) && decide (pc < e1)) = true) (hct : ct ≠ 0)
    {own C X : String} (hown : s.vm.findClass own = some m.cls) (hl : (Cond.classLink own ct C).before args s = true) {cX cC : ClassId} {ce : Cell} {x : Addr} (hce : H[x]? = some ce) (hst : ∀ k, ce.vm ≠ .statics k) (hfX : s.vm.findClass X = some ce.cls) (hcast : (Cond.castable X C).before args s = true)
    {ls : Array Slot} {st : List Value} (kk : W p l e R s m args below meth c H locs cells slots Q (F0 m h1 ls [.ref x])) : tx_Th p l e R s m args below meth c H locs cells slots Q (F0 m pc ls st) x := by
  intro T hT X
  have hpl : e.platform.magicAccessors = ({} : Platform).magicAccessors := by rw [X.admits.platform]
  obtain ⟨cC, hfC, hcl⟩ := Cond.classLink_spec hown hl e.platform hpl
  obtain ⟨c3, c4, hc3, hc4, hasg⟩ := Cond.castable_spec hcast
  cases hfX.symm.trans hc3
  cases hfC.symm.trans hc4
  obtain ⟨hg₁, hwarm₁, hready₁⟩ := State.classEntry (e := e) X.warmed hcl
  generalize T.vm.noted m.cls ct (.cls cC) = vm₁ at hg₁ hwarm₁ hready₁
  have X₁ := X.noted hwarm₁
  obtain ⟨t, a1, b1⟩ := kk (T.setVm vm₁) hT X₁
  refine ⟨t, tx_caught (g := F0 m pc ls st) X.here (vm' := vm₁) ?_ a1, b1⟩
  intro Q' E d acts
  rw [W.findHandler_eq (s := (T.setTop (F0 m pc ls st)).pushFrame (.throwing x)) (meth := meth) (code := c) (by rw [Stand.throwing_vm]; exact X.method') X.code, htab]
  obtain ⟨kx, hkx, -⟩ := Vm.findClass_spec hfX
  obtain ⟨kc, hkc, -⟩ := Vm.findClass_spec hfC
  obtain ⟨kx', hkx', -⟩ := hwarm₁.alike.2.2 _ _ hkx
  obtain ⟨kc', hkc', -⟩ := hwarm₁.alike.2.2 _ _ hkc
  show wp (findHandler.go (F0 m pc ls st) x (⟨s1, e1, h1, ct⟩ :: tableOf hs)) Q' E e d acts _ ↔ _
  rw [tx_goClass (s := (T.setTop (F0 m pc ls st)).pushFrame (.throwing x)) (c := cC) (cell := ce) (vm' := vm₁) hcov hct (by rw [Stand.throwing_vm]; exact hg₁) (by rw [Stand.throwing_vm]; have := (X.warmed.alike.symm.trans hwarm₁.alike).2.1; omega) (by rw [Stand.throwing_heap, hT]; exact hce) hst ⟨kx', hkx'⟩ ⟨kc', hkc'⟩,
    if_pos (by rw [hwarm₁.alike.assignable]; exact hasg)]
end TX4
end
section
/-! What Throwable's statics hold: two references or null. It hangs on the tables and on one cell that nobody here writes. -/
abbrev ts_words : List Cond := [.laysStatic Bundle.tN "UNASSIGNED_STACK" Bundle.steD, .laysStatic Bundle.tN "SUPPRESSED_SENTINEL" Bundle.listD, .isRef (.static Bundle.tN "UNASSIGNED_STACK" Bundle.steD), .isRef (.static Bundle.tN "SUPPRESSED_SENTINEL" Bundle.listD)]
def ts_St (U : State) : Prop := ∀ (a : Array Value), ∀ w ∈ ts_words, w.before a U = true
theorem ts_lays {s U : State} {o n d : String} {a : Array Value} (hW : s.WarmedH U.vm) (hk : ∀ (q : Nat) (cell : Cell), s.heap[q]? = some cell → cell.vm.isStatics = true → U.heap[q]? = some cell) (h : (Cond.laysStatic o n d).before a s = true) : (Cond.laysStatic o n d).before a U = true := by
  have h1 : (Cond.laysStatic o n d).before a (s.setVm U.vm) = true := Cond.holds_shifted (State.Shifted.of_warmed hW) _ [] rfl h
  have e1 : (s.setVm U.vm).vm.findClass o = U.vm.findClass o := rfl
  have e2 : (s.setVm U.vm).fieldFound? o n d = U.fieldFound? o n d := rfl
  have e3 : (s.setVm U.vm).heap = s.heap := rfl
  simp only [Cond.before, Cond.holds, Cond.value, e1, e2, e3] at h1 ⊢
  cases hc : U.vm.findClass o with
  | none => simp [hc] at h1
  | some c =>
    cases hf : U.fieldFound? o n d with
    | none => simp [hc, hf] at h1
    | some r =>
      obtain ⟨c', k, i, f⟩ := r
      cases hst : k.statics with
      | none => simp [hc, hf, hst] at h1
      | some q =>
        cases hh : s.heap[q]? with
        | none => simp [hc, hf, hst, hh] at h1
        | some cell =>
          simp only [hc, hf, hst, hh, Option.bind_some, Option.map_some] at h1 ⊢
          have hi : cell.vm.isStatics = true := by
            cases hv : cell.vm.isStatics with
            | true => rfl
            | false => simp [hv] at h1
          rw [hk q cell hh hi]
          exact h1
theorem ts_isRef {s U : State} {o n d : String} {a : Array Value} (hW : s.WarmedH U.vm) (hk : ∀ (q : Nat) (cell : Cell), s.heap[q]? = some cell → cell.vm.isStatics = true → U.heap[q]? = some cell) (h : (Cond.isRef (.static o n d)).before a s = true) : (Cond.isRef (.static o n d)).before a U = true := by
  have h1 : (Cond.isRef (.static o n d)).before a (s.setVm U.vm) = true := Cond.holds_shifted (State.Shifted.of_warmed hW) _ [] rfl h
  have e2 : (s.setVm U.vm).fieldNamed? o n d true = U.fieldNamed? o n d true := rfl
  have e3 : (s.setVm U.vm).heap = s.heap := rfl
  have key : ∀ v, (Term.static o n d).eval a (s.setVm U.vm) none [] (s.setVm U.vm) = some v → (Term.static o n d).eval a U none [] U = some v := by
    intro v hv
    simp only [Term.eval, e2, e3] at hv ⊢
    cases hf : U.fieldNamed? o n d true with
    | none => simp [hf] at hv
    | some r =>
      obtain ⟨c', k, i⟩ := r
      cases hst : k.statics with
      | none => simp [hf, hst] at hv
      | some q =>
        cases hh : s.heap[q]? with
        | none => simp [hf, hst, hh] at hv
        | some cell =>
          cases hi : cell.vm.isStatics with
          | false => simp [hf, hst, hh, hi] at hv
          | true =>
            simp only [hf, hst, hh, hi, hk q cell hh hi, Option.bind_eq_bind, Option.bind_some] at hv ⊢
            exact hv
  simp only [Cond.before, Cond.holds, Cond.value] at h1 ⊢
  cases hv : (Term.static o n d).eval a (s.setVm U.vm) none [] (s.setVm U.vm) with
  | none => simp [hv] at h1
  | some v =>
    rw [key v hv]
    simpa [hv] using h1
theorem ts_keep {s U : State} (hW : s.WarmedH U.vm) (hk : ∀ (q : Nat) (cell : Cell), s.heap[q]? = some cell → cell.vm.isStatics = true → U.heap[q]? = some cell) (h : ts_St s) : ts_St U := by
  intro a w hw
  have hs := h a w hw
  simp only [ts_words, List.mem_cons, List.not_mem_nil, or_false] at hw
  rcases hw with rfl | rfl | rfl | rfl
  · exact ts_lays hW hk hs
  · exact ts_lays hW hk hs
  · exact ts_isRef hW hk hs
  · exact ts_isRef hW hk hs
/-- a world holds no cell of statics; so what a method changes of it leaves the statics as they are -/
theorem ts_va {D : va_G} {cl : List vw_C} {ws : va_W} {H0 H : Heap} {locs : List Loc} (hP : va_P D cl ws H0) (hS : va_S (va_A ws H0.size) H0 H locs) : ∀ (q : Nat) (cell : Cell), H0[q]? = some cell → cell.vm.isStatics = true → H[q]? = some cell := by
  intro q cell hq hi
  have hlt : q < H0.size := (Array.getElem?_eq_some_iff.mp hq).1
  rw [hS.2.1 q hlt, hq]
  rintro (⟨k, E, hk⟩ | h)
  · have h1 := hP k _ hk
    cases E with
    | inl x =>
      have h2 : H0[q]? = some (vp_cell x.1 x.2) := h1
      rw [hq] at h2
      cases h2
      obtain ⟨cA, n, f | f | f | f | f⟩ := x <;> cases hi
    | inr x =>
      obtain ⟨r, h2, cell', q1, q2, q3, q4⟩ := h1
      rw [hq] at q1
      cases q1
      rw [q3] at hi
      cases hi
  · omega
end
section
/-! Calls of constructors; a call with its frame; the second of two handlers. -/
def tq_Q (Post : Outcome → State → Prop) (A : Nat → Prop) : Array Value → State → Outcome → State → Prop := fun _ st o t => Post o t ∧ va_F A st t
/-- a method's start: its arguments, its world, what Throwable's statics hold -/
def tq_P (D : va_G) (cl : List vw_C) (av : List Value) (sz : Nat) (w : va_W) (tys : List (ClassId × FieldType)) : Array Value → State → Prop := va_Pc av (fun U => U.heap.size = sz ∧ va_P D cl w U.heap ∧ va_K D cl tys U ∧ va_D (fun _ => True) w ∧ ts_St U)
theorem tq_blind {D : va_G} {cl : List vw_C} {av : List Value} {sz : Nat} {w : va_W} {tys : List (ClassId × FieldType)} : FrameBlind (tq_P D cl av sz w tys) := by
  intro a U g mk q
  obtain ⟨q0, q1, qP, qK, qD, qS⟩ := q
  exact ⟨q0, q1, qP, va_K.moved (u := U) (U := U.calling g mk a) (Vm.Alike.refl U.vm) qK, qD, ts_keep (s := U) (U := U.calling g mk a) (State.WarmedH.refl U) (fun _ _ h _ => h) qS⟩
theorem tx_isM {y : MethodName} {rm : Room} {cc : ByteArray} {maxL : Nat} {ret : Option FieldType} {ws : List Cond} (hw : Cond.code y cc maxL ret ∈ ws) :
    ∀ args (s : State) m, (headSpec ws rm).pre.before args s = true → s.methodNamed? y = some m → ∃ meth c, s.vm.method? m = some meth ∧ meth.code = some c ∧ c.code = cc ∧ c.maxLocals = maxL ∧ meth.sig.returnType = ret ∧ meth.locks = false := by
  intro args s m h hn
  obtain ⟨meth, c, h1, h2, h3, h4, h5, h6, -, -⟩ := Cond.code_spec hn (atoms_spec (ws := ws) h _ hw)
  exact ⟨meth, c, h1, h2, h3, h4, h5, h6⟩
theorem tx_isWM {y : MethodName} {rm : Room} {cc : ByteArray} {maxL : Nat} {ret : Option FieldType} {hs : List (Nat × Nat × Nat × Nat)} {ws : List Cond} (hw : Cond.codeWith y cc maxL ret hs ∈ ws) :
    ∀ args (s : State) m, (headSpec ws rm).pre.before args s = true → s.methodNamed? y = some m → ∃ meth c, s.vm.method? m = some meth ∧ meth.code = some c ∧ c.code = cc ∧ c.maxLocals = maxL ∧ meth.sig.returnType = ret ∧ meth.locks = false := by
  intro args s m h hn
  obtain ⟨m', meth, c, h0, h1, h2, h3, h4, h5, h6, h7, -⟩ := Cond.codeWith_spec (atoms_spec (ws := ws) h _ hw)
  cases hn.symm.trans h0
  exact ⟨meth, c, h1, h2, h3, h4, h6, h7⟩
section TX5
variable {p : Program} {l : Launch} {e : Env} {R : Room} {s : State} {m : MethodId} {args : Array Value} {below : List Frame} {meth : Method} {c : Code} {H : Heap} {locs : List Loc} {cells slots : Nat}
variable {y : MethodName} {cc bytes : ByteArray} {maxL nL mc ms n index : Nat} {ws Ts : List Cond} {rm : Room} {Pc : Array Value → State → Prop} {Qc : Array Value → State → Outcome → State → Prop} {free : Addr → Prop} {own C host : String} {b : Addr} {As rest : List Value} {g : JFrame}
theorem tx_cb (hts : ∀ w ∈ tw_tbl, w.before args s = true) (hrc : rm.cells = mc) (hrs : rm.slots = ms) (hR : rm.frames + 1 ≤ R.frames ∧ 8 + (maxL + 11) + rm.locals ≤ R.locals) (hc : tx_code y maxL s) (hi : (Cond.initialized y.cls).before args s = true)
    (hd : y.cls ≠ "java/lang/invoke/MethodHandle" ∧ y.cls ≠ "java/lang/invoke/VarHandle" ∧ (parseMethodDescriptor y.desc).map (fun d => d.parameters.length) = some n) (hk : (Cond.methodLink own index y).before args s = true) : tx_CB R s args own index y maxL tw_tbl rm mc ms n := by
  refine ⟨hrc, hrs, hR.1, hR.2, tw_ws hts, hc, hi, ⟨hd.1, hd.2.1⟩, fun sig h => ?_, hk⟩
  have h2 := hd.2.2
  rw [h] at h2
  exact (Option.some.inj h2).symm
theorem tx_runI (S : CallFix p m c cc nL s args Ts own) (hM : tx_Met l y ws rm Pc Qc mc ms free) (cw : tx_CB R s args own index y maxL ws rm mc ms n) (hcode : (Cond.code y bytes maxL none).before args s = true) (hy1 : y.name = "<init>") (hin : (Cond.instanceMethod y).before args s = true) (hp : PreS s H Pc (.ref b :: As))
    (hg : g.method = m) (hn : As.length = n) (hsize : g.locals.size = nL) (hstack : g.stack = As.reverse ++ .ref b :: rest) (hW : 2 * g.monitorRoom + (rest.map fun v => v.category).sum ≤ 8) (hdg : decode cc g.pc = .ok (.invokespecial index, 3)) (hf : cells + mc ≤ R.cells ∧ slots + ms ≤ R.slots) :
    tx_Run p l e R s m args below meth c H locs cells slots mc ms g rest (Qc (Value.ref b :: As).toArray) free := by
  obtain ⟨hrc, hrs, hfr, hlo, hws, -, hini, hy, hlen, hl⟩ := cw
  obtain ⟨hx, hb, hml, ho, -⟩ := S
  intro T hT X
  subst hg
  have hpl : e.platform.magicAccessors = ({} : Platform).magicAccessors := by rw [X.admits.platform]
  obtain ⟨mk, methM, cM, kP, vm₁, hnamed, hmethM, hcodeM, -, hlocalsM, -, hkP, -, hW₁, hstep₁⟩ := Steps.initColdArgs (e := e) X.here hx X.warmed hpl ho hy1 hy hl hin hcode (f := g) rfl (fun sig h => hn.trans (hlen sig h)) hstack (by rw [hb]; exact hdg)
  have X₁ := X.noted hW₁
  obtain ⟨o, t, T', L, X', hL, e1, e2, hq, k1, k2⟩ := tx_back X₁ hM hrc hrs hfr hlo (g := { g with stack := rest }) rfl (hsize.trans hml.symm) (by rw [hb]; exact hdg) hW (X₁.named hnamed) (by rw [X₁.warmed.alike.method?]; exact hmethM) hcodeM hlocalsM (a := (Value.ref b :: As).toArray)
    (word_at X₁.warmed (Or.inl (by first | rfl | simp [Cond.onTables, Cond.keeps, Cond.steady])) hini) (atoms_intro fun w hw => hws w hw _ _ X₁.warmed) (hp.1 _ _ _ _ (hp.2 (T.setVm vm₁) hT X₁.warmed)) hf.1 hf.2
  refine ⟨o, (T.setVm vm₁).calling { g with stack := rest } mk (Value.ref b :: As).toArray, t, T', L, hT, X', hL, e1, e2, hq, fun v he tg h => hstep₁ _ fun acts => ?_, fun x he tg h => hstep₁ _ fun acts => ?_⟩
  · rw [doInvoke_state]; exact (k1 v he).trans h
  · rw [doInvoke_state]; exact (k2 x he).trans h
abbrev tx_CN (R : Room) (s : State) (args : Array Value) (own : String) (index : Nat) (y : MethodName) (host : String) (maxL : Nat) (ws : List Cond) (rm : Room) (mc ms n : Nat) : Prop :=
  rm.cells = mc ∧ rm.slots = ms ∧ rm.frames + 1 ≤ R.frames ∧ 8 + (maxL + 11) + rm.locals ≤ R.locals ∧ (∀ w ∈ ws, ∀ (a' : Array Value) (U : State), s.WarmedH U.vm → w.before a' U = true) ∧
  (Cond.initialized y.cls).before args s = true ∧ (y.cls ≠ "java/lang/invoke/MethodHandle" ∧ y.cls ≠ "java/lang/invoke/VarHandle") ∧ (∀ sig, parseMethodDescriptor y.desc = some sig → n = sig.parameters.length) ∧ (Cond.methodLinkNest own index y host).before args s = true
theorem tx_cn (hts : ∀ w ∈ tw_tbl, w.before args s = true) (hrc : rm.cells = mc) (hrs : rm.slots = ms) (hR : rm.frames + 1 ≤ R.frames ∧ 8 + (maxL + 11) + rm.locals ≤ R.locals) (hi : (Cond.initialized y.cls).before args s = true)
    (hd : y.cls ≠ "java/lang/invoke/MethodHandle" ∧ y.cls ≠ "java/lang/invoke/VarHandle" ∧ (parseMethodDescriptor y.desc).map (fun d => d.parameters.length) = some n) (hk : (Cond.methodLinkNest own index y host).before args s = true) : tx_CN R s args own index y host maxL tw_tbl rm mc ms n := by
  refine ⟨hrc, hrs, hR.1, hR.2, tw_ws hts, hi, ⟨hd.1, hd.2.1⟩, fun sig h => ?_, hk⟩
  have h2 := hd.2.2
  rw [h] at h2
  exact (Option.some.inj h2).symm
theorem tx_runIN (S : CallFix p m c cc nL s args Ts own) (hM : tx_Met l y ws rm Pc Qc mc ms free) (cw : tx_CN R s args own index y host maxL ws rm mc ms n) (hcode : (Cond.code y bytes maxL none).before args s = true) (hy1 : y.name = "<init>") (hin : (Cond.instanceMethod y).before args s = true) (hp : PreS s H Pc (.ref b :: As))
    (hg : g.method = m) (hn : As.length = n) (hsize : g.locals.size = nL) (hstack : g.stack = As.reverse ++ .ref b :: rest) (hW : 2 * g.monitorRoom + (rest.map fun v => v.category).sum ≤ 8) (hdg : decode cc g.pc = .ok (.invokespecial index, 3)) (hf : cells + mc ≤ R.cells ∧ slots + ms ≤ R.slots) :
    tx_Run p l e R s m args below meth c H locs cells slots mc ms g rest (Qc (Value.ref b :: As).toArray) free := by
  obtain ⟨hrc, hrs, hfr, hlo, hws, hini, hy, hlen, hl⟩ := cw
  obtain ⟨hx, hb, hml, ho, -⟩ := S
  intro T hT X
  subst hg
  have hpl : e.platform.magicAccessors = ({} : Platform).magicAccessors := by rw [X.admits.platform]
  obtain ⟨mk, methM, cM, kP, vm₁, hnamed, hmethM, hcodeM, -, hlocalsM, -, hkP, -, hW₁, hstep₁⟩ := Steps.initColdArgsNest (e := e) X.here hx X.warmed hpl ho hy1 hy hl hin hcode (f := g) rfl (fun sig h => hn.trans (hlen sig h)) hstack (by rw [hb]; exact hdg)
  have X₁ := X.noted hW₁
  obtain ⟨o, t, T', L, X', hL, e1, e2, hq, k1, k2⟩ := tx_back X₁ hM hrc hrs hfr hlo (g := { g with stack := rest }) rfl (hsize.trans hml.symm) (by rw [hb]; exact hdg) hW (X₁.named hnamed) (by rw [X₁.warmed.alike.method?]; exact hmethM) hcodeM hlocalsM (a := (Value.ref b :: As).toArray)
    (word_at X₁.warmed (Or.inl (by first | rfl | simp [Cond.onTables, Cond.keeps, Cond.steady])) hini) (atoms_intro fun w hw => hws w hw _ _ X₁.warmed) (hp.1 _ _ _ _ (hp.2 (T.setVm vm₁) hT X₁.warmed)) hf.1 hf.2
  refine ⟨o, (T.setVm vm₁).calling { g with stack := rest } mk (Value.ref b :: As).toArray, t, T', L, hT, X', hL, e1, e2, hq, fun v he tg h => hstep₁ _ fun acts => ?_, fun x he tg h => hstep₁ _ fun acts => ?_⟩
  · rw [doInvoke_state]; exact (k1 v he).trans h
  · rw [doInvoke_state]; exact (k2 x he).trans h
theorem tx_callK {Q : State → Prop} {Post : Outcome → State → Prop} {A0 A1 : Nat → Prop} {H0 : Heap} {pc : Nat} {ls : Array Slot} {st0 : List Value} (hr : tx_Run p l e R s m args below meth c H locs cells slots mc ms (F0 m pc ls st0) rest (fun st o t => Post o t ∧ va_F A1 st t) free)
    (hS : va_S A0 H0 H locs) (hA : ∀ q, q < H.size → A1 q → A0 q) (hf : ∀ q, free q → A0 q)
    (kr : ∀ (v : Option Value) (t : State) (H1 : Heap) (locs1 : List Loc), t.heap = H1 → s.WarmedH t.vm → Post (.returned v) t → H.size ≤ H1.size → (∀ q : Nat, q < H.size → ¬ A1 q → H1[q]? = H[q]?) → va_S A0 H0 H1 locs1 → W p l e R s m args below meth c H1 locs1 (cells + mc) (slots + ms) Q (F0 m (pc + 3) ls (v.toList ++ rest)))
    (kt : ∀ (x : Addr) (t : State) (H1 : Heap) (locs1 : List Loc), t.heap = H1 → s.WarmedH t.vm → Post (.threw x) t → H.size ≤ H1.size → (∀ q : Nat, q < H.size → ¬ A1 q → H1[q]? = H[q]?) → va_S A0 H0 H1 locs1 → tx_Th p l e R s m args below meth c H1 locs1 (cells + mc) (slots + ms) Q (F0 m pc ls rest) x) :
    W p l e R s m args below meth c H locs cells slots Q (F0 m pc ls st0) := by
  have hS1 : ∀ (st₀ t : State) (L : List Loc), st₀.heap = H → (∀ q ∈ L, free q.base) → va_F A1 st₀ t → va_S A0 H0 t.heap (locs ++ L) := by
    intro st₀ t L h0 hL hF
    obtain ⟨hz, hk⟩ := hF
    rw [h0] at hz hk
    refine ⟨Nat.le_trans hS.1 hz, fun q h1 h2 => ?_, fun q hq => ?_⟩
    · rw [hk q (Nat.lt_of_lt_of_le h1 hS.1) (fun z => h2 (hA q (Nat.lt_of_lt_of_le h1 hS.1) z))]; exact hS.2.1 q h1 h2
    · rcases List.mem_append.mp hq with h | h
      · exact hS.2.2 q h
      · exact hf _ (hL q h)
  refine tx_call hr (fun v st₀ t L h0 hW hL hq => ?_) (fun x st₀ t L h0 hW hL hq => ?_)
  · have hF := hq.2
    have h3 := hS1 st₀ t L h0 hL hF
    obtain ⟨hz, hk⟩ := hF
    rw [h0] at hz hk
    exact kr v t t.heap (locs ++ L) rfl hW hq.1 hz hk h3
  · have hF := hq.2
    have h3 := hS1 st₀ t L h0 hL hF
    obtain ⟨hz, hk⟩ := hF
    rw [h0] at hz hk
    exact kt x t t.heap (locs ++ L) rfl hW hq.1 hz hk h3
end TX5
end
section
/-! Small rows for the walks: an int array in a world whose int arrays have one class; the receiver of a call. -/
theorem ta_dec {n : Nat} {f g : Nat → Value} (h : (List.range n).all (fun j => decide (f j = g j)) = true) : ∀ j, j < n → f j = g j := by
  intro j hj
  have := List.all_eq_true.mp h j (List.mem_range.mpr hj)
  exact of_decide_eq_true this
section TA
variable {p : Program} {l : Launch} {e : Env} {R : Room} {s : State} {m : MethodId} {args : Array Value} {below : List Frame} {meth : Method} {c : Code} {H H0 : Heap} {locs : List Loc} {cells slots : Nat} {Q : State → Prop} {D : va_G} {cl : List vw_C} {tys : List (ClassId × FieldType)} {ws : va_W} {A : Nat → Prop} {cc : ByteArray} {pc : Nat} {ls : Array Slot} {rest : List Value}
theorem ta_newI (hexec : p.tables.exec = Jvm.exec) (hb : c.code = cc) (harr : (Cond.arrayClass .int).before args s = true) (hK : va_K D cl tys s) (t0 : Nat) {cI : ClassId} (ht : tys[t0]? = some (cI, .int)) (hP : va_P D cl ws H) (hD : va_D A ws) (hS : va_S A H0 H locs) (hA : ∀ q, H0.size ≤ q → A q)
    {n : Int32} {N' : Nat} (hn : ¬ n < 0) (hN : n.toNatClampNeg = N') (hbytes : N' * componentBytes .int ≤ 536870912) (hcells : cells + 1 ≤ R.cells) (hslots : slots + N' ≤ R.slots) (hdg : decode cc pc = .ok (.newarray .int, 2))
    (kk : ∀ (q : Nat) (H1 : Heap), va_P D cl (ws ++ [(q, .inl (cI, N', .inl (fun _ => 0)))]) H1 → va_D A (ws ++ [(q, .inl (cI, N', .inl (fun _ => 0)))]) → va_S A H0 H1 locs →
      W p l e R s m args below meth c H1 locs (cells + 1) (slots + N') Q (F0 m (pc + 2) ls (.ref q :: rest))) : W p l e R s m args below meth c H locs cells slots Q (F0 m pc ls (.int n :: rest)) := by
  refine va_newa (atype := ArrayType.int) (ty := FieldType.int) (n := n) (N' := N') (a0 := (N', .inl (fun _ => 0))) hexec hb harr rfl hK hP hD hS hA (fun cA => rfl) hn hN hbytes hcells hslots hdg (fun q cA H1 hK1 hP1 hD1 hS1 => ?_)
  have h1 := (hK1.2 tys.length (cA, .int) (by simp)).2
  have h2 := (hK.2 t0 _ ht).2
  have h3 : cA = cI := by
    have e1 : s.vm.findClass ("[" ++ FieldType.int.toString) = some cA := h1
    have e2 : s.vm.findClass ("[" ++ FieldType.int.toString) = some cI := h2
    exact Option.some.inj (e1.symm.trans e2)
  subst h3
  exact kk q H1 hP1 hD1 hS1
theorem ta_recv {C : String} {T : u_T} {N ci q0 : Nat} {a : Nat} {fs : List Value} {Ts : List Cond} (hts : ∀ w ∈ Ts, w.before args s = true) (hin : ∀ w ∈ u_ws C T N, w ∈ Ts) (hK : va_K D cl tys s) (hP : va_P D cl ws H) (he : ws[q0]? = some (a, .inr (ci, fs))) (hc : cl[ci]? = some (C, T, N)) :
    ∃ cellB : Cell, H[a]? = some cellB ∧ cellB.vm.isStatics = false ∧ s.vm.findClass C = some cellB.cls := by
  obtain ⟨r, h1, cell, q1, q2, q3, q4⟩ := hP q0 _ he
  have hr : r = (C, T, N) := Option.some.inj (h1.symm.trans hc)
  subst hr
  obtain ⟨hS, hfc, kC, hkC, hkind⟩ := hK.1 ci _ hc
  exact ⟨cell, q1, by rw [q3]; rfl, by rw [q2]; exact hfc⟩
end TA
theorem ta_nilP {D : va_G} {cl : List vw_C} {H : Heap} : va_P D cl [] H := fun k q h => by simp at h
theorem ta_nilD {A : Nat → Prop} : va_D A [] := ⟨fun i j p q h => by simp at h, fun k q h => by simp at h⟩
theorem ta_thrown {A : Nat → Prop} {s t : State} {H : Heap} {locs : List Loc} (hS : va_S A s.heap H locs) (hz : t.heap.size = H.size + 1) (hk : ∀ q : Nat, q < H.size → t.heap[q]? = H[q]?) : va_F A s t :=
  ⟨by have := hS.1; omega, fun q h1 h2 => by rw [hk q (Nat.lt_of_lt_of_le h1 hS.1)]; exact hS.2.1 q h1 h2⟩
/-- an exception of the class X is at x -/
def ta_Ex (X : String) (x : Addr) (t : State) : Prop := ∃ ce : Cell, t.heap[x]? = some ce ∧ t.vm.findClass X = some ce.cls ∧ ce.vm = .none
theorem ti_inc {a b : Nat} (h : a + 1 = b) : nI a + Int32.ofInt 1 = nI b := by subst h; exact (nI_succ a).symm
theorem ti_in {a b n : Nat} (h : a + b < n) (hn : n < 2 ^ 31) : vp_in (nI a + nI b) n := by rw [nI_add]; exact vp_in_nI h hn
theorem ti_few {x : Int32} (h1 : ¬ x < 1) (h2 : ¬ 8 < x) : ∃ N : Nat, N ≤ 8 ∧ 1 ≤ N ∧ x = nI N := by
  have h1' := Int32.not_lt.mp h1
  have h2' := Int32.not_lt.mp h2
  rw [Int32.le_iff_toInt_le] at h1' h2'
  have e1 : (1 : Int32).toInt = 1 := by decide
  have e8 : (8 : Int32).toInt = 8 := by decide
  rw [e1] at h1'
  rw [e8] at h2'
  refine ⟨x.toInt.toNat, by omega, by omega, Int32.toInt_inj.mp ?_⟩
  rw [nI_toInt (by omega)]
  omega
theorem ti_place {p0 p2 : Int32} {N : Nat} (hN : N ≤ 8) (hN1 : 1 ≤ N) (he : p2 = nI N) (h1 : ¬ p0 < 0) (h2 : p0 ≤ 512 - p2) : ∃ P : Nat, P + N ≤ 512 ∧ p0 = nI P := by
  subst he
  have e5 : (512 : Int32) - nI N = nI (512 - N) := by
    rw [← pk_sub (by omega)]; rfl
  rw [e5, Int32.le_iff_toInt_le, nI_toInt (by omega)] at h2
  have h1' := Int32.not_lt.mp h1
  rw [Int32.le_iff_toInt_le, Int32.toInt_zero] at h1'
  refine ⟨p0.toInt.toNat, by omega, Int32.toInt_inj.mp ?_⟩
  rw [nI_toInt (by omega)]
  omega
end
section
/-! Small numbers. -/
theorem ti_rng {x : Int32} {M : Int32} {n : Nat} (h1 : ¬ x < 0) (h2 : x < M) (hM : M.toInt = n) : vp_in x n := by
  rw [vp_in_iff]
  have h1' := Int32.not_lt.mp h1
  rw [Int32.le_iff_toInt_le, Int32.toInt_zero] at h1'
  rw [Int32.lt_iff_toInt_lt] at h2
  omega
theorem ti_m1 {x : Int32} (h1 : ¬ x < (-1)) (h2 : ¬ 0 ≤ x) : x = (-1) := by
  have h1' := Int32.not_lt.mp h1
  have h2' := Int32.not_le.mp h2
  rw [Int32.le_iff_toInt_le] at h1'
  rw [Int32.lt_iff_toInt_lt, Int32.toInt_zero] at h2'
  have e : (-1 : Int32).toInt = -1 := by decide
  rw [e] at h1'
  exact Int32.toInt_inj.mp (by rw [e]; omega)
theorem ti_pos {x : Int32} (h1 : ¬ x < 0) (h2 : ¬ x = 0) : 0 < x := by
  have h1' := Int32.not_lt.mp h1
  rw [Int32.le_iff_toInt_le, Int32.toInt_zero] at h1'
  rw [Int32.lt_iff_toInt_lt, Int32.toInt_zero]
  rcases Int.lt_or_eq_of_le h1' with h | h
  · exact h
  · exact absurd (Int32.toInt_inj.mp (by rw [Int32.toInt_zero]; exact h.symm)) h2
theorem ti_511 {x : Int32} (h : x ≤ 511) : x < 512 := by
  rw [Int32.le_iff_toInt_le] at h
  rw [Int32.lt_iff_toInt_lt]
  have e1 : (511 : Int32).toInt = 511 := by decide
  have e2 : (512 : Int32).toInt = 512 := by decide
  omega
theorem ti_n511 {x : Int32} (h : ¬ x ≤ 511) : ¬ x < 512 := by
  rw [Int32.le_iff_toInt_le] at h
  rw [Int32.lt_iff_toInt_lt]
  have e1 : (511 : Int32).toInt = 511 := by decide
  have e2 : (512 : Int32).toInt = 512 := by decide
  omega
theorem ti_64 {x : Int32} (h : 63 < x) : 64 ≤ x := by
  rw [Int32.lt_iff_toInt_lt] at h
  rw [Int32.le_iff_toInt_le]
  have e1 : (63 : Int32).toInt = 63 := by decide
  have e2 : (64 : Int32).toInt = 64 := by decide
  omega
theorem ti_n64 {x : Int32} (h : ¬ 63 < x) : ¬ 64 ≤ x := by
  rw [Int32.lt_iff_toInt_lt] at h
  rw [Int32.le_iff_toInt_le]
  have e1 : (63 : Int32).toInt = 63 := by decide
  have e2 : (64 : Int32).toInt = 64 := by decide
  omega
end
section
/-! The reference's object behind a call: its field 'thrown' holds k. -/
def tm_Mo (D : va_G) (cl : List vw_C) (h0 : Nat) (k : Int32) (A : Nat → Prop) (t : State) : Prop := ∃ fs : List Value, fs[0]? = some (.int k) ∧ va_P D cl [(h0, .inr (11, fs))] t.heap ∧ va_D A [(h0, .inr (11, fs))]
end
section
/-! Names, field tables, words by their places; written by wip/tools/gen.py. -/
theorem mw_1 : (Cond.initialized "StoryMachine") ∈ tw_tbl := tw_mem (List.mem_append_right _ (List.mem_of_getElem? (i := 1) (by decide +kernel))) rfl
theorem mw_2 : (Cond.initialized "StoryMachine$Memory") ∈ tw_tbl := tw_mem (List.mem_append_right _ (List.mem_of_getElem? (i := 2) (by decide +kernel))) rfl
theorem mw_3 : (Cond.initialized "StoryMachine$Line") ∈ tw_tbl := tw_mem (List.mem_append_right _ (List.mem_of_getElem? (i := 3) (by decide +kernel))) rfl
theorem mw_4 : (Cond.initialized "StoryMachine$Routines") ∈ tw_tbl := tw_mem (List.mem_append_right _ (List.mem_of_getElem? (i := 4) (by decide +kernel))) rfl
theorem mw_5 : (Cond.initialized "StoryMachine$Printer") ∈ tw_tbl := tw_mem (List.mem_append_right _ (List.mem_of_getElem? (i := 5) (by decide +kernel))) rfl
theorem mw_6 : (Cond.initialized "StoryMachine$Engine") ∈ tw_tbl := tw_mem (List.mem_append_right _ (List.mem_of_getElem? (i := 6) (by decide +kernel))) rfl
theorem mw_7 : (Cond.initialized "StoryMachine$Aside") ∈ tw_tbl := tw_mem (List.mem_append_right _ (List.mem_of_getElem? (i := 7) (by decide +kernel))) rfl
theorem mw_8 : (Cond.initialized "StoryMachine$Variables") ∈ tw_tbl := tw_mem (List.mem_append_right _ (List.mem_of_getElem? (i := 8) (by decide +kernel))) rfl
theorem mw_9 : (Cond.initialized "StoryMachine$Tree") ∈ tw_tbl := tw_mem (List.mem_append_right _ (List.mem_of_getElem? (i := 9) (by decide +kernel))) rfl
theorem mw_10 : (Cond.initialized "StoryMachine$Dictionary") ∈ tw_tbl := tw_mem (List.mem_append_right _ (List.mem_of_getElem? (i := 10) (by decide +kernel))) rfl
theorem mw_11 : (Cond.initialized "StoryMachine$Instruction") ∈ tw_tbl := tw_mem (List.mem_append_right _ (List.mem_of_getElem? (i := 11) (by decide +kernel))) rfl
theorem mw_12 : (Cond.initialized "StoryMachineModel") ∈ tw_tbl := tw_mem (List.mem_append_right _ (List.mem_of_getElem? (i := 12) (by decide +kernel))) rfl
theorem mw_13 : (Cond.initialized "java/lang/Throwable") ∈ tw_tbl := tw_mem (List.mem_append_right _ (List.mem_of_getElem? (i := 13) (by decide +kernel))) rfl
theorem mw_16 : (Cond.initialized "java/lang/IllegalArgumentException") ∈ tw_tbl := tw_mem (List.mem_append_right _ (List.mem_of_getElem? (i := 16) (by decide +kernel))) rfl
theorem mw_17 : (Cond.initialized "java/lang/IllegalStateException") ∈ tw_tbl := tw_mem (List.mem_append_right _ (List.mem_of_getElem? (i := 17) (by decide +kernel))) rfl
theorem mw_27 : (Cond.initialized "java/lang/IndexOutOfBoundsException") ∈ tw_tbl := tw_mem (List.mem_append_right _ (List.mem_of_getElem? (i := 27) (by decide +kernel))) rfl
theorem mw_32 : (Cond.code (⟨"StoryMachine", "<init>", "()V"⟩) prog_1_method_1_code 5 none) ∈ tw_tbl := tw_mem (List.mem_append_right _ (List.mem_of_getElem? (i := 32) (by decide +kernel))) rfl
theorem mw_33 : (Cond.methodLink "StoryMachine" 1 (⟨"java/lang/Object", "<init>", "()V"⟩)) ∈ tw_tbl := tw_mem (List.mem_append_right _ (List.mem_of_getElem? (i := 33) (by decide +kernel))) rfl
theorem mw_34 : (Cond.instanceMethod (⟨"java/lang/Object", "<init>", "()V"⟩)) ∈ tw_tbl := tw_mem (List.mem_append_right _ (List.mem_of_getElem? (i := 34) (by decide +kernel))) rfl
theorem mw_35 : (Cond.code (⟨"java/lang/Object", "<init>", "()V"⟩) object_method_1_code 1 none) ∈ tw_tbl := tw_mem (List.mem_append_right _ (List.mem_of_getElem? (i := 35) (by decide +kernel))) rfl
theorem mw_36 : (Cond.classLink "StoryMachine" 7 "StoryMachine$Memory") ∈ tw_tbl := tw_mem (List.mem_append_right _ (List.mem_of_getElem? (i := 36) (by decide +kernel))) rfl
theorem mw_37 : (Cond.instantiable "StoryMachine$Memory" 1) ∈ tw_tbl := tw_mem (List.mem_append_right _ (List.mem_of_getElem? (i := 37) (by decide +kernel))) rfl
theorem mw_38 : (Cond.methodLinkNest "StoryMachine" 9 (⟨"StoryMachine$Memory", "<init>", "()V"⟩) "StoryMachine") ∈ tw_tbl := tw_mem (List.mem_append_right _ (List.mem_of_getElem? (i := 38) (by decide +kernel))) rfl
theorem mw_39 : (Cond.instanceMethod (⟨"StoryMachine$Memory", "<init>", "()V"⟩)) ∈ tw_tbl := tw_mem (List.mem_append_right _ (List.mem_of_getElem? (i := 39) (by decide +kernel))) rfl
theorem mw_40 : (Cond.code (⟨"StoryMachine$Memory", "<init>", "()V"⟩) prog_7_method_1_code 1 none) ∈ tw_tbl := tw_mem (List.mem_append_right _ (List.mem_of_getElem? (i := 40) (by decide +kernel))) rfl
theorem mw_41 : (Cond.methodLink "StoryMachine$Memory" 1 (⟨"java/lang/Object", "<init>", "()V"⟩)) ∈ tw_tbl := tw_mem (List.mem_append_right _ (List.mem_of_getElem? (i := 41) (by decide +kernel))) rfl
theorem mw_42 : (Cond.fieldLink "StoryMachine$Memory" 9 "StoryMachine$Memory" "bytes" "[I") ∈ tw_tbl := tw_mem (List.mem_append_right _ (List.mem_of_getElem? (i := 42) (by decide +kernel))) rfl
theorem mw_43 : (Cond.fieldLink "StoryMachine" 51 "StoryMachine$Memory" "bytes" "[I") ∈ tw_tbl := tw_mem (List.mem_append_right _ (List.mem_of_getElem? (i := 43) (by decide +kernel))) rfl
theorem mw_44 : (Cond.laysFinal "StoryMachine$Memory" "StoryMachine$Memory" "bytes" "[I") ∈ tw_tbl := tw_mem (List.mem_append_right _ (List.mem_of_getElem? (i := 44) (by decide +kernel))) rfl
theorem mw_47 : (Cond.arrayClass .int) ∈ tw_tbl := tw_mem (List.mem_append_right _ (List.mem_of_getElem? (i := 47) (by decide +kernel))) rfl
theorem mw_48 : (Cond.classLink "StoryMachine" 10 "StoryMachine$Line") ∈ tw_tbl := tw_mem (List.mem_append_right _ (List.mem_of_getElem? (i := 48) (by decide +kernel))) rfl
theorem mw_49 : (Cond.instantiable "StoryMachine$Line" 5) ∈ tw_tbl := tw_mem (List.mem_append_right _ (List.mem_of_getElem? (i := 49) (by decide +kernel))) rfl
theorem mw_50 : (Cond.methodLinkNest "StoryMachine" 12 (⟨"StoryMachine$Line", "<init>", "()V"⟩) "StoryMachine") ∈ tw_tbl := tw_mem (List.mem_append_right _ (List.mem_of_getElem? (i := 50) (by decide +kernel))) rfl
theorem mw_51 : (Cond.instanceMethod (⟨"StoryMachine$Line", "<init>", "()V"⟩)) ∈ tw_tbl := tw_mem (List.mem_append_right _ (List.mem_of_getElem? (i := 51) (by decide +kernel))) rfl
theorem mw_52 : (Cond.code (⟨"StoryMachine$Line", "<init>", "()V"⟩) prog_6_method_1_code 1 none) ∈ tw_tbl := tw_mem (List.mem_append_right _ (List.mem_of_getElem? (i := 52) (by decide +kernel))) rfl
theorem mw_53 : (Cond.methodLink "StoryMachine$Line" 1 (⟨"java/lang/Object", "<init>", "()V"⟩)) ∈ tw_tbl := tw_mem (List.mem_append_right _ (List.mem_of_getElem? (i := 53) (by decide +kernel))) rfl
theorem mw_54 : (Cond.fieldLink "StoryMachine$Line" 9 "StoryMachine$Line" "typed" "[I") ∈ tw_tbl := tw_mem (List.mem_append_right _ (List.mem_of_getElem? (i := 54) (by decide +kernel))) rfl
theorem mw_55 : (Cond.fieldLink "StoryMachine$Line" 16 "StoryMachine$Line" "typedLength" "I") ∈ tw_tbl := tw_mem (List.mem_append_right _ (List.mem_of_getElem? (i := 55) (by decide +kernel))) rfl
theorem mw_57 : (Cond.fieldLink "StoryMachine$Line" 13 "StoryMachine$Line" "entered" "[I") ∈ tw_tbl := tw_mem (List.mem_append_right _ (List.mem_of_getElem? (i := 57) (by decide +kernel))) rfl
theorem mw_59 : (Cond.fieldLink "StoryMachine$Line" 24 "StoryMachine$Line" "enteredLength" "I") ∈ tw_tbl := tw_mem (List.mem_append_right _ (List.mem_of_getElem? (i := 59) (by decide +kernel))) rfl
theorem mw_61 : (Cond.fieldLink "StoryMachine$Line" 20 "StoryMachine$Line" "isEntered" "Z") ∈ tw_tbl := tw_mem (List.mem_append_right _ (List.mem_of_getElem? (i := 61) (by decide +kernel))) rfl
theorem mw_63 : (Cond.laysFinal "StoryMachine$Line" "StoryMachine$Line" "typed" "[I") ∈ tw_tbl := tw_mem (List.mem_append_right _ (List.mem_of_getElem? (i := 63) (by decide +kernel))) rfl
theorem mw_65 : (Cond.lays "StoryMachine$Line" "StoryMachine$Line" "typedLength" "I") ∈ tw_tbl := tw_mem (List.mem_append_right _ (List.mem_of_getElem? (i := 65) (by decide +kernel))) rfl
theorem mw_67 : (Cond.laysFinal "StoryMachine$Line" "StoryMachine$Line" "entered" "[I") ∈ tw_tbl := tw_mem (List.mem_append_right _ (List.mem_of_getElem? (i := 67) (by decide +kernel))) rfl
theorem mw_69 : (Cond.lays "StoryMachine$Line" "StoryMachine$Line" "enteredLength" "I") ∈ tw_tbl := tw_mem (List.mem_append_right _ (List.mem_of_getElem? (i := 69) (by decide +kernel))) rfl
theorem mw_71 : (Cond.lays "StoryMachine$Line" "StoryMachine$Line" "isEntered" "Z") ∈ tw_tbl := tw_mem (List.mem_append_right _ (List.mem_of_getElem? (i := 71) (by decide +kernel))) rfl
theorem mw_74 : (Cond.classLink "StoryMachine" 13 "StoryMachine$Routines") ∈ tw_tbl := tw_mem (List.mem_append_right _ (List.mem_of_getElem? (i := 74) (by decide +kernel))) rfl
theorem mw_75 : (Cond.instantiable "StoryMachine$Routines" 8) ∈ tw_tbl := tw_mem (List.mem_append_right _ (List.mem_of_getElem? (i := 75) (by decide +kernel))) rfl
theorem mw_76 : (Cond.methodLinkNest "StoryMachine" 15 (⟨"StoryMachine$Routines", "<init>", "()V"⟩) "StoryMachine") ∈ tw_tbl := tw_mem (List.mem_append_right _ (List.mem_of_getElem? (i := 76) (by decide +kernel))) rfl
theorem mw_77 : (Cond.instanceMethod (⟨"StoryMachine$Routines", "<init>", "()V"⟩)) ∈ tw_tbl := tw_mem (List.mem_append_right _ (List.mem_of_getElem? (i := 77) (by decide +kernel))) rfl
theorem mw_78 : (Cond.code (⟨"StoryMachine$Routines", "<init>", "()V"⟩) prog_9_method_1_code 1 none) ∈ tw_tbl := tw_mem (List.mem_append_right _ (List.mem_of_getElem? (i := 78) (by decide +kernel))) rfl
theorem mw_79 : (Cond.methodLink "StoryMachine$Routines" 1 (⟨"java/lang/Object", "<init>", "()V"⟩)) ∈ tw_tbl := tw_mem (List.mem_append_right _ (List.mem_of_getElem? (i := 79) (by decide +kernel))) rfl
theorem mw_80 : (Cond.fieldLink "StoryMachine$Routines" 9 "StoryMachine$Routines" "words" "[I") ∈ tw_tbl := tw_mem (List.mem_append_right _ (List.mem_of_getElem? (i := 80) (by decide +kernel))) rfl
theorem mw_82 : (Cond.fieldLink "StoryMachine$Routines" 28 "StoryMachine$Routines" "height" "I") ∈ tw_tbl := tw_mem (List.mem_append_right _ (List.mem_of_getElem? (i := 82) (by decide +kernel))) rfl
theorem mw_83 : (Cond.fieldLink "StoryMachine" 103 "StoryMachine$Routines" "height" "I") ∈ tw_tbl := tw_mem (List.mem_append_right _ (List.mem_of_getElem? (i := 83) (by decide +kernel))) rfl
theorem mw_84 : (Cond.fieldLink "StoryMachine$Routines" 32 "StoryMachine$Routines" "depth" "I") ∈ tw_tbl := tw_mem (List.mem_append_right _ (List.mem_of_getElem? (i := 84) (by decide +kernel))) rfl
theorem mw_85 : (Cond.fieldLink "StoryMachine" 115 "StoryMachine$Routines" "depth" "I") ∈ tw_tbl := tw_mem (List.mem_append_right _ (List.mem_of_getElem? (i := 85) (by decide +kernel))) rfl
theorem mw_86 : (Cond.fieldLink "StoryMachine$Routines" 13 "StoryMachine$Routines" "floors" "[I") ∈ tw_tbl := tw_mem (List.mem_append_right _ (List.mem_of_getElem? (i := 86) (by decide +kernel))) rfl
theorem mw_87 : (Cond.fieldLink "StoryMachine$Routines" 16 "StoryMachine$Routines" "behinds" "[I") ∈ tw_tbl := tw_mem (List.mem_append_right _ (List.mem_of_getElem? (i := 87) (by decide +kernel))) rfl
theorem mw_88 : (Cond.fieldLink "StoryMachine$Routines" 19 "StoryMachine$Routines" "results" "[I") ∈ tw_tbl := tw_mem (List.mem_append_right _ (List.mem_of_getElem? (i := 88) (by decide +kernel))) rfl
theorem mw_89 : (Cond.fieldLink "StoryMachine$Routines" 22 "StoryMachine$Routines" "localCounts" "[I") ∈ tw_tbl := tw_mem (List.mem_append_right _ (List.mem_of_getElem? (i := 89) (by decide +kernel))) rfl
theorem mw_90 : (Cond.fieldLink "StoryMachine$Routines" 25 "StoryMachine$Routines" "locals" "[I") ∈ tw_tbl := tw_mem (List.mem_append_right _ (List.mem_of_getElem? (i := 90) (by decide +kernel))) rfl
theorem mw_91 : (Cond.laysFinal "StoryMachine$Routines" "StoryMachine$Routines" "words" "[I") ∈ tw_tbl := tw_mem (List.mem_append_right _ (List.mem_of_getElem? (i := 91) (by decide +kernel))) rfl
theorem mw_93 : (Cond.lays "StoryMachine$Routines" "StoryMachine$Routines" "height" "I") ∈ tw_tbl := tw_mem (List.mem_append_right _ (List.mem_of_getElem? (i := 93) (by decide +kernel))) rfl
theorem mw_95 : (Cond.lays "StoryMachine$Routines" "StoryMachine$Routines" "depth" "I") ∈ tw_tbl := tw_mem (List.mem_append_right _ (List.mem_of_getElem? (i := 95) (by decide +kernel))) rfl
theorem mw_97 : (Cond.laysFinal "StoryMachine$Routines" "StoryMachine$Routines" "floors" "[I") ∈ tw_tbl := tw_mem (List.mem_append_right _ (List.mem_of_getElem? (i := 97) (by decide +kernel))) rfl
theorem mw_99 : (Cond.laysFinal "StoryMachine$Routines" "StoryMachine$Routines" "behinds" "[I") ∈ tw_tbl := tw_mem (List.mem_append_right _ (List.mem_of_getElem? (i := 99) (by decide +kernel))) rfl
theorem mw_101 : (Cond.laysFinal "StoryMachine$Routines" "StoryMachine$Routines" "results" "[I") ∈ tw_tbl := tw_mem (List.mem_append_right _ (List.mem_of_getElem? (i := 101) (by decide +kernel))) rfl
theorem mw_103 : (Cond.laysFinal "StoryMachine$Routines" "StoryMachine$Routines" "localCounts" "[I") ∈ tw_tbl := tw_mem (List.mem_append_right _ (List.mem_of_getElem? (i := 103) (by decide +kernel))) rfl
theorem mw_105 : (Cond.laysFinal "StoryMachine$Routines" "StoryMachine$Routines" "locals" "[I") ∈ tw_tbl := tw_mem (List.mem_append_right _ (List.mem_of_getElem? (i := 105) (by decide +kernel))) rfl
theorem mw_108 : (Cond.classLink "StoryMachine" 16 "StoryMachine$Printer") ∈ tw_tbl := tw_mem (List.mem_append_right _ (List.mem_of_getElem? (i := 108) (by decide +kernel))) rfl
theorem mw_109 : (Cond.instantiable "StoryMachine$Printer" 5) ∈ tw_tbl := tw_mem (List.mem_append_right _ (List.mem_of_getElem? (i := 109) (by decide +kernel))) rfl
theorem mw_110 : (Cond.methodLink "StoryMachine" 18 (⟨"StoryMachine$Printer", "<init>", "(LStoryMachine$Memory;)V"⟩)) ∈ tw_tbl := tw_mem (List.mem_append_right _ (List.mem_of_getElem? (i := 110) (by decide +kernel))) rfl
theorem mw_111 : (Cond.instanceMethod (⟨"StoryMachine$Printer", "<init>", "(LStoryMachine$Memory;)V"⟩)) ∈ tw_tbl := tw_mem (List.mem_append_right _ (List.mem_of_getElem? (i := 111) (by decide +kernel))) rfl
theorem mw_112 : (Cond.code (⟨"StoryMachine$Printer", "<init>", "(LStoryMachine$Memory;)V"⟩) prog_8_method_1_code 2 none) ∈ tw_tbl := tw_mem (List.mem_append_right _ (List.mem_of_getElem? (i := 112) (by decide +kernel))) rfl
theorem mw_113 : (Cond.methodLink "StoryMachine$Printer" 1 (⟨"java/lang/Object", "<init>", "()V"⟩)) ∈ tw_tbl := tw_mem (List.mem_append_right _ (List.mem_of_getElem? (i := 113) (by decide +kernel))) rfl
theorem mw_114 : (Cond.fieldLink "StoryMachine$Printer" 13 "StoryMachine$Printer" "memory" "LStoryMachine$Memory;") ∈ tw_tbl := tw_mem (List.mem_append_right _ (List.mem_of_getElem? (i := 114) (by decide +kernel))) rfl
theorem mw_115 : (Cond.fieldLink "StoryMachine$Printer" 9 "StoryMachine$Printer" "kept" "[I") ∈ tw_tbl := tw_mem (List.mem_append_right _ (List.mem_of_getElem? (i := 115) (by decide +kernel))) rfl
theorem mw_117 : (Cond.fieldLink "StoryMachine$Engine" 86 "StoryMachine$Printer" "count" "I") ∈ tw_tbl := tw_mem (List.mem_append_right _ (List.mem_of_getElem? (i := 117) (by decide +kernel))) rfl
theorem mw_118 : (Cond.fieldLink "StoryMachine" 94 "StoryMachine$Printer" "count" "I") ∈ tw_tbl := tw_mem (List.mem_append_right _ (List.mem_of_getElem? (i := 118) (by decide +kernel))) rfl
theorem mw_121 : (Cond.laysFinal "StoryMachine$Printer" "StoryMachine$Printer" "memory" "LStoryMachine$Memory;") ∈ tw_tbl := tw_mem (List.mem_append_right _ (List.mem_of_getElem? (i := 121) (by decide +kernel))) rfl
theorem mw_123 : (Cond.laysFinal "StoryMachine$Printer" "StoryMachine$Printer" "kept" "[I") ∈ tw_tbl := tw_mem (List.mem_append_right _ (List.mem_of_getElem? (i := 123) (by decide +kernel))) rfl
theorem mw_125 : (Cond.lays "StoryMachine$Printer" "StoryMachine$Printer" "count" "I") ∈ tw_tbl := tw_mem (List.mem_append_right _ (List.mem_of_getElem? (i := 125) (by decide +kernel))) rfl
theorem mw_127 : (Cond.lays "StoryMachine$Printer" "StoryMachine$Printer" "mode" "I") ∈ tw_tbl := tw_mem (List.mem_append_right _ (List.mem_of_getElem? (i := 127) (by decide +kernel))) rfl
theorem mw_129 : (Cond.lays "StoryMachine$Printer" "StoryMachine$Printer" "half" "I") ∈ tw_tbl := tw_mem (List.mem_append_right _ (List.mem_of_getElem? (i := 129) (by decide +kernel))) rfl
theorem mw_132 : (Cond.classLink "StoryMachine" 39 "StoryMachine$Engine") ∈ tw_tbl := tw_mem (List.mem_append_right _ (List.mem_of_getElem? (i := 132) (by decide +kernel))) rfl
theorem mw_133 : (Cond.instantiable "StoryMachine$Engine" 15) ∈ tw_tbl := tw_mem (List.mem_append_right _ (List.mem_of_getElem? (i := 133) (by decide +kernel))) rfl
theorem mw_134 : (Cond.methodLink "StoryMachine" 41 (⟨"StoryMachine$Engine", "<init>", "(LStoryMachine$Memory;LStoryMachine$Line;LStoryMachine$Routines;LStoryMachine$Printer;)V"⟩)) ∈ tw_tbl := tw_mem (List.mem_append_right _ (List.mem_of_getElem? (i := 134) (by decide +kernel))) rfl
theorem mw_135 : (Cond.instanceMethod (⟨"StoryMachine$Engine", "<init>", "(LStoryMachine$Memory;LStoryMachine$Line;LStoryMachine$Routines;LStoryMachine$Printer;)V"⟩)) ∈ tw_tbl := tw_mem (List.mem_append_right _ (List.mem_of_getElem? (i := 135) (by decide +kernel))) rfl
theorem mw_136 : (Cond.code (⟨"StoryMachine$Engine", "<init>", "(LStoryMachine$Memory;LStoryMachine$Line;LStoryMachine$Routines;LStoryMachine$Printer;)V"⟩) prog_4_method_1_code 6 none) ∈ tw_tbl := tw_mem (List.mem_append_right _ (List.mem_of_getElem? (i := 136) (by decide +kernel))) rfl
theorem mw_137 : (Cond.methodLink "StoryMachine$Engine" 1 (⟨"java/lang/Object", "<init>", "()V"⟩)) ∈ tw_tbl := tw_mem (List.mem_append_right _ (List.mem_of_getElem? (i := 137) (by decide +kernel))) rfl
theorem mw_138 : (Cond.classLink "StoryMachine$Engine" 7 "StoryMachine$Aside") ∈ tw_tbl := tw_mem (List.mem_append_right _ (List.mem_of_getElem? (i := 138) (by decide +kernel))) rfl
theorem mw_139 : (Cond.instantiable "StoryMachine$Aside" 4) ∈ tw_tbl := tw_mem (List.mem_append_right _ (List.mem_of_getElem? (i := 139) (by decide +kernel))) rfl
theorem mw_140 : (Cond.methodLinkNest "StoryMachine$Engine" 9 (⟨"StoryMachine$Aside", "<init>", "()V"⟩) "StoryMachine") ∈ tw_tbl := tw_mem (List.mem_append_right _ (List.mem_of_getElem? (i := 140) (by decide +kernel))) rfl
theorem mw_141 : (Cond.instanceMethod (⟨"StoryMachine$Aside", "<init>", "()V"⟩)) ∈ tw_tbl := tw_mem (List.mem_append_right _ (List.mem_of_getElem? (i := 141) (by decide +kernel))) rfl
theorem mw_142 : (Cond.code (⟨"StoryMachine$Aside", "<init>", "()V"⟩) prog_2_method_1_code 1 none) ∈ tw_tbl := tw_mem (List.mem_append_right _ (List.mem_of_getElem? (i := 142) (by decide +kernel))) rfl
theorem mw_143 : (Cond.methodLink "StoryMachine$Aside" 1 (⟨"java/lang/Object", "<init>", "()V"⟩)) ∈ tw_tbl := tw_mem (List.mem_append_right _ (List.mem_of_getElem? (i := 143) (by decide +kernel))) rfl
theorem mw_144 : (Cond.classLink "StoryMachine$Aside" 7 "StoryMachine$Memory") ∈ tw_tbl := tw_mem (List.mem_append_right _ (List.mem_of_getElem? (i := 144) (by decide +kernel))) rfl
theorem mw_145 : (Cond.methodLinkNest "StoryMachine$Aside" 9 (⟨"StoryMachine$Memory", "<init>", "()V"⟩) "StoryMachine") ∈ tw_tbl := tw_mem (List.mem_append_right _ (List.mem_of_getElem? (i := 145) (by decide +kernel))) rfl
theorem mw_146 : (Cond.classLink "StoryMachine$Aside" 16 "StoryMachine$Routines") ∈ tw_tbl := tw_mem (List.mem_append_right _ (List.mem_of_getElem? (i := 146) (by decide +kernel))) rfl
theorem mw_147 : (Cond.methodLinkNest "StoryMachine$Aside" 18 (⟨"StoryMachine$Routines", "<init>", "()V"⟩) "StoryMachine") ∈ tw_tbl := tw_mem (List.mem_append_right _ (List.mem_of_getElem? (i := 147) (by decide +kernel))) rfl
theorem mw_149 : (Cond.fieldLink "StoryMachine$Engine" 91 "StoryMachine$Aside" "isThere" "Z") ∈ tw_tbl := tw_mem (List.mem_append_right _ (List.mem_of_getElem? (i := 149) (by decide +kernel))) rfl
theorem mw_150 : (Cond.fieldLink "StoryMachine$Aside" 10 "StoryMachine$Aside" "memory" "LStoryMachine$Memory;") ∈ tw_tbl := tw_mem (List.mem_append_right _ (List.mem_of_getElem? (i := 150) (by decide +kernel))) rfl
theorem mw_151 : (Cond.fieldLink "StoryMachine$Aside" 19 "StoryMachine$Aside" "routines" "LStoryMachine$Routines;") ∈ tw_tbl := tw_mem (List.mem_append_right _ (List.mem_of_getElem? (i := 151) (by decide +kernel))) rfl
theorem mw_153 : (Cond.lays "StoryMachine$Aside" "StoryMachine$Aside" "isThere" "Z") ∈ tw_tbl := tw_mem (List.mem_append_right _ (List.mem_of_getElem? (i := 153) (by decide +kernel))) rfl
theorem mw_155 : (Cond.laysFinal "StoryMachine$Aside" "StoryMachine$Aside" "memory" "LStoryMachine$Memory;") ∈ tw_tbl := tw_mem (List.mem_append_right _ (List.mem_of_getElem? (i := 155) (by decide +kernel))) rfl
theorem mw_157 : (Cond.laysFinal "StoryMachine$Aside" "StoryMachine$Aside" "routines" "LStoryMachine$Routines;") ∈ tw_tbl := tw_mem (List.mem_append_right _ (List.mem_of_getElem? (i := 157) (by decide +kernel))) rfl
theorem mw_159 : (Cond.lays "StoryMachine$Aside" "StoryMachine$Aside" "next" "I") ∈ tw_tbl := tw_mem (List.mem_append_right _ (List.mem_of_getElem? (i := 159) (by decide +kernel))) rfl
theorem mw_162 : (Cond.classLink "StoryMachine$Engine" 26 "StoryMachine$Variables") ∈ tw_tbl := tw_mem (List.mem_append_right _ (List.mem_of_getElem? (i := 162) (by decide +kernel))) rfl
theorem mw_163 : (Cond.instantiable "StoryMachine$Variables" 2) ∈ tw_tbl := tw_mem (List.mem_append_right _ (List.mem_of_getElem? (i := 163) (by decide +kernel))) rfl
theorem mw_164 : (Cond.methodLink "StoryMachine$Engine" 28 (⟨"StoryMachine$Variables", "<init>", "(LStoryMachine$Memory;LStoryMachine$Routines;)V"⟩)) ∈ tw_tbl := tw_mem (List.mem_append_right _ (List.mem_of_getElem? (i := 164) (by decide +kernel))) rfl
theorem mw_165 : (Cond.instanceMethod (⟨"StoryMachine$Variables", "<init>", "(LStoryMachine$Memory;LStoryMachine$Routines;)V"⟩)) ∈ tw_tbl := tw_mem (List.mem_append_right _ (List.mem_of_getElem? (i := 165) (by decide +kernel))) rfl
theorem mw_166 : (Cond.code (⟨"StoryMachine$Variables", "<init>", "(LStoryMachine$Memory;LStoryMachine$Routines;)V"⟩) prog_11_method_1_code 3 none) ∈ tw_tbl := tw_mem (List.mem_append_right _ (List.mem_of_getElem? (i := 166) (by decide +kernel))) rfl
theorem mw_167 : (Cond.methodLink "StoryMachine$Variables" 1 (⟨"java/lang/Object", "<init>", "()V"⟩)) ∈ tw_tbl := tw_mem (List.mem_append_right _ (List.mem_of_getElem? (i := 167) (by decide +kernel))) rfl
theorem mw_168 : (Cond.fieldLink "StoryMachine$Variables" 7 "StoryMachine$Variables" "memory" "LStoryMachine$Memory;") ∈ tw_tbl := tw_mem (List.mem_append_right _ (List.mem_of_getElem? (i := 168) (by decide +kernel))) rfl
theorem mw_169 : (Cond.fieldLink "StoryMachine$Variables" 13 "StoryMachine$Variables" "routines" "LStoryMachine$Routines;") ∈ tw_tbl := tw_mem (List.mem_append_right _ (List.mem_of_getElem? (i := 169) (by decide +kernel))) rfl
theorem mw_170 : (Cond.laysFinal "StoryMachine$Variables" "StoryMachine$Variables" "memory" "LStoryMachine$Memory;") ∈ tw_tbl := tw_mem (List.mem_append_right _ (List.mem_of_getElem? (i := 170) (by decide +kernel))) rfl
theorem mw_172 : (Cond.laysFinal "StoryMachine$Variables" "StoryMachine$Variables" "routines" "LStoryMachine$Routines;") ∈ tw_tbl := tw_mem (List.mem_append_right _ (List.mem_of_getElem? (i := 172) (by decide +kernel))) rfl
theorem mw_175 : (Cond.classLink "StoryMachine$Engine" 51 "StoryMachine$Tree") ∈ tw_tbl := tw_mem (List.mem_append_right _ (List.mem_of_getElem? (i := 175) (by decide +kernel))) rfl
theorem mw_176 : (Cond.instantiable "StoryMachine$Tree" 1) ∈ tw_tbl := tw_mem (List.mem_append_right _ (List.mem_of_getElem? (i := 176) (by decide +kernel))) rfl
theorem mw_177 : (Cond.methodLink "StoryMachine$Engine" 53 (⟨"StoryMachine$Tree", "<init>", "(LStoryMachine$Memory;)V"⟩)) ∈ tw_tbl := tw_mem (List.mem_append_right _ (List.mem_of_getElem? (i := 177) (by decide +kernel))) rfl
theorem mw_178 : (Cond.instanceMethod (⟨"StoryMachine$Tree", "<init>", "(LStoryMachine$Memory;)V"⟩)) ∈ tw_tbl := tw_mem (List.mem_append_right _ (List.mem_of_getElem? (i := 178) (by decide +kernel))) rfl
theorem mw_179 : (Cond.code (⟨"StoryMachine$Tree", "<init>", "(LStoryMachine$Memory;)V"⟩) prog_10_method_1_code 2 none) ∈ tw_tbl := tw_mem (List.mem_append_right _ (List.mem_of_getElem? (i := 179) (by decide +kernel))) rfl
theorem mw_180 : (Cond.methodLink "StoryMachine$Tree" 1 (⟨"java/lang/Object", "<init>", "()V"⟩)) ∈ tw_tbl := tw_mem (List.mem_append_right _ (List.mem_of_getElem? (i := 180) (by decide +kernel))) rfl
theorem mw_181 : (Cond.fieldLink "StoryMachine$Tree" 7 "StoryMachine$Tree" "memory" "LStoryMachine$Memory;") ∈ tw_tbl := tw_mem (List.mem_append_right _ (List.mem_of_getElem? (i := 181) (by decide +kernel))) rfl
theorem mw_182 : (Cond.laysFinal "StoryMachine$Tree" "StoryMachine$Tree" "memory" "LStoryMachine$Memory;") ∈ tw_tbl := tw_mem (List.mem_append_right _ (List.mem_of_getElem? (i := 182) (by decide +kernel))) rfl
theorem mw_185 : (Cond.classLink "StoryMachine$Engine" 60 "StoryMachine$Dictionary") ∈ tw_tbl := tw_mem (List.mem_append_right _ (List.mem_of_getElem? (i := 185) (by decide +kernel))) rfl
theorem mw_186 : (Cond.instantiable "StoryMachine$Dictionary" 6) ∈ tw_tbl := tw_mem (List.mem_append_right _ (List.mem_of_getElem? (i := 186) (by decide +kernel))) rfl
theorem mw_187 : (Cond.methodLink "StoryMachine$Engine" 62 (⟨"StoryMachine$Dictionary", "<init>", "(LStoryMachine$Memory;)V"⟩)) ∈ tw_tbl := tw_mem (List.mem_append_right _ (List.mem_of_getElem? (i := 187) (by decide +kernel))) rfl
theorem mw_188 : (Cond.instanceMethod (⟨"StoryMachine$Dictionary", "<init>", "(LStoryMachine$Memory;)V"⟩)) ∈ tw_tbl := tw_mem (List.mem_append_right _ (List.mem_of_getElem? (i := 188) (by decide +kernel))) rfl
theorem mw_189 : (Cond.code (⟨"StoryMachine$Dictionary", "<init>", "(LStoryMachine$Memory;)V"⟩) prog_3_method_1_code 2 none) ∈ tw_tbl := tw_mem (List.mem_append_right _ (List.mem_of_getElem? (i := 189) (by decide +kernel))) rfl
theorem mw_190 : (Cond.methodLink "StoryMachine$Dictionary" 1 (⟨"java/lang/Object", "<init>", "()V"⟩)) ∈ tw_tbl := tw_mem (List.mem_append_right _ (List.mem_of_getElem? (i := 190) (by decide +kernel))) rfl
theorem mw_191 : (Cond.fieldLink "StoryMachine$Dictionary" 21 "StoryMachine$Dictionary" "memory" "LStoryMachine$Memory;") ∈ tw_tbl := tw_mem (List.mem_append_right _ (List.mem_of_getElem? (i := 191) (by decide +kernel))) rfl
theorem mw_192 : (Cond.fieldLink "StoryMachine$Dictionary" 9 "StoryMachine$Dictionary" "starts" "[I") ∈ tw_tbl := tw_mem (List.mem_append_right _ (List.mem_of_getElem? (i := 192) (by decide +kernel))) rfl
theorem mw_194 : (Cond.fieldLink "StoryMachine$Dictionary" 15 "StoryMachine$Dictionary" "lengths" "[I") ∈ tw_tbl := tw_mem (List.mem_append_right _ (List.mem_of_getElem? (i := 194) (by decide +kernel))) rfl
theorem mw_198 : (Cond.fieldLink "StoryMachine$Dictionary" 18 "StoryMachine$Dictionary" "letters" "[I") ∈ tw_tbl := tw_mem (List.mem_append_right _ (List.mem_of_getElem? (i := 198) (by decide +kernel))) rfl
theorem mw_200 : (Cond.laysFinal "StoryMachine$Dictionary" "StoryMachine$Dictionary" "memory" "LStoryMachine$Memory;") ∈ tw_tbl := tw_mem (List.mem_append_right _ (List.mem_of_getElem? (i := 200) (by decide +kernel))) rfl
theorem mw_202 : (Cond.laysFinal "StoryMachine$Dictionary" "StoryMachine$Dictionary" "starts" "[I") ∈ tw_tbl := tw_mem (List.mem_append_right _ (List.mem_of_getElem? (i := 202) (by decide +kernel))) rfl
theorem mw_204 : (Cond.laysFinal "StoryMachine$Dictionary" "StoryMachine$Dictionary" "lengths" "[I") ∈ tw_tbl := tw_mem (List.mem_append_right _ (List.mem_of_getElem? (i := 204) (by decide +kernel))) rfl
theorem mw_206 : (Cond.lays "StoryMachine$Dictionary" "StoryMachine$Dictionary" "words" "I") ∈ tw_tbl := tw_mem (List.mem_append_right _ (List.mem_of_getElem? (i := 206) (by decide +kernel))) rfl
theorem mw_208 : (Cond.laysFinal "StoryMachine$Dictionary" "StoryMachine$Dictionary" "letters" "[I") ∈ tw_tbl := tw_mem (List.mem_append_right _ (List.mem_of_getElem? (i := 208) (by decide +kernel))) rfl
theorem mw_210 : (Cond.lays "StoryMachine$Dictionary" "StoryMachine$Dictionary" "letterCount" "I") ∈ tw_tbl := tw_mem (List.mem_append_right _ (List.mem_of_getElem? (i := 210) (by decide +kernel))) rfl
theorem mw_213 : (Cond.classLink "StoryMachine$Engine" 67 "StoryMachine$Instruction") ∈ tw_tbl := tw_mem (List.mem_append_right _ (List.mem_of_getElem? (i := 213) (by decide +kernel))) rfl
theorem mw_214 : (Cond.instantiable "StoryMachine$Instruction" 11) ∈ tw_tbl := tw_mem (List.mem_append_right _ (List.mem_of_getElem? (i := 214) (by decide +kernel))) rfl
theorem mw_215 : (Cond.methodLink "StoryMachine$Engine" 69 (⟨"StoryMachine$Instruction", "<init>", "(LStoryMachine$Memory;LStoryMachine$Variables;)V"⟩)) ∈ tw_tbl := tw_mem (List.mem_append_right _ (List.mem_of_getElem? (i := 215) (by decide +kernel))) rfl
theorem mw_216 : (Cond.instanceMethod (⟨"StoryMachine$Instruction", "<init>", "(LStoryMachine$Memory;LStoryMachine$Variables;)V"⟩)) ∈ tw_tbl := tw_mem (List.mem_append_right _ (List.mem_of_getElem? (i := 216) (by decide +kernel))) rfl
theorem mw_217 : (Cond.code (⟨"StoryMachine$Instruction", "<init>", "(LStoryMachine$Memory;LStoryMachine$Variables;)V"⟩) prog_5_method_1_code 3 none) ∈ tw_tbl := tw_mem (List.mem_append_right _ (List.mem_of_getElem? (i := 217) (by decide +kernel))) rfl
theorem mw_218 : (Cond.methodLink "StoryMachine$Instruction" 1 (⟨"java/lang/Object", "<init>", "()V"⟩)) ∈ tw_tbl := tw_mem (List.mem_append_right _ (List.mem_of_getElem? (i := 218) (by decide +kernel))) rfl
theorem mw_219 : (Cond.fieldLink "StoryMachine$Instruction" 13 "StoryMachine$Instruction" "memory" "LStoryMachine$Memory;") ∈ tw_tbl := tw_mem (List.mem_append_right _ (List.mem_of_getElem? (i := 219) (by decide +kernel))) rfl
theorem mw_220 : (Cond.fieldLink "StoryMachine$Instruction" 17 "StoryMachine$Instruction" "variables" "LStoryMachine$Variables;") ∈ tw_tbl := tw_mem (List.mem_append_right _ (List.mem_of_getElem? (i := 220) (by decide +kernel))) rfl
theorem mw_221 : (Cond.fieldLink "StoryMachine$Instruction" 7 "StoryMachine$Instruction" "numbers" "[I") ∈ tw_tbl := tw_mem (List.mem_append_right _ (List.mem_of_getElem? (i := 221) (by decide +kernel))) rfl
theorem mw_238 : (Cond.laysFinal "StoryMachine$Instruction" "StoryMachine$Instruction" "memory" "LStoryMachine$Memory;") ∈ tw_tbl := tw_mem (List.mem_append_right _ (List.mem_of_getElem? (i := 238) (by decide +kernel))) rfl
theorem mw_240 : (Cond.laysFinal "StoryMachine$Instruction" "StoryMachine$Instruction" "variables" "LStoryMachine$Variables;") ∈ tw_tbl := tw_mem (List.mem_append_right _ (List.mem_of_getElem? (i := 240) (by decide +kernel))) rfl
theorem mw_242 : (Cond.laysFinal "StoryMachine$Instruction" "StoryMachine$Instruction" "numbers" "[I") ∈ tw_tbl := tw_mem (List.mem_append_right _ (List.mem_of_getElem? (i := 242) (by decide +kernel))) rfl
theorem mw_244 : (Cond.lays "StoryMachine$Instruction" "StoryMachine$Instruction" "count" "I") ∈ tw_tbl := tw_mem (List.mem_append_right _ (List.mem_of_getElem? (i := 244) (by decide +kernel))) rfl
theorem mw_246 : (Cond.lays "StoryMachine$Instruction" "StoryMachine$Instruction" "list" "I") ∈ tw_tbl := tw_mem (List.mem_append_right _ (List.mem_of_getElem? (i := 246) (by decide +kernel))) rfl
theorem mw_248 : (Cond.lays "StoryMachine$Instruction" "StoryMachine$Instruction" "operation" "I") ∈ tw_tbl := tw_mem (List.mem_append_right _ (List.mem_of_getElem? (i := 248) (by decide +kernel))) rfl
theorem mw_250 : (Cond.lays "StoryMachine$Instruction" "StoryMachine$Instruction" "behind" "I") ∈ tw_tbl := tw_mem (List.mem_append_right _ (List.mem_of_getElem? (i := 250) (by decide +kernel))) rfl
theorem mw_252 : (Cond.lays "StoryMachine$Instruction" "StoryMachine$Instruction" "result" "I") ∈ tw_tbl := tw_mem (List.mem_append_right _ (List.mem_of_getElem? (i := 252) (by decide +kernel))) rfl
theorem mw_254 : (Cond.lays "StoryMachine$Instruction" "StoryMachine$Instruction" "branchesWhen" "Z") ∈ tw_tbl := tw_mem (List.mem_append_right _ (List.mem_of_getElem? (i := 254) (by decide +kernel))) rfl
theorem mw_256 : (Cond.lays "StoryMachine$Instruction" "StoryMachine$Instruction" "offset" "I") ∈ tw_tbl := tw_mem (List.mem_append_right _ (List.mem_of_getElem? (i := 256) (by decide +kernel))) rfl
theorem mw_258 : (Cond.lays "StoryMachine$Instruction" "StoryMachine$Instruction" "form" "I") ∈ tw_tbl := tw_mem (List.mem_append_right _ (List.mem_of_getElem? (i := 258) (by decide +kernel))) rfl
theorem mw_261 : (Cond.fieldLink "StoryMachine$Engine" 31 "StoryMachine$Engine" "memory" "LStoryMachine$Memory;") ∈ tw_tbl := tw_mem (List.mem_append_right _ (List.mem_of_getElem? (i := 261) (by decide +kernel))) rfl
theorem mw_262 : (Cond.fieldLink "StoryMachine$Engine" 35 "StoryMachine$Engine" "line" "LStoryMachine$Line;") ∈ tw_tbl := tw_mem (List.mem_append_right _ (List.mem_of_getElem? (i := 262) (by decide +kernel))) rfl
theorem mw_263 : (Cond.fieldLink "StoryMachine$Engine" 39 "StoryMachine$Engine" "routines" "LStoryMachine$Routines;") ∈ tw_tbl := tw_mem (List.mem_append_right _ (List.mem_of_getElem? (i := 263) (by decide +kernel))) rfl
theorem mw_264 : (Cond.fieldLink "StoryMachine$Engine" 43 "StoryMachine$Engine" "printer" "LStoryMachine$Printer;") ∈ tw_tbl := tw_mem (List.mem_append_right _ (List.mem_of_getElem? (i := 264) (by decide +kernel))) rfl
theorem mw_265 : (Cond.fieldLink "StoryMachine$Engine" 47 "StoryMachine$Engine" "variables" "LStoryMachine$Variables;") ∈ tw_tbl := tw_mem (List.mem_append_right _ (List.mem_of_getElem? (i := 265) (by decide +kernel))) rfl
theorem mw_266 : (Cond.fieldLink "StoryMachine$Engine" 56 "StoryMachine$Engine" "tree" "LStoryMachine$Tree;") ∈ tw_tbl := tw_mem (List.mem_append_right _ (List.mem_of_getElem? (i := 266) (by decide +kernel))) rfl
theorem mw_267 : (Cond.fieldLink "StoryMachine$Engine" 63 "StoryMachine$Engine" "dictionary" "LStoryMachine$Dictionary;") ∈ tw_tbl := tw_mem (List.mem_append_right _ (List.mem_of_getElem? (i := 267) (by decide +kernel))) rfl
theorem mw_268 : (Cond.fieldLink "StoryMachine$Engine" 72 "StoryMachine$Engine" "instruction" "LStoryMachine$Instruction;") ∈ tw_tbl := tw_mem (List.mem_append_right _ (List.mem_of_getElem? (i := 268) (by decide +kernel))) rfl
theorem mw_269 : (Cond.fieldLink "StoryMachine$Engine" 10 "StoryMachine$Engine" "aside" "LStoryMachine$Aside;") ∈ tw_tbl := tw_mem (List.mem_append_right _ (List.mem_of_getElem? (i := 269) (by decide +kernel))) rfl
theorem mw_270 : (Cond.fieldLink "StoryMachine$Engine" 18 "StoryMachine$Engine" "newLocals" "[I") ∈ tw_tbl := tw_mem (List.mem_append_right _ (List.mem_of_getElem? (i := 270) (by decide +kernel))) rfl
theorem mw_271 : (Cond.fieldLink "StoryMachine$Engine" 76 "StoryMachine$Engine" "canGoOn" "Z") ∈ tw_tbl := tw_mem (List.mem_append_right _ (List.mem_of_getElem? (i := 271) (by decide +kernel))) rfl
theorem mw_272 : (Cond.fieldLink "StoryMachine" 80 "StoryMachine$Engine" "canGoOn" "Z") ∈ tw_tbl := tw_mem (List.mem_append_right _ (List.mem_of_getElem? (i := 272) (by decide +kernel))) rfl
theorem mw_273 : (Cond.fieldLink "StoryMachine$Engine" 22 "StoryMachine$Engine" "current" "I") ∈ tw_tbl := tw_mem (List.mem_append_right _ (List.mem_of_getElem? (i := 273) (by decide +kernel))) rfl
theorem mw_274 : (Cond.fieldLink "StoryMachine" 91 "StoryMachine$Engine" "current" "I") ∈ tw_tbl := tw_mem (List.mem_append_right _ (List.mem_of_getElem? (i := 274) (by decide +kernel))) rfl
theorem mw_275 : (Cond.fieldLink "StoryMachine$Engine" 80 "StoryMachine$Engine" "stepsDone" "I") ∈ tw_tbl := tw_mem (List.mem_append_right _ (List.mem_of_getElem? (i := 275) (by decide +kernel))) rfl
theorem mw_276 : (Cond.fieldLink "StoryMachine" 88 "StoryMachine$Engine" "stepsDone" "I") ∈ tw_tbl := tw_mem (List.mem_append_right _ (List.mem_of_getElem? (i := 276) (by decide +kernel))) rfl
theorem mw_278 : (Cond.fieldLink "StoryMachine$Engine" 83 "StoryMachine$Engine" "random" "I") ∈ tw_tbl := tw_mem (List.mem_append_right _ (List.mem_of_getElem? (i := 278) (by decide +kernel))) rfl
theorem mw_279 : (Cond.laysFinal "StoryMachine$Engine" "StoryMachine$Engine" "memory" "LStoryMachine$Memory;") ∈ tw_tbl := tw_mem (List.mem_append_right _ (List.mem_of_getElem? (i := 279) (by decide +kernel))) rfl
theorem mw_281 : (Cond.laysFinal "StoryMachine$Engine" "StoryMachine$Engine" "line" "LStoryMachine$Line;") ∈ tw_tbl := tw_mem (List.mem_append_right _ (List.mem_of_getElem? (i := 281) (by decide +kernel))) rfl
theorem mw_283 : (Cond.laysFinal "StoryMachine$Engine" "StoryMachine$Engine" "routines" "LStoryMachine$Routines;") ∈ tw_tbl := tw_mem (List.mem_append_right _ (List.mem_of_getElem? (i := 283) (by decide +kernel))) rfl
theorem mw_285 : (Cond.laysFinal "StoryMachine$Engine" "StoryMachine$Engine" "printer" "LStoryMachine$Printer;") ∈ tw_tbl := tw_mem (List.mem_append_right _ (List.mem_of_getElem? (i := 285) (by decide +kernel))) rfl
theorem mw_287 : (Cond.laysFinal "StoryMachine$Engine" "StoryMachine$Engine" "variables" "LStoryMachine$Variables;") ∈ tw_tbl := tw_mem (List.mem_append_right _ (List.mem_of_getElem? (i := 287) (by decide +kernel))) rfl
theorem mw_289 : (Cond.laysFinal "StoryMachine$Engine" "StoryMachine$Engine" "tree" "LStoryMachine$Tree;") ∈ tw_tbl := tw_mem (List.mem_append_right _ (List.mem_of_getElem? (i := 289) (by decide +kernel))) rfl
theorem mw_291 : (Cond.laysFinal "StoryMachine$Engine" "StoryMachine$Engine" "dictionary" "LStoryMachine$Dictionary;") ∈ tw_tbl := tw_mem (List.mem_append_right _ (List.mem_of_getElem? (i := 291) (by decide +kernel))) rfl
theorem mw_293 : (Cond.laysFinal "StoryMachine$Engine" "StoryMachine$Engine" "instruction" "LStoryMachine$Instruction;") ∈ tw_tbl := tw_mem (List.mem_append_right _ (List.mem_of_getElem? (i := 293) (by decide +kernel))) rfl
theorem mw_295 : (Cond.laysFinal "StoryMachine$Engine" "StoryMachine$Engine" "aside" "LStoryMachine$Aside;") ∈ tw_tbl := tw_mem (List.mem_append_right _ (List.mem_of_getElem? (i := 295) (by decide +kernel))) rfl
theorem mw_297 : (Cond.laysFinal "StoryMachine$Engine" "StoryMachine$Engine" "newLocals" "[I") ∈ tw_tbl := tw_mem (List.mem_append_right _ (List.mem_of_getElem? (i := 297) (by decide +kernel))) rfl
theorem mw_299 : (Cond.lays "StoryMachine$Engine" "StoryMachine$Engine" "canGoOn" "Z") ∈ tw_tbl := tw_mem (List.mem_append_right _ (List.mem_of_getElem? (i := 299) (by decide +kernel))) rfl
theorem mw_301 : (Cond.lays "StoryMachine$Engine" "StoryMachine$Engine" "current" "I") ∈ tw_tbl := tw_mem (List.mem_append_right _ (List.mem_of_getElem? (i := 301) (by decide +kernel))) rfl
theorem mw_303 : (Cond.lays "StoryMachine$Engine" "StoryMachine$Engine" "stepsDone" "I") ∈ tw_tbl := tw_mem (List.mem_append_right _ (List.mem_of_getElem? (i := 303) (by decide +kernel))) rfl
theorem mw_305 : (Cond.lays "StoryMachine$Engine" "StoryMachine$Engine" "next" "I") ∈ tw_tbl := tw_mem (List.mem_append_right _ (List.mem_of_getElem? (i := 305) (by decide +kernel))) rfl
theorem mw_307 : (Cond.lays "StoryMachine$Engine" "StoryMachine$Engine" "random" "I") ∈ tw_tbl := tw_mem (List.mem_append_right _ (List.mem_of_getElem? (i := 307) (by decide +kernel))) rfl
theorem mw_310 : (Cond.fieldLink "StoryMachine" 21 "StoryMachine" "memory" "LStoryMachine$Memory;") ∈ tw_tbl := tw_mem (List.mem_append_right _ (List.mem_of_getElem? (i := 310) (by decide +kernel))) rfl
theorem mw_311 : (Cond.fieldLink "StoryMachine" 27 "StoryMachine" "line" "LStoryMachine$Line;") ∈ tw_tbl := tw_mem (List.mem_append_right _ (List.mem_of_getElem? (i := 311) (by decide +kernel))) rfl
theorem mw_312 : (Cond.fieldLink "StoryMachine" 31 "StoryMachine" "routines" "LStoryMachine$Routines;") ∈ tw_tbl := tw_mem (List.mem_append_right _ (List.mem_of_getElem? (i := 312) (by decide +kernel))) rfl
theorem mw_313 : (Cond.fieldLink "StoryMachine" 35 "StoryMachine" "printer" "LStoryMachine$Printer;") ∈ tw_tbl := tw_mem (List.mem_append_right _ (List.mem_of_getElem? (i := 313) (by decide +kernel))) rfl
theorem mw_314 : (Cond.fieldLink "StoryMachine" 44 "StoryMachine" "engine" "LStoryMachine$Engine;") ∈ tw_tbl := tw_mem (List.mem_append_right _ (List.mem_of_getElem? (i := 314) (by decide +kernel))) rfl
theorem mw_315 : (Cond.laysFinal "StoryMachine" "StoryMachine" "memory" "LStoryMachine$Memory;") ∈ tw_tbl := tw_mem (List.mem_append_right _ (List.mem_of_getElem? (i := 315) (by decide +kernel))) rfl
theorem mw_317 : (Cond.laysFinal "StoryMachine" "StoryMachine" "line" "LStoryMachine$Line;") ∈ tw_tbl := tw_mem (List.mem_append_right _ (List.mem_of_getElem? (i := 317) (by decide +kernel))) rfl
theorem mw_319 : (Cond.laysFinal "StoryMachine" "StoryMachine" "routines" "LStoryMachine$Routines;") ∈ tw_tbl := tw_mem (List.mem_append_right _ (List.mem_of_getElem? (i := 319) (by decide +kernel))) rfl
theorem mw_321 : (Cond.laysFinal "StoryMachine" "StoryMachine" "printer" "LStoryMachine$Printer;") ∈ tw_tbl := tw_mem (List.mem_append_right _ (List.mem_of_getElem? (i := 321) (by decide +kernel))) rfl
theorem mw_323 : (Cond.laysFinal "StoryMachine" "StoryMachine" "engine" "LStoryMachine$Engine;") ∈ tw_tbl := tw_mem (List.mem_append_right _ (List.mem_of_getElem? (i := 323) (by decide +kernel))) rfl
theorem mw_329 : (Cond.code (⟨"StoryMachine", "enter", "()V"⟩) prog_1_method_6_code 1 none) ∈ tw_tbl := tw_mem (List.mem_append_right _ (List.mem_of_getElem? (i := 329) (by decide +kernel))) rfl
theorem mw_330 : (Cond.methodLink "StoryMachine" 77 (⟨"StoryMachine$Line", "finish", "()V"⟩)) ∈ tw_tbl := tw_mem (List.mem_append_right _ (List.mem_of_getElem? (i := 330) (by decide +kernel))) rfl
theorem mw_331 : (Cond.instanceMethod (⟨"StoryMachine$Line", "finish", "()V"⟩)) ∈ tw_tbl := tw_mem (List.mem_append_right _ (List.mem_of_getElem? (i := 331) (by decide +kernel))) rfl
theorem mw_332 : (Cond.selects "StoryMachine$Line" (⟨"StoryMachine$Line", "finish", "()V"⟩) (⟨"StoryMachine$Line", "finish", "()V"⟩)) ∈ tw_tbl := tw_mem (List.mem_append_right _ (List.mem_of_getElem? (i := 332) (by decide +kernel))) rfl
theorem mw_333 : (Cond.code (⟨"StoryMachine$Line", "finish", "()V"⟩) prog_6_method_4_code 4 none) ∈ tw_tbl := tw_mem (List.mem_append_right _ (List.mem_of_getElem? (i := 333) (by decide +kernel))) rfl
theorem mw_337 : (Cond.code (⟨"StoryMachine", "steps", "()I"⟩) prog_1_method_8_code 1 (some .int)) ∈ tw_tbl := tw_mem (List.mem_append_right _ (List.mem_of_getElem? (i := 337) (by decide +kernel))) rfl
theorem mw_341 : (Cond.code (⟨"StoryMachine", "place", "()I"⟩) prog_1_method_9_code 1 (some .int)) ∈ tw_tbl := tw_mem (List.mem_append_right _ (List.mem_of_getElem? (i := 341) (by decide +kernel))) rfl
theorem mw_345 : (Cond.code (⟨"StoryMachine", "routines", "()I"⟩) prog_1_method_13_code 1 (some .int)) ∈ tw_tbl := tw_mem (List.mem_append_right _ (List.mem_of_getElem? (i := 345) (by decide +kernel))) rfl
theorem mw_353 : (Cond.code (⟨"StoryMachine", "poke", "(IJI)V"⟩) prog_1_method_2_code 6 none) ∈ tw_tbl := tw_mem (List.mem_append_right _ (List.mem_of_getElem? (i := 353) (by decide +kernel))) rfl
theorem mw_354 : (Cond.classLink "StoryMachine" 48 "java/lang/IllegalArgumentException") ∈ tw_tbl := tw_mem (List.mem_append_right _ (List.mem_of_getElem? (i := 354) (by decide +kernel))) rfl
theorem mw_355 : (Cond.instantiable "java/lang/IllegalArgumentException" 6) ∈ tw_tbl := tw_mem (List.mem_append_right _ (List.mem_of_getElem? (i := 355) (by decide +kernel))) rfl
theorem mw_356 : (Cond.castable "java/lang/IllegalArgumentException" "java/lang/IllegalArgumentException") ∈ tw_tbl := tw_mem (List.mem_append_right _ (List.mem_of_getElem? (i := 356) (by decide +kernel))) rfl
theorem mw_357 : (Cond.declares (⟨"java/lang/RuntimeException", "<init>", "()V"⟩)) ∈ tw_tbl := tw_mem (List.mem_append_right _ (List.mem_of_getElem? (i := 357) (by decide +kernel))) rfl
theorem mw_359 : (Cond.declares (⟨"java/lang/Exception", "<init>", "()V"⟩)) ∈ tw_tbl := tw_mem (List.mem_append_right _ (List.mem_of_getElem? (i := 359) (by decide +kernel))) rfl
theorem mw_361 : (Cond.declares (⟨"java/lang/Throwable", "<init>", "()V"⟩)) ∈ tw_tbl := tw_mem (List.mem_append_right _ (List.mem_of_getElem? (i := 361) (by decide +kernel))) rfl
theorem mw_363 : (Cond.selects "java/lang/IllegalArgumentException" (⟨"java/lang/Throwable", "fillInStackTrace", "(I)Ljava/lang/Throwable;"⟩) (⟨"java/lang/Throwable", "fillInStackTrace", "(I)Ljava/lang/Throwable;"⟩)) ∈ tw_tbl := tw_mem (List.mem_append_right _ (List.mem_of_getElem? (i := 363) (by decide +kernel))) rfl
theorem mw_364 : (Cond.selects "java/lang/IllegalArgumentException" (⟨"java/lang/Throwable", "fillInStackTrace", "()Ljava/lang/Throwable;"⟩) (⟨"java/lang/Throwable", "fillInStackTrace", "()Ljava/lang/Throwable;"⟩)) ∈ tw_tbl := tw_mem (List.mem_append_right _ (List.mem_of_getElem? (i := 364) (by decide +kernel))) rfl
theorem mw_365 : (Cond.lays "java/lang/IllegalArgumentException" "java/lang/Throwable" "cause" "Ljava/lang/Throwable;") ∈ tw_tbl := tw_mem (List.mem_append_right _ (List.mem_of_getElem? (i := 365) (by decide +kernel))) rfl
theorem mw_366 : (Cond.lays "java/lang/Throwable" "java/lang/Throwable" "cause" "Ljava/lang/Throwable;") ∈ tw_tbl := tw_mem (List.mem_append_right _ (List.mem_of_getElem? (i := 366) (by decide +kernel))) rfl
theorem mw_367 : (Cond.lays "java/lang/IllegalArgumentException" "java/lang/Throwable" "stackTrace" "[Ljava/lang/StackTraceElement;") ∈ tw_tbl := tw_mem (List.mem_append_right _ (List.mem_of_getElem? (i := 367) (by decide +kernel))) rfl
theorem mw_368 : (Cond.lays "java/lang/Throwable" "java/lang/Throwable" "stackTrace" "[Ljava/lang/StackTraceElement;") ∈ tw_tbl := tw_mem (List.mem_append_right _ (List.mem_of_getElem? (i := 368) (by decide +kernel))) rfl
theorem mw_369 : (Cond.lays "java/lang/IllegalArgumentException" "java/lang/Throwable" "suppressedExceptions" "Ljava/util/List;") ∈ tw_tbl := tw_mem (List.mem_append_right _ (List.mem_of_getElem? (i := 369) (by decide +kernel))) rfl
theorem mw_370 : (Cond.lays "java/lang/Throwable" "java/lang/Throwable" "suppressedExceptions" "Ljava/util/List;") ∈ tw_tbl := tw_mem (List.mem_append_right _ (List.mem_of_getElem? (i := 370) (by decide +kernel))) rfl
theorem mw_371 : (Cond.lays "java/lang/IllegalArgumentException" "java/lang/Throwable" "detailMessage" "Ljava/lang/String;") ∈ tw_tbl := tw_mem (List.mem_append_right _ (List.mem_of_getElem? (i := 371) (by decide +kernel))) rfl
theorem mw_372 : (Cond.lays "java/lang/Throwable" "java/lang/Throwable" "detailMessage" "Ljava/lang/String;") ∈ tw_tbl := tw_mem (List.mem_append_right _ (List.mem_of_getElem? (i := 372) (by decide +kernel))) rfl
theorem mw_373 : (Cond.lays "java/lang/IllegalArgumentException" "java/lang/Throwable" "backtrace" "Ljava/lang/Object;") ∈ tw_tbl := tw_mem (List.mem_append_right _ (List.mem_of_getElem? (i := 373) (by decide +kernel))) rfl
theorem mw_374 : (Cond.lays "java/lang/Throwable" "java/lang/Throwable" "backtrace" "Ljava/lang/Object;") ∈ tw_tbl := tw_mem (List.mem_append_right _ (List.mem_of_getElem? (i := 374) (by decide +kernel))) rfl
theorem mw_375 : (Cond.fieldLink "java/lang/Throwable" 198 "java/lang/Throwable" "backtrace" "Ljava/lang/Object;") ∈ tw_tbl := tw_mem (List.mem_append_right _ (List.mem_of_getElem? (i := 375) (by decide +kernel))) rfl
theorem mw_376 : (Cond.superclass "java/lang/Throwable" "java/lang/Object") ∈ tw_tbl := tw_mem (List.mem_append_right _ (List.mem_of_getElem? (i := 376) (by decide +kernel))) rfl
theorem mw_377 : (Cond.instanceMethod (⟨"java/lang/Throwable", "<init>", "()V"⟩)) ∈ tw_tbl := tw_mem (List.mem_append_right _ (List.mem_of_getElem? (i := 377) (by decide +kernel))) rfl
theorem mw_378 : (Cond.code (⟨"java/lang/Throwable", "<init>", "()V"⟩) prog_26_method_1_code 1 none) ∈ tw_tbl := tw_mem (List.mem_append_right _ (List.mem_of_getElem? (i := 378) (by decide +kernel))) rfl
theorem mw_379 : (Cond.methodLink "java/lang/Throwable" 1 (⟨"java/lang/Object", "<init>", "()V"⟩)) ∈ tw_tbl := tw_mem (List.mem_append_right _ (List.mem_of_getElem? (i := 379) (by decide +kernel))) rfl
theorem mw_380 : (Cond.fieldLink "java/lang/Throwable" 13 "java/lang/Throwable" "UNASSIGNED_STACK" "[Ljava/lang/StackTraceElement;") ∈ tw_tbl := tw_mem (List.mem_append_right _ (List.mem_of_getElem? (i := 380) (by decide +kernel))) rfl
theorem mw_382 : (Cond.fieldLink "java/lang/Throwable" 20 "java/lang/Throwable" "SUPPRESSED_SENTINEL" "Ljava/util/List;") ∈ tw_tbl := tw_mem (List.mem_append_right _ (List.mem_of_getElem? (i := 382) (by decide +kernel))) rfl
theorem mw_384 : (Cond.methodLink "java/lang/Throwable" 27 (⟨"java/lang/Throwable", "fillInStackTrace", "()Ljava/lang/Throwable;"⟩)) ∈ tw_tbl := tw_mem (List.mem_append_right _ (List.mem_of_getElem? (i := 384) (by decide +kernel))) rfl
theorem mw_385 : (Cond.instanceMethod (⟨"java/lang/Throwable", "fillInStackTrace", "()Ljava/lang/Throwable;"⟩)) ∈ tw_tbl := tw_mem (List.mem_append_right _ (List.mem_of_getElem? (i := 385) (by decide +kernel))) rfl
theorem mw_388 : (Cond.selects "java/lang/IllegalStateException" (⟨"java/lang/Throwable", "fillInStackTrace", "()Ljava/lang/Throwable;"⟩) (⟨"java/lang/Throwable", "fillInStackTrace", "()Ljava/lang/Throwable;"⟩)) ∈ tw_tbl := tw_mem (List.mem_append_right _ (List.mem_of_getElem? (i := 388) (by decide +kernel))) rfl
theorem mw_389 : (Cond.selects "java/lang/IndexOutOfBoundsException" (⟨"java/lang/Throwable", "fillInStackTrace", "()Ljava/lang/Throwable;"⟩) (⟨"java/lang/Throwable", "fillInStackTrace", "()Ljava/lang/Throwable;"⟩)) ∈ tw_tbl := tw_mem (List.mem_append_right _ (List.mem_of_getElem? (i := 389) (by decide +kernel))) rfl
theorem mw_391 : (Cond.codeSync (⟨"java/lang/Throwable", "fillInStackTrace", "()Ljava/lang/Throwable;"⟩) prog_26_method_18_code 1 (some (.object "java/lang/Throwable"))) ∈ tw_tbl := tw_mem (List.mem_append_right _ (List.mem_of_getElem? (i := 391) (by decide +kernel))) rfl
theorem mw_392 : (Cond.methodLink "java/lang/Throwable" 202 (⟨"java/lang/Throwable", "fillInStackTrace", "(I)Ljava/lang/Throwable;"⟩)) ∈ tw_tbl := tw_mem (List.mem_append_right _ (List.mem_of_getElem? (i := 392) (by decide +kernel))) rfl
theorem mw_394 : (Cond.instanceMethod (⟨"java/lang/Throwable", "fillInStackTrace", "(I)Ljava/lang/Throwable;"⟩)) ∈ tw_tbl := tw_mem (List.mem_append_right _ (List.mem_of_getElem? (i := 394) (by decide +kernel))) rfl
theorem mw_396 : (Cond.native (⟨"java/lang/Throwable", "fillInStackTrace", "(I)Ljava/lang/Throwable;"⟩)) ∈ tw_tbl := tw_mem (List.mem_append_right _ (List.mem_of_getElem? (i := 396) (by decide +kernel))) rfl
theorem mw_397 : (Cond.methodLink "StoryMachine" 50 (⟨"java/lang/IllegalArgumentException", "<init>", "()V"⟩)) ∈ tw_tbl := tw_mem (List.mem_append_right _ (List.mem_of_getElem? (i := 397) (by decide +kernel))) rfl
theorem mw_398 : (Cond.instanceMethod (⟨"java/lang/IllegalArgumentException", "<init>", "()V"⟩)) ∈ tw_tbl := tw_mem (List.mem_append_right _ (List.mem_of_getElem? (i := 398) (by decide +kernel))) rfl
theorem mw_399 : (Cond.code (⟨"java/lang/IllegalArgumentException", "<init>", "()V"⟩) prog_17_method_1_code 1 none) ∈ tw_tbl := tw_mem (List.mem_append_right _ (List.mem_of_getElem? (i := 399) (by decide +kernel))) rfl
theorem mw_400 : (Cond.methodLink "java/lang/IllegalArgumentException" 1 (⟨"java/lang/RuntimeException", "<init>", "()V"⟩)) ∈ tw_tbl := tw_mem (List.mem_append_right _ (List.mem_of_getElem? (i := 400) (by decide +kernel))) rfl
theorem mw_401 : (Cond.instanceMethod (⟨"java/lang/RuntimeException", "<init>", "()V"⟩)) ∈ tw_tbl := tw_mem (List.mem_append_right _ (List.mem_of_getElem? (i := 401) (by decide +kernel))) rfl
theorem mw_402 : (Cond.code (⟨"java/lang/RuntimeException", "<init>", "()V"⟩) prog_21_method_1_code 1 none) ∈ tw_tbl := tw_mem (List.mem_append_right _ (List.mem_of_getElem? (i := 402) (by decide +kernel))) rfl
theorem mw_403 : (Cond.methodLink "java/lang/RuntimeException" 1 (⟨"java/lang/Exception", "<init>", "()V"⟩)) ∈ tw_tbl := tw_mem (List.mem_append_right _ (List.mem_of_getElem? (i := 403) (by decide +kernel))) rfl
theorem mw_404 : (Cond.instanceMethod (⟨"java/lang/Exception", "<init>", "()V"⟩)) ∈ tw_tbl := tw_mem (List.mem_append_right _ (List.mem_of_getElem? (i := 404) (by decide +kernel))) rfl
theorem mw_405 : (Cond.code (⟨"java/lang/Exception", "<init>", "()V"⟩) prog_16_method_1_code 1 none) ∈ tw_tbl := tw_mem (List.mem_append_right _ (List.mem_of_getElem? (i := 405) (by decide +kernel))) rfl
theorem mw_406 : (Cond.methodLink "java/lang/Exception" 1 (⟨"java/lang/Throwable", "<init>", "()V"⟩)) ∈ tw_tbl := tw_mem (List.mem_append_right _ (List.mem_of_getElem? (i := 406) (by decide +kernel))) rfl
theorem mw_408 : (Cond.fieldLink "java/lang/Throwable" 7 "java/lang/Throwable" "cause" "Ljava/lang/Throwable;") ∈ tw_tbl := tw_mem (List.mem_append_right _ (List.mem_of_getElem? (i := 408) (by decide +kernel))) rfl
theorem mw_409 : (Cond.fieldLink "java/lang/Throwable" 17 "java/lang/Throwable" "stackTrace" "[Ljava/lang/StackTraceElement;") ∈ tw_tbl := tw_mem (List.mem_append_right _ (List.mem_of_getElem? (i := 409) (by decide +kernel))) rfl
theorem mw_410 : (Cond.fieldLink "java/lang/Throwable" 24 "java/lang/Throwable" "suppressedExceptions" "Ljava/util/List;") ∈ tw_tbl := tw_mem (List.mem_append_right _ (List.mem_of_getElem? (i := 410) (by decide +kernel))) rfl
theorem mw_419 : (Cond.methodLink "StoryMachine" 55 (⟨"StoryMachine", "packed", "(JII)I"⟩)) ∈ tw_tbl := tw_mem (List.mem_append_right _ (List.mem_of_getElem? (i := 419) (by decide +kernel))) rfl
theorem mw_420 : (Cond.static (⟨"StoryMachine", "packed", "(JII)I"⟩)) ∈ tw_tbl := tw_mem (List.mem_append_right _ (List.mem_of_getElem? (i := 420) (by decide +kernel))) rfl
theorem mw_421 : (Cond.code (⟨"StoryMachine", "packed", "(JII)I"⟩) prog_1_method_14_code 4 (some .int)) ∈ tw_tbl := tw_mem (List.mem_append_right _ (List.mem_of_getElem? (i := 421) (by decide +kernel))) rfl
theorem mw_428 : (Cond.code (⟨"StoryMachine", "peek", "(I)I"⟩) prog_1_method_3_code 2 (some .int)) ∈ tw_tbl := tw_mem (List.mem_append_right _ (List.mem_of_getElem? (i := 428) (by decide +kernel))) rfl
theorem mw_436 : (Cond.code (⟨"StoryMachine", "begin", "()V"⟩) prog_1_method_4_code 2 none) ∈ tw_tbl := tw_mem (List.mem_append_right _ (List.mem_of_getElem? (i := 436) (by decide +kernel))) rfl
theorem mw_437 : (Cond.methodLink "StoryMachine" 59 (⟨"StoryMachine$Memory", "wordAt", "(I)I"⟩)) ∈ tw_tbl := tw_mem (List.mem_append_right _ (List.mem_of_getElem? (i := 437) (by decide +kernel))) rfl
theorem mw_438 : (Cond.instanceMethod (⟨"StoryMachine$Memory", "wordAt", "(I)I"⟩)) ∈ tw_tbl := tw_mem (List.mem_append_right _ (List.mem_of_getElem? (i := 438) (by decide +kernel))) rfl
theorem mw_439 : (Cond.selects "StoryMachine$Memory" (⟨"StoryMachine$Memory", "wordAt", "(I)I"⟩) (⟨"StoryMachine$Memory", "wordAt", "(I)I"⟩)) ∈ tw_tbl := tw_mem (List.mem_append_right _ (List.mem_of_getElem? (i := 439) (by decide +kernel))) rfl
theorem mw_440 : (Cond.code (⟨"StoryMachine$Memory", "wordAt", "(I)I"⟩) prog_7_method_3_code 2 (some .int)) ∈ tw_tbl := tw_mem (List.mem_append_right _ (List.mem_of_getElem? (i := 440) (by decide +kernel))) rfl
theorem mw_443 : (Cond.classLink "StoryMachine" 63 "java/lang/IllegalStateException") ∈ tw_tbl := tw_mem (List.mem_append_right _ (List.mem_of_getElem? (i := 443) (by decide +kernel))) rfl
theorem mw_444 : (Cond.instantiable "java/lang/IllegalStateException" 6) ∈ tw_tbl := tw_mem (List.mem_append_right _ (List.mem_of_getElem? (i := 444) (by decide +kernel))) rfl
theorem mw_445 : (Cond.castable "java/lang/IllegalStateException" "java/lang/IllegalStateException") ∈ tw_tbl := tw_mem (List.mem_append_right _ (List.mem_of_getElem? (i := 445) (by decide +kernel))) rfl
theorem mw_446 : (Cond.selects "java/lang/IllegalStateException" (⟨"java/lang/Throwable", "fillInStackTrace", "(I)Ljava/lang/Throwable;"⟩) (⟨"java/lang/Throwable", "fillInStackTrace", "(I)Ljava/lang/Throwable;"⟩)) ∈ tw_tbl := tw_mem (List.mem_append_right _ (List.mem_of_getElem? (i := 446) (by decide +kernel))) rfl
theorem mw_447 : (Cond.lays "java/lang/IllegalStateException" "java/lang/Throwable" "cause" "Ljava/lang/Throwable;") ∈ tw_tbl := tw_mem (List.mem_append_right _ (List.mem_of_getElem? (i := 447) (by decide +kernel))) rfl
theorem mw_448 : (Cond.lays "java/lang/IllegalStateException" "java/lang/Throwable" "stackTrace" "[Ljava/lang/StackTraceElement;") ∈ tw_tbl := tw_mem (List.mem_append_right _ (List.mem_of_getElem? (i := 448) (by decide +kernel))) rfl
theorem mw_449 : (Cond.lays "java/lang/IllegalStateException" "java/lang/Throwable" "suppressedExceptions" "Ljava/util/List;") ∈ tw_tbl := tw_mem (List.mem_append_right _ (List.mem_of_getElem? (i := 449) (by decide +kernel))) rfl
theorem mw_450 : (Cond.lays "java/lang/IllegalStateException" "java/lang/Throwable" "detailMessage" "Ljava/lang/String;") ∈ tw_tbl := tw_mem (List.mem_append_right _ (List.mem_of_getElem? (i := 450) (by decide +kernel))) rfl
theorem mw_451 : (Cond.lays "java/lang/IllegalStateException" "java/lang/Throwable" "backtrace" "Ljava/lang/Object;") ∈ tw_tbl := tw_mem (List.mem_append_right _ (List.mem_of_getElem? (i := 451) (by decide +kernel))) rfl
theorem mw_452 : (Cond.methodLink "StoryMachine" 65 (⟨"java/lang/IllegalStateException", "<init>", "()V"⟩)) ∈ tw_tbl := tw_mem (List.mem_append_right _ (List.mem_of_getElem? (i := 452) (by decide +kernel))) rfl
theorem mw_453 : (Cond.instanceMethod (⟨"java/lang/IllegalStateException", "<init>", "()V"⟩)) ∈ tw_tbl := tw_mem (List.mem_append_right _ (List.mem_of_getElem? (i := 453) (by decide +kernel))) rfl
theorem mw_454 : (Cond.code (⟨"java/lang/IllegalStateException", "<init>", "()V"⟩) prog_18_method_1_code 1 none) ∈ tw_tbl := tw_mem (List.mem_append_right _ (List.mem_of_getElem? (i := 454) (by decide +kernel))) rfl
theorem mw_455 : (Cond.methodLink "java/lang/IllegalStateException" 1 (⟨"java/lang/RuntimeException", "<init>", "()V"⟩)) ∈ tw_tbl := tw_mem (List.mem_append_right _ (List.mem_of_getElem? (i := 455) (by decide +kernel))) rfl
theorem mw_458 : (Cond.methodLink "StoryMachine" 66 (⟨"StoryMachine$Engine", "startAt", "(I)V"⟩)) ∈ tw_tbl := tw_mem (List.mem_append_right _ (List.mem_of_getElem? (i := 458) (by decide +kernel))) rfl
theorem mw_459 : (Cond.instanceMethod (⟨"StoryMachine$Engine", "startAt", "(I)V"⟩)) ∈ tw_tbl := tw_mem (List.mem_append_right _ (List.mem_of_getElem? (i := 459) (by decide +kernel))) rfl
theorem mw_460 : (Cond.selects "StoryMachine$Engine" (⟨"StoryMachine$Engine", "startAt", "(I)V"⟩) (⟨"StoryMachine$Engine", "startAt", "(I)V"⟩)) ∈ tw_tbl := tw_mem (List.mem_append_right _ (List.mem_of_getElem? (i := 460) (by decide +kernel))) rfl
theorem mw_461 : (Cond.code (⟨"StoryMachine$Engine", "startAt", "(I)V"⟩) prog_4_method_2_code 2 none) ∈ tw_tbl := tw_mem (List.mem_append_right _ (List.mem_of_getElem? (i := 461) (by decide +kernel))) rfl
theorem mw_462 : (Cond.methodLink "StoryMachine$Engine" 94 (⟨"StoryMachine$Routines", "clear", "()V"⟩)) ∈ tw_tbl := tw_mem (List.mem_append_right _ (List.mem_of_getElem? (i := 462) (by decide +kernel))) rfl
theorem mw_463 : (Cond.instanceMethod (⟨"StoryMachine$Routines", "clear", "()V"⟩)) ∈ tw_tbl := tw_mem (List.mem_append_right _ (List.mem_of_getElem? (i := 463) (by decide +kernel))) rfl
theorem mw_464 : (Cond.selects "StoryMachine$Routines" (⟨"StoryMachine$Routines", "clear", "()V"⟩) (⟨"StoryMachine$Routines", "clear", "()V"⟩)) ∈ tw_tbl := tw_mem (List.mem_append_right _ (List.mem_of_getElem? (i := 464) (by decide +kernel))) rfl
theorem mw_465 : (Cond.code (⟨"StoryMachine$Routines", "clear", "()V"⟩) prog_9_method_2_code 1 none) ∈ tw_tbl := tw_mem (List.mem_append_right _ (List.mem_of_getElem? (i := 465) (by decide +kernel))) rfl
theorem mw_466 : (Cond.methodLink "StoryMachine$Engine" 97 (⟨"StoryMachine$Line", "clear", "()V"⟩)) ∈ tw_tbl := tw_mem (List.mem_append_right _ (List.mem_of_getElem? (i := 466) (by decide +kernel))) rfl
theorem mw_467 : (Cond.instanceMethod (⟨"StoryMachine$Line", "clear", "()V"⟩)) ∈ tw_tbl := tw_mem (List.mem_append_right _ (List.mem_of_getElem? (i := 467) (by decide +kernel))) rfl
theorem mw_468 : (Cond.selects "StoryMachine$Line" (⟨"StoryMachine$Line", "clear", "()V"⟩) (⟨"StoryMachine$Line", "clear", "()V"⟩)) ∈ tw_tbl := tw_mem (List.mem_append_right _ (List.mem_of_getElem? (i := 468) (by decide +kernel))) rfl
theorem mw_469 : (Cond.code (⟨"StoryMachine$Line", "clear", "()V"⟩) prog_6_method_2_code 1 none) ∈ tw_tbl := tw_mem (List.mem_append_right _ (List.mem_of_getElem? (i := 469) (by decide +kernel))) rfl
theorem mw_487 : (Cond.code (⟨"StoryMachine", "run", "(I)I"⟩) prog_1_method_7_code 4 (some .int)) ∈ tw_tbl := tw_mem (List.mem_append_right _ (List.mem_of_getElem? (i := 487) (by decide +kernel))) rfl
theorem mw_1018 : (Cond.code (⟨"StoryMachine", "output", "(I)I"⟩) prog_1_method_10_code 2 (some .int)) ∈ tw_tbl := tw_mem (List.mem_append_right _ (List.mem_of_getElem? (i := 1018) (by decide +kernel))) rfl
theorem mw_1019 : (Cond.classLink "StoryMachine" 97 "java/lang/IndexOutOfBoundsException") ∈ tw_tbl := tw_mem (List.mem_append_right _ (List.mem_of_getElem? (i := 1019) (by decide +kernel))) rfl
theorem mw_1020 : (Cond.instantiable "java/lang/IndexOutOfBoundsException" 6) ∈ tw_tbl := tw_mem (List.mem_append_right _ (List.mem_of_getElem? (i := 1020) (by decide +kernel))) rfl
theorem mw_1021 : (Cond.castable "java/lang/IndexOutOfBoundsException" "java/lang/IndexOutOfBoundsException") ∈ tw_tbl := tw_mem (List.mem_append_right _ (List.mem_of_getElem? (i := 1021) (by decide +kernel))) rfl
theorem mw_1022 : (Cond.selects "java/lang/IndexOutOfBoundsException" (⟨"java/lang/Throwable", "fillInStackTrace", "(I)Ljava/lang/Throwable;"⟩) (⟨"java/lang/Throwable", "fillInStackTrace", "(I)Ljava/lang/Throwable;"⟩)) ∈ tw_tbl := tw_mem (List.mem_append_right _ (List.mem_of_getElem? (i := 1022) (by decide +kernel))) rfl
theorem mw_1023 : (Cond.lays "java/lang/IndexOutOfBoundsException" "java/lang/Throwable" "cause" "Ljava/lang/Throwable;") ∈ tw_tbl := tw_mem (List.mem_append_right _ (List.mem_of_getElem? (i := 1023) (by decide +kernel))) rfl
theorem mw_1024 : (Cond.lays "java/lang/IndexOutOfBoundsException" "java/lang/Throwable" "stackTrace" "[Ljava/lang/StackTraceElement;") ∈ tw_tbl := tw_mem (List.mem_append_right _ (List.mem_of_getElem? (i := 1024) (by decide +kernel))) rfl
theorem mw_1025 : (Cond.lays "java/lang/IndexOutOfBoundsException" "java/lang/Throwable" "suppressedExceptions" "Ljava/util/List;") ∈ tw_tbl := tw_mem (List.mem_append_right _ (List.mem_of_getElem? (i := 1025) (by decide +kernel))) rfl
theorem mw_1026 : (Cond.lays "java/lang/IndexOutOfBoundsException" "java/lang/Throwable" "detailMessage" "Ljava/lang/String;") ∈ tw_tbl := tw_mem (List.mem_append_right _ (List.mem_of_getElem? (i := 1026) (by decide +kernel))) rfl
theorem mw_1027 : (Cond.lays "java/lang/IndexOutOfBoundsException" "java/lang/Throwable" "backtrace" "Ljava/lang/Object;") ∈ tw_tbl := tw_mem (List.mem_append_right _ (List.mem_of_getElem? (i := 1027) (by decide +kernel))) rfl
theorem mw_1028 : (Cond.methodLink "StoryMachine" 99 (⟨"java/lang/IndexOutOfBoundsException", "<init>", "()V"⟩)) ∈ tw_tbl := tw_mem (List.mem_append_right _ (List.mem_of_getElem? (i := 1028) (by decide +kernel))) rfl
theorem mw_1029 : (Cond.instanceMethod (⟨"java/lang/IndexOutOfBoundsException", "<init>", "()V"⟩)) ∈ tw_tbl := tw_mem (List.mem_append_right _ (List.mem_of_getElem? (i := 1029) (by decide +kernel))) rfl
theorem mw_1030 : (Cond.code (⟨"java/lang/IndexOutOfBoundsException", "<init>", "()V"⟩) prog_19_method_1_code 1 none) ∈ tw_tbl := tw_mem (List.mem_append_right _ (List.mem_of_getElem? (i := 1030) (by decide +kernel))) rfl
theorem mw_1031 : (Cond.methodLink "java/lang/IndexOutOfBoundsException" 1 (⟨"java/lang/RuntimeException", "<init>", "()V"⟩)) ∈ tw_tbl := tw_mem (List.mem_append_right _ (List.mem_of_getElem? (i := 1031) (by decide +kernel))) rfl
theorem mw_1044 : (Cond.code (⟨"StoryMachine", "stack", "(I)I"⟩) prog_1_method_11_code 2 (some .int)) ∈ tw_tbl := tw_mem (List.mem_append_right _ (List.mem_of_getElem? (i := 1044) (by decide +kernel))) rfl
theorem mw_1051 : (Cond.code (⟨"StoryMachine", "local", "(I)I"⟩) prog_1_method_12_code 2 (some .int)) ∈ tw_tbl := tw_mem (List.mem_append_right _ (List.mem_of_getElem? (i := 1051) (by decide +kernel))) rfl
theorem mw_1052 : (Cond.methodLink "StoryMachine" 109 (⟨"StoryMachine$Routines", "localCount", "()I"⟩)) ∈ tw_tbl := tw_mem (List.mem_append_right _ (List.mem_of_getElem? (i := 1052) (by decide +kernel))) rfl
theorem mw_1053 : (Cond.instanceMethod (⟨"StoryMachine$Routines", "localCount", "()I"⟩)) ∈ tw_tbl := tw_mem (List.mem_append_right _ (List.mem_of_getElem? (i := 1053) (by decide +kernel))) rfl
theorem mw_1054 : (Cond.selects "StoryMachine$Routines" (⟨"StoryMachine$Routines", "localCount", "()I"⟩) (⟨"StoryMachine$Routines", "localCount", "()I"⟩)) ∈ tw_tbl := tw_mem (List.mem_append_right _ (List.mem_of_getElem? (i := 1054) (by decide +kernel))) rfl
theorem mw_1055 : (Cond.code (⟨"StoryMachine$Routines", "localCount", "()I"⟩) prog_9_method_7_code 1 (some .int)) ∈ tw_tbl := tw_mem (List.mem_append_right _ (List.mem_of_getElem? (i := 1055) (by decide +kernel))) rfl
theorem mw_1061 : (Cond.code (⟨"StoryMachineModel", "<init>", "()V"⟩) prog_13_method_1_code 1 none) ∈ tw_tbl := tw_mem (List.mem_append_right _ (List.mem_of_getElem? (i := 1061) (by decide +kernel))) rfl
theorem mw_1062 : (Cond.methodLink "StoryMachineModel" 1 (⟨"java/lang/Object", "<init>", "()V"⟩)) ∈ tw_tbl := tw_mem (List.mem_append_right _ (List.mem_of_getElem? (i := 1062) (by decide +kernel))) rfl
theorem mw_1063 : (Cond.fieldLink "StoryMachineModel" 73 "StoryMachineModel" "thrown" "I") ∈ tw_tbl := tw_mem (List.mem_append_right _ (List.mem_of_getElem? (i := 1063) (by decide +kernel))) rfl
theorem mw_1064 : (Cond.fieldLink "StoryMachineModel" 7 "StoryMachineModel" "memory" "[I") ∈ tw_tbl := tw_mem (List.mem_append_right _ (List.mem_of_getElem? (i := 1064) (by decide +kernel))) rfl
theorem mw_1065 : (Cond.fieldLink "StoryMachineModel" 94 "StoryMachineModel" "size" "I") ∈ tw_tbl := tw_mem (List.mem_append_right _ (List.mem_of_getElem? (i := 1065) (by decide +kernel))) rfl
theorem mw_1066 : (Cond.fieldLink "StoryMachineModel" 13 "StoryMachineModel" "words" "[I") ∈ tw_tbl := tw_mem (List.mem_append_right _ (List.mem_of_getElem? (i := 1066) (by decide +kernel))) rfl
theorem mw_1067 : (Cond.fieldLink "StoryMachineModel" 97 "StoryMachineModel" "depth" "I") ∈ tw_tbl := tw_mem (List.mem_append_right _ (List.mem_of_getElem? (i := 1067) (by decide +kernel))) rfl
theorem mw_1068 : (Cond.fieldLink "StoryMachineModel" 16 "StoryMachineModel" "many" "[I") ∈ tw_tbl := tw_mem (List.mem_append_right _ (List.mem_of_getElem? (i := 1068) (by decide +kernel))) rfl
theorem mw_1069 : (Cond.fieldLink "StoryMachineModel" 19 "StoryMachineModel" "bottom" "[I") ∈ tw_tbl := tw_mem (List.mem_append_right _ (List.mem_of_getElem? (i := 1069) (by decide +kernel))) rfl
theorem mw_1070 : (Cond.fieldLink "StoryMachineModel" 22 "StoryMachineModel" "back" "[I") ∈ tw_tbl := tw_mem (List.mem_append_right _ (List.mem_of_getElem? (i := 1070) (by decide +kernel))) rfl
theorem mw_1071 : (Cond.fieldLink "StoryMachineModel" 25 "StoryMachineModel" "gets" "[I") ∈ tw_tbl := tw_mem (List.mem_append_right _ (List.mem_of_getElem? (i := 1071) (by decide +kernel))) rfl
theorem mw_1072 : (Cond.fieldLink "StoryMachineModel" 28 "StoryMachineModel" "locals" "[I") ∈ tw_tbl := tw_mem (List.mem_append_right _ (List.mem_of_getElem? (i := 1072) (by decide +kernel))) rfl
theorem mw_1073 : (Cond.fieldLink "StoryMachineModel" 269 "StoryMachineModel" "saved" "Z") ∈ tw_tbl := tw_mem (List.mem_append_right _ (List.mem_of_getElem? (i := 1073) (by decide +kernel))) rfl
theorem mw_1074 : (Cond.fieldLink "StoryMachineModel" 31 "StoryMachineModel" "oldMemory" "[I") ∈ tw_tbl := tw_mem (List.mem_append_right _ (List.mem_of_getElem? (i := 1074) (by decide +kernel))) rfl
theorem mw_1076 : (Cond.fieldLink "StoryMachineModel" 34 "StoryMachineModel" "oldWords" "[I") ∈ tw_tbl := tw_mem (List.mem_append_right _ (List.mem_of_getElem? (i := 1076) (by decide +kernel))) rfl
theorem mw_1078 : (Cond.fieldLink "StoryMachineModel" 37 "StoryMachineModel" "oldMany" "[I") ∈ tw_tbl := tw_mem (List.mem_append_right _ (List.mem_of_getElem? (i := 1078) (by decide +kernel))) rfl
theorem mw_1079 : (Cond.fieldLink "StoryMachineModel" 40 "StoryMachineModel" "oldBottom" "[I") ∈ tw_tbl := tw_mem (List.mem_append_right _ (List.mem_of_getElem? (i := 1079) (by decide +kernel))) rfl
theorem mw_1080 : (Cond.fieldLink "StoryMachineModel" 43 "StoryMachineModel" "oldBack" "[I") ∈ tw_tbl := tw_mem (List.mem_append_right _ (List.mem_of_getElem? (i := 1080) (by decide +kernel))) rfl
theorem mw_1081 : (Cond.fieldLink "StoryMachineModel" 46 "StoryMachineModel" "oldGets" "[I") ∈ tw_tbl := tw_mem (List.mem_append_right _ (List.mem_of_getElem? (i := 1081) (by decide +kernel))) rfl
theorem mw_1082 : (Cond.fieldLink "StoryMachineModel" 49 "StoryMachineModel" "oldLocals" "[I") ∈ tw_tbl := tw_mem (List.mem_append_right _ (List.mem_of_getElem? (i := 1082) (by decide +kernel))) rfl
theorem mw_1086 : (Cond.fieldLink "StoryMachineModel" 377 "StoryMachineModel" "begun" "Z") ∈ tw_tbl := tw_mem (List.mem_append_right _ (List.mem_of_getElem? (i := 1086) (by decide +kernel))) rfl
theorem mw_1087 : (Cond.fieldLink "StoryMachineModel" 380 "StoryMachineModel" "state" "I") ∈ tw_tbl := tw_mem (List.mem_append_right _ (List.mem_of_getElem? (i := 1087) (by decide +kernel))) rfl
theorem mw_1090 : (Cond.fieldLink "StoryMachineModel" 346 "StoryMachineModel" "pc" "I") ∈ tw_tbl := tw_mem (List.mem_append_right _ (List.mem_of_getElem? (i := 1090) (by decide +kernel))) rfl
theorem mw_1092 : (Cond.fieldLink "StoryMachineModel" 374 "StoryMachineModel" "done" "I") ∈ tw_tbl := tw_mem (List.mem_append_right _ (List.mem_of_getElem? (i := 1092) (by decide +kernel))) rfl
theorem mw_1093 : (Cond.fieldLink "StoryMachineModel" 309 "StoryMachineModel" "chance" "I") ∈ tw_tbl := tw_mem (List.mem_append_right _ (List.mem_of_getElem? (i := 1093) (by decide +kernel))) rfl
theorem mw_1094 : (Cond.fieldLink "StoryMachineModel" 120 "StoryMachineModel" "shown" "I") ∈ tw_tbl := tw_mem (List.mem_append_right _ (List.mem_of_getElem? (i := 1094) (by decide +kernel))) rfl
theorem mw_1095 : (Cond.fieldLink "StoryMachineModel" 52 "StoryMachineModel" "latest" "[I") ∈ tw_tbl := tw_mem (List.mem_append_right _ (List.mem_of_getElem? (i := 1095) (by decide +kernel))) rfl
theorem mw_1096 : (Cond.fieldLink "StoryMachineModel" 312 "StoryMachineModel" "entered" "Z") ∈ tw_tbl := tw_mem (List.mem_append_right _ (List.mem_of_getElem? (i := 1096) (by decide +kernel))) rfl
theorem mw_1097 : (Cond.fieldLink "StoryMachineModel" 391 "StoryMachineModel" "typedSize" "I") ∈ tw_tbl := tw_mem (List.mem_append_right _ (List.mem_of_getElem? (i := 1097) (by decide +kernel))) rfl
theorem mw_1098 : (Cond.fieldLink "StoryMachineModel" 55 "StoryMachineModel" "typed" "[I") ∈ tw_tbl := tw_mem (List.mem_append_right _ (List.mem_of_getElem? (i := 1098) (by decide +kernel))) rfl
theorem mw_1099 : (Cond.fieldLink "StoryMachineModel" 315 "StoryMachineModel" "lineSize" "I") ∈ tw_tbl := tw_mem (List.mem_append_right _ (List.mem_of_getElem? (i := 1099) (by decide +kernel))) rfl
theorem mw_1100 : (Cond.fieldLink "StoryMachineModel" 58 "StoryMachineModel" "line" "[I") ∈ tw_tbl := tw_mem (List.mem_append_right _ (List.mem_of_getElem? (i := 1100) (by decide +kernel))) rfl
theorem mw_1102 : (Cond.fieldLink "StoryMachineModel" 61 "StoryMachineModel" "numbers" "[I") ∈ tw_tbl := tw_mem (List.mem_append_right _ (List.mem_of_getElem? (i := 1102) (by decide +kernel))) rfl
theorem mw_1111 : (Cond.fieldLink "StoryMachineModel" 64 "StoryMachineModel" "letters" "[I") ∈ tw_tbl := tw_mem (List.mem_append_right _ (List.mem_of_getElem? (i := 1111) (by decide +kernel))) rfl
theorem mw_1112 : (Cond.fieldLink "StoryMachineModel" 67 "StoryMachineModel" "starts" "[I") ∈ tw_tbl := tw_mem (List.mem_append_right _ (List.mem_of_getElem? (i := 1112) (by decide +kernel))) rfl
theorem mw_1113 : (Cond.fieldLink "StoryMachineModel" 70 "StoryMachineModel" "lengths" "[I") ∈ tw_tbl := tw_mem (List.mem_append_right _ (List.mem_of_getElem? (i := 1113) (by decide +kernel))) rfl
theorem mw_1114 : (Cond.lays "StoryMachineModel" "StoryMachineModel" "thrown" "I") ∈ tw_tbl := tw_mem (List.mem_append_right _ (List.mem_of_getElem? (i := 1114) (by decide +kernel))) rfl
theorem mw_1116 : (Cond.laysFinal "StoryMachineModel" "StoryMachineModel" "memory" "[I") ∈ tw_tbl := tw_mem (List.mem_append_right _ (List.mem_of_getElem? (i := 1116) (by decide +kernel))) rfl
theorem mw_1118 : (Cond.lays "StoryMachineModel" "StoryMachineModel" "size" "I") ∈ tw_tbl := tw_mem (List.mem_append_right _ (List.mem_of_getElem? (i := 1118) (by decide +kernel))) rfl
theorem mw_1120 : (Cond.laysFinal "StoryMachineModel" "StoryMachineModel" "words" "[I") ∈ tw_tbl := tw_mem (List.mem_append_right _ (List.mem_of_getElem? (i := 1120) (by decide +kernel))) rfl
theorem mw_1122 : (Cond.lays "StoryMachineModel" "StoryMachineModel" "depth" "I") ∈ tw_tbl := tw_mem (List.mem_append_right _ (List.mem_of_getElem? (i := 1122) (by decide +kernel))) rfl
theorem mw_1124 : (Cond.laysFinal "StoryMachineModel" "StoryMachineModel" "many" "[I") ∈ tw_tbl := tw_mem (List.mem_append_right _ (List.mem_of_getElem? (i := 1124) (by decide +kernel))) rfl
theorem mw_1126 : (Cond.laysFinal "StoryMachineModel" "StoryMachineModel" "bottom" "[I") ∈ tw_tbl := tw_mem (List.mem_append_right _ (List.mem_of_getElem? (i := 1126) (by decide +kernel))) rfl
theorem mw_1128 : (Cond.laysFinal "StoryMachineModel" "StoryMachineModel" "back" "[I") ∈ tw_tbl := tw_mem (List.mem_append_right _ (List.mem_of_getElem? (i := 1128) (by decide +kernel))) rfl
theorem mw_1130 : (Cond.laysFinal "StoryMachineModel" "StoryMachineModel" "gets" "[I") ∈ tw_tbl := tw_mem (List.mem_append_right _ (List.mem_of_getElem? (i := 1130) (by decide +kernel))) rfl
theorem mw_1132 : (Cond.laysFinal "StoryMachineModel" "StoryMachineModel" "locals" "[I") ∈ tw_tbl := tw_mem (List.mem_append_right _ (List.mem_of_getElem? (i := 1132) (by decide +kernel))) rfl
theorem mw_1134 : (Cond.lays "StoryMachineModel" "StoryMachineModel" "saved" "Z") ∈ tw_tbl := tw_mem (List.mem_append_right _ (List.mem_of_getElem? (i := 1134) (by decide +kernel))) rfl
theorem mw_1136 : (Cond.laysFinal "StoryMachineModel" "StoryMachineModel" "oldMemory" "[I") ∈ tw_tbl := tw_mem (List.mem_append_right _ (List.mem_of_getElem? (i := 1136) (by decide +kernel))) rfl
theorem mw_1138 : (Cond.lays "StoryMachineModel" "StoryMachineModel" "oldSize" "I") ∈ tw_tbl := tw_mem (List.mem_append_right _ (List.mem_of_getElem? (i := 1138) (by decide +kernel))) rfl
theorem mw_1140 : (Cond.laysFinal "StoryMachineModel" "StoryMachineModel" "oldWords" "[I") ∈ tw_tbl := tw_mem (List.mem_append_right _ (List.mem_of_getElem? (i := 1140) (by decide +kernel))) rfl
theorem mw_1142 : (Cond.lays "StoryMachineModel" "StoryMachineModel" "oldDepth" "I") ∈ tw_tbl := tw_mem (List.mem_append_right _ (List.mem_of_getElem? (i := 1142) (by decide +kernel))) rfl
theorem mw_1144 : (Cond.laysFinal "StoryMachineModel" "StoryMachineModel" "oldMany" "[I") ∈ tw_tbl := tw_mem (List.mem_append_right _ (List.mem_of_getElem? (i := 1144) (by decide +kernel))) rfl
theorem mw_1146 : (Cond.laysFinal "StoryMachineModel" "StoryMachineModel" "oldBottom" "[I") ∈ tw_tbl := tw_mem (List.mem_append_right _ (List.mem_of_getElem? (i := 1146) (by decide +kernel))) rfl
theorem mw_1148 : (Cond.laysFinal "StoryMachineModel" "StoryMachineModel" "oldBack" "[I") ∈ tw_tbl := tw_mem (List.mem_append_right _ (List.mem_of_getElem? (i := 1148) (by decide +kernel))) rfl
theorem mw_1150 : (Cond.laysFinal "StoryMachineModel" "StoryMachineModel" "oldGets" "[I") ∈ tw_tbl := tw_mem (List.mem_append_right _ (List.mem_of_getElem? (i := 1150) (by decide +kernel))) rfl
theorem mw_1152 : (Cond.laysFinal "StoryMachineModel" "StoryMachineModel" "oldLocals" "[I") ∈ tw_tbl := tw_mem (List.mem_append_right _ (List.mem_of_getElem? (i := 1152) (by decide +kernel))) rfl
theorem mw_1154 : (Cond.lays "StoryMachineModel" "StoryMachineModel" "oldBehind" "I") ∈ tw_tbl := tw_mem (List.mem_append_right _ (List.mem_of_getElem? (i := 1154) (by decide +kernel))) rfl
theorem mw_1156 : (Cond.lays "StoryMachineModel" "StoryMachineModel" "oldSense" "Z") ∈ tw_tbl := tw_mem (List.mem_append_right _ (List.mem_of_getElem? (i := 1156) (by decide +kernel))) rfl
theorem mw_1158 : (Cond.lays "StoryMachineModel" "StoryMachineModel" "oldOffset" "I") ∈ tw_tbl := tw_mem (List.mem_append_right _ (List.mem_of_getElem? (i := 1158) (by decide +kernel))) rfl
theorem mw_1160 : (Cond.lays "StoryMachineModel" "StoryMachineModel" "begun" "Z") ∈ tw_tbl := tw_mem (List.mem_append_right _ (List.mem_of_getElem? (i := 1160) (by decide +kernel))) rfl
theorem mw_1162 : (Cond.lays "StoryMachineModel" "StoryMachineModel" "state" "I") ∈ tw_tbl := tw_mem (List.mem_append_right _ (List.mem_of_getElem? (i := 1162) (by decide +kernel))) rfl
theorem mw_1164 : (Cond.lays "StoryMachineModel" "StoryMachineModel" "trouble" "I") ∈ tw_tbl := tw_mem (List.mem_append_right _ (List.mem_of_getElem? (i := 1164) (by decide +kernel))) rfl
theorem mw_1166 : (Cond.lays "StoryMachineModel" "StoryMachineModel" "ends" "Z") ∈ tw_tbl := tw_mem (List.mem_append_right _ (List.mem_of_getElem? (i := 1166) (by decide +kernel))) rfl
theorem mw_1168 : (Cond.lays "StoryMachineModel" "StoryMachineModel" "pc" "I") ∈ tw_tbl := tw_mem (List.mem_append_right _ (List.mem_of_getElem? (i := 1168) (by decide +kernel))) rfl
theorem mw_1170 : (Cond.lays "StoryMachineModel" "StoryMachineModel" "next" "I") ∈ tw_tbl := tw_mem (List.mem_append_right _ (List.mem_of_getElem? (i := 1170) (by decide +kernel))) rfl
theorem mw_1172 : (Cond.lays "StoryMachineModel" "StoryMachineModel" "done" "I") ∈ tw_tbl := tw_mem (List.mem_append_right _ (List.mem_of_getElem? (i := 1172) (by decide +kernel))) rfl
theorem mw_1174 : (Cond.lays "StoryMachineModel" "StoryMachineModel" "chance" "I") ∈ tw_tbl := tw_mem (List.mem_append_right _ (List.mem_of_getElem? (i := 1174) (by decide +kernel))) rfl
theorem mw_1176 : (Cond.lays "StoryMachineModel" "StoryMachineModel" "shown" "I") ∈ tw_tbl := tw_mem (List.mem_append_right _ (List.mem_of_getElem? (i := 1176) (by decide +kernel))) rfl
theorem mw_1178 : (Cond.laysFinal "StoryMachineModel" "StoryMachineModel" "latest" "[I") ∈ tw_tbl := tw_mem (List.mem_append_right _ (List.mem_of_getElem? (i := 1178) (by decide +kernel))) rfl
theorem mw_1180 : (Cond.lays "StoryMachineModel" "StoryMachineModel" "entered" "Z") ∈ tw_tbl := tw_mem (List.mem_append_right _ (List.mem_of_getElem? (i := 1180) (by decide +kernel))) rfl
theorem mw_1182 : (Cond.lays "StoryMachineModel" "StoryMachineModel" "typedSize" "I") ∈ tw_tbl := tw_mem (List.mem_append_right _ (List.mem_of_getElem? (i := 1182) (by decide +kernel))) rfl
theorem mw_1184 : (Cond.laysFinal "StoryMachineModel" "StoryMachineModel" "typed" "[I") ∈ tw_tbl := tw_mem (List.mem_append_right _ (List.mem_of_getElem? (i := 1184) (by decide +kernel))) rfl
theorem mw_1186 : (Cond.lays "StoryMachineModel" "StoryMachineModel" "lineSize" "I") ∈ tw_tbl := tw_mem (List.mem_append_right _ (List.mem_of_getElem? (i := 1186) (by decide +kernel))) rfl
theorem mw_1188 : (Cond.laysFinal "StoryMachineModel" "StoryMachineModel" "line" "[I") ∈ tw_tbl := tw_mem (List.mem_append_right _ (List.mem_of_getElem? (i := 1188) (by decide +kernel))) rfl
theorem mw_1190 : (Cond.lays "StoryMachineModel" "StoryMachineModel" "count" "I") ∈ tw_tbl := tw_mem (List.mem_append_right _ (List.mem_of_getElem? (i := 1190) (by decide +kernel))) rfl
theorem mw_1192 : (Cond.laysFinal "StoryMachineModel" "StoryMachineModel" "numbers" "[I") ∈ tw_tbl := tw_mem (List.mem_append_right _ (List.mem_of_getElem? (i := 1192) (by decide +kernel))) rfl
theorem mw_1194 : (Cond.lays "StoryMachineModel" "StoryMachineModel" "result" "I") ∈ tw_tbl := tw_mem (List.mem_append_right _ (List.mem_of_getElem? (i := 1194) (by decide +kernel))) rfl
theorem mw_1196 : (Cond.lays "StoryMachineModel" "StoryMachineModel" "sense" "Z") ∈ tw_tbl := tw_mem (List.mem_append_right _ (List.mem_of_getElem? (i := 1196) (by decide +kernel))) rfl
theorem mw_1198 : (Cond.lays "StoryMachineModel" "StoryMachineModel" "offset" "I") ∈ tw_tbl := tw_mem (List.mem_append_right _ (List.mem_of_getElem? (i := 1198) (by decide +kernel))) rfl
theorem mw_1200 : (Cond.lays "StoryMachineModel" "StoryMachineModel" "behind" "I") ∈ tw_tbl := tw_mem (List.mem_append_right _ (List.mem_of_getElem? (i := 1200) (by decide +kernel))) rfl
theorem mw_1202 : (Cond.lays "StoryMachineModel" "StoryMachineModel" "alphabet" "I") ∈ tw_tbl := tw_mem (List.mem_append_right _ (List.mem_of_getElem? (i := 1202) (by decide +kernel))) rfl
theorem mw_1204 : (Cond.lays "StoryMachineModel" "StoryMachineModel" "pending" "I") ∈ tw_tbl := tw_mem (List.mem_append_right _ (List.mem_of_getElem? (i := 1204) (by decide +kernel))) rfl
theorem mw_1206 : (Cond.lays "StoryMachineModel" "StoryMachineModel" "high" "I") ∈ tw_tbl := tw_mem (List.mem_append_right _ (List.mem_of_getElem? (i := 1206) (by decide +kernel))) rfl
theorem mw_1208 : (Cond.lays "StoryMachineModel" "StoryMachineModel" "lettered" "I") ∈ tw_tbl := tw_mem (List.mem_append_right _ (List.mem_of_getElem? (i := 1208) (by decide +kernel))) rfl
theorem mw_1210 : (Cond.laysFinal "StoryMachineModel" "StoryMachineModel" "letters" "[I") ∈ tw_tbl := tw_mem (List.mem_append_right _ (List.mem_of_getElem? (i := 1210) (by decide +kernel))) rfl
theorem mw_1212 : (Cond.laysFinal "StoryMachineModel" "StoryMachineModel" "starts" "[I") ∈ tw_tbl := tw_mem (List.mem_append_right _ (List.mem_of_getElem? (i := 1212) (by decide +kernel))) rfl
theorem mw_1214 : (Cond.laysFinal "StoryMachineModel" "StoryMachineModel" "lengths" "[I") ∈ tw_tbl := tw_mem (List.mem_append_right _ (List.mem_of_getElem? (i := 1214) (by decide +kernel))) rfl
theorem mw_1220 : (Cond.code (⟨"StoryMachineModel", "thrown", "()I"⟩) prog_13_method_2_code 1 (some .int)) ∈ tw_tbl := tw_mem (List.mem_append_right _ (List.mem_of_getElem? (i := 1220) (by decide +kernel))) rfl
theorem mw_1224 : (Cond.code (⟨"StoryMachineModel", "run", "(I)I"⟩) prog_13_method_72_code 3 (some .int)) ∈ tw_tbl := tw_mem (List.mem_append_right _ (List.mem_of_getElem? (i := 1224) (by decide +kernel))) rfl
theorem mw_1426 : (Cond.methodLink "StoryMachineModel" 272 (⟨"StoryMachineModel", "copy", "([I[II)V"⟩)) ∈ tw_tbl := tw_mem (List.mem_append_right _ (List.mem_of_getElem? (i := 1426) (by decide +kernel))) rfl
theorem mw_1427 : (Cond.static (⟨"StoryMachineModel", "copy", "([I[II)V"⟩)) ∈ tw_tbl := tw_mem (List.mem_append_right _ (List.mem_of_getElem? (i := 1427) (by decide +kernel))) rfl
theorem mw_1428 : (Cond.code (⟨"StoryMachineModel", "copy", "([I[II)V"⟩) prog_13_method_56_code 4 none) ∈ tw_tbl := tw_mem (List.mem_append_right _ (List.mem_of_getElem? (i := 1428) (by decide +kernel))) rfl
theorem mw_1508 : (Cond.code (⟨"StoryMachineModel", "peek", "(I)I"⟩) prog_13_method_75_code 2 (some .int)) ∈ tw_tbl := tw_mem (List.mem_append_right _ (List.mem_of_getElem? (i := 1508) (by decide +kernel))) rfl
theorem mw_1512 : (Cond.code (⟨"StoryMachineModel", "begin", "()V"⟩) prog_13_method_76_code 2 none) ∈ tw_tbl := tw_mem (List.mem_append_right _ (List.mem_of_getElem? (i := 1512) (by decide +kernel))) rfl
theorem mw_1522 : (Cond.code (⟨"StoryMachineModel", "enter", "()V"⟩) prog_13_method_78_code 1 none) ∈ tw_tbl := tw_mem (List.mem_append_right _ (List.mem_of_getElem? (i := 1522) (by decide +kernel))) rfl
theorem mw_1526 : (Cond.code (⟨"StoryMachineModel", "steps", "()I"⟩) prog_13_method_79_code 1 (some .int)) ∈ tw_tbl := tw_mem (List.mem_append_right _ (List.mem_of_getElem? (i := 1526) (by decide +kernel))) rfl
theorem mw_1530 : (Cond.code (⟨"StoryMachineModel", "place", "()I"⟩) prog_13_method_80_code 1 (some .int)) ∈ tw_tbl := tw_mem (List.mem_append_right _ (List.mem_of_getElem? (i := 1530) (by decide +kernel))) rfl
theorem mw_1534 : (Cond.code (⟨"StoryMachineModel", "output", "(I)I"⟩) prog_13_method_81_code 2 (some .int)) ∈ tw_tbl := tw_mem (List.mem_append_right _ (List.mem_of_getElem? (i := 1534) (by decide +kernel))) rfl
theorem mw_1538 : (Cond.code (⟨"StoryMachineModel", "stack", "(I)I"⟩) prog_13_method_82_code 2 (some .int)) ∈ tw_tbl := tw_mem (List.mem_append_right _ (List.mem_of_getElem? (i := 1538) (by decide +kernel))) rfl
theorem mw_1542 : (Cond.code (⟨"StoryMachineModel", "local", "(I)I"⟩) prog_13_method_83_code 2 (some .int)) ∈ tw_tbl := tw_mem (List.mem_append_right _ (List.mem_of_getElem? (i := 1542) (by decide +kernel))) rfl
theorem mw_1546 : (Cond.code (⟨"StoryMachineModel", "routines", "()I"⟩) prog_13_method_84_code 1 (some .int)) ∈ tw_tbl := tw_mem (List.mem_append_right _ (List.mem_of_getElem? (i := 1546) (by decide +kernel))) rfl
def T_SM : u_T := fun k => match k with
  | 0 => ("StoryMachine", "memory", "LStoryMachine$Memory;", true)
  | 1 => ("StoryMachine", "line", "LStoryMachine$Line;", true)
  | 2 => ("StoryMachine", "routines", "LStoryMachine$Routines;", true)
  | 3 => ("StoryMachine", "printer", "LStoryMachine$Printer;", true)
  | _ => ("StoryMachine", "engine", "LStoryMachine$Engine;", true)
def t_SM : Nat → FieldType := fun k => match k with
  | 0 => .object "StoryMachine$Memory"
  | 1 => .object "StoryMachine$Line"
  | 2 => .object "StoryMachine$Routines"
  | 3 => .object "StoryMachine$Printer"
  | _ => .object "StoryMachine$Engine"
set_option maxRecDepth 20000 in
theorem nm_SM : ∀ a, a < 5 → ∀ b, b < 5 → a ≠ b → (T_SM a).2.1 ≠ (T_SM b).2.1 := by decide +kernel
theorem tk_SM : ∀ k, k < 5 → parseFieldDescriptor (T_SM k).2.2.1 = some (t_SM k) := by decide +kernel
theorem in_SM : ∀ w ∈ u_ws "StoryMachine" T_SM 5, w ∈ tw_tbl := by
  show ∀ w ∈ [Cond.laysFinal "StoryMachine" "StoryMachine" "memory" "LStoryMachine$Memory;", Cond.laysFinal "StoryMachine" "StoryMachine" "line" "LStoryMachine$Line;", Cond.laysFinal "StoryMachine" "StoryMachine" "routines" "LStoryMachine$Routines;", Cond.laysFinal "StoryMachine" "StoryMachine" "printer" "LStoryMachine$Printer;", Cond.laysFinal "StoryMachine" "StoryMachine" "engine" "LStoryMachine$Engine;"], w ∈ tw_tbl
  exact List.forall_mem_cons.mpr ⟨mw_315, List.forall_mem_cons.mpr ⟨mw_317, List.forall_mem_cons.mpr ⟨mw_319, List.forall_mem_cons.mpr ⟨mw_321, List.forall_mem_cons.mpr ⟨mw_323, (fun _ h => by cases h)⟩⟩⟩⟩⟩
def T_Me : u_T := fun k => match k with
  | _ => ("StoryMachine$Memory", "bytes", "[I", true)
def t_Me : Nat → FieldType := fun k => match k with
  | _ => .array .int
set_option maxRecDepth 20000 in
theorem nm_Me : ∀ a, a < 1 → ∀ b, b < 1 → a ≠ b → (T_Me a).2.1 ≠ (T_Me b).2.1 := by decide +kernel
theorem tk_Me : ∀ k, k < 1 → parseFieldDescriptor (T_Me k).2.2.1 = some (t_Me k) := by decide +kernel
theorem in_Me : ∀ w ∈ u_ws "StoryMachine$Memory" T_Me 1, w ∈ tw_tbl := by
  show ∀ w ∈ [Cond.laysFinal "StoryMachine$Memory" "StoryMachine$Memory" "bytes" "[I"], w ∈ tw_tbl
  exact List.forall_mem_cons.mpr ⟨mw_44, (fun _ h => by cases h)⟩
def T_Li : u_T := fun k => match k with
  | 0 => ("StoryMachine$Line", "typed", "[I", true)
  | 1 => ("StoryMachine$Line", "typedLength", "I", false)
  | 2 => ("StoryMachine$Line", "entered", "[I", true)
  | 3 => ("StoryMachine$Line", "enteredLength", "I", false)
  | _ => ("StoryMachine$Line", "isEntered", "Z", false)
def t_Li : Nat → FieldType := fun k => match k with
  | 0 => .array .int
  | 1 => .int
  | 2 => .array .int
  | 3 => .int
  | _ => .boolean
set_option maxRecDepth 20000 in
theorem nm_Li : ∀ a, a < 5 → ∀ b, b < 5 → a ≠ b → (T_Li a).2.1 ≠ (T_Li b).2.1 := by decide +kernel
theorem tk_Li : ∀ k, k < 5 → parseFieldDescriptor (T_Li k).2.2.1 = some (t_Li k) := by decide +kernel
theorem in_Li : ∀ w ∈ u_ws "StoryMachine$Line" T_Li 5, w ∈ tw_tbl := by
  show ∀ w ∈ [Cond.laysFinal "StoryMachine$Line" "StoryMachine$Line" "typed" "[I", Cond.lays "StoryMachine$Line" "StoryMachine$Line" "typedLength" "I", Cond.laysFinal "StoryMachine$Line" "StoryMachine$Line" "entered" "[I", Cond.lays "StoryMachine$Line" "StoryMachine$Line" "enteredLength" "I", Cond.lays "StoryMachine$Line" "StoryMachine$Line" "isEntered" "Z"], w ∈ tw_tbl
  exact List.forall_mem_cons.mpr ⟨mw_63, List.forall_mem_cons.mpr ⟨mw_65, List.forall_mem_cons.mpr ⟨mw_67, List.forall_mem_cons.mpr ⟨mw_69, List.forall_mem_cons.mpr ⟨mw_71, (fun _ h => by cases h)⟩⟩⟩⟩⟩
def T_Ro : u_T := fun k => match k with
  | 0 => ("StoryMachine$Routines", "words", "[I", true)
  | 1 => ("StoryMachine$Routines", "height", "I", false)
  | 2 => ("StoryMachine$Routines", "depth", "I", false)
  | 3 => ("StoryMachine$Routines", "floors", "[I", true)
  | 4 => ("StoryMachine$Routines", "behinds", "[I", true)
  | 5 => ("StoryMachine$Routines", "results", "[I", true)
  | 6 => ("StoryMachine$Routines", "localCounts", "[I", true)
  | _ => ("StoryMachine$Routines", "locals", "[I", true)
def t_Ro : Nat → FieldType := fun k => match k with
  | 0 => .array .int
  | 1 => .int
  | 2 => .int
  | 3 => .array .int
  | 4 => .array .int
  | 5 => .array .int
  | 6 => .array .int
  | _ => .array .int
set_option maxRecDepth 20000 in
theorem nm_Ro : ∀ a, a < 8 → ∀ b, b < 8 → a ≠ b → (T_Ro a).2.1 ≠ (T_Ro b).2.1 := by decide +kernel
theorem tk_Ro : ∀ k, k < 8 → parseFieldDescriptor (T_Ro k).2.2.1 = some (t_Ro k) := by decide +kernel
theorem in_Ro : ∀ w ∈ u_ws "StoryMachine$Routines" T_Ro 8, w ∈ tw_tbl := by
  show ∀ w ∈ [Cond.laysFinal "StoryMachine$Routines" "StoryMachine$Routines" "words" "[I", Cond.lays "StoryMachine$Routines" "StoryMachine$Routines" "height" "I", Cond.lays "StoryMachine$Routines" "StoryMachine$Routines" "depth" "I", Cond.laysFinal "StoryMachine$Routines" "StoryMachine$Routines" "floors" "[I", Cond.laysFinal "StoryMachine$Routines" "StoryMachine$Routines" "behinds" "[I", Cond.laysFinal "StoryMachine$Routines" "StoryMachine$Routines" "results" "[I", Cond.laysFinal "StoryMachine$Routines" "StoryMachine$Routines" "localCounts" "[I", Cond.laysFinal "StoryMachine$Routines" "StoryMachine$Routines" "locals" "[I"], w ∈ tw_tbl
  exact List.forall_mem_cons.mpr ⟨mw_91, List.forall_mem_cons.mpr ⟨mw_93, List.forall_mem_cons.mpr ⟨mw_95, List.forall_mem_cons.mpr ⟨mw_97, List.forall_mem_cons.mpr ⟨mw_99, List.forall_mem_cons.mpr ⟨mw_101, List.forall_mem_cons.mpr ⟨mw_103, List.forall_mem_cons.mpr ⟨mw_105, (fun _ h => by cases h)⟩⟩⟩⟩⟩⟩⟩⟩
def T_Pr : u_T := fun k => match k with
  | 0 => ("StoryMachine$Printer", "memory", "LStoryMachine$Memory;", true)
  | 1 => ("StoryMachine$Printer", "kept", "[I", true)
  | 2 => ("StoryMachine$Printer", "count", "I", false)
  | 3 => ("StoryMachine$Printer", "mode", "I", false)
  | _ => ("StoryMachine$Printer", "half", "I", false)
def t_Pr : Nat → FieldType := fun k => match k with
  | 0 => .object "StoryMachine$Memory"
  | 1 => .array .int
  | 2 => .int
  | 3 => .int
  | _ => .int
set_option maxRecDepth 20000 in
theorem nm_Pr : ∀ a, a < 5 → ∀ b, b < 5 → a ≠ b → (T_Pr a).2.1 ≠ (T_Pr b).2.1 := by decide +kernel
theorem tk_Pr : ∀ k, k < 5 → parseFieldDescriptor (T_Pr k).2.2.1 = some (t_Pr k) := by decide +kernel
theorem in_Pr : ∀ w ∈ u_ws "StoryMachine$Printer" T_Pr 5, w ∈ tw_tbl := by
  show ∀ w ∈ [Cond.laysFinal "StoryMachine$Printer" "StoryMachine$Printer" "memory" "LStoryMachine$Memory;", Cond.laysFinal "StoryMachine$Printer" "StoryMachine$Printer" "kept" "[I", Cond.lays "StoryMachine$Printer" "StoryMachine$Printer" "count" "I", Cond.lays "StoryMachine$Printer" "StoryMachine$Printer" "mode" "I", Cond.lays "StoryMachine$Printer" "StoryMachine$Printer" "half" "I"], w ∈ tw_tbl
  exact List.forall_mem_cons.mpr ⟨mw_121, List.forall_mem_cons.mpr ⟨mw_123, List.forall_mem_cons.mpr ⟨mw_125, List.forall_mem_cons.mpr ⟨mw_127, List.forall_mem_cons.mpr ⟨mw_129, (fun _ h => by cases h)⟩⟩⟩⟩⟩
def T_En : u_T := fun k => match k with
  | 0 => ("StoryMachine$Engine", "memory", "LStoryMachine$Memory;", true)
  | 1 => ("StoryMachine$Engine", "line", "LStoryMachine$Line;", true)
  | 2 => ("StoryMachine$Engine", "routines", "LStoryMachine$Routines;", true)
  | 3 => ("StoryMachine$Engine", "printer", "LStoryMachine$Printer;", true)
  | 4 => ("StoryMachine$Engine", "variables", "LStoryMachine$Variables;", true)
  | 5 => ("StoryMachine$Engine", "tree", "LStoryMachine$Tree;", true)
  | 6 => ("StoryMachine$Engine", "dictionary", "LStoryMachine$Dictionary;", true)
  | 7 => ("StoryMachine$Engine", "instruction", "LStoryMachine$Instruction;", true)
  | 8 => ("StoryMachine$Engine", "aside", "LStoryMachine$Aside;", true)
  | 9 => ("StoryMachine$Engine", "newLocals", "[I", true)
  | 10 => ("StoryMachine$Engine", "canGoOn", "Z", false)
  | 11 => ("StoryMachine$Engine", "current", "I", false)
  | 12 => ("StoryMachine$Engine", "stepsDone", "I", false)
  | 13 => ("StoryMachine$Engine", "next", "I", false)
  | _ => ("StoryMachine$Engine", "random", "I", false)
def t_En : Nat → FieldType := fun k => match k with
  | 0 => .object "StoryMachine$Memory"
  | 1 => .object "StoryMachine$Line"
  | 2 => .object "StoryMachine$Routines"
  | 3 => .object "StoryMachine$Printer"
  | 4 => .object "StoryMachine$Variables"
  | 5 => .object "StoryMachine$Tree"
  | 6 => .object "StoryMachine$Dictionary"
  | 7 => .object "StoryMachine$Instruction"
  | 8 => .object "StoryMachine$Aside"
  | 9 => .array .int
  | 10 => .boolean
  | 11 => .int
  | 12 => .int
  | 13 => .int
  | _ => .int
set_option maxRecDepth 20000 in
theorem nm_En : ∀ a, a < 15 → ∀ b, b < 15 → a ≠ b → (T_En a).2.1 ≠ (T_En b).2.1 := by decide +kernel
theorem tk_En : ∀ k, k < 15 → parseFieldDescriptor (T_En k).2.2.1 = some (t_En k) := by decide +kernel
theorem in_En : ∀ w ∈ u_ws "StoryMachine$Engine" T_En 15, w ∈ tw_tbl := by
  show ∀ w ∈ [Cond.laysFinal "StoryMachine$Engine" "StoryMachine$Engine" "memory" "LStoryMachine$Memory;", Cond.laysFinal "StoryMachine$Engine" "StoryMachine$Engine" "line" "LStoryMachine$Line;", Cond.laysFinal "StoryMachine$Engine" "StoryMachine$Engine" "routines" "LStoryMachine$Routines;", Cond.laysFinal "StoryMachine$Engine" "StoryMachine$Engine" "printer" "LStoryMachine$Printer;", Cond.laysFinal "StoryMachine$Engine" "StoryMachine$Engine" "variables" "LStoryMachine$Variables;", Cond.laysFinal "StoryMachine$Engine" "StoryMachine$Engine" "tree" "LStoryMachine$Tree;", Cond.laysFinal "StoryMachine$Engine" "StoryMachine$Engine" "dictionary" "LStoryMachine$Dictionary;", Cond.laysFinal "StoryMachine$Engine" "StoryMachine$Engine" "instruction" "LStoryMachine$Instruction;", Cond.laysFinal "StoryMachine$Engine" "StoryMachine$Engine" "aside" "LStoryMachine$Aside;", Cond.laysFinal "StoryMachine$Engine" "StoryMachine$Engine" "newLocals" "[I", Cond.lays "StoryMachine$Engine" "StoryMachine$Engine" "canGoOn" "Z", Cond.lays "StoryMachine$Engine" "StoryMachine$Engine" "current" "I", Cond.lays "StoryMachine$Engine" "StoryMachine$Engine" "stepsDone" "I", Cond.lays "StoryMachine$Engine" "StoryMachine$Engine" "next" "I", Cond.lays "StoryMachine$Engine" "StoryMachine$Engine" "random" "I"], w ∈ tw_tbl
  exact List.forall_mem_cons.mpr ⟨mw_279, List.forall_mem_cons.mpr ⟨mw_281, List.forall_mem_cons.mpr ⟨mw_283, List.forall_mem_cons.mpr ⟨mw_285, List.forall_mem_cons.mpr ⟨mw_287, List.forall_mem_cons.mpr ⟨mw_289, List.forall_mem_cons.mpr ⟨mw_291, List.forall_mem_cons.mpr ⟨mw_293, List.forall_mem_cons.mpr ⟨mw_295, List.forall_mem_cons.mpr ⟨mw_297, List.forall_mem_cons.mpr ⟨mw_299, List.forall_mem_cons.mpr ⟨mw_301, List.forall_mem_cons.mpr ⟨mw_303, List.forall_mem_cons.mpr ⟨mw_305, List.forall_mem_cons.mpr ⟨mw_307, (fun _ h => by cases h)⟩⟩⟩⟩⟩⟩⟩⟩⟩⟩⟩⟩⟩⟩⟩
def T_Va : u_T := fun k => match k with
  | 0 => ("StoryMachine$Variables", "memory", "LStoryMachine$Memory;", true)
  | _ => ("StoryMachine$Variables", "routines", "LStoryMachine$Routines;", true)
def t_Va : Nat → FieldType := fun k => match k with
  | 0 => .object "StoryMachine$Memory"
  | _ => .object "StoryMachine$Routines"
set_option maxRecDepth 20000 in
theorem nm_Va : ∀ a, a < 2 → ∀ b, b < 2 → a ≠ b → (T_Va a).2.1 ≠ (T_Va b).2.1 := by decide +kernel
theorem tk_Va : ∀ k, k < 2 → parseFieldDescriptor (T_Va k).2.2.1 = some (t_Va k) := by decide +kernel
theorem in_Va : ∀ w ∈ u_ws "StoryMachine$Variables" T_Va 2, w ∈ tw_tbl := by
  show ∀ w ∈ [Cond.laysFinal "StoryMachine$Variables" "StoryMachine$Variables" "memory" "LStoryMachine$Memory;", Cond.laysFinal "StoryMachine$Variables" "StoryMachine$Variables" "routines" "LStoryMachine$Routines;"], w ∈ tw_tbl
  exact List.forall_mem_cons.mpr ⟨mw_170, List.forall_mem_cons.mpr ⟨mw_172, (fun _ h => by cases h)⟩⟩
def T_Tr : u_T := fun k => match k with
  | _ => ("StoryMachine$Tree", "memory", "LStoryMachine$Memory;", true)
def t_Tr : Nat → FieldType := fun k => match k with
  | _ => .object "StoryMachine$Memory"
set_option maxRecDepth 20000 in
theorem nm_Tr : ∀ a, a < 1 → ∀ b, b < 1 → a ≠ b → (T_Tr a).2.1 ≠ (T_Tr b).2.1 := by decide +kernel
theorem tk_Tr : ∀ k, k < 1 → parseFieldDescriptor (T_Tr k).2.2.1 = some (t_Tr k) := by decide +kernel
theorem in_Tr : ∀ w ∈ u_ws "StoryMachine$Tree" T_Tr 1, w ∈ tw_tbl := by
  show ∀ w ∈ [Cond.laysFinal "StoryMachine$Tree" "StoryMachine$Tree" "memory" "LStoryMachine$Memory;"], w ∈ tw_tbl
  exact List.forall_mem_cons.mpr ⟨mw_182, (fun _ h => by cases h)⟩
def T_Di : u_T := fun k => match k with
  | 0 => ("StoryMachine$Dictionary", "memory", "LStoryMachine$Memory;", true)
  | 1 => ("StoryMachine$Dictionary", "starts", "[I", true)
  | 2 => ("StoryMachine$Dictionary", "lengths", "[I", true)
  | 3 => ("StoryMachine$Dictionary", "words", "I", false)
  | 4 => ("StoryMachine$Dictionary", "letters", "[I", true)
  | _ => ("StoryMachine$Dictionary", "letterCount", "I", false)
def t_Di : Nat → FieldType := fun k => match k with
  | 0 => .object "StoryMachine$Memory"
  | 1 => .array .int
  | 2 => .array .int
  | 3 => .int
  | 4 => .array .int
  | _ => .int
set_option maxRecDepth 20000 in
theorem nm_Di : ∀ a, a < 6 → ∀ b, b < 6 → a ≠ b → (T_Di a).2.1 ≠ (T_Di b).2.1 := by decide +kernel
theorem tk_Di : ∀ k, k < 6 → parseFieldDescriptor (T_Di k).2.2.1 = some (t_Di k) := by decide +kernel
theorem in_Di : ∀ w ∈ u_ws "StoryMachine$Dictionary" T_Di 6, w ∈ tw_tbl := by
  show ∀ w ∈ [Cond.laysFinal "StoryMachine$Dictionary" "StoryMachine$Dictionary" "memory" "LStoryMachine$Memory;", Cond.laysFinal "StoryMachine$Dictionary" "StoryMachine$Dictionary" "starts" "[I", Cond.laysFinal "StoryMachine$Dictionary" "StoryMachine$Dictionary" "lengths" "[I", Cond.lays "StoryMachine$Dictionary" "StoryMachine$Dictionary" "words" "I", Cond.laysFinal "StoryMachine$Dictionary" "StoryMachine$Dictionary" "letters" "[I", Cond.lays "StoryMachine$Dictionary" "StoryMachine$Dictionary" "letterCount" "I"], w ∈ tw_tbl
  exact List.forall_mem_cons.mpr ⟨mw_200, List.forall_mem_cons.mpr ⟨mw_202, List.forall_mem_cons.mpr ⟨mw_204, List.forall_mem_cons.mpr ⟨mw_206, List.forall_mem_cons.mpr ⟨mw_208, List.forall_mem_cons.mpr ⟨mw_210, (fun _ h => by cases h)⟩⟩⟩⟩⟩⟩
def T_In : u_T := fun k => match k with
  | 0 => ("StoryMachine$Instruction", "memory", "LStoryMachine$Memory;", true)
  | 1 => ("StoryMachine$Instruction", "variables", "LStoryMachine$Variables;", true)
  | 2 => ("StoryMachine$Instruction", "numbers", "[I", true)
  | 3 => ("StoryMachine$Instruction", "count", "I", false)
  | 4 => ("StoryMachine$Instruction", "list", "I", false)
  | 5 => ("StoryMachine$Instruction", "operation", "I", false)
  | 6 => ("StoryMachine$Instruction", "behind", "I", false)
  | 7 => ("StoryMachine$Instruction", "result", "I", false)
  | 8 => ("StoryMachine$Instruction", "branchesWhen", "Z", false)
  | 9 => ("StoryMachine$Instruction", "offset", "I", false)
  | _ => ("StoryMachine$Instruction", "form", "I", false)
def t_In : Nat → FieldType := fun k => match k with
  | 0 => .object "StoryMachine$Memory"
  | 1 => .object "StoryMachine$Variables"
  | 2 => .array .int
  | 3 => .int
  | 4 => .int
  | 5 => .int
  | 6 => .int
  | 7 => .int
  | 8 => .boolean
  | 9 => .int
  | _ => .int
set_option maxRecDepth 20000 in
theorem nm_In : ∀ a, a < 11 → ∀ b, b < 11 → a ≠ b → (T_In a).2.1 ≠ (T_In b).2.1 := by decide +kernel
theorem tk_In : ∀ k, k < 11 → parseFieldDescriptor (T_In k).2.2.1 = some (t_In k) := by decide +kernel
theorem in_In : ∀ w ∈ u_ws "StoryMachine$Instruction" T_In 11, w ∈ tw_tbl := by
  show ∀ w ∈ [Cond.laysFinal "StoryMachine$Instruction" "StoryMachine$Instruction" "memory" "LStoryMachine$Memory;", Cond.laysFinal "StoryMachine$Instruction" "StoryMachine$Instruction" "variables" "LStoryMachine$Variables;", Cond.laysFinal "StoryMachine$Instruction" "StoryMachine$Instruction" "numbers" "[I", Cond.lays "StoryMachine$Instruction" "StoryMachine$Instruction" "count" "I", Cond.lays "StoryMachine$Instruction" "StoryMachine$Instruction" "list" "I", Cond.lays "StoryMachine$Instruction" "StoryMachine$Instruction" "operation" "I", Cond.lays "StoryMachine$Instruction" "StoryMachine$Instruction" "behind" "I", Cond.lays "StoryMachine$Instruction" "StoryMachine$Instruction" "result" "I", Cond.lays "StoryMachine$Instruction" "StoryMachine$Instruction" "branchesWhen" "Z", Cond.lays "StoryMachine$Instruction" "StoryMachine$Instruction" "offset" "I", Cond.lays "StoryMachine$Instruction" "StoryMachine$Instruction" "form" "I"], w ∈ tw_tbl
  exact List.forall_mem_cons.mpr ⟨mw_238, List.forall_mem_cons.mpr ⟨mw_240, List.forall_mem_cons.mpr ⟨mw_242, List.forall_mem_cons.mpr ⟨mw_244, List.forall_mem_cons.mpr ⟨mw_246, List.forall_mem_cons.mpr ⟨mw_248, List.forall_mem_cons.mpr ⟨mw_250, List.forall_mem_cons.mpr ⟨mw_252, List.forall_mem_cons.mpr ⟨mw_254, List.forall_mem_cons.mpr ⟨mw_256, List.forall_mem_cons.mpr ⟨mw_258, (fun _ h => by cases h)⟩⟩⟩⟩⟩⟩⟩⟩⟩⟩⟩
def T_As : u_T := fun k => match k with
  | 0 => ("StoryMachine$Aside", "isThere", "Z", false)
  | 1 => ("StoryMachine$Aside", "memory", "LStoryMachine$Memory;", true)
  | 2 => ("StoryMachine$Aside", "routines", "LStoryMachine$Routines;", true)
  | _ => ("StoryMachine$Aside", "next", "I", false)
def t_As : Nat → FieldType := fun k => match k with
  | 0 => .boolean
  | 1 => .object "StoryMachine$Memory"
  | 2 => .object "StoryMachine$Routines"
  | _ => .int
set_option maxRecDepth 20000 in
theorem nm_As : ∀ a, a < 4 → ∀ b, b < 4 → a ≠ b → (T_As a).2.1 ≠ (T_As b).2.1 := by decide +kernel
theorem tk_As : ∀ k, k < 4 → parseFieldDescriptor (T_As k).2.2.1 = some (t_As k) := by decide +kernel
theorem in_As : ∀ w ∈ u_ws "StoryMachine$Aside" T_As 4, w ∈ tw_tbl := by
  show ∀ w ∈ [Cond.lays "StoryMachine$Aside" "StoryMachine$Aside" "isThere" "Z", Cond.laysFinal "StoryMachine$Aside" "StoryMachine$Aside" "memory" "LStoryMachine$Memory;", Cond.laysFinal "StoryMachine$Aside" "StoryMachine$Aside" "routines" "LStoryMachine$Routines;", Cond.lays "StoryMachine$Aside" "StoryMachine$Aside" "next" "I"], w ∈ tw_tbl
  exact List.forall_mem_cons.mpr ⟨mw_153, List.forall_mem_cons.mpr ⟨mw_155, List.forall_mem_cons.mpr ⟨mw_157, List.forall_mem_cons.mpr ⟨mw_159, (fun _ h => by cases h)⟩⟩⟩⟩
def T_Mo : u_T := fun k => match k with
  | 0 => ("StoryMachineModel", "thrown", "I", false)
  | 1 => ("StoryMachineModel", "memory", "[I", true)
  | 2 => ("StoryMachineModel", "size", "I", false)
  | 3 => ("StoryMachineModel", "words", "[I", true)
  | 4 => ("StoryMachineModel", "depth", "I", false)
  | 5 => ("StoryMachineModel", "many", "[I", true)
  | 6 => ("StoryMachineModel", "bottom", "[I", true)
  | 7 => ("StoryMachineModel", "back", "[I", true)
  | 8 => ("StoryMachineModel", "gets", "[I", true)
  | 9 => ("StoryMachineModel", "locals", "[I", true)
  | 10 => ("StoryMachineModel", "saved", "Z", false)
  | 11 => ("StoryMachineModel", "oldMemory", "[I", true)
  | 12 => ("StoryMachineModel", "oldSize", "I", false)
  | 13 => ("StoryMachineModel", "oldWords", "[I", true)
  | 14 => ("StoryMachineModel", "oldDepth", "I", false)
  | 15 => ("StoryMachineModel", "oldMany", "[I", true)
  | 16 => ("StoryMachineModel", "oldBottom", "[I", true)
  | 17 => ("StoryMachineModel", "oldBack", "[I", true)
  | 18 => ("StoryMachineModel", "oldGets", "[I", true)
  | 19 => ("StoryMachineModel", "oldLocals", "[I", true)
  | 20 => ("StoryMachineModel", "oldBehind", "I", false)
  | 21 => ("StoryMachineModel", "oldSense", "Z", false)
  | 22 => ("StoryMachineModel", "oldOffset", "I", false)
  | 23 => ("StoryMachineModel", "begun", "Z", false)
  | 24 => ("StoryMachineModel", "state", "I", false)
  | 25 => ("StoryMachineModel", "trouble", "I", false)
  | 26 => ("StoryMachineModel", "ends", "Z", false)
  | 27 => ("StoryMachineModel", "pc", "I", false)
  | 28 => ("StoryMachineModel", "next", "I", false)
  | 29 => ("StoryMachineModel", "done", "I", false)
  | 30 => ("StoryMachineModel", "chance", "I", false)
  | 31 => ("StoryMachineModel", "shown", "I", false)
  | 32 => ("StoryMachineModel", "latest", "[I", true)
  | 33 => ("StoryMachineModel", "entered", "Z", false)
  | 34 => ("StoryMachineModel", "typedSize", "I", false)
  | 35 => ("StoryMachineModel", "typed", "[I", true)
  | 36 => ("StoryMachineModel", "lineSize", "I", false)
  | 37 => ("StoryMachineModel", "line", "[I", true)
  | 38 => ("StoryMachineModel", "count", "I", false)
  | 39 => ("StoryMachineModel", "numbers", "[I", true)
  | 40 => ("StoryMachineModel", "result", "I", false)
  | 41 => ("StoryMachineModel", "sense", "Z", false)
  | 42 => ("StoryMachineModel", "offset", "I", false)
  | 43 => ("StoryMachineModel", "behind", "I", false)
  | 44 => ("StoryMachineModel", "alphabet", "I", false)
  | 45 => ("StoryMachineModel", "pending", "I", false)
  | 46 => ("StoryMachineModel", "high", "I", false)
  | 47 => ("StoryMachineModel", "lettered", "I", false)
  | 48 => ("StoryMachineModel", "letters", "[I", true)
  | 49 => ("StoryMachineModel", "starts", "[I", true)
  | _ => ("StoryMachineModel", "lengths", "[I", true)
def t_Mo : Nat → FieldType := fun k => match k with
  | 0 => .int
  | 1 => .array .int
  | 2 => .int
  | 3 => .array .int
  | 4 => .int
  | 5 => .array .int
  | 6 => .array .int
  | 7 => .array .int
  | 8 => .array .int
  | 9 => .array .int
  | 10 => .boolean
  | 11 => .array .int
  | 12 => .int
  | 13 => .array .int
  | 14 => .int
  | 15 => .array .int
  | 16 => .array .int
  | 17 => .array .int
  | 18 => .array .int
  | 19 => .array .int
  | 20 => .int
  | 21 => .boolean
  | 22 => .int
  | 23 => .boolean
  | 24 => .int
  | 25 => .int
  | 26 => .boolean
  | 27 => .int
  | 28 => .int
  | 29 => .int
  | 30 => .int
  | 31 => .int
  | 32 => .array .int
  | 33 => .boolean
  | 34 => .int
  | 35 => .array .int
  | 36 => .int
  | 37 => .array .int
  | 38 => .int
  | 39 => .array .int
  | 40 => .int
  | 41 => .boolean
  | 42 => .int
  | 43 => .int
  | 44 => .int
  | 45 => .int
  | 46 => .int
  | 47 => .int
  | 48 => .array .int
  | 49 => .array .int
  | _ => .array .int
set_option maxRecDepth 20000 in
theorem nm_Mo : ∀ a, a < 51 → ∀ b, b < 51 → a ≠ b → (T_Mo a).2.1 ≠ (T_Mo b).2.1 := by decide +kernel
theorem tk_Mo : ∀ k, k < 51 → parseFieldDescriptor (T_Mo k).2.2.1 = some (t_Mo k) := by decide +kernel
theorem in_Mo : ∀ w ∈ u_ws "StoryMachineModel" T_Mo 51, w ∈ tw_tbl := by
  show ∀ w ∈ [Cond.lays "StoryMachineModel" "StoryMachineModel" "thrown" "I", Cond.laysFinal "StoryMachineModel" "StoryMachineModel" "memory" "[I", Cond.lays "StoryMachineModel" "StoryMachineModel" "size" "I", Cond.laysFinal "StoryMachineModel" "StoryMachineModel" "words" "[I", Cond.lays "StoryMachineModel" "StoryMachineModel" "depth" "I", Cond.laysFinal "StoryMachineModel" "StoryMachineModel" "many" "[I", Cond.laysFinal "StoryMachineModel" "StoryMachineModel" "bottom" "[I", Cond.laysFinal "StoryMachineModel" "StoryMachineModel" "back" "[I", Cond.laysFinal "StoryMachineModel" "StoryMachineModel" "gets" "[I", Cond.laysFinal "StoryMachineModel" "StoryMachineModel" "locals" "[I", Cond.lays "StoryMachineModel" "StoryMachineModel" "saved" "Z", Cond.laysFinal "StoryMachineModel" "StoryMachineModel" "oldMemory" "[I", Cond.lays "StoryMachineModel" "StoryMachineModel" "oldSize" "I", Cond.laysFinal "StoryMachineModel" "StoryMachineModel" "oldWords" "[I", Cond.lays "StoryMachineModel" "StoryMachineModel" "oldDepth" "I", Cond.laysFinal "StoryMachineModel" "StoryMachineModel" "oldMany" "[I", Cond.laysFinal "StoryMachineModel" "StoryMachineModel" "oldBottom" "[I", Cond.laysFinal "StoryMachineModel" "StoryMachineModel" "oldBack" "[I", Cond.laysFinal "StoryMachineModel" "StoryMachineModel" "oldGets" "[I", Cond.laysFinal "StoryMachineModel" "StoryMachineModel" "oldLocals" "[I", Cond.lays "StoryMachineModel" "StoryMachineModel" "oldBehind" "I", Cond.lays "StoryMachineModel" "StoryMachineModel" "oldSense" "Z", Cond.lays "StoryMachineModel" "StoryMachineModel" "oldOffset" "I", Cond.lays "StoryMachineModel" "StoryMachineModel" "begun" "Z", Cond.lays "StoryMachineModel" "StoryMachineModel" "state" "I", Cond.lays "StoryMachineModel" "StoryMachineModel" "trouble" "I", Cond.lays "StoryMachineModel" "StoryMachineModel" "ends" "Z", Cond.lays "StoryMachineModel" "StoryMachineModel" "pc" "I", Cond.lays "StoryMachineModel" "StoryMachineModel" "next" "I", Cond.lays "StoryMachineModel" "StoryMachineModel" "done" "I", Cond.lays "StoryMachineModel" "StoryMachineModel" "chance" "I", Cond.lays "StoryMachineModel" "StoryMachineModel" "shown" "I", Cond.laysFinal "StoryMachineModel" "StoryMachineModel" "latest" "[I", Cond.lays "StoryMachineModel" "StoryMachineModel" "entered" "Z", Cond.lays "StoryMachineModel" "StoryMachineModel" "typedSize" "I", Cond.laysFinal "StoryMachineModel" "StoryMachineModel" "typed" "[I", Cond.lays "StoryMachineModel" "StoryMachineModel" "lineSize" "I", Cond.laysFinal "StoryMachineModel" "StoryMachineModel" "line" "[I", Cond.lays "StoryMachineModel" "StoryMachineModel" "count" "I", Cond.laysFinal "StoryMachineModel" "StoryMachineModel" "numbers" "[I", Cond.lays "StoryMachineModel" "StoryMachineModel" "result" "I", Cond.lays "StoryMachineModel" "StoryMachineModel" "sense" "Z", Cond.lays "StoryMachineModel" "StoryMachineModel" "offset" "I", Cond.lays "StoryMachineModel" "StoryMachineModel" "behind" "I", Cond.lays "StoryMachineModel" "StoryMachineModel" "alphabet" "I", Cond.lays "StoryMachineModel" "StoryMachineModel" "pending" "I", Cond.lays "StoryMachineModel" "StoryMachineModel" "high" "I", Cond.lays "StoryMachineModel" "StoryMachineModel" "lettered" "I", Cond.laysFinal "StoryMachineModel" "StoryMachineModel" "letters" "[I", Cond.laysFinal "StoryMachineModel" "StoryMachineModel" "starts" "[I", Cond.laysFinal "StoryMachineModel" "StoryMachineModel" "lengths" "[I"], w ∈ tw_tbl
  exact List.forall_mem_cons.mpr ⟨mw_1114, List.forall_mem_cons.mpr ⟨mw_1116, List.forall_mem_cons.mpr ⟨mw_1118, List.forall_mem_cons.mpr ⟨mw_1120, List.forall_mem_cons.mpr ⟨mw_1122, List.forall_mem_cons.mpr ⟨mw_1124, List.forall_mem_cons.mpr ⟨mw_1126, List.forall_mem_cons.mpr ⟨mw_1128, List.forall_mem_cons.mpr ⟨mw_1130, List.forall_mem_cons.mpr ⟨mw_1132, List.forall_mem_cons.mpr ⟨mw_1134, List.forall_mem_cons.mpr ⟨mw_1136, List.forall_mem_cons.mpr ⟨mw_1138, List.forall_mem_cons.mpr ⟨mw_1140, List.forall_mem_cons.mpr ⟨mw_1142, List.forall_mem_cons.mpr ⟨mw_1144, List.forall_mem_cons.mpr ⟨mw_1146, List.forall_mem_cons.mpr ⟨mw_1148, List.forall_mem_cons.mpr ⟨mw_1150, List.forall_mem_cons.mpr ⟨mw_1152, List.forall_mem_cons.mpr ⟨mw_1154, List.forall_mem_cons.mpr ⟨mw_1156, List.forall_mem_cons.mpr ⟨mw_1158, List.forall_mem_cons.mpr ⟨mw_1160, List.forall_mem_cons.mpr ⟨mw_1162, List.forall_mem_cons.mpr ⟨mw_1164, List.forall_mem_cons.mpr ⟨mw_1166, List.forall_mem_cons.mpr ⟨mw_1168, List.forall_mem_cons.mpr ⟨mw_1170, List.forall_mem_cons.mpr ⟨mw_1172, List.forall_mem_cons.mpr ⟨mw_1174, List.forall_mem_cons.mpr ⟨mw_1176, List.forall_mem_cons.mpr ⟨mw_1178, List.forall_mem_cons.mpr ⟨mw_1180, List.forall_mem_cons.mpr ⟨mw_1182, List.forall_mem_cons.mpr ⟨mw_1184, List.forall_mem_cons.mpr ⟨mw_1186, List.forall_mem_cons.mpr ⟨mw_1188, List.forall_mem_cons.mpr ⟨mw_1190, List.forall_mem_cons.mpr ⟨mw_1192, List.forall_mem_cons.mpr ⟨mw_1194, List.forall_mem_cons.mpr ⟨mw_1196, List.forall_mem_cons.mpr ⟨mw_1198, List.forall_mem_cons.mpr ⟨mw_1200, List.forall_mem_cons.mpr ⟨mw_1202, List.forall_mem_cons.mpr ⟨mw_1204, List.forall_mem_cons.mpr ⟨mw_1206, List.forall_mem_cons.mpr ⟨mw_1208, List.forall_mem_cons.mpr ⟨mw_1210, List.forall_mem_cons.mpr ⟨mw_1212, List.forall_mem_cons.mpr ⟨mw_1214, (fun _ h => by cases h)⟩⟩⟩⟩⟩⟩⟩⟩⟩⟩⟩⟩⟩⟩⟩⟩⟩⟩⟩⟩⟩⟩⟩⟩⟩⟩⟩⟩⟩⟩⟩⟩⟩⟩⟩⟩⟩⟩⟩⟩⟩⟩⟩⟩⟩⟩⟩⟩⟩⟩⟩
abbrev vcl : List vw_C := [("StoryMachine", T_SM, 5), ("StoryMachine$Memory", T_Me, 1), ("StoryMachine$Line", T_Li, 5), ("StoryMachine$Routines", T_Ro, 8), ("StoryMachine$Printer", T_Pr, 5), ("StoryMachine$Engine", T_En, 15), ("StoryMachine$Variables", T_Va, 2), ("StoryMachine$Tree", T_Tr, 1), ("StoryMachine$Dictionary", T_Di, 6), ("StoryMachine$Instruction", T_In, 11), ("StoryMachine$Aside", T_As, 4), ("StoryMachineModel", T_Mo, 51)]
end
section
/-! Decode rows; written by wip/tools/gen.py. -/
theorem d_Me_init_0 : decode prog_7_method_1_code 0 = .ok (.aload_n 0, 1) := by decide +kernel
theorem d_Me_init_1 : decode prog_7_method_1_code 1 = .ok (.invokespecial 1, 3) := by decide +kernel
theorem d_Me_init_4 : decode prog_7_method_1_code 4 = .ok (.aload_n 0, 1) := by decide +kernel
theorem d_Me_init_5 : decode prog_7_method_1_code 5 = .ok (.sipush 512, 3) := by decide +kernel
theorem d_Me_init_8 : decode prog_7_method_1_code 8 = .ok (.newarray .int, 2) := by decide +kernel
theorem d_Me_init_10 : decode prog_7_method_1_code 10 = .ok (.putfield 9, 3) := by decide +kernel
theorem d_Me_init_13 : decode prog_7_method_1_code 13 = .ok (.return_, 1) := by decide +kernel
theorem d_Li_init_0 : decode prog_6_method_1_code 0 = .ok (.aload_n 0, 1) := by decide +kernel
theorem d_Li_init_1 : decode prog_6_method_1_code 1 = .ok (.invokespecial 1, 3) := by decide +kernel
theorem d_Li_init_4 : decode prog_6_method_1_code 4 = .ok (.aload_n 0, 1) := by decide +kernel
theorem d_Li_init_5 : decode prog_6_method_1_code 5 = .ok (.bipush 24, 2) := by decide +kernel
theorem d_Li_init_7 : decode prog_6_method_1_code 7 = .ok (.newarray .int, 2) := by decide +kernel
theorem d_Li_init_9 : decode prog_6_method_1_code 9 = .ok (.putfield 9, 3) := by decide +kernel
theorem d_Li_init_12 : decode prog_6_method_1_code 12 = .ok (.aload_n 0, 1) := by decide +kernel
theorem d_Li_init_13 : decode prog_6_method_1_code 13 = .ok (.bipush 24, 2) := by decide +kernel
theorem d_Li_init_15 : decode prog_6_method_1_code 15 = .ok (.newarray .int, 2) := by decide +kernel
theorem d_Li_init_17 : decode prog_6_method_1_code 17 = .ok (.putfield 13, 3) := by decide +kernel
theorem d_Li_init_20 : decode prog_6_method_1_code 20 = .ok (.return_, 1) := by decide +kernel
theorem d_Ro_init_0 : decode prog_9_method_1_code 0 = .ok (.aload_n 0, 1) := by decide +kernel
theorem d_Ro_init_1 : decode prog_9_method_1_code 1 = .ok (.invokespecial 1, 3) := by decide +kernel
theorem d_Ro_init_4 : decode prog_9_method_1_code 4 = .ok (.aload_n 0, 1) := by decide +kernel
theorem d_Ro_init_5 : decode prog_9_method_1_code 5 = .ok (.bipush 48, 2) := by decide +kernel
theorem d_Ro_init_7 : decode prog_9_method_1_code 7 = .ok (.newarray .int, 2) := by decide +kernel
theorem d_Ro_init_9 : decode prog_9_method_1_code 9 = .ok (.putfield 9, 3) := by decide +kernel
theorem d_Ro_init_12 : decode prog_9_method_1_code 12 = .ok (.aload_n 0, 1) := by decide +kernel
theorem d_Ro_init_13 : decode prog_9_method_1_code 13 = .ok (.bipush 11, 2) := by decide +kernel
theorem d_Ro_init_15 : decode prog_9_method_1_code 15 = .ok (.newarray .int, 2) := by decide +kernel
theorem d_Ro_init_17 : decode prog_9_method_1_code 17 = .ok (.putfield 13, 3) := by decide +kernel
theorem d_Ro_init_20 : decode prog_9_method_1_code 20 = .ok (.aload_n 0, 1) := by decide +kernel
theorem d_Ro_init_21 : decode prog_9_method_1_code 21 = .ok (.bipush 11, 2) := by decide +kernel
theorem d_Ro_init_23 : decode prog_9_method_1_code 23 = .ok (.newarray .int, 2) := by decide +kernel
theorem d_Ro_init_25 : decode prog_9_method_1_code 25 = .ok (.putfield 16, 3) := by decide +kernel
theorem d_Ro_init_28 : decode prog_9_method_1_code 28 = .ok (.aload_n 0, 1) := by decide +kernel
theorem d_Ro_init_29 : decode prog_9_method_1_code 29 = .ok (.bipush 11, 2) := by decide +kernel
theorem d_Ro_init_31 : decode prog_9_method_1_code 31 = .ok (.newarray .int, 2) := by decide +kernel
theorem d_Ro_init_33 : decode prog_9_method_1_code 33 = .ok (.putfield 19, 3) := by decide +kernel
theorem d_Ro_init_36 : decode prog_9_method_1_code 36 = .ok (.aload_n 0, 1) := by decide +kernel
theorem d_Ro_init_37 : decode prog_9_method_1_code 37 = .ok (.bipush 11, 2) := by decide +kernel
theorem d_Ro_init_39 : decode prog_9_method_1_code 39 = .ok (.newarray .int, 2) := by decide +kernel
theorem d_Ro_init_41 : decode prog_9_method_1_code 41 = .ok (.putfield 22, 3) := by decide +kernel
theorem d_Ro_init_44 : decode prog_9_method_1_code 44 = .ok (.aload_n 0, 1) := by decide +kernel
theorem d_Ro_init_45 : decode prog_9_method_1_code 45 = .ok (.sipush 165, 3) := by decide +kernel
theorem d_Ro_init_48 : decode prog_9_method_1_code 48 = .ok (.newarray .int, 2) := by decide +kernel
theorem d_Ro_init_50 : decode prog_9_method_1_code 50 = .ok (.putfield 25, 3) := by decide +kernel
theorem d_Ro_init_53 : decode prog_9_method_1_code 53 = .ok (.return_, 1) := by decide +kernel
theorem d_Pr_init_0 : decode prog_8_method_1_code 0 = .ok (.aload_n 0, 1) := by decide +kernel
theorem d_Pr_init_1 : decode prog_8_method_1_code 1 = .ok (.invokespecial 1, 3) := by decide +kernel
theorem d_Pr_init_4 : decode prog_8_method_1_code 4 = .ok (.aload_n 0, 1) := by decide +kernel
theorem d_Pr_init_5 : decode prog_8_method_1_code 5 = .ok (.bipush 64, 2) := by decide +kernel
theorem d_Pr_init_7 : decode prog_8_method_1_code 7 = .ok (.newarray .int, 2) := by decide +kernel
theorem d_Pr_init_9 : decode prog_8_method_1_code 9 = .ok (.putfield 9, 3) := by decide +kernel
theorem d_Pr_init_12 : decode prog_8_method_1_code 12 = .ok (.aload_n 0, 1) := by decide +kernel
theorem d_Pr_init_13 : decode prog_8_method_1_code 13 = .ok (.aload_n 1, 1) := by decide +kernel
theorem d_Pr_init_14 : decode prog_8_method_1_code 14 = .ok (.putfield 13, 3) := by decide +kernel
theorem d_Pr_init_17 : decode prog_8_method_1_code 17 = .ok (.return_, 1) := by decide +kernel
theorem d_Va_init_0 : decode prog_11_method_1_code 0 = .ok (.aload_n 0, 1) := by decide +kernel
theorem d_Va_init_1 : decode prog_11_method_1_code 1 = .ok (.invokespecial 1, 3) := by decide +kernel
theorem d_Va_init_4 : decode prog_11_method_1_code 4 = .ok (.aload_n 0, 1) := by decide +kernel
theorem d_Va_init_5 : decode prog_11_method_1_code 5 = .ok (.aload_n 1, 1) := by decide +kernel
theorem d_Va_init_6 : decode prog_11_method_1_code 6 = .ok (.putfield 7, 3) := by decide +kernel
theorem d_Va_init_9 : decode prog_11_method_1_code 9 = .ok (.aload_n 0, 1) := by decide +kernel
theorem d_Va_init_10 : decode prog_11_method_1_code 10 = .ok (.aload_n 2, 1) := by decide +kernel
theorem d_Va_init_11 : decode prog_11_method_1_code 11 = .ok (.putfield 13, 3) := by decide +kernel
theorem d_Va_init_14 : decode prog_11_method_1_code 14 = .ok (.return_, 1) := by decide +kernel
theorem d_Tr_init_0 : decode prog_10_method_1_code 0 = .ok (.aload_n 0, 1) := by decide +kernel
theorem d_Tr_init_1 : decode prog_10_method_1_code 1 = .ok (.invokespecial 1, 3) := by decide +kernel
theorem d_Tr_init_4 : decode prog_10_method_1_code 4 = .ok (.aload_n 0, 1) := by decide +kernel
theorem d_Tr_init_5 : decode prog_10_method_1_code 5 = .ok (.aload_n 1, 1) := by decide +kernel
theorem d_Tr_init_6 : decode prog_10_method_1_code 6 = .ok (.putfield 7, 3) := by decide +kernel
theorem d_Tr_init_9 : decode prog_10_method_1_code 9 = .ok (.return_, 1) := by decide +kernel
theorem d_Di_init_0 : decode prog_3_method_1_code 0 = .ok (.aload_n 0, 1) := by decide +kernel
theorem d_Di_init_1 : decode prog_3_method_1_code 1 = .ok (.invokespecial 1, 3) := by decide +kernel
theorem d_Di_init_4 : decode prog_3_method_1_code 4 = .ok (.aload_n 0, 1) := by decide +kernel
theorem d_Di_init_5 : decode prog_3_method_1_code 5 = .ok (.bipush 24, 2) := by decide +kernel
theorem d_Di_init_7 : decode prog_3_method_1_code 7 = .ok (.newarray .int, 2) := by decide +kernel
theorem d_Di_init_9 : decode prog_3_method_1_code 9 = .ok (.putfield 9, 3) := by decide +kernel
theorem d_Di_init_12 : decode prog_3_method_1_code 12 = .ok (.aload_n 0, 1) := by decide +kernel
theorem d_Di_init_13 : decode prog_3_method_1_code 13 = .ok (.bipush 24, 2) := by decide +kernel
theorem d_Di_init_15 : decode prog_3_method_1_code 15 = .ok (.newarray .int, 2) := by decide +kernel
theorem d_Di_init_17 : decode prog_3_method_1_code 17 = .ok (.putfield 15, 3) := by decide +kernel
theorem d_Di_init_20 : decode prog_3_method_1_code 20 = .ok (.aload_n 0, 1) := by decide +kernel
theorem d_Di_init_21 : decode prog_3_method_1_code 21 = .ok (.bipush 6, 2) := by decide +kernel
theorem d_Di_init_23 : decode prog_3_method_1_code 23 = .ok (.newarray .int, 2) := by decide +kernel
theorem d_Di_init_25 : decode prog_3_method_1_code 25 = .ok (.putfield 18, 3) := by decide +kernel
theorem d_Di_init_28 : decode prog_3_method_1_code 28 = .ok (.aload_n 0, 1) := by decide +kernel
theorem d_Di_init_29 : decode prog_3_method_1_code 29 = .ok (.aload_n 1, 1) := by decide +kernel
theorem d_Di_init_30 : decode prog_3_method_1_code 30 = .ok (.putfield 21, 3) := by decide +kernel
theorem d_Di_init_33 : decode prog_3_method_1_code 33 = .ok (.return_, 1) := by decide +kernel
theorem d_In_init_0 : decode prog_5_method_1_code 0 = .ok (.aload_n 0, 1) := by decide +kernel
theorem d_In_init_1 : decode prog_5_method_1_code 1 = .ok (.invokespecial 1, 3) := by decide +kernel
theorem d_In_init_4 : decode prog_5_method_1_code 4 = .ok (.aload_n 0, 1) := by decide +kernel
theorem d_In_init_5 : decode prog_5_method_1_code 5 = .ok (.iconst 4, 1) := by decide +kernel
theorem d_In_init_6 : decode prog_5_method_1_code 6 = .ok (.newarray .int, 2) := by decide +kernel
theorem d_In_init_8 : decode prog_5_method_1_code 8 = .ok (.putfield 7, 3) := by decide +kernel
theorem d_In_init_11 : decode prog_5_method_1_code 11 = .ok (.aload_n 0, 1) := by decide +kernel
theorem d_In_init_12 : decode prog_5_method_1_code 12 = .ok (.aload_n 1, 1) := by decide +kernel
theorem d_In_init_13 : decode prog_5_method_1_code 13 = .ok (.putfield 13, 3) := by decide +kernel
theorem d_In_init_16 : decode prog_5_method_1_code 16 = .ok (.aload_n 0, 1) := by decide +kernel
theorem d_In_init_17 : decode prog_5_method_1_code 17 = .ok (.aload_n 2, 1) := by decide +kernel
theorem d_In_init_18 : decode prog_5_method_1_code 18 = .ok (.putfield 17, 3) := by decide +kernel
theorem d_In_init_21 : decode prog_5_method_1_code 21 = .ok (.return_, 1) := by decide +kernel
theorem d_As_init_0 : decode prog_2_method_1_code 0 = .ok (.aload_n 0, 1) := by decide +kernel
theorem d_As_init_1 : decode prog_2_method_1_code 1 = .ok (.invokespecial 1, 3) := by decide +kernel
theorem d_As_init_4 : decode prog_2_method_1_code 4 = .ok (.aload_n 0, 1) := by decide +kernel
theorem d_As_init_5 : decode prog_2_method_1_code 5 = .ok (.new 7, 3) := by decide +kernel
theorem d_As_init_8 : decode prog_2_method_1_code 8 = .ok (.dup, 1) := by decide +kernel
theorem d_As_init_9 : decode prog_2_method_1_code 9 = .ok (.invokespecial 9, 3) := by decide +kernel
theorem d_As_init_12 : decode prog_2_method_1_code 12 = .ok (.putfield 10, 3) := by decide +kernel
theorem d_As_init_15 : decode prog_2_method_1_code 15 = .ok (.aload_n 0, 1) := by decide +kernel
theorem d_As_init_16 : decode prog_2_method_1_code 16 = .ok (.new 16, 3) := by decide +kernel
theorem d_As_init_19 : decode prog_2_method_1_code 19 = .ok (.dup, 1) := by decide +kernel
theorem d_As_init_20 : decode prog_2_method_1_code 20 = .ok (.invokespecial 18, 3) := by decide +kernel
theorem d_As_init_23 : decode prog_2_method_1_code 23 = .ok (.putfield 19, 3) := by decide +kernel
theorem d_As_init_26 : decode prog_2_method_1_code 26 = .ok (.return_, 1) := by decide +kernel
theorem d_En_init_0 : decode prog_4_method_1_code 0 = .ok (.aload_n 0, 1) := by decide +kernel
theorem d_En_init_1 : decode prog_4_method_1_code 1 = .ok (.invokespecial 1, 3) := by decide +kernel
theorem d_En_init_4 : decode prog_4_method_1_code 4 = .ok (.aload_n 0, 1) := by decide +kernel
theorem d_En_init_5 : decode prog_4_method_1_code 5 = .ok (.new 7, 3) := by decide +kernel
theorem d_En_init_8 : decode prog_4_method_1_code 8 = .ok (.dup, 1) := by decide +kernel
theorem d_En_init_9 : decode prog_4_method_1_code 9 = .ok (.invokespecial 9, 3) := by decide +kernel
theorem d_En_init_12 : decode prog_4_method_1_code 12 = .ok (.putfield 10, 3) := by decide +kernel
theorem d_En_init_15 : decode prog_4_method_1_code 15 = .ok (.aload_n 0, 1) := by decide +kernel
theorem d_En_init_16 : decode prog_4_method_1_code 16 = .ok (.bipush 15, 2) := by decide +kernel
theorem d_En_init_18 : decode prog_4_method_1_code 18 = .ok (.newarray .int, 2) := by decide +kernel
theorem d_En_init_20 : decode prog_4_method_1_code 20 = .ok (.putfield 18, 3) := by decide +kernel
theorem d_En_init_23 : decode prog_4_method_1_code 23 = .ok (.aload_n 0, 1) := by decide +kernel
theorem d_En_init_24 : decode prog_4_method_1_code 24 = .ok (.iconst (-1), 1) := by decide +kernel
theorem d_En_init_25 : decode prog_4_method_1_code 25 = .ok (.putfield 22, 3) := by decide +kernel
theorem d_En_init_28 : decode prog_4_method_1_code 28 = .ok (.new 26, 3) := by decide +kernel
theorem d_En_init_31 : decode prog_4_method_1_code 31 = .ok (.dup, 1) := by decide +kernel
theorem d_En_init_32 : decode prog_4_method_1_code 32 = .ok (.aload_n 1, 1) := by decide +kernel
theorem d_En_init_33 : decode prog_4_method_1_code 33 = .ok (.aload_n 3, 1) := by decide +kernel
theorem d_En_init_34 : decode prog_4_method_1_code 34 = .ok (.invokespecial 28, 3) := by decide +kernel
theorem d_En_init_37 : decode prog_4_method_1_code 37 = .ok (.astore 5, 2) := by decide +kernel
theorem d_En_init_39 : decode prog_4_method_1_code 39 = .ok (.aload_n 0, 1) := by decide +kernel
theorem d_En_init_40 : decode prog_4_method_1_code 40 = .ok (.aload_n 1, 1) := by decide +kernel
theorem d_En_init_41 : decode prog_4_method_1_code 41 = .ok (.putfield 31, 3) := by decide +kernel
theorem d_En_init_44 : decode prog_4_method_1_code 44 = .ok (.aload_n 0, 1) := by decide +kernel
theorem d_En_init_45 : decode prog_4_method_1_code 45 = .ok (.aload_n 2, 1) := by decide +kernel
theorem d_En_init_46 : decode prog_4_method_1_code 46 = .ok (.putfield 35, 3) := by decide +kernel
theorem d_En_init_49 : decode prog_4_method_1_code 49 = .ok (.aload_n 0, 1) := by decide +kernel
theorem d_En_init_50 : decode prog_4_method_1_code 50 = .ok (.aload_n 3, 1) := by decide +kernel
theorem d_En_init_51 : decode prog_4_method_1_code 51 = .ok (.putfield 39, 3) := by decide +kernel
theorem d_En_init_54 : decode prog_4_method_1_code 54 = .ok (.aload_n 0, 1) := by decide +kernel
theorem d_En_init_55 : decode prog_4_method_1_code 55 = .ok (.aload 4, 2) := by decide +kernel
theorem d_En_init_57 : decode prog_4_method_1_code 57 = .ok (.putfield 43, 3) := by decide +kernel
theorem d_En_init_60 : decode prog_4_method_1_code 60 = .ok (.aload_n 0, 1) := by decide +kernel
theorem d_En_init_61 : decode prog_4_method_1_code 61 = .ok (.aload 5, 2) := by decide +kernel
theorem d_En_init_63 : decode prog_4_method_1_code 63 = .ok (.putfield 47, 3) := by decide +kernel
theorem d_En_init_66 : decode prog_4_method_1_code 66 = .ok (.aload_n 0, 1) := by decide +kernel
theorem d_En_init_67 : decode prog_4_method_1_code 67 = .ok (.new 51, 3) := by decide +kernel
theorem d_En_init_70 : decode prog_4_method_1_code 70 = .ok (.dup, 1) := by decide +kernel
theorem d_En_init_71 : decode prog_4_method_1_code 71 = .ok (.aload_n 1, 1) := by decide +kernel
theorem d_En_init_72 : decode prog_4_method_1_code 72 = .ok (.invokespecial 53, 3) := by decide +kernel
theorem d_En_init_75 : decode prog_4_method_1_code 75 = .ok (.putfield 56, 3) := by decide +kernel
theorem d_En_init_78 : decode prog_4_method_1_code 78 = .ok (.aload_n 0, 1) := by decide +kernel
theorem d_En_init_79 : decode prog_4_method_1_code 79 = .ok (.new 60, 3) := by decide +kernel
theorem d_En_init_82 : decode prog_4_method_1_code 82 = .ok (.dup, 1) := by decide +kernel
theorem d_En_init_83 : decode prog_4_method_1_code 83 = .ok (.aload_n 1, 1) := by decide +kernel
theorem d_En_init_84 : decode prog_4_method_1_code 84 = .ok (.invokespecial 62, 3) := by decide +kernel
theorem d_En_init_87 : decode prog_4_method_1_code 87 = .ok (.putfield 63, 3) := by decide +kernel
theorem d_En_init_90 : decode prog_4_method_1_code 90 = .ok (.aload_n 0, 1) := by decide +kernel
theorem d_En_init_91 : decode prog_4_method_1_code 91 = .ok (.new 67, 3) := by decide +kernel
theorem d_En_init_94 : decode prog_4_method_1_code 94 = .ok (.dup, 1) := by decide +kernel
theorem d_En_init_95 : decode prog_4_method_1_code 95 = .ok (.aload_n 1, 1) := by decide +kernel
theorem d_En_init_96 : decode prog_4_method_1_code 96 = .ok (.aload 5, 2) := by decide +kernel
theorem d_En_init_98 : decode prog_4_method_1_code 98 = .ok (.invokespecial 69, 3) := by decide +kernel
theorem d_En_init_101 : decode prog_4_method_1_code 101 = .ok (.putfield 72, 3) := by decide +kernel
theorem d_En_init_104 : decode prog_4_method_1_code 104 = .ok (.return_, 1) := by decide +kernel
theorem d_SM_init_0 : decode prog_1_method_1_code 0 = .ok (.aload_n 0, 1) := by decide +kernel
theorem d_SM_init_1 : decode prog_1_method_1_code 1 = .ok (.invokespecial 1, 3) := by decide +kernel
theorem d_SM_init_4 : decode prog_1_method_1_code 4 = .ok (.new 7, 3) := by decide +kernel
theorem d_SM_init_7 : decode prog_1_method_1_code 7 = .ok (.dup, 1) := by decide +kernel
theorem d_SM_init_8 : decode prog_1_method_1_code 8 = .ok (.invokespecial 9, 3) := by decide +kernel
theorem d_SM_init_11 : decode prog_1_method_1_code 11 = .ok (.astore_n 1, 1) := by decide +kernel
theorem d_SM_init_12 : decode prog_1_method_1_code 12 = .ok (.new 10, 3) := by decide +kernel
theorem d_SM_init_15 : decode prog_1_method_1_code 15 = .ok (.dup, 1) := by decide +kernel
theorem d_SM_init_16 : decode prog_1_method_1_code 16 = .ok (.invokespecial 12, 3) := by decide +kernel
theorem d_SM_init_19 : decode prog_1_method_1_code 19 = .ok (.astore_n 2, 1) := by decide +kernel
theorem d_SM_init_20 : decode prog_1_method_1_code 20 = .ok (.new 13, 3) := by decide +kernel
theorem d_SM_init_23 : decode prog_1_method_1_code 23 = .ok (.dup, 1) := by decide +kernel
theorem d_SM_init_24 : decode prog_1_method_1_code 24 = .ok (.invokespecial 15, 3) := by decide +kernel
theorem d_SM_init_27 : decode prog_1_method_1_code 27 = .ok (.astore_n 3, 1) := by decide +kernel
theorem d_SM_init_28 : decode prog_1_method_1_code 28 = .ok (.new 16, 3) := by decide +kernel
theorem d_SM_init_31 : decode prog_1_method_1_code 31 = .ok (.dup, 1) := by decide +kernel
theorem d_SM_init_32 : decode prog_1_method_1_code 32 = .ok (.aload_n 1, 1) := by decide +kernel
theorem d_SM_init_33 : decode prog_1_method_1_code 33 = .ok (.invokespecial 18, 3) := by decide +kernel
theorem d_SM_init_36 : decode prog_1_method_1_code 36 = .ok (.astore 4, 2) := by decide +kernel
theorem d_SM_init_38 : decode prog_1_method_1_code 38 = .ok (.aload_n 0, 1) := by decide +kernel
theorem d_SM_init_39 : decode prog_1_method_1_code 39 = .ok (.aload_n 1, 1) := by decide +kernel
theorem d_SM_init_40 : decode prog_1_method_1_code 40 = .ok (.putfield 21, 3) := by decide +kernel
theorem d_SM_init_43 : decode prog_1_method_1_code 43 = .ok (.aload_n 0, 1) := by decide +kernel
theorem d_SM_init_44 : decode prog_1_method_1_code 44 = .ok (.aload_n 2, 1) := by decide +kernel
theorem d_SM_init_45 : decode prog_1_method_1_code 45 = .ok (.putfield 27, 3) := by decide +kernel
theorem d_SM_init_48 : decode prog_1_method_1_code 48 = .ok (.aload_n 0, 1) := by decide +kernel
theorem d_SM_init_49 : decode prog_1_method_1_code 49 = .ok (.aload_n 3, 1) := by decide +kernel
theorem d_SM_init_50 : decode prog_1_method_1_code 50 = .ok (.putfield 31, 3) := by decide +kernel
theorem d_SM_init_53 : decode prog_1_method_1_code 53 = .ok (.aload_n 0, 1) := by decide +kernel
theorem d_SM_init_54 : decode prog_1_method_1_code 54 = .ok (.aload 4, 2) := by decide +kernel
theorem d_SM_init_56 : decode prog_1_method_1_code 56 = .ok (.putfield 35, 3) := by decide +kernel
theorem d_SM_init_59 : decode prog_1_method_1_code 59 = .ok (.aload_n 0, 1) := by decide +kernel
theorem d_SM_init_60 : decode prog_1_method_1_code 60 = .ok (.new 39, 3) := by decide +kernel
theorem d_SM_init_63 : decode prog_1_method_1_code 63 = .ok (.dup, 1) := by decide +kernel
theorem d_SM_init_64 : decode prog_1_method_1_code 64 = .ok (.aload_n 1, 1) := by decide +kernel
theorem d_SM_init_65 : decode prog_1_method_1_code 65 = .ok (.aload_n 2, 1) := by decide +kernel
theorem d_SM_init_66 : decode prog_1_method_1_code 66 = .ok (.aload_n 3, 1) := by decide +kernel
theorem d_SM_init_67 : decode prog_1_method_1_code 67 = .ok (.aload 4, 2) := by decide +kernel
theorem d_SM_init_69 : decode prog_1_method_1_code 69 = .ok (.invokespecial 41, 3) := by decide +kernel
theorem d_SM_init_72 : decode prog_1_method_1_code 72 = .ok (.putfield 44, 3) := by decide +kernel
theorem d_SM_init_75 : decode prog_1_method_1_code 75 = .ok (.return_, 1) := by decide +kernel
theorem d_Mo_init_0 : decode prog_13_method_1_code 0 = .ok (.aload_n 0, 1) := by decide +kernel
theorem d_Mo_init_1 : decode prog_13_method_1_code 1 = .ok (.invokespecial 1, 3) := by decide +kernel
theorem d_Mo_init_4 : decode prog_13_method_1_code 4 = .ok (.aload_n 0, 1) := by decide +kernel
theorem d_Mo_init_5 : decode prog_13_method_1_code 5 = .ok (.sipush 512, 3) := by decide +kernel
theorem d_Mo_init_8 : decode prog_13_method_1_code 8 = .ok (.newarray .int, 2) := by decide +kernel
theorem d_Mo_init_10 : decode prog_13_method_1_code 10 = .ok (.putfield 7, 3) := by decide +kernel
theorem d_Mo_init_13 : decode prog_13_method_1_code 13 = .ok (.aload_n 0, 1) := by decide +kernel
theorem d_Mo_init_14 : decode prog_13_method_1_code 14 = .ok (.bipush 48, 2) := by decide +kernel
theorem d_Mo_init_16 : decode prog_13_method_1_code 16 = .ok (.newarray .int, 2) := by decide +kernel
theorem d_Mo_init_18 : decode prog_13_method_1_code 18 = .ok (.putfield 13, 3) := by decide +kernel
theorem d_Mo_init_21 : decode prog_13_method_1_code 21 = .ok (.aload_n 0, 1) := by decide +kernel
theorem d_Mo_init_22 : decode prog_13_method_1_code 22 = .ok (.bipush 11, 2) := by decide +kernel
theorem d_Mo_init_24 : decode prog_13_method_1_code 24 = .ok (.newarray .int, 2) := by decide +kernel
theorem d_Mo_init_26 : decode prog_13_method_1_code 26 = .ok (.putfield 16, 3) := by decide +kernel
theorem d_Mo_init_29 : decode prog_13_method_1_code 29 = .ok (.aload_n 0, 1) := by decide +kernel
theorem d_Mo_init_30 : decode prog_13_method_1_code 30 = .ok (.bipush 11, 2) := by decide +kernel
theorem d_Mo_init_32 : decode prog_13_method_1_code 32 = .ok (.newarray .int, 2) := by decide +kernel
theorem d_Mo_init_34 : decode prog_13_method_1_code 34 = .ok (.putfield 19, 3) := by decide +kernel
theorem d_Mo_init_37 : decode prog_13_method_1_code 37 = .ok (.aload_n 0, 1) := by decide +kernel
theorem d_Mo_init_38 : decode prog_13_method_1_code 38 = .ok (.bipush 11, 2) := by decide +kernel
theorem d_Mo_init_40 : decode prog_13_method_1_code 40 = .ok (.newarray .int, 2) := by decide +kernel
theorem d_Mo_init_42 : decode prog_13_method_1_code 42 = .ok (.putfield 22, 3) := by decide +kernel
theorem d_Mo_init_45 : decode prog_13_method_1_code 45 = .ok (.aload_n 0, 1) := by decide +kernel
theorem d_Mo_init_46 : decode prog_13_method_1_code 46 = .ok (.bipush 11, 2) := by decide +kernel
theorem d_Mo_init_48 : decode prog_13_method_1_code 48 = .ok (.newarray .int, 2) := by decide +kernel
theorem d_Mo_init_50 : decode prog_13_method_1_code 50 = .ok (.putfield 25, 3) := by decide +kernel
theorem d_Mo_init_53 : decode prog_13_method_1_code 53 = .ok (.aload_n 0, 1) := by decide +kernel
theorem d_Mo_init_54 : decode prog_13_method_1_code 54 = .ok (.sipush 165, 3) := by decide +kernel
theorem d_Mo_init_57 : decode prog_13_method_1_code 57 = .ok (.newarray .int, 2) := by decide +kernel
theorem d_Mo_init_59 : decode prog_13_method_1_code 59 = .ok (.putfield 28, 3) := by decide +kernel
theorem d_Mo_init_62 : decode prog_13_method_1_code 62 = .ok (.aload_n 0, 1) := by decide +kernel
theorem d_Mo_init_63 : decode prog_13_method_1_code 63 = .ok (.sipush 512, 3) := by decide +kernel
theorem d_Mo_init_66 : decode prog_13_method_1_code 66 = .ok (.newarray .int, 2) := by decide +kernel
theorem d_Mo_init_68 : decode prog_13_method_1_code 68 = .ok (.putfield 31, 3) := by decide +kernel
theorem d_Mo_init_71 : decode prog_13_method_1_code 71 = .ok (.aload_n 0, 1) := by decide +kernel
theorem d_Mo_init_72 : decode prog_13_method_1_code 72 = .ok (.bipush 48, 2) := by decide +kernel
theorem d_Mo_init_74 : decode prog_13_method_1_code 74 = .ok (.newarray .int, 2) := by decide +kernel
theorem d_Mo_init_76 : decode prog_13_method_1_code 76 = .ok (.putfield 34, 3) := by decide +kernel
theorem d_Mo_init_79 : decode prog_13_method_1_code 79 = .ok (.aload_n 0, 1) := by decide +kernel
theorem d_Mo_init_80 : decode prog_13_method_1_code 80 = .ok (.bipush 11, 2) := by decide +kernel
theorem d_Mo_init_82 : decode prog_13_method_1_code 82 = .ok (.newarray .int, 2) := by decide +kernel
theorem d_Mo_init_84 : decode prog_13_method_1_code 84 = .ok (.putfield 37, 3) := by decide +kernel
theorem d_Mo_init_87 : decode prog_13_method_1_code 87 = .ok (.aload_n 0, 1) := by decide +kernel
theorem d_Mo_init_88 : decode prog_13_method_1_code 88 = .ok (.bipush 11, 2) := by decide +kernel
theorem d_Mo_init_90 : decode prog_13_method_1_code 90 = .ok (.newarray .int, 2) := by decide +kernel
theorem d_Mo_init_92 : decode prog_13_method_1_code 92 = .ok (.putfield 40, 3) := by decide +kernel
theorem d_Mo_init_95 : decode prog_13_method_1_code 95 = .ok (.aload_n 0, 1) := by decide +kernel
theorem d_Mo_init_96 : decode prog_13_method_1_code 96 = .ok (.bipush 11, 2) := by decide +kernel
theorem d_Mo_init_98 : decode prog_13_method_1_code 98 = .ok (.newarray .int, 2) := by decide +kernel
theorem d_Mo_init_100 : decode prog_13_method_1_code 100 = .ok (.putfield 43, 3) := by decide +kernel
theorem d_Mo_init_103 : decode prog_13_method_1_code 103 = .ok (.aload_n 0, 1) := by decide +kernel
theorem d_Mo_init_104 : decode prog_13_method_1_code 104 = .ok (.bipush 11, 2) := by decide +kernel
theorem d_Mo_init_106 : decode prog_13_method_1_code 106 = .ok (.newarray .int, 2) := by decide +kernel
theorem d_Mo_init_108 : decode prog_13_method_1_code 108 = .ok (.putfield 46, 3) := by decide +kernel
theorem d_Mo_init_111 : decode prog_13_method_1_code 111 = .ok (.aload_n 0, 1) := by decide +kernel
theorem d_Mo_init_112 : decode prog_13_method_1_code 112 = .ok (.sipush 165, 3) := by decide +kernel
theorem d_Mo_init_115 : decode prog_13_method_1_code 115 = .ok (.newarray .int, 2) := by decide +kernel
theorem d_Mo_init_117 : decode prog_13_method_1_code 117 = .ok (.putfield 49, 3) := by decide +kernel
theorem d_Mo_init_120 : decode prog_13_method_1_code 120 = .ok (.aload_n 0, 1) := by decide +kernel
theorem d_Mo_init_121 : decode prog_13_method_1_code 121 = .ok (.bipush 64, 2) := by decide +kernel
theorem d_Mo_init_123 : decode prog_13_method_1_code 123 = .ok (.newarray .int, 2) := by decide +kernel
theorem d_Mo_init_125 : decode prog_13_method_1_code 125 = .ok (.putfield 52, 3) := by decide +kernel
theorem d_Mo_init_128 : decode prog_13_method_1_code 128 = .ok (.aload_n 0, 1) := by decide +kernel
theorem d_Mo_init_129 : decode prog_13_method_1_code 129 = .ok (.bipush 24, 2) := by decide +kernel
theorem d_Mo_init_131 : decode prog_13_method_1_code 131 = .ok (.newarray .int, 2) := by decide +kernel
theorem d_Mo_init_133 : decode prog_13_method_1_code 133 = .ok (.putfield 55, 3) := by decide +kernel
theorem d_Mo_init_136 : decode prog_13_method_1_code 136 = .ok (.aload_n 0, 1) := by decide +kernel
theorem d_Mo_init_137 : decode prog_13_method_1_code 137 = .ok (.bipush 24, 2) := by decide +kernel
theorem d_Mo_init_139 : decode prog_13_method_1_code 139 = .ok (.newarray .int, 2) := by decide +kernel
theorem d_Mo_init_141 : decode prog_13_method_1_code 141 = .ok (.putfield 58, 3) := by decide +kernel
theorem d_Mo_init_144 : decode prog_13_method_1_code 144 = .ok (.aload_n 0, 1) := by decide +kernel
theorem d_Mo_init_145 : decode prog_13_method_1_code 145 = .ok (.iconst 4, 1) := by decide +kernel
theorem d_Mo_init_146 : decode prog_13_method_1_code 146 = .ok (.newarray .int, 2) := by decide +kernel
theorem d_Mo_init_148 : decode prog_13_method_1_code 148 = .ok (.putfield 61, 3) := by decide +kernel
theorem d_Mo_init_151 : decode prog_13_method_1_code 151 = .ok (.aload_n 0, 1) := by decide +kernel
theorem d_Mo_init_152 : decode prog_13_method_1_code 152 = .ok (.bipush 6, 2) := by decide +kernel
theorem d_Mo_init_154 : decode prog_13_method_1_code 154 = .ok (.newarray .int, 2) := by decide +kernel
theorem d_Mo_init_156 : decode prog_13_method_1_code 156 = .ok (.putfield 64, 3) := by decide +kernel
theorem d_Mo_init_159 : decode prog_13_method_1_code 159 = .ok (.aload_n 0, 1) := by decide +kernel
theorem d_Mo_init_160 : decode prog_13_method_1_code 160 = .ok (.bipush 24, 2) := by decide +kernel
theorem d_Mo_init_162 : decode prog_13_method_1_code 162 = .ok (.newarray .int, 2) := by decide +kernel
theorem d_Mo_init_164 : decode prog_13_method_1_code 164 = .ok (.putfield 67, 3) := by decide +kernel
theorem d_Mo_init_167 : decode prog_13_method_1_code 167 = .ok (.aload_n 0, 1) := by decide +kernel
theorem d_Mo_init_168 : decode prog_13_method_1_code 168 = .ok (.bipush 24, 2) := by decide +kernel
theorem d_Mo_init_170 : decode prog_13_method_1_code 170 = .ok (.newarray .int, 2) := by decide +kernel
theorem d_Mo_init_172 : decode prog_13_method_1_code 172 = .ok (.putfield 70, 3) := by decide +kernel
theorem d_Mo_init_175 : decode prog_13_method_1_code 175 = .ok (.return_, 1) := by decide +kernel
theorem d_SM_packed_0 : decode prog_1_method_14_code 0 = .ok (.lload_n 0, 1) := by decide +kernel
theorem d_SM_packed_1 : decode prog_1_method_14_code 1 = .ok (.bipush 8, 2) := by decide +kernel
theorem d_SM_packed_3 : decode prog_1_method_14_code 3 = .ok (.iload_n 2, 1) := by decide +kernel
theorem d_SM_packed_4 : decode prog_1_method_14_code 4 = .ok (.iconst 1, 1) := by decide +kernel
theorem d_SM_packed_5 : decode prog_1_method_14_code 5 = .ok (.isub, 1) := by decide +kernel
theorem d_SM_packed_6 : decode prog_1_method_14_code 6 = .ok (.iload_n 3, 1) := by decide +kernel
theorem d_SM_packed_7 : decode prog_1_method_14_code 7 = .ok (.isub, 1) := by decide +kernel
theorem d_SM_packed_8 : decode prog_1_method_14_code 8 = .ok (.imul, 1) := by decide +kernel
theorem d_SM_packed_9 : decode prog_1_method_14_code 9 = .ok (.lshr, 1) := by decide +kernel
theorem d_SM_packed_10 : decode prog_1_method_14_code 10 = .ok (.l2i, 1) := by decide +kernel
theorem d_SM_packed_11 : decode prog_1_method_14_code 11 = .ok (.sipush 255, 3) := by decide +kernel
theorem d_SM_packed_14 : decode prog_1_method_14_code 14 = .ok (.iand, 1) := by decide +kernel
theorem d_SM_packed_15 : decode prog_1_method_14_code 15 = .ok (.ireturn, 1) := by decide +kernel
theorem d_SM_poke_0 : decode prog_1_method_2_code 0 = .ok (.iload 4, 2) := by decide +kernel
theorem d_SM_poke_2 : decode prog_1_method_2_code 2 = .ok (.iconst 1, 1) := by decide +kernel
theorem d_SM_poke_3 : decode prog_1_method_2_code 3 = .ok (.if_icmp .lt 24, 3) := by decide +kernel
theorem d_SM_poke_6 : decode prog_1_method_2_code 6 = .ok (.iload 4, 2) := by decide +kernel
theorem d_SM_poke_8 : decode prog_1_method_2_code 8 = .ok (.bipush 8, 2) := by decide +kernel
theorem d_SM_poke_10 : decode prog_1_method_2_code 10 = .ok (.if_icmp .gt 17, 3) := by decide +kernel
theorem d_SM_poke_13 : decode prog_1_method_2_code 13 = .ok (.iload_n 1, 1) := by decide +kernel
theorem d_SM_poke_14 : decode prog_1_method_2_code 14 = .ok (.ifCond .lt 13, 3) := by decide +kernel
theorem d_SM_poke_17 : decode prog_1_method_2_code 17 = .ok (.iload_n 1, 1) := by decide +kernel
theorem d_SM_poke_18 : decode prog_1_method_2_code 18 = .ok (.sipush 512, 3) := by decide +kernel
theorem d_SM_poke_21 : decode prog_1_method_2_code 21 = .ok (.iload 4, 2) := by decide +kernel
theorem d_SM_poke_23 : decode prog_1_method_2_code 23 = .ok (.isub, 1) := by decide +kernel
theorem d_SM_poke_24 : decode prog_1_method_2_code 24 = .ok (.if_icmp .le 11, 3) := by decide +kernel
theorem d_SM_poke_27 : decode prog_1_method_2_code 27 = .ok (.new 48, 3) := by decide +kernel
theorem d_SM_poke_30 : decode prog_1_method_2_code 30 = .ok (.dup, 1) := by decide +kernel
theorem d_SM_poke_31 : decode prog_1_method_2_code 31 = .ok (.invokespecial 50, 3) := by decide +kernel
theorem d_SM_poke_34 : decode prog_1_method_2_code 34 = .ok (.athrow, 1) := by decide +kernel
theorem d_SM_poke_35 : decode prog_1_method_2_code 35 = .ok (.iconst 0, 1) := by decide +kernel
theorem d_SM_poke_36 : decode prog_1_method_2_code 36 = .ok (.istore 5, 2) := by decide +kernel
theorem d_SM_poke_38 : decode prog_1_method_2_code 38 = .ok (.iload 5, 2) := by decide +kernel
theorem d_SM_poke_40 : decode prog_1_method_2_code 40 = .ok (.iload 4, 2) := by decide +kernel
theorem d_SM_poke_42 : decode prog_1_method_2_code 42 = .ok (.if_icmp .ge 29, 3) := by decide +kernel
theorem d_SM_poke_45 : decode prog_1_method_2_code 45 = .ok (.aload_n 0, 1) := by decide +kernel
theorem d_SM_poke_46 : decode prog_1_method_2_code 46 = .ok (.getfield 21, 3) := by decide +kernel
theorem d_SM_poke_49 : decode prog_1_method_2_code 49 = .ok (.getfield 51, 3) := by decide +kernel
theorem d_SM_poke_52 : decode prog_1_method_2_code 52 = .ok (.iload_n 1, 1) := by decide +kernel
theorem d_SM_poke_53 : decode prog_1_method_2_code 53 = .ok (.iload 5, 2) := by decide +kernel
theorem d_SM_poke_55 : decode prog_1_method_2_code 55 = .ok (.iadd, 1) := by decide +kernel
theorem d_SM_poke_56 : decode prog_1_method_2_code 56 = .ok (.lload_n 2, 1) := by decide +kernel
theorem d_SM_poke_57 : decode prog_1_method_2_code 57 = .ok (.iload 4, 2) := by decide +kernel
theorem d_SM_poke_59 : decode prog_1_method_2_code 59 = .ok (.iload 5, 2) := by decide +kernel
theorem d_SM_poke_61 : decode prog_1_method_2_code 61 = .ok (.invokestatic 55, 3) := by decide +kernel
theorem d_SM_poke_64 : decode prog_1_method_2_code 64 = .ok (.iastore, 1) := by decide +kernel
theorem d_SM_poke_65 : decode prog_1_method_2_code 65 = .ok (.iinc 5 1, 3) := by decide +kernel
theorem d_SM_poke_68 : decode prog_1_method_2_code 68 = .ok (.goto (-30), 3) := by decide +kernel
theorem d_SM_poke_71 : decode prog_1_method_2_code 71 = .ok (.return_, 1) := by decide +kernel
theorem d_SM_peek_0 : decode prog_1_method_3_code 0 = .ok (.iload_n 1, 1) := by decide +kernel
theorem d_SM_peek_1 : decode prog_1_method_3_code 1 = .ok (.ifCond .lt 10, 3) := by decide +kernel
theorem d_SM_peek_4 : decode prog_1_method_3_code 4 = .ok (.iload_n 1, 1) := by decide +kernel
theorem d_SM_peek_5 : decode prog_1_method_3_code 5 = .ok (.sipush 512, 3) := by decide +kernel
theorem d_SM_peek_8 : decode prog_1_method_3_code 8 = .ok (.if_icmp .lt 11, 3) := by decide +kernel
theorem d_SM_peek_11 : decode prog_1_method_3_code 11 = .ok (.new 48, 3) := by decide +kernel
theorem d_SM_peek_14 : decode prog_1_method_3_code 14 = .ok (.dup, 1) := by decide +kernel
theorem d_SM_peek_15 : decode prog_1_method_3_code 15 = .ok (.invokespecial 50, 3) := by decide +kernel
theorem d_SM_peek_18 : decode prog_1_method_3_code 18 = .ok (.athrow, 1) := by decide +kernel
theorem d_SM_peek_19 : decode prog_1_method_3_code 19 = .ok (.aload_n 0, 1) := by decide +kernel
theorem d_SM_peek_20 : decode prog_1_method_3_code 20 = .ok (.getfield 21, 3) := by decide +kernel
theorem d_SM_peek_23 : decode prog_1_method_3_code 23 = .ok (.getfield 51, 3) := by decide +kernel
theorem d_SM_peek_26 : decode prog_1_method_3_code 26 = .ok (.iload_n 1, 1) := by decide +kernel
theorem d_SM_peek_27 : decode prog_1_method_3_code 27 = .ok (.iaload, 1) := by decide +kernel
theorem d_SM_peek_28 : decode prog_1_method_3_code 28 = .ok (.ireturn, 1) := by decide +kernel
theorem d_Me_wordAt_0 : decode prog_7_method_3_code 0 = .ok (.iload_n 1, 1) := by decide +kernel
theorem d_Me_wordAt_1 : decode prog_7_method_3_code 1 = .ok (.ifCond .lt 10, 3) := by decide +kernel
theorem d_Me_wordAt_4 : decode prog_7_method_3_code 4 = .ok (.iload_n 1, 1) := by decide +kernel
theorem d_Me_wordAt_5 : decode prog_7_method_3_code 5 = .ok (.sipush 511, 3) := by decide +kernel
theorem d_Me_wordAt_8 : decode prog_7_method_3_code 8 = .ok (.if_icmp .lt 11, 3) := by decide +kernel
theorem d_Me_wordAt_11 : decode prog_7_method_3_code 11 = .ok (.new 13, 3) := by decide +kernel
theorem d_Me_wordAt_14 : decode prog_7_method_3_code 14 = .ok (.dup, 1) := by decide +kernel
theorem d_Me_wordAt_15 : decode prog_7_method_3_code 15 = .ok (.invokespecial 15, 3) := by decide +kernel
theorem d_Me_wordAt_18 : decode prog_7_method_3_code 18 = .ok (.athrow, 1) := by decide +kernel
theorem d_Me_wordAt_19 : decode prog_7_method_3_code 19 = .ok (.sipush 256, 3) := by decide +kernel
theorem d_Me_wordAt_22 : decode prog_7_method_3_code 22 = .ok (.aload_n 0, 1) := by decide +kernel
theorem d_Me_wordAt_23 : decode prog_7_method_3_code 23 = .ok (.getfield 9, 3) := by decide +kernel
theorem d_Me_wordAt_26 : decode prog_7_method_3_code 26 = .ok (.iload_n 1, 1) := by decide +kernel
theorem d_Me_wordAt_27 : decode prog_7_method_3_code 27 = .ok (.iaload, 1) := by decide +kernel
theorem d_Me_wordAt_28 : decode prog_7_method_3_code 28 = .ok (.imul, 1) := by decide +kernel
theorem d_Me_wordAt_29 : decode prog_7_method_3_code 29 = .ok (.aload_n 0, 1) := by decide +kernel
theorem d_Me_wordAt_30 : decode prog_7_method_3_code 30 = .ok (.getfield 9, 3) := by decide +kernel
theorem d_Me_wordAt_33 : decode prog_7_method_3_code 33 = .ok (.iload_n 1, 1) := by decide +kernel
theorem d_Me_wordAt_34 : decode prog_7_method_3_code 34 = .ok (.iconst 1, 1) := by decide +kernel
theorem d_Me_wordAt_35 : decode prog_7_method_3_code 35 = .ok (.iadd, 1) := by decide +kernel
theorem d_Me_wordAt_36 : decode prog_7_method_3_code 36 = .ok (.iaload, 1) := by decide +kernel
theorem d_Me_wordAt_37 : decode prog_7_method_3_code 37 = .ok (.iadd, 1) := by decide +kernel
theorem d_Me_wordAt_38 : decode prog_7_method_3_code 38 = .ok (.ireturn, 1) := by decide +kernel
theorem d_Ro_clear_0 : decode prog_9_method_2_code 0 = .ok (.aload_n 0, 1) := by decide +kernel
theorem d_Ro_clear_1 : decode prog_9_method_2_code 1 = .ok (.iconst 0, 1) := by decide +kernel
theorem d_Ro_clear_2 : decode prog_9_method_2_code 2 = .ok (.putfield 28, 3) := by decide +kernel
theorem d_Ro_clear_5 : decode prog_9_method_2_code 5 = .ok (.aload_n 0, 1) := by decide +kernel
theorem d_Ro_clear_6 : decode prog_9_method_2_code 6 = .ok (.iconst 0, 1) := by decide +kernel
theorem d_Ro_clear_7 : decode prog_9_method_2_code 7 = .ok (.putfield 32, 3) := by decide +kernel
theorem d_Ro_clear_10 : decode prog_9_method_2_code 10 = .ok (.aload_n 0, 1) := by decide +kernel
theorem d_Ro_clear_11 : decode prog_9_method_2_code 11 = .ok (.getfield 13, 3) := by decide +kernel
theorem d_Ro_clear_14 : decode prog_9_method_2_code 14 = .ok (.iconst 0, 1) := by decide +kernel
theorem d_Ro_clear_15 : decode prog_9_method_2_code 15 = .ok (.iconst 0, 1) := by decide +kernel
theorem d_Ro_clear_16 : decode prog_9_method_2_code 16 = .ok (.iastore, 1) := by decide +kernel
theorem d_Ro_clear_17 : decode prog_9_method_2_code 17 = .ok (.aload_n 0, 1) := by decide +kernel
theorem d_Ro_clear_18 : decode prog_9_method_2_code 18 = .ok (.getfield 22, 3) := by decide +kernel
theorem d_Ro_clear_21 : decode prog_9_method_2_code 21 = .ok (.iconst 0, 1) := by decide +kernel
theorem d_Ro_clear_22 : decode prog_9_method_2_code 22 = .ok (.iconst 0, 1) := by decide +kernel
theorem d_Ro_clear_23 : decode prog_9_method_2_code 23 = .ok (.iastore, 1) := by decide +kernel
theorem d_Ro_clear_24 : decode prog_9_method_2_code 24 = .ok (.return_, 1) := by decide +kernel
theorem d_Li_clear_0 : decode prog_6_method_2_code 0 = .ok (.aload_n 0, 1) := by decide +kernel
theorem d_Li_clear_1 : decode prog_6_method_2_code 1 = .ok (.iconst 0, 1) := by decide +kernel
theorem d_Li_clear_2 : decode prog_6_method_2_code 2 = .ok (.putfield 16, 3) := by decide +kernel
theorem d_Li_clear_5 : decode prog_6_method_2_code 5 = .ok (.aload_n 0, 1) := by decide +kernel
theorem d_Li_clear_6 : decode prog_6_method_2_code 6 = .ok (.iconst 0, 1) := by decide +kernel
theorem d_Li_clear_7 : decode prog_6_method_2_code 7 = .ok (.putfield 20, 3) := by decide +kernel
theorem d_Li_clear_10 : decode prog_6_method_2_code 10 = .ok (.return_, 1) := by decide +kernel
theorem d_En_startAt_0 : decode prog_4_method_2_code 0 = .ok (.aload_n 0, 1) := by decide +kernel
theorem d_En_startAt_1 : decode prog_4_method_2_code 1 = .ok (.iload_n 1, 1) := by decide +kernel
theorem d_En_startAt_2 : decode prog_4_method_2_code 2 = .ok (.putfield 22, 3) := by decide +kernel
theorem d_En_startAt_5 : decode prog_4_method_2_code 5 = .ok (.aload_n 0, 1) := by decide +kernel
theorem d_En_startAt_6 : decode prog_4_method_2_code 6 = .ok (.iconst 1, 1) := by decide +kernel
theorem d_En_startAt_7 : decode prog_4_method_2_code 7 = .ok (.putfield 76, 3) := by decide +kernel
theorem d_En_startAt_10 : decode prog_4_method_2_code 10 = .ok (.aload_n 0, 1) := by decide +kernel
theorem d_En_startAt_11 : decode prog_4_method_2_code 11 = .ok (.iconst 0, 1) := by decide +kernel
theorem d_En_startAt_12 : decode prog_4_method_2_code 12 = .ok (.putfield 80, 3) := by decide +kernel
theorem d_En_startAt_15 : decode prog_4_method_2_code 15 = .ok (.aload_n 0, 1) := by decide +kernel
theorem d_En_startAt_16 : decode prog_4_method_2_code 16 = .ok (.iconst 0, 1) := by decide +kernel
theorem d_En_startAt_17 : decode prog_4_method_2_code 17 = .ok (.putfield 83, 3) := by decide +kernel
theorem d_En_startAt_20 : decode prog_4_method_2_code 20 = .ok (.aload_n 0, 1) := by decide +kernel
theorem d_En_startAt_21 : decode prog_4_method_2_code 21 = .ok (.getfield 43, 3) := by decide +kernel
theorem d_En_startAt_24 : decode prog_4_method_2_code 24 = .ok (.iconst 0, 1) := by decide +kernel
theorem d_En_startAt_25 : decode prog_4_method_2_code 25 = .ok (.putfield 86, 3) := by decide +kernel
theorem d_En_startAt_28 : decode prog_4_method_2_code 28 = .ok (.aload_n 0, 1) := by decide +kernel
theorem d_En_startAt_29 : decode prog_4_method_2_code 29 = .ok (.getfield 10, 3) := by decide +kernel
theorem d_En_startAt_32 : decode prog_4_method_2_code 32 = .ok (.iconst 0, 1) := by decide +kernel
theorem d_En_startAt_33 : decode prog_4_method_2_code 33 = .ok (.putfield 91, 3) := by decide +kernel
theorem d_En_startAt_36 : decode prog_4_method_2_code 36 = .ok (.aload_n 0, 1) := by decide +kernel
theorem d_En_startAt_37 : decode prog_4_method_2_code 37 = .ok (.getfield 39, 3) := by decide +kernel
theorem d_En_startAt_40 : decode prog_4_method_2_code 40 = .ok (.invokevirtual 94, 3) := by decide +kernel
theorem d_En_startAt_43 : decode prog_4_method_2_code 43 = .ok (.aload_n 0, 1) := by decide +kernel
theorem d_En_startAt_44 : decode prog_4_method_2_code 44 = .ok (.getfield 35, 3) := by decide +kernel
theorem d_En_startAt_47 : decode prog_4_method_2_code 47 = .ok (.invokevirtual 97, 3) := by decide +kernel
theorem d_En_startAt_50 : decode prog_4_method_2_code 50 = .ok (.return_, 1) := by decide +kernel
theorem d_SM_begin_0 : decode prog_1_method_4_code 0 = .ok (.aload_n 0, 1) := by decide +kernel
theorem d_SM_begin_1 : decode prog_1_method_4_code 1 = .ok (.getfield 21, 3) := by decide +kernel
theorem d_SM_begin_4 : decode prog_1_method_4_code 4 = .ok (.iconst 4, 1) := by decide +kernel
theorem d_SM_begin_5 : decode prog_1_method_4_code 5 = .ok (.invokevirtual 59, 3) := by decide +kernel
theorem d_SM_begin_8 : decode prog_1_method_4_code 8 = .ok (.istore_n 1, 1) := by decide +kernel
theorem d_SM_begin_9 : decode prog_1_method_4_code 9 = .ok (.iload_n 1, 1) := by decide +kernel
theorem d_SM_begin_10 : decode prog_1_method_4_code 10 = .ok (.sipush 512, 3) := by decide +kernel
theorem d_SM_begin_13 : decode prog_1_method_4_code 13 = .ok (.if_icmp .lt 11, 3) := by decide +kernel
theorem d_SM_begin_16 : decode prog_1_method_4_code 16 = .ok (.new 63, 3) := by decide +kernel
theorem d_SM_begin_19 : decode prog_1_method_4_code 19 = .ok (.dup, 1) := by decide +kernel
theorem d_SM_begin_20 : decode prog_1_method_4_code 20 = .ok (.invokespecial 65, 3) := by decide +kernel
theorem d_SM_begin_23 : decode prog_1_method_4_code 23 = .ok (.athrow, 1) := by decide +kernel
theorem d_SM_begin_24 : decode prog_1_method_4_code 24 = .ok (.aload_n 0, 1) := by decide +kernel
theorem d_SM_begin_25 : decode prog_1_method_4_code 25 = .ok (.getfield 44, 3) := by decide +kernel
theorem d_SM_begin_28 : decode prog_1_method_4_code 28 = .ok (.iload_n 1, 1) := by decide +kernel
theorem d_SM_begin_29 : decode prog_1_method_4_code 29 = .ok (.invokevirtual 66, 3) := by decide +kernel
theorem d_SM_begin_32 : decode prog_1_method_4_code 32 = .ok (.return_, 1) := by decide +kernel
theorem d_SM_run_0 : decode prog_1_method_7_code 0 = .ok (.iload_n 1, 1) := by decide +kernel
theorem d_SM_run_1 : decode prog_1_method_7_code 1 = .ok (.iconst 1, 1) := by decide +kernel
theorem d_SM_run_2 : decode prog_1_method_7_code 2 = .ok (.if_icmp .lt 10, 3) := by decide +kernel
theorem d_SM_run_5 : decode prog_1_method_7_code 5 = .ok (.iload_n 1, 1) := by decide +kernel
theorem d_SM_run_6 : decode prog_1_method_7_code 6 = .ok (.sipush 300, 3) := by decide +kernel
theorem d_SM_run_9 : decode prog_1_method_7_code 9 = .ok (.if_icmp .le 11, 3) := by decide +kernel
theorem d_SM_run_12 : decode prog_1_method_7_code 12 = .ok (.new 48, 3) := by decide +kernel
theorem d_SM_run_15 : decode prog_1_method_7_code 15 = .ok (.dup, 1) := by decide +kernel
theorem d_SM_run_16 : decode prog_1_method_7_code 16 = .ok (.invokespecial 50, 3) := by decide +kernel
theorem d_SM_run_19 : decode prog_1_method_7_code 19 = .ok (.athrow, 1) := by decide +kernel
theorem d_SM_run_20 : decode prog_1_method_7_code 20 = .ok (.aload_n 0, 1) := by decide +kernel
theorem d_SM_run_21 : decode prog_1_method_7_code 21 = .ok (.getfield 44, 3) := by decide +kernel
theorem d_SM_run_24 : decode prog_1_method_7_code 24 = .ok (.getfield 80, 3) := by decide +kernel
theorem d_SM_run_27 : decode prog_1_method_7_code 27 = .ok (.ifCond .ne 11, 3) := by decide +kernel
theorem d_SM_run_30 : decode prog_1_method_7_code 30 = .ok (.new 63, 3) := by decide +kernel
theorem d_SM_run_33 : decode prog_1_method_7_code 33 = .ok (.dup, 1) := by decide +kernel
theorem d_SM_run_34 : decode prog_1_method_7_code 34 = .ok (.invokespecial 65, 3) := by decide +kernel
theorem d_SM_run_37 : decode prog_1_method_7_code 37 = .ok (.athrow, 1) := by decide +kernel
theorem d_SM_run_38 : decode prog_1_method_7_code 38 = .ok (.iconst 0, 1) := by decide +kernel
theorem d_SM_run_39 : decode prog_1_method_7_code 39 = .ok (.istore_n 2, 1) := by decide +kernel
theorem d_SM_run_40 : decode prog_1_method_7_code 40 = .ok (.iconst 0, 1) := by decide +kernel
theorem d_SM_run_41 : decode prog_1_method_7_code 41 = .ok (.istore_n 3, 1) := by decide +kernel
theorem d_SM_run_42 : decode prog_1_method_7_code 42 = .ok (.iload_n 3, 1) := by decide +kernel
theorem d_SM_run_43 : decode prog_1_method_7_code 43 = .ok (.iload_n 1, 1) := by decide +kernel
theorem d_SM_run_44 : decode prog_1_method_7_code 44 = .ok (.if_icmp .ge 21, 3) := by decide +kernel
theorem d_SM_run_47 : decode prog_1_method_7_code 47 = .ok (.iload_n 2, 1) := by decide +kernel
theorem d_SM_run_48 : decode prog_1_method_7_code 48 = .ok (.ifCond .ne 17, 3) := by decide +kernel
theorem d_SM_run_51 : decode prog_1_method_7_code 51 = .ok (.aload_n 0, 1) := by decide +kernel
theorem d_SM_run_52 : decode prog_1_method_7_code 52 = .ok (.getfield 44, 3) := by decide +kernel
theorem d_SM_run_55 : decode prog_1_method_7_code 55 = .ok (.invokevirtual 84, 3) := by decide +kernel
theorem d_SM_run_58 : decode prog_1_method_7_code 58 = .ok (.istore_n 2, 1) := by decide +kernel
theorem d_SM_run_59 : decode prog_1_method_7_code 59 = .ok (.iinc 3 1, 3) := by decide +kernel
theorem d_SM_run_62 : decode prog_1_method_7_code 62 = .ok (.goto (-20), 3) := by decide +kernel
theorem d_SM_run_65 : decode prog_1_method_7_code 65 = .ok (.iload_n 2, 1) := by decide +kernel
theorem d_SM_run_66 : decode prog_1_method_7_code 66 = .ok (.ireturn, 1) := by decide +kernel
theorem d_SM_steps_0 : decode prog_1_method_8_code 0 = .ok (.aload_n 0, 1) := by decide +kernel
theorem d_SM_steps_1 : decode prog_1_method_8_code 1 = .ok (.getfield 44, 3) := by decide +kernel
theorem d_SM_steps_4 : decode prog_1_method_8_code 4 = .ok (.getfield 88, 3) := by decide +kernel
theorem d_SM_steps_7 : decode prog_1_method_8_code 7 = .ok (.ireturn, 1) := by decide +kernel
theorem d_SM_place_0 : decode prog_1_method_9_code 0 = .ok (.aload_n 0, 1) := by decide +kernel
theorem d_SM_place_1 : decode prog_1_method_9_code 1 = .ok (.getfield 44, 3) := by decide +kernel
theorem d_SM_place_4 : decode prog_1_method_9_code 4 = .ok (.getfield 91, 3) := by decide +kernel
theorem d_SM_place_7 : decode prog_1_method_9_code 7 = .ok (.ireturn, 1) := by decide +kernel
theorem d_SM_routines_0 : decode prog_1_method_13_code 0 = .ok (.aload_n 0, 1) := by decide +kernel
theorem d_SM_routines_1 : decode prog_1_method_13_code 1 = .ok (.getfield 31, 3) := by decide +kernel
theorem d_SM_routines_4 : decode prog_1_method_13_code 4 = .ok (.getfield 115, 3) := by decide +kernel
theorem d_SM_routines_7 : decode prog_1_method_13_code 7 = .ok (.ireturn, 1) := by decide +kernel
theorem d_SM_output_0 : decode prog_1_method_10_code 0 = .ok (.iload_n 1, 1) := by decide +kernel
theorem d_SM_output_1 : decode prog_1_method_10_code 1 = .ok (.iconst (-1), 1) := by decide +kernel
theorem d_SM_output_2 : decode prog_1_method_10_code 2 = .ok (.if_icmp .lt 20, 3) := by decide +kernel
theorem d_SM_output_5 : decode prog_1_method_10_code 5 = .ok (.iload_n 1, 1) := by decide +kernel
theorem d_SM_output_6 : decode prog_1_method_10_code 6 = .ok (.bipush 64, 2) := by decide +kernel
theorem d_SM_output_8 : decode prog_1_method_10_code 8 = .ok (.if_icmp .ge 14, 3) := by decide +kernel
theorem d_SM_output_11 : decode prog_1_method_10_code 11 = .ok (.iload_n 1, 1) := by decide +kernel
theorem d_SM_output_12 : decode prog_1_method_10_code 12 = .ok (.aload_n 0, 1) := by decide +kernel
theorem d_SM_output_13 : decode prog_1_method_10_code 13 = .ok (.getfield 35, 3) := by decide +kernel
theorem d_SM_output_16 : decode prog_1_method_10_code 16 = .ok (.getfield 94, 3) := by decide +kernel
theorem d_SM_output_19 : decode prog_1_method_10_code 19 = .ok (.if_icmp .lt 11, 3) := by decide +kernel
theorem d_SM_output_22 : decode prog_1_method_10_code 22 = .ok (.new 97, 3) := by decide +kernel
theorem d_SM_output_25 : decode prog_1_method_10_code 25 = .ok (.dup, 1) := by decide +kernel
theorem d_SM_output_26 : decode prog_1_method_10_code 26 = .ok (.invokespecial 99, 3) := by decide +kernel
theorem d_SM_output_29 : decode prog_1_method_10_code 29 = .ok (.athrow, 1) := by decide +kernel
theorem d_SM_output_30 : decode prog_1_method_10_code 30 = .ok (.iload_n 1, 1) := by decide +kernel
theorem d_SM_output_31 : decode prog_1_method_10_code 31 = .ok (.iconst (-1), 1) := by decide +kernel
theorem d_SM_output_32 : decode prog_1_method_10_code 32 = .ok (.if_icmp .ne 13, 3) := by decide +kernel
theorem d_SM_output_35 : decode prog_1_method_10_code 35 = .ok (.aload_n 0, 1) := by decide +kernel
theorem d_SM_output_36 : decode prog_1_method_10_code 36 = .ok (.getfield 35, 3) := by decide +kernel
theorem d_SM_output_39 : decode prog_1_method_10_code 39 = .ok (.getfield 94, 3) := by decide +kernel
theorem d_SM_output_42 : decode prog_1_method_10_code 42 = .ok (.goto 11, 3) := by decide +kernel
theorem d_SM_output_45 : decode prog_1_method_10_code 45 = .ok (.aload_n 0, 1) := by decide +kernel
theorem d_SM_output_46 : decode prog_1_method_10_code 46 = .ok (.getfield 35, 3) := by decide +kernel
theorem d_SM_output_49 : decode prog_1_method_10_code 49 = .ok (.iload_n 1, 1) := by decide +kernel
theorem d_SM_output_50 : decode prog_1_method_10_code 50 = .ok (.invokevirtual 100, 3) := by decide +kernel
theorem d_SM_output_53 : decode prog_1_method_10_code 53 = .ok (.ireturn, 1) := by decide +kernel
theorem d_SM_stack_0 : decode prog_1_method_11_code 0 = .ok (.iload_n 1, 1) := by decide +kernel
theorem d_SM_stack_1 : decode prog_1_method_11_code 1 = .ok (.iconst (-1), 1) := by decide +kernel
theorem d_SM_stack_2 : decode prog_1_method_11_code 2 = .ok (.if_icmp .lt 14, 3) := by decide +kernel
theorem d_SM_stack_5 : decode prog_1_method_11_code 5 = .ok (.iload_n 1, 1) := by decide +kernel
theorem d_SM_stack_6 : decode prog_1_method_11_code 6 = .ok (.aload_n 0, 1) := by decide +kernel
theorem d_SM_stack_7 : decode prog_1_method_11_code 7 = .ok (.getfield 31, 3) := by decide +kernel
theorem d_SM_stack_10 : decode prog_1_method_11_code 10 = .ok (.getfield 103, 3) := by decide +kernel
theorem d_SM_stack_13 : decode prog_1_method_11_code 13 = .ok (.if_icmp .lt 11, 3) := by decide +kernel
theorem d_SM_stack_16 : decode prog_1_method_11_code 16 = .ok (.new 97, 3) := by decide +kernel
theorem d_SM_stack_19 : decode prog_1_method_11_code 19 = .ok (.dup, 1) := by decide +kernel
theorem d_SM_stack_20 : decode prog_1_method_11_code 20 = .ok (.invokespecial 99, 3) := by decide +kernel
theorem d_SM_stack_23 : decode prog_1_method_11_code 23 = .ok (.athrow, 1) := by decide +kernel
theorem d_SM_stack_24 : decode prog_1_method_11_code 24 = .ok (.iload_n 1, 1) := by decide +kernel
theorem d_SM_stack_25 : decode prog_1_method_11_code 25 = .ok (.iconst (-1), 1) := by decide +kernel
theorem d_SM_stack_26 : decode prog_1_method_11_code 26 = .ok (.if_icmp .ne 13, 3) := by decide +kernel
theorem d_SM_stack_29 : decode prog_1_method_11_code 29 = .ok (.aload_n 0, 1) := by decide +kernel
theorem d_SM_stack_30 : decode prog_1_method_11_code 30 = .ok (.getfield 31, 3) := by decide +kernel
theorem d_SM_stack_33 : decode prog_1_method_11_code 33 = .ok (.getfield 103, 3) := by decide +kernel
theorem d_SM_stack_36 : decode prog_1_method_11_code 36 = .ok (.goto 22, 3) := by decide +kernel
theorem d_SM_stack_39 : decode prog_1_method_11_code 39 = .ok (.aload_n 0, 1) := by decide +kernel
theorem d_SM_stack_40 : decode prog_1_method_11_code 40 = .ok (.getfield 31, 3) := by decide +kernel
theorem d_SM_stack_43 : decode prog_1_method_11_code 43 = .ok (.getfield 106, 3) := by decide +kernel
theorem d_SM_stack_46 : decode prog_1_method_11_code 46 = .ok (.aload_n 0, 1) := by decide +kernel
theorem d_SM_stack_47 : decode prog_1_method_11_code 47 = .ok (.getfield 31, 3) := by decide +kernel
theorem d_SM_stack_50 : decode prog_1_method_11_code 50 = .ok (.getfield 103, 3) := by decide +kernel
theorem d_SM_stack_53 : decode prog_1_method_11_code 53 = .ok (.iconst 1, 1) := by decide +kernel
theorem d_SM_stack_54 : decode prog_1_method_11_code 54 = .ok (.isub, 1) := by decide +kernel
theorem d_SM_stack_55 : decode prog_1_method_11_code 55 = .ok (.iload_n 1, 1) := by decide +kernel
theorem d_SM_stack_56 : decode prog_1_method_11_code 56 = .ok (.isub, 1) := by decide +kernel
theorem d_SM_stack_57 : decode prog_1_method_11_code 57 = .ok (.iaload, 1) := by decide +kernel
theorem d_SM_stack_58 : decode prog_1_method_11_code 58 = .ok (.ireturn, 1) := by decide +kernel
theorem d_Ro_localCount_0 : decode prog_9_method_7_code 0 = .ok (.aload_n 0, 1) := by decide +kernel
theorem d_Ro_localCount_1 : decode prog_9_method_7_code 1 = .ok (.getfield 22, 3) := by decide +kernel
theorem d_Ro_localCount_4 : decode prog_9_method_7_code 4 = .ok (.aload_n 0, 1) := by decide +kernel
theorem d_Ro_localCount_5 : decode prog_9_method_7_code 5 = .ok (.getfield 32, 3) := by decide +kernel
theorem d_Ro_localCount_8 : decode prog_9_method_7_code 8 = .ok (.iaload, 1) := by decide +kernel
theorem d_Ro_localCount_9 : decode prog_9_method_7_code 9 = .ok (.ireturn, 1) := by decide +kernel
theorem d_SM_local_0 : decode prog_1_method_12_code 0 = .ok (.iload_n 1, 1) := by decide +kernel
theorem d_SM_local_1 : decode prog_1_method_12_code 1 = .ok (.ifCond .lt 9, 3) := by decide +kernel
theorem d_SM_local_4 : decode prog_1_method_12_code 4 = .ok (.iload_n 1, 1) := by decide +kernel
theorem d_SM_local_5 : decode prog_1_method_12_code 5 = .ok (.bipush 15, 2) := by decide +kernel
theorem d_SM_local_7 : decode prog_1_method_12_code 7 = .ok (.if_icmp .le 11, 3) := by decide +kernel
theorem d_SM_local_10 : decode prog_1_method_12_code 10 = .ok (.new 97, 3) := by decide +kernel
theorem d_SM_local_13 : decode prog_1_method_12_code 13 = .ok (.dup, 1) := by decide +kernel
theorem d_SM_local_14 : decode prog_1_method_12_code 14 = .ok (.invokespecial 99, 3) := by decide +kernel
theorem d_SM_local_17 : decode prog_1_method_12_code 17 = .ok (.athrow, 1) := by decide +kernel
theorem d_SM_local_18 : decode prog_1_method_12_code 18 = .ok (.iload_n 1, 1) := by decide +kernel
theorem d_SM_local_19 : decode prog_1_method_12_code 19 = .ok (.ifCond .ne 11, 3) := by decide +kernel
theorem d_SM_local_22 : decode prog_1_method_12_code 22 = .ok (.aload_n 0, 1) := by decide +kernel
theorem d_SM_local_23 : decode prog_1_method_12_code 23 = .ok (.getfield 31, 3) := by decide +kernel
theorem d_SM_local_26 : decode prog_1_method_12_code 26 = .ok (.invokevirtual 109, 3) := by decide +kernel
theorem d_SM_local_29 : decode prog_1_method_12_code 29 = .ok (.ireturn, 1) := by decide +kernel
theorem d_SM_local_30 : decode prog_1_method_12_code 30 = .ok (.iload_n 1, 1) := by decide +kernel
theorem d_SM_local_31 : decode prog_1_method_12_code 31 = .ok (.aload_n 0, 1) := by decide +kernel
theorem d_SM_local_32 : decode prog_1_method_12_code 32 = .ok (.getfield 31, 3) := by decide +kernel
theorem d_SM_local_35 : decode prog_1_method_12_code 35 = .ok (.invokevirtual 109, 3) := by decide +kernel
theorem d_SM_local_38 : decode prog_1_method_12_code 38 = .ok (.if_icmp .gt 14, 3) := by decide +kernel
theorem d_SM_local_41 : decode prog_1_method_12_code 41 = .ok (.aload_n 0, 1) := by decide +kernel
theorem d_SM_local_42 : decode prog_1_method_12_code 42 = .ok (.getfield 31, 3) := by decide +kernel
theorem d_SM_local_45 : decode prog_1_method_12_code 45 = .ok (.iload_n 1, 1) := by decide +kernel
theorem d_SM_local_46 : decode prog_1_method_12_code 46 = .ok (.invokevirtual 112, 3) := by decide +kernel
theorem d_SM_local_49 : decode prog_1_method_12_code 49 = .ok (.goto 4, 3) := by decide +kernel
theorem d_SM_local_52 : decode prog_1_method_12_code 52 = .ok (.iconst 0, 1) := by decide +kernel
theorem d_SM_local_53 : decode prog_1_method_12_code 53 = .ok (.ireturn, 1) := by decide +kernel
theorem d_Mo_thrown_0 : decode prog_13_method_2_code 0 = .ok (.aload_n 0, 1) := by decide +kernel
theorem d_Mo_thrown_1 : decode prog_13_method_2_code 1 = .ok (.getfield 73, 3) := by decide +kernel
theorem d_Mo_thrown_4 : decode prog_13_method_2_code 4 = .ok (.ireturn, 1) := by decide +kernel
theorem d_Mo_peek_0 : decode prog_13_method_75_code 0 = .ok (.aload_n 0, 1) := by decide +kernel
theorem d_Mo_peek_1 : decode prog_13_method_75_code 1 = .ok (.iload_n 1, 1) := by decide +kernel
theorem d_Mo_peek_2 : decode prog_13_method_75_code 2 = .ok (.ifCond .lt 10, 3) := by decide +kernel
theorem d_Mo_peek_5 : decode prog_13_method_75_code 5 = .ok (.iload_n 1, 1) := by decide +kernel
theorem d_Mo_peek_6 : decode prog_13_method_75_code 6 = .ok (.sipush 511, 3) := by decide +kernel
theorem d_Mo_peek_9 : decode prog_13_method_75_code 9 = .ok (.if_icmp .le 7, 3) := by decide +kernel
theorem d_Mo_peek_12 : decode prog_13_method_75_code 12 = .ok (.iconst 1, 1) := by decide +kernel
theorem d_Mo_peek_13 : decode prog_13_method_75_code 13 = .ok (.goto 4, 3) := by decide +kernel
theorem d_Mo_peek_16 : decode prog_13_method_75_code 16 = .ok (.iconst 0, 1) := by decide +kernel
theorem d_Mo_peek_17 : decode prog_13_method_75_code 17 = .ok (.putfield 73, 3) := by decide +kernel
theorem d_Mo_peek_20 : decode prog_13_method_75_code 20 = .ok (.aload_n 0, 1) := by decide +kernel
theorem d_Mo_peek_21 : decode prog_13_method_75_code 21 = .ok (.getfield 73, 3) := by decide +kernel
theorem d_Mo_peek_24 : decode prog_13_method_75_code 24 = .ok (.ifCond .le 7, 3) := by decide +kernel
theorem d_Mo_peek_27 : decode prog_13_method_75_code 27 = .ok (.iconst 0, 1) := by decide +kernel
theorem d_Mo_peek_28 : decode prog_13_method_75_code 28 = .ok (.goto 9, 3) := by decide +kernel
theorem d_Mo_peek_31 : decode prog_13_method_75_code 31 = .ok (.aload_n 0, 1) := by decide +kernel
theorem d_Mo_peek_32 : decode prog_13_method_75_code 32 = .ok (.getfield 7, 3) := by decide +kernel
theorem d_Mo_peek_35 : decode prog_13_method_75_code 35 = .ok (.iload_n 1, 1) := by decide +kernel
theorem d_Mo_peek_36 : decode prog_13_method_75_code 36 = .ok (.iaload, 1) := by decide +kernel
theorem d_Mo_peek_37 : decode prog_13_method_75_code 37 = .ok (.ireturn, 1) := by decide +kernel
theorem d_Mo_begin_0 : decode prog_13_method_76_code 0 = .ok (.sipush 256, 3) := by decide +kernel
theorem d_Mo_begin_3 : decode prog_13_method_76_code 3 = .ok (.aload_n 0, 1) := by decide +kernel
theorem d_Mo_begin_4 : decode prog_13_method_76_code 4 = .ok (.getfield 7, 3) := by decide +kernel
theorem d_Mo_begin_7 : decode prog_13_method_76_code 7 = .ok (.iconst 4, 1) := by decide +kernel
theorem d_Mo_begin_8 : decode prog_13_method_76_code 8 = .ok (.iaload, 1) := by decide +kernel
theorem d_Mo_begin_9 : decode prog_13_method_76_code 9 = .ok (.imul, 1) := by decide +kernel
theorem d_Mo_begin_10 : decode prog_13_method_76_code 10 = .ok (.aload_n 0, 1) := by decide +kernel
theorem d_Mo_begin_11 : decode prog_13_method_76_code 11 = .ok (.getfield 7, 3) := by decide +kernel
theorem d_Mo_begin_14 : decode prog_13_method_76_code 14 = .ok (.iconst 5, 1) := by decide +kernel
theorem d_Mo_begin_15 : decode prog_13_method_76_code 15 = .ok (.iaload, 1) := by decide +kernel
theorem d_Mo_begin_16 : decode prog_13_method_76_code 16 = .ok (.iadd, 1) := by decide +kernel
theorem d_Mo_begin_17 : decode prog_13_method_76_code 17 = .ok (.istore_n 1, 1) := by decide +kernel
theorem d_Mo_begin_18 : decode prog_13_method_76_code 18 = .ok (.aload_n 0, 1) := by decide +kernel
theorem d_Mo_begin_19 : decode prog_13_method_76_code 19 = .ok (.iload_n 1, 1) := by decide +kernel
theorem d_Mo_begin_20 : decode prog_13_method_76_code 20 = .ok (.sipush 511, 3) := by decide +kernel
theorem d_Mo_begin_23 : decode prog_13_method_76_code 23 = .ok (.if_icmp .le 7, 3) := by decide +kernel
theorem d_Mo_begin_26 : decode prog_13_method_76_code 26 = .ok (.iconst 1, 1) := by decide +kernel
theorem d_Mo_begin_27 : decode prog_13_method_76_code 27 = .ok (.goto 4, 3) := by decide +kernel
theorem d_Mo_begin_30 : decode prog_13_method_76_code 30 = .ok (.iconst 0, 1) := by decide +kernel
theorem d_Mo_begin_31 : decode prog_13_method_76_code 31 = .ok (.putfield 73, 3) := by decide +kernel
theorem d_Mo_begin_34 : decode prog_13_method_76_code 34 = .ok (.aload_n 0, 1) := by decide +kernel
theorem d_Mo_begin_35 : decode prog_13_method_76_code 35 = .ok (.getfield 73, 3) := by decide +kernel
theorem d_Mo_begin_38 : decode prog_13_method_76_code 38 = .ok (.ifCond .le 4, 3) := by decide +kernel
theorem d_Mo_begin_41 : decode prog_13_method_76_code 41 = .ok (.return_, 1) := by decide +kernel
theorem d_Mo_begin_42 : decode prog_13_method_76_code 42 = .ok (.aload_n 0, 1) := by decide +kernel
theorem d_Mo_begin_43 : decode prog_13_method_76_code 43 = .ok (.iconst 1, 1) := by decide +kernel
theorem d_Mo_begin_44 : decode prog_13_method_76_code 44 = .ok (.putfield 377, 3) := by decide +kernel
theorem d_Mo_begin_47 : decode prog_13_method_76_code 47 = .ok (.aload_n 0, 1) := by decide +kernel
theorem d_Mo_begin_48 : decode prog_13_method_76_code 48 = .ok (.iload_n 1, 1) := by decide +kernel
theorem d_Mo_begin_49 : decode prog_13_method_76_code 49 = .ok (.putfield 346, 3) := by decide +kernel
theorem d_Mo_begin_52 : decode prog_13_method_76_code 52 = .ok (.aload_n 0, 1) := by decide +kernel
theorem d_Mo_begin_53 : decode prog_13_method_76_code 53 = .ok (.iconst 0, 1) := by decide +kernel
theorem d_Mo_begin_54 : decode prog_13_method_76_code 54 = .ok (.putfield 94, 3) := by decide +kernel
theorem d_Mo_begin_57 : decode prog_13_method_76_code 57 = .ok (.aload_n 0, 1) := by decide +kernel
theorem d_Mo_begin_58 : decode prog_13_method_76_code 58 = .ok (.iconst 0, 1) := by decide +kernel
theorem d_Mo_begin_59 : decode prog_13_method_76_code 59 = .ok (.putfield 97, 3) := by decide +kernel
theorem d_Mo_begin_62 : decode prog_13_method_76_code 62 = .ok (.aload_n 0, 1) := by decide +kernel
theorem d_Mo_begin_63 : decode prog_13_method_76_code 63 = .ok (.getfield 16, 3) := by decide +kernel
theorem d_Mo_begin_66 : decode prog_13_method_76_code 66 = .ok (.iconst 0, 1) := by decide +kernel
theorem d_Mo_begin_67 : decode prog_13_method_76_code 67 = .ok (.iconst 0, 1) := by decide +kernel
theorem d_Mo_begin_68 : decode prog_13_method_76_code 68 = .ok (.iastore, 1) := by decide +kernel
theorem d_Mo_begin_69 : decode prog_13_method_76_code 69 = .ok (.aload_n 0, 1) := by decide +kernel
theorem d_Mo_begin_70 : decode prog_13_method_76_code 70 = .ok (.getfield 19, 3) := by decide +kernel
theorem d_Mo_begin_73 : decode prog_13_method_76_code 73 = .ok (.iconst 0, 1) := by decide +kernel
theorem d_Mo_begin_74 : decode prog_13_method_76_code 74 = .ok (.iconst 0, 1) := by decide +kernel
theorem d_Mo_begin_75 : decode prog_13_method_76_code 75 = .ok (.iastore, 1) := by decide +kernel
theorem d_Mo_begin_76 : decode prog_13_method_76_code 76 = .ok (.aload_n 0, 1) := by decide +kernel
theorem d_Mo_begin_77 : decode prog_13_method_76_code 77 = .ok (.iconst 0, 1) := by decide +kernel
theorem d_Mo_begin_78 : decode prog_13_method_76_code 78 = .ok (.putfield 309, 3) := by decide +kernel
theorem d_Mo_begin_81 : decode prog_13_method_76_code 81 = .ok (.aload_n 0, 1) := by decide +kernel
theorem d_Mo_begin_82 : decode prog_13_method_76_code 82 = .ok (.iconst 0, 1) := by decide +kernel
theorem d_Mo_begin_83 : decode prog_13_method_76_code 83 = .ok (.putfield 120, 3) := by decide +kernel
theorem d_Mo_begin_86 : decode prog_13_method_76_code 86 = .ok (.aload_n 0, 1) := by decide +kernel
theorem d_Mo_begin_87 : decode prog_13_method_76_code 87 = .ok (.iconst 0, 1) := by decide +kernel
theorem d_Mo_begin_88 : decode prog_13_method_76_code 88 = .ok (.putfield 391, 3) := by decide +kernel
theorem d_Mo_begin_91 : decode prog_13_method_76_code 91 = .ok (.aload_n 0, 1) := by decide +kernel
theorem d_Mo_begin_92 : decode prog_13_method_76_code 92 = .ok (.iconst 0, 1) := by decide +kernel
theorem d_Mo_begin_93 : decode prog_13_method_76_code 93 = .ok (.putfield 312, 3) := by decide +kernel
theorem d_Mo_begin_96 : decode prog_13_method_76_code 96 = .ok (.aload_n 0, 1) := by decide +kernel
theorem d_Mo_begin_97 : decode prog_13_method_76_code 97 = .ok (.iconst 0, 1) := by decide +kernel
theorem d_Mo_begin_98 : decode prog_13_method_76_code 98 = .ok (.putfield 269, 3) := by decide +kernel
theorem d_Mo_begin_101 : decode prog_13_method_76_code 101 = .ok (.aload_n 0, 1) := by decide +kernel
theorem d_Mo_begin_102 : decode prog_13_method_76_code 102 = .ok (.iconst 0, 1) := by decide +kernel
theorem d_Mo_begin_103 : decode prog_13_method_76_code 103 = .ok (.putfield 380, 3) := by decide +kernel
theorem d_Mo_begin_106 : decode prog_13_method_76_code 106 = .ok (.aload_n 0, 1) := by decide +kernel
theorem d_Mo_begin_107 : decode prog_13_method_76_code 107 = .ok (.iconst 0, 1) := by decide +kernel
theorem d_Mo_begin_108 : decode prog_13_method_76_code 108 = .ok (.putfield 374, 3) := by decide +kernel
theorem d_Mo_begin_111 : decode prog_13_method_76_code 111 = .ok (.return_, 1) := by decide +kernel
theorem d_Mo_run_0 : decode prog_13_method_72_code 0 = .ok (.aload_n 0, 1) := by decide +kernel
theorem d_Mo_run_1 : decode prog_13_method_72_code 1 = .ok (.iload_n 1, 1) := by decide +kernel
theorem d_Mo_run_2 : decode prog_13_method_72_code 2 = .ok (.iconst 1, 1) := by decide +kernel
theorem d_Mo_run_3 : decode prog_13_method_72_code 3 = .ok (.if_icmp .lt 10, 3) := by decide +kernel
theorem d_Mo_run_6 : decode prog_13_method_72_code 6 = .ok (.iload_n 1, 1) := by decide +kernel
theorem d_Mo_run_7 : decode prog_13_method_72_code 7 = .ok (.sipush 300, 3) := by decide +kernel
theorem d_Mo_run_10 : decode prog_13_method_72_code 10 = .ok (.if_icmp .le 7, 3) := by decide +kernel
theorem d_Mo_run_13 : decode prog_13_method_72_code 13 = .ok (.iconst 1, 1) := by decide +kernel
theorem d_Mo_run_14 : decode prog_13_method_72_code 14 = .ok (.goto 30, 3) := by decide +kernel
theorem d_Mo_run_17 : decode prog_13_method_72_code 17 = .ok (.aload_n 0, 1) := by decide +kernel
theorem d_Mo_run_18 : decode prog_13_method_72_code 18 = .ok (.getfield 377, 3) := by decide +kernel
theorem d_Mo_run_21 : decode prog_13_method_72_code 21 = .ok (.ifCond .eq 18, 3) := by decide +kernel
theorem d_Mo_run_24 : decode prog_13_method_72_code 24 = .ok (.aload_n 0, 1) := by decide +kernel
theorem d_Mo_run_25 : decode prog_13_method_72_code 25 = .ok (.getfield 380, 3) := by decide +kernel
theorem d_Mo_run_28 : decode prog_13_method_72_code 28 = .ok (.ifCond .eq 15, 3) := by decide +kernel
theorem d_Mo_run_31 : decode prog_13_method_72_code 31 = .ok (.aload_n 0, 1) := by decide +kernel
theorem d_Mo_run_32 : decode prog_13_method_72_code 32 = .ok (.getfield 380, 3) := by decide +kernel
theorem d_Mo_run_35 : decode prog_13_method_72_code 35 = .ok (.iconst 4, 1) := by decide +kernel
theorem d_Mo_run_36 : decode prog_13_method_72_code 36 = .ok (.if_icmp .eq 7, 3) := by decide +kernel
theorem d_Mo_run_39 : decode prog_13_method_72_code 39 = .ok (.iconst 2, 1) := by decide +kernel
theorem d_Mo_run_40 : decode prog_13_method_72_code 40 = .ok (.goto 4, 3) := by decide +kernel
theorem d_Mo_run_43 : decode prog_13_method_72_code 43 = .ok (.iconst 0, 1) := by decide +kernel
theorem d_Mo_run_44 : decode prog_13_method_72_code 44 = .ok (.putfield 73, 3) := by decide +kernel
theorem d_Mo_run_47 : decode prog_13_method_72_code 47 = .ok (.aload_n 0, 1) := by decide +kernel
theorem d_Mo_run_48 : decode prog_13_method_72_code 48 = .ok (.getfield 73, 3) := by decide +kernel
theorem d_Mo_run_51 : decode prog_13_method_72_code 51 = .ok (.ifCond .le 5, 3) := by decide +kernel
theorem d_Mo_run_54 : decode prog_13_method_72_code 54 = .ok (.iconst 0, 1) := by decide +kernel
theorem d_Mo_run_55 : decode prog_13_method_72_code 55 = .ok (.ireturn, 1) := by decide +kernel
theorem d_Mo_run_56 : decode prog_13_method_72_code 56 = .ok (.aload_n 0, 1) := by decide +kernel
theorem d_Mo_run_57 : decode prog_13_method_72_code 57 = .ok (.iconst 0, 1) := by decide +kernel
theorem d_Mo_run_58 : decode prog_13_method_72_code 58 = .ok (.putfield 380, 3) := by decide +kernel
theorem d_Mo_run_61 : decode prog_13_method_72_code 61 = .ok (.iconst 0, 1) := by decide +kernel
theorem d_Mo_run_62 : decode prog_13_method_72_code 62 = .ok (.istore_n 2, 1) := by decide +kernel
theorem d_Mo_run_63 : decode prog_13_method_72_code 63 = .ok (.iload_n 2, 1) := by decide +kernel
theorem d_Mo_run_64 : decode prog_13_method_72_code 64 = .ok (.iload_n 1, 1) := by decide +kernel
theorem d_Mo_run_65 : decode prog_13_method_72_code 65 = .ok (.if_icmp .ge 50, 3) := by decide +kernel
theorem d_Mo_run_68 : decode prog_13_method_72_code 68 = .ok (.aload_n 0, 1) := by decide +kernel
theorem d_Mo_run_69 : decode prog_13_method_72_code 69 = .ok (.getfield 380, 3) := by decide +kernel
theorem d_Mo_run_72 : decode prog_13_method_72_code 72 = .ok (.ifCond .ne 43, 3) := by decide +kernel
theorem d_Mo_run_75 : decode prog_13_method_72_code 75 = .ok (.aload_n 0, 1) := by decide +kernel
theorem d_Mo_run_76 : decode prog_13_method_72_code 76 = .ok (.invokevirtual 383, 3) := by decide +kernel
theorem d_Mo_run_79 : decode prog_13_method_72_code 79 = .ok (.aload_n 0, 1) := by decide +kernel
theorem d_Mo_run_80 : decode prog_13_method_72_code 80 = .ok (.aload_n 0, 1) := by decide +kernel
theorem d_Mo_run_81 : decode prog_13_method_72_code 81 = .ok (.getfield 77, 3) := by decide +kernel
theorem d_Mo_run_84 : decode prog_13_method_72_code 84 = .ok (.ifCond .le 10, 3) := by decide +kernel
theorem d_Mo_run_87 : decode prog_13_method_72_code 87 = .ok (.aload_n 0, 1) := by decide +kernel
theorem d_Mo_run_88 : decode prog_13_method_72_code 88 = .ok (.getfield 77, 3) := by decide +kernel
theorem d_Mo_run_91 : decode prog_13_method_72_code 91 = .ok (.goto 15, 3) := by decide +kernel
theorem d_Mo_run_94 : decode prog_13_method_72_code 94 = .ok (.aload_n 0, 1) := by decide +kernel
theorem d_Mo_run_95 : decode prog_13_method_72_code 95 = .ok (.getfield 266, 3) := by decide +kernel
theorem d_Mo_run_98 : decode prog_13_method_72_code 98 = .ok (.ifCond .eq 7, 3) := by decide +kernel
theorem d_Mo_run_101 : decode prog_13_method_72_code 101 = .ok (.iconst 5, 1) := by decide +kernel
theorem d_Mo_run_102 : decode prog_13_method_72_code 102 = .ok (.goto 4, 3) := by decide +kernel
theorem d_Mo_run_105 : decode prog_13_method_72_code 105 = .ok (.iconst 0, 1) := by decide +kernel
theorem d_Mo_run_106 : decode prog_13_method_72_code 106 = .ok (.putfield 380, 3) := by decide +kernel
theorem d_Mo_run_109 : decode prog_13_method_72_code 109 = .ok (.iinc 2 1, 3) := by decide +kernel
theorem d_Mo_run_112 : decode prog_13_method_72_code 112 = .ok (.goto (-49), 3) := by decide +kernel
theorem d_Mo_run_115 : decode prog_13_method_72_code 115 = .ok (.aload_n 0, 1) := by decide +kernel
theorem d_Mo_run_116 : decode prog_13_method_72_code 116 = .ok (.getfield 380, 3) := by decide +kernel
theorem d_Mo_run_119 : decode prog_13_method_72_code 119 = .ok (.ireturn, 1) := by decide +kernel
theorem d_Mo_steps_0 : decode prog_13_method_79_code 0 = .ok (.aload_n 0, 1) := by decide +kernel
theorem d_Mo_steps_1 : decode prog_13_method_79_code 1 = .ok (.iconst 0, 1) := by decide +kernel
theorem d_Mo_steps_2 : decode prog_13_method_79_code 2 = .ok (.putfield 73, 3) := by decide +kernel
theorem d_Mo_steps_5 : decode prog_13_method_79_code 5 = .ok (.aload_n 0, 1) := by decide +kernel
theorem d_Mo_steps_6 : decode prog_13_method_79_code 6 = .ok (.getfield 374, 3) := by decide +kernel
theorem d_Mo_steps_9 : decode prog_13_method_79_code 9 = .ok (.ireturn, 1) := by decide +kernel
theorem d_Mo_place_0 : decode prog_13_method_80_code 0 = .ok (.aload_n 0, 1) := by decide +kernel
theorem d_Mo_place_1 : decode prog_13_method_80_code 1 = .ok (.iconst 0, 1) := by decide +kernel
theorem d_Mo_place_2 : decode prog_13_method_80_code 2 = .ok (.putfield 73, 3) := by decide +kernel
theorem d_Mo_place_5 : decode prog_13_method_80_code 5 = .ok (.aload_n 0, 1) := by decide +kernel
theorem d_Mo_place_6 : decode prog_13_method_80_code 6 = .ok (.getfield 377, 3) := by decide +kernel
theorem d_Mo_place_9 : decode prog_13_method_80_code 9 = .ok (.ifCond .eq 10, 3) := by decide +kernel
theorem d_Mo_place_12 : decode prog_13_method_80_code 12 = .ok (.aload_n 0, 1) := by decide +kernel
theorem d_Mo_place_13 : decode prog_13_method_80_code 13 = .ok (.getfield 346, 3) := by decide +kernel
theorem d_Mo_place_16 : decode prog_13_method_80_code 16 = .ok (.goto 4, 3) := by decide +kernel
theorem d_Mo_place_19 : decode prog_13_method_80_code 19 = .ok (.iconst (-1), 1) := by decide +kernel
theorem d_Mo_place_20 : decode prog_13_method_80_code 20 = .ok (.ireturn, 1) := by decide +kernel
theorem d_Mo_routines_0 : decode prog_13_method_84_code 0 = .ok (.aload_n 0, 1) := by decide +kernel
theorem d_Mo_routines_1 : decode prog_13_method_84_code 1 = .ok (.iconst 0, 1) := by decide +kernel
theorem d_Mo_routines_2 : decode prog_13_method_84_code 2 = .ok (.putfield 73, 3) := by decide +kernel
theorem d_Mo_routines_5 : decode prog_13_method_84_code 5 = .ok (.aload_n 0, 1) := by decide +kernel
theorem d_Mo_routines_6 : decode prog_13_method_84_code 6 = .ok (.getfield 97, 3) := by decide +kernel
theorem d_Mo_routines_9 : decode prog_13_method_84_code 9 = .ok (.ireturn, 1) := by decide +kernel
theorem d_Mo_output_0 : decode prog_13_method_81_code 0 = .ok (.aload_n 0, 1) := by decide +kernel
theorem d_Mo_output_1 : decode prog_13_method_81_code 1 = .ok (.iload_n 1, 1) := by decide +kernel
theorem d_Mo_output_2 : decode prog_13_method_81_code 2 = .ok (.iconst (-1), 1) := by decide +kernel
theorem d_Mo_output_3 : decode prog_13_method_81_code 3 = .ok (.if_icmp .lt 17, 3) := by decide +kernel
theorem d_Mo_output_6 : decode prog_13_method_81_code 6 = .ok (.iload_n 1, 1) := by decide +kernel
theorem d_Mo_output_7 : decode prog_13_method_81_code 7 = .ok (.bipush 63, 2) := by decide +kernel
theorem d_Mo_output_9 : decode prog_13_method_81_code 9 = .ok (.if_icmp .gt 11, 3) := by decide +kernel
theorem d_Mo_output_12 : decode prog_13_method_81_code 12 = .ok (.iload_n 1, 1) := by decide +kernel
theorem d_Mo_output_13 : decode prog_13_method_81_code 13 = .ok (.aload_n 0, 1) := by decide +kernel
theorem d_Mo_output_14 : decode prog_13_method_81_code 14 = .ok (.getfield 120, 3) := by decide +kernel
theorem d_Mo_output_17 : decode prog_13_method_81_code 17 = .ok (.if_icmp .lt 7, 3) := by decide +kernel
theorem d_Mo_output_20 : decode prog_13_method_81_code 20 = .ok (.iconst 1, 1) := by decide +kernel
theorem d_Mo_output_21 : decode prog_13_method_81_code 21 = .ok (.goto 4, 3) := by decide +kernel
theorem d_Mo_output_24 : decode prog_13_method_81_code 24 = .ok (.iconst 0, 1) := by decide +kernel
theorem d_Mo_output_25 : decode prog_13_method_81_code 25 = .ok (.putfield 73, 3) := by decide +kernel
theorem d_Mo_output_28 : decode prog_13_method_81_code 28 = .ok (.aload_n 0, 1) := by decide +kernel
theorem d_Mo_output_29 : decode prog_13_method_81_code 29 = .ok (.getfield 73, 3) := by decide +kernel
theorem d_Mo_output_32 : decode prog_13_method_81_code 32 = .ok (.ifCond .le 5, 3) := by decide +kernel
theorem d_Mo_output_35 : decode prog_13_method_81_code 35 = .ok (.iconst 0, 1) := by decide +kernel
theorem d_Mo_output_36 : decode prog_13_method_81_code 36 = .ok (.ireturn, 1) := by decide +kernel
theorem d_Mo_output_37 : decode prog_13_method_81_code 37 = .ok (.iload_n 1, 1) := by decide +kernel
theorem d_Mo_output_38 : decode prog_13_method_81_code 38 = .ok (.ifCond .ge 10, 3) := by decide +kernel
theorem d_Mo_output_41 : decode prog_13_method_81_code 41 = .ok (.aload_n 0, 1) := by decide +kernel
theorem d_Mo_output_42 : decode prog_13_method_81_code 42 = .ok (.getfield 120, 3) := by decide +kernel
theorem d_Mo_output_45 : decode prog_13_method_81_code 45 = .ok (.goto 19, 3) := by decide +kernel
theorem d_Mo_output_48 : decode prog_13_method_81_code 48 = .ok (.aload_n 0, 1) := by decide +kernel
theorem d_Mo_output_49 : decode prog_13_method_81_code 49 = .ok (.getfield 52, 3) := by decide +kernel
theorem d_Mo_output_52 : decode prog_13_method_81_code 52 = .ok (.aload_n 0, 1) := by decide +kernel
theorem d_Mo_output_53 : decode prog_13_method_81_code 53 = .ok (.getfield 120, 3) := by decide +kernel
theorem d_Mo_output_56 : decode prog_13_method_81_code 56 = .ok (.iconst 1, 1) := by decide +kernel
theorem d_Mo_output_57 : decode prog_13_method_81_code 57 = .ok (.isub, 1) := by decide +kernel
theorem d_Mo_output_58 : decode prog_13_method_81_code 58 = .ok (.iload_n 1, 1) := by decide +kernel
theorem d_Mo_output_59 : decode prog_13_method_81_code 59 = .ok (.isub, 1) := by decide +kernel
theorem d_Mo_output_60 : decode prog_13_method_81_code 60 = .ok (.bipush 64, 2) := by decide +kernel
theorem d_Mo_output_62 : decode prog_13_method_81_code 62 = .ok (.irem, 1) := by decide +kernel
theorem d_Mo_output_63 : decode prog_13_method_81_code 63 = .ok (.iaload, 1) := by decide +kernel
theorem d_Mo_output_64 : decode prog_13_method_81_code 64 = .ok (.ireturn, 1) := by decide +kernel
theorem d_Mo_stack_0 : decode prog_13_method_82_code 0 = .ok (.aload_n 0, 1) := by decide +kernel
theorem d_Mo_stack_1 : decode prog_13_method_82_code 1 = .ok (.iload_n 1, 1) := by decide +kernel
theorem d_Mo_stack_2 : decode prog_13_method_82_code 2 = .ok (.iconst (-1), 1) := by decide +kernel
theorem d_Mo_stack_3 : decode prog_13_method_82_code 3 = .ok (.if_icmp .lt 11, 3) := by decide +kernel
theorem d_Mo_stack_6 : decode prog_13_method_82_code 6 = .ok (.iload_n 1, 1) := by decide +kernel
theorem d_Mo_stack_7 : decode prog_13_method_82_code 7 = .ok (.aload_n 0, 1) := by decide +kernel
theorem d_Mo_stack_8 : decode prog_13_method_82_code 8 = .ok (.getfield 94, 3) := by decide +kernel
theorem d_Mo_stack_11 : decode prog_13_method_82_code 11 = .ok (.if_icmp .lt 7, 3) := by decide +kernel
theorem d_Mo_stack_14 : decode prog_13_method_82_code 14 = .ok (.iconst 1, 1) := by decide +kernel
theorem d_Mo_stack_15 : decode prog_13_method_82_code 15 = .ok (.goto 4, 3) := by decide +kernel
theorem d_Mo_stack_18 : decode prog_13_method_82_code 18 = .ok (.iconst 0, 1) := by decide +kernel
theorem d_Mo_stack_19 : decode prog_13_method_82_code 19 = .ok (.putfield 73, 3) := by decide +kernel
theorem d_Mo_stack_22 : decode prog_13_method_82_code 22 = .ok (.aload_n 0, 1) := by decide +kernel
theorem d_Mo_stack_23 : decode prog_13_method_82_code 23 = .ok (.getfield 73, 3) := by decide +kernel
theorem d_Mo_stack_26 : decode prog_13_method_82_code 26 = .ok (.ifCond .le 5, 3) := by decide +kernel
theorem d_Mo_stack_29 : decode prog_13_method_82_code 29 = .ok (.iconst 0, 1) := by decide +kernel
theorem d_Mo_stack_30 : decode prog_13_method_82_code 30 = .ok (.ireturn, 1) := by decide +kernel
theorem d_Mo_stack_31 : decode prog_13_method_82_code 31 = .ok (.iload_n 1, 1) := by decide +kernel
theorem d_Mo_stack_32 : decode prog_13_method_82_code 32 = .ok (.ifCond .ge 10, 3) := by decide +kernel
theorem d_Mo_stack_35 : decode prog_13_method_82_code 35 = .ok (.aload_n 0, 1) := by decide +kernel
theorem d_Mo_stack_36 : decode prog_13_method_82_code 36 = .ok (.getfield 94, 3) := by decide +kernel
theorem d_Mo_stack_39 : decode prog_13_method_82_code 39 = .ok (.goto 16, 3) := by decide +kernel
theorem d_Mo_stack_42 : decode prog_13_method_82_code 42 = .ok (.aload_n 0, 1) := by decide +kernel
theorem d_Mo_stack_43 : decode prog_13_method_82_code 43 = .ok (.getfield 13, 3) := by decide +kernel
theorem d_Mo_stack_46 : decode prog_13_method_82_code 46 = .ok (.aload_n 0, 1) := by decide +kernel
theorem d_Mo_stack_47 : decode prog_13_method_82_code 47 = .ok (.getfield 94, 3) := by decide +kernel
theorem d_Mo_stack_50 : decode prog_13_method_82_code 50 = .ok (.iconst 1, 1) := by decide +kernel
theorem d_Mo_stack_51 : decode prog_13_method_82_code 51 = .ok (.isub, 1) := by decide +kernel
theorem d_Mo_stack_52 : decode prog_13_method_82_code 52 = .ok (.iload_n 1, 1) := by decide +kernel
theorem d_Mo_stack_53 : decode prog_13_method_82_code 53 = .ok (.isub, 1) := by decide +kernel
theorem d_Mo_stack_54 : decode prog_13_method_82_code 54 = .ok (.iaload, 1) := by decide +kernel
theorem d_Mo_stack_55 : decode prog_13_method_82_code 55 = .ok (.ireturn, 1) := by decide +kernel
theorem d_Mo_local_0 : decode prog_13_method_83_code 0 = .ok (.aload_n 0, 1) := by decide +kernel
theorem d_Mo_local_1 : decode prog_13_method_83_code 1 = .ok (.iload_n 1, 1) := by decide +kernel
theorem d_Mo_local_2 : decode prog_13_method_83_code 2 = .ok (.ifCond .lt 9, 3) := by decide +kernel
theorem d_Mo_local_5 : decode prog_13_method_83_code 5 = .ok (.iload_n 1, 1) := by decide +kernel
theorem d_Mo_local_6 : decode prog_13_method_83_code 6 = .ok (.bipush 15, 2) := by decide +kernel
theorem d_Mo_local_8 : decode prog_13_method_83_code 8 = .ok (.if_icmp .le 7, 3) := by decide +kernel
theorem d_Mo_local_11 : decode prog_13_method_83_code 11 = .ok (.iconst 1, 1) := by decide +kernel
theorem d_Mo_local_12 : decode prog_13_method_83_code 12 = .ok (.goto 4, 3) := by decide +kernel
theorem d_Mo_local_15 : decode prog_13_method_83_code 15 = .ok (.iconst 0, 1) := by decide +kernel
theorem d_Mo_local_16 : decode prog_13_method_83_code 16 = .ok (.putfield 73, 3) := by decide +kernel
theorem d_Mo_local_19 : decode prog_13_method_83_code 19 = .ok (.aload_n 0, 1) := by decide +kernel
theorem d_Mo_local_20 : decode prog_13_method_83_code 20 = .ok (.getfield 73, 3) := by decide +kernel
theorem d_Mo_local_23 : decode prog_13_method_83_code 23 = .ok (.ifCond .le 5, 3) := by decide +kernel
theorem d_Mo_local_26 : decode prog_13_method_83_code 26 = .ok (.iconst 0, 1) := by decide +kernel
theorem d_Mo_local_27 : decode prog_13_method_83_code 27 = .ok (.ireturn, 1) := by decide +kernel
theorem d_Mo_local_28 : decode prog_13_method_83_code 28 = .ok (.iload_n 1, 1) := by decide +kernel
theorem d_Mo_local_29 : decode prog_13_method_83_code 29 = .ok (.ifCond .ne 15, 3) := by decide +kernel
theorem d_Mo_local_32 : decode prog_13_method_83_code 32 = .ok (.aload_n 0, 1) := by decide +kernel
theorem d_Mo_local_33 : decode prog_13_method_83_code 33 = .ok (.getfield 16, 3) := by decide +kernel
theorem d_Mo_local_36 : decode prog_13_method_83_code 36 = .ok (.aload_n 0, 1) := by decide +kernel
theorem d_Mo_local_37 : decode prog_13_method_83_code 37 = .ok (.getfield 97, 3) := by decide +kernel
theorem d_Mo_local_40 : decode prog_13_method_83_code 40 = .ok (.iaload, 1) := by decide +kernel
theorem d_Mo_local_41 : decode prog_13_method_83_code 41 = .ok (.goto 36, 3) := by decide +kernel
theorem d_Mo_local_44 : decode prog_13_method_83_code 44 = .ok (.iload_n 1, 1) := by decide +kernel
theorem d_Mo_local_45 : decode prog_13_method_83_code 45 = .ok (.aload_n 0, 1) := by decide +kernel
theorem d_Mo_local_46 : decode prog_13_method_83_code 46 = .ok (.getfield 16, 3) := by decide +kernel
theorem d_Mo_local_49 : decode prog_13_method_83_code 49 = .ok (.aload_n 0, 1) := by decide +kernel
theorem d_Mo_local_50 : decode prog_13_method_83_code 50 = .ok (.getfield 97, 3) := by decide +kernel
theorem d_Mo_local_53 : decode prog_13_method_83_code 53 = .ok (.iaload, 1) := by decide +kernel
theorem d_Mo_local_54 : decode prog_13_method_83_code 54 = .ok (.if_icmp .gt 22, 3) := by decide +kernel
theorem d_Mo_local_57 : decode prog_13_method_83_code 57 = .ok (.aload_n 0, 1) := by decide +kernel
theorem d_Mo_local_58 : decode prog_13_method_83_code 58 = .ok (.getfield 28, 3) := by decide +kernel
theorem d_Mo_local_61 : decode prog_13_method_83_code 61 = .ok (.bipush 15, 2) := by decide +kernel
theorem d_Mo_local_63 : decode prog_13_method_83_code 63 = .ok (.aload_n 0, 1) := by decide +kernel
theorem d_Mo_local_64 : decode prog_13_method_83_code 64 = .ok (.getfield 97, 3) := by decide +kernel
theorem d_Mo_local_67 : decode prog_13_method_83_code 67 = .ok (.imul, 1) := by decide +kernel
theorem d_Mo_local_68 : decode prog_13_method_83_code 68 = .ok (.iload_n 1, 1) := by decide +kernel
theorem d_Mo_local_69 : decode prog_13_method_83_code 69 = .ok (.iadd, 1) := by decide +kernel
theorem d_Mo_local_70 : decode prog_13_method_83_code 70 = .ok (.iconst 1, 1) := by decide +kernel
theorem d_Mo_local_71 : decode prog_13_method_83_code 71 = .ok (.isub, 1) := by decide +kernel
theorem d_Mo_local_72 : decode prog_13_method_83_code 72 = .ok (.iaload, 1) := by decide +kernel
theorem d_Mo_local_73 : decode prog_13_method_83_code 73 = .ok (.goto 4, 3) := by decide +kernel
theorem d_Mo_local_76 : decode prog_13_method_83_code 76 = .ok (.iconst 0, 1) := by decide +kernel
theorem d_Mo_local_77 : decode prog_13_method_83_code 77 = .ok (.ireturn, 1) := by decide +kernel
theorem d_Mo_copy_0 : decode prog_13_method_56_code 0 = .ok (.iconst 0, 1) := by decide +kernel
theorem d_Mo_copy_1 : decode prog_13_method_56_code 1 = .ok (.istore_n 3, 1) := by decide +kernel
theorem d_Mo_copy_2 : decode prog_13_method_56_code 2 = .ok (.iload_n 3, 1) := by decide +kernel
theorem d_Mo_copy_3 : decode prog_13_method_56_code 3 = .ok (.iload_n 2, 1) := by decide +kernel
theorem d_Mo_copy_4 : decode prog_13_method_56_code 4 = .ok (.if_icmp .ge 15, 3) := by decide +kernel
theorem d_Mo_copy_7 : decode prog_13_method_56_code 7 = .ok (.aload_n 1, 1) := by decide +kernel
theorem d_Mo_copy_8 : decode prog_13_method_56_code 8 = .ok (.iload_n 3, 1) := by decide +kernel
theorem d_Mo_copy_9 : decode prog_13_method_56_code 9 = .ok (.aload_n 0, 1) := by decide +kernel
theorem d_Mo_copy_10 : decode prog_13_method_56_code 10 = .ok (.iload_n 3, 1) := by decide +kernel
theorem d_Mo_copy_11 : decode prog_13_method_56_code 11 = .ok (.iaload, 1) := by decide +kernel
theorem d_Mo_copy_12 : decode prog_13_method_56_code 12 = .ok (.iastore, 1) := by decide +kernel
theorem d_Mo_copy_13 : decode prog_13_method_56_code 13 = .ok (.iinc 3 1, 3) := by decide +kernel
theorem d_Mo_copy_16 : decode prog_13_method_56_code 16 = .ok (.goto (-14), 3) := by decide +kernel
theorem d_Mo_copy_19 : decode prog_13_method_56_code 19 = .ok (.return_, 1) := by decide +kernel
theorem d_Mo_enter_0 : decode prog_13_method_78_code 0 = .ok (.aload_n 0, 1) := by decide +kernel
theorem d_Mo_enter_1 : decode prog_13_method_78_code 1 = .ok (.iconst 0, 1) := by decide +kernel
theorem d_Mo_enter_2 : decode prog_13_method_78_code 2 = .ok (.putfield 73, 3) := by decide +kernel
theorem d_Mo_enter_5 : decode prog_13_method_78_code 5 = .ok (.aload_n 0, 1) := by decide +kernel
theorem d_Mo_enter_6 : decode prog_13_method_78_code 6 = .ok (.aload_n 0, 1) := by decide +kernel
theorem d_Mo_enter_7 : decode prog_13_method_78_code 7 = .ok (.getfield 391, 3) := by decide +kernel
theorem d_Mo_enter_10 : decode prog_13_method_78_code 10 = .ok (.putfield 315, 3) := by decide +kernel
theorem d_Mo_enter_13 : decode prog_13_method_78_code 13 = .ok (.aload_n 0, 1) := by decide +kernel
theorem d_Mo_enter_14 : decode prog_13_method_78_code 14 = .ok (.getfield 55, 3) := by decide +kernel
theorem d_Mo_enter_17 : decode prog_13_method_78_code 17 = .ok (.aload_n 0, 1) := by decide +kernel
theorem d_Mo_enter_18 : decode prog_13_method_78_code 18 = .ok (.getfield 58, 3) := by decide +kernel
theorem d_Mo_enter_21 : decode prog_13_method_78_code 21 = .ok (.aload_n 0, 1) := by decide +kernel
theorem d_Mo_enter_22 : decode prog_13_method_78_code 22 = .ok (.getfield 391, 3) := by decide +kernel
theorem d_Mo_enter_25 : decode prog_13_method_78_code 25 = .ok (.invokestatic 272, 3) := by decide +kernel
theorem d_Mo_enter_28 : decode prog_13_method_78_code 28 = .ok (.aload_n 0, 1) := by decide +kernel
theorem d_Mo_enter_29 : decode prog_13_method_78_code 29 = .ok (.iconst 0, 1) := by decide +kernel
theorem d_Mo_enter_30 : decode prog_13_method_78_code 30 = .ok (.putfield 391, 3) := by decide +kernel
theorem d_Mo_enter_33 : decode prog_13_method_78_code 33 = .ok (.aload_n 0, 1) := by decide +kernel
theorem d_Mo_enter_34 : decode prog_13_method_78_code 34 = .ok (.iconst 1, 1) := by decide +kernel
theorem d_Mo_enter_35 : decode prog_13_method_78_code 35 = .ok (.putfield 312, 3) := by decide +kernel
theorem d_Mo_enter_38 : decode prog_13_method_78_code 38 = .ok (.return_, 1) := by decide +kernel
theorem d_Li_finish_0 : decode prog_6_method_4_code 0 = .ok (.iconst 0, 1) := by decide +kernel
theorem d_Li_finish_1 : decode prog_6_method_4_code 1 = .ok (.istore_n 1, 1) := by decide +kernel
theorem d_Li_finish_2 : decode prog_6_method_4_code 2 = .ok (.iload_n 1, 1) := by decide +kernel
theorem d_Li_finish_3 : decode prog_6_method_4_code 3 = .ok (.aload_n 0, 1) := by decide +kernel
theorem d_Li_finish_4 : decode prog_6_method_4_code 4 = .ok (.getfield 16, 3) := by decide +kernel
theorem d_Li_finish_7 : decode prog_6_method_4_code 7 = .ok (.if_icmp .ge 55, 3) := by decide +kernel
theorem d_Li_finish_10 : decode prog_6_method_4_code 10 = .ok (.aload_n 0, 1) := by decide +kernel
theorem d_Li_finish_11 : decode prog_6_method_4_code 11 = .ok (.getfield 9, 3) := by decide +kernel
theorem d_Li_finish_14 : decode prog_6_method_4_code 14 = .ok (.iload_n 1, 1) := by decide +kernel
theorem d_Li_finish_15 : decode prog_6_method_4_code 15 = .ok (.iaload, 1) := by decide +kernel
theorem d_Li_finish_16 : decode prog_6_method_4_code 16 = .ok (.istore_n 2, 1) := by decide +kernel
theorem d_Li_finish_17 : decode prog_6_method_4_code 17 = .ok (.iload_n 2, 1) := by decide +kernel
theorem d_Li_finish_18 : decode prog_6_method_4_code 18 = .ok (.bipush 65, 2) := by decide +kernel
theorem d_Li_finish_20 : decode prog_6_method_4_code 20 = .ok (.if_icmp .lt 13, 3) := by decide +kernel
theorem d_Li_finish_23 : decode prog_6_method_4_code 23 = .ok (.iload_n 2, 1) := by decide +kernel
theorem d_Li_finish_24 : decode prog_6_method_4_code 24 = .ok (.bipush 90, 2) := by decide +kernel
theorem d_Li_finish_26 : decode prog_6_method_4_code 26 = .ok (.if_icmp .gt 7, 3) := by decide +kernel
theorem d_Li_finish_29 : decode prog_6_method_4_code 29 = .ok (.iconst 1, 1) := by decide +kernel
theorem d_Li_finish_30 : decode prog_6_method_4_code 30 = .ok (.goto 4, 3) := by decide +kernel
theorem d_Li_finish_33 : decode prog_6_method_4_code 33 = .ok (.iconst 0, 1) := by decide +kernel
theorem d_Li_finish_34 : decode prog_6_method_4_code 34 = .ok (.istore_n 3, 1) := by decide +kernel
theorem d_Li_finish_35 : decode prog_6_method_4_code 35 = .ok (.aload_n 0, 1) := by decide +kernel
theorem d_Li_finish_36 : decode prog_6_method_4_code 36 = .ok (.getfield 13, 3) := by decide +kernel
theorem d_Li_finish_39 : decode prog_6_method_4_code 39 = .ok (.iload_n 1, 1) := by decide +kernel
theorem d_Li_finish_40 : decode prog_6_method_4_code 40 = .ok (.iload_n 3, 1) := by decide +kernel
theorem d_Li_finish_41 : decode prog_6_method_4_code 41 = .ok (.ifCond .eq 13, 3) := by decide +kernel
theorem d_Li_finish_44 : decode prog_6_method_4_code 44 = .ok (.iload_n 2, 1) := by decide +kernel
theorem d_Li_finish_45 : decode prog_6_method_4_code 45 = .ok (.bipush 65, 2) := by decide +kernel
theorem d_Li_finish_47 : decode prog_6_method_4_code 47 = .ok (.isub, 1) := by decide +kernel
theorem d_Li_finish_48 : decode prog_6_method_4_code 48 = .ok (.bipush 97, 2) := by decide +kernel
theorem d_Li_finish_50 : decode prog_6_method_4_code 50 = .ok (.iadd, 1) := by decide +kernel
theorem d_Li_finish_51 : decode prog_6_method_4_code 51 = .ok (.goto 4, 3) := by decide +kernel
theorem d_Li_finish_54 : decode prog_6_method_4_code 54 = .ok (.iload_n 2, 1) := by decide +kernel
theorem d_Li_finish_55 : decode prog_6_method_4_code 55 = .ok (.iastore, 1) := by decide +kernel
theorem d_Li_finish_56 : decode prog_6_method_4_code 56 = .ok (.iinc 1 1, 3) := by decide +kernel
theorem d_Li_finish_59 : decode prog_6_method_4_code 59 = .ok (.goto (-57), 3) := by decide +kernel
theorem d_Li_finish_62 : decode prog_6_method_4_code 62 = .ok (.aload_n 0, 1) := by decide +kernel
theorem d_Li_finish_63 : decode prog_6_method_4_code 63 = .ok (.aload_n 0, 1) := by decide +kernel
theorem d_Li_finish_64 : decode prog_6_method_4_code 64 = .ok (.getfield 16, 3) := by decide +kernel
theorem d_Li_finish_67 : decode prog_6_method_4_code 67 = .ok (.putfield 24, 3) := by decide +kernel
theorem d_Li_finish_70 : decode prog_6_method_4_code 70 = .ok (.aload_n 0, 1) := by decide +kernel
theorem d_Li_finish_71 : decode prog_6_method_4_code 71 = .ok (.iconst 0, 1) := by decide +kernel
theorem d_Li_finish_72 : decode prog_6_method_4_code 72 = .ok (.putfield 16, 3) := by decide +kernel
theorem d_Li_finish_75 : decode prog_6_method_4_code 75 = .ok (.aload_n 0, 1) := by decide +kernel
theorem d_Li_finish_76 : decode prog_6_method_4_code 76 = .ok (.iconst 1, 1) := by decide +kernel
theorem d_Li_finish_77 : decode prog_6_method_4_code 77 = .ok (.putfield 20, 3) := by decide +kernel
theorem d_Li_finish_80 : decode prog_6_method_4_code 80 = .ok (.return_, 1) := by decide +kernel
theorem d_SM_enter_0 : decode prog_1_method_6_code 0 = .ok (.aload_n 0, 1) := by decide +kernel
theorem d_SM_enter_1 : decode prog_1_method_6_code 1 = .ok (.getfield 27, 3) := by decide +kernel
theorem d_SM_enter_4 : decode prog_1_method_6_code 4 = .ok (.invokevirtual 77, 3) := by decide +kernel
theorem d_SM_enter_7 : decode prog_1_method_6_code 7 = .ok (.return_, 1) := by decide +kernel
end
section
/-! The words of each throw; written by wip/tools/gen.py. -/
theorem th_SM_IllegalArgumentException {args : Array Value} {s U : State} (hts : ∀ w ∈ tw_tbl, w.before args s = true) (hW : s.WarmedH U.vm) (hst : ts_St U) : (∀ a ∈ Bundle.ownAtoms0 "StoryMachine" 50 "java/lang/IllegalArgumentException" ["java/lang/RuntimeException", "java/lang/Exception"], a.before args U = true) ∧ (Cond.classLink "StoryMachine" 48 "java/lang/IllegalArgumentException").before args U = true ∧ (Cond.initialized "java/lang/IllegalArgumentException").before args U = true := by
  have hU : ∀ w ∈ tw_tbl, w.before args U = true := fun w hw => tw_ws hts w hw args U hW
  refine ⟨?_, hU _ mw_354, hU _ mw_16⟩
  exact List.forall_mem_cons.mpr ⟨hU _ mw_13, List.forall_mem_cons.mpr ⟨hU _ mw_376, List.forall_mem_cons.mpr ⟨hU _ mw_385, List.forall_mem_cons.mpr ⟨hU _ mw_391, List.forall_mem_cons.mpr ⟨hU _ mw_394, List.forall_mem_cons.mpr ⟨hU _ mw_396, List.forall_mem_cons.mpr ⟨hU _ mw_377, List.forall_mem_cons.mpr ⟨hU _ mw_378, List.forall_mem_cons.mpr ⟨hU _ mw_34, List.forall_mem_cons.mpr ⟨hU _ mw_35, List.forall_mem_cons.mpr ⟨hU _ mw_379, List.forall_mem_cons.mpr ⟨hU _ mw_384, List.forall_mem_cons.mpr ⟨hU _ mw_392, List.forall_mem_cons.mpr ⟨hU _ mw_408, List.forall_mem_cons.mpr ⟨hU _ mw_366, List.forall_mem_cons.mpr ⟨hU _ mw_409, List.forall_mem_cons.mpr ⟨hU _ mw_368, List.forall_mem_cons.mpr ⟨hU _ mw_410, List.forall_mem_cons.mpr ⟨hU _ mw_370, List.forall_mem_cons.mpr ⟨hU _ mw_380, List.forall_mem_cons.mpr ⟨hst args _ (List.mem_of_getElem? (i := 0) rfl), List.forall_mem_cons.mpr ⟨hU _ mw_382, List.forall_mem_cons.mpr ⟨hst args _ (List.mem_of_getElem? (i := 1) rfl), List.forall_mem_cons.mpr ⟨hU _ mw_372, List.forall_mem_cons.mpr ⟨hU _ mw_398, List.forall_mem_cons.mpr ⟨hU _ mw_399, List.forall_mem_cons.mpr ⟨hU _ mw_400, List.forall_mem_cons.mpr ⟨hU _ mw_401, List.forall_mem_cons.mpr ⟨hU _ mw_357, List.forall_mem_cons.mpr ⟨hU _ mw_401, List.forall_mem_cons.mpr ⟨hU _ mw_402, List.forall_mem_cons.mpr ⟨hU _ mw_403, List.forall_mem_cons.mpr ⟨hU _ mw_404, List.forall_mem_cons.mpr ⟨hU _ mw_359, List.forall_mem_cons.mpr ⟨hU _ mw_404, List.forall_mem_cons.mpr ⟨hU _ mw_405, List.forall_mem_cons.mpr ⟨hU _ mw_406, List.forall_mem_cons.mpr ⟨hU _ mw_377, List.forall_mem_cons.mpr ⟨hU _ mw_361, List.forall_mem_cons.mpr ⟨hU _ mw_397, List.forall_mem_cons.mpr ⟨hU _ mw_355, List.forall_mem_cons.mpr ⟨hU _ mw_356, List.forall_mem_cons.mpr ⟨hU _ mw_363, List.forall_mem_cons.mpr ⟨hU _ mw_364, List.forall_mem_cons.mpr ⟨hU _ mw_365, List.forall_mem_cons.mpr ⟨hU _ mw_367, List.forall_mem_cons.mpr ⟨hU _ mw_369, List.forall_mem_cons.mpr ⟨hU _ mw_371, List.forall_mem_cons.mpr ⟨hst args _ (List.mem_of_getElem? (i := 2) rfl), List.forall_mem_cons.mpr ⟨hst args _ (List.mem_of_getElem? (i := 3) rfl), List.forall_mem_cons.mpr ⟨hU _ mw_375, List.forall_mem_cons.mpr ⟨hU _ mw_374, List.forall_mem_cons.mpr ⟨hU _ mw_373, (fun _ h => by cases h)⟩⟩⟩⟩⟩⟩⟩⟩⟩⟩⟩⟩⟩⟩⟩⟩⟩⟩⟩⟩⟩⟩⟩⟩⟩⟩⟩⟩⟩⟩⟩⟩⟩⟩⟩⟩⟩⟩⟩⟩⟩⟩⟩⟩⟩⟩⟩⟩⟩⟩⟩⟩⟩
theorem tth_SM_IllegalArgumentException {p : Program} {l : Launch} {e : Env} {R : Room} {s : State} {m : MethodId} {args : Array Value} {below : List Frame} {meth : Method} {c : Code} {H : Heap} {locs : List Loc} {cells slots : Nat} {cc : ByteArray} (hexec : p.tables.exec = Jvm.exec) (hb : c.code = cc) (hfl : l.flags = pinnedFlags ++ [noTraceFlag]) (hown : s.vm.findClass "StoryMachine" = some m.cls) (hts : ∀ w ∈ tw_tbl, w.before args s = true) (hst : ∀ U : State, U.heap = H → s.WarmedH U.vm → ts_St U)
    {Qc : Array Value → State → Outcome → State → Prop} {free : Addr → Prop} {pc : Nat} {ls : Array Slot} {rest : List Value} (hsize : ls.size = c.maxLocals)
    (d0 : decode cc pc = .ok (.new 48, 3)) (d3 : decode cc (pc + 3) = .ok (.dup, 1)) (d4 : decode cc (pc + 3 + 1) = .ok (.invokespecial 50, 3)) (d7 : decode cc (pc + 3 + 1 + 3) = .ok (.athrow, 1))
    (hout : ∀ x ∈ c.exceptionTable.toList, covers x (pc + 3 + 1 + 3) = false)
    (hc : cells + 1 ≤ R.cells) (hsl : slots + 6 ≤ R.slots) (hRf : 5 < R.frames) (hRl : (rest.map fun v => v.category).sum + 81 ≤ R.locals)
    (hq : ∀ (t : State) (ce : Cell), s.WarmedH t.vm → t.heap.size = H.size + 1 → (∀ q : Nat, q < H.size → t.heap[q]? = H[q]?) → t.heap[H.size]? = some ce → t.vm.findClass "java/lang/IllegalArgumentException" = some ce.cls → ce.vm = .none → Qc args s (.threw H.size) t) (hf : ∀ q ∈ locs, free q.base) (hlocks : meth.locks = false) :
    W p l e R s m args below meth c H locs cells slots (tx_MQ below Qc args s (cells + 1) (slots + 6) free) (F0 m pc ls rest) :=
  tx_throw (own := "StoryMachine") (X := "java/lang/IllegalArgumentException") (names := ["java/lang/RuntimeException", "java/lang/Exception"]) (ic := 50) (ix := 48) hexec hb hfl hown (by decide) (by decide) (fun U hU hW => th_SM_IllegalArgumentException hts hW (hst U hU hW)) hsize d0 d3 d4 d7 hout hc hsl hRf hRl hq hf hlocks
theorem th_SM_IllegalStateException {args : Array Value} {s U : State} (hts : ∀ w ∈ tw_tbl, w.before args s = true) (hW : s.WarmedH U.vm) (hst : ts_St U) : (∀ a ∈ Bundle.ownAtoms0 "StoryMachine" 65 "java/lang/IllegalStateException" ["java/lang/RuntimeException", "java/lang/Exception"], a.before args U = true) ∧ (Cond.classLink "StoryMachine" 63 "java/lang/IllegalStateException").before args U = true ∧ (Cond.initialized "java/lang/IllegalStateException").before args U = true := by
  have hU : ∀ w ∈ tw_tbl, w.before args U = true := fun w hw => tw_ws hts w hw args U hW
  refine ⟨?_, hU _ mw_443, hU _ mw_17⟩
  exact List.forall_mem_cons.mpr ⟨hU _ mw_13, List.forall_mem_cons.mpr ⟨hU _ mw_376, List.forall_mem_cons.mpr ⟨hU _ mw_385, List.forall_mem_cons.mpr ⟨hU _ mw_391, List.forall_mem_cons.mpr ⟨hU _ mw_394, List.forall_mem_cons.mpr ⟨hU _ mw_396, List.forall_mem_cons.mpr ⟨hU _ mw_377, List.forall_mem_cons.mpr ⟨hU _ mw_378, List.forall_mem_cons.mpr ⟨hU _ mw_34, List.forall_mem_cons.mpr ⟨hU _ mw_35, List.forall_mem_cons.mpr ⟨hU _ mw_379, List.forall_mem_cons.mpr ⟨hU _ mw_384, List.forall_mem_cons.mpr ⟨hU _ mw_392, List.forall_mem_cons.mpr ⟨hU _ mw_408, List.forall_mem_cons.mpr ⟨hU _ mw_366, List.forall_mem_cons.mpr ⟨hU _ mw_409, List.forall_mem_cons.mpr ⟨hU _ mw_368, List.forall_mem_cons.mpr ⟨hU _ mw_410, List.forall_mem_cons.mpr ⟨hU _ mw_370, List.forall_mem_cons.mpr ⟨hU _ mw_380, List.forall_mem_cons.mpr ⟨hst args _ (List.mem_of_getElem? (i := 0) rfl), List.forall_mem_cons.mpr ⟨hU _ mw_382, List.forall_mem_cons.mpr ⟨hst args _ (List.mem_of_getElem? (i := 1) rfl), List.forall_mem_cons.mpr ⟨hU _ mw_372, List.forall_mem_cons.mpr ⟨hU _ mw_453, List.forall_mem_cons.mpr ⟨hU _ mw_454, List.forall_mem_cons.mpr ⟨hU _ mw_455, List.forall_mem_cons.mpr ⟨hU _ mw_401, List.forall_mem_cons.mpr ⟨hU _ mw_357, List.forall_mem_cons.mpr ⟨hU _ mw_401, List.forall_mem_cons.mpr ⟨hU _ mw_402, List.forall_mem_cons.mpr ⟨hU _ mw_403, List.forall_mem_cons.mpr ⟨hU _ mw_404, List.forall_mem_cons.mpr ⟨hU _ mw_359, List.forall_mem_cons.mpr ⟨hU _ mw_404, List.forall_mem_cons.mpr ⟨hU _ mw_405, List.forall_mem_cons.mpr ⟨hU _ mw_406, List.forall_mem_cons.mpr ⟨hU _ mw_377, List.forall_mem_cons.mpr ⟨hU _ mw_361, List.forall_mem_cons.mpr ⟨hU _ mw_452, List.forall_mem_cons.mpr ⟨hU _ mw_444, List.forall_mem_cons.mpr ⟨hU _ mw_445, List.forall_mem_cons.mpr ⟨hU _ mw_446, List.forall_mem_cons.mpr ⟨hU _ mw_388, List.forall_mem_cons.mpr ⟨hU _ mw_447, List.forall_mem_cons.mpr ⟨hU _ mw_448, List.forall_mem_cons.mpr ⟨hU _ mw_449, List.forall_mem_cons.mpr ⟨hU _ mw_450, List.forall_mem_cons.mpr ⟨hst args _ (List.mem_of_getElem? (i := 2) rfl), List.forall_mem_cons.mpr ⟨hst args _ (List.mem_of_getElem? (i := 3) rfl), List.forall_mem_cons.mpr ⟨hU _ mw_375, List.forall_mem_cons.mpr ⟨hU _ mw_374, List.forall_mem_cons.mpr ⟨hU _ mw_451, (fun _ h => by cases h)⟩⟩⟩⟩⟩⟩⟩⟩⟩⟩⟩⟩⟩⟩⟩⟩⟩⟩⟩⟩⟩⟩⟩⟩⟩⟩⟩⟩⟩⟩⟩⟩⟩⟩⟩⟩⟩⟩⟩⟩⟩⟩⟩⟩⟩⟩⟩⟩⟩⟩⟩⟩⟩
theorem tth_SM_IllegalStateException {p : Program} {l : Launch} {e : Env} {R : Room} {s : State} {m : MethodId} {args : Array Value} {below : List Frame} {meth : Method} {c : Code} {H : Heap} {locs : List Loc} {cells slots : Nat} {cc : ByteArray} (hexec : p.tables.exec = Jvm.exec) (hb : c.code = cc) (hfl : l.flags = pinnedFlags ++ [noTraceFlag]) (hown : s.vm.findClass "StoryMachine" = some m.cls) (hts : ∀ w ∈ tw_tbl, w.before args s = true) (hst : ∀ U : State, U.heap = H → s.WarmedH U.vm → ts_St U)
    {Qc : Array Value → State → Outcome → State → Prop} {free : Addr → Prop} {pc : Nat} {ls : Array Slot} {rest : List Value} (hsize : ls.size = c.maxLocals)
    (d0 : decode cc pc = .ok (.new 63, 3)) (d3 : decode cc (pc + 3) = .ok (.dup, 1)) (d4 : decode cc (pc + 3 + 1) = .ok (.invokespecial 65, 3)) (d7 : decode cc (pc + 3 + 1 + 3) = .ok (.athrow, 1))
    (hout : ∀ x ∈ c.exceptionTable.toList, covers x (pc + 3 + 1 + 3) = false)
    (hc : cells + 1 ≤ R.cells) (hsl : slots + 6 ≤ R.slots) (hRf : 5 < R.frames) (hRl : (rest.map fun v => v.category).sum + 81 ≤ R.locals)
    (hq : ∀ (t : State) (ce : Cell), s.WarmedH t.vm → t.heap.size = H.size + 1 → (∀ q : Nat, q < H.size → t.heap[q]? = H[q]?) → t.heap[H.size]? = some ce → t.vm.findClass "java/lang/IllegalStateException" = some ce.cls → ce.vm = .none → Qc args s (.threw H.size) t) (hf : ∀ q ∈ locs, free q.base) (hlocks : meth.locks = false) :
    W p l e R s m args below meth c H locs cells slots (tx_MQ below Qc args s (cells + 1) (slots + 6) free) (F0 m pc ls rest) :=
  tx_throw (own := "StoryMachine") (X := "java/lang/IllegalStateException") (names := ["java/lang/RuntimeException", "java/lang/Exception"]) (ic := 65) (ix := 63) hexec hb hfl hown (by decide) (by decide) (fun U hU hW => th_SM_IllegalStateException hts hW (hst U hU hW)) hsize d0 d3 d4 d7 hout hc hsl hRf hRl hq hf hlocks
theorem th_SM_IndexOutOfBoundsException {args : Array Value} {s U : State} (hts : ∀ w ∈ tw_tbl, w.before args s = true) (hW : s.WarmedH U.vm) (hst : ts_St U) : (∀ a ∈ Bundle.ownAtoms0 "StoryMachine" 99 "java/lang/IndexOutOfBoundsException" ["java/lang/RuntimeException", "java/lang/Exception"], a.before args U = true) ∧ (Cond.classLink "StoryMachine" 97 "java/lang/IndexOutOfBoundsException").before args U = true ∧ (Cond.initialized "java/lang/IndexOutOfBoundsException").before args U = true := by
  have hU : ∀ w ∈ tw_tbl, w.before args U = true := fun w hw => tw_ws hts w hw args U hW
  refine ⟨?_, hU _ mw_1019, hU _ mw_27⟩
  exact List.forall_mem_cons.mpr ⟨hU _ mw_13, List.forall_mem_cons.mpr ⟨hU _ mw_376, List.forall_mem_cons.mpr ⟨hU _ mw_385, List.forall_mem_cons.mpr ⟨hU _ mw_391, List.forall_mem_cons.mpr ⟨hU _ mw_394, List.forall_mem_cons.mpr ⟨hU _ mw_396, List.forall_mem_cons.mpr ⟨hU _ mw_377, List.forall_mem_cons.mpr ⟨hU _ mw_378, List.forall_mem_cons.mpr ⟨hU _ mw_34, List.forall_mem_cons.mpr ⟨hU _ mw_35, List.forall_mem_cons.mpr ⟨hU _ mw_379, List.forall_mem_cons.mpr ⟨hU _ mw_384, List.forall_mem_cons.mpr ⟨hU _ mw_392, List.forall_mem_cons.mpr ⟨hU _ mw_408, List.forall_mem_cons.mpr ⟨hU _ mw_366, List.forall_mem_cons.mpr ⟨hU _ mw_409, List.forall_mem_cons.mpr ⟨hU _ mw_368, List.forall_mem_cons.mpr ⟨hU _ mw_410, List.forall_mem_cons.mpr ⟨hU _ mw_370, List.forall_mem_cons.mpr ⟨hU _ mw_380, List.forall_mem_cons.mpr ⟨hst args _ (List.mem_of_getElem? (i := 0) rfl), List.forall_mem_cons.mpr ⟨hU _ mw_382, List.forall_mem_cons.mpr ⟨hst args _ (List.mem_of_getElem? (i := 1) rfl), List.forall_mem_cons.mpr ⟨hU _ mw_372, List.forall_mem_cons.mpr ⟨hU _ mw_1029, List.forall_mem_cons.mpr ⟨hU _ mw_1030, List.forall_mem_cons.mpr ⟨hU _ mw_1031, List.forall_mem_cons.mpr ⟨hU _ mw_401, List.forall_mem_cons.mpr ⟨hU _ mw_357, List.forall_mem_cons.mpr ⟨hU _ mw_401, List.forall_mem_cons.mpr ⟨hU _ mw_402, List.forall_mem_cons.mpr ⟨hU _ mw_403, List.forall_mem_cons.mpr ⟨hU _ mw_404, List.forall_mem_cons.mpr ⟨hU _ mw_359, List.forall_mem_cons.mpr ⟨hU _ mw_404, List.forall_mem_cons.mpr ⟨hU _ mw_405, List.forall_mem_cons.mpr ⟨hU _ mw_406, List.forall_mem_cons.mpr ⟨hU _ mw_377, List.forall_mem_cons.mpr ⟨hU _ mw_361, List.forall_mem_cons.mpr ⟨hU _ mw_1028, List.forall_mem_cons.mpr ⟨hU _ mw_1020, List.forall_mem_cons.mpr ⟨hU _ mw_1021, List.forall_mem_cons.mpr ⟨hU _ mw_1022, List.forall_mem_cons.mpr ⟨hU _ mw_389, List.forall_mem_cons.mpr ⟨hU _ mw_1023, List.forall_mem_cons.mpr ⟨hU _ mw_1024, List.forall_mem_cons.mpr ⟨hU _ mw_1025, List.forall_mem_cons.mpr ⟨hU _ mw_1026, List.forall_mem_cons.mpr ⟨hst args _ (List.mem_of_getElem? (i := 2) rfl), List.forall_mem_cons.mpr ⟨hst args _ (List.mem_of_getElem? (i := 3) rfl), List.forall_mem_cons.mpr ⟨hU _ mw_375, List.forall_mem_cons.mpr ⟨hU _ mw_374, List.forall_mem_cons.mpr ⟨hU _ mw_1027, (fun _ h => by cases h)⟩⟩⟩⟩⟩⟩⟩⟩⟩⟩⟩⟩⟩⟩⟩⟩⟩⟩⟩⟩⟩⟩⟩⟩⟩⟩⟩⟩⟩⟩⟩⟩⟩⟩⟩⟩⟩⟩⟩⟩⟩⟩⟩⟩⟩⟩⟩⟩⟩⟩⟩⟩⟩
theorem tth_SM_IndexOutOfBoundsException {p : Program} {l : Launch} {e : Env} {R : Room} {s : State} {m : MethodId} {args : Array Value} {below : List Frame} {meth : Method} {c : Code} {H : Heap} {locs : List Loc} {cells slots : Nat} {cc : ByteArray} (hexec : p.tables.exec = Jvm.exec) (hb : c.code = cc) (hfl : l.flags = pinnedFlags ++ [noTraceFlag]) (hown : s.vm.findClass "StoryMachine" = some m.cls) (hts : ∀ w ∈ tw_tbl, w.before args s = true) (hst : ∀ U : State, U.heap = H → s.WarmedH U.vm → ts_St U)
    {Qc : Array Value → State → Outcome → State → Prop} {free : Addr → Prop} {pc : Nat} {ls : Array Slot} {rest : List Value} (hsize : ls.size = c.maxLocals)
    (d0 : decode cc pc = .ok (.new 97, 3)) (d3 : decode cc (pc + 3) = .ok (.dup, 1)) (d4 : decode cc (pc + 3 + 1) = .ok (.invokespecial 99, 3)) (d7 : decode cc (pc + 3 + 1 + 3) = .ok (.athrow, 1))
    (hout : ∀ x ∈ c.exceptionTable.toList, covers x (pc + 3 + 1 + 3) = false)
    (hc : cells + 1 ≤ R.cells) (hsl : slots + 6 ≤ R.slots) (hRf : 5 < R.frames) (hRl : (rest.map fun v => v.category).sum + 81 ≤ R.locals)
    (hq : ∀ (t : State) (ce : Cell), s.WarmedH t.vm → t.heap.size = H.size + 1 → (∀ q : Nat, q < H.size → t.heap[q]? = H[q]?) → t.heap[H.size]? = some ce → t.vm.findClass "java/lang/IndexOutOfBoundsException" = some ce.cls → ce.vm = .none → Qc args s (.threw H.size) t) (hf : ∀ q ∈ locs, free q.base) (hlocks : meth.locks = false) :
    W p l e R s m args below meth c H locs cells slots (tx_MQ below Qc args s (cells + 1) (slots + 6) free) (F0 m pc ls rest) :=
  tx_throw (own := "StoryMachine") (X := "java/lang/IndexOutOfBoundsException") (names := ["java/lang/RuntimeException", "java/lang/Exception"]) (ic := 99) (ix := 97) hexec hb hfl hown (by decide) (by decide) (fun U hU hW => th_SM_IndexOutOfBoundsException hts hW (hst U hU hW)) hsize d0 d3 d4 d7 hout hc hsl hRf hRl hq hf hlocks
end
section
/-! Contracts; written by wip/tools/p1.py. -/
set_option maxHeartbeats 4000000 in
set_option maxRecDepth 100000 in
theorem c_Me_init (l : Launch) (hfl : l.flags = pinnedFlags ++ [noTraceFlag]) (dC : Nat → ClassId) (dI : Nat → Nat → Nat) (cI : ClassId) (h0 : Nat) (sz : Nat) : tx_Met l ⟨"StoryMachine$Memory", "<init>", "()V"⟩ tw_tbl ({ frames := 1, cells := 1, slots := 512, locals := 40 }) (tq_P (dC, dI) vcl [.ref h0] sz [(h0, .inr (1, [.null]))] [(cI, .int)]) (tq_Q (fun o t => o = .returned none ∧ ∃ (q8 : Nat), va_P (dC, dI) vcl [(h0, .inr (1, [.ref q8])), (q8, .inl (cI, 512, .inl (fun _ => 0)))] t.heap ∧ va_K (dC, dI) vcl [(cI, .int)] t ∧ va_D (va_A [(h0, .inr (1, [.null]))] sz) [(h0, .inr (1, [.ref q8])), (q8, .inl (cI, 512, .inl (fun _ => 0)))]) (va_A [(h0, .inr (1, [.null]))] sz)) 1 512 (va_A [(h0, .inr (1, [.null]))] sz) := by
  refine tx_ofW (cc := prog_7_method_1_code) (maxL := 1) (ret := none) (by decide) (tx_isM mw_40) ?_
  intro p e s m args below meth c s₁ B hml hv
  obtain ⟨rfl, hsz, hP, hK, hD0, hst0⟩ := hv
  have hx := B.exec
  have hb := B.bytes
  have hr := B.returns
  have hts := atoms_spec (ws := tw_tbl) B.pre
  have hown : s.vm.findClass "StoryMachine$Memory" = some m.cls := findClass_of_methodNamed B.named
  have hlocks := B.notSynchronized
  have hin : meth.name = "<init>" := (name_of_methodNamed B.named B.method).1
  subst hsz
  have hD := hD0.self (sz := s.heap.size)
  have hst := fun (H : Heap) (locs : List Loc) (hS : va_S (va_A [(h0, .inr (1, [.null]))] s.heap.size) s.heap H locs) (U : State) (hU : U.heap = H) (hW : s.WarmedH U.vm) => ts_keep hW (fun q cell h1 h2 => by rw [hU]; exact ts_va hP hS q cell h1 h2) hst0
  generalize hAe : va_A [(h0, .inr (1, [.null]))] s.heap.size = A at hD hst ⊢
  have hA : ∀ q : Nat, s.heap.size ≤ q → A q := fun q h => by rw [← hAe]; exact Or.inr h
  have hS : va_S A s.heap s.heap [] := va_S.rf
  have hP : va_P (dC, dI) vcl [(h0, .inr (1, [.null]))] s.heap := hP
  have hl := lv_entry ([.ref h0]) (n := 1) (Nat.le_of_ble_eq_true rfl)
  rw [lg_entry_eq]
  generalize (lg_sl ([.ref h0]) ++ List.replicate (1 - (lg_sl ([.ref h0])).length) Slot.unset).toArray = ls at hl ⊢
  have hl : lv_has ls 1 [(0, .ref h0)] := hl
  refine lv_aload_n hx hb d_Me_init_0 rfl (lv_at hl 0 rfl) ?_
  refine W.objInit hx hb hown (hts _ mw_41) (hts _ mw_34) (hts _ mw_35) rfl (by rw [hml]; exact hl.1) rfl d_Me_init_1 (Nat.le_of_ble_eq_true rfl) (Nat.le_of_ble_eq_true rfl) ?_
  refine W.eq (g2 := F0 m 4 ls []) rfl ?_
  refine lv_aload_n hx hb d_Me_init_4 rfl (lv_at hl 0 rfl) ?_
  refine lv_sipush (v := 512) hx hb d_Me_init_5 (by decide) ?_
  refine ta_newI (N' := 512) hx hb (hts _ mw_47) hK 0 rfl hP hD hS hA (by decide) (by decide) (by decide) (Nat.le_of_ble_eq_true rfl) (Nat.le_of_ble_eq_true rfl) d_Me_init_8 (fun q8 H hP hD hS => ?_)
  have hP : va_P (dC, dI) vcl [(h0, .inr (1, [.null])), (q8, .inl (cI, 512, .inl (fun _ => 0)))] H := hP
  have hD : va_D A [(h0, .inr (1, [.null])), (q8, .inl (cI, 512, .inl (fun _ => 0)))] := hD
  refine va_putF (D := (dC, dI)) (ci := 1) (v := .ref q8) (ty := .array .int) (C := "StoryMachine$Memory") (T := T_Me) (N := 1) hx hb hts in_Me t_Me tk_Me nm_Me hown hK hP hD hS 0 rfl rfl 0 (by decide) (hts _ mw_42) (fun _ h9 => h9) rfl hin rfl (by decide +kernel) rfl rfl (Nat.le_of_ble_eq_true rfl) d_Me_init_10 (fun H locs hP hD hS => ?_)
  have hP : va_P (dC, dI) vcl [(h0, .inr (1, [.ref q8])), (q8, .inl (cI, 512, .inl (fun _ => 0)))] H := hP
  have hD : va_D A [(h0, .inr (1, [.ref q8])), (q8, .inl (cI, 512, .inl (fun _ => 0)))] := hD
  have hP9 := hP.sub (ws' := [(h0, .inr (1, [.ref q8])), (q8, .inl (cI, 512, .inl (fun _ => 0)))]) [0, 1] rfl
  have hD9 := hD.sub (ws' := [(h0, .inr (1, [.ref q8])), (q8, .inl (cI, 512, .inl (fun _ => 0)))]) [0, 1] (by decide) rfl
  refine W.widen (k := 1) (n := 512) (Nat.le_of_ble_eq_true rfl) (Nat.le_of_ble_eq_true rfl) ?_
  exact tx_ret (W.vret hx hb hr (fun t ht hW => ⟨⟨rfl, q8, by rw [ht]; exact hP9, va_K.moved hW.alike hK, hAe ▸ hD9⟩, hS.F ht⟩) (hS.2.2) d_Me_init_13)
set_option maxHeartbeats 4000000 in
set_option maxRecDepth 100000 in
theorem c_Li_init (l : Launch) (hfl : l.flags = pinnedFlags ++ [noTraceFlag]) (dC : Nat → ClassId) (dI : Nat → Nat → Nat) (cI : ClassId) (h0 : Nat) (sz : Nat) : tx_Met l ⟨"StoryMachine$Line", "<init>", "()V"⟩ tw_tbl ({ frames := 1, cells := 2, slots := 48, locals := 40 }) (tq_P (dC, dI) vcl [.ref h0] sz [(h0, .inr (2, [.null, .int 0, .null, .int 0, .int 0]))] [(cI, .int)]) (tq_Q (fun o t => o = .returned none ∧ ∃ (q7 q15 : Nat), va_P (dC, dI) vcl [(h0, .inr (2, [.ref q7, .int 0, .ref q15, .int 0, .int 0])), (q7, .inl (cI, 24, .inl (fun _ => 0))), (q15, .inl (cI, 24, .inl (fun _ => 0)))] t.heap ∧ va_K (dC, dI) vcl [(cI, .int)] t ∧ va_D (va_A [(h0, .inr (2, [.null, .int 0, .null, .int 0, .int 0]))] sz) [(h0, .inr (2, [.ref q7, .int 0, .ref q15, .int 0, .int 0])), (q7, .inl (cI, 24, .inl (fun _ => 0))), (q15, .inl (cI, 24, .inl (fun _ => 0)))]) (va_A [(h0, .inr (2, [.null, .int 0, .null, .int 0, .int 0]))] sz)) 2 48 (va_A [(h0, .inr (2, [.null, .int 0, .null, .int 0, .int 0]))] sz) := by
  refine tx_ofW (cc := prog_6_method_1_code) (maxL := 1) (ret := none) (by decide) (tx_isM mw_52) ?_
  intro p e s m args below meth c s₁ B hml hv
  obtain ⟨rfl, hsz, hP, hK, hD0, hst0⟩ := hv
  have hx := B.exec
  have hb := B.bytes
  have hr := B.returns
  have hts := atoms_spec (ws := tw_tbl) B.pre
  have hown : s.vm.findClass "StoryMachine$Line" = some m.cls := findClass_of_methodNamed B.named
  have hlocks := B.notSynchronized
  have hin : meth.name = "<init>" := (name_of_methodNamed B.named B.method).1
  subst hsz
  have hD := hD0.self (sz := s.heap.size)
  have hst := fun (H : Heap) (locs : List Loc) (hS : va_S (va_A [(h0, .inr (2, [.null, .int 0, .null, .int 0, .int 0]))] s.heap.size) s.heap H locs) (U : State) (hU : U.heap = H) (hW : s.WarmedH U.vm) => ts_keep hW (fun q cell h1 h2 => by rw [hU]; exact ts_va hP hS q cell h1 h2) hst0
  generalize hAe : va_A [(h0, .inr (2, [.null, .int 0, .null, .int 0, .int 0]))] s.heap.size = A at hD hst ⊢
  have hA : ∀ q : Nat, s.heap.size ≤ q → A q := fun q h => by rw [← hAe]; exact Or.inr h
  have hS : va_S A s.heap s.heap [] := va_S.rf
  have hP : va_P (dC, dI) vcl [(h0, .inr (2, [.null, .int 0, .null, .int 0, .int 0]))] s.heap := hP
  have hl := lv_entry ([.ref h0]) (n := 1) (Nat.le_of_ble_eq_true rfl)
  rw [lg_entry_eq]
  generalize (lg_sl ([.ref h0]) ++ List.replicate (1 - (lg_sl ([.ref h0])).length) Slot.unset).toArray = ls at hl ⊢
  have hl : lv_has ls 1 [(0, .ref h0)] := hl
  refine lv_aload_n hx hb d_Li_init_0 rfl (lv_at hl 0 rfl) ?_
  refine W.objInit hx hb hown (hts _ mw_53) (hts _ mw_34) (hts _ mw_35) rfl (by rw [hml]; exact hl.1) rfl d_Li_init_1 (Nat.le_of_ble_eq_true rfl) (Nat.le_of_ble_eq_true rfl) ?_
  refine W.eq (g2 := F0 m 4 ls []) rfl ?_
  refine lv_aload_n hx hb d_Li_init_4 rfl (lv_at hl 0 rfl) ?_
  refine lv_bipush (v := 24) hx hb d_Li_init_5 (by decide) ?_
  refine ta_newI (N' := 24) hx hb (hts _ mw_47) hK 0 rfl hP hD hS hA (by decide) (by decide) (by decide) (Nat.le_of_ble_eq_true rfl) (Nat.le_of_ble_eq_true rfl) d_Li_init_7 (fun q7 H hP hD hS => ?_)
  have hP : va_P (dC, dI) vcl [(h0, .inr (2, [.null, .int 0, .null, .int 0, .int 0])), (q7, .inl (cI, 24, .inl (fun _ => 0)))] H := hP
  have hD : va_D A [(h0, .inr (2, [.null, .int 0, .null, .int 0, .int 0])), (q7, .inl (cI, 24, .inl (fun _ => 0)))] := hD
  refine va_putF (D := (dC, dI)) (ci := 2) (v := .ref q7) (ty := .array .int) (C := "StoryMachine$Line") (T := T_Li) (N := 5) hx hb hts in_Li t_Li tk_Li nm_Li hown hK hP hD hS 0 rfl rfl 0 (by decide) (hts _ mw_54) (fun _ h9 => h9) rfl hin rfl (by decide +kernel) rfl rfl (Nat.le_of_ble_eq_true rfl) d_Li_init_9 (fun H locs hP hD hS => ?_)
  have hP : va_P (dC, dI) vcl [(h0, .inr (2, [.ref q7, .int 0, .null, .int 0, .int 0])), (q7, .inl (cI, 24, .inl (fun _ => 0)))] H := hP
  have hD : va_D A [(h0, .inr (2, [.ref q7, .int 0, .null, .int 0, .int 0])), (q7, .inl (cI, 24, .inl (fun _ => 0)))] := hD
  refine lv_aload_n hx hb d_Li_init_12 rfl (lv_at hl 0 rfl) ?_
  refine lv_bipush (v := 24) hx hb d_Li_init_13 (by decide) ?_
  refine ta_newI (N' := 24) hx hb (hts _ mw_47) hK 0 rfl hP hD hS hA (by decide) (by decide) (by decide) (Nat.le_of_ble_eq_true rfl) (Nat.le_of_ble_eq_true rfl) d_Li_init_15 (fun q15 H hP hD hS => ?_)
  have hP : va_P (dC, dI) vcl [(h0, .inr (2, [.ref q7, .int 0, .null, .int 0, .int 0])), (q7, .inl (cI, 24, .inl (fun _ => 0))), (q15, .inl (cI, 24, .inl (fun _ => 0)))] H := hP
  have hD : va_D A [(h0, .inr (2, [.ref q7, .int 0, .null, .int 0, .int 0])), (q7, .inl (cI, 24, .inl (fun _ => 0))), (q15, .inl (cI, 24, .inl (fun _ => 0)))] := hD
  refine va_putF (D := (dC, dI)) (ci := 2) (v := .ref q15) (ty := .array .int) (C := "StoryMachine$Line") (T := T_Li) (N := 5) hx hb hts in_Li t_Li tk_Li nm_Li hown hK hP hD hS 0 rfl rfl 2 (by decide) (hts _ mw_57) (fun _ h9 => h9) rfl hin rfl (by decide +kernel) rfl rfl (Nat.le_of_ble_eq_true rfl) d_Li_init_17 (fun H locs hP hD hS => ?_)
  have hP : va_P (dC, dI) vcl [(h0, .inr (2, [.ref q7, .int 0, .ref q15, .int 0, .int 0])), (q7, .inl (cI, 24, .inl (fun _ => 0))), (q15, .inl (cI, 24, .inl (fun _ => 0)))] H := hP
  have hD : va_D A [(h0, .inr (2, [.ref q7, .int 0, .ref q15, .int 0, .int 0])), (q7, .inl (cI, 24, .inl (fun _ => 0))), (q15, .inl (cI, 24, .inl (fun _ => 0)))] := hD
  have hP9 := hP.sub (ws' := [(h0, .inr (2, [.ref q7, .int 0, .ref q15, .int 0, .int 0])), (q7, .inl (cI, 24, .inl (fun _ => 0))), (q15, .inl (cI, 24, .inl (fun _ => 0)))]) [0, 1, 2] rfl
  have hD9 := hD.sub (ws' := [(h0, .inr (2, [.ref q7, .int 0, .ref q15, .int 0, .int 0])), (q7, .inl (cI, 24, .inl (fun _ => 0))), (q15, .inl (cI, 24, .inl (fun _ => 0)))]) [0, 1, 2] (by decide) rfl
  refine W.widen (k := 2) (n := 48) (Nat.le_of_ble_eq_true rfl) (Nat.le_of_ble_eq_true rfl) ?_
  exact tx_ret (W.vret hx hb hr (fun t ht hW => ⟨⟨rfl, q7, q15, by rw [ht]; exact hP9, va_K.moved hW.alike hK, hAe ▸ hD9⟩, hS.F ht⟩) (hS.2.2) d_Li_init_20)
set_option maxHeartbeats 4000000 in
set_option maxRecDepth 100000 in
theorem c_Ro_init (l : Launch) (hfl : l.flags = pinnedFlags ++ [noTraceFlag]) (dC : Nat → ClassId) (dI : Nat → Nat → Nat) (cI : ClassId) (h0 : Nat) (sz : Nat) : tx_Met l ⟨"StoryMachine$Routines", "<init>", "()V"⟩ tw_tbl ({ frames := 1, cells := 6, slots := 257, locals := 40 }) (tq_P (dC, dI) vcl [.ref h0] sz [(h0, .inr (3, [.null, .int 0, .int 0, .null, .null, .null, .null, .null]))] [(cI, .int)]) (tq_Q (fun o t => o = .returned none ∧ ∃ (q7 q15 q23 q31 q39 q48 : Nat), va_P (dC, dI) vcl [(h0, .inr (3, [.ref q7, .int 0, .int 0, .ref q15, .ref q23, .ref q31, .ref q39, .ref q48])), (q7, .inl (cI, 48, .inl (fun _ => 0))), (q15, .inl (cI, 11, .inl (fun _ => 0))), (q23, .inl (cI, 11, .inl (fun _ => 0))), (q31, .inl (cI, 11, .inl (fun _ => 0))), (q39, .inl (cI, 11, .inl (fun _ => 0))), (q48, .inl (cI, 165, .inl (fun _ => 0)))] t.heap ∧ va_K (dC, dI) vcl [(cI, .int)] t ∧ va_D (va_A [(h0, .inr (3, [.null, .int 0, .int 0, .null, .null, .null, .null, .null]))] sz) [(h0, .inr (3, [.ref q7, .int 0, .int 0, .ref q15, .ref q23, .ref q31, .ref q39, .ref q48])), (q7, .inl (cI, 48, .inl (fun _ => 0))), (q15, .inl (cI, 11, .inl (fun _ => 0))), (q23, .inl (cI, 11, .inl (fun _ => 0))), (q31, .inl (cI, 11, .inl (fun _ => 0))), (q39, .inl (cI, 11, .inl (fun _ => 0))), (q48, .inl (cI, 165, .inl (fun _ => 0)))]) (va_A [(h0, .inr (3, [.null, .int 0, .int 0, .null, .null, .null, .null, .null]))] sz)) 6 257 (va_A [(h0, .inr (3, [.null, .int 0, .int 0, .null, .null, .null, .null, .null]))] sz) := by
  refine tx_ofW (cc := prog_9_method_1_code) (maxL := 1) (ret := none) (by decide) (tx_isM mw_78) ?_
  intro p e s m args below meth c s₁ B hml hv
  obtain ⟨rfl, hsz, hP, hK, hD0, hst0⟩ := hv
  have hx := B.exec
  have hb := B.bytes
  have hr := B.returns
  have hts := atoms_spec (ws := tw_tbl) B.pre
  have hown : s.vm.findClass "StoryMachine$Routines" = some m.cls := findClass_of_methodNamed B.named
  have hlocks := B.notSynchronized
  have hin : meth.name = "<init>" := (name_of_methodNamed B.named B.method).1
  subst hsz
  have hD := hD0.self (sz := s.heap.size)
  have hst := fun (H : Heap) (locs : List Loc) (hS : va_S (va_A [(h0, .inr (3, [.null, .int 0, .int 0, .null, .null, .null, .null, .null]))] s.heap.size) s.heap H locs) (U : State) (hU : U.heap = H) (hW : s.WarmedH U.vm) => ts_keep hW (fun q cell h1 h2 => by rw [hU]; exact ts_va hP hS q cell h1 h2) hst0
  generalize hAe : va_A [(h0, .inr (3, [.null, .int 0, .int 0, .null, .null, .null, .null, .null]))] s.heap.size = A at hD hst ⊢
  have hA : ∀ q : Nat, s.heap.size ≤ q → A q := fun q h => by rw [← hAe]; exact Or.inr h
  have hS : va_S A s.heap s.heap [] := va_S.rf
  have hP : va_P (dC, dI) vcl [(h0, .inr (3, [.null, .int 0, .int 0, .null, .null, .null, .null, .null]))] s.heap := hP
  have hl := lv_entry ([.ref h0]) (n := 1) (Nat.le_of_ble_eq_true rfl)
  rw [lg_entry_eq]
  generalize (lg_sl ([.ref h0]) ++ List.replicate (1 - (lg_sl ([.ref h0])).length) Slot.unset).toArray = ls at hl ⊢
  have hl : lv_has ls 1 [(0, .ref h0)] := hl
  refine lv_aload_n hx hb d_Ro_init_0 rfl (lv_at hl 0 rfl) ?_
  refine W.objInit hx hb hown (hts _ mw_79) (hts _ mw_34) (hts _ mw_35) rfl (by rw [hml]; exact hl.1) rfl d_Ro_init_1 (Nat.le_of_ble_eq_true rfl) (Nat.le_of_ble_eq_true rfl) ?_
  refine W.eq (g2 := F0 m 4 ls []) rfl ?_
  refine lv_aload_n hx hb d_Ro_init_4 rfl (lv_at hl 0 rfl) ?_
  refine lv_bipush (v := 48) hx hb d_Ro_init_5 (by decide) ?_
  refine ta_newI (N' := 48) hx hb (hts _ mw_47) hK 0 rfl hP hD hS hA (by decide) (by decide) (by decide) (Nat.le_of_ble_eq_true rfl) (Nat.le_of_ble_eq_true rfl) d_Ro_init_7 (fun q7 H hP hD hS => ?_)
  have hP : va_P (dC, dI) vcl [(h0, .inr (3, [.null, .int 0, .int 0, .null, .null, .null, .null, .null])), (q7, .inl (cI, 48, .inl (fun _ => 0)))] H := hP
  have hD : va_D A [(h0, .inr (3, [.null, .int 0, .int 0, .null, .null, .null, .null, .null])), (q7, .inl (cI, 48, .inl (fun _ => 0)))] := hD
  refine va_putF (D := (dC, dI)) (ci := 3) (v := .ref q7) (ty := .array .int) (C := "StoryMachine$Routines") (T := T_Ro) (N := 8) hx hb hts in_Ro t_Ro tk_Ro nm_Ro hown hK hP hD hS 0 rfl rfl 0 (by decide) (hts _ mw_80) (fun _ h9 => h9) rfl hin rfl (by decide +kernel) rfl rfl (Nat.le_of_ble_eq_true rfl) d_Ro_init_9 (fun H locs hP hD hS => ?_)
  have hP : va_P (dC, dI) vcl [(h0, .inr (3, [.ref q7, .int 0, .int 0, .null, .null, .null, .null, .null])), (q7, .inl (cI, 48, .inl (fun _ => 0)))] H := hP
  have hD : va_D A [(h0, .inr (3, [.ref q7, .int 0, .int 0, .null, .null, .null, .null, .null])), (q7, .inl (cI, 48, .inl (fun _ => 0)))] := hD
  refine lv_aload_n hx hb d_Ro_init_12 rfl (lv_at hl 0 rfl) ?_
  refine lv_bipush (v := 11) hx hb d_Ro_init_13 (by decide) ?_
  refine ta_newI (N' := 11) hx hb (hts _ mw_47) hK 0 rfl hP hD hS hA (by decide) (by decide) (by decide) (Nat.le_of_ble_eq_true rfl) (Nat.le_of_ble_eq_true rfl) d_Ro_init_15 (fun q15 H hP hD hS => ?_)
  have hP : va_P (dC, dI) vcl [(h0, .inr (3, [.ref q7, .int 0, .int 0, .null, .null, .null, .null, .null])), (q7, .inl (cI, 48, .inl (fun _ => 0))), (q15, .inl (cI, 11, .inl (fun _ => 0)))] H := hP
  have hD : va_D A [(h0, .inr (3, [.ref q7, .int 0, .int 0, .null, .null, .null, .null, .null])), (q7, .inl (cI, 48, .inl (fun _ => 0))), (q15, .inl (cI, 11, .inl (fun _ => 0)))] := hD
  refine va_putF (D := (dC, dI)) (ci := 3) (v := .ref q15) (ty := .array .int) (C := "StoryMachine$Routines") (T := T_Ro) (N := 8) hx hb hts in_Ro t_Ro tk_Ro nm_Ro hown hK hP hD hS 0 rfl rfl 3 (by decide) (hts _ mw_86) (fun _ h9 => h9) rfl hin rfl (by decide +kernel) rfl rfl (Nat.le_of_ble_eq_true rfl) d_Ro_init_17 (fun H locs hP hD hS => ?_)
  have hP : va_P (dC, dI) vcl [(h0, .inr (3, [.ref q7, .int 0, .int 0, .ref q15, .null, .null, .null, .null])), (q7, .inl (cI, 48, .inl (fun _ => 0))), (q15, .inl (cI, 11, .inl (fun _ => 0)))] H := hP
  have hD : va_D A [(h0, .inr (3, [.ref q7, .int 0, .int 0, .ref q15, .null, .null, .null, .null])), (q7, .inl (cI, 48, .inl (fun _ => 0))), (q15, .inl (cI, 11, .inl (fun _ => 0)))] := hD
  refine lv_aload_n hx hb d_Ro_init_20 rfl (lv_at hl 0 rfl) ?_
  refine lv_bipush (v := 11) hx hb d_Ro_init_21 (by decide) ?_
  refine ta_newI (N' := 11) hx hb (hts _ mw_47) hK 0 rfl hP hD hS hA (by decide) (by decide) (by decide) (Nat.le_of_ble_eq_true rfl) (Nat.le_of_ble_eq_true rfl) d_Ro_init_23 (fun q23 H hP hD hS => ?_)
  have hP : va_P (dC, dI) vcl [(h0, .inr (3, [.ref q7, .int 0, .int 0, .ref q15, .null, .null, .null, .null])), (q7, .inl (cI, 48, .inl (fun _ => 0))), (q15, .inl (cI, 11, .inl (fun _ => 0))), (q23, .inl (cI, 11, .inl (fun _ => 0)))] H := hP
  have hD : va_D A [(h0, .inr (3, [.ref q7, .int 0, .int 0, .ref q15, .null, .null, .null, .null])), (q7, .inl (cI, 48, .inl (fun _ => 0))), (q15, .inl (cI, 11, .inl (fun _ => 0))), (q23, .inl (cI, 11, .inl (fun _ => 0)))] := hD
  refine va_putF (D := (dC, dI)) (ci := 3) (v := .ref q23) (ty := .array .int) (C := "StoryMachine$Routines") (T := T_Ro) (N := 8) hx hb hts in_Ro t_Ro tk_Ro nm_Ro hown hK hP hD hS 0 rfl rfl 4 (by decide) (hts _ mw_87) (fun _ h9 => h9) rfl hin rfl (by decide +kernel) rfl rfl (Nat.le_of_ble_eq_true rfl) d_Ro_init_25 (fun H locs hP hD hS => ?_)
  have hP : va_P (dC, dI) vcl [(h0, .inr (3, [.ref q7, .int 0, .int 0, .ref q15, .ref q23, .null, .null, .null])), (q7, .inl (cI, 48, .inl (fun _ => 0))), (q15, .inl (cI, 11, .inl (fun _ => 0))), (q23, .inl (cI, 11, .inl (fun _ => 0)))] H := hP
  have hD : va_D A [(h0, .inr (3, [.ref q7, .int 0, .int 0, .ref q15, .ref q23, .null, .null, .null])), (q7, .inl (cI, 48, .inl (fun _ => 0))), (q15, .inl (cI, 11, .inl (fun _ => 0))), (q23, .inl (cI, 11, .inl (fun _ => 0)))] := hD
  refine lv_aload_n hx hb d_Ro_init_28 rfl (lv_at hl 0 rfl) ?_
  refine lv_bipush (v := 11) hx hb d_Ro_init_29 (by decide) ?_
  refine ta_newI (N' := 11) hx hb (hts _ mw_47) hK 0 rfl hP hD hS hA (by decide) (by decide) (by decide) (Nat.le_of_ble_eq_true rfl) (Nat.le_of_ble_eq_true rfl) d_Ro_init_31 (fun q31 H hP hD hS => ?_)
  have hP : va_P (dC, dI) vcl [(h0, .inr (3, [.ref q7, .int 0, .int 0, .ref q15, .ref q23, .null, .null, .null])), (q7, .inl (cI, 48, .inl (fun _ => 0))), (q15, .inl (cI, 11, .inl (fun _ => 0))), (q23, .inl (cI, 11, .inl (fun _ => 0))), (q31, .inl (cI, 11, .inl (fun _ => 0)))] H := hP
  have hD : va_D A [(h0, .inr (3, [.ref q7, .int 0, .int 0, .ref q15, .ref q23, .null, .null, .null])), (q7, .inl (cI, 48, .inl (fun _ => 0))), (q15, .inl (cI, 11, .inl (fun _ => 0))), (q23, .inl (cI, 11, .inl (fun _ => 0))), (q31, .inl (cI, 11, .inl (fun _ => 0)))] := hD
  refine va_putF (D := (dC, dI)) (ci := 3) (v := .ref q31) (ty := .array .int) (C := "StoryMachine$Routines") (T := T_Ro) (N := 8) hx hb hts in_Ro t_Ro tk_Ro nm_Ro hown hK hP hD hS 0 rfl rfl 5 (by decide) (hts _ mw_88) (fun _ h9 => h9) rfl hin rfl (by decide +kernel) rfl rfl (Nat.le_of_ble_eq_true rfl) d_Ro_init_33 (fun H locs hP hD hS => ?_)
  have hP : va_P (dC, dI) vcl [(h0, .inr (3, [.ref q7, .int 0, .int 0, .ref q15, .ref q23, .ref q31, .null, .null])), (q7, .inl (cI, 48, .inl (fun _ => 0))), (q15, .inl (cI, 11, .inl (fun _ => 0))), (q23, .inl (cI, 11, .inl (fun _ => 0))), (q31, .inl (cI, 11, .inl (fun _ => 0)))] H := hP
  have hD : va_D A [(h0, .inr (3, [.ref q7, .int 0, .int 0, .ref q15, .ref q23, .ref q31, .null, .null])), (q7, .inl (cI, 48, .inl (fun _ => 0))), (q15, .inl (cI, 11, .inl (fun _ => 0))), (q23, .inl (cI, 11, .inl (fun _ => 0))), (q31, .inl (cI, 11, .inl (fun _ => 0)))] := hD
  refine lv_aload_n hx hb d_Ro_init_36 rfl (lv_at hl 0 rfl) ?_
  refine lv_bipush (v := 11) hx hb d_Ro_init_37 (by decide) ?_
  refine ta_newI (N' := 11) hx hb (hts _ mw_47) hK 0 rfl hP hD hS hA (by decide) (by decide) (by decide) (Nat.le_of_ble_eq_true rfl) (Nat.le_of_ble_eq_true rfl) d_Ro_init_39 (fun q39 H hP hD hS => ?_)
  have hP : va_P (dC, dI) vcl [(h0, .inr (3, [.ref q7, .int 0, .int 0, .ref q15, .ref q23, .ref q31, .null, .null])), (q7, .inl (cI, 48, .inl (fun _ => 0))), (q15, .inl (cI, 11, .inl (fun _ => 0))), (q23, .inl (cI, 11, .inl (fun _ => 0))), (q31, .inl (cI, 11, .inl (fun _ => 0))), (q39, .inl (cI, 11, .inl (fun _ => 0)))] H := hP
  have hD : va_D A [(h0, .inr (3, [.ref q7, .int 0, .int 0, .ref q15, .ref q23, .ref q31, .null, .null])), (q7, .inl (cI, 48, .inl (fun _ => 0))), (q15, .inl (cI, 11, .inl (fun _ => 0))), (q23, .inl (cI, 11, .inl (fun _ => 0))), (q31, .inl (cI, 11, .inl (fun _ => 0))), (q39, .inl (cI, 11, .inl (fun _ => 0)))] := hD
  refine va_putF (D := (dC, dI)) (ci := 3) (v := .ref q39) (ty := .array .int) (C := "StoryMachine$Routines") (T := T_Ro) (N := 8) hx hb hts in_Ro t_Ro tk_Ro nm_Ro hown hK hP hD hS 0 rfl rfl 6 (by decide) (hts _ mw_89) (fun _ h9 => h9) rfl hin rfl (by decide +kernel) rfl rfl (Nat.le_of_ble_eq_true rfl) d_Ro_init_41 (fun H locs hP hD hS => ?_)
  have hP : va_P (dC, dI) vcl [(h0, .inr (3, [.ref q7, .int 0, .int 0, .ref q15, .ref q23, .ref q31, .ref q39, .null])), (q7, .inl (cI, 48, .inl (fun _ => 0))), (q15, .inl (cI, 11, .inl (fun _ => 0))), (q23, .inl (cI, 11, .inl (fun _ => 0))), (q31, .inl (cI, 11, .inl (fun _ => 0))), (q39, .inl (cI, 11, .inl (fun _ => 0)))] H := hP
  have hD : va_D A [(h0, .inr (3, [.ref q7, .int 0, .int 0, .ref q15, .ref q23, .ref q31, .ref q39, .null])), (q7, .inl (cI, 48, .inl (fun _ => 0))), (q15, .inl (cI, 11, .inl (fun _ => 0))), (q23, .inl (cI, 11, .inl (fun _ => 0))), (q31, .inl (cI, 11, .inl (fun _ => 0))), (q39, .inl (cI, 11, .inl (fun _ => 0)))] := hD
  refine lv_aload_n hx hb d_Ro_init_44 rfl (lv_at hl 0 rfl) ?_
  refine lv_sipush (v := 165) hx hb d_Ro_init_45 (by decide) ?_
  refine ta_newI (N' := 165) hx hb (hts _ mw_47) hK 0 rfl hP hD hS hA (by decide) (by decide) (by decide) (Nat.le_of_ble_eq_true rfl) (Nat.le_of_ble_eq_true rfl) d_Ro_init_48 (fun q48 H hP hD hS => ?_)
  have hP : va_P (dC, dI) vcl [(h0, .inr (3, [.ref q7, .int 0, .int 0, .ref q15, .ref q23, .ref q31, .ref q39, .null])), (q7, .inl (cI, 48, .inl (fun _ => 0))), (q15, .inl (cI, 11, .inl (fun _ => 0))), (q23, .inl (cI, 11, .inl (fun _ => 0))), (q31, .inl (cI, 11, .inl (fun _ => 0))), (q39, .inl (cI, 11, .inl (fun _ => 0))), (q48, .inl (cI, 165, .inl (fun _ => 0)))] H := hP
  have hD : va_D A [(h0, .inr (3, [.ref q7, .int 0, .int 0, .ref q15, .ref q23, .ref q31, .ref q39, .null])), (q7, .inl (cI, 48, .inl (fun _ => 0))), (q15, .inl (cI, 11, .inl (fun _ => 0))), (q23, .inl (cI, 11, .inl (fun _ => 0))), (q31, .inl (cI, 11, .inl (fun _ => 0))), (q39, .inl (cI, 11, .inl (fun _ => 0))), (q48, .inl (cI, 165, .inl (fun _ => 0)))] := hD
  refine va_putF (D := (dC, dI)) (ci := 3) (v := .ref q48) (ty := .array .int) (C := "StoryMachine$Routines") (T := T_Ro) (N := 8) hx hb hts in_Ro t_Ro tk_Ro nm_Ro hown hK hP hD hS 0 rfl rfl 7 (by decide) (hts _ mw_90) (fun _ h9 => h9) rfl hin rfl (by decide +kernel) rfl rfl (Nat.le_of_ble_eq_true rfl) d_Ro_init_50 (fun H locs hP hD hS => ?_)
  have hP : va_P (dC, dI) vcl [(h0, .inr (3, [.ref q7, .int 0, .int 0, .ref q15, .ref q23, .ref q31, .ref q39, .ref q48])), (q7, .inl (cI, 48, .inl (fun _ => 0))), (q15, .inl (cI, 11, .inl (fun _ => 0))), (q23, .inl (cI, 11, .inl (fun _ => 0))), (q31, .inl (cI, 11, .inl (fun _ => 0))), (q39, .inl (cI, 11, .inl (fun _ => 0))), (q48, .inl (cI, 165, .inl (fun _ => 0)))] H := hP
  have hD : va_D A [(h0, .inr (3, [.ref q7, .int 0, .int 0, .ref q15, .ref q23, .ref q31, .ref q39, .ref q48])), (q7, .inl (cI, 48, .inl (fun _ => 0))), (q15, .inl (cI, 11, .inl (fun _ => 0))), (q23, .inl (cI, 11, .inl (fun _ => 0))), (q31, .inl (cI, 11, .inl (fun _ => 0))), (q39, .inl (cI, 11, .inl (fun _ => 0))), (q48, .inl (cI, 165, .inl (fun _ => 0)))] := hD
  have hP9 := hP.sub (ws' := [(h0, .inr (3, [.ref q7, .int 0, .int 0, .ref q15, .ref q23, .ref q31, .ref q39, .ref q48])), (q7, .inl (cI, 48, .inl (fun _ => 0))), (q15, .inl (cI, 11, .inl (fun _ => 0))), (q23, .inl (cI, 11, .inl (fun _ => 0))), (q31, .inl (cI, 11, .inl (fun _ => 0))), (q39, .inl (cI, 11, .inl (fun _ => 0))), (q48, .inl (cI, 165, .inl (fun _ => 0)))]) [0, 1, 2, 3, 4, 5, 6] rfl
  have hD9 := hD.sub (ws' := [(h0, .inr (3, [.ref q7, .int 0, .int 0, .ref q15, .ref q23, .ref q31, .ref q39, .ref q48])), (q7, .inl (cI, 48, .inl (fun _ => 0))), (q15, .inl (cI, 11, .inl (fun _ => 0))), (q23, .inl (cI, 11, .inl (fun _ => 0))), (q31, .inl (cI, 11, .inl (fun _ => 0))), (q39, .inl (cI, 11, .inl (fun _ => 0))), (q48, .inl (cI, 165, .inl (fun _ => 0)))]) [0, 1, 2, 3, 4, 5, 6] (by decide) rfl
  refine W.widen (k := 6) (n := 257) (Nat.le_of_ble_eq_true rfl) (Nat.le_of_ble_eq_true rfl) ?_
  exact tx_ret (W.vret hx hb hr (fun t ht hW => ⟨⟨rfl, q7, q15, q23, q31, q39, q48, by rw [ht]; exact hP9, va_K.moved hW.alike hK, hAe ▸ hD9⟩, hS.F ht⟩) (hS.2.2) d_Ro_init_53)
set_option maxHeartbeats 4000000 in
set_option maxRecDepth 100000 in
theorem c_Pr_init (l : Launch) (hfl : l.flags = pinnedFlags ++ [noTraceFlag]) (dC : Nat → ClassId) (dI : Nat → Nat → Nat) (cI : ClassId) (h0 a1 : Nat) (sz : Nat) : tx_Met l ⟨"StoryMachine$Printer", "<init>", "(LStoryMachine$Memory;)V"⟩ tw_tbl ({ frames := 1, cells := 1, slots := 64, locals := 40 }) (tq_P (dC, dI) vcl [.ref h0, .ref a1] sz [(h0, .inr (4, [.null, .null, .int 0, .int 0, .int 0]))] [(cI, .int)]) (tq_Q (fun o t => o = .returned none ∧ ∃ (q7 : Nat), va_P (dC, dI) vcl [(h0, .inr (4, [.ref a1, .ref q7, .int 0, .int 0, .int 0])), (q7, .inl (cI, 64, .inl (fun _ => 0)))] t.heap ∧ va_K (dC, dI) vcl [(cI, .int)] t ∧ va_D (va_A [(h0, .inr (4, [.null, .null, .int 0, .int 0, .int 0]))] sz) [(h0, .inr (4, [.ref a1, .ref q7, .int 0, .int 0, .int 0])), (q7, .inl (cI, 64, .inl (fun _ => 0)))]) (va_A [(h0, .inr (4, [.null, .null, .int 0, .int 0, .int 0]))] sz)) 1 64 (va_A [(h0, .inr (4, [.null, .null, .int 0, .int 0, .int 0]))] sz) := by
  refine tx_ofW (cc := prog_8_method_1_code) (maxL := 2) (ret := none) (by decide) (tx_isM mw_112) ?_
  intro p e s m args below meth c s₁ B hml hv
  obtain ⟨rfl, hsz, hP, hK, hD0, hst0⟩ := hv
  have hx := B.exec
  have hb := B.bytes
  have hr := B.returns
  have hts := atoms_spec (ws := tw_tbl) B.pre
  have hown : s.vm.findClass "StoryMachine$Printer" = some m.cls := findClass_of_methodNamed B.named
  have hlocks := B.notSynchronized
  have hin : meth.name = "<init>" := (name_of_methodNamed B.named B.method).1
  subst hsz
  have hD := hD0.self (sz := s.heap.size)
  have hst := fun (H : Heap) (locs : List Loc) (hS : va_S (va_A [(h0, .inr (4, [.null, .null, .int 0, .int 0, .int 0]))] s.heap.size) s.heap H locs) (U : State) (hU : U.heap = H) (hW : s.WarmedH U.vm) => ts_keep hW (fun q cell h1 h2 => by rw [hU]; exact ts_va hP hS q cell h1 h2) hst0
  generalize hAe : va_A [(h0, .inr (4, [.null, .null, .int 0, .int 0, .int 0]))] s.heap.size = A at hD hst ⊢
  have hA : ∀ q : Nat, s.heap.size ≤ q → A q := fun q h => by rw [← hAe]; exact Or.inr h
  have hS : va_S A s.heap s.heap [] := va_S.rf
  have hP : va_P (dC, dI) vcl [(h0, .inr (4, [.null, .null, .int 0, .int 0, .int 0]))] s.heap := hP
  have hl := lv_entry ([.ref h0, .ref a1]) (n := 2) (Nat.le_of_ble_eq_true rfl)
  rw [lg_entry_eq]
  generalize (lg_sl ([.ref h0, .ref a1]) ++ List.replicate (2 - (lg_sl ([.ref h0, .ref a1])).length) Slot.unset).toArray = ls at hl ⊢
  have hl : lv_has ls 2 [(0, .ref h0), (1, .ref a1)] := hl
  refine lv_aload_n hx hb d_Pr_init_0 rfl (lv_at hl 0 rfl) ?_
  refine W.objInit hx hb hown (hts _ mw_113) (hts _ mw_34) (hts _ mw_35) rfl (by rw [hml]; exact hl.1) rfl d_Pr_init_1 (Nat.le_of_ble_eq_true rfl) (Nat.le_of_ble_eq_true rfl) ?_
  refine W.eq (g2 := F0 m 4 ls []) rfl ?_
  refine lv_aload_n hx hb d_Pr_init_4 rfl (lv_at hl 0 rfl) ?_
  refine lv_bipush (v := 64) hx hb d_Pr_init_5 (by decide) ?_
  refine ta_newI (N' := 64) hx hb (hts _ mw_47) hK 0 rfl hP hD hS hA (by decide) (by decide) (by decide) (Nat.le_of_ble_eq_true rfl) (Nat.le_of_ble_eq_true rfl) d_Pr_init_7 (fun q7 H hP hD hS => ?_)
  have hP : va_P (dC, dI) vcl [(h0, .inr (4, [.null, .null, .int 0, .int 0, .int 0])), (q7, .inl (cI, 64, .inl (fun _ => 0)))] H := hP
  have hD : va_D A [(h0, .inr (4, [.null, .null, .int 0, .int 0, .int 0])), (q7, .inl (cI, 64, .inl (fun _ => 0)))] := hD
  refine va_putF (D := (dC, dI)) (ci := 4) (v := .ref q7) (ty := .array .int) (C := "StoryMachine$Printer") (T := T_Pr) (N := 5) hx hb hts in_Pr t_Pr tk_Pr nm_Pr hown hK hP hD hS 0 rfl rfl 1 (by decide) (hts _ mw_115) (fun _ h9 => h9) rfl hin rfl (by decide +kernel) rfl rfl (Nat.le_of_ble_eq_true rfl) d_Pr_init_9 (fun H locs hP hD hS => ?_)
  have hP : va_P (dC, dI) vcl [(h0, .inr (4, [.null, .ref q7, .int 0, .int 0, .int 0])), (q7, .inl (cI, 64, .inl (fun _ => 0)))] H := hP
  have hD : va_D A [(h0, .inr (4, [.null, .ref q7, .int 0, .int 0, .int 0])), (q7, .inl (cI, 64, .inl (fun _ => 0)))] := hD
  refine lv_aload_n hx hb d_Pr_init_12 rfl (lv_at hl 0 rfl) ?_
  refine lv_aload_n hx hb d_Pr_init_13 rfl (lv_at hl 1 rfl) ?_
  refine va_putF (D := (dC, dI)) (ci := 4) (v := .ref a1) (ty := .object "StoryMachine$Memory") (C := "StoryMachine$Printer") (T := T_Pr) (N := 5) hx hb hts in_Pr t_Pr tk_Pr nm_Pr hown hK hP hD hS 0 rfl rfl 0 (by decide) (hts _ mw_114) (fun _ h9 => h9) rfl hin rfl (by decide +kernel) rfl rfl (Nat.le_of_ble_eq_true rfl) d_Pr_init_14 (fun H locs hP hD hS => ?_)
  have hP : va_P (dC, dI) vcl [(h0, .inr (4, [.ref a1, .ref q7, .int 0, .int 0, .int 0])), (q7, .inl (cI, 64, .inl (fun _ => 0)))] H := hP
  have hD : va_D A [(h0, .inr (4, [.ref a1, .ref q7, .int 0, .int 0, .int 0])), (q7, .inl (cI, 64, .inl (fun _ => 0)))] := hD
  have hP9 := hP.sub (ws' := [(h0, .inr (4, [.ref a1, .ref q7, .int 0, .int 0, .int 0])), (q7, .inl (cI, 64, .inl (fun _ => 0)))]) [0, 1] rfl
  have hD9 := hD.sub (ws' := [(h0, .inr (4, [.ref a1, .ref q7, .int 0, .int 0, .int 0])), (q7, .inl (cI, 64, .inl (fun _ => 0)))]) [0, 1] (by decide) rfl
  refine W.widen (k := 1) (n := 64) (Nat.le_of_ble_eq_true rfl) (Nat.le_of_ble_eq_true rfl) ?_
  exact tx_ret (W.vret hx hb hr (fun t ht hW => ⟨⟨rfl, q7, by rw [ht]; exact hP9, va_K.moved hW.alike hK, hAe ▸ hD9⟩, hS.F ht⟩) (hS.2.2) d_Pr_init_17)
set_option maxHeartbeats 4000000 in
set_option maxRecDepth 100000 in
theorem c_Va_init (l : Launch) (hfl : l.flags = pinnedFlags ++ [noTraceFlag]) (dC : Nat → ClassId) (dI : Nat → Nat → Nat) (cI : ClassId) (h0 a1 a2 : Nat) (sz : Nat) : tx_Met l ⟨"StoryMachine$Variables", "<init>", "(LStoryMachine$Memory;LStoryMachine$Routines;)V"⟩ tw_tbl ({ frames := 1, cells := 0, slots := 0, locals := 40 }) (tq_P (dC, dI) vcl [.ref h0, .ref a1, .ref a2] sz [(h0, .inr (6, [.null, .null]))] [(cI, .int)]) (tq_Q (fun o t => o = .returned none ∧ va_P (dC, dI) vcl [(h0, .inr (6, [.ref a1, .ref a2]))] t.heap ∧ va_K (dC, dI) vcl [(cI, .int)] t ∧ va_D (va_A [(h0, .inr (6, [.null, .null]))] sz) [(h0, .inr (6, [.ref a1, .ref a2]))]) (va_A [(h0, .inr (6, [.null, .null]))] sz)) 0 0 (va_A [(h0, .inr (6, [.null, .null]))] sz) := by
  refine tx_ofW (cc := prog_11_method_1_code) (maxL := 3) (ret := none) (by decide) (tx_isM mw_166) ?_
  intro p e s m args below meth c s₁ B hml hv
  obtain ⟨rfl, hsz, hP, hK, hD0, hst0⟩ := hv
  have hx := B.exec
  have hb := B.bytes
  have hr := B.returns
  have hts := atoms_spec (ws := tw_tbl) B.pre
  have hown : s.vm.findClass "StoryMachine$Variables" = some m.cls := findClass_of_methodNamed B.named
  have hlocks := B.notSynchronized
  have hin : meth.name = "<init>" := (name_of_methodNamed B.named B.method).1
  subst hsz
  have hD := hD0.self (sz := s.heap.size)
  have hst := fun (H : Heap) (locs : List Loc) (hS : va_S (va_A [(h0, .inr (6, [.null, .null]))] s.heap.size) s.heap H locs) (U : State) (hU : U.heap = H) (hW : s.WarmedH U.vm) => ts_keep hW (fun q cell h1 h2 => by rw [hU]; exact ts_va hP hS q cell h1 h2) hst0
  generalize hAe : va_A [(h0, .inr (6, [.null, .null]))] s.heap.size = A at hD hst ⊢
  have hA : ∀ q : Nat, s.heap.size ≤ q → A q := fun q h => by rw [← hAe]; exact Or.inr h
  have hS : va_S A s.heap s.heap [] := va_S.rf
  have hP : va_P (dC, dI) vcl [(h0, .inr (6, [.null, .null]))] s.heap := hP
  have hl := lv_entry ([.ref h0, .ref a1, .ref a2]) (n := 3) (Nat.le_of_ble_eq_true rfl)
  rw [lg_entry_eq]
  generalize (lg_sl ([.ref h0, .ref a1, .ref a2]) ++ List.replicate (3 - (lg_sl ([.ref h0, .ref a1, .ref a2])).length) Slot.unset).toArray = ls at hl ⊢
  have hl : lv_has ls 3 [(0, .ref h0), (1, .ref a1), (2, .ref a2)] := hl
  refine lv_aload_n hx hb d_Va_init_0 rfl (lv_at hl 0 rfl) ?_
  refine W.objInit hx hb hown (hts _ mw_167) (hts _ mw_34) (hts _ mw_35) rfl (by rw [hml]; exact hl.1) rfl d_Va_init_1 (Nat.le_of_ble_eq_true rfl) (Nat.le_of_ble_eq_true rfl) ?_
  refine W.eq (g2 := F0 m 4 ls []) rfl ?_
  refine lv_aload_n hx hb d_Va_init_4 rfl (lv_at hl 0 rfl) ?_
  refine lv_aload_n hx hb d_Va_init_5 rfl (lv_at hl 1 rfl) ?_
  refine va_putF (D := (dC, dI)) (ci := 6) (v := .ref a1) (ty := .object "StoryMachine$Memory") (C := "StoryMachine$Variables") (T := T_Va) (N := 2) hx hb hts in_Va t_Va tk_Va nm_Va hown hK hP hD hS 0 rfl rfl 0 (by decide) (hts _ mw_168) (fun _ h9 => h9) rfl hin rfl (by decide +kernel) rfl rfl (Nat.le_of_ble_eq_true rfl) d_Va_init_6 (fun H locs hP hD hS => ?_)
  have hP : va_P (dC, dI) vcl [(h0, .inr (6, [.ref a1, .null]))] H := hP
  have hD : va_D A [(h0, .inr (6, [.ref a1, .null]))] := hD
  refine lv_aload_n hx hb d_Va_init_9 rfl (lv_at hl 0 rfl) ?_
  refine lv_aload_n hx hb d_Va_init_10 rfl (lv_at hl 2 rfl) ?_
  refine va_putF (D := (dC, dI)) (ci := 6) (v := .ref a2) (ty := .object "StoryMachine$Routines") (C := "StoryMachine$Variables") (T := T_Va) (N := 2) hx hb hts in_Va t_Va tk_Va nm_Va hown hK hP hD hS 0 rfl rfl 1 (by decide) (hts _ mw_169) (fun _ h9 => h9) rfl hin rfl (by decide +kernel) rfl rfl (Nat.le_of_ble_eq_true rfl) d_Va_init_11 (fun H locs hP hD hS => ?_)
  have hP : va_P (dC, dI) vcl [(h0, .inr (6, [.ref a1, .ref a2]))] H := hP
  have hD : va_D A [(h0, .inr (6, [.ref a1, .ref a2]))] := hD
  have hP9 := hP.sub (ws' := [(h0, .inr (6, [.ref a1, .ref a2]))]) [0] rfl
  have hD9 := hD.sub (ws' := [(h0, .inr (6, [.ref a1, .ref a2]))]) [0] (by decide) rfl
  refine W.widen (k := 0) (n := 0) (Nat.le_of_ble_eq_true rfl) (Nat.le_of_ble_eq_true rfl) ?_
  exact tx_ret (W.vret hx hb hr (fun t ht hW => ⟨⟨rfl, by rw [ht]; exact hP9, va_K.moved hW.alike hK, hAe ▸ hD9⟩, hS.F ht⟩) (hS.2.2) d_Va_init_14)
set_option maxHeartbeats 4000000 in
set_option maxRecDepth 100000 in
theorem c_Tr_init (l : Launch) (hfl : l.flags = pinnedFlags ++ [noTraceFlag]) (dC : Nat → ClassId) (dI : Nat → Nat → Nat) (cI : ClassId) (h0 a1 : Nat) (sz : Nat) : tx_Met l ⟨"StoryMachine$Tree", "<init>", "(LStoryMachine$Memory;)V"⟩ tw_tbl ({ frames := 1, cells := 0, slots := 0, locals := 40 }) (tq_P (dC, dI) vcl [.ref h0, .ref a1] sz [(h0, .inr (7, [.null]))] [(cI, .int)]) (tq_Q (fun o t => o = .returned none ∧ va_P (dC, dI) vcl [(h0, .inr (7, [.ref a1]))] t.heap ∧ va_K (dC, dI) vcl [(cI, .int)] t ∧ va_D (va_A [(h0, .inr (7, [.null]))] sz) [(h0, .inr (7, [.ref a1]))]) (va_A [(h0, .inr (7, [.null]))] sz)) 0 0 (va_A [(h0, .inr (7, [.null]))] sz) := by
  refine tx_ofW (cc := prog_10_method_1_code) (maxL := 2) (ret := none) (by decide) (tx_isM mw_179) ?_
  intro p e s m args below meth c s₁ B hml hv
  obtain ⟨rfl, hsz, hP, hK, hD0, hst0⟩ := hv
  have hx := B.exec
  have hb := B.bytes
  have hr := B.returns
  have hts := atoms_spec (ws := tw_tbl) B.pre
  have hown : s.vm.findClass "StoryMachine$Tree" = some m.cls := findClass_of_methodNamed B.named
  have hlocks := B.notSynchronized
  have hin : meth.name = "<init>" := (name_of_methodNamed B.named B.method).1
  subst hsz
  have hD := hD0.self (sz := s.heap.size)
  have hst := fun (H : Heap) (locs : List Loc) (hS : va_S (va_A [(h0, .inr (7, [.null]))] s.heap.size) s.heap H locs) (U : State) (hU : U.heap = H) (hW : s.WarmedH U.vm) => ts_keep hW (fun q cell h1 h2 => by rw [hU]; exact ts_va hP hS q cell h1 h2) hst0
  generalize hAe : va_A [(h0, .inr (7, [.null]))] s.heap.size = A at hD hst ⊢
  have hA : ∀ q : Nat, s.heap.size ≤ q → A q := fun q h => by rw [← hAe]; exact Or.inr h
  have hS : va_S A s.heap s.heap [] := va_S.rf
  have hP : va_P (dC, dI) vcl [(h0, .inr (7, [.null]))] s.heap := hP
  have hl := lv_entry ([.ref h0, .ref a1]) (n := 2) (Nat.le_of_ble_eq_true rfl)
  rw [lg_entry_eq]
  generalize (lg_sl ([.ref h0, .ref a1]) ++ List.replicate (2 - (lg_sl ([.ref h0, .ref a1])).length) Slot.unset).toArray = ls at hl ⊢
  have hl : lv_has ls 2 [(0, .ref h0), (1, .ref a1)] := hl
  refine lv_aload_n hx hb d_Tr_init_0 rfl (lv_at hl 0 rfl) ?_
  refine W.objInit hx hb hown (hts _ mw_180) (hts _ mw_34) (hts _ mw_35) rfl (by rw [hml]; exact hl.1) rfl d_Tr_init_1 (Nat.le_of_ble_eq_true rfl) (Nat.le_of_ble_eq_true rfl) ?_
  refine W.eq (g2 := F0 m 4 ls []) rfl ?_
  refine lv_aload_n hx hb d_Tr_init_4 rfl (lv_at hl 0 rfl) ?_
  refine lv_aload_n hx hb d_Tr_init_5 rfl (lv_at hl 1 rfl) ?_
  refine va_putF (D := (dC, dI)) (ci := 7) (v := .ref a1) (ty := .object "StoryMachine$Memory") (C := "StoryMachine$Tree") (T := T_Tr) (N := 1) hx hb hts in_Tr t_Tr tk_Tr nm_Tr hown hK hP hD hS 0 rfl rfl 0 (by decide) (hts _ mw_181) (fun _ h9 => h9) rfl hin rfl (by decide +kernel) rfl rfl (Nat.le_of_ble_eq_true rfl) d_Tr_init_6 (fun H locs hP hD hS => ?_)
  have hP : va_P (dC, dI) vcl [(h0, .inr (7, [.ref a1]))] H := hP
  have hD : va_D A [(h0, .inr (7, [.ref a1]))] := hD
  have hP9 := hP.sub (ws' := [(h0, .inr (7, [.ref a1]))]) [0] rfl
  have hD9 := hD.sub (ws' := [(h0, .inr (7, [.ref a1]))]) [0] (by decide) rfl
  refine W.widen (k := 0) (n := 0) (Nat.le_of_ble_eq_true rfl) (Nat.le_of_ble_eq_true rfl) ?_
  exact tx_ret (W.vret hx hb hr (fun t ht hW => ⟨⟨rfl, by rw [ht]; exact hP9, va_K.moved hW.alike hK, hAe ▸ hD9⟩, hS.F ht⟩) (hS.2.2) d_Tr_init_9)
set_option maxHeartbeats 4000000 in
set_option maxRecDepth 100000 in
theorem c_Di_init (l : Launch) (hfl : l.flags = pinnedFlags ++ [noTraceFlag]) (dC : Nat → ClassId) (dI : Nat → Nat → Nat) (cI : ClassId) (h0 a1 : Nat) (sz : Nat) : tx_Met l ⟨"StoryMachine$Dictionary", "<init>", "(LStoryMachine$Memory;)V"⟩ tw_tbl ({ frames := 1, cells := 3, slots := 54, locals := 40 }) (tq_P (dC, dI) vcl [.ref h0, .ref a1] sz [(h0, .inr (8, [.null, .null, .null, .int 0, .null, .int 0]))] [(cI, .int)]) (tq_Q (fun o t => o = .returned none ∧ ∃ (q7 q15 q23 : Nat), va_P (dC, dI) vcl [(h0, .inr (8, [.ref a1, .ref q7, .ref q15, .int 0, .ref q23, .int 0])), (q7, .inl (cI, 24, .inl (fun _ => 0))), (q15, .inl (cI, 24, .inl (fun _ => 0))), (q23, .inl (cI, 6, .inl (fun _ => 0)))] t.heap ∧ va_K (dC, dI) vcl [(cI, .int)] t ∧ va_D (va_A [(h0, .inr (8, [.null, .null, .null, .int 0, .null, .int 0]))] sz) [(h0, .inr (8, [.ref a1, .ref q7, .ref q15, .int 0, .ref q23, .int 0])), (q7, .inl (cI, 24, .inl (fun _ => 0))), (q15, .inl (cI, 24, .inl (fun _ => 0))), (q23, .inl (cI, 6, .inl (fun _ => 0)))]) (va_A [(h0, .inr (8, [.null, .null, .null, .int 0, .null, .int 0]))] sz)) 3 54 (va_A [(h0, .inr (8, [.null, .null, .null, .int 0, .null, .int 0]))] sz) := by
  refine tx_ofW (cc := prog_3_method_1_code) (maxL := 2) (ret := none) (by decide) (tx_isM mw_189) ?_
  intro p e s m args below meth c s₁ B hml hv
  obtain ⟨rfl, hsz, hP, hK, hD0, hst0⟩ := hv
  have hx := B.exec
  have hb := B.bytes
  have hr := B.returns
  have hts := atoms_spec (ws := tw_tbl) B.pre
  have hown : s.vm.findClass "StoryMachine$Dictionary" = some m.cls := findClass_of_methodNamed B.named
  have hlocks := B.notSynchronized
  have hin : meth.name = "<init>" := (name_of_methodNamed B.named B.method).1
  subst hsz
  have hD := hD0.self (sz := s.heap.size)
  have hst := fun (H : Heap) (locs : List Loc) (hS : va_S (va_A [(h0, .inr (8, [.null, .null, .null, .int 0, .null, .int 0]))] s.heap.size) s.heap H locs) (U : State) (hU : U.heap = H) (hW : s.WarmedH U.vm) => ts_keep hW (fun q cell h1 h2 => by rw [hU]; exact ts_va hP hS q cell h1 h2) hst0
  generalize hAe : va_A [(h0, .inr (8, [.null, .null, .null, .int 0, .null, .int 0]))] s.heap.size = A at hD hst ⊢
  have hA : ∀ q : Nat, s.heap.size ≤ q → A q := fun q h => by rw [← hAe]; exact Or.inr h
  have hS : va_S A s.heap s.heap [] := va_S.rf
  have hP : va_P (dC, dI) vcl [(h0, .inr (8, [.null, .null, .null, .int 0, .null, .int 0]))] s.heap := hP
  have hl := lv_entry ([.ref h0, .ref a1]) (n := 2) (Nat.le_of_ble_eq_true rfl)
  rw [lg_entry_eq]
  generalize (lg_sl ([.ref h0, .ref a1]) ++ List.replicate (2 - (lg_sl ([.ref h0, .ref a1])).length) Slot.unset).toArray = ls at hl ⊢
  have hl : lv_has ls 2 [(0, .ref h0), (1, .ref a1)] := hl
  refine lv_aload_n hx hb d_Di_init_0 rfl (lv_at hl 0 rfl) ?_
  refine W.objInit hx hb hown (hts _ mw_190) (hts _ mw_34) (hts _ mw_35) rfl (by rw [hml]; exact hl.1) rfl d_Di_init_1 (Nat.le_of_ble_eq_true rfl) (Nat.le_of_ble_eq_true rfl) ?_
  refine W.eq (g2 := F0 m 4 ls []) rfl ?_
  refine lv_aload_n hx hb d_Di_init_4 rfl (lv_at hl 0 rfl) ?_
  refine lv_bipush (v := 24) hx hb d_Di_init_5 (by decide) ?_
  refine ta_newI (N' := 24) hx hb (hts _ mw_47) hK 0 rfl hP hD hS hA (by decide) (by decide) (by decide) (Nat.le_of_ble_eq_true rfl) (Nat.le_of_ble_eq_true rfl) d_Di_init_7 (fun q7 H hP hD hS => ?_)
  have hP : va_P (dC, dI) vcl [(h0, .inr (8, [.null, .null, .null, .int 0, .null, .int 0])), (q7, .inl (cI, 24, .inl (fun _ => 0)))] H := hP
  have hD : va_D A [(h0, .inr (8, [.null, .null, .null, .int 0, .null, .int 0])), (q7, .inl (cI, 24, .inl (fun _ => 0)))] := hD
  refine va_putF (D := (dC, dI)) (ci := 8) (v := .ref q7) (ty := .array .int) (C := "StoryMachine$Dictionary") (T := T_Di) (N := 6) hx hb hts in_Di t_Di tk_Di nm_Di hown hK hP hD hS 0 rfl rfl 1 (by decide) (hts _ mw_192) (fun _ h9 => h9) rfl hin rfl (by decide +kernel) rfl rfl (Nat.le_of_ble_eq_true rfl) d_Di_init_9 (fun H locs hP hD hS => ?_)
  have hP : va_P (dC, dI) vcl [(h0, .inr (8, [.null, .ref q7, .null, .int 0, .null, .int 0])), (q7, .inl (cI, 24, .inl (fun _ => 0)))] H := hP
  have hD : va_D A [(h0, .inr (8, [.null, .ref q7, .null, .int 0, .null, .int 0])), (q7, .inl (cI, 24, .inl (fun _ => 0)))] := hD
  refine lv_aload_n hx hb d_Di_init_12 rfl (lv_at hl 0 rfl) ?_
  refine lv_bipush (v := 24) hx hb d_Di_init_13 (by decide) ?_
  refine ta_newI (N' := 24) hx hb (hts _ mw_47) hK 0 rfl hP hD hS hA (by decide) (by decide) (by decide) (Nat.le_of_ble_eq_true rfl) (Nat.le_of_ble_eq_true rfl) d_Di_init_15 (fun q15 H hP hD hS => ?_)
  have hP : va_P (dC, dI) vcl [(h0, .inr (8, [.null, .ref q7, .null, .int 0, .null, .int 0])), (q7, .inl (cI, 24, .inl (fun _ => 0))), (q15, .inl (cI, 24, .inl (fun _ => 0)))] H := hP
  have hD : va_D A [(h0, .inr (8, [.null, .ref q7, .null, .int 0, .null, .int 0])), (q7, .inl (cI, 24, .inl (fun _ => 0))), (q15, .inl (cI, 24, .inl (fun _ => 0)))] := hD
  refine va_putF (D := (dC, dI)) (ci := 8) (v := .ref q15) (ty := .array .int) (C := "StoryMachine$Dictionary") (T := T_Di) (N := 6) hx hb hts in_Di t_Di tk_Di nm_Di hown hK hP hD hS 0 rfl rfl 2 (by decide) (hts _ mw_194) (fun _ h9 => h9) rfl hin rfl (by decide +kernel) rfl rfl (Nat.le_of_ble_eq_true rfl) d_Di_init_17 (fun H locs hP hD hS => ?_)
  have hP : va_P (dC, dI) vcl [(h0, .inr (8, [.null, .ref q7, .ref q15, .int 0, .null, .int 0])), (q7, .inl (cI, 24, .inl (fun _ => 0))), (q15, .inl (cI, 24, .inl (fun _ => 0)))] H := hP
  have hD : va_D A [(h0, .inr (8, [.null, .ref q7, .ref q15, .int 0, .null, .int 0])), (q7, .inl (cI, 24, .inl (fun _ => 0))), (q15, .inl (cI, 24, .inl (fun _ => 0)))] := hD
  refine lv_aload_n hx hb d_Di_init_20 rfl (lv_at hl 0 rfl) ?_
  refine lv_bipush (v := 6) hx hb d_Di_init_21 (by decide) ?_
  refine ta_newI (N' := 6) hx hb (hts _ mw_47) hK 0 rfl hP hD hS hA (by decide) (by decide) (by decide) (Nat.le_of_ble_eq_true rfl) (Nat.le_of_ble_eq_true rfl) d_Di_init_23 (fun q23 H hP hD hS => ?_)
  have hP : va_P (dC, dI) vcl [(h0, .inr (8, [.null, .ref q7, .ref q15, .int 0, .null, .int 0])), (q7, .inl (cI, 24, .inl (fun _ => 0))), (q15, .inl (cI, 24, .inl (fun _ => 0))), (q23, .inl (cI, 6, .inl (fun _ => 0)))] H := hP
  have hD : va_D A [(h0, .inr (8, [.null, .ref q7, .ref q15, .int 0, .null, .int 0])), (q7, .inl (cI, 24, .inl (fun _ => 0))), (q15, .inl (cI, 24, .inl (fun _ => 0))), (q23, .inl (cI, 6, .inl (fun _ => 0)))] := hD
  refine va_putF (D := (dC, dI)) (ci := 8) (v := .ref q23) (ty := .array .int) (C := "StoryMachine$Dictionary") (T := T_Di) (N := 6) hx hb hts in_Di t_Di tk_Di nm_Di hown hK hP hD hS 0 rfl rfl 4 (by decide) (hts _ mw_198) (fun _ h9 => h9) rfl hin rfl (by decide +kernel) rfl rfl (Nat.le_of_ble_eq_true rfl) d_Di_init_25 (fun H locs hP hD hS => ?_)
  have hP : va_P (dC, dI) vcl [(h0, .inr (8, [.null, .ref q7, .ref q15, .int 0, .ref q23, .int 0])), (q7, .inl (cI, 24, .inl (fun _ => 0))), (q15, .inl (cI, 24, .inl (fun _ => 0))), (q23, .inl (cI, 6, .inl (fun _ => 0)))] H := hP
  have hD : va_D A [(h0, .inr (8, [.null, .ref q7, .ref q15, .int 0, .ref q23, .int 0])), (q7, .inl (cI, 24, .inl (fun _ => 0))), (q15, .inl (cI, 24, .inl (fun _ => 0))), (q23, .inl (cI, 6, .inl (fun _ => 0)))] := hD
  refine lv_aload_n hx hb d_Di_init_28 rfl (lv_at hl 0 rfl) ?_
  refine lv_aload_n hx hb d_Di_init_29 rfl (lv_at hl 1 rfl) ?_
  refine va_putF (D := (dC, dI)) (ci := 8) (v := .ref a1) (ty := .object "StoryMachine$Memory") (C := "StoryMachine$Dictionary") (T := T_Di) (N := 6) hx hb hts in_Di t_Di tk_Di nm_Di hown hK hP hD hS 0 rfl rfl 0 (by decide) (hts _ mw_191) (fun _ h9 => h9) rfl hin rfl (by decide +kernel) rfl rfl (Nat.le_of_ble_eq_true rfl) d_Di_init_30 (fun H locs hP hD hS => ?_)
  have hP : va_P (dC, dI) vcl [(h0, .inr (8, [.ref a1, .ref q7, .ref q15, .int 0, .ref q23, .int 0])), (q7, .inl (cI, 24, .inl (fun _ => 0))), (q15, .inl (cI, 24, .inl (fun _ => 0))), (q23, .inl (cI, 6, .inl (fun _ => 0)))] H := hP
  have hD : va_D A [(h0, .inr (8, [.ref a1, .ref q7, .ref q15, .int 0, .ref q23, .int 0])), (q7, .inl (cI, 24, .inl (fun _ => 0))), (q15, .inl (cI, 24, .inl (fun _ => 0))), (q23, .inl (cI, 6, .inl (fun _ => 0)))] := hD
  have hP9 := hP.sub (ws' := [(h0, .inr (8, [.ref a1, .ref q7, .ref q15, .int 0, .ref q23, .int 0])), (q7, .inl (cI, 24, .inl (fun _ => 0))), (q15, .inl (cI, 24, .inl (fun _ => 0))), (q23, .inl (cI, 6, .inl (fun _ => 0)))]) [0, 1, 2, 3] rfl
  have hD9 := hD.sub (ws' := [(h0, .inr (8, [.ref a1, .ref q7, .ref q15, .int 0, .ref q23, .int 0])), (q7, .inl (cI, 24, .inl (fun _ => 0))), (q15, .inl (cI, 24, .inl (fun _ => 0))), (q23, .inl (cI, 6, .inl (fun _ => 0)))]) [0, 1, 2, 3] (by decide) rfl
  refine W.widen (k := 3) (n := 54) (Nat.le_of_ble_eq_true rfl) (Nat.le_of_ble_eq_true rfl) ?_
  exact tx_ret (W.vret hx hb hr (fun t ht hW => ⟨⟨rfl, q7, q15, q23, by rw [ht]; exact hP9, va_K.moved hW.alike hK, hAe ▸ hD9⟩, hS.F ht⟩) (hS.2.2) d_Di_init_33)
set_option maxHeartbeats 4000000 in
set_option maxRecDepth 100000 in
theorem c_In_init (l : Launch) (hfl : l.flags = pinnedFlags ++ [noTraceFlag]) (dC : Nat → ClassId) (dI : Nat → Nat → Nat) (cI : ClassId) (h0 a1 a2 : Nat) (sz : Nat) : tx_Met l ⟨"StoryMachine$Instruction", "<init>", "(LStoryMachine$Memory;LStoryMachine$Variables;)V"⟩ tw_tbl ({ frames := 1, cells := 1, slots := 4, locals := 40 }) (tq_P (dC, dI) vcl [.ref h0, .ref a1, .ref a2] sz [(h0, .inr (9, [.null, .null, .null, .int 0, .int 0, .int 0, .int 0, .int 0, .int 0, .int 0, .int 0]))] [(cI, .int)]) (tq_Q (fun o t => o = .returned none ∧ ∃ (q6 : Nat), va_P (dC, dI) vcl [(h0, .inr (9, [.ref a1, .ref a2, .ref q6, .int 0, .int 0, .int 0, .int 0, .int 0, .int 0, .int 0, .int 0])), (q6, .inl (cI, 4, .inl (fun _ => 0)))] t.heap ∧ va_K (dC, dI) vcl [(cI, .int)] t ∧ va_D (va_A [(h0, .inr (9, [.null, .null, .null, .int 0, .int 0, .int 0, .int 0, .int 0, .int 0, .int 0, .int 0]))] sz) [(h0, .inr (9, [.ref a1, .ref a2, .ref q6, .int 0, .int 0, .int 0, .int 0, .int 0, .int 0, .int 0, .int 0])), (q6, .inl (cI, 4, .inl (fun _ => 0)))]) (va_A [(h0, .inr (9, [.null, .null, .null, .int 0, .int 0, .int 0, .int 0, .int 0, .int 0, .int 0, .int 0]))] sz)) 1 4 (va_A [(h0, .inr (9, [.null, .null, .null, .int 0, .int 0, .int 0, .int 0, .int 0, .int 0, .int 0, .int 0]))] sz) := by
  refine tx_ofW (cc := prog_5_method_1_code) (maxL := 3) (ret := none) (by decide) (tx_isM mw_217) ?_
  intro p e s m args below meth c s₁ B hml hv
  obtain ⟨rfl, hsz, hP, hK, hD0, hst0⟩ := hv
  have hx := B.exec
  have hb := B.bytes
  have hr := B.returns
  have hts := atoms_spec (ws := tw_tbl) B.pre
  have hown : s.vm.findClass "StoryMachine$Instruction" = some m.cls := findClass_of_methodNamed B.named
  have hlocks := B.notSynchronized
  have hin : meth.name = "<init>" := (name_of_methodNamed B.named B.method).1
  subst hsz
  have hD := hD0.self (sz := s.heap.size)
  have hst := fun (H : Heap) (locs : List Loc) (hS : va_S (va_A [(h0, .inr (9, [.null, .null, .null, .int 0, .int 0, .int 0, .int 0, .int 0, .int 0, .int 0, .int 0]))] s.heap.size) s.heap H locs) (U : State) (hU : U.heap = H) (hW : s.WarmedH U.vm) => ts_keep hW (fun q cell h1 h2 => by rw [hU]; exact ts_va hP hS q cell h1 h2) hst0
  generalize hAe : va_A [(h0, .inr (9, [.null, .null, .null, .int 0, .int 0, .int 0, .int 0, .int 0, .int 0, .int 0, .int 0]))] s.heap.size = A at hD hst ⊢
  have hA : ∀ q : Nat, s.heap.size ≤ q → A q := fun q h => by rw [← hAe]; exact Or.inr h
  have hS : va_S A s.heap s.heap [] := va_S.rf
  have hP : va_P (dC, dI) vcl [(h0, .inr (9, [.null, .null, .null, .int 0, .int 0, .int 0, .int 0, .int 0, .int 0, .int 0, .int 0]))] s.heap := hP
  have hl := lv_entry ([.ref h0, .ref a1, .ref a2]) (n := 3) (Nat.le_of_ble_eq_true rfl)
  rw [lg_entry_eq]
  generalize (lg_sl ([.ref h0, .ref a1, .ref a2]) ++ List.replicate (3 - (lg_sl ([.ref h0, .ref a1, .ref a2])).length) Slot.unset).toArray = ls at hl ⊢
  have hl : lv_has ls 3 [(0, .ref h0), (1, .ref a1), (2, .ref a2)] := hl
  refine lv_aload_n hx hb d_In_init_0 rfl (lv_at hl 0 rfl) ?_
  refine W.objInit hx hb hown (hts _ mw_218) (hts _ mw_34) (hts _ mw_35) rfl (by rw [hml]; exact hl.1) rfl d_In_init_1 (Nat.le_of_ble_eq_true rfl) (Nat.le_of_ble_eq_true rfl) ?_
  refine W.eq (g2 := F0 m 4 ls []) rfl ?_
  refine lv_aload_n hx hb d_In_init_4 rfl (lv_at hl 0 rfl) ?_
  refine lv_iconst (v := 4) hx hb d_In_init_5 (by decide) ?_
  refine ta_newI (N' := 4) hx hb (hts _ mw_47) hK 0 rfl hP hD hS hA (by decide) (by decide) (by decide) (Nat.le_of_ble_eq_true rfl) (Nat.le_of_ble_eq_true rfl) d_In_init_6 (fun q6 H hP hD hS => ?_)
  have hP : va_P (dC, dI) vcl [(h0, .inr (9, [.null, .null, .null, .int 0, .int 0, .int 0, .int 0, .int 0, .int 0, .int 0, .int 0])), (q6, .inl (cI, 4, .inl (fun _ => 0)))] H := hP
  have hD : va_D A [(h0, .inr (9, [.null, .null, .null, .int 0, .int 0, .int 0, .int 0, .int 0, .int 0, .int 0, .int 0])), (q6, .inl (cI, 4, .inl (fun _ => 0)))] := hD
  refine va_putF (D := (dC, dI)) (ci := 9) (v := .ref q6) (ty := .array .int) (C := "StoryMachine$Instruction") (T := T_In) (N := 11) hx hb hts in_In t_In tk_In nm_In hown hK hP hD hS 0 rfl rfl 2 (by decide) (hts _ mw_221) (fun _ h9 => h9) rfl hin rfl (by decide +kernel) rfl rfl (Nat.le_of_ble_eq_true rfl) d_In_init_8 (fun H locs hP hD hS => ?_)
  have hP : va_P (dC, dI) vcl [(h0, .inr (9, [.null, .null, .ref q6, .int 0, .int 0, .int 0, .int 0, .int 0, .int 0, .int 0, .int 0])), (q6, .inl (cI, 4, .inl (fun _ => 0)))] H := hP
  have hD : va_D A [(h0, .inr (9, [.null, .null, .ref q6, .int 0, .int 0, .int 0, .int 0, .int 0, .int 0, .int 0, .int 0])), (q6, .inl (cI, 4, .inl (fun _ => 0)))] := hD
  refine lv_aload_n hx hb d_In_init_11 rfl (lv_at hl 0 rfl) ?_
  refine lv_aload_n hx hb d_In_init_12 rfl (lv_at hl 1 rfl) ?_
  refine va_putF (D := (dC, dI)) (ci := 9) (v := .ref a1) (ty := .object "StoryMachine$Memory") (C := "StoryMachine$Instruction") (T := T_In) (N := 11) hx hb hts in_In t_In tk_In nm_In hown hK hP hD hS 0 rfl rfl 0 (by decide) (hts _ mw_219) (fun _ h9 => h9) rfl hin rfl (by decide +kernel) rfl rfl (Nat.le_of_ble_eq_true rfl) d_In_init_13 (fun H locs hP hD hS => ?_)
  have hP : va_P (dC, dI) vcl [(h0, .inr (9, [.ref a1, .null, .ref q6, .int 0, .int 0, .int 0, .int 0, .int 0, .int 0, .int 0, .int 0])), (q6, .inl (cI, 4, .inl (fun _ => 0)))] H := hP
  have hD : va_D A [(h0, .inr (9, [.ref a1, .null, .ref q6, .int 0, .int 0, .int 0, .int 0, .int 0, .int 0, .int 0, .int 0])), (q6, .inl (cI, 4, .inl (fun _ => 0)))] := hD
  refine lv_aload_n hx hb d_In_init_16 rfl (lv_at hl 0 rfl) ?_
  refine lv_aload_n hx hb d_In_init_17 rfl (lv_at hl 2 rfl) ?_
  refine va_putF (D := (dC, dI)) (ci := 9) (v := .ref a2) (ty := .object "StoryMachine$Variables") (C := "StoryMachine$Instruction") (T := T_In) (N := 11) hx hb hts in_In t_In tk_In nm_In hown hK hP hD hS 0 rfl rfl 1 (by decide) (hts _ mw_220) (fun _ h9 => h9) rfl hin rfl (by decide +kernel) rfl rfl (Nat.le_of_ble_eq_true rfl) d_In_init_18 (fun H locs hP hD hS => ?_)
  have hP : va_P (dC, dI) vcl [(h0, .inr (9, [.ref a1, .ref a2, .ref q6, .int 0, .int 0, .int 0, .int 0, .int 0, .int 0, .int 0, .int 0])), (q6, .inl (cI, 4, .inl (fun _ => 0)))] H := hP
  have hD : va_D A [(h0, .inr (9, [.ref a1, .ref a2, .ref q6, .int 0, .int 0, .int 0, .int 0, .int 0, .int 0, .int 0, .int 0])), (q6, .inl (cI, 4, .inl (fun _ => 0)))] := hD
  have hP9 := hP.sub (ws' := [(h0, .inr (9, [.ref a1, .ref a2, .ref q6, .int 0, .int 0, .int 0, .int 0, .int 0, .int 0, .int 0, .int 0])), (q6, .inl (cI, 4, .inl (fun _ => 0)))]) [0, 1] rfl
  have hD9 := hD.sub (ws' := [(h0, .inr (9, [.ref a1, .ref a2, .ref q6, .int 0, .int 0, .int 0, .int 0, .int 0, .int 0, .int 0, .int 0])), (q6, .inl (cI, 4, .inl (fun _ => 0)))]) [0, 1] (by decide) rfl
  refine W.widen (k := 1) (n := 4) (Nat.le_of_ble_eq_true rfl) (Nat.le_of_ble_eq_true rfl) ?_
  exact tx_ret (W.vret hx hb hr (fun t ht hW => ⟨⟨rfl, q6, by rw [ht]; exact hP9, va_K.moved hW.alike hK, hAe ▸ hD9⟩, hS.F ht⟩) (hS.2.2) d_In_init_21)
end
section
/-! Contracts; written by wip/tools/p1.py. -/
set_option maxHeartbeats 4000000 in
set_option maxRecDepth 100000 in
theorem c_As_init (l : Launch) (hfl : l.flags = pinnedFlags ++ [noTraceFlag]) (dC : Nat → ClassId) (dI : Nat → Nat → Nat) (cI : ClassId) (h0 : Nat) (sz : Nat) : tx_Met l ⟨"StoryMachine$Aside", "<init>", "()V"⟩ tw_tbl ({ frames := 2, cells := 9, slots := 778, locals := 60 }) (tq_P (dC, dI) vcl [.ref h0] sz [(h0, .inr (10, [.int 0, .null, .null, .int 0]))] [(cI, .int)]) (tq_Q (fun o t => o = .returned none ∧ ∃ (q5 n9_q8 q16 n20_q7 n20_q15 n20_q23 n20_q31 n20_q39 n20_q48 : Nat), va_P (dC, dI) vcl [(h0, .inr (10, [.int 0, .ref q5, .ref q16, .int 0])), (q5, .inr (1, [.ref n9_q8])), (n9_q8, .inl (cI, 512, .inl (fun _ => 0))), (q16, .inr (3, [.ref n20_q7, .int 0, .int 0, .ref n20_q15, .ref n20_q23, .ref n20_q31, .ref n20_q39, .ref n20_q48])), (n20_q7, .inl (cI, 48, .inl (fun _ => 0))), (n20_q15, .inl (cI, 11, .inl (fun _ => 0))), (n20_q23, .inl (cI, 11, .inl (fun _ => 0))), (n20_q31, .inl (cI, 11, .inl (fun _ => 0))), (n20_q39, .inl (cI, 11, .inl (fun _ => 0))), (n20_q48, .inl (cI, 165, .inl (fun _ => 0)))] t.heap ∧ va_K (dC, dI) vcl [(cI, .int)] t ∧ va_D (va_A [(h0, .inr (10, [.int 0, .null, .null, .int 0]))] sz) [(h0, .inr (10, [.int 0, .ref q5, .ref q16, .int 0])), (q5, .inr (1, [.ref n9_q8])), (n9_q8, .inl (cI, 512, .inl (fun _ => 0))), (q16, .inr (3, [.ref n20_q7, .int 0, .int 0, .ref n20_q15, .ref n20_q23, .ref n20_q31, .ref n20_q39, .ref n20_q48])), (n20_q7, .inl (cI, 48, .inl (fun _ => 0))), (n20_q15, .inl (cI, 11, .inl (fun _ => 0))), (n20_q23, .inl (cI, 11, .inl (fun _ => 0))), (n20_q31, .inl (cI, 11, .inl (fun _ => 0))), (n20_q39, .inl (cI, 11, .inl (fun _ => 0))), (n20_q48, .inl (cI, 165, .inl (fun _ => 0)))]) (va_A [(h0, .inr (10, [.int 0, .null, .null, .int 0]))] sz)) 9 778 (va_A [(h0, .inr (10, [.int 0, .null, .null, .int 0]))] sz) := by
  refine tx_ofW (cc := prog_2_method_1_code) (maxL := 1) (ret := none) (by decide) (tx_isM mw_142) ?_
  intro p e s m args below meth c s₁ B hml hv
  obtain ⟨rfl, hsz, hP, hK, hD0, hst0⟩ := hv
  have hx := B.exec
  have hb := B.bytes
  have hr := B.returns
  have hts := atoms_spec (ws := tw_tbl) B.pre
  have hown : s.vm.findClass "StoryMachine$Aside" = some m.cls := findClass_of_methodNamed B.named
  have hlocks := B.notSynchronized
  have hin : meth.name = "<init>" := (name_of_methodNamed B.named B.method).1
  subst hsz
  have hD := hD0.self (sz := s.heap.size)
  have hst := fun (H : Heap) (locs : List Loc) (hS : va_S (va_A [(h0, .inr (10, [.int 0, .null, .null, .int 0]))] s.heap.size) s.heap H locs) (U : State) (hU : U.heap = H) (hW : s.WarmedH U.vm) => ts_keep hW (fun q cell h1 h2 => by rw [hU]; exact ts_va hP hS q cell h1 h2) hst0
  generalize hAe : va_A [(h0, .inr (10, [.int 0, .null, .null, .int 0]))] s.heap.size = A at hD hst ⊢
  have hA : ∀ q : Nat, s.heap.size ≤ q → A q := fun q h => by rw [← hAe]; exact Or.inr h
  have hS : va_S A s.heap s.heap [] := va_S.rf
  have hP : va_P (dC, dI) vcl [(h0, .inr (10, [.int 0, .null, .null, .int 0]))] s.heap := hP
  have hl := lv_entry ([.ref h0]) (n := 1) (Nat.le_of_ble_eq_true rfl)
  rw [lg_entry_eq]
  generalize (lg_sl ([.ref h0]) ++ List.replicate (1 - (lg_sl ([.ref h0])).length) Slot.unset).toArray = ls at hl ⊢
  have hl : lv_has ls 1 [(0, .ref h0)] := hl
  refine lv_aload_n hx hb d_As_init_0 rfl (lv_at hl 0 rfl) ?_
  refine W.objInit hx hb hown (hts _ mw_143) (hts _ mw_34) (hts _ mw_35) rfl (by rw [hml]; exact hl.1) rfl d_As_init_1 (Nat.le_of_ble_eq_true rfl) (Nat.le_of_ble_eq_true rfl) ?_
  refine W.eq (g2 := F0 m 4 ls []) rfl ?_
  refine lv_aload_n hx hb d_As_init_4 rfl (lv_at hl 0 rfl) ?_
  refine va_new (ci := 1) (fs := [.null]) (C := "StoryMachine$Memory") (T := T_Me) (N := 1) hx hb hts in_Me t_Me tk_Me hown (hts _ mw_144) (hts _ mw_37) (hts _ mw_2) hK hP hD hS hA rfl (fun j hj => ta_dec (f := fun j => defaultValue (t_Me j)) (g := vp_V [.null]) (by decide +kernel) j hj) (Nat.le_of_ble_eq_true rfl) (Nat.le_of_ble_eq_true rfl) d_As_init_5 (fun q5 H hP hD hS => ?_)
  have hP : va_P (dC, dI) vcl [(h0, .inr (10, [.int 0, .null, .null, .int 0])), (q5, .inr (1, [.null]))] H := hP
  have hD : va_D A [(h0, .inr (10, [.int 0, .null, .null, .int 0])), (q5, .inr (1, [.null]))] := hD
  refine lv_dup hx hb d_As_init_8 rfl ?_
  have hPc := hP.sub (ws' := [(q5, .inr (1, [.null]))]) [1] rfl
  have hDc := hD.sub (ws' := [(q5, .inr (1, [.null]))]) [1] (by decide) rfl
  have hFc := va_free (wc := [(q5, .inr (1, [.null]))]) hD hS hA [1] rfl
  refine tx_callK (A1 := va_A [(q5, .inr (1, [.null]))] H.size) (tx_runIN (As := []) (rest := [.ref q5, .ref h0]) ⟨hx, hb, hml, hown, hts⟩ (c_Me_init l hfl dC dI cI q5 H.size) (tx_cn (n := 0) hts rfl rfl ⟨Nat.le_of_ble_eq_true rfl, Nat.le_of_ble_eq_true rfl⟩ (hts _ mw_2) (by decide +kernel) (hts _ mw_145)) (hts _ mw_40) rfl (hts _ mw_39) ⟨tq_blind, fun U hU hW => ⟨rfl, by rw [hU], by rw [hU]; exact hPc, va_K.moved hW.alike hK, hDc.weaken (fun _ _ _ _ => trivial), hst _ _ hS U hU hW⟩⟩ rfl rfl hl.1 rfl (lv_room (Nat.le_of_ble_eq_true rfl)) d_As_init_9 ⟨Nat.le_of_ble_eq_true rfl, Nat.le_of_ble_eq_true rfl⟩) hS (fun q _ h => hFc q h) hFc (fun v t H9 locs ht hWt hpost hz1 hk1 hS => ?_) (fun x t H1 locs ht hWt hpost hz1 hk1 hS => by cases hpost.1)
  obtain ⟨ho, n9_q8, hP1, hK1, hD1⟩ := hpost
  cases ho
  rw [ht] at hP1
  obtain ⟨hP, hD⟩ := va_join (wr := [(h0, .inr (10, [.int 0, .null, .null, .int 0]))]) (w1 := [(q5, .inr (1, [.ref n9_q8])), (n9_q8, .inl (cI, 512, .inl (fun _ => 0)))]) hP hD [1] [0] rfl rfl (by decide) (by decide) hk1 hFc hP1 hD1
  have hP : va_P (dC, dI) vcl [(h0, .inr (10, [.int 0, .null, .null, .int 0])), (q5, .inr (1, [.ref n9_q8])), (n9_q8, .inl (cI, 512, .inl (fun _ => 0)))] H9 := hP
  have hD : va_D A [(h0, .inr (10, [.int 0, .null, .null, .int 0])), (q5, .inr (1, [.ref n9_q8])), (n9_q8, .inl (cI, 512, .inl (fun _ => 0)))] := hD
  refine va_putF (D := (dC, dI)) (ci := 10) (v := .ref q5) (ty := .object "StoryMachine$Memory") (C := "StoryMachine$Aside") (T := T_As) (N := 4) hx hb hts in_As t_As tk_As nm_As hown hK hP hD hS 0 rfl rfl 1 (by decide) (hts _ mw_150) (fun _ h9 => h9) rfl hin rfl (by decide +kernel) rfl rfl (Nat.le_of_ble_eq_true rfl) d_As_init_12 (fun H locs hP hD hS => ?_)
  have hP : va_P (dC, dI) vcl [(h0, .inr (10, [.int 0, .ref q5, .null, .int 0])), (q5, .inr (1, [.ref n9_q8])), (n9_q8, .inl (cI, 512, .inl (fun _ => 0)))] H := hP
  have hD : va_D A [(h0, .inr (10, [.int 0, .ref q5, .null, .int 0])), (q5, .inr (1, [.ref n9_q8])), (n9_q8, .inl (cI, 512, .inl (fun _ => 0)))] := hD
  refine lv_aload_n hx hb d_As_init_15 rfl (lv_at hl 0 rfl) ?_
  refine va_new (ci := 3) (fs := [.null, .int 0, .int 0, .null, .null, .null, .null, .null]) (C := "StoryMachine$Routines") (T := T_Ro) (N := 8) hx hb hts in_Ro t_Ro tk_Ro hown (hts _ mw_146) (hts _ mw_75) (hts _ mw_4) hK hP hD hS hA rfl (fun j hj => ta_dec (f := fun j => defaultValue (t_Ro j)) (g := vp_V [.null, .int 0, .int 0, .null, .null, .null, .null, .null]) (by decide +kernel) j hj) (Nat.le_of_ble_eq_true rfl) (Nat.le_of_ble_eq_true rfl) d_As_init_16 (fun q16 H hP hD hS => ?_)
  have hP : va_P (dC, dI) vcl [(h0, .inr (10, [.int 0, .ref q5, .null, .int 0])), (q5, .inr (1, [.ref n9_q8])), (n9_q8, .inl (cI, 512, .inl (fun _ => 0))), (q16, .inr (3, [.null, .int 0, .int 0, .null, .null, .null, .null, .null]))] H := hP
  have hD : va_D A [(h0, .inr (10, [.int 0, .ref q5, .null, .int 0])), (q5, .inr (1, [.ref n9_q8])), (n9_q8, .inl (cI, 512, .inl (fun _ => 0))), (q16, .inr (3, [.null, .int 0, .int 0, .null, .null, .null, .null, .null]))] := hD
  refine lv_dup hx hb d_As_init_19 rfl ?_
  have hPc := hP.sub (ws' := [(q16, .inr (3, [.null, .int 0, .int 0, .null, .null, .null, .null, .null]))]) [3] rfl
  have hDc := hD.sub (ws' := [(q16, .inr (3, [.null, .int 0, .int 0, .null, .null, .null, .null, .null]))]) [3] (by decide) rfl
  have hFc := va_free (wc := [(q16, .inr (3, [.null, .int 0, .int 0, .null, .null, .null, .null, .null]))]) hD hS hA [3] rfl
  refine tx_callK (A1 := va_A [(q16, .inr (3, [.null, .int 0, .int 0, .null, .null, .null, .null, .null]))] H.size) (tx_runIN (As := []) (rest := [.ref q16, .ref h0]) ⟨hx, hb, hml, hown, hts⟩ (c_Ro_init l hfl dC dI cI q16 H.size) (tx_cn (n := 0) hts rfl rfl ⟨Nat.le_of_ble_eq_true rfl, Nat.le_of_ble_eq_true rfl⟩ (hts _ mw_4) (by decide +kernel) (hts _ mw_147)) (hts _ mw_78) rfl (hts _ mw_77) ⟨tq_blind, fun U hU hW => ⟨rfl, by rw [hU], by rw [hU]; exact hPc, va_K.moved hW.alike hK, hDc.weaken (fun _ _ _ _ => trivial), hst _ _ hS U hU hW⟩⟩ rfl rfl hl.1 rfl (lv_room (Nat.le_of_ble_eq_true rfl)) d_As_init_20 ⟨Nat.le_of_ble_eq_true rfl, Nat.le_of_ble_eq_true rfl⟩) hS (fun q _ h => hFc q h) hFc (fun v t H20 locs ht hWt hpost hz1 hk1 hS => ?_) (fun x t H1 locs ht hWt hpost hz1 hk1 hS => by cases hpost.1)
  obtain ⟨ho, n20_q7, n20_q15, n20_q23, n20_q31, n20_q39, n20_q48, hP1, hK1, hD1⟩ := hpost
  cases ho
  rw [ht] at hP1
  obtain ⟨hP, hD⟩ := va_join (wr := [(h0, .inr (10, [.int 0, .ref q5, .null, .int 0])), (q5, .inr (1, [.ref n9_q8])), (n9_q8, .inl (cI, 512, .inl (fun _ => 0)))]) (w1 := [(q16, .inr (3, [.ref n20_q7, .int 0, .int 0, .ref n20_q15, .ref n20_q23, .ref n20_q31, .ref n20_q39, .ref n20_q48])), (n20_q7, .inl (cI, 48, .inl (fun _ => 0))), (n20_q15, .inl (cI, 11, .inl (fun _ => 0))), (n20_q23, .inl (cI, 11, .inl (fun _ => 0))), (n20_q31, .inl (cI, 11, .inl (fun _ => 0))), (n20_q39, .inl (cI, 11, .inl (fun _ => 0))), (n20_q48, .inl (cI, 165, .inl (fun _ => 0)))]) hP hD [3] [0, 1, 2] rfl rfl (by decide) (by decide) hk1 hFc hP1 hD1
  have hP : va_P (dC, dI) vcl [(h0, .inr (10, [.int 0, .ref q5, .null, .int 0])), (q5, .inr (1, [.ref n9_q8])), (n9_q8, .inl (cI, 512, .inl (fun _ => 0))), (q16, .inr (3, [.ref n20_q7, .int 0, .int 0, .ref n20_q15, .ref n20_q23, .ref n20_q31, .ref n20_q39, .ref n20_q48])), (n20_q7, .inl (cI, 48, .inl (fun _ => 0))), (n20_q15, .inl (cI, 11, .inl (fun _ => 0))), (n20_q23, .inl (cI, 11, .inl (fun _ => 0))), (n20_q31, .inl (cI, 11, .inl (fun _ => 0))), (n20_q39, .inl (cI, 11, .inl (fun _ => 0))), (n20_q48, .inl (cI, 165, .inl (fun _ => 0)))] H20 := hP
  have hD : va_D A [(h0, .inr (10, [.int 0, .ref q5, .null, .int 0])), (q5, .inr (1, [.ref n9_q8])), (n9_q8, .inl (cI, 512, .inl (fun _ => 0))), (q16, .inr (3, [.ref n20_q7, .int 0, .int 0, .ref n20_q15, .ref n20_q23, .ref n20_q31, .ref n20_q39, .ref n20_q48])), (n20_q7, .inl (cI, 48, .inl (fun _ => 0))), (n20_q15, .inl (cI, 11, .inl (fun _ => 0))), (n20_q23, .inl (cI, 11, .inl (fun _ => 0))), (n20_q31, .inl (cI, 11, .inl (fun _ => 0))), (n20_q39, .inl (cI, 11, .inl (fun _ => 0))), (n20_q48, .inl (cI, 165, .inl (fun _ => 0)))] := hD
  refine va_putF (D := (dC, dI)) (ci := 10) (v := .ref q16) (ty := .object "StoryMachine$Routines") (C := "StoryMachine$Aside") (T := T_As) (N := 4) hx hb hts in_As t_As tk_As nm_As hown hK hP hD hS 0 rfl rfl 2 (by decide) (hts _ mw_151) (fun _ h9 => h9) rfl hin rfl (by decide +kernel) rfl rfl (Nat.le_of_ble_eq_true rfl) d_As_init_23 (fun H locs hP hD hS => ?_)
  have hP : va_P (dC, dI) vcl [(h0, .inr (10, [.int 0, .ref q5, .ref q16, .int 0])), (q5, .inr (1, [.ref n9_q8])), (n9_q8, .inl (cI, 512, .inl (fun _ => 0))), (q16, .inr (3, [.ref n20_q7, .int 0, .int 0, .ref n20_q15, .ref n20_q23, .ref n20_q31, .ref n20_q39, .ref n20_q48])), (n20_q7, .inl (cI, 48, .inl (fun _ => 0))), (n20_q15, .inl (cI, 11, .inl (fun _ => 0))), (n20_q23, .inl (cI, 11, .inl (fun _ => 0))), (n20_q31, .inl (cI, 11, .inl (fun _ => 0))), (n20_q39, .inl (cI, 11, .inl (fun _ => 0))), (n20_q48, .inl (cI, 165, .inl (fun _ => 0)))] H := hP
  have hD : va_D A [(h0, .inr (10, [.int 0, .ref q5, .ref q16, .int 0])), (q5, .inr (1, [.ref n9_q8])), (n9_q8, .inl (cI, 512, .inl (fun _ => 0))), (q16, .inr (3, [.ref n20_q7, .int 0, .int 0, .ref n20_q15, .ref n20_q23, .ref n20_q31, .ref n20_q39, .ref n20_q48])), (n20_q7, .inl (cI, 48, .inl (fun _ => 0))), (n20_q15, .inl (cI, 11, .inl (fun _ => 0))), (n20_q23, .inl (cI, 11, .inl (fun _ => 0))), (n20_q31, .inl (cI, 11, .inl (fun _ => 0))), (n20_q39, .inl (cI, 11, .inl (fun _ => 0))), (n20_q48, .inl (cI, 165, .inl (fun _ => 0)))] := hD
  have hP9 := hP.sub (ws' := [(h0, .inr (10, [.int 0, .ref q5, .ref q16, .int 0])), (q5, .inr (1, [.ref n9_q8])), (n9_q8, .inl (cI, 512, .inl (fun _ => 0))), (q16, .inr (3, [.ref n20_q7, .int 0, .int 0, .ref n20_q15, .ref n20_q23, .ref n20_q31, .ref n20_q39, .ref n20_q48])), (n20_q7, .inl (cI, 48, .inl (fun _ => 0))), (n20_q15, .inl (cI, 11, .inl (fun _ => 0))), (n20_q23, .inl (cI, 11, .inl (fun _ => 0))), (n20_q31, .inl (cI, 11, .inl (fun _ => 0))), (n20_q39, .inl (cI, 11, .inl (fun _ => 0))), (n20_q48, .inl (cI, 165, .inl (fun _ => 0)))]) [0, 1, 2, 3, 4, 5, 6, 7, 8, 9] rfl
  have hD9 := hD.sub (ws' := [(h0, .inr (10, [.int 0, .ref q5, .ref q16, .int 0])), (q5, .inr (1, [.ref n9_q8])), (n9_q8, .inl (cI, 512, .inl (fun _ => 0))), (q16, .inr (3, [.ref n20_q7, .int 0, .int 0, .ref n20_q15, .ref n20_q23, .ref n20_q31, .ref n20_q39, .ref n20_q48])), (n20_q7, .inl (cI, 48, .inl (fun _ => 0))), (n20_q15, .inl (cI, 11, .inl (fun _ => 0))), (n20_q23, .inl (cI, 11, .inl (fun _ => 0))), (n20_q31, .inl (cI, 11, .inl (fun _ => 0))), (n20_q39, .inl (cI, 11, .inl (fun _ => 0))), (n20_q48, .inl (cI, 165, .inl (fun _ => 0)))]) [0, 1, 2, 3, 4, 5, 6, 7, 8, 9] (by decide) rfl
  refine W.widen (k := 9) (n := 778) (Nat.le_of_ble_eq_true rfl) (Nat.le_of_ble_eq_true rfl) ?_
  exact tx_ret (W.vret hx hb hr (fun t ht hW => ⟨⟨rfl, q5, n9_q8, q16, n20_q7, n20_q15, n20_q23, n20_q31, n20_q39, n20_q48, by rw [ht]; exact hP9, va_K.moved hW.alike hK, hAe ▸ hD9⟩, hS.F ht⟩) (hS.2.2) d_As_init_26)
end
section
/-! Contracts; written by wip/tools/p1.py. -/
set_option maxHeartbeats 4000000 in
set_option maxRecDepth 100000 in
theorem c_En_init (l : Launch) (hfl : l.flags = pinnedFlags ++ [noTraceFlag]) (dC : Nat → ClassId) (dI : Nat → Nat → Nat) (cI : ClassId) (h0 a1 a2 a3 a4 : Nat) (sz : Nat) : tx_Met l ⟨"StoryMachine$Engine", "<init>", "(LStoryMachine$Memory;LStoryMachine$Line;LStoryMachine$Routines;LStoryMachine$Printer;)V"⟩ tw_tbl ({ frames := 3, cells := 19, slots := 875, locals := 85 }) (tq_P (dC, dI) vcl [.ref h0, .ref a1, .ref a2, .ref a3, .ref a4] sz [(h0, .inr (5, [.null, .null, .null, .null, .null, .null, .null, .null, .null, .null, .int 0, .int 0, .int 0, .int 0, .int 0]))] [(cI, .int)]) (tq_Q (fun o t => o = .returned none ∧ ∃ (q5 n9_q5 n9_n9_q8 n9_q16 n9_n20_q7 n9_n20_q15 n9_n20_q23 n9_n20_q31 n9_n20_q39 n9_n20_q48 q18 q28 q67 q79 n84_q7 n84_q15 n84_q23 q91 n98_q6 : Nat), va_P (dC, dI) vcl [(h0, .inr (5, [.ref a1, .ref a2, .ref a3, .ref a4, .ref q28, .ref q67, .ref q79, .ref q91, .ref q5, .ref q18, .int 0, .int (-1), .int 0, .int 0, .int 0])), (q5, .inr (10, [.int 0, .ref n9_q5, .ref n9_q16, .int 0])), (n9_q5, .inr (1, [.ref n9_n9_q8])), (n9_n9_q8, .inl (cI, 512, .inl (fun _ => 0))), (n9_q16, .inr (3, [.ref n9_n20_q7, .int 0, .int 0, .ref n9_n20_q15, .ref n9_n20_q23, .ref n9_n20_q31, .ref n9_n20_q39, .ref n9_n20_q48])), (n9_n20_q7, .inl (cI, 48, .inl (fun _ => 0))), (n9_n20_q15, .inl (cI, 11, .inl (fun _ => 0))), (n9_n20_q23, .inl (cI, 11, .inl (fun _ => 0))), (n9_n20_q31, .inl (cI, 11, .inl (fun _ => 0))), (n9_n20_q39, .inl (cI, 11, .inl (fun _ => 0))), (n9_n20_q48, .inl (cI, 165, .inl (fun _ => 0))), (q18, .inl (cI, 15, .inl (fun _ => 0))), (q28, .inr (6, [.ref a1, .ref a3])), (q67, .inr (7, [.ref a1])), (q79, .inr (8, [.ref a1, .ref n84_q7, .ref n84_q15, .int 0, .ref n84_q23, .int 0])), (n84_q7, .inl (cI, 24, .inl (fun _ => 0))), (n84_q15, .inl (cI, 24, .inl (fun _ => 0))), (n84_q23, .inl (cI, 6, .inl (fun _ => 0))), (q91, .inr (9, [.ref a1, .ref q28, .ref n98_q6, .int 0, .int 0, .int 0, .int 0, .int 0, .int 0, .int 0, .int 0])), (n98_q6, .inl (cI, 4, .inl (fun _ => 0)))] t.heap ∧ va_K (dC, dI) vcl [(cI, .int)] t ∧ va_D (va_A [(h0, .inr (5, [.null, .null, .null, .null, .null, .null, .null, .null, .null, .null, .int 0, .int 0, .int 0, .int 0, .int 0]))] sz) [(h0, .inr (5, [.ref a1, .ref a2, .ref a3, .ref a4, .ref q28, .ref q67, .ref q79, .ref q91, .ref q5, .ref q18, .int 0, .int (-1), .int 0, .int 0, .int 0])), (q5, .inr (10, [.int 0, .ref n9_q5, .ref n9_q16, .int 0])), (n9_q5, .inr (1, [.ref n9_n9_q8])), (n9_n9_q8, .inl (cI, 512, .inl (fun _ => 0))), (n9_q16, .inr (3, [.ref n9_n20_q7, .int 0, .int 0, .ref n9_n20_q15, .ref n9_n20_q23, .ref n9_n20_q31, .ref n9_n20_q39, .ref n9_n20_q48])), (n9_n20_q7, .inl (cI, 48, .inl (fun _ => 0))), (n9_n20_q15, .inl (cI, 11, .inl (fun _ => 0))), (n9_n20_q23, .inl (cI, 11, .inl (fun _ => 0))), (n9_n20_q31, .inl (cI, 11, .inl (fun _ => 0))), (n9_n20_q39, .inl (cI, 11, .inl (fun _ => 0))), (n9_n20_q48, .inl (cI, 165, .inl (fun _ => 0))), (q18, .inl (cI, 15, .inl (fun _ => 0))), (q28, .inr (6, [.ref a1, .ref a3])), (q67, .inr (7, [.ref a1])), (q79, .inr (8, [.ref a1, .ref n84_q7, .ref n84_q15, .int 0, .ref n84_q23, .int 0])), (n84_q7, .inl (cI, 24, .inl (fun _ => 0))), (n84_q15, .inl (cI, 24, .inl (fun _ => 0))), (n84_q23, .inl (cI, 6, .inl (fun _ => 0))), (q91, .inr (9, [.ref a1, .ref q28, .ref n98_q6, .int 0, .int 0, .int 0, .int 0, .int 0, .int 0, .int 0, .int 0])), (n98_q6, .inl (cI, 4, .inl (fun _ => 0)))]) (va_A [(h0, .inr (5, [.null, .null, .null, .null, .null, .null, .null, .null, .null, .null, .int 0, .int 0, .int 0, .int 0, .int 0]))] sz)) 19 875 (va_A [(h0, .inr (5, [.null, .null, .null, .null, .null, .null, .null, .null, .null, .null, .int 0, .int 0, .int 0, .int 0, .int 0]))] sz) := by
  refine tx_ofW (cc := prog_4_method_1_code) (maxL := 6) (ret := none) (by decide) (tx_isM mw_136) ?_
  intro p e s m args below meth c s₁ B hml hv
  obtain ⟨rfl, hsz, hP, hK, hD0, hst0⟩ := hv
  have hx := B.exec
  have hb := B.bytes
  have hr := B.returns
  have hts := atoms_spec (ws := tw_tbl) B.pre
  have hown : s.vm.findClass "StoryMachine$Engine" = some m.cls := findClass_of_methodNamed B.named
  have hlocks := B.notSynchronized
  have hin : meth.name = "<init>" := (name_of_methodNamed B.named B.method).1
  subst hsz
  have hD := hD0.self (sz := s.heap.size)
  have hst := fun (H : Heap) (locs : List Loc) (hS : va_S (va_A [(h0, .inr (5, [.null, .null, .null, .null, .null, .null, .null, .null, .null, .null, .int 0, .int 0, .int 0, .int 0, .int 0]))] s.heap.size) s.heap H locs) (U : State) (hU : U.heap = H) (hW : s.WarmedH U.vm) => ts_keep hW (fun q cell h1 h2 => by rw [hU]; exact ts_va hP hS q cell h1 h2) hst0
  generalize hAe : va_A [(h0, .inr (5, [.null, .null, .null, .null, .null, .null, .null, .null, .null, .null, .int 0, .int 0, .int 0, .int 0, .int 0]))] s.heap.size = A at hD hst ⊢
  have hA : ∀ q : Nat, s.heap.size ≤ q → A q := fun q h => by rw [← hAe]; exact Or.inr h
  have hS : va_S A s.heap s.heap [] := va_S.rf
  have hP : va_P (dC, dI) vcl [(h0, .inr (5, [.null, .null, .null, .null, .null, .null, .null, .null, .null, .null, .int 0, .int 0, .int 0, .int 0, .int 0]))] s.heap := hP
  have hl := lv_entry ([.ref h0, .ref a1, .ref a2, .ref a3, .ref a4]) (n := 6) (Nat.le_of_ble_eq_true rfl)
  rw [lg_entry_eq]
  generalize (lg_sl ([.ref h0, .ref a1, .ref a2, .ref a3, .ref a4]) ++ List.replicate (6 - (lg_sl ([.ref h0, .ref a1, .ref a2, .ref a3, .ref a4])).length) Slot.unset).toArray = ls at hl ⊢
  have hl : lv_has ls 6 [(0, .ref h0), (1, .ref a1), (2, .ref a2), (3, .ref a3), (4, .ref a4)] := hl
  refine lv_aload_n hx hb d_En_init_0 rfl (lv_at hl 0 rfl) ?_
  refine W.objInit hx hb hown (hts _ mw_137) (hts _ mw_34) (hts _ mw_35) rfl (by rw [hml]; exact hl.1) rfl d_En_init_1 (Nat.le_of_ble_eq_true rfl) (Nat.le_of_ble_eq_true rfl) ?_
  refine W.eq (g2 := F0 m 4 ls []) rfl ?_
  refine lv_aload_n hx hb d_En_init_4 rfl (lv_at hl 0 rfl) ?_
  refine va_new (ci := 10) (fs := [.int 0, .null, .null, .int 0]) (C := "StoryMachine$Aside") (T := T_As) (N := 4) hx hb hts in_As t_As tk_As hown (hts _ mw_138) (hts _ mw_139) (hts _ mw_7) hK hP hD hS hA rfl (fun j hj => ta_dec (f := fun j => defaultValue (t_As j)) (g := vp_V [.int 0, .null, .null, .int 0]) (by decide +kernel) j hj) (Nat.le_of_ble_eq_true rfl) (Nat.le_of_ble_eq_true rfl) d_En_init_5 (fun q5 H hP hD hS => ?_)
  have hP : va_P (dC, dI) vcl [(h0, .inr (5, [.null, .null, .null, .null, .null, .null, .null, .null, .null, .null, .int 0, .int 0, .int 0, .int 0, .int 0])), (q5, .inr (10, [.int 0, .null, .null, .int 0]))] H := hP
  have hD : va_D A [(h0, .inr (5, [.null, .null, .null, .null, .null, .null, .null, .null, .null, .null, .int 0, .int 0, .int 0, .int 0, .int 0])), (q5, .inr (10, [.int 0, .null, .null, .int 0]))] := hD
  refine lv_dup hx hb d_En_init_8 rfl ?_
  have hPc := hP.sub (ws' := [(q5, .inr (10, [.int 0, .null, .null, .int 0]))]) [1] rfl
  have hDc := hD.sub (ws' := [(q5, .inr (10, [.int 0, .null, .null, .int 0]))]) [1] (by decide) rfl
  have hFc := va_free (wc := [(q5, .inr (10, [.int 0, .null, .null, .int 0]))]) hD hS hA [1] rfl
  refine tx_callK (A1 := va_A [(q5, .inr (10, [.int 0, .null, .null, .int 0]))] H.size) (tx_runIN (As := []) (rest := [.ref q5, .ref h0]) ⟨hx, hb, hml, hown, hts⟩ (c_As_init l hfl dC dI cI q5 H.size) (tx_cn (n := 0) hts rfl rfl ⟨Nat.le_of_ble_eq_true rfl, Nat.le_of_ble_eq_true rfl⟩ (hts _ mw_7) (by decide +kernel) (hts _ mw_140)) (hts _ mw_142) rfl (hts _ mw_141) ⟨tq_blind, fun U hU hW => ⟨rfl, by rw [hU], by rw [hU]; exact hPc, va_K.moved hW.alike hK, hDc.weaken (fun _ _ _ _ => trivial), hst _ _ hS U hU hW⟩⟩ rfl rfl hl.1 rfl (lv_room (Nat.le_of_ble_eq_true rfl)) d_En_init_9 ⟨Nat.le_of_ble_eq_true rfl, Nat.le_of_ble_eq_true rfl⟩) hS (fun q _ h => hFc q h) hFc (fun v t H9 locs ht hWt hpost hz1 hk1 hS => ?_) (fun x t H1 locs ht hWt hpost hz1 hk1 hS => by cases hpost.1)
  obtain ⟨ho, n9_q5, n9_n9_q8, n9_q16, n9_n20_q7, n9_n20_q15, n9_n20_q23, n9_n20_q31, n9_n20_q39, n9_n20_q48, hP1, hK1, hD1⟩ := hpost
  cases ho
  rw [ht] at hP1
  obtain ⟨hP, hD⟩ := va_join (wr := [(h0, .inr (5, [.null, .null, .null, .null, .null, .null, .null, .null, .null, .null, .int 0, .int 0, .int 0, .int 0, .int 0]))]) (w1 := [(q5, .inr (10, [.int 0, .ref n9_q5, .ref n9_q16, .int 0])), (n9_q5, .inr (1, [.ref n9_n9_q8])), (n9_n9_q8, .inl (cI, 512, .inl (fun _ => 0))), (n9_q16, .inr (3, [.ref n9_n20_q7, .int 0, .int 0, .ref n9_n20_q15, .ref n9_n20_q23, .ref n9_n20_q31, .ref n9_n20_q39, .ref n9_n20_q48])), (n9_n20_q7, .inl (cI, 48, .inl (fun _ => 0))), (n9_n20_q15, .inl (cI, 11, .inl (fun _ => 0))), (n9_n20_q23, .inl (cI, 11, .inl (fun _ => 0))), (n9_n20_q31, .inl (cI, 11, .inl (fun _ => 0))), (n9_n20_q39, .inl (cI, 11, .inl (fun _ => 0))), (n9_n20_q48, .inl (cI, 165, .inl (fun _ => 0)))]) hP hD [1] [0] rfl rfl (by decide) (by decide) hk1 hFc hP1 hD1
  have hP : va_P (dC, dI) vcl [(h0, .inr (5, [.null, .null, .null, .null, .null, .null, .null, .null, .null, .null, .int 0, .int 0, .int 0, .int 0, .int 0])), (q5, .inr (10, [.int 0, .ref n9_q5, .ref n9_q16, .int 0])), (n9_q5, .inr (1, [.ref n9_n9_q8])), (n9_n9_q8, .inl (cI, 512, .inl (fun _ => 0))), (n9_q16, .inr (3, [.ref n9_n20_q7, .int 0, .int 0, .ref n9_n20_q15, .ref n9_n20_q23, .ref n9_n20_q31, .ref n9_n20_q39, .ref n9_n20_q48])), (n9_n20_q7, .inl (cI, 48, .inl (fun _ => 0))), (n9_n20_q15, .inl (cI, 11, .inl (fun _ => 0))), (n9_n20_q23, .inl (cI, 11, .inl (fun _ => 0))), (n9_n20_q31, .inl (cI, 11, .inl (fun _ => 0))), (n9_n20_q39, .inl (cI, 11, .inl (fun _ => 0))), (n9_n20_q48, .inl (cI, 165, .inl (fun _ => 0)))] H9 := hP
  have hD : va_D A [(h0, .inr (5, [.null, .null, .null, .null, .null, .null, .null, .null, .null, .null, .int 0, .int 0, .int 0, .int 0, .int 0])), (q5, .inr (10, [.int 0, .ref n9_q5, .ref n9_q16, .int 0])), (n9_q5, .inr (1, [.ref n9_n9_q8])), (n9_n9_q8, .inl (cI, 512, .inl (fun _ => 0))), (n9_q16, .inr (3, [.ref n9_n20_q7, .int 0, .int 0, .ref n9_n20_q15, .ref n9_n20_q23, .ref n9_n20_q31, .ref n9_n20_q39, .ref n9_n20_q48])), (n9_n20_q7, .inl (cI, 48, .inl (fun _ => 0))), (n9_n20_q15, .inl (cI, 11, .inl (fun _ => 0))), (n9_n20_q23, .inl (cI, 11, .inl (fun _ => 0))), (n9_n20_q31, .inl (cI, 11, .inl (fun _ => 0))), (n9_n20_q39, .inl (cI, 11, .inl (fun _ => 0))), (n9_n20_q48, .inl (cI, 165, .inl (fun _ => 0)))] := hD
  refine va_putF (D := (dC, dI)) (ci := 5) (v := .ref q5) (ty := .object "StoryMachine$Aside") (C := "StoryMachine$Engine") (T := T_En) (N := 15) hx hb hts in_En t_En tk_En nm_En hown hK hP hD hS 0 rfl rfl 8 (by decide) (hts _ mw_269) (fun _ h9 => h9) rfl hin rfl (by decide +kernel) rfl rfl (Nat.le_of_ble_eq_true rfl) d_En_init_12 (fun H locs hP hD hS => ?_)
  have hP : va_P (dC, dI) vcl [(h0, .inr (5, [.null, .null, .null, .null, .null, .null, .null, .null, .ref q5, .null, .int 0, .int 0, .int 0, .int 0, .int 0])), (q5, .inr (10, [.int 0, .ref n9_q5, .ref n9_q16, .int 0])), (n9_q5, .inr (1, [.ref n9_n9_q8])), (n9_n9_q8, .inl (cI, 512, .inl (fun _ => 0))), (n9_q16, .inr (3, [.ref n9_n20_q7, .int 0, .int 0, .ref n9_n20_q15, .ref n9_n20_q23, .ref n9_n20_q31, .ref n9_n20_q39, .ref n9_n20_q48])), (n9_n20_q7, .inl (cI, 48, .inl (fun _ => 0))), (n9_n20_q15, .inl (cI, 11, .inl (fun _ => 0))), (n9_n20_q23, .inl (cI, 11, .inl (fun _ => 0))), (n9_n20_q31, .inl (cI, 11, .inl (fun _ => 0))), (n9_n20_q39, .inl (cI, 11, .inl (fun _ => 0))), (n9_n20_q48, .inl (cI, 165, .inl (fun _ => 0)))] H := hP
  have hD : va_D A [(h0, .inr (5, [.null, .null, .null, .null, .null, .null, .null, .null, .ref q5, .null, .int 0, .int 0, .int 0, .int 0, .int 0])), (q5, .inr (10, [.int 0, .ref n9_q5, .ref n9_q16, .int 0])), (n9_q5, .inr (1, [.ref n9_n9_q8])), (n9_n9_q8, .inl (cI, 512, .inl (fun _ => 0))), (n9_q16, .inr (3, [.ref n9_n20_q7, .int 0, .int 0, .ref n9_n20_q15, .ref n9_n20_q23, .ref n9_n20_q31, .ref n9_n20_q39, .ref n9_n20_q48])), (n9_n20_q7, .inl (cI, 48, .inl (fun _ => 0))), (n9_n20_q15, .inl (cI, 11, .inl (fun _ => 0))), (n9_n20_q23, .inl (cI, 11, .inl (fun _ => 0))), (n9_n20_q31, .inl (cI, 11, .inl (fun _ => 0))), (n9_n20_q39, .inl (cI, 11, .inl (fun _ => 0))), (n9_n20_q48, .inl (cI, 165, .inl (fun _ => 0)))] := hD
  refine lv_aload_n hx hb d_En_init_15 rfl (lv_at hl 0 rfl) ?_
  refine lv_bipush (v := 15) hx hb d_En_init_16 (by decide) ?_
  refine ta_newI (N' := 15) hx hb (hts _ mw_47) hK 0 rfl hP hD hS hA (by decide) (by decide) (by decide) (Nat.le_of_ble_eq_true rfl) (Nat.le_of_ble_eq_true rfl) d_En_init_18 (fun q18 H hP hD hS => ?_)
  have hP : va_P (dC, dI) vcl [(h0, .inr (5, [.null, .null, .null, .null, .null, .null, .null, .null, .ref q5, .null, .int 0, .int 0, .int 0, .int 0, .int 0])), (q5, .inr (10, [.int 0, .ref n9_q5, .ref n9_q16, .int 0])), (n9_q5, .inr (1, [.ref n9_n9_q8])), (n9_n9_q8, .inl (cI, 512, .inl (fun _ => 0))), (n9_q16, .inr (3, [.ref n9_n20_q7, .int 0, .int 0, .ref n9_n20_q15, .ref n9_n20_q23, .ref n9_n20_q31, .ref n9_n20_q39, .ref n9_n20_q48])), (n9_n20_q7, .inl (cI, 48, .inl (fun _ => 0))), (n9_n20_q15, .inl (cI, 11, .inl (fun _ => 0))), (n9_n20_q23, .inl (cI, 11, .inl (fun _ => 0))), (n9_n20_q31, .inl (cI, 11, .inl (fun _ => 0))), (n9_n20_q39, .inl (cI, 11, .inl (fun _ => 0))), (n9_n20_q48, .inl (cI, 165, .inl (fun _ => 0))), (q18, .inl (cI, 15, .inl (fun _ => 0)))] H := hP
  have hD : va_D A [(h0, .inr (5, [.null, .null, .null, .null, .null, .null, .null, .null, .ref q5, .null, .int 0, .int 0, .int 0, .int 0, .int 0])), (q5, .inr (10, [.int 0, .ref n9_q5, .ref n9_q16, .int 0])), (n9_q5, .inr (1, [.ref n9_n9_q8])), (n9_n9_q8, .inl (cI, 512, .inl (fun _ => 0))), (n9_q16, .inr (3, [.ref n9_n20_q7, .int 0, .int 0, .ref n9_n20_q15, .ref n9_n20_q23, .ref n9_n20_q31, .ref n9_n20_q39, .ref n9_n20_q48])), (n9_n20_q7, .inl (cI, 48, .inl (fun _ => 0))), (n9_n20_q15, .inl (cI, 11, .inl (fun _ => 0))), (n9_n20_q23, .inl (cI, 11, .inl (fun _ => 0))), (n9_n20_q31, .inl (cI, 11, .inl (fun _ => 0))), (n9_n20_q39, .inl (cI, 11, .inl (fun _ => 0))), (n9_n20_q48, .inl (cI, 165, .inl (fun _ => 0))), (q18, .inl (cI, 15, .inl (fun _ => 0)))] := hD
  refine va_putF (D := (dC, dI)) (ci := 5) (v := .ref q18) (ty := .array .int) (C := "StoryMachine$Engine") (T := T_En) (N := 15) hx hb hts in_En t_En tk_En nm_En hown hK hP hD hS 0 rfl rfl 9 (by decide) (hts _ mw_270) (fun _ h9 => h9) rfl hin rfl (by decide +kernel) rfl rfl (Nat.le_of_ble_eq_true rfl) d_En_init_20 (fun H locs hP hD hS => ?_)
  have hP : va_P (dC, dI) vcl [(h0, .inr (5, [.null, .null, .null, .null, .null, .null, .null, .null, .ref q5, .ref q18, .int 0, .int 0, .int 0, .int 0, .int 0])), (q5, .inr (10, [.int 0, .ref n9_q5, .ref n9_q16, .int 0])), (n9_q5, .inr (1, [.ref n9_n9_q8])), (n9_n9_q8, .inl (cI, 512, .inl (fun _ => 0))), (n9_q16, .inr (3, [.ref n9_n20_q7, .int 0, .int 0, .ref n9_n20_q15, .ref n9_n20_q23, .ref n9_n20_q31, .ref n9_n20_q39, .ref n9_n20_q48])), (n9_n20_q7, .inl (cI, 48, .inl (fun _ => 0))), (n9_n20_q15, .inl (cI, 11, .inl (fun _ => 0))), (n9_n20_q23, .inl (cI, 11, .inl (fun _ => 0))), (n9_n20_q31, .inl (cI, 11, .inl (fun _ => 0))), (n9_n20_q39, .inl (cI, 11, .inl (fun _ => 0))), (n9_n20_q48, .inl (cI, 165, .inl (fun _ => 0))), (q18, .inl (cI, 15, .inl (fun _ => 0)))] H := hP
  have hD : va_D A [(h0, .inr (5, [.null, .null, .null, .null, .null, .null, .null, .null, .ref q5, .ref q18, .int 0, .int 0, .int 0, .int 0, .int 0])), (q5, .inr (10, [.int 0, .ref n9_q5, .ref n9_q16, .int 0])), (n9_q5, .inr (1, [.ref n9_n9_q8])), (n9_n9_q8, .inl (cI, 512, .inl (fun _ => 0))), (n9_q16, .inr (3, [.ref n9_n20_q7, .int 0, .int 0, .ref n9_n20_q15, .ref n9_n20_q23, .ref n9_n20_q31, .ref n9_n20_q39, .ref n9_n20_q48])), (n9_n20_q7, .inl (cI, 48, .inl (fun _ => 0))), (n9_n20_q15, .inl (cI, 11, .inl (fun _ => 0))), (n9_n20_q23, .inl (cI, 11, .inl (fun _ => 0))), (n9_n20_q31, .inl (cI, 11, .inl (fun _ => 0))), (n9_n20_q39, .inl (cI, 11, .inl (fun _ => 0))), (n9_n20_q48, .inl (cI, 165, .inl (fun _ => 0))), (q18, .inl (cI, 15, .inl (fun _ => 0)))] := hD
  refine lv_aload_n hx hb d_En_init_23 rfl (lv_at hl 0 rfl) ?_
  refine lv_iconst (v := (-1)) hx hb d_En_init_24 (by decide) ?_
  refine va_put (D := (dC, dI)) (ci := 5) (v := .int (-1)) (ty := .int) (C := "StoryMachine$Engine") (T := T_En) (N := 15) hx hb hts in_En t_En tk_En nm_En hown hK hP hD hS 0 rfl rfl 11 (by decide) (hts _ mw_273) (fun _ h9 => h9) rfl (by decide +kernel) rfl rfl (Nat.le_of_ble_eq_true rfl) d_En_init_25 (fun H locs hP hD hS => ?_)
  have hP : va_P (dC, dI) vcl [(h0, .inr (5, [.null, .null, .null, .null, .null, .null, .null, .null, .ref q5, .ref q18, .int 0, .int (-1), .int 0, .int 0, .int 0])), (q5, .inr (10, [.int 0, .ref n9_q5, .ref n9_q16, .int 0])), (n9_q5, .inr (1, [.ref n9_n9_q8])), (n9_n9_q8, .inl (cI, 512, .inl (fun _ => 0))), (n9_q16, .inr (3, [.ref n9_n20_q7, .int 0, .int 0, .ref n9_n20_q15, .ref n9_n20_q23, .ref n9_n20_q31, .ref n9_n20_q39, .ref n9_n20_q48])), (n9_n20_q7, .inl (cI, 48, .inl (fun _ => 0))), (n9_n20_q15, .inl (cI, 11, .inl (fun _ => 0))), (n9_n20_q23, .inl (cI, 11, .inl (fun _ => 0))), (n9_n20_q31, .inl (cI, 11, .inl (fun _ => 0))), (n9_n20_q39, .inl (cI, 11, .inl (fun _ => 0))), (n9_n20_q48, .inl (cI, 165, .inl (fun _ => 0))), (q18, .inl (cI, 15, .inl (fun _ => 0)))] H := hP
  have hD : va_D A [(h0, .inr (5, [.null, .null, .null, .null, .null, .null, .null, .null, .ref q5, .ref q18, .int 0, .int (-1), .int 0, .int 0, .int 0])), (q5, .inr (10, [.int 0, .ref n9_q5, .ref n9_q16, .int 0])), (n9_q5, .inr (1, [.ref n9_n9_q8])), (n9_n9_q8, .inl (cI, 512, .inl (fun _ => 0))), (n9_q16, .inr (3, [.ref n9_n20_q7, .int 0, .int 0, .ref n9_n20_q15, .ref n9_n20_q23, .ref n9_n20_q31, .ref n9_n20_q39, .ref n9_n20_q48])), (n9_n20_q7, .inl (cI, 48, .inl (fun _ => 0))), (n9_n20_q15, .inl (cI, 11, .inl (fun _ => 0))), (n9_n20_q23, .inl (cI, 11, .inl (fun _ => 0))), (n9_n20_q31, .inl (cI, 11, .inl (fun _ => 0))), (n9_n20_q39, .inl (cI, 11, .inl (fun _ => 0))), (n9_n20_q48, .inl (cI, 165, .inl (fun _ => 0))), (q18, .inl (cI, 15, .inl (fun _ => 0)))] := hD
  refine va_new (ci := 6) (fs := [.null, .null]) (C := "StoryMachine$Variables") (T := T_Va) (N := 2) hx hb hts in_Va t_Va tk_Va hown (hts _ mw_162) (hts _ mw_163) (hts _ mw_8) hK hP hD hS hA rfl (fun j hj => ta_dec (f := fun j => defaultValue (t_Va j)) (g := vp_V [.null, .null]) (by decide +kernel) j hj) (Nat.le_of_ble_eq_true rfl) (Nat.le_of_ble_eq_true rfl) d_En_init_28 (fun q28 H hP hD hS => ?_)
  have hP : va_P (dC, dI) vcl [(h0, .inr (5, [.null, .null, .null, .null, .null, .null, .null, .null, .ref q5, .ref q18, .int 0, .int (-1), .int 0, .int 0, .int 0])), (q5, .inr (10, [.int 0, .ref n9_q5, .ref n9_q16, .int 0])), (n9_q5, .inr (1, [.ref n9_n9_q8])), (n9_n9_q8, .inl (cI, 512, .inl (fun _ => 0))), (n9_q16, .inr (3, [.ref n9_n20_q7, .int 0, .int 0, .ref n9_n20_q15, .ref n9_n20_q23, .ref n9_n20_q31, .ref n9_n20_q39, .ref n9_n20_q48])), (n9_n20_q7, .inl (cI, 48, .inl (fun _ => 0))), (n9_n20_q15, .inl (cI, 11, .inl (fun _ => 0))), (n9_n20_q23, .inl (cI, 11, .inl (fun _ => 0))), (n9_n20_q31, .inl (cI, 11, .inl (fun _ => 0))), (n9_n20_q39, .inl (cI, 11, .inl (fun _ => 0))), (n9_n20_q48, .inl (cI, 165, .inl (fun _ => 0))), (q18, .inl (cI, 15, .inl (fun _ => 0))), (q28, .inr (6, [.null, .null]))] H := hP
  have hD : va_D A [(h0, .inr (5, [.null, .null, .null, .null, .null, .null, .null, .null, .ref q5, .ref q18, .int 0, .int (-1), .int 0, .int 0, .int 0])), (q5, .inr (10, [.int 0, .ref n9_q5, .ref n9_q16, .int 0])), (n9_q5, .inr (1, [.ref n9_n9_q8])), (n9_n9_q8, .inl (cI, 512, .inl (fun _ => 0))), (n9_q16, .inr (3, [.ref n9_n20_q7, .int 0, .int 0, .ref n9_n20_q15, .ref n9_n20_q23, .ref n9_n20_q31, .ref n9_n20_q39, .ref n9_n20_q48])), (n9_n20_q7, .inl (cI, 48, .inl (fun _ => 0))), (n9_n20_q15, .inl (cI, 11, .inl (fun _ => 0))), (n9_n20_q23, .inl (cI, 11, .inl (fun _ => 0))), (n9_n20_q31, .inl (cI, 11, .inl (fun _ => 0))), (n9_n20_q39, .inl (cI, 11, .inl (fun _ => 0))), (n9_n20_q48, .inl (cI, 165, .inl (fun _ => 0))), (q18, .inl (cI, 15, .inl (fun _ => 0))), (q28, .inr (6, [.null, .null]))] := hD
  refine lv_dup hx hb d_En_init_31 rfl ?_
  refine lv_aload_n hx hb d_En_init_32 rfl (lv_at hl 1 rfl) ?_
  refine lv_aload_n hx hb d_En_init_33 rfl (lv_at hl 3 rfl) ?_
  have hPc := hP.sub (ws' := [(q28, .inr (6, [.null, .null]))]) [12] rfl
  have hDc := hD.sub (ws' := [(q28, .inr (6, [.null, .null]))]) [12] (by decide) rfl
  have hFc := va_free (wc := [(q28, .inr (6, [.null, .null]))]) hD hS hA [12] rfl
  refine tx_callK (A1 := va_A [(q28, .inr (6, [.null, .null]))] H.size) (tx_runI (As := [.ref a1, .ref a3]) (rest := [.ref q28]) ⟨hx, hb, hml, hown, hts⟩ (c_Va_init l hfl dC dI cI q28 a1 a3 H.size) (tx_cb (n := 2) hts rfl rfl ⟨Nat.le_of_ble_eq_true rfl, Nat.le_of_ble_eq_true rfl⟩ (tx_code.of (hts _ mw_166)) (hts _ mw_8) (by decide +kernel) (hts _ mw_164)) (hts _ mw_166) rfl (hts _ mw_165) ⟨tq_blind, fun U hU hW => ⟨rfl, by rw [hU], by rw [hU]; exact hPc, va_K.moved hW.alike hK, hDc.weaken (fun _ _ _ _ => trivial), hst _ _ hS U hU hW⟩⟩ rfl rfl hl.1 rfl (lv_room (Nat.le_of_ble_eq_true rfl)) d_En_init_34 ⟨Nat.le_of_ble_eq_true rfl, Nat.le_of_ble_eq_true rfl⟩) hS (fun q _ h => hFc q h) hFc (fun v t H34 locs ht hWt hpost hz1 hk1 hS => ?_) (fun x t H1 locs ht hWt hpost hz1 hk1 hS => by cases hpost.1)
  obtain ⟨ho, hP1, hK1, hD1⟩ := hpost
  cases ho
  rw [ht] at hP1
  obtain ⟨hP, hD⟩ := va_join (wr := [(h0, .inr (5, [.null, .null, .null, .null, .null, .null, .null, .null, .ref q5, .ref q18, .int 0, .int (-1), .int 0, .int 0, .int 0])), (q5, .inr (10, [.int 0, .ref n9_q5, .ref n9_q16, .int 0])), (n9_q5, .inr (1, [.ref n9_n9_q8])), (n9_n9_q8, .inl (cI, 512, .inl (fun _ => 0))), (n9_q16, .inr (3, [.ref n9_n20_q7, .int 0, .int 0, .ref n9_n20_q15, .ref n9_n20_q23, .ref n9_n20_q31, .ref n9_n20_q39, .ref n9_n20_q48])), (n9_n20_q7, .inl (cI, 48, .inl (fun _ => 0))), (n9_n20_q15, .inl (cI, 11, .inl (fun _ => 0))), (n9_n20_q23, .inl (cI, 11, .inl (fun _ => 0))), (n9_n20_q31, .inl (cI, 11, .inl (fun _ => 0))), (n9_n20_q39, .inl (cI, 11, .inl (fun _ => 0))), (n9_n20_q48, .inl (cI, 165, .inl (fun _ => 0))), (q18, .inl (cI, 15, .inl (fun _ => 0)))]) (w1 := [(q28, .inr (6, [.ref a1, .ref a3]))]) hP hD [12] [0, 1, 2, 3, 4, 5, 6, 7, 8, 9, 10, 11] rfl rfl (by decide) (by decide) hk1 hFc hP1 hD1
  have hP : va_P (dC, dI) vcl [(h0, .inr (5, [.null, .null, .null, .null, .null, .null, .null, .null, .ref q5, .ref q18, .int 0, .int (-1), .int 0, .int 0, .int 0])), (q5, .inr (10, [.int 0, .ref n9_q5, .ref n9_q16, .int 0])), (n9_q5, .inr (1, [.ref n9_n9_q8])), (n9_n9_q8, .inl (cI, 512, .inl (fun _ => 0))), (n9_q16, .inr (3, [.ref n9_n20_q7, .int 0, .int 0, .ref n9_n20_q15, .ref n9_n20_q23, .ref n9_n20_q31, .ref n9_n20_q39, .ref n9_n20_q48])), (n9_n20_q7, .inl (cI, 48, .inl (fun _ => 0))), (n9_n20_q15, .inl (cI, 11, .inl (fun _ => 0))), (n9_n20_q23, .inl (cI, 11, .inl (fun _ => 0))), (n9_n20_q31, .inl (cI, 11, .inl (fun _ => 0))), (n9_n20_q39, .inl (cI, 11, .inl (fun _ => 0))), (n9_n20_q48, .inl (cI, 165, .inl (fun _ => 0))), (q18, .inl (cI, 15, .inl (fun _ => 0))), (q28, .inr (6, [.ref a1, .ref a3]))] H34 := hP
  have hD : va_D A [(h0, .inr (5, [.null, .null, .null, .null, .null, .null, .null, .null, .ref q5, .ref q18, .int 0, .int (-1), .int 0, .int 0, .int 0])), (q5, .inr (10, [.int 0, .ref n9_q5, .ref n9_q16, .int 0])), (n9_q5, .inr (1, [.ref n9_n9_q8])), (n9_n9_q8, .inl (cI, 512, .inl (fun _ => 0))), (n9_q16, .inr (3, [.ref n9_n20_q7, .int 0, .int 0, .ref n9_n20_q15, .ref n9_n20_q23, .ref n9_n20_q31, .ref n9_n20_q39, .ref n9_n20_q48])), (n9_n20_q7, .inl (cI, 48, .inl (fun _ => 0))), (n9_n20_q15, .inl (cI, 11, .inl (fun _ => 0))), (n9_n20_q23, .inl (cI, 11, .inl (fun _ => 0))), (n9_n20_q31, .inl (cI, 11, .inl (fun _ => 0))), (n9_n20_q39, .inl (cI, 11, .inl (fun _ => 0))), (n9_n20_q48, .inl (cI, 165, .inl (fun _ => 0))), (q18, .inl (cI, 15, .inl (fun _ => 0))), (q28, .inr (6, [.ref a1, .ref a3]))] := hD
  refine lv_astore (lv' := [(5, .ref q28), (0, .ref h0), (1, .ref a1), (2, .ref a2), (3, .ref a3), (4, .ref a4)]) hx hb d_En_init_37 hl (by decide) rfl (fun ls hl => ?_)
  refine lv_aload_n hx hb d_En_init_39 rfl (lv_at hl 1 rfl) ?_
  refine lv_aload_n hx hb d_En_init_40 rfl (lv_at hl 2 rfl) ?_
  refine va_putF (D := (dC, dI)) (ci := 5) (v := .ref a1) (ty := .object "StoryMachine$Memory") (C := "StoryMachine$Engine") (T := T_En) (N := 15) hx hb hts in_En t_En tk_En nm_En hown hK hP hD hS 0 rfl rfl 0 (by decide) (hts _ mw_261) (fun _ h9 => h9) rfl hin rfl (by decide +kernel) rfl rfl (Nat.le_of_ble_eq_true rfl) d_En_init_41 (fun H locs hP hD hS => ?_)
  have hP : va_P (dC, dI) vcl [(h0, .inr (5, [.ref a1, .null, .null, .null, .null, .null, .null, .null, .ref q5, .ref q18, .int 0, .int (-1), .int 0, .int 0, .int 0])), (q5, .inr (10, [.int 0, .ref n9_q5, .ref n9_q16, .int 0])), (n9_q5, .inr (1, [.ref n9_n9_q8])), (n9_n9_q8, .inl (cI, 512, .inl (fun _ => 0))), (n9_q16, .inr (3, [.ref n9_n20_q7, .int 0, .int 0, .ref n9_n20_q15, .ref n9_n20_q23, .ref n9_n20_q31, .ref n9_n20_q39, .ref n9_n20_q48])), (n9_n20_q7, .inl (cI, 48, .inl (fun _ => 0))), (n9_n20_q15, .inl (cI, 11, .inl (fun _ => 0))), (n9_n20_q23, .inl (cI, 11, .inl (fun _ => 0))), (n9_n20_q31, .inl (cI, 11, .inl (fun _ => 0))), (n9_n20_q39, .inl (cI, 11, .inl (fun _ => 0))), (n9_n20_q48, .inl (cI, 165, .inl (fun _ => 0))), (q18, .inl (cI, 15, .inl (fun _ => 0))), (q28, .inr (6, [.ref a1, .ref a3]))] H := hP
  have hD : va_D A [(h0, .inr (5, [.ref a1, .null, .null, .null, .null, .null, .null, .null, .ref q5, .ref q18, .int 0, .int (-1), .int 0, .int 0, .int 0])), (q5, .inr (10, [.int 0, .ref n9_q5, .ref n9_q16, .int 0])), (n9_q5, .inr (1, [.ref n9_n9_q8])), (n9_n9_q8, .inl (cI, 512, .inl (fun _ => 0))), (n9_q16, .inr (3, [.ref n9_n20_q7, .int 0, .int 0, .ref n9_n20_q15, .ref n9_n20_q23, .ref n9_n20_q31, .ref n9_n20_q39, .ref n9_n20_q48])), (n9_n20_q7, .inl (cI, 48, .inl (fun _ => 0))), (n9_n20_q15, .inl (cI, 11, .inl (fun _ => 0))), (n9_n20_q23, .inl (cI, 11, .inl (fun _ => 0))), (n9_n20_q31, .inl (cI, 11, .inl (fun _ => 0))), (n9_n20_q39, .inl (cI, 11, .inl (fun _ => 0))), (n9_n20_q48, .inl (cI, 165, .inl (fun _ => 0))), (q18, .inl (cI, 15, .inl (fun _ => 0))), (q28, .inr (6, [.ref a1, .ref a3]))] := hD
  refine lv_aload_n hx hb d_En_init_44 rfl (lv_at hl 1 rfl) ?_
  refine lv_aload_n hx hb d_En_init_45 rfl (lv_at hl 3 rfl) ?_
  refine va_putF (D := (dC, dI)) (ci := 5) (v := .ref a2) (ty := .object "StoryMachine$Line") (C := "StoryMachine$Engine") (T := T_En) (N := 15) hx hb hts in_En t_En tk_En nm_En hown hK hP hD hS 0 rfl rfl 1 (by decide) (hts _ mw_262) (fun _ h9 => h9) rfl hin rfl (by decide +kernel) rfl rfl (Nat.le_of_ble_eq_true rfl) d_En_init_46 (fun H locs hP hD hS => ?_)
  have hP : va_P (dC, dI) vcl [(h0, .inr (5, [.ref a1, .ref a2, .null, .null, .null, .null, .null, .null, .ref q5, .ref q18, .int 0, .int (-1), .int 0, .int 0, .int 0])), (q5, .inr (10, [.int 0, .ref n9_q5, .ref n9_q16, .int 0])), (n9_q5, .inr (1, [.ref n9_n9_q8])), (n9_n9_q8, .inl (cI, 512, .inl (fun _ => 0))), (n9_q16, .inr (3, [.ref n9_n20_q7, .int 0, .int 0, .ref n9_n20_q15, .ref n9_n20_q23, .ref n9_n20_q31, .ref n9_n20_q39, .ref n9_n20_q48])), (n9_n20_q7, .inl (cI, 48, .inl (fun _ => 0))), (n9_n20_q15, .inl (cI, 11, .inl (fun _ => 0))), (n9_n20_q23, .inl (cI, 11, .inl (fun _ => 0))), (n9_n20_q31, .inl (cI, 11, .inl (fun _ => 0))), (n9_n20_q39, .inl (cI, 11, .inl (fun _ => 0))), (n9_n20_q48, .inl (cI, 165, .inl (fun _ => 0))), (q18, .inl (cI, 15, .inl (fun _ => 0))), (q28, .inr (6, [.ref a1, .ref a3]))] H := hP
  have hD : va_D A [(h0, .inr (5, [.ref a1, .ref a2, .null, .null, .null, .null, .null, .null, .ref q5, .ref q18, .int 0, .int (-1), .int 0, .int 0, .int 0])), (q5, .inr (10, [.int 0, .ref n9_q5, .ref n9_q16, .int 0])), (n9_q5, .inr (1, [.ref n9_n9_q8])), (n9_n9_q8, .inl (cI, 512, .inl (fun _ => 0))), (n9_q16, .inr (3, [.ref n9_n20_q7, .int 0, .int 0, .ref n9_n20_q15, .ref n9_n20_q23, .ref n9_n20_q31, .ref n9_n20_q39, .ref n9_n20_q48])), (n9_n20_q7, .inl (cI, 48, .inl (fun _ => 0))), (n9_n20_q15, .inl (cI, 11, .inl (fun _ => 0))), (n9_n20_q23, .inl (cI, 11, .inl (fun _ => 0))), (n9_n20_q31, .inl (cI, 11, .inl (fun _ => 0))), (n9_n20_q39, .inl (cI, 11, .inl (fun _ => 0))), (n9_n20_q48, .inl (cI, 165, .inl (fun _ => 0))), (q18, .inl (cI, 15, .inl (fun _ => 0))), (q28, .inr (6, [.ref a1, .ref a3]))] := hD
  refine lv_aload_n hx hb d_En_init_49 rfl (lv_at hl 1 rfl) ?_
  refine lv_aload_n hx hb d_En_init_50 rfl (lv_at hl 4 rfl) ?_
  refine va_putF (D := (dC, dI)) (ci := 5) (v := .ref a3) (ty := .object "StoryMachine$Routines") (C := "StoryMachine$Engine") (T := T_En) (N := 15) hx hb hts in_En t_En tk_En nm_En hown hK hP hD hS 0 rfl rfl 2 (by decide) (hts _ mw_263) (fun _ h9 => h9) rfl hin rfl (by decide +kernel) rfl rfl (Nat.le_of_ble_eq_true rfl) d_En_init_51 (fun H locs hP hD hS => ?_)
  have hP : va_P (dC, dI) vcl [(h0, .inr (5, [.ref a1, .ref a2, .ref a3, .null, .null, .null, .null, .null, .ref q5, .ref q18, .int 0, .int (-1), .int 0, .int 0, .int 0])), (q5, .inr (10, [.int 0, .ref n9_q5, .ref n9_q16, .int 0])), (n9_q5, .inr (1, [.ref n9_n9_q8])), (n9_n9_q8, .inl (cI, 512, .inl (fun _ => 0))), (n9_q16, .inr (3, [.ref n9_n20_q7, .int 0, .int 0, .ref n9_n20_q15, .ref n9_n20_q23, .ref n9_n20_q31, .ref n9_n20_q39, .ref n9_n20_q48])), (n9_n20_q7, .inl (cI, 48, .inl (fun _ => 0))), (n9_n20_q15, .inl (cI, 11, .inl (fun _ => 0))), (n9_n20_q23, .inl (cI, 11, .inl (fun _ => 0))), (n9_n20_q31, .inl (cI, 11, .inl (fun _ => 0))), (n9_n20_q39, .inl (cI, 11, .inl (fun _ => 0))), (n9_n20_q48, .inl (cI, 165, .inl (fun _ => 0))), (q18, .inl (cI, 15, .inl (fun _ => 0))), (q28, .inr (6, [.ref a1, .ref a3]))] H := hP
  have hD : va_D A [(h0, .inr (5, [.ref a1, .ref a2, .ref a3, .null, .null, .null, .null, .null, .ref q5, .ref q18, .int 0, .int (-1), .int 0, .int 0, .int 0])), (q5, .inr (10, [.int 0, .ref n9_q5, .ref n9_q16, .int 0])), (n9_q5, .inr (1, [.ref n9_n9_q8])), (n9_n9_q8, .inl (cI, 512, .inl (fun _ => 0))), (n9_q16, .inr (3, [.ref n9_n20_q7, .int 0, .int 0, .ref n9_n20_q15, .ref n9_n20_q23, .ref n9_n20_q31, .ref n9_n20_q39, .ref n9_n20_q48])), (n9_n20_q7, .inl (cI, 48, .inl (fun _ => 0))), (n9_n20_q15, .inl (cI, 11, .inl (fun _ => 0))), (n9_n20_q23, .inl (cI, 11, .inl (fun _ => 0))), (n9_n20_q31, .inl (cI, 11, .inl (fun _ => 0))), (n9_n20_q39, .inl (cI, 11, .inl (fun _ => 0))), (n9_n20_q48, .inl (cI, 165, .inl (fun _ => 0))), (q18, .inl (cI, 15, .inl (fun _ => 0))), (q28, .inr (6, [.ref a1, .ref a3]))] := hD
  refine lv_aload_n hx hb d_En_init_54 rfl (lv_at hl 1 rfl) ?_
  refine lv_aload hx hb d_En_init_55 (lv_at hl 5 rfl) ?_
  refine va_putF (D := (dC, dI)) (ci := 5) (v := .ref a4) (ty := .object "StoryMachine$Printer") (C := "StoryMachine$Engine") (T := T_En) (N := 15) hx hb hts in_En t_En tk_En nm_En hown hK hP hD hS 0 rfl rfl 3 (by decide) (hts _ mw_264) (fun _ h9 => h9) rfl hin rfl (by decide +kernel) rfl rfl (Nat.le_of_ble_eq_true rfl) d_En_init_57 (fun H locs hP hD hS => ?_)
  have hP : va_P (dC, dI) vcl [(h0, .inr (5, [.ref a1, .ref a2, .ref a3, .ref a4, .null, .null, .null, .null, .ref q5, .ref q18, .int 0, .int (-1), .int 0, .int 0, .int 0])), (q5, .inr (10, [.int 0, .ref n9_q5, .ref n9_q16, .int 0])), (n9_q5, .inr (1, [.ref n9_n9_q8])), (n9_n9_q8, .inl (cI, 512, .inl (fun _ => 0))), (n9_q16, .inr (3, [.ref n9_n20_q7, .int 0, .int 0, .ref n9_n20_q15, .ref n9_n20_q23, .ref n9_n20_q31, .ref n9_n20_q39, .ref n9_n20_q48])), (n9_n20_q7, .inl (cI, 48, .inl (fun _ => 0))), (n9_n20_q15, .inl (cI, 11, .inl (fun _ => 0))), (n9_n20_q23, .inl (cI, 11, .inl (fun _ => 0))), (n9_n20_q31, .inl (cI, 11, .inl (fun _ => 0))), (n9_n20_q39, .inl (cI, 11, .inl (fun _ => 0))), (n9_n20_q48, .inl (cI, 165, .inl (fun _ => 0))), (q18, .inl (cI, 15, .inl (fun _ => 0))), (q28, .inr (6, [.ref a1, .ref a3]))] H := hP
  have hD : va_D A [(h0, .inr (5, [.ref a1, .ref a2, .ref a3, .ref a4, .null, .null, .null, .null, .ref q5, .ref q18, .int 0, .int (-1), .int 0, .int 0, .int 0])), (q5, .inr (10, [.int 0, .ref n9_q5, .ref n9_q16, .int 0])), (n9_q5, .inr (1, [.ref n9_n9_q8])), (n9_n9_q8, .inl (cI, 512, .inl (fun _ => 0))), (n9_q16, .inr (3, [.ref n9_n20_q7, .int 0, .int 0, .ref n9_n20_q15, .ref n9_n20_q23, .ref n9_n20_q31, .ref n9_n20_q39, .ref n9_n20_q48])), (n9_n20_q7, .inl (cI, 48, .inl (fun _ => 0))), (n9_n20_q15, .inl (cI, 11, .inl (fun _ => 0))), (n9_n20_q23, .inl (cI, 11, .inl (fun _ => 0))), (n9_n20_q31, .inl (cI, 11, .inl (fun _ => 0))), (n9_n20_q39, .inl (cI, 11, .inl (fun _ => 0))), (n9_n20_q48, .inl (cI, 165, .inl (fun _ => 0))), (q18, .inl (cI, 15, .inl (fun _ => 0))), (q28, .inr (6, [.ref a1, .ref a3]))] := hD
  refine lv_aload_n hx hb d_En_init_60 rfl (lv_at hl 1 rfl) ?_
  refine lv_aload hx hb d_En_init_61 (lv_at hl 0 rfl) ?_
  refine va_putF (D := (dC, dI)) (ci := 5) (v := .ref q28) (ty := .object "StoryMachine$Variables") (C := "StoryMachine$Engine") (T := T_En) (N := 15) hx hb hts in_En t_En tk_En nm_En hown hK hP hD hS 0 rfl rfl 4 (by decide) (hts _ mw_265) (fun _ h9 => h9) rfl hin rfl (by decide +kernel) rfl rfl (Nat.le_of_ble_eq_true rfl) d_En_init_63 (fun H locs hP hD hS => ?_)
  have hP : va_P (dC, dI) vcl [(h0, .inr (5, [.ref a1, .ref a2, .ref a3, .ref a4, .ref q28, .null, .null, .null, .ref q5, .ref q18, .int 0, .int (-1), .int 0, .int 0, .int 0])), (q5, .inr (10, [.int 0, .ref n9_q5, .ref n9_q16, .int 0])), (n9_q5, .inr (1, [.ref n9_n9_q8])), (n9_n9_q8, .inl (cI, 512, .inl (fun _ => 0))), (n9_q16, .inr (3, [.ref n9_n20_q7, .int 0, .int 0, .ref n9_n20_q15, .ref n9_n20_q23, .ref n9_n20_q31, .ref n9_n20_q39, .ref n9_n20_q48])), (n9_n20_q7, .inl (cI, 48, .inl (fun _ => 0))), (n9_n20_q15, .inl (cI, 11, .inl (fun _ => 0))), (n9_n20_q23, .inl (cI, 11, .inl (fun _ => 0))), (n9_n20_q31, .inl (cI, 11, .inl (fun _ => 0))), (n9_n20_q39, .inl (cI, 11, .inl (fun _ => 0))), (n9_n20_q48, .inl (cI, 165, .inl (fun _ => 0))), (q18, .inl (cI, 15, .inl (fun _ => 0))), (q28, .inr (6, [.ref a1, .ref a3]))] H := hP
  have hD : va_D A [(h0, .inr (5, [.ref a1, .ref a2, .ref a3, .ref a4, .ref q28, .null, .null, .null, .ref q5, .ref q18, .int 0, .int (-1), .int 0, .int 0, .int 0])), (q5, .inr (10, [.int 0, .ref n9_q5, .ref n9_q16, .int 0])), (n9_q5, .inr (1, [.ref n9_n9_q8])), (n9_n9_q8, .inl (cI, 512, .inl (fun _ => 0))), (n9_q16, .inr (3, [.ref n9_n20_q7, .int 0, .int 0, .ref n9_n20_q15, .ref n9_n20_q23, .ref n9_n20_q31, .ref n9_n20_q39, .ref n9_n20_q48])), (n9_n20_q7, .inl (cI, 48, .inl (fun _ => 0))), (n9_n20_q15, .inl (cI, 11, .inl (fun _ => 0))), (n9_n20_q23, .inl (cI, 11, .inl (fun _ => 0))), (n9_n20_q31, .inl (cI, 11, .inl (fun _ => 0))), (n9_n20_q39, .inl (cI, 11, .inl (fun _ => 0))), (n9_n20_q48, .inl (cI, 165, .inl (fun _ => 0))), (q18, .inl (cI, 15, .inl (fun _ => 0))), (q28, .inr (6, [.ref a1, .ref a3]))] := hD
  refine lv_aload_n hx hb d_En_init_66 rfl (lv_at hl 1 rfl) ?_
  refine va_new (ci := 7) (fs := [.null]) (C := "StoryMachine$Tree") (T := T_Tr) (N := 1) hx hb hts in_Tr t_Tr tk_Tr hown (hts _ mw_175) (hts _ mw_176) (hts _ mw_9) hK hP hD hS hA rfl (fun j hj => ta_dec (f := fun j => defaultValue (t_Tr j)) (g := vp_V [.null]) (by decide +kernel) j hj) (Nat.le_of_ble_eq_true rfl) (Nat.le_of_ble_eq_true rfl) d_En_init_67 (fun q67 H hP hD hS => ?_)
  have hP : va_P (dC, dI) vcl [(h0, .inr (5, [.ref a1, .ref a2, .ref a3, .ref a4, .ref q28, .null, .null, .null, .ref q5, .ref q18, .int 0, .int (-1), .int 0, .int 0, .int 0])), (q5, .inr (10, [.int 0, .ref n9_q5, .ref n9_q16, .int 0])), (n9_q5, .inr (1, [.ref n9_n9_q8])), (n9_n9_q8, .inl (cI, 512, .inl (fun _ => 0))), (n9_q16, .inr (3, [.ref n9_n20_q7, .int 0, .int 0, .ref n9_n20_q15, .ref n9_n20_q23, .ref n9_n20_q31, .ref n9_n20_q39, .ref n9_n20_q48])), (n9_n20_q7, .inl (cI, 48, .inl (fun _ => 0))), (n9_n20_q15, .inl (cI, 11, .inl (fun _ => 0))), (n9_n20_q23, .inl (cI, 11, .inl (fun _ => 0))), (n9_n20_q31, .inl (cI, 11, .inl (fun _ => 0))), (n9_n20_q39, .inl (cI, 11, .inl (fun _ => 0))), (n9_n20_q48, .inl (cI, 165, .inl (fun _ => 0))), (q18, .inl (cI, 15, .inl (fun _ => 0))), (q28, .inr (6, [.ref a1, .ref a3])), (q67, .inr (7, [.null]))] H := hP
  have hD : va_D A [(h0, .inr (5, [.ref a1, .ref a2, .ref a3, .ref a4, .ref q28, .null, .null, .null, .ref q5, .ref q18, .int 0, .int (-1), .int 0, .int 0, .int 0])), (q5, .inr (10, [.int 0, .ref n9_q5, .ref n9_q16, .int 0])), (n9_q5, .inr (1, [.ref n9_n9_q8])), (n9_n9_q8, .inl (cI, 512, .inl (fun _ => 0))), (n9_q16, .inr (3, [.ref n9_n20_q7, .int 0, .int 0, .ref n9_n20_q15, .ref n9_n20_q23, .ref n9_n20_q31, .ref n9_n20_q39, .ref n9_n20_q48])), (n9_n20_q7, .inl (cI, 48, .inl (fun _ => 0))), (n9_n20_q15, .inl (cI, 11, .inl (fun _ => 0))), (n9_n20_q23, .inl (cI, 11, .inl (fun _ => 0))), (n9_n20_q31, .inl (cI, 11, .inl (fun _ => 0))), (n9_n20_q39, .inl (cI, 11, .inl (fun _ => 0))), (n9_n20_q48, .inl (cI, 165, .inl (fun _ => 0))), (q18, .inl (cI, 15, .inl (fun _ => 0))), (q28, .inr (6, [.ref a1, .ref a3])), (q67, .inr (7, [.null]))] := hD
  refine lv_dup hx hb d_En_init_70 rfl ?_
  refine lv_aload_n hx hb d_En_init_71 rfl (lv_at hl 2 rfl) ?_
  have hPc := hP.sub (ws' := [(q67, .inr (7, [.null]))]) [13] rfl
  have hDc := hD.sub (ws' := [(q67, .inr (7, [.null]))]) [13] (by decide) rfl
  have hFc := va_free (wc := [(q67, .inr (7, [.null]))]) hD hS hA [13] rfl
  refine tx_callK (A1 := va_A [(q67, .inr (7, [.null]))] H.size) (tx_runI (As := [.ref a1]) (rest := [.ref q67, .ref h0]) ⟨hx, hb, hml, hown, hts⟩ (c_Tr_init l hfl dC dI cI q67 a1 H.size) (tx_cb (n := 1) hts rfl rfl ⟨Nat.le_of_ble_eq_true rfl, Nat.le_of_ble_eq_true rfl⟩ (tx_code.of (hts _ mw_179)) (hts _ mw_9) (by decide +kernel) (hts _ mw_177)) (hts _ mw_179) rfl (hts _ mw_178) ⟨tq_blind, fun U hU hW => ⟨rfl, by rw [hU], by rw [hU]; exact hPc, va_K.moved hW.alike hK, hDc.weaken (fun _ _ _ _ => trivial), hst _ _ hS U hU hW⟩⟩ rfl rfl hl.1 rfl (lv_room (Nat.le_of_ble_eq_true rfl)) d_En_init_72 ⟨Nat.le_of_ble_eq_true rfl, Nat.le_of_ble_eq_true rfl⟩) hS (fun q _ h => hFc q h) hFc (fun v t H72 locs ht hWt hpost hz1 hk1 hS => ?_) (fun x t H1 locs ht hWt hpost hz1 hk1 hS => by cases hpost.1)
  obtain ⟨ho, hP1, hK1, hD1⟩ := hpost
  cases ho
  rw [ht] at hP1
  obtain ⟨hP, hD⟩ := va_join (wr := [(h0, .inr (5, [.ref a1, .ref a2, .ref a3, .ref a4, .ref q28, .null, .null, .null, .ref q5, .ref q18, .int 0, .int (-1), .int 0, .int 0, .int 0])), (q5, .inr (10, [.int 0, .ref n9_q5, .ref n9_q16, .int 0])), (n9_q5, .inr (1, [.ref n9_n9_q8])), (n9_n9_q8, .inl (cI, 512, .inl (fun _ => 0))), (n9_q16, .inr (3, [.ref n9_n20_q7, .int 0, .int 0, .ref n9_n20_q15, .ref n9_n20_q23, .ref n9_n20_q31, .ref n9_n20_q39, .ref n9_n20_q48])), (n9_n20_q7, .inl (cI, 48, .inl (fun _ => 0))), (n9_n20_q15, .inl (cI, 11, .inl (fun _ => 0))), (n9_n20_q23, .inl (cI, 11, .inl (fun _ => 0))), (n9_n20_q31, .inl (cI, 11, .inl (fun _ => 0))), (n9_n20_q39, .inl (cI, 11, .inl (fun _ => 0))), (n9_n20_q48, .inl (cI, 165, .inl (fun _ => 0))), (q18, .inl (cI, 15, .inl (fun _ => 0))), (q28, .inr (6, [.ref a1, .ref a3]))]) (w1 := [(q67, .inr (7, [.ref a1]))]) hP hD [13] [0, 1, 2, 3, 4, 5, 6, 7, 8, 9, 10, 11, 12] rfl rfl (by decide) (by decide) hk1 hFc hP1 hD1
  have hP : va_P (dC, dI) vcl [(h0, .inr (5, [.ref a1, .ref a2, .ref a3, .ref a4, .ref q28, .null, .null, .null, .ref q5, .ref q18, .int 0, .int (-1), .int 0, .int 0, .int 0])), (q5, .inr (10, [.int 0, .ref n9_q5, .ref n9_q16, .int 0])), (n9_q5, .inr (1, [.ref n9_n9_q8])), (n9_n9_q8, .inl (cI, 512, .inl (fun _ => 0))), (n9_q16, .inr (3, [.ref n9_n20_q7, .int 0, .int 0, .ref n9_n20_q15, .ref n9_n20_q23, .ref n9_n20_q31, .ref n9_n20_q39, .ref n9_n20_q48])), (n9_n20_q7, .inl (cI, 48, .inl (fun _ => 0))), (n9_n20_q15, .inl (cI, 11, .inl (fun _ => 0))), (n9_n20_q23, .inl (cI, 11, .inl (fun _ => 0))), (n9_n20_q31, .inl (cI, 11, .inl (fun _ => 0))), (n9_n20_q39, .inl (cI, 11, .inl (fun _ => 0))), (n9_n20_q48, .inl (cI, 165, .inl (fun _ => 0))), (q18, .inl (cI, 15, .inl (fun _ => 0))), (q28, .inr (6, [.ref a1, .ref a3])), (q67, .inr (7, [.ref a1]))] H72 := hP
  have hD : va_D A [(h0, .inr (5, [.ref a1, .ref a2, .ref a3, .ref a4, .ref q28, .null, .null, .null, .ref q5, .ref q18, .int 0, .int (-1), .int 0, .int 0, .int 0])), (q5, .inr (10, [.int 0, .ref n9_q5, .ref n9_q16, .int 0])), (n9_q5, .inr (1, [.ref n9_n9_q8])), (n9_n9_q8, .inl (cI, 512, .inl (fun _ => 0))), (n9_q16, .inr (3, [.ref n9_n20_q7, .int 0, .int 0, .ref n9_n20_q15, .ref n9_n20_q23, .ref n9_n20_q31, .ref n9_n20_q39, .ref n9_n20_q48])), (n9_n20_q7, .inl (cI, 48, .inl (fun _ => 0))), (n9_n20_q15, .inl (cI, 11, .inl (fun _ => 0))), (n9_n20_q23, .inl (cI, 11, .inl (fun _ => 0))), (n9_n20_q31, .inl (cI, 11, .inl (fun _ => 0))), (n9_n20_q39, .inl (cI, 11, .inl (fun _ => 0))), (n9_n20_q48, .inl (cI, 165, .inl (fun _ => 0))), (q18, .inl (cI, 15, .inl (fun _ => 0))), (q28, .inr (6, [.ref a1, .ref a3])), (q67, .inr (7, [.ref a1]))] := hD
  refine va_putF (D := (dC, dI)) (ci := 5) (v := .ref q67) (ty := .object "StoryMachine$Tree") (C := "StoryMachine$Engine") (T := T_En) (N := 15) hx hb hts in_En t_En tk_En nm_En hown hK hP hD hS 0 rfl rfl 5 (by decide) (hts _ mw_266) (fun _ h9 => h9) rfl hin rfl (by decide +kernel) rfl rfl (Nat.le_of_ble_eq_true rfl) d_En_init_75 (fun H locs hP hD hS => ?_)
  have hP : va_P (dC, dI) vcl [(h0, .inr (5, [.ref a1, .ref a2, .ref a3, .ref a4, .ref q28, .ref q67, .null, .null, .ref q5, .ref q18, .int 0, .int (-1), .int 0, .int 0, .int 0])), (q5, .inr (10, [.int 0, .ref n9_q5, .ref n9_q16, .int 0])), (n9_q5, .inr (1, [.ref n9_n9_q8])), (n9_n9_q8, .inl (cI, 512, .inl (fun _ => 0))), (n9_q16, .inr (3, [.ref n9_n20_q7, .int 0, .int 0, .ref n9_n20_q15, .ref n9_n20_q23, .ref n9_n20_q31, .ref n9_n20_q39, .ref n9_n20_q48])), (n9_n20_q7, .inl (cI, 48, .inl (fun _ => 0))), (n9_n20_q15, .inl (cI, 11, .inl (fun _ => 0))), (n9_n20_q23, .inl (cI, 11, .inl (fun _ => 0))), (n9_n20_q31, .inl (cI, 11, .inl (fun _ => 0))), (n9_n20_q39, .inl (cI, 11, .inl (fun _ => 0))), (n9_n20_q48, .inl (cI, 165, .inl (fun _ => 0))), (q18, .inl (cI, 15, .inl (fun _ => 0))), (q28, .inr (6, [.ref a1, .ref a3])), (q67, .inr (7, [.ref a1]))] H := hP
  have hD : va_D A [(h0, .inr (5, [.ref a1, .ref a2, .ref a3, .ref a4, .ref q28, .ref q67, .null, .null, .ref q5, .ref q18, .int 0, .int (-1), .int 0, .int 0, .int 0])), (q5, .inr (10, [.int 0, .ref n9_q5, .ref n9_q16, .int 0])), (n9_q5, .inr (1, [.ref n9_n9_q8])), (n9_n9_q8, .inl (cI, 512, .inl (fun _ => 0))), (n9_q16, .inr (3, [.ref n9_n20_q7, .int 0, .int 0, .ref n9_n20_q15, .ref n9_n20_q23, .ref n9_n20_q31, .ref n9_n20_q39, .ref n9_n20_q48])), (n9_n20_q7, .inl (cI, 48, .inl (fun _ => 0))), (n9_n20_q15, .inl (cI, 11, .inl (fun _ => 0))), (n9_n20_q23, .inl (cI, 11, .inl (fun _ => 0))), (n9_n20_q31, .inl (cI, 11, .inl (fun _ => 0))), (n9_n20_q39, .inl (cI, 11, .inl (fun _ => 0))), (n9_n20_q48, .inl (cI, 165, .inl (fun _ => 0))), (q18, .inl (cI, 15, .inl (fun _ => 0))), (q28, .inr (6, [.ref a1, .ref a3])), (q67, .inr (7, [.ref a1]))] := hD
  refine lv_aload_n hx hb d_En_init_78 rfl (lv_at hl 1 rfl) ?_
  refine va_new (ci := 8) (fs := [.null, .null, .null, .int 0, .null, .int 0]) (C := "StoryMachine$Dictionary") (T := T_Di) (N := 6) hx hb hts in_Di t_Di tk_Di hown (hts _ mw_185) (hts _ mw_186) (hts _ mw_10) hK hP hD hS hA rfl (fun j hj => ta_dec (f := fun j => defaultValue (t_Di j)) (g := vp_V [.null, .null, .null, .int 0, .null, .int 0]) (by decide +kernel) j hj) (Nat.le_of_ble_eq_true rfl) (Nat.le_of_ble_eq_true rfl) d_En_init_79 (fun q79 H hP hD hS => ?_)
  have hP : va_P (dC, dI) vcl [(h0, .inr (5, [.ref a1, .ref a2, .ref a3, .ref a4, .ref q28, .ref q67, .null, .null, .ref q5, .ref q18, .int 0, .int (-1), .int 0, .int 0, .int 0])), (q5, .inr (10, [.int 0, .ref n9_q5, .ref n9_q16, .int 0])), (n9_q5, .inr (1, [.ref n9_n9_q8])), (n9_n9_q8, .inl (cI, 512, .inl (fun _ => 0))), (n9_q16, .inr (3, [.ref n9_n20_q7, .int 0, .int 0, .ref n9_n20_q15, .ref n9_n20_q23, .ref n9_n20_q31, .ref n9_n20_q39, .ref n9_n20_q48])), (n9_n20_q7, .inl (cI, 48, .inl (fun _ => 0))), (n9_n20_q15, .inl (cI, 11, .inl (fun _ => 0))), (n9_n20_q23, .inl (cI, 11, .inl (fun _ => 0))), (n9_n20_q31, .inl (cI, 11, .inl (fun _ => 0))), (n9_n20_q39, .inl (cI, 11, .inl (fun _ => 0))), (n9_n20_q48, .inl (cI, 165, .inl (fun _ => 0))), (q18, .inl (cI, 15, .inl (fun _ => 0))), (q28, .inr (6, [.ref a1, .ref a3])), (q67, .inr (7, [.ref a1])), (q79, .inr (8, [.null, .null, .null, .int 0, .null, .int 0]))] H := hP
  have hD : va_D A [(h0, .inr (5, [.ref a1, .ref a2, .ref a3, .ref a4, .ref q28, .ref q67, .null, .null, .ref q5, .ref q18, .int 0, .int (-1), .int 0, .int 0, .int 0])), (q5, .inr (10, [.int 0, .ref n9_q5, .ref n9_q16, .int 0])), (n9_q5, .inr (1, [.ref n9_n9_q8])), (n9_n9_q8, .inl (cI, 512, .inl (fun _ => 0))), (n9_q16, .inr (3, [.ref n9_n20_q7, .int 0, .int 0, .ref n9_n20_q15, .ref n9_n20_q23, .ref n9_n20_q31, .ref n9_n20_q39, .ref n9_n20_q48])), (n9_n20_q7, .inl (cI, 48, .inl (fun _ => 0))), (n9_n20_q15, .inl (cI, 11, .inl (fun _ => 0))), (n9_n20_q23, .inl (cI, 11, .inl (fun _ => 0))), (n9_n20_q31, .inl (cI, 11, .inl (fun _ => 0))), (n9_n20_q39, .inl (cI, 11, .inl (fun _ => 0))), (n9_n20_q48, .inl (cI, 165, .inl (fun _ => 0))), (q18, .inl (cI, 15, .inl (fun _ => 0))), (q28, .inr (6, [.ref a1, .ref a3])), (q67, .inr (7, [.ref a1])), (q79, .inr (8, [.null, .null, .null, .int 0, .null, .int 0]))] := hD
  refine lv_dup hx hb d_En_init_82 rfl ?_
  refine lv_aload_n hx hb d_En_init_83 rfl (lv_at hl 2 rfl) ?_
  have hPc := hP.sub (ws' := [(q79, .inr (8, [.null, .null, .null, .int 0, .null, .int 0]))]) [14] rfl
  have hDc := hD.sub (ws' := [(q79, .inr (8, [.null, .null, .null, .int 0, .null, .int 0]))]) [14] (by decide) rfl
  have hFc := va_free (wc := [(q79, .inr (8, [.null, .null, .null, .int 0, .null, .int 0]))]) hD hS hA [14] rfl
  refine tx_callK (A1 := va_A [(q79, .inr (8, [.null, .null, .null, .int 0, .null, .int 0]))] H.size) (tx_runI (As := [.ref a1]) (rest := [.ref q79, .ref h0]) ⟨hx, hb, hml, hown, hts⟩ (c_Di_init l hfl dC dI cI q79 a1 H.size) (tx_cb (n := 1) hts rfl rfl ⟨Nat.le_of_ble_eq_true rfl, Nat.le_of_ble_eq_true rfl⟩ (tx_code.of (hts _ mw_189)) (hts _ mw_10) (by decide +kernel) (hts _ mw_187)) (hts _ mw_189) rfl (hts _ mw_188) ⟨tq_blind, fun U hU hW => ⟨rfl, by rw [hU], by rw [hU]; exact hPc, va_K.moved hW.alike hK, hDc.weaken (fun _ _ _ _ => trivial), hst _ _ hS U hU hW⟩⟩ rfl rfl hl.1 rfl (lv_room (Nat.le_of_ble_eq_true rfl)) d_En_init_84 ⟨Nat.le_of_ble_eq_true rfl, Nat.le_of_ble_eq_true rfl⟩) hS (fun q _ h => hFc q h) hFc (fun v t H84 locs ht hWt hpost hz1 hk1 hS => ?_) (fun x t H1 locs ht hWt hpost hz1 hk1 hS => by cases hpost.1)
  obtain ⟨ho, n84_q7, n84_q15, n84_q23, hP1, hK1, hD1⟩ := hpost
  cases ho
  rw [ht] at hP1
  obtain ⟨hP, hD⟩ := va_join (wr := [(h0, .inr (5, [.ref a1, .ref a2, .ref a3, .ref a4, .ref q28, .ref q67, .null, .null, .ref q5, .ref q18, .int 0, .int (-1), .int 0, .int 0, .int 0])), (q5, .inr (10, [.int 0, .ref n9_q5, .ref n9_q16, .int 0])), (n9_q5, .inr (1, [.ref n9_n9_q8])), (n9_n9_q8, .inl (cI, 512, .inl (fun _ => 0))), (n9_q16, .inr (3, [.ref n9_n20_q7, .int 0, .int 0, .ref n9_n20_q15, .ref n9_n20_q23, .ref n9_n20_q31, .ref n9_n20_q39, .ref n9_n20_q48])), (n9_n20_q7, .inl (cI, 48, .inl (fun _ => 0))), (n9_n20_q15, .inl (cI, 11, .inl (fun _ => 0))), (n9_n20_q23, .inl (cI, 11, .inl (fun _ => 0))), (n9_n20_q31, .inl (cI, 11, .inl (fun _ => 0))), (n9_n20_q39, .inl (cI, 11, .inl (fun _ => 0))), (n9_n20_q48, .inl (cI, 165, .inl (fun _ => 0))), (q18, .inl (cI, 15, .inl (fun _ => 0))), (q28, .inr (6, [.ref a1, .ref a3])), (q67, .inr (7, [.ref a1]))]) (w1 := [(q79, .inr (8, [.ref a1, .ref n84_q7, .ref n84_q15, .int 0, .ref n84_q23, .int 0])), (n84_q7, .inl (cI, 24, .inl (fun _ => 0))), (n84_q15, .inl (cI, 24, .inl (fun _ => 0))), (n84_q23, .inl (cI, 6, .inl (fun _ => 0)))]) hP hD [14] [0, 1, 2, 3, 4, 5, 6, 7, 8, 9, 10, 11, 12, 13] rfl rfl (by decide) (by decide) hk1 hFc hP1 hD1
  have hP : va_P (dC, dI) vcl [(h0, .inr (5, [.ref a1, .ref a2, .ref a3, .ref a4, .ref q28, .ref q67, .null, .null, .ref q5, .ref q18, .int 0, .int (-1), .int 0, .int 0, .int 0])), (q5, .inr (10, [.int 0, .ref n9_q5, .ref n9_q16, .int 0])), (n9_q5, .inr (1, [.ref n9_n9_q8])), (n9_n9_q8, .inl (cI, 512, .inl (fun _ => 0))), (n9_q16, .inr (3, [.ref n9_n20_q7, .int 0, .int 0, .ref n9_n20_q15, .ref n9_n20_q23, .ref n9_n20_q31, .ref n9_n20_q39, .ref n9_n20_q48])), (n9_n20_q7, .inl (cI, 48, .inl (fun _ => 0))), (n9_n20_q15, .inl (cI, 11, .inl (fun _ => 0))), (n9_n20_q23, .inl (cI, 11, .inl (fun _ => 0))), (n9_n20_q31, .inl (cI, 11, .inl (fun _ => 0))), (n9_n20_q39, .inl (cI, 11, .inl (fun _ => 0))), (n9_n20_q48, .inl (cI, 165, .inl (fun _ => 0))), (q18, .inl (cI, 15, .inl (fun _ => 0))), (q28, .inr (6, [.ref a1, .ref a3])), (q67, .inr (7, [.ref a1])), (q79, .inr (8, [.ref a1, .ref n84_q7, .ref n84_q15, .int 0, .ref n84_q23, .int 0])), (n84_q7, .inl (cI, 24, .inl (fun _ => 0))), (n84_q15, .inl (cI, 24, .inl (fun _ => 0))), (n84_q23, .inl (cI, 6, .inl (fun _ => 0)))] H84 := hP
  have hD : va_D A [(h0, .inr (5, [.ref a1, .ref a2, .ref a3, .ref a4, .ref q28, .ref q67, .null, .null, .ref q5, .ref q18, .int 0, .int (-1), .int 0, .int 0, .int 0])), (q5, .inr (10, [.int 0, .ref n9_q5, .ref n9_q16, .int 0])), (n9_q5, .inr (1, [.ref n9_n9_q8])), (n9_n9_q8, .inl (cI, 512, .inl (fun _ => 0))), (n9_q16, .inr (3, [.ref n9_n20_q7, .int 0, .int 0, .ref n9_n20_q15, .ref n9_n20_q23, .ref n9_n20_q31, .ref n9_n20_q39, .ref n9_n20_q48])), (n9_n20_q7, .inl (cI, 48, .inl (fun _ => 0))), (n9_n20_q15, .inl (cI, 11, .inl (fun _ => 0))), (n9_n20_q23, .inl (cI, 11, .inl (fun _ => 0))), (n9_n20_q31, .inl (cI, 11, .inl (fun _ => 0))), (n9_n20_q39, .inl (cI, 11, .inl (fun _ => 0))), (n9_n20_q48, .inl (cI, 165, .inl (fun _ => 0))), (q18, .inl (cI, 15, .inl (fun _ => 0))), (q28, .inr (6, [.ref a1, .ref a3])), (q67, .inr (7, [.ref a1])), (q79, .inr (8, [.ref a1, .ref n84_q7, .ref n84_q15, .int 0, .ref n84_q23, .int 0])), (n84_q7, .inl (cI, 24, .inl (fun _ => 0))), (n84_q15, .inl (cI, 24, .inl (fun _ => 0))), (n84_q23, .inl (cI, 6, .inl (fun _ => 0)))] := hD
  refine va_putF (D := (dC, dI)) (ci := 5) (v := .ref q79) (ty := .object "StoryMachine$Dictionary") (C := "StoryMachine$Engine") (T := T_En) (N := 15) hx hb hts in_En t_En tk_En nm_En hown hK hP hD hS 0 rfl rfl 6 (by decide) (hts _ mw_267) (fun _ h9 => h9) rfl hin rfl (by decide +kernel) rfl rfl (Nat.le_of_ble_eq_true rfl) d_En_init_87 (fun H locs hP hD hS => ?_)
  have hP : va_P (dC, dI) vcl [(h0, .inr (5, [.ref a1, .ref a2, .ref a3, .ref a4, .ref q28, .ref q67, .ref q79, .null, .ref q5, .ref q18, .int 0, .int (-1), .int 0, .int 0, .int 0])), (q5, .inr (10, [.int 0, .ref n9_q5, .ref n9_q16, .int 0])), (n9_q5, .inr (1, [.ref n9_n9_q8])), (n9_n9_q8, .inl (cI, 512, .inl (fun _ => 0))), (n9_q16, .inr (3, [.ref n9_n20_q7, .int 0, .int 0, .ref n9_n20_q15, .ref n9_n20_q23, .ref n9_n20_q31, .ref n9_n20_q39, .ref n9_n20_q48])), (n9_n20_q7, .inl (cI, 48, .inl (fun _ => 0))), (n9_n20_q15, .inl (cI, 11, .inl (fun _ => 0))), (n9_n20_q23, .inl (cI, 11, .inl (fun _ => 0))), (n9_n20_q31, .inl (cI, 11, .inl (fun _ => 0))), (n9_n20_q39, .inl (cI, 11, .inl (fun _ => 0))), (n9_n20_q48, .inl (cI, 165, .inl (fun _ => 0))), (q18, .inl (cI, 15, .inl (fun _ => 0))), (q28, .inr (6, [.ref a1, .ref a3])), (q67, .inr (7, [.ref a1])), (q79, .inr (8, [.ref a1, .ref n84_q7, .ref n84_q15, .int 0, .ref n84_q23, .int 0])), (n84_q7, .inl (cI, 24, .inl (fun _ => 0))), (n84_q15, .inl (cI, 24, .inl (fun _ => 0))), (n84_q23, .inl (cI, 6, .inl (fun _ => 0)))] H := hP
  have hD : va_D A [(h0, .inr (5, [.ref a1, .ref a2, .ref a3, .ref a4, .ref q28, .ref q67, .ref q79, .null, .ref q5, .ref q18, .int 0, .int (-1), .int 0, .int 0, .int 0])), (q5, .inr (10, [.int 0, .ref n9_q5, .ref n9_q16, .int 0])), (n9_q5, .inr (1, [.ref n9_n9_q8])), (n9_n9_q8, .inl (cI, 512, .inl (fun _ => 0))), (n9_q16, .inr (3, [.ref n9_n20_q7, .int 0, .int 0, .ref n9_n20_q15, .ref n9_n20_q23, .ref n9_n20_q31, .ref n9_n20_q39, .ref n9_n20_q48])), (n9_n20_q7, .inl (cI, 48, .inl (fun _ => 0))), (n9_n20_q15, .inl (cI, 11, .inl (fun _ => 0))), (n9_n20_q23, .inl (cI, 11, .inl (fun _ => 0))), (n9_n20_q31, .inl (cI, 11, .inl (fun _ => 0))), (n9_n20_q39, .inl (cI, 11, .inl (fun _ => 0))), (n9_n20_q48, .inl (cI, 165, .inl (fun _ => 0))), (q18, .inl (cI, 15, .inl (fun _ => 0))), (q28, .inr (6, [.ref a1, .ref a3])), (q67, .inr (7, [.ref a1])), (q79, .inr (8, [.ref a1, .ref n84_q7, .ref n84_q15, .int 0, .ref n84_q23, .int 0])), (n84_q7, .inl (cI, 24, .inl (fun _ => 0))), (n84_q15, .inl (cI, 24, .inl (fun _ => 0))), (n84_q23, .inl (cI, 6, .inl (fun _ => 0)))] := hD
  refine lv_aload_n hx hb d_En_init_90 rfl (lv_at hl 1 rfl) ?_
  refine va_new (ci := 9) (fs := [.null, .null, .null, .int 0, .int 0, .int 0, .int 0, .int 0, .int 0, .int 0, .int 0]) (C := "StoryMachine$Instruction") (T := T_In) (N := 11) hx hb hts in_In t_In tk_In hown (hts _ mw_213) (hts _ mw_214) (hts _ mw_11) hK hP hD hS hA rfl (fun j hj => ta_dec (f := fun j => defaultValue (t_In j)) (g := vp_V [.null, .null, .null, .int 0, .int 0, .int 0, .int 0, .int 0, .int 0, .int 0, .int 0]) (by decide +kernel) j hj) (Nat.le_of_ble_eq_true rfl) (Nat.le_of_ble_eq_true rfl) d_En_init_91 (fun q91 H hP hD hS => ?_)
  have hP : va_P (dC, dI) vcl [(h0, .inr (5, [.ref a1, .ref a2, .ref a3, .ref a4, .ref q28, .ref q67, .ref q79, .null, .ref q5, .ref q18, .int 0, .int (-1), .int 0, .int 0, .int 0])), (q5, .inr (10, [.int 0, .ref n9_q5, .ref n9_q16, .int 0])), (n9_q5, .inr (1, [.ref n9_n9_q8])), (n9_n9_q8, .inl (cI, 512, .inl (fun _ => 0))), (n9_q16, .inr (3, [.ref n9_n20_q7, .int 0, .int 0, .ref n9_n20_q15, .ref n9_n20_q23, .ref n9_n20_q31, .ref n9_n20_q39, .ref n9_n20_q48])), (n9_n20_q7, .inl (cI, 48, .inl (fun _ => 0))), (n9_n20_q15, .inl (cI, 11, .inl (fun _ => 0))), (n9_n20_q23, .inl (cI, 11, .inl (fun _ => 0))), (n9_n20_q31, .inl (cI, 11, .inl (fun _ => 0))), (n9_n20_q39, .inl (cI, 11, .inl (fun _ => 0))), (n9_n20_q48, .inl (cI, 165, .inl (fun _ => 0))), (q18, .inl (cI, 15, .inl (fun _ => 0))), (q28, .inr (6, [.ref a1, .ref a3])), (q67, .inr (7, [.ref a1])), (q79, .inr (8, [.ref a1, .ref n84_q7, .ref n84_q15, .int 0, .ref n84_q23, .int 0])), (n84_q7, .inl (cI, 24, .inl (fun _ => 0))), (n84_q15, .inl (cI, 24, .inl (fun _ => 0))), (n84_q23, .inl (cI, 6, .inl (fun _ => 0))), (q91, .inr (9, [.null, .null, .null, .int 0, .int 0, .int 0, .int 0, .int 0, .int 0, .int 0, .int 0]))] H := hP
  have hD : va_D A [(h0, .inr (5, [.ref a1, .ref a2, .ref a3, .ref a4, .ref q28, .ref q67, .ref q79, .null, .ref q5, .ref q18, .int 0, .int (-1), .int 0, .int 0, .int 0])), (q5, .inr (10, [.int 0, .ref n9_q5, .ref n9_q16, .int 0])), (n9_q5, .inr (1, [.ref n9_n9_q8])), (n9_n9_q8, .inl (cI, 512, .inl (fun _ => 0))), (n9_q16, .inr (3, [.ref n9_n20_q7, .int 0, .int 0, .ref n9_n20_q15, .ref n9_n20_q23, .ref n9_n20_q31, .ref n9_n20_q39, .ref n9_n20_q48])), (n9_n20_q7, .inl (cI, 48, .inl (fun _ => 0))), (n9_n20_q15, .inl (cI, 11, .inl (fun _ => 0))), (n9_n20_q23, .inl (cI, 11, .inl (fun _ => 0))), (n9_n20_q31, .inl (cI, 11, .inl (fun _ => 0))), (n9_n20_q39, .inl (cI, 11, .inl (fun _ => 0))), (n9_n20_q48, .inl (cI, 165, .inl (fun _ => 0))), (q18, .inl (cI, 15, .inl (fun _ => 0))), (q28, .inr (6, [.ref a1, .ref a3])), (q67, .inr (7, [.ref a1])), (q79, .inr (8, [.ref a1, .ref n84_q7, .ref n84_q15, .int 0, .ref n84_q23, .int 0])), (n84_q7, .inl (cI, 24, .inl (fun _ => 0))), (n84_q15, .inl (cI, 24, .inl (fun _ => 0))), (n84_q23, .inl (cI, 6, .inl (fun _ => 0))), (q91, .inr (9, [.null, .null, .null, .int 0, .int 0, .int 0, .int 0, .int 0, .int 0, .int 0, .int 0]))] := hD
  refine lv_dup hx hb d_En_init_94 rfl ?_
  refine lv_aload_n hx hb d_En_init_95 rfl (lv_at hl 2 rfl) ?_
  refine lv_aload hx hb d_En_init_96 (lv_at hl 0 rfl) ?_
  have hPc := hP.sub (ws' := [(q91, .inr (9, [.null, .null, .null, .int 0, .int 0, .int 0, .int 0, .int 0, .int 0, .int 0, .int 0]))]) [18] rfl
  have hDc := hD.sub (ws' := [(q91, .inr (9, [.null, .null, .null, .int 0, .int 0, .int 0, .int 0, .int 0, .int 0, .int 0, .int 0]))]) [18] (by decide) rfl
  have hFc := va_free (wc := [(q91, .inr (9, [.null, .null, .null, .int 0, .int 0, .int 0, .int 0, .int 0, .int 0, .int 0, .int 0]))]) hD hS hA [18] rfl
  refine tx_callK (A1 := va_A [(q91, .inr (9, [.null, .null, .null, .int 0, .int 0, .int 0, .int 0, .int 0, .int 0, .int 0, .int 0]))] H.size) (tx_runI (As := [.ref a1, .ref q28]) (rest := [.ref q91, .ref h0]) ⟨hx, hb, hml, hown, hts⟩ (c_In_init l hfl dC dI cI q91 a1 q28 H.size) (tx_cb (n := 2) hts rfl rfl ⟨Nat.le_of_ble_eq_true rfl, Nat.le_of_ble_eq_true rfl⟩ (tx_code.of (hts _ mw_217)) (hts _ mw_11) (by decide +kernel) (hts _ mw_215)) (hts _ mw_217) rfl (hts _ mw_216) ⟨tq_blind, fun U hU hW => ⟨rfl, by rw [hU], by rw [hU]; exact hPc, va_K.moved hW.alike hK, hDc.weaken (fun _ _ _ _ => trivial), hst _ _ hS U hU hW⟩⟩ rfl rfl hl.1 rfl (lv_room (Nat.le_of_ble_eq_true rfl)) d_En_init_98 ⟨Nat.le_of_ble_eq_true rfl, Nat.le_of_ble_eq_true rfl⟩) hS (fun q _ h => hFc q h) hFc (fun v t H98 locs ht hWt hpost hz1 hk1 hS => ?_) (fun x t H1 locs ht hWt hpost hz1 hk1 hS => by cases hpost.1)
  obtain ⟨ho, n98_q6, hP1, hK1, hD1⟩ := hpost
  cases ho
  rw [ht] at hP1
  obtain ⟨hP, hD⟩ := va_join (wr := [(h0, .inr (5, [.ref a1, .ref a2, .ref a3, .ref a4, .ref q28, .ref q67, .ref q79, .null, .ref q5, .ref q18, .int 0, .int (-1), .int 0, .int 0, .int 0])), (q5, .inr (10, [.int 0, .ref n9_q5, .ref n9_q16, .int 0])), (n9_q5, .inr (1, [.ref n9_n9_q8])), (n9_n9_q8, .inl (cI, 512, .inl (fun _ => 0))), (n9_q16, .inr (3, [.ref n9_n20_q7, .int 0, .int 0, .ref n9_n20_q15, .ref n9_n20_q23, .ref n9_n20_q31, .ref n9_n20_q39, .ref n9_n20_q48])), (n9_n20_q7, .inl (cI, 48, .inl (fun _ => 0))), (n9_n20_q15, .inl (cI, 11, .inl (fun _ => 0))), (n9_n20_q23, .inl (cI, 11, .inl (fun _ => 0))), (n9_n20_q31, .inl (cI, 11, .inl (fun _ => 0))), (n9_n20_q39, .inl (cI, 11, .inl (fun _ => 0))), (n9_n20_q48, .inl (cI, 165, .inl (fun _ => 0))), (q18, .inl (cI, 15, .inl (fun _ => 0))), (q28, .inr (6, [.ref a1, .ref a3])), (q67, .inr (7, [.ref a1])), (q79, .inr (8, [.ref a1, .ref n84_q7, .ref n84_q15, .int 0, .ref n84_q23, .int 0])), (n84_q7, .inl (cI, 24, .inl (fun _ => 0))), (n84_q15, .inl (cI, 24, .inl (fun _ => 0))), (n84_q23, .inl (cI, 6, .inl (fun _ => 0)))]) (w1 := [(q91, .inr (9, [.ref a1, .ref q28, .ref n98_q6, .int 0, .int 0, .int 0, .int 0, .int 0, .int 0, .int 0, .int 0])), (n98_q6, .inl (cI, 4, .inl (fun _ => 0)))]) hP hD [18] [0, 1, 2, 3, 4, 5, 6, 7, 8, 9, 10, 11, 12, 13, 14, 15, 16, 17] rfl rfl (by decide) (by decide) hk1 hFc hP1 hD1
  have hP : va_P (dC, dI) vcl [(h0, .inr (5, [.ref a1, .ref a2, .ref a3, .ref a4, .ref q28, .ref q67, .ref q79, .null, .ref q5, .ref q18, .int 0, .int (-1), .int 0, .int 0, .int 0])), (q5, .inr (10, [.int 0, .ref n9_q5, .ref n9_q16, .int 0])), (n9_q5, .inr (1, [.ref n9_n9_q8])), (n9_n9_q8, .inl (cI, 512, .inl (fun _ => 0))), (n9_q16, .inr (3, [.ref n9_n20_q7, .int 0, .int 0, .ref n9_n20_q15, .ref n9_n20_q23, .ref n9_n20_q31, .ref n9_n20_q39, .ref n9_n20_q48])), (n9_n20_q7, .inl (cI, 48, .inl (fun _ => 0))), (n9_n20_q15, .inl (cI, 11, .inl (fun _ => 0))), (n9_n20_q23, .inl (cI, 11, .inl (fun _ => 0))), (n9_n20_q31, .inl (cI, 11, .inl (fun _ => 0))), (n9_n20_q39, .inl (cI, 11, .inl (fun _ => 0))), (n9_n20_q48, .inl (cI, 165, .inl (fun _ => 0))), (q18, .inl (cI, 15, .inl (fun _ => 0))), (q28, .inr (6, [.ref a1, .ref a3])), (q67, .inr (7, [.ref a1])), (q79, .inr (8, [.ref a1, .ref n84_q7, .ref n84_q15, .int 0, .ref n84_q23, .int 0])), (n84_q7, .inl (cI, 24, .inl (fun _ => 0))), (n84_q15, .inl (cI, 24, .inl (fun _ => 0))), (n84_q23, .inl (cI, 6, .inl (fun _ => 0))), (q91, .inr (9, [.ref a1, .ref q28, .ref n98_q6, .int 0, .int 0, .int 0, .int 0, .int 0, .int 0, .int 0, .int 0])), (n98_q6, .inl (cI, 4, .inl (fun _ => 0)))] H98 := hP
  have hD : va_D A [(h0, .inr (5, [.ref a1, .ref a2, .ref a3, .ref a4, .ref q28, .ref q67, .ref q79, .null, .ref q5, .ref q18, .int 0, .int (-1), .int 0, .int 0, .int 0])), (q5, .inr (10, [.int 0, .ref n9_q5, .ref n9_q16, .int 0])), (n9_q5, .inr (1, [.ref n9_n9_q8])), (n9_n9_q8, .inl (cI, 512, .inl (fun _ => 0))), (n9_q16, .inr (3, [.ref n9_n20_q7, .int 0, .int 0, .ref n9_n20_q15, .ref n9_n20_q23, .ref n9_n20_q31, .ref n9_n20_q39, .ref n9_n20_q48])), (n9_n20_q7, .inl (cI, 48, .inl (fun _ => 0))), (n9_n20_q15, .inl (cI, 11, .inl (fun _ => 0))), (n9_n20_q23, .inl (cI, 11, .inl (fun _ => 0))), (n9_n20_q31, .inl (cI, 11, .inl (fun _ => 0))), (n9_n20_q39, .inl (cI, 11, .inl (fun _ => 0))), (n9_n20_q48, .inl (cI, 165, .inl (fun _ => 0))), (q18, .inl (cI, 15, .inl (fun _ => 0))), (q28, .inr (6, [.ref a1, .ref a3])), (q67, .inr (7, [.ref a1])), (q79, .inr (8, [.ref a1, .ref n84_q7, .ref n84_q15, .int 0, .ref n84_q23, .int 0])), (n84_q7, .inl (cI, 24, .inl (fun _ => 0))), (n84_q15, .inl (cI, 24, .inl (fun _ => 0))), (n84_q23, .inl (cI, 6, .inl (fun _ => 0))), (q91, .inr (9, [.ref a1, .ref q28, .ref n98_q6, .int 0, .int 0, .int 0, .int 0, .int 0, .int 0, .int 0, .int 0])), (n98_q6, .inl (cI, 4, .inl (fun _ => 0)))] := hD
  refine va_putF (D := (dC, dI)) (ci := 5) (v := .ref q91) (ty := .object "StoryMachine$Instruction") (C := "StoryMachine$Engine") (T := T_En) (N := 15) hx hb hts in_En t_En tk_En nm_En hown hK hP hD hS 0 rfl rfl 7 (by decide) (hts _ mw_268) (fun _ h9 => h9) rfl hin rfl (by decide +kernel) rfl rfl (Nat.le_of_ble_eq_true rfl) d_En_init_101 (fun H locs hP hD hS => ?_)
  have hP : va_P (dC, dI) vcl [(h0, .inr (5, [.ref a1, .ref a2, .ref a3, .ref a4, .ref q28, .ref q67, .ref q79, .ref q91, .ref q5, .ref q18, .int 0, .int (-1), .int 0, .int 0, .int 0])), (q5, .inr (10, [.int 0, .ref n9_q5, .ref n9_q16, .int 0])), (n9_q5, .inr (1, [.ref n9_n9_q8])), (n9_n9_q8, .inl (cI, 512, .inl (fun _ => 0))), (n9_q16, .inr (3, [.ref n9_n20_q7, .int 0, .int 0, .ref n9_n20_q15, .ref n9_n20_q23, .ref n9_n20_q31, .ref n9_n20_q39, .ref n9_n20_q48])), (n9_n20_q7, .inl (cI, 48, .inl (fun _ => 0))), (n9_n20_q15, .inl (cI, 11, .inl (fun _ => 0))), (n9_n20_q23, .inl (cI, 11, .inl (fun _ => 0))), (n9_n20_q31, .inl (cI, 11, .inl (fun _ => 0))), (n9_n20_q39, .inl (cI, 11, .inl (fun _ => 0))), (n9_n20_q48, .inl (cI, 165, .inl (fun _ => 0))), (q18, .inl (cI, 15, .inl (fun _ => 0))), (q28, .inr (6, [.ref a1, .ref a3])), (q67, .inr (7, [.ref a1])), (q79, .inr (8, [.ref a1, .ref n84_q7, .ref n84_q15, .int 0, .ref n84_q23, .int 0])), (n84_q7, .inl (cI, 24, .inl (fun _ => 0))), (n84_q15, .inl (cI, 24, .inl (fun _ => 0))), (n84_q23, .inl (cI, 6, .inl (fun _ => 0))), (q91, .inr (9, [.ref a1, .ref q28, .ref n98_q6, .int 0, .int 0, .int 0, .int 0, .int 0, .int 0, .int 0, .int 0])), (n98_q6, .inl (cI, 4, .inl (fun _ => 0)))] H := hP
  have hD : va_D A [(h0, .inr (5, [.ref a1, .ref a2, .ref a3, .ref a4, .ref q28, .ref q67, .ref q79, .ref q91, .ref q5, .ref q18, .int 0, .int (-1), .int 0, .int 0, .int 0])), (q5, .inr (10, [.int 0, .ref n9_q5, .ref n9_q16, .int 0])), (n9_q5, .inr (1, [.ref n9_n9_q8])), (n9_n9_q8, .inl (cI, 512, .inl (fun _ => 0))), (n9_q16, .inr (3, [.ref n9_n20_q7, .int 0, .int 0, .ref n9_n20_q15, .ref n9_n20_q23, .ref n9_n20_q31, .ref n9_n20_q39, .ref n9_n20_q48])), (n9_n20_q7, .inl (cI, 48, .inl (fun _ => 0))), (n9_n20_q15, .inl (cI, 11, .inl (fun _ => 0))), (n9_n20_q23, .inl (cI, 11, .inl (fun _ => 0))), (n9_n20_q31, .inl (cI, 11, .inl (fun _ => 0))), (n9_n20_q39, .inl (cI, 11, .inl (fun _ => 0))), (n9_n20_q48, .inl (cI, 165, .inl (fun _ => 0))), (q18, .inl (cI, 15, .inl (fun _ => 0))), (q28, .inr (6, [.ref a1, .ref a3])), (q67, .inr (7, [.ref a1])), (q79, .inr (8, [.ref a1, .ref n84_q7, .ref n84_q15, .int 0, .ref n84_q23, .int 0])), (n84_q7, .inl (cI, 24, .inl (fun _ => 0))), (n84_q15, .inl (cI, 24, .inl (fun _ => 0))), (n84_q23, .inl (cI, 6, .inl (fun _ => 0))), (q91, .inr (9, [.ref a1, .ref q28, .ref n98_q6, .int 0, .int 0, .int 0, .int 0, .int 0, .int 0, .int 0, .int 0])), (n98_q6, .inl (cI, 4, .inl (fun _ => 0)))] := hD
  have hP9 := hP.sub (ws' := [(h0, .inr (5, [.ref a1, .ref a2, .ref a3, .ref a4, .ref q28, .ref q67, .ref q79, .ref q91, .ref q5, .ref q18, .int 0, .int (-1), .int 0, .int 0, .int 0])), (q5, .inr (10, [.int 0, .ref n9_q5, .ref n9_q16, .int 0])), (n9_q5, .inr (1, [.ref n9_n9_q8])), (n9_n9_q8, .inl (cI, 512, .inl (fun _ => 0))), (n9_q16, .inr (3, [.ref n9_n20_q7, .int 0, .int 0, .ref n9_n20_q15, .ref n9_n20_q23, .ref n9_n20_q31, .ref n9_n20_q39, .ref n9_n20_q48])), (n9_n20_q7, .inl (cI, 48, .inl (fun _ => 0))), (n9_n20_q15, .inl (cI, 11, .inl (fun _ => 0))), (n9_n20_q23, .inl (cI, 11, .inl (fun _ => 0))), (n9_n20_q31, .inl (cI, 11, .inl (fun _ => 0))), (n9_n20_q39, .inl (cI, 11, .inl (fun _ => 0))), (n9_n20_q48, .inl (cI, 165, .inl (fun _ => 0))), (q18, .inl (cI, 15, .inl (fun _ => 0))), (q28, .inr (6, [.ref a1, .ref a3])), (q67, .inr (7, [.ref a1])), (q79, .inr (8, [.ref a1, .ref n84_q7, .ref n84_q15, .int 0, .ref n84_q23, .int 0])), (n84_q7, .inl (cI, 24, .inl (fun _ => 0))), (n84_q15, .inl (cI, 24, .inl (fun _ => 0))), (n84_q23, .inl (cI, 6, .inl (fun _ => 0))), (q91, .inr (9, [.ref a1, .ref q28, .ref n98_q6, .int 0, .int 0, .int 0, .int 0, .int 0, .int 0, .int 0, .int 0])), (n98_q6, .inl (cI, 4, .inl (fun _ => 0)))]) [0, 1, 2, 3, 4, 5, 6, 7, 8, 9, 10, 11, 12, 13, 14, 15, 16, 17, 18, 19] rfl
  have hD9 := hD.sub (ws' := [(h0, .inr (5, [.ref a1, .ref a2, .ref a3, .ref a4, .ref q28, .ref q67, .ref q79, .ref q91, .ref q5, .ref q18, .int 0, .int (-1), .int 0, .int 0, .int 0])), (q5, .inr (10, [.int 0, .ref n9_q5, .ref n9_q16, .int 0])), (n9_q5, .inr (1, [.ref n9_n9_q8])), (n9_n9_q8, .inl (cI, 512, .inl (fun _ => 0))), (n9_q16, .inr (3, [.ref n9_n20_q7, .int 0, .int 0, .ref n9_n20_q15, .ref n9_n20_q23, .ref n9_n20_q31, .ref n9_n20_q39, .ref n9_n20_q48])), (n9_n20_q7, .inl (cI, 48, .inl (fun _ => 0))), (n9_n20_q15, .inl (cI, 11, .inl (fun _ => 0))), (n9_n20_q23, .inl (cI, 11, .inl (fun _ => 0))), (n9_n20_q31, .inl (cI, 11, .inl (fun _ => 0))), (n9_n20_q39, .inl (cI, 11, .inl (fun _ => 0))), (n9_n20_q48, .inl (cI, 165, .inl (fun _ => 0))), (q18, .inl (cI, 15, .inl (fun _ => 0))), (q28, .inr (6, [.ref a1, .ref a3])), (q67, .inr (7, [.ref a1])), (q79, .inr (8, [.ref a1, .ref n84_q7, .ref n84_q15, .int 0, .ref n84_q23, .int 0])), (n84_q7, .inl (cI, 24, .inl (fun _ => 0))), (n84_q15, .inl (cI, 24, .inl (fun _ => 0))), (n84_q23, .inl (cI, 6, .inl (fun _ => 0))), (q91, .inr (9, [.ref a1, .ref q28, .ref n98_q6, .int 0, .int 0, .int 0, .int 0, .int 0, .int 0, .int 0, .int 0])), (n98_q6, .inl (cI, 4, .inl (fun _ => 0)))]) [0, 1, 2, 3, 4, 5, 6, 7, 8, 9, 10, 11, 12, 13, 14, 15, 16, 17, 18, 19] (by decide) rfl
  refine W.widen (k := 19) (n := 875) (Nat.le_of_ble_eq_true rfl) (Nat.le_of_ble_eq_true rfl) ?_
  exact tx_ret (W.vret hx hb hr (fun t ht hW => ⟨⟨rfl, q5, n9_q5, n9_n9_q8, n9_q16, n9_n20_q7, n9_n20_q15, n9_n20_q23, n9_n20_q31, n9_n20_q39, n9_n20_q48, q18, q28, q67, q79, n84_q7, n84_q15, n84_q23, q91, n98_q6, by rw [ht]; exact hP9, va_K.moved hW.alike hK, hAe ▸ hD9⟩, hS.F ht⟩) (hS.2.2) d_En_init_104)
end
section
/-! Contracts; written by wip/tools/p1.py. -/
set_option maxHeartbeats 4000000 in
set_option maxRecDepth 100000 in
theorem c_SM_init (l : Launch) (hfl : l.flags = pinnedFlags ++ [noTraceFlag]) (dC : Nat → ClassId) (dI : Nat → Nat → Nat) (cI : ClassId) (h0 : Nat) (sz : Nat) : tx_Met l ⟨"StoryMachine", "<init>", "()V"⟩ tw_tbl ({ frames := 4, cells := 34, slots := 1790, locals := 120 }) (tq_P (dC, dI) vcl [.ref h0] sz [(h0, .inr (0, [.null, .null, .null, .null, .null]))] [(cI, .int)]) (tq_Q (fun o t => o = .returned none ∧ ∃ (q4 n8_q8 q12 n16_q7 n16_q15 q20 n24_q7 n24_q15 n24_q23 n24_q31 n24_q39 n24_q48 q28 n33_q7 q60 n69_q5 n69_n9_q5 n69_n9_n9_q8 n69_n9_q16 n69_n9_n20_q7 n69_n9_n20_q15 n69_n9_n20_q23 n69_n9_n20_q31 n69_n9_n20_q39 n69_n9_n20_q48 n69_q18 n69_q28 n69_q67 n69_q79 n69_n84_q7 n69_n84_q15 n69_n84_q23 n69_q91 n69_n98_q6 : Nat), va_P (dC, dI) vcl [(h0, .inr (0, [.ref q4, .ref q12, .ref q20, .ref q28, .ref q60])), (q4, .inr (1, [.ref n8_q8])), (n8_q8, .inl (cI, 512, .inl (fun _ => 0))), (q12, .inr (2, [.ref n16_q7, .int 0, .ref n16_q15, .int 0, .int 0])), (n16_q7, .inl (cI, 24, .inl (fun _ => 0))), (n16_q15, .inl (cI, 24, .inl (fun _ => 0))), (q20, .inr (3, [.ref n24_q7, .int 0, .int 0, .ref n24_q15, .ref n24_q23, .ref n24_q31, .ref n24_q39, .ref n24_q48])), (n24_q7, .inl (cI, 48, .inl (fun _ => 0))), (n24_q15, .inl (cI, 11, .inl (fun _ => 0))), (n24_q23, .inl (cI, 11, .inl (fun _ => 0))), (n24_q31, .inl (cI, 11, .inl (fun _ => 0))), (n24_q39, .inl (cI, 11, .inl (fun _ => 0))), (n24_q48, .inl (cI, 165, .inl (fun _ => 0))), (q28, .inr (4, [.ref q4, .ref n33_q7, .int 0, .int 0, .int 0])), (n33_q7, .inl (cI, 64, .inl (fun _ => 0))), (q60, .inr (5, [.ref q4, .ref q12, .ref q20, .ref q28, .ref n69_q28, .ref n69_q67, .ref n69_q79, .ref n69_q91, .ref n69_q5, .ref n69_q18, .int 0, .int (-1), .int 0, .int 0, .int 0])), (n69_q5, .inr (10, [.int 0, .ref n69_n9_q5, .ref n69_n9_q16, .int 0])), (n69_n9_q5, .inr (1, [.ref n69_n9_n9_q8])), (n69_n9_n9_q8, .inl (cI, 512, .inl (fun _ => 0))), (n69_n9_q16, .inr (3, [.ref n69_n9_n20_q7, .int 0, .int 0, .ref n69_n9_n20_q15, .ref n69_n9_n20_q23, .ref n69_n9_n20_q31, .ref n69_n9_n20_q39, .ref n69_n9_n20_q48])), (n69_n9_n20_q7, .inl (cI, 48, .inl (fun _ => 0))), (n69_n9_n20_q15, .inl (cI, 11, .inl (fun _ => 0))), (n69_n9_n20_q23, .inl (cI, 11, .inl (fun _ => 0))), (n69_n9_n20_q31, .inl (cI, 11, .inl (fun _ => 0))), (n69_n9_n20_q39, .inl (cI, 11, .inl (fun _ => 0))), (n69_n9_n20_q48, .inl (cI, 165, .inl (fun _ => 0))), (n69_q18, .inl (cI, 15, .inl (fun _ => 0))), (n69_q28, .inr (6, [.ref q4, .ref q20])), (n69_q67, .inr (7, [.ref q4])), (n69_q79, .inr (8, [.ref q4, .ref n69_n84_q7, .ref n69_n84_q15, .int 0, .ref n69_n84_q23, .int 0])), (n69_n84_q7, .inl (cI, 24, .inl (fun _ => 0))), (n69_n84_q15, .inl (cI, 24, .inl (fun _ => 0))), (n69_n84_q23, .inl (cI, 6, .inl (fun _ => 0))), (n69_q91, .inr (9, [.ref q4, .ref n69_q28, .ref n69_n98_q6, .int 0, .int 0, .int 0, .int 0, .int 0, .int 0, .int 0, .int 0])), (n69_n98_q6, .inl (cI, 4, .inl (fun _ => 0)))] t.heap ∧ va_K (dC, dI) vcl [(cI, .int)] t ∧ va_D (va_A [(h0, .inr (0, [.null, .null, .null, .null, .null]))] sz) [(h0, .inr (0, [.ref q4, .ref q12, .ref q20, .ref q28, .ref q60])), (q4, .inr (1, [.ref n8_q8])), (n8_q8, .inl (cI, 512, .inl (fun _ => 0))), (q12, .inr (2, [.ref n16_q7, .int 0, .ref n16_q15, .int 0, .int 0])), (n16_q7, .inl (cI, 24, .inl (fun _ => 0))), (n16_q15, .inl (cI, 24, .inl (fun _ => 0))), (q20, .inr (3, [.ref n24_q7, .int 0, .int 0, .ref n24_q15, .ref n24_q23, .ref n24_q31, .ref n24_q39, .ref n24_q48])), (n24_q7, .inl (cI, 48, .inl (fun _ => 0))), (n24_q15, .inl (cI, 11, .inl (fun _ => 0))), (n24_q23, .inl (cI, 11, .inl (fun _ => 0))), (n24_q31, .inl (cI, 11, .inl (fun _ => 0))), (n24_q39, .inl (cI, 11, .inl (fun _ => 0))), (n24_q48, .inl (cI, 165, .inl (fun _ => 0))), (q28, .inr (4, [.ref q4, .ref n33_q7, .int 0, .int 0, .int 0])), (n33_q7, .inl (cI, 64, .inl (fun _ => 0))), (q60, .inr (5, [.ref q4, .ref q12, .ref q20, .ref q28, .ref n69_q28, .ref n69_q67, .ref n69_q79, .ref n69_q91, .ref n69_q5, .ref n69_q18, .int 0, .int (-1), .int 0, .int 0, .int 0])), (n69_q5, .inr (10, [.int 0, .ref n69_n9_q5, .ref n69_n9_q16, .int 0])), (n69_n9_q5, .inr (1, [.ref n69_n9_n9_q8])), (n69_n9_n9_q8, .inl (cI, 512, .inl (fun _ => 0))), (n69_n9_q16, .inr (3, [.ref n69_n9_n20_q7, .int 0, .int 0, .ref n69_n9_n20_q15, .ref n69_n9_n20_q23, .ref n69_n9_n20_q31, .ref n69_n9_n20_q39, .ref n69_n9_n20_q48])), (n69_n9_n20_q7, .inl (cI, 48, .inl (fun _ => 0))), (n69_n9_n20_q15, .inl (cI, 11, .inl (fun _ => 0))), (n69_n9_n20_q23, .inl (cI, 11, .inl (fun _ => 0))), (n69_n9_n20_q31, .inl (cI, 11, .inl (fun _ => 0))), (n69_n9_n20_q39, .inl (cI, 11, .inl (fun _ => 0))), (n69_n9_n20_q48, .inl (cI, 165, .inl (fun _ => 0))), (n69_q18, .inl (cI, 15, .inl (fun _ => 0))), (n69_q28, .inr (6, [.ref q4, .ref q20])), (n69_q67, .inr (7, [.ref q4])), (n69_q79, .inr (8, [.ref q4, .ref n69_n84_q7, .ref n69_n84_q15, .int 0, .ref n69_n84_q23, .int 0])), (n69_n84_q7, .inl (cI, 24, .inl (fun _ => 0))), (n69_n84_q15, .inl (cI, 24, .inl (fun _ => 0))), (n69_n84_q23, .inl (cI, 6, .inl (fun _ => 0))), (n69_q91, .inr (9, [.ref q4, .ref n69_q28, .ref n69_n98_q6, .int 0, .int 0, .int 0, .int 0, .int 0, .int 0, .int 0, .int 0])), (n69_n98_q6, .inl (cI, 4, .inl (fun _ => 0)))]) (va_A [(h0, .inr (0, [.null, .null, .null, .null, .null]))] sz)) 34 1790 (va_A [(h0, .inr (0, [.null, .null, .null, .null, .null]))] sz) := by
  refine tx_ofW (cc := prog_1_method_1_code) (maxL := 5) (ret := none) (by decide) (tx_isM mw_32) ?_
  intro p e s m args below meth c s₁ B hml hv
  obtain ⟨rfl, hsz, hP, hK, hD0, hst0⟩ := hv
  have hx := B.exec
  have hb := B.bytes
  have hr := B.returns
  have hts := atoms_spec (ws := tw_tbl) B.pre
  have hown : s.vm.findClass "StoryMachine" = some m.cls := findClass_of_methodNamed B.named
  have hlocks := B.notSynchronized
  have hin : meth.name = "<init>" := (name_of_methodNamed B.named B.method).1
  subst hsz
  have hD := hD0.self (sz := s.heap.size)
  have hst := fun (H : Heap) (locs : List Loc) (hS : va_S (va_A [(h0, .inr (0, [.null, .null, .null, .null, .null]))] s.heap.size) s.heap H locs) (U : State) (hU : U.heap = H) (hW : s.WarmedH U.vm) => ts_keep hW (fun q cell h1 h2 => by rw [hU]; exact ts_va hP hS q cell h1 h2) hst0
  generalize hAe : va_A [(h0, .inr (0, [.null, .null, .null, .null, .null]))] s.heap.size = A at hD hst ⊢
  have hA : ∀ q : Nat, s.heap.size ≤ q → A q := fun q h => by rw [← hAe]; exact Or.inr h
  have hS : va_S A s.heap s.heap [] := va_S.rf
  have hP : va_P (dC, dI) vcl [(h0, .inr (0, [.null, .null, .null, .null, .null]))] s.heap := hP
  have hl := lv_entry ([.ref h0]) (n := 5) (Nat.le_of_ble_eq_true rfl)
  rw [lg_entry_eq]
  generalize (lg_sl ([.ref h0]) ++ List.replicate (5 - (lg_sl ([.ref h0])).length) Slot.unset).toArray = ls at hl ⊢
  have hl : lv_has ls 5 [(0, .ref h0)] := hl
  refine lv_aload_n hx hb d_SM_init_0 rfl (lv_at hl 0 rfl) ?_
  refine W.objInit hx hb hown (hts _ mw_33) (hts _ mw_34) (hts _ mw_35) rfl (by rw [hml]; exact hl.1) rfl d_SM_init_1 (Nat.le_of_ble_eq_true rfl) (Nat.le_of_ble_eq_true rfl) ?_
  refine W.eq (g2 := F0 m 4 ls []) rfl ?_
  refine va_new (ci := 1) (fs := [.null]) (C := "StoryMachine$Memory") (T := T_Me) (N := 1) hx hb hts in_Me t_Me tk_Me hown (hts _ mw_36) (hts _ mw_37) (hts _ mw_2) hK hP hD hS hA rfl (fun j hj => ta_dec (f := fun j => defaultValue (t_Me j)) (g := vp_V [.null]) (by decide +kernel) j hj) (Nat.le_of_ble_eq_true rfl) (Nat.le_of_ble_eq_true rfl) d_SM_init_4 (fun q4 H hP hD hS => ?_)
  have hP : va_P (dC, dI) vcl [(h0, .inr (0, [.null, .null, .null, .null, .null])), (q4, .inr (1, [.null]))] H := hP
  have hD : va_D A [(h0, .inr (0, [.null, .null, .null, .null, .null])), (q4, .inr (1, [.null]))] := hD
  refine lv_dup hx hb d_SM_init_7 rfl ?_
  have hPc := hP.sub (ws' := [(q4, .inr (1, [.null]))]) [1] rfl
  have hDc := hD.sub (ws' := [(q4, .inr (1, [.null]))]) [1] (by decide) rfl
  have hFc := va_free (wc := [(q4, .inr (1, [.null]))]) hD hS hA [1] rfl
  refine tx_callK (A1 := va_A [(q4, .inr (1, [.null]))] H.size) (tx_runIN (As := []) (rest := [.ref q4]) ⟨hx, hb, hml, hown, hts⟩ (c_Me_init l hfl dC dI cI q4 H.size) (tx_cn (n := 0) hts rfl rfl ⟨Nat.le_of_ble_eq_true rfl, Nat.le_of_ble_eq_true rfl⟩ (hts _ mw_2) (by decide +kernel) (hts _ mw_38)) (hts _ mw_40) rfl (hts _ mw_39) ⟨tq_blind, fun U hU hW => ⟨rfl, by rw [hU], by rw [hU]; exact hPc, va_K.moved hW.alike hK, hDc.weaken (fun _ _ _ _ => trivial), hst _ _ hS U hU hW⟩⟩ rfl rfl hl.1 rfl (lv_room (Nat.le_of_ble_eq_true rfl)) d_SM_init_8 ⟨Nat.le_of_ble_eq_true rfl, Nat.le_of_ble_eq_true rfl⟩) hS (fun q _ h => hFc q h) hFc (fun v t H8 locs ht hWt hpost hz1 hk1 hS => ?_) (fun x t H1 locs ht hWt hpost hz1 hk1 hS => by cases hpost.1)
  obtain ⟨ho, n8_q8, hP1, hK1, hD1⟩ := hpost
  cases ho
  rw [ht] at hP1
  obtain ⟨hP, hD⟩ := va_join (wr := [(h0, .inr (0, [.null, .null, .null, .null, .null]))]) (w1 := [(q4, .inr (1, [.ref n8_q8])), (n8_q8, .inl (cI, 512, .inl (fun _ => 0)))]) hP hD [1] [0] rfl rfl (by decide) (by decide) hk1 hFc hP1 hD1
  have hP : va_P (dC, dI) vcl [(h0, .inr (0, [.null, .null, .null, .null, .null])), (q4, .inr (1, [.ref n8_q8])), (n8_q8, .inl (cI, 512, .inl (fun _ => 0)))] H8 := hP
  have hD : va_D A [(h0, .inr (0, [.null, .null, .null, .null, .null])), (q4, .inr (1, [.ref n8_q8])), (n8_q8, .inl (cI, 512, .inl (fun _ => 0)))] := hD
  refine lv_astore_n (lv' := [(1, .ref q4), (0, .ref h0)]) hx hb d_SM_init_11 rfl hl (by decide) rfl (fun ls hl => ?_)
  refine va_new (ci := 2) (fs := [.null, .int 0, .null, .int 0, .int 0]) (C := "StoryMachine$Line") (T := T_Li) (N := 5) hx hb hts in_Li t_Li tk_Li hown (hts _ mw_48) (hts _ mw_49) (hts _ mw_3) hK hP hD hS hA rfl (fun j hj => ta_dec (f := fun j => defaultValue (t_Li j)) (g := vp_V [.null, .int 0, .null, .int 0, .int 0]) (by decide +kernel) j hj) (Nat.le_of_ble_eq_true rfl) (Nat.le_of_ble_eq_true rfl) d_SM_init_12 (fun q12 H hP hD hS => ?_)
  have hP : va_P (dC, dI) vcl [(h0, .inr (0, [.null, .null, .null, .null, .null])), (q4, .inr (1, [.ref n8_q8])), (n8_q8, .inl (cI, 512, .inl (fun _ => 0))), (q12, .inr (2, [.null, .int 0, .null, .int 0, .int 0]))] H := hP
  have hD : va_D A [(h0, .inr (0, [.null, .null, .null, .null, .null])), (q4, .inr (1, [.ref n8_q8])), (n8_q8, .inl (cI, 512, .inl (fun _ => 0))), (q12, .inr (2, [.null, .int 0, .null, .int 0, .int 0]))] := hD
  refine lv_dup hx hb d_SM_init_15 rfl ?_
  have hPc := hP.sub (ws' := [(q12, .inr (2, [.null, .int 0, .null, .int 0, .int 0]))]) [3] rfl
  have hDc := hD.sub (ws' := [(q12, .inr (2, [.null, .int 0, .null, .int 0, .int 0]))]) [3] (by decide) rfl
  have hFc := va_free (wc := [(q12, .inr (2, [.null, .int 0, .null, .int 0, .int 0]))]) hD hS hA [3] rfl
  refine tx_callK (A1 := va_A [(q12, .inr (2, [.null, .int 0, .null, .int 0, .int 0]))] H.size) (tx_runIN (As := []) (rest := [.ref q12]) ⟨hx, hb, hml, hown, hts⟩ (c_Li_init l hfl dC dI cI q12 H.size) (tx_cn (n := 0) hts rfl rfl ⟨Nat.le_of_ble_eq_true rfl, Nat.le_of_ble_eq_true rfl⟩ (hts _ mw_3) (by decide +kernel) (hts _ mw_50)) (hts _ mw_52) rfl (hts _ mw_51) ⟨tq_blind, fun U hU hW => ⟨rfl, by rw [hU], by rw [hU]; exact hPc, va_K.moved hW.alike hK, hDc.weaken (fun _ _ _ _ => trivial), hst _ _ hS U hU hW⟩⟩ rfl rfl hl.1 rfl (lv_room (Nat.le_of_ble_eq_true rfl)) d_SM_init_16 ⟨Nat.le_of_ble_eq_true rfl, Nat.le_of_ble_eq_true rfl⟩) hS (fun q _ h => hFc q h) hFc (fun v t H16 locs ht hWt hpost hz1 hk1 hS => ?_) (fun x t H1 locs ht hWt hpost hz1 hk1 hS => by cases hpost.1)
  obtain ⟨ho, n16_q7, n16_q15, hP1, hK1, hD1⟩ := hpost
  cases ho
  rw [ht] at hP1
  obtain ⟨hP, hD⟩ := va_join (wr := [(h0, .inr (0, [.null, .null, .null, .null, .null])), (q4, .inr (1, [.ref n8_q8])), (n8_q8, .inl (cI, 512, .inl (fun _ => 0)))]) (w1 := [(q12, .inr (2, [.ref n16_q7, .int 0, .ref n16_q15, .int 0, .int 0])), (n16_q7, .inl (cI, 24, .inl (fun _ => 0))), (n16_q15, .inl (cI, 24, .inl (fun _ => 0)))]) hP hD [3] [0, 1, 2] rfl rfl (by decide) (by decide) hk1 hFc hP1 hD1
  have hP : va_P (dC, dI) vcl [(h0, .inr (0, [.null, .null, .null, .null, .null])), (q4, .inr (1, [.ref n8_q8])), (n8_q8, .inl (cI, 512, .inl (fun _ => 0))), (q12, .inr (2, [.ref n16_q7, .int 0, .ref n16_q15, .int 0, .int 0])), (n16_q7, .inl (cI, 24, .inl (fun _ => 0))), (n16_q15, .inl (cI, 24, .inl (fun _ => 0)))] H16 := hP
  have hD : va_D A [(h0, .inr (0, [.null, .null, .null, .null, .null])), (q4, .inr (1, [.ref n8_q8])), (n8_q8, .inl (cI, 512, .inl (fun _ => 0))), (q12, .inr (2, [.ref n16_q7, .int 0, .ref n16_q15, .int 0, .int 0])), (n16_q7, .inl (cI, 24, .inl (fun _ => 0))), (n16_q15, .inl (cI, 24, .inl (fun _ => 0)))] := hD
  refine lv_astore_n (lv' := [(2, .ref q12), (1, .ref q4), (0, .ref h0)]) hx hb d_SM_init_19 rfl hl (by decide) rfl (fun ls hl => ?_)
  refine va_new (ci := 3) (fs := [.null, .int 0, .int 0, .null, .null, .null, .null, .null]) (C := "StoryMachine$Routines") (T := T_Ro) (N := 8) hx hb hts in_Ro t_Ro tk_Ro hown (hts _ mw_74) (hts _ mw_75) (hts _ mw_4) hK hP hD hS hA rfl (fun j hj => ta_dec (f := fun j => defaultValue (t_Ro j)) (g := vp_V [.null, .int 0, .int 0, .null, .null, .null, .null, .null]) (by decide +kernel) j hj) (Nat.le_of_ble_eq_true rfl) (Nat.le_of_ble_eq_true rfl) d_SM_init_20 (fun q20 H hP hD hS => ?_)
  have hP : va_P (dC, dI) vcl [(h0, .inr (0, [.null, .null, .null, .null, .null])), (q4, .inr (1, [.ref n8_q8])), (n8_q8, .inl (cI, 512, .inl (fun _ => 0))), (q12, .inr (2, [.ref n16_q7, .int 0, .ref n16_q15, .int 0, .int 0])), (n16_q7, .inl (cI, 24, .inl (fun _ => 0))), (n16_q15, .inl (cI, 24, .inl (fun _ => 0))), (q20, .inr (3, [.null, .int 0, .int 0, .null, .null, .null, .null, .null]))] H := hP
  have hD : va_D A [(h0, .inr (0, [.null, .null, .null, .null, .null])), (q4, .inr (1, [.ref n8_q8])), (n8_q8, .inl (cI, 512, .inl (fun _ => 0))), (q12, .inr (2, [.ref n16_q7, .int 0, .ref n16_q15, .int 0, .int 0])), (n16_q7, .inl (cI, 24, .inl (fun _ => 0))), (n16_q15, .inl (cI, 24, .inl (fun _ => 0))), (q20, .inr (3, [.null, .int 0, .int 0, .null, .null, .null, .null, .null]))] := hD
  refine lv_dup hx hb d_SM_init_23 rfl ?_
  have hPc := hP.sub (ws' := [(q20, .inr (3, [.null, .int 0, .int 0, .null, .null, .null, .null, .null]))]) [6] rfl
  have hDc := hD.sub (ws' := [(q20, .inr (3, [.null, .int 0, .int 0, .null, .null, .null, .null, .null]))]) [6] (by decide) rfl
  have hFc := va_free (wc := [(q20, .inr (3, [.null, .int 0, .int 0, .null, .null, .null, .null, .null]))]) hD hS hA [6] rfl
  refine tx_callK (A1 := va_A [(q20, .inr (3, [.null, .int 0, .int 0, .null, .null, .null, .null, .null]))] H.size) (tx_runIN (As := []) (rest := [.ref q20]) ⟨hx, hb, hml, hown, hts⟩ (c_Ro_init l hfl dC dI cI q20 H.size) (tx_cn (n := 0) hts rfl rfl ⟨Nat.le_of_ble_eq_true rfl, Nat.le_of_ble_eq_true rfl⟩ (hts _ mw_4) (by decide +kernel) (hts _ mw_76)) (hts _ mw_78) rfl (hts _ mw_77) ⟨tq_blind, fun U hU hW => ⟨rfl, by rw [hU], by rw [hU]; exact hPc, va_K.moved hW.alike hK, hDc.weaken (fun _ _ _ _ => trivial), hst _ _ hS U hU hW⟩⟩ rfl rfl hl.1 rfl (lv_room (Nat.le_of_ble_eq_true rfl)) d_SM_init_24 ⟨Nat.le_of_ble_eq_true rfl, Nat.le_of_ble_eq_true rfl⟩) hS (fun q _ h => hFc q h) hFc (fun v t H24 locs ht hWt hpost hz1 hk1 hS => ?_) (fun x t H1 locs ht hWt hpost hz1 hk1 hS => by cases hpost.1)
  obtain ⟨ho, n24_q7, n24_q15, n24_q23, n24_q31, n24_q39, n24_q48, hP1, hK1, hD1⟩ := hpost
  cases ho
  rw [ht] at hP1
  obtain ⟨hP, hD⟩ := va_join (wr := [(h0, .inr (0, [.null, .null, .null, .null, .null])), (q4, .inr (1, [.ref n8_q8])), (n8_q8, .inl (cI, 512, .inl (fun _ => 0))), (q12, .inr (2, [.ref n16_q7, .int 0, .ref n16_q15, .int 0, .int 0])), (n16_q7, .inl (cI, 24, .inl (fun _ => 0))), (n16_q15, .inl (cI, 24, .inl (fun _ => 0)))]) (w1 := [(q20, .inr (3, [.ref n24_q7, .int 0, .int 0, .ref n24_q15, .ref n24_q23, .ref n24_q31, .ref n24_q39, .ref n24_q48])), (n24_q7, .inl (cI, 48, .inl (fun _ => 0))), (n24_q15, .inl (cI, 11, .inl (fun _ => 0))), (n24_q23, .inl (cI, 11, .inl (fun _ => 0))), (n24_q31, .inl (cI, 11, .inl (fun _ => 0))), (n24_q39, .inl (cI, 11, .inl (fun _ => 0))), (n24_q48, .inl (cI, 165, .inl (fun _ => 0)))]) hP hD [6] [0, 1, 2, 3, 4, 5] rfl rfl (by decide) (by decide) hk1 hFc hP1 hD1
  have hP : va_P (dC, dI) vcl [(h0, .inr (0, [.null, .null, .null, .null, .null])), (q4, .inr (1, [.ref n8_q8])), (n8_q8, .inl (cI, 512, .inl (fun _ => 0))), (q12, .inr (2, [.ref n16_q7, .int 0, .ref n16_q15, .int 0, .int 0])), (n16_q7, .inl (cI, 24, .inl (fun _ => 0))), (n16_q15, .inl (cI, 24, .inl (fun _ => 0))), (q20, .inr (3, [.ref n24_q7, .int 0, .int 0, .ref n24_q15, .ref n24_q23, .ref n24_q31, .ref n24_q39, .ref n24_q48])), (n24_q7, .inl (cI, 48, .inl (fun _ => 0))), (n24_q15, .inl (cI, 11, .inl (fun _ => 0))), (n24_q23, .inl (cI, 11, .inl (fun _ => 0))), (n24_q31, .inl (cI, 11, .inl (fun _ => 0))), (n24_q39, .inl (cI, 11, .inl (fun _ => 0))), (n24_q48, .inl (cI, 165, .inl (fun _ => 0)))] H24 := hP
  have hD : va_D A [(h0, .inr (0, [.null, .null, .null, .null, .null])), (q4, .inr (1, [.ref n8_q8])), (n8_q8, .inl (cI, 512, .inl (fun _ => 0))), (q12, .inr (2, [.ref n16_q7, .int 0, .ref n16_q15, .int 0, .int 0])), (n16_q7, .inl (cI, 24, .inl (fun _ => 0))), (n16_q15, .inl (cI, 24, .inl (fun _ => 0))), (q20, .inr (3, [.ref n24_q7, .int 0, .int 0, .ref n24_q15, .ref n24_q23, .ref n24_q31, .ref n24_q39, .ref n24_q48])), (n24_q7, .inl (cI, 48, .inl (fun _ => 0))), (n24_q15, .inl (cI, 11, .inl (fun _ => 0))), (n24_q23, .inl (cI, 11, .inl (fun _ => 0))), (n24_q31, .inl (cI, 11, .inl (fun _ => 0))), (n24_q39, .inl (cI, 11, .inl (fun _ => 0))), (n24_q48, .inl (cI, 165, .inl (fun _ => 0)))] := hD
  refine lv_astore_n (lv' := [(3, .ref q20), (2, .ref q12), (1, .ref q4), (0, .ref h0)]) hx hb d_SM_init_27 rfl hl (by decide) rfl (fun ls hl => ?_)
  refine va_new (ci := 4) (fs := [.null, .null, .int 0, .int 0, .int 0]) (C := "StoryMachine$Printer") (T := T_Pr) (N := 5) hx hb hts in_Pr t_Pr tk_Pr hown (hts _ mw_108) (hts _ mw_109) (hts _ mw_5) hK hP hD hS hA rfl (fun j hj => ta_dec (f := fun j => defaultValue (t_Pr j)) (g := vp_V [.null, .null, .int 0, .int 0, .int 0]) (by decide +kernel) j hj) (Nat.le_of_ble_eq_true rfl) (Nat.le_of_ble_eq_true rfl) d_SM_init_28 (fun q28 H hP hD hS => ?_)
  have hP : va_P (dC, dI) vcl [(h0, .inr (0, [.null, .null, .null, .null, .null])), (q4, .inr (1, [.ref n8_q8])), (n8_q8, .inl (cI, 512, .inl (fun _ => 0))), (q12, .inr (2, [.ref n16_q7, .int 0, .ref n16_q15, .int 0, .int 0])), (n16_q7, .inl (cI, 24, .inl (fun _ => 0))), (n16_q15, .inl (cI, 24, .inl (fun _ => 0))), (q20, .inr (3, [.ref n24_q7, .int 0, .int 0, .ref n24_q15, .ref n24_q23, .ref n24_q31, .ref n24_q39, .ref n24_q48])), (n24_q7, .inl (cI, 48, .inl (fun _ => 0))), (n24_q15, .inl (cI, 11, .inl (fun _ => 0))), (n24_q23, .inl (cI, 11, .inl (fun _ => 0))), (n24_q31, .inl (cI, 11, .inl (fun _ => 0))), (n24_q39, .inl (cI, 11, .inl (fun _ => 0))), (n24_q48, .inl (cI, 165, .inl (fun _ => 0))), (q28, .inr (4, [.null, .null, .int 0, .int 0, .int 0]))] H := hP
  have hD : va_D A [(h0, .inr (0, [.null, .null, .null, .null, .null])), (q4, .inr (1, [.ref n8_q8])), (n8_q8, .inl (cI, 512, .inl (fun _ => 0))), (q12, .inr (2, [.ref n16_q7, .int 0, .ref n16_q15, .int 0, .int 0])), (n16_q7, .inl (cI, 24, .inl (fun _ => 0))), (n16_q15, .inl (cI, 24, .inl (fun _ => 0))), (q20, .inr (3, [.ref n24_q7, .int 0, .int 0, .ref n24_q15, .ref n24_q23, .ref n24_q31, .ref n24_q39, .ref n24_q48])), (n24_q7, .inl (cI, 48, .inl (fun _ => 0))), (n24_q15, .inl (cI, 11, .inl (fun _ => 0))), (n24_q23, .inl (cI, 11, .inl (fun _ => 0))), (n24_q31, .inl (cI, 11, .inl (fun _ => 0))), (n24_q39, .inl (cI, 11, .inl (fun _ => 0))), (n24_q48, .inl (cI, 165, .inl (fun _ => 0))), (q28, .inr (4, [.null, .null, .int 0, .int 0, .int 0]))] := hD
  refine lv_dup hx hb d_SM_init_31 rfl ?_
  refine lv_aload_n hx hb d_SM_init_32 rfl (lv_at hl 2 rfl) ?_
  have hPc := hP.sub (ws' := [(q28, .inr (4, [.null, .null, .int 0, .int 0, .int 0]))]) [13] rfl
  have hDc := hD.sub (ws' := [(q28, .inr (4, [.null, .null, .int 0, .int 0, .int 0]))]) [13] (by decide) rfl
  have hFc := va_free (wc := [(q28, .inr (4, [.null, .null, .int 0, .int 0, .int 0]))]) hD hS hA [13] rfl
  refine tx_callK (A1 := va_A [(q28, .inr (4, [.null, .null, .int 0, .int 0, .int 0]))] H.size) (tx_runI (As := [.ref q4]) (rest := [.ref q28]) ⟨hx, hb, hml, hown, hts⟩ (c_Pr_init l hfl dC dI cI q28 q4 H.size) (tx_cb (n := 1) hts rfl rfl ⟨Nat.le_of_ble_eq_true rfl, Nat.le_of_ble_eq_true rfl⟩ (tx_code.of (hts _ mw_112)) (hts _ mw_5) (by decide +kernel) (hts _ mw_110)) (hts _ mw_112) rfl (hts _ mw_111) ⟨tq_blind, fun U hU hW => ⟨rfl, by rw [hU], by rw [hU]; exact hPc, va_K.moved hW.alike hK, hDc.weaken (fun _ _ _ _ => trivial), hst _ _ hS U hU hW⟩⟩ rfl rfl hl.1 rfl (lv_room (Nat.le_of_ble_eq_true rfl)) d_SM_init_33 ⟨Nat.le_of_ble_eq_true rfl, Nat.le_of_ble_eq_true rfl⟩) hS (fun q _ h => hFc q h) hFc (fun v t H33 locs ht hWt hpost hz1 hk1 hS => ?_) (fun x t H1 locs ht hWt hpost hz1 hk1 hS => by cases hpost.1)
  obtain ⟨ho, n33_q7, hP1, hK1, hD1⟩ := hpost
  cases ho
  rw [ht] at hP1
  obtain ⟨hP, hD⟩ := va_join (wr := [(h0, .inr (0, [.null, .null, .null, .null, .null])), (q4, .inr (1, [.ref n8_q8])), (n8_q8, .inl (cI, 512, .inl (fun _ => 0))), (q12, .inr (2, [.ref n16_q7, .int 0, .ref n16_q15, .int 0, .int 0])), (n16_q7, .inl (cI, 24, .inl (fun _ => 0))), (n16_q15, .inl (cI, 24, .inl (fun _ => 0))), (q20, .inr (3, [.ref n24_q7, .int 0, .int 0, .ref n24_q15, .ref n24_q23, .ref n24_q31, .ref n24_q39, .ref n24_q48])), (n24_q7, .inl (cI, 48, .inl (fun _ => 0))), (n24_q15, .inl (cI, 11, .inl (fun _ => 0))), (n24_q23, .inl (cI, 11, .inl (fun _ => 0))), (n24_q31, .inl (cI, 11, .inl (fun _ => 0))), (n24_q39, .inl (cI, 11, .inl (fun _ => 0))), (n24_q48, .inl (cI, 165, .inl (fun _ => 0)))]) (w1 := [(q28, .inr (4, [.ref q4, .ref n33_q7, .int 0, .int 0, .int 0])), (n33_q7, .inl (cI, 64, .inl (fun _ => 0)))]) hP hD [13] [0, 1, 2, 3, 4, 5, 6, 7, 8, 9, 10, 11, 12] rfl rfl (by decide) (by decide) hk1 hFc hP1 hD1
  have hP : va_P (dC, dI) vcl [(h0, .inr (0, [.null, .null, .null, .null, .null])), (q4, .inr (1, [.ref n8_q8])), (n8_q8, .inl (cI, 512, .inl (fun _ => 0))), (q12, .inr (2, [.ref n16_q7, .int 0, .ref n16_q15, .int 0, .int 0])), (n16_q7, .inl (cI, 24, .inl (fun _ => 0))), (n16_q15, .inl (cI, 24, .inl (fun _ => 0))), (q20, .inr (3, [.ref n24_q7, .int 0, .int 0, .ref n24_q15, .ref n24_q23, .ref n24_q31, .ref n24_q39, .ref n24_q48])), (n24_q7, .inl (cI, 48, .inl (fun _ => 0))), (n24_q15, .inl (cI, 11, .inl (fun _ => 0))), (n24_q23, .inl (cI, 11, .inl (fun _ => 0))), (n24_q31, .inl (cI, 11, .inl (fun _ => 0))), (n24_q39, .inl (cI, 11, .inl (fun _ => 0))), (n24_q48, .inl (cI, 165, .inl (fun _ => 0))), (q28, .inr (4, [.ref q4, .ref n33_q7, .int 0, .int 0, .int 0])), (n33_q7, .inl (cI, 64, .inl (fun _ => 0)))] H33 := hP
  have hD : va_D A [(h0, .inr (0, [.null, .null, .null, .null, .null])), (q4, .inr (1, [.ref n8_q8])), (n8_q8, .inl (cI, 512, .inl (fun _ => 0))), (q12, .inr (2, [.ref n16_q7, .int 0, .ref n16_q15, .int 0, .int 0])), (n16_q7, .inl (cI, 24, .inl (fun _ => 0))), (n16_q15, .inl (cI, 24, .inl (fun _ => 0))), (q20, .inr (3, [.ref n24_q7, .int 0, .int 0, .ref n24_q15, .ref n24_q23, .ref n24_q31, .ref n24_q39, .ref n24_q48])), (n24_q7, .inl (cI, 48, .inl (fun _ => 0))), (n24_q15, .inl (cI, 11, .inl (fun _ => 0))), (n24_q23, .inl (cI, 11, .inl (fun _ => 0))), (n24_q31, .inl (cI, 11, .inl (fun _ => 0))), (n24_q39, .inl (cI, 11, .inl (fun _ => 0))), (n24_q48, .inl (cI, 165, .inl (fun _ => 0))), (q28, .inr (4, [.ref q4, .ref n33_q7, .int 0, .int 0, .int 0])), (n33_q7, .inl (cI, 64, .inl (fun _ => 0)))] := hD
  refine lv_astore (lv' := [(4, .ref q28), (3, .ref q20), (2, .ref q12), (1, .ref q4), (0, .ref h0)]) hx hb d_SM_init_36 hl (by decide) rfl (fun ls hl => ?_)
  refine lv_aload_n hx hb d_SM_init_38 rfl (lv_at hl 4 rfl) ?_
  refine lv_aload_n hx hb d_SM_init_39 rfl (lv_at hl 3 rfl) ?_
  refine va_putF (D := (dC, dI)) (ci := 0) (v := .ref q4) (ty := .object "StoryMachine$Memory") (C := "StoryMachine") (T := T_SM) (N := 5) hx hb hts in_SM t_SM tk_SM nm_SM hown hK hP hD hS 0 rfl rfl 0 (by decide) (hts _ mw_310) (fun _ h9 => h9) rfl hin rfl (by decide +kernel) rfl rfl (Nat.le_of_ble_eq_true rfl) d_SM_init_40 (fun H locs hP hD hS => ?_)
  have hP : va_P (dC, dI) vcl [(h0, .inr (0, [.ref q4, .null, .null, .null, .null])), (q4, .inr (1, [.ref n8_q8])), (n8_q8, .inl (cI, 512, .inl (fun _ => 0))), (q12, .inr (2, [.ref n16_q7, .int 0, .ref n16_q15, .int 0, .int 0])), (n16_q7, .inl (cI, 24, .inl (fun _ => 0))), (n16_q15, .inl (cI, 24, .inl (fun _ => 0))), (q20, .inr (3, [.ref n24_q7, .int 0, .int 0, .ref n24_q15, .ref n24_q23, .ref n24_q31, .ref n24_q39, .ref n24_q48])), (n24_q7, .inl (cI, 48, .inl (fun _ => 0))), (n24_q15, .inl (cI, 11, .inl (fun _ => 0))), (n24_q23, .inl (cI, 11, .inl (fun _ => 0))), (n24_q31, .inl (cI, 11, .inl (fun _ => 0))), (n24_q39, .inl (cI, 11, .inl (fun _ => 0))), (n24_q48, .inl (cI, 165, .inl (fun _ => 0))), (q28, .inr (4, [.ref q4, .ref n33_q7, .int 0, .int 0, .int 0])), (n33_q7, .inl (cI, 64, .inl (fun _ => 0)))] H := hP
  have hD : va_D A [(h0, .inr (0, [.ref q4, .null, .null, .null, .null])), (q4, .inr (1, [.ref n8_q8])), (n8_q8, .inl (cI, 512, .inl (fun _ => 0))), (q12, .inr (2, [.ref n16_q7, .int 0, .ref n16_q15, .int 0, .int 0])), (n16_q7, .inl (cI, 24, .inl (fun _ => 0))), (n16_q15, .inl (cI, 24, .inl (fun _ => 0))), (q20, .inr (3, [.ref n24_q7, .int 0, .int 0, .ref n24_q15, .ref n24_q23, .ref n24_q31, .ref n24_q39, .ref n24_q48])), (n24_q7, .inl (cI, 48, .inl (fun _ => 0))), (n24_q15, .inl (cI, 11, .inl (fun _ => 0))), (n24_q23, .inl (cI, 11, .inl (fun _ => 0))), (n24_q31, .inl (cI, 11, .inl (fun _ => 0))), (n24_q39, .inl (cI, 11, .inl (fun _ => 0))), (n24_q48, .inl (cI, 165, .inl (fun _ => 0))), (q28, .inr (4, [.ref q4, .ref n33_q7, .int 0, .int 0, .int 0])), (n33_q7, .inl (cI, 64, .inl (fun _ => 0)))] := hD
  refine lv_aload_n hx hb d_SM_init_43 rfl (lv_at hl 4 rfl) ?_
  refine lv_aload_n hx hb d_SM_init_44 rfl (lv_at hl 2 rfl) ?_
  refine va_putF (D := (dC, dI)) (ci := 0) (v := .ref q12) (ty := .object "StoryMachine$Line") (C := "StoryMachine") (T := T_SM) (N := 5) hx hb hts in_SM t_SM tk_SM nm_SM hown hK hP hD hS 0 rfl rfl 1 (by decide) (hts _ mw_311) (fun _ h9 => h9) rfl hin rfl (by decide +kernel) rfl rfl (Nat.le_of_ble_eq_true rfl) d_SM_init_45 (fun H locs hP hD hS => ?_)
  have hP : va_P (dC, dI) vcl [(h0, .inr (0, [.ref q4, .ref q12, .null, .null, .null])), (q4, .inr (1, [.ref n8_q8])), (n8_q8, .inl (cI, 512, .inl (fun _ => 0))), (q12, .inr (2, [.ref n16_q7, .int 0, .ref n16_q15, .int 0, .int 0])), (n16_q7, .inl (cI, 24, .inl (fun _ => 0))), (n16_q15, .inl (cI, 24, .inl (fun _ => 0))), (q20, .inr (3, [.ref n24_q7, .int 0, .int 0, .ref n24_q15, .ref n24_q23, .ref n24_q31, .ref n24_q39, .ref n24_q48])), (n24_q7, .inl (cI, 48, .inl (fun _ => 0))), (n24_q15, .inl (cI, 11, .inl (fun _ => 0))), (n24_q23, .inl (cI, 11, .inl (fun _ => 0))), (n24_q31, .inl (cI, 11, .inl (fun _ => 0))), (n24_q39, .inl (cI, 11, .inl (fun _ => 0))), (n24_q48, .inl (cI, 165, .inl (fun _ => 0))), (q28, .inr (4, [.ref q4, .ref n33_q7, .int 0, .int 0, .int 0])), (n33_q7, .inl (cI, 64, .inl (fun _ => 0)))] H := hP
  have hD : va_D A [(h0, .inr (0, [.ref q4, .ref q12, .null, .null, .null])), (q4, .inr (1, [.ref n8_q8])), (n8_q8, .inl (cI, 512, .inl (fun _ => 0))), (q12, .inr (2, [.ref n16_q7, .int 0, .ref n16_q15, .int 0, .int 0])), (n16_q7, .inl (cI, 24, .inl (fun _ => 0))), (n16_q15, .inl (cI, 24, .inl (fun _ => 0))), (q20, .inr (3, [.ref n24_q7, .int 0, .int 0, .ref n24_q15, .ref n24_q23, .ref n24_q31, .ref n24_q39, .ref n24_q48])), (n24_q7, .inl (cI, 48, .inl (fun _ => 0))), (n24_q15, .inl (cI, 11, .inl (fun _ => 0))), (n24_q23, .inl (cI, 11, .inl (fun _ => 0))), (n24_q31, .inl (cI, 11, .inl (fun _ => 0))), (n24_q39, .inl (cI, 11, .inl (fun _ => 0))), (n24_q48, .inl (cI, 165, .inl (fun _ => 0))), (q28, .inr (4, [.ref q4, .ref n33_q7, .int 0, .int 0, .int 0])), (n33_q7, .inl (cI, 64, .inl (fun _ => 0)))] := hD
  refine lv_aload_n hx hb d_SM_init_48 rfl (lv_at hl 4 rfl) ?_
  refine lv_aload_n hx hb d_SM_init_49 rfl (lv_at hl 1 rfl) ?_
  refine va_putF (D := (dC, dI)) (ci := 0) (v := .ref q20) (ty := .object "StoryMachine$Routines") (C := "StoryMachine") (T := T_SM) (N := 5) hx hb hts in_SM t_SM tk_SM nm_SM hown hK hP hD hS 0 rfl rfl 2 (by decide) (hts _ mw_312) (fun _ h9 => h9) rfl hin rfl (by decide +kernel) rfl rfl (Nat.le_of_ble_eq_true rfl) d_SM_init_50 (fun H locs hP hD hS => ?_)
  have hP : va_P (dC, dI) vcl [(h0, .inr (0, [.ref q4, .ref q12, .ref q20, .null, .null])), (q4, .inr (1, [.ref n8_q8])), (n8_q8, .inl (cI, 512, .inl (fun _ => 0))), (q12, .inr (2, [.ref n16_q7, .int 0, .ref n16_q15, .int 0, .int 0])), (n16_q7, .inl (cI, 24, .inl (fun _ => 0))), (n16_q15, .inl (cI, 24, .inl (fun _ => 0))), (q20, .inr (3, [.ref n24_q7, .int 0, .int 0, .ref n24_q15, .ref n24_q23, .ref n24_q31, .ref n24_q39, .ref n24_q48])), (n24_q7, .inl (cI, 48, .inl (fun _ => 0))), (n24_q15, .inl (cI, 11, .inl (fun _ => 0))), (n24_q23, .inl (cI, 11, .inl (fun _ => 0))), (n24_q31, .inl (cI, 11, .inl (fun _ => 0))), (n24_q39, .inl (cI, 11, .inl (fun _ => 0))), (n24_q48, .inl (cI, 165, .inl (fun _ => 0))), (q28, .inr (4, [.ref q4, .ref n33_q7, .int 0, .int 0, .int 0])), (n33_q7, .inl (cI, 64, .inl (fun _ => 0)))] H := hP
  have hD : va_D A [(h0, .inr (0, [.ref q4, .ref q12, .ref q20, .null, .null])), (q4, .inr (1, [.ref n8_q8])), (n8_q8, .inl (cI, 512, .inl (fun _ => 0))), (q12, .inr (2, [.ref n16_q7, .int 0, .ref n16_q15, .int 0, .int 0])), (n16_q7, .inl (cI, 24, .inl (fun _ => 0))), (n16_q15, .inl (cI, 24, .inl (fun _ => 0))), (q20, .inr (3, [.ref n24_q7, .int 0, .int 0, .ref n24_q15, .ref n24_q23, .ref n24_q31, .ref n24_q39, .ref n24_q48])), (n24_q7, .inl (cI, 48, .inl (fun _ => 0))), (n24_q15, .inl (cI, 11, .inl (fun _ => 0))), (n24_q23, .inl (cI, 11, .inl (fun _ => 0))), (n24_q31, .inl (cI, 11, .inl (fun _ => 0))), (n24_q39, .inl (cI, 11, .inl (fun _ => 0))), (n24_q48, .inl (cI, 165, .inl (fun _ => 0))), (q28, .inr (4, [.ref q4, .ref n33_q7, .int 0, .int 0, .int 0])), (n33_q7, .inl (cI, 64, .inl (fun _ => 0)))] := hD
  refine lv_aload_n hx hb d_SM_init_53 rfl (lv_at hl 4 rfl) ?_
  refine lv_aload hx hb d_SM_init_54 (lv_at hl 0 rfl) ?_
  refine va_putF (D := (dC, dI)) (ci := 0) (v := .ref q28) (ty := .object "StoryMachine$Printer") (C := "StoryMachine") (T := T_SM) (N := 5) hx hb hts in_SM t_SM tk_SM nm_SM hown hK hP hD hS 0 rfl rfl 3 (by decide) (hts _ mw_313) (fun _ h9 => h9) rfl hin rfl (by decide +kernel) rfl rfl (Nat.le_of_ble_eq_true rfl) d_SM_init_56 (fun H locs hP hD hS => ?_)
  have hP : va_P (dC, dI) vcl [(h0, .inr (0, [.ref q4, .ref q12, .ref q20, .ref q28, .null])), (q4, .inr (1, [.ref n8_q8])), (n8_q8, .inl (cI, 512, .inl (fun _ => 0))), (q12, .inr (2, [.ref n16_q7, .int 0, .ref n16_q15, .int 0, .int 0])), (n16_q7, .inl (cI, 24, .inl (fun _ => 0))), (n16_q15, .inl (cI, 24, .inl (fun _ => 0))), (q20, .inr (3, [.ref n24_q7, .int 0, .int 0, .ref n24_q15, .ref n24_q23, .ref n24_q31, .ref n24_q39, .ref n24_q48])), (n24_q7, .inl (cI, 48, .inl (fun _ => 0))), (n24_q15, .inl (cI, 11, .inl (fun _ => 0))), (n24_q23, .inl (cI, 11, .inl (fun _ => 0))), (n24_q31, .inl (cI, 11, .inl (fun _ => 0))), (n24_q39, .inl (cI, 11, .inl (fun _ => 0))), (n24_q48, .inl (cI, 165, .inl (fun _ => 0))), (q28, .inr (4, [.ref q4, .ref n33_q7, .int 0, .int 0, .int 0])), (n33_q7, .inl (cI, 64, .inl (fun _ => 0)))] H := hP
  have hD : va_D A [(h0, .inr (0, [.ref q4, .ref q12, .ref q20, .ref q28, .null])), (q4, .inr (1, [.ref n8_q8])), (n8_q8, .inl (cI, 512, .inl (fun _ => 0))), (q12, .inr (2, [.ref n16_q7, .int 0, .ref n16_q15, .int 0, .int 0])), (n16_q7, .inl (cI, 24, .inl (fun _ => 0))), (n16_q15, .inl (cI, 24, .inl (fun _ => 0))), (q20, .inr (3, [.ref n24_q7, .int 0, .int 0, .ref n24_q15, .ref n24_q23, .ref n24_q31, .ref n24_q39, .ref n24_q48])), (n24_q7, .inl (cI, 48, .inl (fun _ => 0))), (n24_q15, .inl (cI, 11, .inl (fun _ => 0))), (n24_q23, .inl (cI, 11, .inl (fun _ => 0))), (n24_q31, .inl (cI, 11, .inl (fun _ => 0))), (n24_q39, .inl (cI, 11, .inl (fun _ => 0))), (n24_q48, .inl (cI, 165, .inl (fun _ => 0))), (q28, .inr (4, [.ref q4, .ref n33_q7, .int 0, .int 0, .int 0])), (n33_q7, .inl (cI, 64, .inl (fun _ => 0)))] := hD
  refine lv_aload_n hx hb d_SM_init_59 rfl (lv_at hl 4 rfl) ?_
  refine va_new (ci := 5) (fs := [.null, .null, .null, .null, .null, .null, .null, .null, .null, .null, .int 0, .int 0, .int 0, .int 0, .int 0]) (C := "StoryMachine$Engine") (T := T_En) (N := 15) hx hb hts in_En t_En tk_En hown (hts _ mw_132) (hts _ mw_133) (hts _ mw_6) hK hP hD hS hA rfl (fun j hj => ta_dec (f := fun j => defaultValue (t_En j)) (g := vp_V [.null, .null, .null, .null, .null, .null, .null, .null, .null, .null, .int 0, .int 0, .int 0, .int 0, .int 0]) (by decide +kernel) j hj) (Nat.le_of_ble_eq_true rfl) (Nat.le_of_ble_eq_true rfl) d_SM_init_60 (fun q60 H hP hD hS => ?_)
  have hP : va_P (dC, dI) vcl [(h0, .inr (0, [.ref q4, .ref q12, .ref q20, .ref q28, .null])), (q4, .inr (1, [.ref n8_q8])), (n8_q8, .inl (cI, 512, .inl (fun _ => 0))), (q12, .inr (2, [.ref n16_q7, .int 0, .ref n16_q15, .int 0, .int 0])), (n16_q7, .inl (cI, 24, .inl (fun _ => 0))), (n16_q15, .inl (cI, 24, .inl (fun _ => 0))), (q20, .inr (3, [.ref n24_q7, .int 0, .int 0, .ref n24_q15, .ref n24_q23, .ref n24_q31, .ref n24_q39, .ref n24_q48])), (n24_q7, .inl (cI, 48, .inl (fun _ => 0))), (n24_q15, .inl (cI, 11, .inl (fun _ => 0))), (n24_q23, .inl (cI, 11, .inl (fun _ => 0))), (n24_q31, .inl (cI, 11, .inl (fun _ => 0))), (n24_q39, .inl (cI, 11, .inl (fun _ => 0))), (n24_q48, .inl (cI, 165, .inl (fun _ => 0))), (q28, .inr (4, [.ref q4, .ref n33_q7, .int 0, .int 0, .int 0])), (n33_q7, .inl (cI, 64, .inl (fun _ => 0))), (q60, .inr (5, [.null, .null, .null, .null, .null, .null, .null, .null, .null, .null, .int 0, .int 0, .int 0, .int 0, .int 0]))] H := hP
  have hD : va_D A [(h0, .inr (0, [.ref q4, .ref q12, .ref q20, .ref q28, .null])), (q4, .inr (1, [.ref n8_q8])), (n8_q8, .inl (cI, 512, .inl (fun _ => 0))), (q12, .inr (2, [.ref n16_q7, .int 0, .ref n16_q15, .int 0, .int 0])), (n16_q7, .inl (cI, 24, .inl (fun _ => 0))), (n16_q15, .inl (cI, 24, .inl (fun _ => 0))), (q20, .inr (3, [.ref n24_q7, .int 0, .int 0, .ref n24_q15, .ref n24_q23, .ref n24_q31, .ref n24_q39, .ref n24_q48])), (n24_q7, .inl (cI, 48, .inl (fun _ => 0))), (n24_q15, .inl (cI, 11, .inl (fun _ => 0))), (n24_q23, .inl (cI, 11, .inl (fun _ => 0))), (n24_q31, .inl (cI, 11, .inl (fun _ => 0))), (n24_q39, .inl (cI, 11, .inl (fun _ => 0))), (n24_q48, .inl (cI, 165, .inl (fun _ => 0))), (q28, .inr (4, [.ref q4, .ref n33_q7, .int 0, .int 0, .int 0])), (n33_q7, .inl (cI, 64, .inl (fun _ => 0))), (q60, .inr (5, [.null, .null, .null, .null, .null, .null, .null, .null, .null, .null, .int 0, .int 0, .int 0, .int 0, .int 0]))] := hD
  refine lv_dup hx hb d_SM_init_63 rfl ?_
  refine lv_aload_n hx hb d_SM_init_64 rfl (lv_at hl 3 rfl) ?_
  refine lv_aload_n hx hb d_SM_init_65 rfl (lv_at hl 2 rfl) ?_
  refine lv_aload_n hx hb d_SM_init_66 rfl (lv_at hl 1 rfl) ?_
  refine lv_aload hx hb d_SM_init_67 (lv_at hl 0 rfl) ?_
  have hPc := hP.sub (ws' := [(q60, .inr (5, [.null, .null, .null, .null, .null, .null, .null, .null, .null, .null, .int 0, .int 0, .int 0, .int 0, .int 0]))]) [15] rfl
  have hDc := hD.sub (ws' := [(q60, .inr (5, [.null, .null, .null, .null, .null, .null, .null, .null, .null, .null, .int 0, .int 0, .int 0, .int 0, .int 0]))]) [15] (by decide) rfl
  have hFc := va_free (wc := [(q60, .inr (5, [.null, .null, .null, .null, .null, .null, .null, .null, .null, .null, .int 0, .int 0, .int 0, .int 0, .int 0]))]) hD hS hA [15] rfl
  refine tx_callK (A1 := va_A [(q60, .inr (5, [.null, .null, .null, .null, .null, .null, .null, .null, .null, .null, .int 0, .int 0, .int 0, .int 0, .int 0]))] H.size) (tx_runI (As := [.ref q4, .ref q12, .ref q20, .ref q28]) (rest := [.ref q60, .ref h0]) ⟨hx, hb, hml, hown, hts⟩ (c_En_init l hfl dC dI cI q60 q4 q12 q20 q28 H.size) (tx_cb (n := 4) hts rfl rfl ⟨Nat.le_of_ble_eq_true rfl, Nat.le_of_ble_eq_true rfl⟩ (tx_code.of (hts _ mw_136)) (hts _ mw_6) (by decide +kernel) (hts _ mw_134)) (hts _ mw_136) rfl (hts _ mw_135) ⟨tq_blind, fun U hU hW => ⟨rfl, by rw [hU], by rw [hU]; exact hPc, va_K.moved hW.alike hK, hDc.weaken (fun _ _ _ _ => trivial), hst _ _ hS U hU hW⟩⟩ rfl rfl hl.1 rfl (lv_room (Nat.le_of_ble_eq_true rfl)) d_SM_init_69 ⟨Nat.le_of_ble_eq_true rfl, Nat.le_of_ble_eq_true rfl⟩) hS (fun q _ h => hFc q h) hFc (fun v t H69 locs ht hWt hpost hz1 hk1 hS => ?_) (fun x t H1 locs ht hWt hpost hz1 hk1 hS => by cases hpost.1)
  obtain ⟨ho, n69_q5, n69_n9_q5, n69_n9_n9_q8, n69_n9_q16, n69_n9_n20_q7, n69_n9_n20_q15, n69_n9_n20_q23, n69_n9_n20_q31, n69_n9_n20_q39, n69_n9_n20_q48, n69_q18, n69_q28, n69_q67, n69_q79, n69_n84_q7, n69_n84_q15, n69_n84_q23, n69_q91, n69_n98_q6, hP1, hK1, hD1⟩ := hpost
  cases ho
  rw [ht] at hP1
  obtain ⟨hP, hD⟩ := va_join (wr := [(h0, .inr (0, [.ref q4, .ref q12, .ref q20, .ref q28, .null])), (q4, .inr (1, [.ref n8_q8])), (n8_q8, .inl (cI, 512, .inl (fun _ => 0))), (q12, .inr (2, [.ref n16_q7, .int 0, .ref n16_q15, .int 0, .int 0])), (n16_q7, .inl (cI, 24, .inl (fun _ => 0))), (n16_q15, .inl (cI, 24, .inl (fun _ => 0))), (q20, .inr (3, [.ref n24_q7, .int 0, .int 0, .ref n24_q15, .ref n24_q23, .ref n24_q31, .ref n24_q39, .ref n24_q48])), (n24_q7, .inl (cI, 48, .inl (fun _ => 0))), (n24_q15, .inl (cI, 11, .inl (fun _ => 0))), (n24_q23, .inl (cI, 11, .inl (fun _ => 0))), (n24_q31, .inl (cI, 11, .inl (fun _ => 0))), (n24_q39, .inl (cI, 11, .inl (fun _ => 0))), (n24_q48, .inl (cI, 165, .inl (fun _ => 0))), (q28, .inr (4, [.ref q4, .ref n33_q7, .int 0, .int 0, .int 0])), (n33_q7, .inl (cI, 64, .inl (fun _ => 0)))]) (w1 := [(q60, .inr (5, [.ref q4, .ref q12, .ref q20, .ref q28, .ref n69_q28, .ref n69_q67, .ref n69_q79, .ref n69_q91, .ref n69_q5, .ref n69_q18, .int 0, .int (-1), .int 0, .int 0, .int 0])), (n69_q5, .inr (10, [.int 0, .ref n69_n9_q5, .ref n69_n9_q16, .int 0])), (n69_n9_q5, .inr (1, [.ref n69_n9_n9_q8])), (n69_n9_n9_q8, .inl (cI, 512, .inl (fun _ => 0))), (n69_n9_q16, .inr (3, [.ref n69_n9_n20_q7, .int 0, .int 0, .ref n69_n9_n20_q15, .ref n69_n9_n20_q23, .ref n69_n9_n20_q31, .ref n69_n9_n20_q39, .ref n69_n9_n20_q48])), (n69_n9_n20_q7, .inl (cI, 48, .inl (fun _ => 0))), (n69_n9_n20_q15, .inl (cI, 11, .inl (fun _ => 0))), (n69_n9_n20_q23, .inl (cI, 11, .inl (fun _ => 0))), (n69_n9_n20_q31, .inl (cI, 11, .inl (fun _ => 0))), (n69_n9_n20_q39, .inl (cI, 11, .inl (fun _ => 0))), (n69_n9_n20_q48, .inl (cI, 165, .inl (fun _ => 0))), (n69_q18, .inl (cI, 15, .inl (fun _ => 0))), (n69_q28, .inr (6, [.ref q4, .ref q20])), (n69_q67, .inr (7, [.ref q4])), (n69_q79, .inr (8, [.ref q4, .ref n69_n84_q7, .ref n69_n84_q15, .int 0, .ref n69_n84_q23, .int 0])), (n69_n84_q7, .inl (cI, 24, .inl (fun _ => 0))), (n69_n84_q15, .inl (cI, 24, .inl (fun _ => 0))), (n69_n84_q23, .inl (cI, 6, .inl (fun _ => 0))), (n69_q91, .inr (9, [.ref q4, .ref n69_q28, .ref n69_n98_q6, .int 0, .int 0, .int 0, .int 0, .int 0, .int 0, .int 0, .int 0])), (n69_n98_q6, .inl (cI, 4, .inl (fun _ => 0)))]) hP hD [15] [0, 1, 2, 3, 4, 5, 6, 7, 8, 9, 10, 11, 12, 13, 14] rfl rfl (by decide) (by decide) hk1 hFc hP1 hD1
  have hP : va_P (dC, dI) vcl [(h0, .inr (0, [.ref q4, .ref q12, .ref q20, .ref q28, .null])), (q4, .inr (1, [.ref n8_q8])), (n8_q8, .inl (cI, 512, .inl (fun _ => 0))), (q12, .inr (2, [.ref n16_q7, .int 0, .ref n16_q15, .int 0, .int 0])), (n16_q7, .inl (cI, 24, .inl (fun _ => 0))), (n16_q15, .inl (cI, 24, .inl (fun _ => 0))), (q20, .inr (3, [.ref n24_q7, .int 0, .int 0, .ref n24_q15, .ref n24_q23, .ref n24_q31, .ref n24_q39, .ref n24_q48])), (n24_q7, .inl (cI, 48, .inl (fun _ => 0))), (n24_q15, .inl (cI, 11, .inl (fun _ => 0))), (n24_q23, .inl (cI, 11, .inl (fun _ => 0))), (n24_q31, .inl (cI, 11, .inl (fun _ => 0))), (n24_q39, .inl (cI, 11, .inl (fun _ => 0))), (n24_q48, .inl (cI, 165, .inl (fun _ => 0))), (q28, .inr (4, [.ref q4, .ref n33_q7, .int 0, .int 0, .int 0])), (n33_q7, .inl (cI, 64, .inl (fun _ => 0))), (q60, .inr (5, [.ref q4, .ref q12, .ref q20, .ref q28, .ref n69_q28, .ref n69_q67, .ref n69_q79, .ref n69_q91, .ref n69_q5, .ref n69_q18, .int 0, .int (-1), .int 0, .int 0, .int 0])), (n69_q5, .inr (10, [.int 0, .ref n69_n9_q5, .ref n69_n9_q16, .int 0])), (n69_n9_q5, .inr (1, [.ref n69_n9_n9_q8])), (n69_n9_n9_q8, .inl (cI, 512, .inl (fun _ => 0))), (n69_n9_q16, .inr (3, [.ref n69_n9_n20_q7, .int 0, .int 0, .ref n69_n9_n20_q15, .ref n69_n9_n20_q23, .ref n69_n9_n20_q31, .ref n69_n9_n20_q39, .ref n69_n9_n20_q48])), (n69_n9_n20_q7, .inl (cI, 48, .inl (fun _ => 0))), (n69_n9_n20_q15, .inl (cI, 11, .inl (fun _ => 0))), (n69_n9_n20_q23, .inl (cI, 11, .inl (fun _ => 0))), (n69_n9_n20_q31, .inl (cI, 11, .inl (fun _ => 0))), (n69_n9_n20_q39, .inl (cI, 11, .inl (fun _ => 0))), (n69_n9_n20_q48, .inl (cI, 165, .inl (fun _ => 0))), (n69_q18, .inl (cI, 15, .inl (fun _ => 0))), (n69_q28, .inr (6, [.ref q4, .ref q20])), (n69_q67, .inr (7, [.ref q4])), (n69_q79, .inr (8, [.ref q4, .ref n69_n84_q7, .ref n69_n84_q15, .int 0, .ref n69_n84_q23, .int 0])), (n69_n84_q7, .inl (cI, 24, .inl (fun _ => 0))), (n69_n84_q15, .inl (cI, 24, .inl (fun _ => 0))), (n69_n84_q23, .inl (cI, 6, .inl (fun _ => 0))), (n69_q91, .inr (9, [.ref q4, .ref n69_q28, .ref n69_n98_q6, .int 0, .int 0, .int 0, .int 0, .int 0, .int 0, .int 0, .int 0])), (n69_n98_q6, .inl (cI, 4, .inl (fun _ => 0)))] H69 := hP
  have hD : va_D A [(h0, .inr (0, [.ref q4, .ref q12, .ref q20, .ref q28, .null])), (q4, .inr (1, [.ref n8_q8])), (n8_q8, .inl (cI, 512, .inl (fun _ => 0))), (q12, .inr (2, [.ref n16_q7, .int 0, .ref n16_q15, .int 0, .int 0])), (n16_q7, .inl (cI, 24, .inl (fun _ => 0))), (n16_q15, .inl (cI, 24, .inl (fun _ => 0))), (q20, .inr (3, [.ref n24_q7, .int 0, .int 0, .ref n24_q15, .ref n24_q23, .ref n24_q31, .ref n24_q39, .ref n24_q48])), (n24_q7, .inl (cI, 48, .inl (fun _ => 0))), (n24_q15, .inl (cI, 11, .inl (fun _ => 0))), (n24_q23, .inl (cI, 11, .inl (fun _ => 0))), (n24_q31, .inl (cI, 11, .inl (fun _ => 0))), (n24_q39, .inl (cI, 11, .inl (fun _ => 0))), (n24_q48, .inl (cI, 165, .inl (fun _ => 0))), (q28, .inr (4, [.ref q4, .ref n33_q7, .int 0, .int 0, .int 0])), (n33_q7, .inl (cI, 64, .inl (fun _ => 0))), (q60, .inr (5, [.ref q4, .ref q12, .ref q20, .ref q28, .ref n69_q28, .ref n69_q67, .ref n69_q79, .ref n69_q91, .ref n69_q5, .ref n69_q18, .int 0, .int (-1), .int 0, .int 0, .int 0])), (n69_q5, .inr (10, [.int 0, .ref n69_n9_q5, .ref n69_n9_q16, .int 0])), (n69_n9_q5, .inr (1, [.ref n69_n9_n9_q8])), (n69_n9_n9_q8, .inl (cI, 512, .inl (fun _ => 0))), (n69_n9_q16, .inr (3, [.ref n69_n9_n20_q7, .int 0, .int 0, .ref n69_n9_n20_q15, .ref n69_n9_n20_q23, .ref n69_n9_n20_q31, .ref n69_n9_n20_q39, .ref n69_n9_n20_q48])), (n69_n9_n20_q7, .inl (cI, 48, .inl (fun _ => 0))), (n69_n9_n20_q15, .inl (cI, 11, .inl (fun _ => 0))), (n69_n9_n20_q23, .inl (cI, 11, .inl (fun _ => 0))), (n69_n9_n20_q31, .inl (cI, 11, .inl (fun _ => 0))), (n69_n9_n20_q39, .inl (cI, 11, .inl (fun _ => 0))), (n69_n9_n20_q48, .inl (cI, 165, .inl (fun _ => 0))), (n69_q18, .inl (cI, 15, .inl (fun _ => 0))), (n69_q28, .inr (6, [.ref q4, .ref q20])), (n69_q67, .inr (7, [.ref q4])), (n69_q79, .inr (8, [.ref q4, .ref n69_n84_q7, .ref n69_n84_q15, .int 0, .ref n69_n84_q23, .int 0])), (n69_n84_q7, .inl (cI, 24, .inl (fun _ => 0))), (n69_n84_q15, .inl (cI, 24, .inl (fun _ => 0))), (n69_n84_q23, .inl (cI, 6, .inl (fun _ => 0))), (n69_q91, .inr (9, [.ref q4, .ref n69_q28, .ref n69_n98_q6, .int 0, .int 0, .int 0, .int 0, .int 0, .int 0, .int 0, .int 0])), (n69_n98_q6, .inl (cI, 4, .inl (fun _ => 0)))] := hD
  refine va_putF (D := (dC, dI)) (ci := 0) (v := .ref q60) (ty := .object "StoryMachine$Engine") (C := "StoryMachine") (T := T_SM) (N := 5) hx hb hts in_SM t_SM tk_SM nm_SM hown hK hP hD hS 0 rfl rfl 4 (by decide) (hts _ mw_314) (fun _ h9 => h9) rfl hin rfl (by decide +kernel) rfl rfl (Nat.le_of_ble_eq_true rfl) d_SM_init_72 (fun H locs hP hD hS => ?_)
  have hP : va_P (dC, dI) vcl [(h0, .inr (0, [.ref q4, .ref q12, .ref q20, .ref q28, .ref q60])), (q4, .inr (1, [.ref n8_q8])), (n8_q8, .inl (cI, 512, .inl (fun _ => 0))), (q12, .inr (2, [.ref n16_q7, .int 0, .ref n16_q15, .int 0, .int 0])), (n16_q7, .inl (cI, 24, .inl (fun _ => 0))), (n16_q15, .inl (cI, 24, .inl (fun _ => 0))), (q20, .inr (3, [.ref n24_q7, .int 0, .int 0, .ref n24_q15, .ref n24_q23, .ref n24_q31, .ref n24_q39, .ref n24_q48])), (n24_q7, .inl (cI, 48, .inl (fun _ => 0))), (n24_q15, .inl (cI, 11, .inl (fun _ => 0))), (n24_q23, .inl (cI, 11, .inl (fun _ => 0))), (n24_q31, .inl (cI, 11, .inl (fun _ => 0))), (n24_q39, .inl (cI, 11, .inl (fun _ => 0))), (n24_q48, .inl (cI, 165, .inl (fun _ => 0))), (q28, .inr (4, [.ref q4, .ref n33_q7, .int 0, .int 0, .int 0])), (n33_q7, .inl (cI, 64, .inl (fun _ => 0))), (q60, .inr (5, [.ref q4, .ref q12, .ref q20, .ref q28, .ref n69_q28, .ref n69_q67, .ref n69_q79, .ref n69_q91, .ref n69_q5, .ref n69_q18, .int 0, .int (-1), .int 0, .int 0, .int 0])), (n69_q5, .inr (10, [.int 0, .ref n69_n9_q5, .ref n69_n9_q16, .int 0])), (n69_n9_q5, .inr (1, [.ref n69_n9_n9_q8])), (n69_n9_n9_q8, .inl (cI, 512, .inl (fun _ => 0))), (n69_n9_q16, .inr (3, [.ref n69_n9_n20_q7, .int 0, .int 0, .ref n69_n9_n20_q15, .ref n69_n9_n20_q23, .ref n69_n9_n20_q31, .ref n69_n9_n20_q39, .ref n69_n9_n20_q48])), (n69_n9_n20_q7, .inl (cI, 48, .inl (fun _ => 0))), (n69_n9_n20_q15, .inl (cI, 11, .inl (fun _ => 0))), (n69_n9_n20_q23, .inl (cI, 11, .inl (fun _ => 0))), (n69_n9_n20_q31, .inl (cI, 11, .inl (fun _ => 0))), (n69_n9_n20_q39, .inl (cI, 11, .inl (fun _ => 0))), (n69_n9_n20_q48, .inl (cI, 165, .inl (fun _ => 0))), (n69_q18, .inl (cI, 15, .inl (fun _ => 0))), (n69_q28, .inr (6, [.ref q4, .ref q20])), (n69_q67, .inr (7, [.ref q4])), (n69_q79, .inr (8, [.ref q4, .ref n69_n84_q7, .ref n69_n84_q15, .int 0, .ref n69_n84_q23, .int 0])), (n69_n84_q7, .inl (cI, 24, .inl (fun _ => 0))), (n69_n84_q15, .inl (cI, 24, .inl (fun _ => 0))), (n69_n84_q23, .inl (cI, 6, .inl (fun _ => 0))), (n69_q91, .inr (9, [.ref q4, .ref n69_q28, .ref n69_n98_q6, .int 0, .int 0, .int 0, .int 0, .int 0, .int 0, .int 0, .int 0])), (n69_n98_q6, .inl (cI, 4, .inl (fun _ => 0)))] H := hP
  have hD : va_D A [(h0, .inr (0, [.ref q4, .ref q12, .ref q20, .ref q28, .ref q60])), (q4, .inr (1, [.ref n8_q8])), (n8_q8, .inl (cI, 512, .inl (fun _ => 0))), (q12, .inr (2, [.ref n16_q7, .int 0, .ref n16_q15, .int 0, .int 0])), (n16_q7, .inl (cI, 24, .inl (fun _ => 0))), (n16_q15, .inl (cI, 24, .inl (fun _ => 0))), (q20, .inr (3, [.ref n24_q7, .int 0, .int 0, .ref n24_q15, .ref n24_q23, .ref n24_q31, .ref n24_q39, .ref n24_q48])), (n24_q7, .inl (cI, 48, .inl (fun _ => 0))), (n24_q15, .inl (cI, 11, .inl (fun _ => 0))), (n24_q23, .inl (cI, 11, .inl (fun _ => 0))), (n24_q31, .inl (cI, 11, .inl (fun _ => 0))), (n24_q39, .inl (cI, 11, .inl (fun _ => 0))), (n24_q48, .inl (cI, 165, .inl (fun _ => 0))), (q28, .inr (4, [.ref q4, .ref n33_q7, .int 0, .int 0, .int 0])), (n33_q7, .inl (cI, 64, .inl (fun _ => 0))), (q60, .inr (5, [.ref q4, .ref q12, .ref q20, .ref q28, .ref n69_q28, .ref n69_q67, .ref n69_q79, .ref n69_q91, .ref n69_q5, .ref n69_q18, .int 0, .int (-1), .int 0, .int 0, .int 0])), (n69_q5, .inr (10, [.int 0, .ref n69_n9_q5, .ref n69_n9_q16, .int 0])), (n69_n9_q5, .inr (1, [.ref n69_n9_n9_q8])), (n69_n9_n9_q8, .inl (cI, 512, .inl (fun _ => 0))), (n69_n9_q16, .inr (3, [.ref n69_n9_n20_q7, .int 0, .int 0, .ref n69_n9_n20_q15, .ref n69_n9_n20_q23, .ref n69_n9_n20_q31, .ref n69_n9_n20_q39, .ref n69_n9_n20_q48])), (n69_n9_n20_q7, .inl (cI, 48, .inl (fun _ => 0))), (n69_n9_n20_q15, .inl (cI, 11, .inl (fun _ => 0))), (n69_n9_n20_q23, .inl (cI, 11, .inl (fun _ => 0))), (n69_n9_n20_q31, .inl (cI, 11, .inl (fun _ => 0))), (n69_n9_n20_q39, .inl (cI, 11, .inl (fun _ => 0))), (n69_n9_n20_q48, .inl (cI, 165, .inl (fun _ => 0))), (n69_q18, .inl (cI, 15, .inl (fun _ => 0))), (n69_q28, .inr (6, [.ref q4, .ref q20])), (n69_q67, .inr (7, [.ref q4])), (n69_q79, .inr (8, [.ref q4, .ref n69_n84_q7, .ref n69_n84_q15, .int 0, .ref n69_n84_q23, .int 0])), (n69_n84_q7, .inl (cI, 24, .inl (fun _ => 0))), (n69_n84_q15, .inl (cI, 24, .inl (fun _ => 0))), (n69_n84_q23, .inl (cI, 6, .inl (fun _ => 0))), (n69_q91, .inr (9, [.ref q4, .ref n69_q28, .ref n69_n98_q6, .int 0, .int 0, .int 0, .int 0, .int 0, .int 0, .int 0, .int 0])), (n69_n98_q6, .inl (cI, 4, .inl (fun _ => 0)))] := hD
  have hP9 := hP.sub (ws' := [(h0, .inr (0, [.ref q4, .ref q12, .ref q20, .ref q28, .ref q60])), (q4, .inr (1, [.ref n8_q8])), (n8_q8, .inl (cI, 512, .inl (fun _ => 0))), (q12, .inr (2, [.ref n16_q7, .int 0, .ref n16_q15, .int 0, .int 0])), (n16_q7, .inl (cI, 24, .inl (fun _ => 0))), (n16_q15, .inl (cI, 24, .inl (fun _ => 0))), (q20, .inr (3, [.ref n24_q7, .int 0, .int 0, .ref n24_q15, .ref n24_q23, .ref n24_q31, .ref n24_q39, .ref n24_q48])), (n24_q7, .inl (cI, 48, .inl (fun _ => 0))), (n24_q15, .inl (cI, 11, .inl (fun _ => 0))), (n24_q23, .inl (cI, 11, .inl (fun _ => 0))), (n24_q31, .inl (cI, 11, .inl (fun _ => 0))), (n24_q39, .inl (cI, 11, .inl (fun _ => 0))), (n24_q48, .inl (cI, 165, .inl (fun _ => 0))), (q28, .inr (4, [.ref q4, .ref n33_q7, .int 0, .int 0, .int 0])), (n33_q7, .inl (cI, 64, .inl (fun _ => 0))), (q60, .inr (5, [.ref q4, .ref q12, .ref q20, .ref q28, .ref n69_q28, .ref n69_q67, .ref n69_q79, .ref n69_q91, .ref n69_q5, .ref n69_q18, .int 0, .int (-1), .int 0, .int 0, .int 0])), (n69_q5, .inr (10, [.int 0, .ref n69_n9_q5, .ref n69_n9_q16, .int 0])), (n69_n9_q5, .inr (1, [.ref n69_n9_n9_q8])), (n69_n9_n9_q8, .inl (cI, 512, .inl (fun _ => 0))), (n69_n9_q16, .inr (3, [.ref n69_n9_n20_q7, .int 0, .int 0, .ref n69_n9_n20_q15, .ref n69_n9_n20_q23, .ref n69_n9_n20_q31, .ref n69_n9_n20_q39, .ref n69_n9_n20_q48])), (n69_n9_n20_q7, .inl (cI, 48, .inl (fun _ => 0))), (n69_n9_n20_q15, .inl (cI, 11, .inl (fun _ => 0))), (n69_n9_n20_q23, .inl (cI, 11, .inl (fun _ => 0))), (n69_n9_n20_q31, .inl (cI, 11, .inl (fun _ => 0))), (n69_n9_n20_q39, .inl (cI, 11, .inl (fun _ => 0))), (n69_n9_n20_q48, .inl (cI, 165, .inl (fun _ => 0))), (n69_q18, .inl (cI, 15, .inl (fun _ => 0))), (n69_q28, .inr (6, [.ref q4, .ref q20])), (n69_q67, .inr (7, [.ref q4])), (n69_q79, .inr (8, [.ref q4, .ref n69_n84_q7, .ref n69_n84_q15, .int 0, .ref n69_n84_q23, .int 0])), (n69_n84_q7, .inl (cI, 24, .inl (fun _ => 0))), (n69_n84_q15, .inl (cI, 24, .inl (fun _ => 0))), (n69_n84_q23, .inl (cI, 6, .inl (fun _ => 0))), (n69_q91, .inr (9, [.ref q4, .ref n69_q28, .ref n69_n98_q6, .int 0, .int 0, .int 0, .int 0, .int 0, .int 0, .int 0, .int 0])), (n69_n98_q6, .inl (cI, 4, .inl (fun _ => 0)))]) [0, 1, 2, 3, 4, 5, 6, 7, 8, 9, 10, 11, 12, 13, 14, 15, 16, 17, 18, 19, 20, 21, 22, 23, 24, 25, 26, 27, 28, 29, 30, 31, 32, 33, 34] rfl
  have hD9 := hD.sub (ws' := [(h0, .inr (0, [.ref q4, .ref q12, .ref q20, .ref q28, .ref q60])), (q4, .inr (1, [.ref n8_q8])), (n8_q8, .inl (cI, 512, .inl (fun _ => 0))), (q12, .inr (2, [.ref n16_q7, .int 0, .ref n16_q15, .int 0, .int 0])), (n16_q7, .inl (cI, 24, .inl (fun _ => 0))), (n16_q15, .inl (cI, 24, .inl (fun _ => 0))), (q20, .inr (3, [.ref n24_q7, .int 0, .int 0, .ref n24_q15, .ref n24_q23, .ref n24_q31, .ref n24_q39, .ref n24_q48])), (n24_q7, .inl (cI, 48, .inl (fun _ => 0))), (n24_q15, .inl (cI, 11, .inl (fun _ => 0))), (n24_q23, .inl (cI, 11, .inl (fun _ => 0))), (n24_q31, .inl (cI, 11, .inl (fun _ => 0))), (n24_q39, .inl (cI, 11, .inl (fun _ => 0))), (n24_q48, .inl (cI, 165, .inl (fun _ => 0))), (q28, .inr (4, [.ref q4, .ref n33_q7, .int 0, .int 0, .int 0])), (n33_q7, .inl (cI, 64, .inl (fun _ => 0))), (q60, .inr (5, [.ref q4, .ref q12, .ref q20, .ref q28, .ref n69_q28, .ref n69_q67, .ref n69_q79, .ref n69_q91, .ref n69_q5, .ref n69_q18, .int 0, .int (-1), .int 0, .int 0, .int 0])), (n69_q5, .inr (10, [.int 0, .ref n69_n9_q5, .ref n69_n9_q16, .int 0])), (n69_n9_q5, .inr (1, [.ref n69_n9_n9_q8])), (n69_n9_n9_q8, .inl (cI, 512, .inl (fun _ => 0))), (n69_n9_q16, .inr (3, [.ref n69_n9_n20_q7, .int 0, .int 0, .ref n69_n9_n20_q15, .ref n69_n9_n20_q23, .ref n69_n9_n20_q31, .ref n69_n9_n20_q39, .ref n69_n9_n20_q48])), (n69_n9_n20_q7, .inl (cI, 48, .inl (fun _ => 0))), (n69_n9_n20_q15, .inl (cI, 11, .inl (fun _ => 0))), (n69_n9_n20_q23, .inl (cI, 11, .inl (fun _ => 0))), (n69_n9_n20_q31, .inl (cI, 11, .inl (fun _ => 0))), (n69_n9_n20_q39, .inl (cI, 11, .inl (fun _ => 0))), (n69_n9_n20_q48, .inl (cI, 165, .inl (fun _ => 0))), (n69_q18, .inl (cI, 15, .inl (fun _ => 0))), (n69_q28, .inr (6, [.ref q4, .ref q20])), (n69_q67, .inr (7, [.ref q4])), (n69_q79, .inr (8, [.ref q4, .ref n69_n84_q7, .ref n69_n84_q15, .int 0, .ref n69_n84_q23, .int 0])), (n69_n84_q7, .inl (cI, 24, .inl (fun _ => 0))), (n69_n84_q15, .inl (cI, 24, .inl (fun _ => 0))), (n69_n84_q23, .inl (cI, 6, .inl (fun _ => 0))), (n69_q91, .inr (9, [.ref q4, .ref n69_q28, .ref n69_n98_q6, .int 0, .int 0, .int 0, .int 0, .int 0, .int 0, .int 0, .int 0])), (n69_n98_q6, .inl (cI, 4, .inl (fun _ => 0)))]) [0, 1, 2, 3, 4, 5, 6, 7, 8, 9, 10, 11, 12, 13, 14, 15, 16, 17, 18, 19, 20, 21, 22, 23, 24, 25, 26, 27, 28, 29, 30, 31, 32, 33, 34] (by decide) rfl
  refine W.widen (k := 34) (n := 1790) (Nat.le_of_ble_eq_true rfl) (Nat.le_of_ble_eq_true rfl) ?_
  exact tx_ret (W.vret hx hb hr (fun t ht hW => ⟨⟨rfl, q4, n8_q8, q12, n16_q7, n16_q15, q20, n24_q7, n24_q15, n24_q23, n24_q31, n24_q39, n24_q48, q28, n33_q7, q60, n69_q5, n69_n9_q5, n69_n9_n9_q8, n69_n9_q16, n69_n9_n20_q7, n69_n9_n20_q15, n69_n9_n20_q23, n69_n9_n20_q31, n69_n9_n20_q39, n69_n9_n20_q48, n69_q18, n69_q28, n69_q67, n69_q79, n69_n84_q7, n69_n84_q15, n69_n84_q23, n69_q91, n69_n98_q6, by rw [ht]; exact hP9, va_K.moved hW.alike hK, hAe ▸ hD9⟩, hS.F ht⟩) (hS.2.2) d_SM_init_75)
end
section
/-! Contracts; written by wip/tools/p1.py. -/
set_option maxHeartbeats 4000000 in
set_option maxRecDepth 100000 in
theorem c_Mo_init (l : Launch) (hfl : l.flags = pinnedFlags ++ [noTraceFlag]) (dC : Nat → ClassId) (dI : Nat → Nat → Nat) (cI : ClassId) (h0 : Nat) (sz : Nat) : tx_Met l ⟨"StoryMachineModel", "<init>", "()V"⟩ tw_tbl ({ frames := 1, cells := 21, slots := 1708, locals := 40 }) (tq_P (dC, dI) vcl [.ref h0] sz [(h0, .inr (11, [.int 0, .null, .int 0, .null, .int 0, .null, .null, .null, .null, .null, .int 0, .null, .int 0, .null, .int 0, .null, .null, .null, .null, .null, .int 0, .int 0, .int 0, .int 0, .int 0, .int 0, .int 0, .int 0, .int 0, .int 0, .int 0, .int 0, .null, .int 0, .int 0, .null, .int 0, .null, .int 0, .null, .int 0, .int 0, .int 0, .int 0, .int 0, .int 0, .int 0, .int 0, .null, .null, .null]))] [(cI, .int)]) (tq_Q (fun o t => o = .returned none ∧ ∃ (q8 q16 q24 q32 q40 q48 q57 q66 q74 q82 q90 q98 q106 q115 q123 q131 q139 q146 q154 q162 q170 : Nat), va_P (dC, dI) vcl [(h0, .inr (11, [.int 0, .ref q8, .int 0, .ref q16, .int 0, .ref q24, .ref q32, .ref q40, .ref q48, .ref q57, .int 0, .ref q66, .int 0, .ref q74, .int 0, .ref q82, .ref q90, .ref q98, .ref q106, .ref q115, .int 0, .int 0, .int 0, .int 0, .int 0, .int 0, .int 0, .int 0, .int 0, .int 0, .int 0, .int 0, .ref q123, .int 0, .int 0, .ref q131, .int 0, .ref q139, .int 0, .ref q146, .int 0, .int 0, .int 0, .int 0, .int 0, .int 0, .int 0, .int 0, .ref q154, .ref q162, .ref q170])), (q8, .inl (cI, 512, .inl (fun _ => 0))), (q16, .inl (cI, 48, .inl (fun _ => 0))), (q24, .inl (cI, 11, .inl (fun _ => 0))), (q32, .inl (cI, 11, .inl (fun _ => 0))), (q40, .inl (cI, 11, .inl (fun _ => 0))), (q48, .inl (cI, 11, .inl (fun _ => 0))), (q57, .inl (cI, 165, .inl (fun _ => 0))), (q66, .inl (cI, 512, .inl (fun _ => 0))), (q74, .inl (cI, 48, .inl (fun _ => 0))), (q82, .inl (cI, 11, .inl (fun _ => 0))), (q90, .inl (cI, 11, .inl (fun _ => 0))), (q98, .inl (cI, 11, .inl (fun _ => 0))), (q106, .inl (cI, 11, .inl (fun _ => 0))), (q115, .inl (cI, 165, .inl (fun _ => 0))), (q123, .inl (cI, 64, .inl (fun _ => 0))), (q131, .inl (cI, 24, .inl (fun _ => 0))), (q139, .inl (cI, 24, .inl (fun _ => 0))), (q146, .inl (cI, 4, .inl (fun _ => 0))), (q154, .inl (cI, 6, .inl (fun _ => 0))), (q162, .inl (cI, 24, .inl (fun _ => 0))), (q170, .inl (cI, 24, .inl (fun _ => 0)))] t.heap ∧ va_K (dC, dI) vcl [(cI, .int)] t ∧ va_D (va_A [(h0, .inr (11, [.int 0, .null, .int 0, .null, .int 0, .null, .null, .null, .null, .null, .int 0, .null, .int 0, .null, .int 0, .null, .null, .null, .null, .null, .int 0, .int 0, .int 0, .int 0, .int 0, .int 0, .int 0, .int 0, .int 0, .int 0, .int 0, .int 0, .null, .int 0, .int 0, .null, .int 0, .null, .int 0, .null, .int 0, .int 0, .int 0, .int 0, .int 0, .int 0, .int 0, .int 0, .null, .null, .null]))] sz) [(h0, .inr (11, [.int 0, .ref q8, .int 0, .ref q16, .int 0, .ref q24, .ref q32, .ref q40, .ref q48, .ref q57, .int 0, .ref q66, .int 0, .ref q74, .int 0, .ref q82, .ref q90, .ref q98, .ref q106, .ref q115, .int 0, .int 0, .int 0, .int 0, .int 0, .int 0, .int 0, .int 0, .int 0, .int 0, .int 0, .int 0, .ref q123, .int 0, .int 0, .ref q131, .int 0, .ref q139, .int 0, .ref q146, .int 0, .int 0, .int 0, .int 0, .int 0, .int 0, .int 0, .int 0, .ref q154, .ref q162, .ref q170])), (q8, .inl (cI, 512, .inl (fun _ => 0))), (q16, .inl (cI, 48, .inl (fun _ => 0))), (q24, .inl (cI, 11, .inl (fun _ => 0))), (q32, .inl (cI, 11, .inl (fun _ => 0))), (q40, .inl (cI, 11, .inl (fun _ => 0))), (q48, .inl (cI, 11, .inl (fun _ => 0))), (q57, .inl (cI, 165, .inl (fun _ => 0))), (q66, .inl (cI, 512, .inl (fun _ => 0))), (q74, .inl (cI, 48, .inl (fun _ => 0))), (q82, .inl (cI, 11, .inl (fun _ => 0))), (q90, .inl (cI, 11, .inl (fun _ => 0))), (q98, .inl (cI, 11, .inl (fun _ => 0))), (q106, .inl (cI, 11, .inl (fun _ => 0))), (q115, .inl (cI, 165, .inl (fun _ => 0))), (q123, .inl (cI, 64, .inl (fun _ => 0))), (q131, .inl (cI, 24, .inl (fun _ => 0))), (q139, .inl (cI, 24, .inl (fun _ => 0))), (q146, .inl (cI, 4, .inl (fun _ => 0))), (q154, .inl (cI, 6, .inl (fun _ => 0))), (q162, .inl (cI, 24, .inl (fun _ => 0))), (q170, .inl (cI, 24, .inl (fun _ => 0)))]) (va_A [(h0, .inr (11, [.int 0, .null, .int 0, .null, .int 0, .null, .null, .null, .null, .null, .int 0, .null, .int 0, .null, .int 0, .null, .null, .null, .null, .null, .int 0, .int 0, .int 0, .int 0, .int 0, .int 0, .int 0, .int 0, .int 0, .int 0, .int 0, .int 0, .null, .int 0, .int 0, .null, .int 0, .null, .int 0, .null, .int 0, .int 0, .int 0, .int 0, .int 0, .int 0, .int 0, .int 0, .null, .null, .null]))] sz)) 21 1708 (va_A [(h0, .inr (11, [.int 0, .null, .int 0, .null, .int 0, .null, .null, .null, .null, .null, .int 0, .null, .int 0, .null, .int 0, .null, .null, .null, .null, .null, .int 0, .int 0, .int 0, .int 0, .int 0, .int 0, .int 0, .int 0, .int 0, .int 0, .int 0, .int 0, .null, .int 0, .int 0, .null, .int 0, .null, .int 0, .null, .int 0, .int 0, .int 0, .int 0, .int 0, .int 0, .int 0, .int 0, .null, .null, .null]))] sz) := by
  refine tx_ofW (cc := prog_13_method_1_code) (maxL := 1) (ret := none) (by decide) (tx_isM mw_1061) ?_
  intro p e s m args below meth c s₁ B hml hv
  obtain ⟨rfl, hsz, hP, hK, hD0, hst0⟩ := hv
  have hx := B.exec
  have hb := B.bytes
  have hr := B.returns
  have hts := atoms_spec (ws := tw_tbl) B.pre
  have hown : s.vm.findClass "StoryMachineModel" = some m.cls := findClass_of_methodNamed B.named
  have hlocks := B.notSynchronized
  have hin : meth.name = "<init>" := (name_of_methodNamed B.named B.method).1
  subst hsz
  have hD := hD0.self (sz := s.heap.size)
  have hst := fun (H : Heap) (locs : List Loc) (hS : va_S (va_A [(h0, .inr (11, [.int 0, .null, .int 0, .null, .int 0, .null, .null, .null, .null, .null, .int 0, .null, .int 0, .null, .int 0, .null, .null, .null, .null, .null, .int 0, .int 0, .int 0, .int 0, .int 0, .int 0, .int 0, .int 0, .int 0, .int 0, .int 0, .int 0, .null, .int 0, .int 0, .null, .int 0, .null, .int 0, .null, .int 0, .int 0, .int 0, .int 0, .int 0, .int 0, .int 0, .int 0, .null, .null, .null]))] s.heap.size) s.heap H locs) (U : State) (hU : U.heap = H) (hW : s.WarmedH U.vm) => ts_keep hW (fun q cell h1 h2 => by rw [hU]; exact ts_va hP hS q cell h1 h2) hst0
  generalize hAe : va_A [(h0, .inr (11, [.int 0, .null, .int 0, .null, .int 0, .null, .null, .null, .null, .null, .int 0, .null, .int 0, .null, .int 0, .null, .null, .null, .null, .null, .int 0, .int 0, .int 0, .int 0, .int 0, .int 0, .int 0, .int 0, .int 0, .int 0, .int 0, .int 0, .null, .int 0, .int 0, .null, .int 0, .null, .int 0, .null, .int 0, .int 0, .int 0, .int 0, .int 0, .int 0, .int 0, .int 0, .null, .null, .null]))] s.heap.size = A at hD hst ⊢
  have hA : ∀ q : Nat, s.heap.size ≤ q → A q := fun q h => by rw [← hAe]; exact Or.inr h
  have hS : va_S A s.heap s.heap [] := va_S.rf
  have hP : va_P (dC, dI) vcl [(h0, .inr (11, [.int 0, .null, .int 0, .null, .int 0, .null, .null, .null, .null, .null, .int 0, .null, .int 0, .null, .int 0, .null, .null, .null, .null, .null, .int 0, .int 0, .int 0, .int 0, .int 0, .int 0, .int 0, .int 0, .int 0, .int 0, .int 0, .int 0, .null, .int 0, .int 0, .null, .int 0, .null, .int 0, .null, .int 0, .int 0, .int 0, .int 0, .int 0, .int 0, .int 0, .int 0, .null, .null, .null]))] s.heap := hP
  have hl := lv_entry ([.ref h0]) (n := 1) (Nat.le_of_ble_eq_true rfl)
  rw [lg_entry_eq]
  generalize (lg_sl ([.ref h0]) ++ List.replicate (1 - (lg_sl ([.ref h0])).length) Slot.unset).toArray = ls at hl ⊢
  have hl : lv_has ls 1 [(0, .ref h0)] := hl
  refine lv_aload_n hx hb d_Mo_init_0 rfl (lv_at hl 0 rfl) ?_
  refine W.objInit hx hb hown (hts _ mw_1062) (hts _ mw_34) (hts _ mw_35) rfl (by rw [hml]; exact hl.1) rfl d_Mo_init_1 (Nat.le_of_ble_eq_true rfl) (Nat.le_of_ble_eq_true rfl) ?_
  refine W.eq (g2 := F0 m 4 ls []) rfl ?_
  refine lv_aload_n hx hb d_Mo_init_4 rfl (lv_at hl 0 rfl) ?_
  refine lv_sipush (v := 512) hx hb d_Mo_init_5 (by decide) ?_
  refine ta_newI (N' := 512) hx hb (hts _ mw_47) hK 0 rfl hP hD hS hA (by decide) (by decide) (by decide) (Nat.le_of_ble_eq_true rfl) (Nat.le_of_ble_eq_true rfl) d_Mo_init_8 (fun q8 H hP hD hS => ?_)
  have hP : va_P (dC, dI) vcl [(h0, .inr (11, [.int 0, .null, .int 0, .null, .int 0, .null, .null, .null, .null, .null, .int 0, .null, .int 0, .null, .int 0, .null, .null, .null, .null, .null, .int 0, .int 0, .int 0, .int 0, .int 0, .int 0, .int 0, .int 0, .int 0, .int 0, .int 0, .int 0, .null, .int 0, .int 0, .null, .int 0, .null, .int 0, .null, .int 0, .int 0, .int 0, .int 0, .int 0, .int 0, .int 0, .int 0, .null, .null, .null])), (q8, .inl (cI, 512, .inl (fun _ => 0)))] H := hP
  have hD : va_D A [(h0, .inr (11, [.int 0, .null, .int 0, .null, .int 0, .null, .null, .null, .null, .null, .int 0, .null, .int 0, .null, .int 0, .null, .null, .null, .null, .null, .int 0, .int 0, .int 0, .int 0, .int 0, .int 0, .int 0, .int 0, .int 0, .int 0, .int 0, .int 0, .null, .int 0, .int 0, .null, .int 0, .null, .int 0, .null, .int 0, .int 0, .int 0, .int 0, .int 0, .int 0, .int 0, .int 0, .null, .null, .null])), (q8, .inl (cI, 512, .inl (fun _ => 0)))] := hD
  refine va_putF (D := (dC, dI)) (ci := 11) (v := .ref q8) (ty := .array .int) (C := "StoryMachineModel") (T := T_Mo) (N := 51) hx hb hts in_Mo t_Mo tk_Mo nm_Mo hown hK hP hD hS 0 rfl rfl 1 (by decide) (hts _ mw_1064) (fun _ h9 => h9) rfl hin rfl (by decide +kernel) rfl rfl (Nat.le_of_ble_eq_true rfl) d_Mo_init_10 (fun H locs hP hD hS => ?_)
  have hP : va_P (dC, dI) vcl [(h0, .inr (11, [.int 0, .ref q8, .int 0, .null, .int 0, .null, .null, .null, .null, .null, .int 0, .null, .int 0, .null, .int 0, .null, .null, .null, .null, .null, .int 0, .int 0, .int 0, .int 0, .int 0, .int 0, .int 0, .int 0, .int 0, .int 0, .int 0, .int 0, .null, .int 0, .int 0, .null, .int 0, .null, .int 0, .null, .int 0, .int 0, .int 0, .int 0, .int 0, .int 0, .int 0, .int 0, .null, .null, .null])), (q8, .inl (cI, 512, .inl (fun _ => 0)))] H := hP
  have hD : va_D A [(h0, .inr (11, [.int 0, .ref q8, .int 0, .null, .int 0, .null, .null, .null, .null, .null, .int 0, .null, .int 0, .null, .int 0, .null, .null, .null, .null, .null, .int 0, .int 0, .int 0, .int 0, .int 0, .int 0, .int 0, .int 0, .int 0, .int 0, .int 0, .int 0, .null, .int 0, .int 0, .null, .int 0, .null, .int 0, .null, .int 0, .int 0, .int 0, .int 0, .int 0, .int 0, .int 0, .int 0, .null, .null, .null])), (q8, .inl (cI, 512, .inl (fun _ => 0)))] := hD
  refine lv_aload_n hx hb d_Mo_init_13 rfl (lv_at hl 0 rfl) ?_
  refine lv_bipush (v := 48) hx hb d_Mo_init_14 (by decide) ?_
  refine ta_newI (N' := 48) hx hb (hts _ mw_47) hK 0 rfl hP hD hS hA (by decide) (by decide) (by decide) (Nat.le_of_ble_eq_true rfl) (Nat.le_of_ble_eq_true rfl) d_Mo_init_16 (fun q16 H hP hD hS => ?_)
  have hP : va_P (dC, dI) vcl [(h0, .inr (11, [.int 0, .ref q8, .int 0, .null, .int 0, .null, .null, .null, .null, .null, .int 0, .null, .int 0, .null, .int 0, .null, .null, .null, .null, .null, .int 0, .int 0, .int 0, .int 0, .int 0, .int 0, .int 0, .int 0, .int 0, .int 0, .int 0, .int 0, .null, .int 0, .int 0, .null, .int 0, .null, .int 0, .null, .int 0, .int 0, .int 0, .int 0, .int 0, .int 0, .int 0, .int 0, .null, .null, .null])), (q8, .inl (cI, 512, .inl (fun _ => 0))), (q16, .inl (cI, 48, .inl (fun _ => 0)))] H := hP
  have hD : va_D A [(h0, .inr (11, [.int 0, .ref q8, .int 0, .null, .int 0, .null, .null, .null, .null, .null, .int 0, .null, .int 0, .null, .int 0, .null, .null, .null, .null, .null, .int 0, .int 0, .int 0, .int 0, .int 0, .int 0, .int 0, .int 0, .int 0, .int 0, .int 0, .int 0, .null, .int 0, .int 0, .null, .int 0, .null, .int 0, .null, .int 0, .int 0, .int 0, .int 0, .int 0, .int 0, .int 0, .int 0, .null, .null, .null])), (q8, .inl (cI, 512, .inl (fun _ => 0))), (q16, .inl (cI, 48, .inl (fun _ => 0)))] := hD
  refine va_putF (D := (dC, dI)) (ci := 11) (v := .ref q16) (ty := .array .int) (C := "StoryMachineModel") (T := T_Mo) (N := 51) hx hb hts in_Mo t_Mo tk_Mo nm_Mo hown hK hP hD hS 0 rfl rfl 3 (by decide) (hts _ mw_1066) (fun _ h9 => h9) rfl hin rfl (by decide +kernel) rfl rfl (Nat.le_of_ble_eq_true rfl) d_Mo_init_18 (fun H locs hP hD hS => ?_)
  have hP : va_P (dC, dI) vcl [(h0, .inr (11, [.int 0, .ref q8, .int 0, .ref q16, .int 0, .null, .null, .null, .null, .null, .int 0, .null, .int 0, .null, .int 0, .null, .null, .null, .null, .null, .int 0, .int 0, .int 0, .int 0, .int 0, .int 0, .int 0, .int 0, .int 0, .int 0, .int 0, .int 0, .null, .int 0, .int 0, .null, .int 0, .null, .int 0, .null, .int 0, .int 0, .int 0, .int 0, .int 0, .int 0, .int 0, .int 0, .null, .null, .null])), (q8, .inl (cI, 512, .inl (fun _ => 0))), (q16, .inl (cI, 48, .inl (fun _ => 0)))] H := hP
  have hD : va_D A [(h0, .inr (11, [.int 0, .ref q8, .int 0, .ref q16, .int 0, .null, .null, .null, .null, .null, .int 0, .null, .int 0, .null, .int 0, .null, .null, .null, .null, .null, .int 0, .int 0, .int 0, .int 0, .int 0, .int 0, .int 0, .int 0, .int 0, .int 0, .int 0, .int 0, .null, .int 0, .int 0, .null, .int 0, .null, .int 0, .null, .int 0, .int 0, .int 0, .int 0, .int 0, .int 0, .int 0, .int 0, .null, .null, .null])), (q8, .inl (cI, 512, .inl (fun _ => 0))), (q16, .inl (cI, 48, .inl (fun _ => 0)))] := hD
  refine lv_aload_n hx hb d_Mo_init_21 rfl (lv_at hl 0 rfl) ?_
  refine lv_bipush (v := 11) hx hb d_Mo_init_22 (by decide) ?_
  refine ta_newI (N' := 11) hx hb (hts _ mw_47) hK 0 rfl hP hD hS hA (by decide) (by decide) (by decide) (Nat.le_of_ble_eq_true rfl) (Nat.le_of_ble_eq_true rfl) d_Mo_init_24 (fun q24 H hP hD hS => ?_)
  have hP : va_P (dC, dI) vcl [(h0, .inr (11, [.int 0, .ref q8, .int 0, .ref q16, .int 0, .null, .null, .null, .null, .null, .int 0, .null, .int 0, .null, .int 0, .null, .null, .null, .null, .null, .int 0, .int 0, .int 0, .int 0, .int 0, .int 0, .int 0, .int 0, .int 0, .int 0, .int 0, .int 0, .null, .int 0, .int 0, .null, .int 0, .null, .int 0, .null, .int 0, .int 0, .int 0, .int 0, .int 0, .int 0, .int 0, .int 0, .null, .null, .null])), (q8, .inl (cI, 512, .inl (fun _ => 0))), (q16, .inl (cI, 48, .inl (fun _ => 0))), (q24, .inl (cI, 11, .inl (fun _ => 0)))] H := hP
  have hD : va_D A [(h0, .inr (11, [.int 0, .ref q8, .int 0, .ref q16, .int 0, .null, .null, .null, .null, .null, .int 0, .null, .int 0, .null, .int 0, .null, .null, .null, .null, .null, .int 0, .int 0, .int 0, .int 0, .int 0, .int 0, .int 0, .int 0, .int 0, .int 0, .int 0, .int 0, .null, .int 0, .int 0, .null, .int 0, .null, .int 0, .null, .int 0, .int 0, .int 0, .int 0, .int 0, .int 0, .int 0, .int 0, .null, .null, .null])), (q8, .inl (cI, 512, .inl (fun _ => 0))), (q16, .inl (cI, 48, .inl (fun _ => 0))), (q24, .inl (cI, 11, .inl (fun _ => 0)))] := hD
  refine va_putF (D := (dC, dI)) (ci := 11) (v := .ref q24) (ty := .array .int) (C := "StoryMachineModel") (T := T_Mo) (N := 51) hx hb hts in_Mo t_Mo tk_Mo nm_Mo hown hK hP hD hS 0 rfl rfl 5 (by decide) (hts _ mw_1068) (fun _ h9 => h9) rfl hin rfl (by decide +kernel) rfl rfl (Nat.le_of_ble_eq_true rfl) d_Mo_init_26 (fun H locs hP hD hS => ?_)
  have hP : va_P (dC, dI) vcl [(h0, .inr (11, [.int 0, .ref q8, .int 0, .ref q16, .int 0, .ref q24, .null, .null, .null, .null, .int 0, .null, .int 0, .null, .int 0, .null, .null, .null, .null, .null, .int 0, .int 0, .int 0, .int 0, .int 0, .int 0, .int 0, .int 0, .int 0, .int 0, .int 0, .int 0, .null, .int 0, .int 0, .null, .int 0, .null, .int 0, .null, .int 0, .int 0, .int 0, .int 0, .int 0, .int 0, .int 0, .int 0, .null, .null, .null])), (q8, .inl (cI, 512, .inl (fun _ => 0))), (q16, .inl (cI, 48, .inl (fun _ => 0))), (q24, .inl (cI, 11, .inl (fun _ => 0)))] H := hP
  have hD : va_D A [(h0, .inr (11, [.int 0, .ref q8, .int 0, .ref q16, .int 0, .ref q24, .null, .null, .null, .null, .int 0, .null, .int 0, .null, .int 0, .null, .null, .null, .null, .null, .int 0, .int 0, .int 0, .int 0, .int 0, .int 0, .int 0, .int 0, .int 0, .int 0, .int 0, .int 0, .null, .int 0, .int 0, .null, .int 0, .null, .int 0, .null, .int 0, .int 0, .int 0, .int 0, .int 0, .int 0, .int 0, .int 0, .null, .null, .null])), (q8, .inl (cI, 512, .inl (fun _ => 0))), (q16, .inl (cI, 48, .inl (fun _ => 0))), (q24, .inl (cI, 11, .inl (fun _ => 0)))] := hD
  refine lv_aload_n hx hb d_Mo_init_29 rfl (lv_at hl 0 rfl) ?_
  refine lv_bipush (v := 11) hx hb d_Mo_init_30 (by decide) ?_
  refine ta_newI (N' := 11) hx hb (hts _ mw_47) hK 0 rfl hP hD hS hA (by decide) (by decide) (by decide) (Nat.le_of_ble_eq_true rfl) (Nat.le_of_ble_eq_true rfl) d_Mo_init_32 (fun q32 H hP hD hS => ?_)
  have hP : va_P (dC, dI) vcl [(h0, .inr (11, [.int 0, .ref q8, .int 0, .ref q16, .int 0, .ref q24, .null, .null, .null, .null, .int 0, .null, .int 0, .null, .int 0, .null, .null, .null, .null, .null, .int 0, .int 0, .int 0, .int 0, .int 0, .int 0, .int 0, .int 0, .int 0, .int 0, .int 0, .int 0, .null, .int 0, .int 0, .null, .int 0, .null, .int 0, .null, .int 0, .int 0, .int 0, .int 0, .int 0, .int 0, .int 0, .int 0, .null, .null, .null])), (q8, .inl (cI, 512, .inl (fun _ => 0))), (q16, .inl (cI, 48, .inl (fun _ => 0))), (q24, .inl (cI, 11, .inl (fun _ => 0))), (q32, .inl (cI, 11, .inl (fun _ => 0)))] H := hP
  have hD : va_D A [(h0, .inr (11, [.int 0, .ref q8, .int 0, .ref q16, .int 0, .ref q24, .null, .null, .null, .null, .int 0, .null, .int 0, .null, .int 0, .null, .null, .null, .null, .null, .int 0, .int 0, .int 0, .int 0, .int 0, .int 0, .int 0, .int 0, .int 0, .int 0, .int 0, .int 0, .null, .int 0, .int 0, .null, .int 0, .null, .int 0, .null, .int 0, .int 0, .int 0, .int 0, .int 0, .int 0, .int 0, .int 0, .null, .null, .null])), (q8, .inl (cI, 512, .inl (fun _ => 0))), (q16, .inl (cI, 48, .inl (fun _ => 0))), (q24, .inl (cI, 11, .inl (fun _ => 0))), (q32, .inl (cI, 11, .inl (fun _ => 0)))] := hD
  refine va_putF (D := (dC, dI)) (ci := 11) (v := .ref q32) (ty := .array .int) (C := "StoryMachineModel") (T := T_Mo) (N := 51) hx hb hts in_Mo t_Mo tk_Mo nm_Mo hown hK hP hD hS 0 rfl rfl 6 (by decide) (hts _ mw_1069) (fun _ h9 => h9) rfl hin rfl (by decide +kernel) rfl rfl (Nat.le_of_ble_eq_true rfl) d_Mo_init_34 (fun H locs hP hD hS => ?_)
  have hP : va_P (dC, dI) vcl [(h0, .inr (11, [.int 0, .ref q8, .int 0, .ref q16, .int 0, .ref q24, .ref q32, .null, .null, .null, .int 0, .null, .int 0, .null, .int 0, .null, .null, .null, .null, .null, .int 0, .int 0, .int 0, .int 0, .int 0, .int 0, .int 0, .int 0, .int 0, .int 0, .int 0, .int 0, .null, .int 0, .int 0, .null, .int 0, .null, .int 0, .null, .int 0, .int 0, .int 0, .int 0, .int 0, .int 0, .int 0, .int 0, .null, .null, .null])), (q8, .inl (cI, 512, .inl (fun _ => 0))), (q16, .inl (cI, 48, .inl (fun _ => 0))), (q24, .inl (cI, 11, .inl (fun _ => 0))), (q32, .inl (cI, 11, .inl (fun _ => 0)))] H := hP
  have hD : va_D A [(h0, .inr (11, [.int 0, .ref q8, .int 0, .ref q16, .int 0, .ref q24, .ref q32, .null, .null, .null, .int 0, .null, .int 0, .null, .int 0, .null, .null, .null, .null, .null, .int 0, .int 0, .int 0, .int 0, .int 0, .int 0, .int 0, .int 0, .int 0, .int 0, .int 0, .int 0, .null, .int 0, .int 0, .null, .int 0, .null, .int 0, .null, .int 0, .int 0, .int 0, .int 0, .int 0, .int 0, .int 0, .int 0, .null, .null, .null])), (q8, .inl (cI, 512, .inl (fun _ => 0))), (q16, .inl (cI, 48, .inl (fun _ => 0))), (q24, .inl (cI, 11, .inl (fun _ => 0))), (q32, .inl (cI, 11, .inl (fun _ => 0)))] := hD
  refine lv_aload_n hx hb d_Mo_init_37 rfl (lv_at hl 0 rfl) ?_
  refine lv_bipush (v := 11) hx hb d_Mo_init_38 (by decide) ?_
  refine ta_newI (N' := 11) hx hb (hts _ mw_47) hK 0 rfl hP hD hS hA (by decide) (by decide) (by decide) (Nat.le_of_ble_eq_true rfl) (Nat.le_of_ble_eq_true rfl) d_Mo_init_40 (fun q40 H hP hD hS => ?_)
  have hP : va_P (dC, dI) vcl [(h0, .inr (11, [.int 0, .ref q8, .int 0, .ref q16, .int 0, .ref q24, .ref q32, .null, .null, .null, .int 0, .null, .int 0, .null, .int 0, .null, .null, .null, .null, .null, .int 0, .int 0, .int 0, .int 0, .int 0, .int 0, .int 0, .int 0, .int 0, .int 0, .int 0, .int 0, .null, .int 0, .int 0, .null, .int 0, .null, .int 0, .null, .int 0, .int 0, .int 0, .int 0, .int 0, .int 0, .int 0, .int 0, .null, .null, .null])), (q8, .inl (cI, 512, .inl (fun _ => 0))), (q16, .inl (cI, 48, .inl (fun _ => 0))), (q24, .inl (cI, 11, .inl (fun _ => 0))), (q32, .inl (cI, 11, .inl (fun _ => 0))), (q40, .inl (cI, 11, .inl (fun _ => 0)))] H := hP
  have hD : va_D A [(h0, .inr (11, [.int 0, .ref q8, .int 0, .ref q16, .int 0, .ref q24, .ref q32, .null, .null, .null, .int 0, .null, .int 0, .null, .int 0, .null, .null, .null, .null, .null, .int 0, .int 0, .int 0, .int 0, .int 0, .int 0, .int 0, .int 0, .int 0, .int 0, .int 0, .int 0, .null, .int 0, .int 0, .null, .int 0, .null, .int 0, .null, .int 0, .int 0, .int 0, .int 0, .int 0, .int 0, .int 0, .int 0, .null, .null, .null])), (q8, .inl (cI, 512, .inl (fun _ => 0))), (q16, .inl (cI, 48, .inl (fun _ => 0))), (q24, .inl (cI, 11, .inl (fun _ => 0))), (q32, .inl (cI, 11, .inl (fun _ => 0))), (q40, .inl (cI, 11, .inl (fun _ => 0)))] := hD
  refine va_putF (D := (dC, dI)) (ci := 11) (v := .ref q40) (ty := .array .int) (C := "StoryMachineModel") (T := T_Mo) (N := 51) hx hb hts in_Mo t_Mo tk_Mo nm_Mo hown hK hP hD hS 0 rfl rfl 7 (by decide) (hts _ mw_1070) (fun _ h9 => h9) rfl hin rfl (by decide +kernel) rfl rfl (Nat.le_of_ble_eq_true rfl) d_Mo_init_42 (fun H locs hP hD hS => ?_)
  have hP : va_P (dC, dI) vcl [(h0, .inr (11, [.int 0, .ref q8, .int 0, .ref q16, .int 0, .ref q24, .ref q32, .ref q40, .null, .null, .int 0, .null, .int 0, .null, .int 0, .null, .null, .null, .null, .null, .int 0, .int 0, .int 0, .int 0, .int 0, .int 0, .int 0, .int 0, .int 0, .int 0, .int 0, .int 0, .null, .int 0, .int 0, .null, .int 0, .null, .int 0, .null, .int 0, .int 0, .int 0, .int 0, .int 0, .int 0, .int 0, .int 0, .null, .null, .null])), (q8, .inl (cI, 512, .inl (fun _ => 0))), (q16, .inl (cI, 48, .inl (fun _ => 0))), (q24, .inl (cI, 11, .inl (fun _ => 0))), (q32, .inl (cI, 11, .inl (fun _ => 0))), (q40, .inl (cI, 11, .inl (fun _ => 0)))] H := hP
  have hD : va_D A [(h0, .inr (11, [.int 0, .ref q8, .int 0, .ref q16, .int 0, .ref q24, .ref q32, .ref q40, .null, .null, .int 0, .null, .int 0, .null, .int 0, .null, .null, .null, .null, .null, .int 0, .int 0, .int 0, .int 0, .int 0, .int 0, .int 0, .int 0, .int 0, .int 0, .int 0, .int 0, .null, .int 0, .int 0, .null, .int 0, .null, .int 0, .null, .int 0, .int 0, .int 0, .int 0, .int 0, .int 0, .int 0, .int 0, .null, .null, .null])), (q8, .inl (cI, 512, .inl (fun _ => 0))), (q16, .inl (cI, 48, .inl (fun _ => 0))), (q24, .inl (cI, 11, .inl (fun _ => 0))), (q32, .inl (cI, 11, .inl (fun _ => 0))), (q40, .inl (cI, 11, .inl (fun _ => 0)))] := hD
  refine lv_aload_n hx hb d_Mo_init_45 rfl (lv_at hl 0 rfl) ?_
  refine lv_bipush (v := 11) hx hb d_Mo_init_46 (by decide) ?_
  refine ta_newI (N' := 11) hx hb (hts _ mw_47) hK 0 rfl hP hD hS hA (by decide) (by decide) (by decide) (Nat.le_of_ble_eq_true rfl) (Nat.le_of_ble_eq_true rfl) d_Mo_init_48 (fun q48 H hP hD hS => ?_)
  have hP : va_P (dC, dI) vcl [(h0, .inr (11, [.int 0, .ref q8, .int 0, .ref q16, .int 0, .ref q24, .ref q32, .ref q40, .null, .null, .int 0, .null, .int 0, .null, .int 0, .null, .null, .null, .null, .null, .int 0, .int 0, .int 0, .int 0, .int 0, .int 0, .int 0, .int 0, .int 0, .int 0, .int 0, .int 0, .null, .int 0, .int 0, .null, .int 0, .null, .int 0, .null, .int 0, .int 0, .int 0, .int 0, .int 0, .int 0, .int 0, .int 0, .null, .null, .null])), (q8, .inl (cI, 512, .inl (fun _ => 0))), (q16, .inl (cI, 48, .inl (fun _ => 0))), (q24, .inl (cI, 11, .inl (fun _ => 0))), (q32, .inl (cI, 11, .inl (fun _ => 0))), (q40, .inl (cI, 11, .inl (fun _ => 0))), (q48, .inl (cI, 11, .inl (fun _ => 0)))] H := hP
  have hD : va_D A [(h0, .inr (11, [.int 0, .ref q8, .int 0, .ref q16, .int 0, .ref q24, .ref q32, .ref q40, .null, .null, .int 0, .null, .int 0, .null, .int 0, .null, .null, .null, .null, .null, .int 0, .int 0, .int 0, .int 0, .int 0, .int 0, .int 0, .int 0, .int 0, .int 0, .int 0, .int 0, .null, .int 0, .int 0, .null, .int 0, .null, .int 0, .null, .int 0, .int 0, .int 0, .int 0, .int 0, .int 0, .int 0, .int 0, .null, .null, .null])), (q8, .inl (cI, 512, .inl (fun _ => 0))), (q16, .inl (cI, 48, .inl (fun _ => 0))), (q24, .inl (cI, 11, .inl (fun _ => 0))), (q32, .inl (cI, 11, .inl (fun _ => 0))), (q40, .inl (cI, 11, .inl (fun _ => 0))), (q48, .inl (cI, 11, .inl (fun _ => 0)))] := hD
  refine va_putF (D := (dC, dI)) (ci := 11) (v := .ref q48) (ty := .array .int) (C := "StoryMachineModel") (T := T_Mo) (N := 51) hx hb hts in_Mo t_Mo tk_Mo nm_Mo hown hK hP hD hS 0 rfl rfl 8 (by decide) (hts _ mw_1071) (fun _ h9 => h9) rfl hin rfl (by decide +kernel) rfl rfl (Nat.le_of_ble_eq_true rfl) d_Mo_init_50 (fun H locs hP hD hS => ?_)
  have hP : va_P (dC, dI) vcl [(h0, .inr (11, [.int 0, .ref q8, .int 0, .ref q16, .int 0, .ref q24, .ref q32, .ref q40, .ref q48, .null, .int 0, .null, .int 0, .null, .int 0, .null, .null, .null, .null, .null, .int 0, .int 0, .int 0, .int 0, .int 0, .int 0, .int 0, .int 0, .int 0, .int 0, .int 0, .int 0, .null, .int 0, .int 0, .null, .int 0, .null, .int 0, .null, .int 0, .int 0, .int 0, .int 0, .int 0, .int 0, .int 0, .int 0, .null, .null, .null])), (q8, .inl (cI, 512, .inl (fun _ => 0))), (q16, .inl (cI, 48, .inl (fun _ => 0))), (q24, .inl (cI, 11, .inl (fun _ => 0))), (q32, .inl (cI, 11, .inl (fun _ => 0))), (q40, .inl (cI, 11, .inl (fun _ => 0))), (q48, .inl (cI, 11, .inl (fun _ => 0)))] H := hP
  have hD : va_D A [(h0, .inr (11, [.int 0, .ref q8, .int 0, .ref q16, .int 0, .ref q24, .ref q32, .ref q40, .ref q48, .null, .int 0, .null, .int 0, .null, .int 0, .null, .null, .null, .null, .null, .int 0, .int 0, .int 0, .int 0, .int 0, .int 0, .int 0, .int 0, .int 0, .int 0, .int 0, .int 0, .null, .int 0, .int 0, .null, .int 0, .null, .int 0, .null, .int 0, .int 0, .int 0, .int 0, .int 0, .int 0, .int 0, .int 0, .null, .null, .null])), (q8, .inl (cI, 512, .inl (fun _ => 0))), (q16, .inl (cI, 48, .inl (fun _ => 0))), (q24, .inl (cI, 11, .inl (fun _ => 0))), (q32, .inl (cI, 11, .inl (fun _ => 0))), (q40, .inl (cI, 11, .inl (fun _ => 0))), (q48, .inl (cI, 11, .inl (fun _ => 0)))] := hD
  refine lv_aload_n hx hb d_Mo_init_53 rfl (lv_at hl 0 rfl) ?_
  refine lv_sipush (v := 165) hx hb d_Mo_init_54 (by decide) ?_
  refine ta_newI (N' := 165) hx hb (hts _ mw_47) hK 0 rfl hP hD hS hA (by decide) (by decide) (by decide) (Nat.le_of_ble_eq_true rfl) (Nat.le_of_ble_eq_true rfl) d_Mo_init_57 (fun q57 H hP hD hS => ?_)
  have hP : va_P (dC, dI) vcl [(h0, .inr (11, [.int 0, .ref q8, .int 0, .ref q16, .int 0, .ref q24, .ref q32, .ref q40, .ref q48, .null, .int 0, .null, .int 0, .null, .int 0, .null, .null, .null, .null, .null, .int 0, .int 0, .int 0, .int 0, .int 0, .int 0, .int 0, .int 0, .int 0, .int 0, .int 0, .int 0, .null, .int 0, .int 0, .null, .int 0, .null, .int 0, .null, .int 0, .int 0, .int 0, .int 0, .int 0, .int 0, .int 0, .int 0, .null, .null, .null])), (q8, .inl (cI, 512, .inl (fun _ => 0))), (q16, .inl (cI, 48, .inl (fun _ => 0))), (q24, .inl (cI, 11, .inl (fun _ => 0))), (q32, .inl (cI, 11, .inl (fun _ => 0))), (q40, .inl (cI, 11, .inl (fun _ => 0))), (q48, .inl (cI, 11, .inl (fun _ => 0))), (q57, .inl (cI, 165, .inl (fun _ => 0)))] H := hP
  have hD : va_D A [(h0, .inr (11, [.int 0, .ref q8, .int 0, .ref q16, .int 0, .ref q24, .ref q32, .ref q40, .ref q48, .null, .int 0, .null, .int 0, .null, .int 0, .null, .null, .null, .null, .null, .int 0, .int 0, .int 0, .int 0, .int 0, .int 0, .int 0, .int 0, .int 0, .int 0, .int 0, .int 0, .null, .int 0, .int 0, .null, .int 0, .null, .int 0, .null, .int 0, .int 0, .int 0, .int 0, .int 0, .int 0, .int 0, .int 0, .null, .null, .null])), (q8, .inl (cI, 512, .inl (fun _ => 0))), (q16, .inl (cI, 48, .inl (fun _ => 0))), (q24, .inl (cI, 11, .inl (fun _ => 0))), (q32, .inl (cI, 11, .inl (fun _ => 0))), (q40, .inl (cI, 11, .inl (fun _ => 0))), (q48, .inl (cI, 11, .inl (fun _ => 0))), (q57, .inl (cI, 165, .inl (fun _ => 0)))] := hD
  refine va_putF (D := (dC, dI)) (ci := 11) (v := .ref q57) (ty := .array .int) (C := "StoryMachineModel") (T := T_Mo) (N := 51) hx hb hts in_Mo t_Mo tk_Mo nm_Mo hown hK hP hD hS 0 rfl rfl 9 (by decide) (hts _ mw_1072) (fun _ h9 => h9) rfl hin rfl (by decide +kernel) rfl rfl (Nat.le_of_ble_eq_true rfl) d_Mo_init_59 (fun H locs hP hD hS => ?_)
  have hP : va_P (dC, dI) vcl [(h0, .inr (11, [.int 0, .ref q8, .int 0, .ref q16, .int 0, .ref q24, .ref q32, .ref q40, .ref q48, .ref q57, .int 0, .null, .int 0, .null, .int 0, .null, .null, .null, .null, .null, .int 0, .int 0, .int 0, .int 0, .int 0, .int 0, .int 0, .int 0, .int 0, .int 0, .int 0, .int 0, .null, .int 0, .int 0, .null, .int 0, .null, .int 0, .null, .int 0, .int 0, .int 0, .int 0, .int 0, .int 0, .int 0, .int 0, .null, .null, .null])), (q8, .inl (cI, 512, .inl (fun _ => 0))), (q16, .inl (cI, 48, .inl (fun _ => 0))), (q24, .inl (cI, 11, .inl (fun _ => 0))), (q32, .inl (cI, 11, .inl (fun _ => 0))), (q40, .inl (cI, 11, .inl (fun _ => 0))), (q48, .inl (cI, 11, .inl (fun _ => 0))), (q57, .inl (cI, 165, .inl (fun _ => 0)))] H := hP
  have hD : va_D A [(h0, .inr (11, [.int 0, .ref q8, .int 0, .ref q16, .int 0, .ref q24, .ref q32, .ref q40, .ref q48, .ref q57, .int 0, .null, .int 0, .null, .int 0, .null, .null, .null, .null, .null, .int 0, .int 0, .int 0, .int 0, .int 0, .int 0, .int 0, .int 0, .int 0, .int 0, .int 0, .int 0, .null, .int 0, .int 0, .null, .int 0, .null, .int 0, .null, .int 0, .int 0, .int 0, .int 0, .int 0, .int 0, .int 0, .int 0, .null, .null, .null])), (q8, .inl (cI, 512, .inl (fun _ => 0))), (q16, .inl (cI, 48, .inl (fun _ => 0))), (q24, .inl (cI, 11, .inl (fun _ => 0))), (q32, .inl (cI, 11, .inl (fun _ => 0))), (q40, .inl (cI, 11, .inl (fun _ => 0))), (q48, .inl (cI, 11, .inl (fun _ => 0))), (q57, .inl (cI, 165, .inl (fun _ => 0)))] := hD
  refine lv_aload_n hx hb d_Mo_init_62 rfl (lv_at hl 0 rfl) ?_
  refine lv_sipush (v := 512) hx hb d_Mo_init_63 (by decide) ?_
  refine ta_newI (N' := 512) hx hb (hts _ mw_47) hK 0 rfl hP hD hS hA (by decide) (by decide) (by decide) (Nat.le_of_ble_eq_true rfl) (Nat.le_of_ble_eq_true rfl) d_Mo_init_66 (fun q66 H hP hD hS => ?_)
  have hP : va_P (dC, dI) vcl [(h0, .inr (11, [.int 0, .ref q8, .int 0, .ref q16, .int 0, .ref q24, .ref q32, .ref q40, .ref q48, .ref q57, .int 0, .null, .int 0, .null, .int 0, .null, .null, .null, .null, .null, .int 0, .int 0, .int 0, .int 0, .int 0, .int 0, .int 0, .int 0, .int 0, .int 0, .int 0, .int 0, .null, .int 0, .int 0, .null, .int 0, .null, .int 0, .null, .int 0, .int 0, .int 0, .int 0, .int 0, .int 0, .int 0, .int 0, .null, .null, .null])), (q8, .inl (cI, 512, .inl (fun _ => 0))), (q16, .inl (cI, 48, .inl (fun _ => 0))), (q24, .inl (cI, 11, .inl (fun _ => 0))), (q32, .inl (cI, 11, .inl (fun _ => 0))), (q40, .inl (cI, 11, .inl (fun _ => 0))), (q48, .inl (cI, 11, .inl (fun _ => 0))), (q57, .inl (cI, 165, .inl (fun _ => 0))), (q66, .inl (cI, 512, .inl (fun _ => 0)))] H := hP
  have hD : va_D A [(h0, .inr (11, [.int 0, .ref q8, .int 0, .ref q16, .int 0, .ref q24, .ref q32, .ref q40, .ref q48, .ref q57, .int 0, .null, .int 0, .null, .int 0, .null, .null, .null, .null, .null, .int 0, .int 0, .int 0, .int 0, .int 0, .int 0, .int 0, .int 0, .int 0, .int 0, .int 0, .int 0, .null, .int 0, .int 0, .null, .int 0, .null, .int 0, .null, .int 0, .int 0, .int 0, .int 0, .int 0, .int 0, .int 0, .int 0, .null, .null, .null])), (q8, .inl (cI, 512, .inl (fun _ => 0))), (q16, .inl (cI, 48, .inl (fun _ => 0))), (q24, .inl (cI, 11, .inl (fun _ => 0))), (q32, .inl (cI, 11, .inl (fun _ => 0))), (q40, .inl (cI, 11, .inl (fun _ => 0))), (q48, .inl (cI, 11, .inl (fun _ => 0))), (q57, .inl (cI, 165, .inl (fun _ => 0))), (q66, .inl (cI, 512, .inl (fun _ => 0)))] := hD
  refine va_putF (D := (dC, dI)) (ci := 11) (v := .ref q66) (ty := .array .int) (C := "StoryMachineModel") (T := T_Mo) (N := 51) hx hb hts in_Mo t_Mo tk_Mo nm_Mo hown hK hP hD hS 0 rfl rfl 11 (by decide) (hts _ mw_1074) (fun _ h9 => h9) rfl hin rfl (by decide +kernel) rfl rfl (Nat.le_of_ble_eq_true rfl) d_Mo_init_68 (fun H locs hP hD hS => ?_)
  have hP : va_P (dC, dI) vcl [(h0, .inr (11, [.int 0, .ref q8, .int 0, .ref q16, .int 0, .ref q24, .ref q32, .ref q40, .ref q48, .ref q57, .int 0, .ref q66, .int 0, .null, .int 0, .null, .null, .null, .null, .null, .int 0, .int 0, .int 0, .int 0, .int 0, .int 0, .int 0, .int 0, .int 0, .int 0, .int 0, .int 0, .null, .int 0, .int 0, .null, .int 0, .null, .int 0, .null, .int 0, .int 0, .int 0, .int 0, .int 0, .int 0, .int 0, .int 0, .null, .null, .null])), (q8, .inl (cI, 512, .inl (fun _ => 0))), (q16, .inl (cI, 48, .inl (fun _ => 0))), (q24, .inl (cI, 11, .inl (fun _ => 0))), (q32, .inl (cI, 11, .inl (fun _ => 0))), (q40, .inl (cI, 11, .inl (fun _ => 0))), (q48, .inl (cI, 11, .inl (fun _ => 0))), (q57, .inl (cI, 165, .inl (fun _ => 0))), (q66, .inl (cI, 512, .inl (fun _ => 0)))] H := hP
  have hD : va_D A [(h0, .inr (11, [.int 0, .ref q8, .int 0, .ref q16, .int 0, .ref q24, .ref q32, .ref q40, .ref q48, .ref q57, .int 0, .ref q66, .int 0, .null, .int 0, .null, .null, .null, .null, .null, .int 0, .int 0, .int 0, .int 0, .int 0, .int 0, .int 0, .int 0, .int 0, .int 0, .int 0, .int 0, .null, .int 0, .int 0, .null, .int 0, .null, .int 0, .null, .int 0, .int 0, .int 0, .int 0, .int 0, .int 0, .int 0, .int 0, .null, .null, .null])), (q8, .inl (cI, 512, .inl (fun _ => 0))), (q16, .inl (cI, 48, .inl (fun _ => 0))), (q24, .inl (cI, 11, .inl (fun _ => 0))), (q32, .inl (cI, 11, .inl (fun _ => 0))), (q40, .inl (cI, 11, .inl (fun _ => 0))), (q48, .inl (cI, 11, .inl (fun _ => 0))), (q57, .inl (cI, 165, .inl (fun _ => 0))), (q66, .inl (cI, 512, .inl (fun _ => 0)))] := hD
  refine lv_aload_n hx hb d_Mo_init_71 rfl (lv_at hl 0 rfl) ?_
  refine lv_bipush (v := 48) hx hb d_Mo_init_72 (by decide) ?_
  refine ta_newI (N' := 48) hx hb (hts _ mw_47) hK 0 rfl hP hD hS hA (by decide) (by decide) (by decide) (Nat.le_of_ble_eq_true rfl) (Nat.le_of_ble_eq_true rfl) d_Mo_init_74 (fun q74 H hP hD hS => ?_)
  have hP : va_P (dC, dI) vcl [(h0, .inr (11, [.int 0, .ref q8, .int 0, .ref q16, .int 0, .ref q24, .ref q32, .ref q40, .ref q48, .ref q57, .int 0, .ref q66, .int 0, .null, .int 0, .null, .null, .null, .null, .null, .int 0, .int 0, .int 0, .int 0, .int 0, .int 0, .int 0, .int 0, .int 0, .int 0, .int 0, .int 0, .null, .int 0, .int 0, .null, .int 0, .null, .int 0, .null, .int 0, .int 0, .int 0, .int 0, .int 0, .int 0, .int 0, .int 0, .null, .null, .null])), (q8, .inl (cI, 512, .inl (fun _ => 0))), (q16, .inl (cI, 48, .inl (fun _ => 0))), (q24, .inl (cI, 11, .inl (fun _ => 0))), (q32, .inl (cI, 11, .inl (fun _ => 0))), (q40, .inl (cI, 11, .inl (fun _ => 0))), (q48, .inl (cI, 11, .inl (fun _ => 0))), (q57, .inl (cI, 165, .inl (fun _ => 0))), (q66, .inl (cI, 512, .inl (fun _ => 0))), (q74, .inl (cI, 48, .inl (fun _ => 0)))] H := hP
  have hD : va_D A [(h0, .inr (11, [.int 0, .ref q8, .int 0, .ref q16, .int 0, .ref q24, .ref q32, .ref q40, .ref q48, .ref q57, .int 0, .ref q66, .int 0, .null, .int 0, .null, .null, .null, .null, .null, .int 0, .int 0, .int 0, .int 0, .int 0, .int 0, .int 0, .int 0, .int 0, .int 0, .int 0, .int 0, .null, .int 0, .int 0, .null, .int 0, .null, .int 0, .null, .int 0, .int 0, .int 0, .int 0, .int 0, .int 0, .int 0, .int 0, .null, .null, .null])), (q8, .inl (cI, 512, .inl (fun _ => 0))), (q16, .inl (cI, 48, .inl (fun _ => 0))), (q24, .inl (cI, 11, .inl (fun _ => 0))), (q32, .inl (cI, 11, .inl (fun _ => 0))), (q40, .inl (cI, 11, .inl (fun _ => 0))), (q48, .inl (cI, 11, .inl (fun _ => 0))), (q57, .inl (cI, 165, .inl (fun _ => 0))), (q66, .inl (cI, 512, .inl (fun _ => 0))), (q74, .inl (cI, 48, .inl (fun _ => 0)))] := hD
  refine va_putF (D := (dC, dI)) (ci := 11) (v := .ref q74) (ty := .array .int) (C := "StoryMachineModel") (T := T_Mo) (N := 51) hx hb hts in_Mo t_Mo tk_Mo nm_Mo hown hK hP hD hS 0 rfl rfl 13 (by decide) (hts _ mw_1076) (fun _ h9 => h9) rfl hin rfl (by decide +kernel) rfl rfl (Nat.le_of_ble_eq_true rfl) d_Mo_init_76 (fun H locs hP hD hS => ?_)
  have hP : va_P (dC, dI) vcl [(h0, .inr (11, [.int 0, .ref q8, .int 0, .ref q16, .int 0, .ref q24, .ref q32, .ref q40, .ref q48, .ref q57, .int 0, .ref q66, .int 0, .ref q74, .int 0, .null, .null, .null, .null, .null, .int 0, .int 0, .int 0, .int 0, .int 0, .int 0, .int 0, .int 0, .int 0, .int 0, .int 0, .int 0, .null, .int 0, .int 0, .null, .int 0, .null, .int 0, .null, .int 0, .int 0, .int 0, .int 0, .int 0, .int 0, .int 0, .int 0, .null, .null, .null])), (q8, .inl (cI, 512, .inl (fun _ => 0))), (q16, .inl (cI, 48, .inl (fun _ => 0))), (q24, .inl (cI, 11, .inl (fun _ => 0))), (q32, .inl (cI, 11, .inl (fun _ => 0))), (q40, .inl (cI, 11, .inl (fun _ => 0))), (q48, .inl (cI, 11, .inl (fun _ => 0))), (q57, .inl (cI, 165, .inl (fun _ => 0))), (q66, .inl (cI, 512, .inl (fun _ => 0))), (q74, .inl (cI, 48, .inl (fun _ => 0)))] H := hP
  have hD : va_D A [(h0, .inr (11, [.int 0, .ref q8, .int 0, .ref q16, .int 0, .ref q24, .ref q32, .ref q40, .ref q48, .ref q57, .int 0, .ref q66, .int 0, .ref q74, .int 0, .null, .null, .null, .null, .null, .int 0, .int 0, .int 0, .int 0, .int 0, .int 0, .int 0, .int 0, .int 0, .int 0, .int 0, .int 0, .null, .int 0, .int 0, .null, .int 0, .null, .int 0, .null, .int 0, .int 0, .int 0, .int 0, .int 0, .int 0, .int 0, .int 0, .null, .null, .null])), (q8, .inl (cI, 512, .inl (fun _ => 0))), (q16, .inl (cI, 48, .inl (fun _ => 0))), (q24, .inl (cI, 11, .inl (fun _ => 0))), (q32, .inl (cI, 11, .inl (fun _ => 0))), (q40, .inl (cI, 11, .inl (fun _ => 0))), (q48, .inl (cI, 11, .inl (fun _ => 0))), (q57, .inl (cI, 165, .inl (fun _ => 0))), (q66, .inl (cI, 512, .inl (fun _ => 0))), (q74, .inl (cI, 48, .inl (fun _ => 0)))] := hD
  refine lv_aload_n hx hb d_Mo_init_79 rfl (lv_at hl 0 rfl) ?_
  refine lv_bipush (v := 11) hx hb d_Mo_init_80 (by decide) ?_
  refine ta_newI (N' := 11) hx hb (hts _ mw_47) hK 0 rfl hP hD hS hA (by decide) (by decide) (by decide) (Nat.le_of_ble_eq_true rfl) (Nat.le_of_ble_eq_true rfl) d_Mo_init_82 (fun q82 H hP hD hS => ?_)
  have hP : va_P (dC, dI) vcl [(h0, .inr (11, [.int 0, .ref q8, .int 0, .ref q16, .int 0, .ref q24, .ref q32, .ref q40, .ref q48, .ref q57, .int 0, .ref q66, .int 0, .ref q74, .int 0, .null, .null, .null, .null, .null, .int 0, .int 0, .int 0, .int 0, .int 0, .int 0, .int 0, .int 0, .int 0, .int 0, .int 0, .int 0, .null, .int 0, .int 0, .null, .int 0, .null, .int 0, .null, .int 0, .int 0, .int 0, .int 0, .int 0, .int 0, .int 0, .int 0, .null, .null, .null])), (q8, .inl (cI, 512, .inl (fun _ => 0))), (q16, .inl (cI, 48, .inl (fun _ => 0))), (q24, .inl (cI, 11, .inl (fun _ => 0))), (q32, .inl (cI, 11, .inl (fun _ => 0))), (q40, .inl (cI, 11, .inl (fun _ => 0))), (q48, .inl (cI, 11, .inl (fun _ => 0))), (q57, .inl (cI, 165, .inl (fun _ => 0))), (q66, .inl (cI, 512, .inl (fun _ => 0))), (q74, .inl (cI, 48, .inl (fun _ => 0))), (q82, .inl (cI, 11, .inl (fun _ => 0)))] H := hP
  have hD : va_D A [(h0, .inr (11, [.int 0, .ref q8, .int 0, .ref q16, .int 0, .ref q24, .ref q32, .ref q40, .ref q48, .ref q57, .int 0, .ref q66, .int 0, .ref q74, .int 0, .null, .null, .null, .null, .null, .int 0, .int 0, .int 0, .int 0, .int 0, .int 0, .int 0, .int 0, .int 0, .int 0, .int 0, .int 0, .null, .int 0, .int 0, .null, .int 0, .null, .int 0, .null, .int 0, .int 0, .int 0, .int 0, .int 0, .int 0, .int 0, .int 0, .null, .null, .null])), (q8, .inl (cI, 512, .inl (fun _ => 0))), (q16, .inl (cI, 48, .inl (fun _ => 0))), (q24, .inl (cI, 11, .inl (fun _ => 0))), (q32, .inl (cI, 11, .inl (fun _ => 0))), (q40, .inl (cI, 11, .inl (fun _ => 0))), (q48, .inl (cI, 11, .inl (fun _ => 0))), (q57, .inl (cI, 165, .inl (fun _ => 0))), (q66, .inl (cI, 512, .inl (fun _ => 0))), (q74, .inl (cI, 48, .inl (fun _ => 0))), (q82, .inl (cI, 11, .inl (fun _ => 0)))] := hD
  refine va_putF (D := (dC, dI)) (ci := 11) (v := .ref q82) (ty := .array .int) (C := "StoryMachineModel") (T := T_Mo) (N := 51) hx hb hts in_Mo t_Mo tk_Mo nm_Mo hown hK hP hD hS 0 rfl rfl 15 (by decide) (hts _ mw_1078) (fun _ h9 => h9) rfl hin rfl (by decide +kernel) rfl rfl (Nat.le_of_ble_eq_true rfl) d_Mo_init_84 (fun H locs hP hD hS => ?_)
  have hP : va_P (dC, dI) vcl [(h0, .inr (11, [.int 0, .ref q8, .int 0, .ref q16, .int 0, .ref q24, .ref q32, .ref q40, .ref q48, .ref q57, .int 0, .ref q66, .int 0, .ref q74, .int 0, .ref q82, .null, .null, .null, .null, .int 0, .int 0, .int 0, .int 0, .int 0, .int 0, .int 0, .int 0, .int 0, .int 0, .int 0, .int 0, .null, .int 0, .int 0, .null, .int 0, .null, .int 0, .null, .int 0, .int 0, .int 0, .int 0, .int 0, .int 0, .int 0, .int 0, .null, .null, .null])), (q8, .inl (cI, 512, .inl (fun _ => 0))), (q16, .inl (cI, 48, .inl (fun _ => 0))), (q24, .inl (cI, 11, .inl (fun _ => 0))), (q32, .inl (cI, 11, .inl (fun _ => 0))), (q40, .inl (cI, 11, .inl (fun _ => 0))), (q48, .inl (cI, 11, .inl (fun _ => 0))), (q57, .inl (cI, 165, .inl (fun _ => 0))), (q66, .inl (cI, 512, .inl (fun _ => 0))), (q74, .inl (cI, 48, .inl (fun _ => 0))), (q82, .inl (cI, 11, .inl (fun _ => 0)))] H := hP
  have hD : va_D A [(h0, .inr (11, [.int 0, .ref q8, .int 0, .ref q16, .int 0, .ref q24, .ref q32, .ref q40, .ref q48, .ref q57, .int 0, .ref q66, .int 0, .ref q74, .int 0, .ref q82, .null, .null, .null, .null, .int 0, .int 0, .int 0, .int 0, .int 0, .int 0, .int 0, .int 0, .int 0, .int 0, .int 0, .int 0, .null, .int 0, .int 0, .null, .int 0, .null, .int 0, .null, .int 0, .int 0, .int 0, .int 0, .int 0, .int 0, .int 0, .int 0, .null, .null, .null])), (q8, .inl (cI, 512, .inl (fun _ => 0))), (q16, .inl (cI, 48, .inl (fun _ => 0))), (q24, .inl (cI, 11, .inl (fun _ => 0))), (q32, .inl (cI, 11, .inl (fun _ => 0))), (q40, .inl (cI, 11, .inl (fun _ => 0))), (q48, .inl (cI, 11, .inl (fun _ => 0))), (q57, .inl (cI, 165, .inl (fun _ => 0))), (q66, .inl (cI, 512, .inl (fun _ => 0))), (q74, .inl (cI, 48, .inl (fun _ => 0))), (q82, .inl (cI, 11, .inl (fun _ => 0)))] := hD
  refine lv_aload_n hx hb d_Mo_init_87 rfl (lv_at hl 0 rfl) ?_
  refine lv_bipush (v := 11) hx hb d_Mo_init_88 (by decide) ?_
  refine ta_newI (N' := 11) hx hb (hts _ mw_47) hK 0 rfl hP hD hS hA (by decide) (by decide) (by decide) (Nat.le_of_ble_eq_true rfl) (Nat.le_of_ble_eq_true rfl) d_Mo_init_90 (fun q90 H hP hD hS => ?_)
  have hP : va_P (dC, dI) vcl [(h0, .inr (11, [.int 0, .ref q8, .int 0, .ref q16, .int 0, .ref q24, .ref q32, .ref q40, .ref q48, .ref q57, .int 0, .ref q66, .int 0, .ref q74, .int 0, .ref q82, .null, .null, .null, .null, .int 0, .int 0, .int 0, .int 0, .int 0, .int 0, .int 0, .int 0, .int 0, .int 0, .int 0, .int 0, .null, .int 0, .int 0, .null, .int 0, .null, .int 0, .null, .int 0, .int 0, .int 0, .int 0, .int 0, .int 0, .int 0, .int 0, .null, .null, .null])), (q8, .inl (cI, 512, .inl (fun _ => 0))), (q16, .inl (cI, 48, .inl (fun _ => 0))), (q24, .inl (cI, 11, .inl (fun _ => 0))), (q32, .inl (cI, 11, .inl (fun _ => 0))), (q40, .inl (cI, 11, .inl (fun _ => 0))), (q48, .inl (cI, 11, .inl (fun _ => 0))), (q57, .inl (cI, 165, .inl (fun _ => 0))), (q66, .inl (cI, 512, .inl (fun _ => 0))), (q74, .inl (cI, 48, .inl (fun _ => 0))), (q82, .inl (cI, 11, .inl (fun _ => 0))), (q90, .inl (cI, 11, .inl (fun _ => 0)))] H := hP
  have hD : va_D A [(h0, .inr (11, [.int 0, .ref q8, .int 0, .ref q16, .int 0, .ref q24, .ref q32, .ref q40, .ref q48, .ref q57, .int 0, .ref q66, .int 0, .ref q74, .int 0, .ref q82, .null, .null, .null, .null, .int 0, .int 0, .int 0, .int 0, .int 0, .int 0, .int 0, .int 0, .int 0, .int 0, .int 0, .int 0, .null, .int 0, .int 0, .null, .int 0, .null, .int 0, .null, .int 0, .int 0, .int 0, .int 0, .int 0, .int 0, .int 0, .int 0, .null, .null, .null])), (q8, .inl (cI, 512, .inl (fun _ => 0))), (q16, .inl (cI, 48, .inl (fun _ => 0))), (q24, .inl (cI, 11, .inl (fun _ => 0))), (q32, .inl (cI, 11, .inl (fun _ => 0))), (q40, .inl (cI, 11, .inl (fun _ => 0))), (q48, .inl (cI, 11, .inl (fun _ => 0))), (q57, .inl (cI, 165, .inl (fun _ => 0))), (q66, .inl (cI, 512, .inl (fun _ => 0))), (q74, .inl (cI, 48, .inl (fun _ => 0))), (q82, .inl (cI, 11, .inl (fun _ => 0))), (q90, .inl (cI, 11, .inl (fun _ => 0)))] := hD
  refine va_putF (D := (dC, dI)) (ci := 11) (v := .ref q90) (ty := .array .int) (C := "StoryMachineModel") (T := T_Mo) (N := 51) hx hb hts in_Mo t_Mo tk_Mo nm_Mo hown hK hP hD hS 0 rfl rfl 16 (by decide) (hts _ mw_1079) (fun _ h9 => h9) rfl hin rfl (by decide +kernel) rfl rfl (Nat.le_of_ble_eq_true rfl) d_Mo_init_92 (fun H locs hP hD hS => ?_)
  have hP : va_P (dC, dI) vcl [(h0, .inr (11, [.int 0, .ref q8, .int 0, .ref q16, .int 0, .ref q24, .ref q32, .ref q40, .ref q48, .ref q57, .int 0, .ref q66, .int 0, .ref q74, .int 0, .ref q82, .ref q90, .null, .null, .null, .int 0, .int 0, .int 0, .int 0, .int 0, .int 0, .int 0, .int 0, .int 0, .int 0, .int 0, .int 0, .null, .int 0, .int 0, .null, .int 0, .null, .int 0, .null, .int 0, .int 0, .int 0, .int 0, .int 0, .int 0, .int 0, .int 0, .null, .null, .null])), (q8, .inl (cI, 512, .inl (fun _ => 0))), (q16, .inl (cI, 48, .inl (fun _ => 0))), (q24, .inl (cI, 11, .inl (fun _ => 0))), (q32, .inl (cI, 11, .inl (fun _ => 0))), (q40, .inl (cI, 11, .inl (fun _ => 0))), (q48, .inl (cI, 11, .inl (fun _ => 0))), (q57, .inl (cI, 165, .inl (fun _ => 0))), (q66, .inl (cI, 512, .inl (fun _ => 0))), (q74, .inl (cI, 48, .inl (fun _ => 0))), (q82, .inl (cI, 11, .inl (fun _ => 0))), (q90, .inl (cI, 11, .inl (fun _ => 0)))] H := hP
  have hD : va_D A [(h0, .inr (11, [.int 0, .ref q8, .int 0, .ref q16, .int 0, .ref q24, .ref q32, .ref q40, .ref q48, .ref q57, .int 0, .ref q66, .int 0, .ref q74, .int 0, .ref q82, .ref q90, .null, .null, .null, .int 0, .int 0, .int 0, .int 0, .int 0, .int 0, .int 0, .int 0, .int 0, .int 0, .int 0, .int 0, .null, .int 0, .int 0, .null, .int 0, .null, .int 0, .null, .int 0, .int 0, .int 0, .int 0, .int 0, .int 0, .int 0, .int 0, .null, .null, .null])), (q8, .inl (cI, 512, .inl (fun _ => 0))), (q16, .inl (cI, 48, .inl (fun _ => 0))), (q24, .inl (cI, 11, .inl (fun _ => 0))), (q32, .inl (cI, 11, .inl (fun _ => 0))), (q40, .inl (cI, 11, .inl (fun _ => 0))), (q48, .inl (cI, 11, .inl (fun _ => 0))), (q57, .inl (cI, 165, .inl (fun _ => 0))), (q66, .inl (cI, 512, .inl (fun _ => 0))), (q74, .inl (cI, 48, .inl (fun _ => 0))), (q82, .inl (cI, 11, .inl (fun _ => 0))), (q90, .inl (cI, 11, .inl (fun _ => 0)))] := hD
  refine lv_aload_n hx hb d_Mo_init_95 rfl (lv_at hl 0 rfl) ?_
  refine lv_bipush (v := 11) hx hb d_Mo_init_96 (by decide) ?_
  refine ta_newI (N' := 11) hx hb (hts _ mw_47) hK 0 rfl hP hD hS hA (by decide) (by decide) (by decide) (Nat.le_of_ble_eq_true rfl) (Nat.le_of_ble_eq_true rfl) d_Mo_init_98 (fun q98 H hP hD hS => ?_)
  have hP : va_P (dC, dI) vcl [(h0, .inr (11, [.int 0, .ref q8, .int 0, .ref q16, .int 0, .ref q24, .ref q32, .ref q40, .ref q48, .ref q57, .int 0, .ref q66, .int 0, .ref q74, .int 0, .ref q82, .ref q90, .null, .null, .null, .int 0, .int 0, .int 0, .int 0, .int 0, .int 0, .int 0, .int 0, .int 0, .int 0, .int 0, .int 0, .null, .int 0, .int 0, .null, .int 0, .null, .int 0, .null, .int 0, .int 0, .int 0, .int 0, .int 0, .int 0, .int 0, .int 0, .null, .null, .null])), (q8, .inl (cI, 512, .inl (fun _ => 0))), (q16, .inl (cI, 48, .inl (fun _ => 0))), (q24, .inl (cI, 11, .inl (fun _ => 0))), (q32, .inl (cI, 11, .inl (fun _ => 0))), (q40, .inl (cI, 11, .inl (fun _ => 0))), (q48, .inl (cI, 11, .inl (fun _ => 0))), (q57, .inl (cI, 165, .inl (fun _ => 0))), (q66, .inl (cI, 512, .inl (fun _ => 0))), (q74, .inl (cI, 48, .inl (fun _ => 0))), (q82, .inl (cI, 11, .inl (fun _ => 0))), (q90, .inl (cI, 11, .inl (fun _ => 0))), (q98, .inl (cI, 11, .inl (fun _ => 0)))] H := hP
  have hD : va_D A [(h0, .inr (11, [.int 0, .ref q8, .int 0, .ref q16, .int 0, .ref q24, .ref q32, .ref q40, .ref q48, .ref q57, .int 0, .ref q66, .int 0, .ref q74, .int 0, .ref q82, .ref q90, .null, .null, .null, .int 0, .int 0, .int 0, .int 0, .int 0, .int 0, .int 0, .int 0, .int 0, .int 0, .int 0, .int 0, .null, .int 0, .int 0, .null, .int 0, .null, .int 0, .null, .int 0, .int 0, .int 0, .int 0, .int 0, .int 0, .int 0, .int 0, .null, .null, .null])), (q8, .inl (cI, 512, .inl (fun _ => 0))), (q16, .inl (cI, 48, .inl (fun _ => 0))), (q24, .inl (cI, 11, .inl (fun _ => 0))), (q32, .inl (cI, 11, .inl (fun _ => 0))), (q40, .inl (cI, 11, .inl (fun _ => 0))), (q48, .inl (cI, 11, .inl (fun _ => 0))), (q57, .inl (cI, 165, .inl (fun _ => 0))), (q66, .inl (cI, 512, .inl (fun _ => 0))), (q74, .inl (cI, 48, .inl (fun _ => 0))), (q82, .inl (cI, 11, .inl (fun _ => 0))), (q90, .inl (cI, 11, .inl (fun _ => 0))), (q98, .inl (cI, 11, .inl (fun _ => 0)))] := hD
  refine va_putF (D := (dC, dI)) (ci := 11) (v := .ref q98) (ty := .array .int) (C := "StoryMachineModel") (T := T_Mo) (N := 51) hx hb hts in_Mo t_Mo tk_Mo nm_Mo hown hK hP hD hS 0 rfl rfl 17 (by decide) (hts _ mw_1080) (fun _ h9 => h9) rfl hin rfl (by decide +kernel) rfl rfl (Nat.le_of_ble_eq_true rfl) d_Mo_init_100 (fun H locs hP hD hS => ?_)
  have hP : va_P (dC, dI) vcl [(h0, .inr (11, [.int 0, .ref q8, .int 0, .ref q16, .int 0, .ref q24, .ref q32, .ref q40, .ref q48, .ref q57, .int 0, .ref q66, .int 0, .ref q74, .int 0, .ref q82, .ref q90, .ref q98, .null, .null, .int 0, .int 0, .int 0, .int 0, .int 0, .int 0, .int 0, .int 0, .int 0, .int 0, .int 0, .int 0, .null, .int 0, .int 0, .null, .int 0, .null, .int 0, .null, .int 0, .int 0, .int 0, .int 0, .int 0, .int 0, .int 0, .int 0, .null, .null, .null])), (q8, .inl (cI, 512, .inl (fun _ => 0))), (q16, .inl (cI, 48, .inl (fun _ => 0))), (q24, .inl (cI, 11, .inl (fun _ => 0))), (q32, .inl (cI, 11, .inl (fun _ => 0))), (q40, .inl (cI, 11, .inl (fun _ => 0))), (q48, .inl (cI, 11, .inl (fun _ => 0))), (q57, .inl (cI, 165, .inl (fun _ => 0))), (q66, .inl (cI, 512, .inl (fun _ => 0))), (q74, .inl (cI, 48, .inl (fun _ => 0))), (q82, .inl (cI, 11, .inl (fun _ => 0))), (q90, .inl (cI, 11, .inl (fun _ => 0))), (q98, .inl (cI, 11, .inl (fun _ => 0)))] H := hP
  have hD : va_D A [(h0, .inr (11, [.int 0, .ref q8, .int 0, .ref q16, .int 0, .ref q24, .ref q32, .ref q40, .ref q48, .ref q57, .int 0, .ref q66, .int 0, .ref q74, .int 0, .ref q82, .ref q90, .ref q98, .null, .null, .int 0, .int 0, .int 0, .int 0, .int 0, .int 0, .int 0, .int 0, .int 0, .int 0, .int 0, .int 0, .null, .int 0, .int 0, .null, .int 0, .null, .int 0, .null, .int 0, .int 0, .int 0, .int 0, .int 0, .int 0, .int 0, .int 0, .null, .null, .null])), (q8, .inl (cI, 512, .inl (fun _ => 0))), (q16, .inl (cI, 48, .inl (fun _ => 0))), (q24, .inl (cI, 11, .inl (fun _ => 0))), (q32, .inl (cI, 11, .inl (fun _ => 0))), (q40, .inl (cI, 11, .inl (fun _ => 0))), (q48, .inl (cI, 11, .inl (fun _ => 0))), (q57, .inl (cI, 165, .inl (fun _ => 0))), (q66, .inl (cI, 512, .inl (fun _ => 0))), (q74, .inl (cI, 48, .inl (fun _ => 0))), (q82, .inl (cI, 11, .inl (fun _ => 0))), (q90, .inl (cI, 11, .inl (fun _ => 0))), (q98, .inl (cI, 11, .inl (fun _ => 0)))] := hD
  refine lv_aload_n hx hb d_Mo_init_103 rfl (lv_at hl 0 rfl) ?_
  refine lv_bipush (v := 11) hx hb d_Mo_init_104 (by decide) ?_
  refine ta_newI (N' := 11) hx hb (hts _ mw_47) hK 0 rfl hP hD hS hA (by decide) (by decide) (by decide) (Nat.le_of_ble_eq_true rfl) (Nat.le_of_ble_eq_true rfl) d_Mo_init_106 (fun q106 H hP hD hS => ?_)
  have hP : va_P (dC, dI) vcl [(h0, .inr (11, [.int 0, .ref q8, .int 0, .ref q16, .int 0, .ref q24, .ref q32, .ref q40, .ref q48, .ref q57, .int 0, .ref q66, .int 0, .ref q74, .int 0, .ref q82, .ref q90, .ref q98, .null, .null, .int 0, .int 0, .int 0, .int 0, .int 0, .int 0, .int 0, .int 0, .int 0, .int 0, .int 0, .int 0, .null, .int 0, .int 0, .null, .int 0, .null, .int 0, .null, .int 0, .int 0, .int 0, .int 0, .int 0, .int 0, .int 0, .int 0, .null, .null, .null])), (q8, .inl (cI, 512, .inl (fun _ => 0))), (q16, .inl (cI, 48, .inl (fun _ => 0))), (q24, .inl (cI, 11, .inl (fun _ => 0))), (q32, .inl (cI, 11, .inl (fun _ => 0))), (q40, .inl (cI, 11, .inl (fun _ => 0))), (q48, .inl (cI, 11, .inl (fun _ => 0))), (q57, .inl (cI, 165, .inl (fun _ => 0))), (q66, .inl (cI, 512, .inl (fun _ => 0))), (q74, .inl (cI, 48, .inl (fun _ => 0))), (q82, .inl (cI, 11, .inl (fun _ => 0))), (q90, .inl (cI, 11, .inl (fun _ => 0))), (q98, .inl (cI, 11, .inl (fun _ => 0))), (q106, .inl (cI, 11, .inl (fun _ => 0)))] H := hP
  have hD : va_D A [(h0, .inr (11, [.int 0, .ref q8, .int 0, .ref q16, .int 0, .ref q24, .ref q32, .ref q40, .ref q48, .ref q57, .int 0, .ref q66, .int 0, .ref q74, .int 0, .ref q82, .ref q90, .ref q98, .null, .null, .int 0, .int 0, .int 0, .int 0, .int 0, .int 0, .int 0, .int 0, .int 0, .int 0, .int 0, .int 0, .null, .int 0, .int 0, .null, .int 0, .null, .int 0, .null, .int 0, .int 0, .int 0, .int 0, .int 0, .int 0, .int 0, .int 0, .null, .null, .null])), (q8, .inl (cI, 512, .inl (fun _ => 0))), (q16, .inl (cI, 48, .inl (fun _ => 0))), (q24, .inl (cI, 11, .inl (fun _ => 0))), (q32, .inl (cI, 11, .inl (fun _ => 0))), (q40, .inl (cI, 11, .inl (fun _ => 0))), (q48, .inl (cI, 11, .inl (fun _ => 0))), (q57, .inl (cI, 165, .inl (fun _ => 0))), (q66, .inl (cI, 512, .inl (fun _ => 0))), (q74, .inl (cI, 48, .inl (fun _ => 0))), (q82, .inl (cI, 11, .inl (fun _ => 0))), (q90, .inl (cI, 11, .inl (fun _ => 0))), (q98, .inl (cI, 11, .inl (fun _ => 0))), (q106, .inl (cI, 11, .inl (fun _ => 0)))] := hD
  refine va_putF (D := (dC, dI)) (ci := 11) (v := .ref q106) (ty := .array .int) (C := "StoryMachineModel") (T := T_Mo) (N := 51) hx hb hts in_Mo t_Mo tk_Mo nm_Mo hown hK hP hD hS 0 rfl rfl 18 (by decide) (hts _ mw_1081) (fun _ h9 => h9) rfl hin rfl (by decide +kernel) rfl rfl (Nat.le_of_ble_eq_true rfl) d_Mo_init_108 (fun H locs hP hD hS => ?_)
  have hP : va_P (dC, dI) vcl [(h0, .inr (11, [.int 0, .ref q8, .int 0, .ref q16, .int 0, .ref q24, .ref q32, .ref q40, .ref q48, .ref q57, .int 0, .ref q66, .int 0, .ref q74, .int 0, .ref q82, .ref q90, .ref q98, .ref q106, .null, .int 0, .int 0, .int 0, .int 0, .int 0, .int 0, .int 0, .int 0, .int 0, .int 0, .int 0, .int 0, .null, .int 0, .int 0, .null, .int 0, .null, .int 0, .null, .int 0, .int 0, .int 0, .int 0, .int 0, .int 0, .int 0, .int 0, .null, .null, .null])), (q8, .inl (cI, 512, .inl (fun _ => 0))), (q16, .inl (cI, 48, .inl (fun _ => 0))), (q24, .inl (cI, 11, .inl (fun _ => 0))), (q32, .inl (cI, 11, .inl (fun _ => 0))), (q40, .inl (cI, 11, .inl (fun _ => 0))), (q48, .inl (cI, 11, .inl (fun _ => 0))), (q57, .inl (cI, 165, .inl (fun _ => 0))), (q66, .inl (cI, 512, .inl (fun _ => 0))), (q74, .inl (cI, 48, .inl (fun _ => 0))), (q82, .inl (cI, 11, .inl (fun _ => 0))), (q90, .inl (cI, 11, .inl (fun _ => 0))), (q98, .inl (cI, 11, .inl (fun _ => 0))), (q106, .inl (cI, 11, .inl (fun _ => 0)))] H := hP
  have hD : va_D A [(h0, .inr (11, [.int 0, .ref q8, .int 0, .ref q16, .int 0, .ref q24, .ref q32, .ref q40, .ref q48, .ref q57, .int 0, .ref q66, .int 0, .ref q74, .int 0, .ref q82, .ref q90, .ref q98, .ref q106, .null, .int 0, .int 0, .int 0, .int 0, .int 0, .int 0, .int 0, .int 0, .int 0, .int 0, .int 0, .int 0, .null, .int 0, .int 0, .null, .int 0, .null, .int 0, .null, .int 0, .int 0, .int 0, .int 0, .int 0, .int 0, .int 0, .int 0, .null, .null, .null])), (q8, .inl (cI, 512, .inl (fun _ => 0))), (q16, .inl (cI, 48, .inl (fun _ => 0))), (q24, .inl (cI, 11, .inl (fun _ => 0))), (q32, .inl (cI, 11, .inl (fun _ => 0))), (q40, .inl (cI, 11, .inl (fun _ => 0))), (q48, .inl (cI, 11, .inl (fun _ => 0))), (q57, .inl (cI, 165, .inl (fun _ => 0))), (q66, .inl (cI, 512, .inl (fun _ => 0))), (q74, .inl (cI, 48, .inl (fun _ => 0))), (q82, .inl (cI, 11, .inl (fun _ => 0))), (q90, .inl (cI, 11, .inl (fun _ => 0))), (q98, .inl (cI, 11, .inl (fun _ => 0))), (q106, .inl (cI, 11, .inl (fun _ => 0)))] := hD
  refine lv_aload_n hx hb d_Mo_init_111 rfl (lv_at hl 0 rfl) ?_
  refine lv_sipush (v := 165) hx hb d_Mo_init_112 (by decide) ?_
  refine ta_newI (N' := 165) hx hb (hts _ mw_47) hK 0 rfl hP hD hS hA (by decide) (by decide) (by decide) (Nat.le_of_ble_eq_true rfl) (Nat.le_of_ble_eq_true rfl) d_Mo_init_115 (fun q115 H hP hD hS => ?_)
  have hP : va_P (dC, dI) vcl [(h0, .inr (11, [.int 0, .ref q8, .int 0, .ref q16, .int 0, .ref q24, .ref q32, .ref q40, .ref q48, .ref q57, .int 0, .ref q66, .int 0, .ref q74, .int 0, .ref q82, .ref q90, .ref q98, .ref q106, .null, .int 0, .int 0, .int 0, .int 0, .int 0, .int 0, .int 0, .int 0, .int 0, .int 0, .int 0, .int 0, .null, .int 0, .int 0, .null, .int 0, .null, .int 0, .null, .int 0, .int 0, .int 0, .int 0, .int 0, .int 0, .int 0, .int 0, .null, .null, .null])), (q8, .inl (cI, 512, .inl (fun _ => 0))), (q16, .inl (cI, 48, .inl (fun _ => 0))), (q24, .inl (cI, 11, .inl (fun _ => 0))), (q32, .inl (cI, 11, .inl (fun _ => 0))), (q40, .inl (cI, 11, .inl (fun _ => 0))), (q48, .inl (cI, 11, .inl (fun _ => 0))), (q57, .inl (cI, 165, .inl (fun _ => 0))), (q66, .inl (cI, 512, .inl (fun _ => 0))), (q74, .inl (cI, 48, .inl (fun _ => 0))), (q82, .inl (cI, 11, .inl (fun _ => 0))), (q90, .inl (cI, 11, .inl (fun _ => 0))), (q98, .inl (cI, 11, .inl (fun _ => 0))), (q106, .inl (cI, 11, .inl (fun _ => 0))), (q115, .inl (cI, 165, .inl (fun _ => 0)))] H := hP
  have hD : va_D A [(h0, .inr (11, [.int 0, .ref q8, .int 0, .ref q16, .int 0, .ref q24, .ref q32, .ref q40, .ref q48, .ref q57, .int 0, .ref q66, .int 0, .ref q74, .int 0, .ref q82, .ref q90, .ref q98, .ref q106, .null, .int 0, .int 0, .int 0, .int 0, .int 0, .int 0, .int 0, .int 0, .int 0, .int 0, .int 0, .int 0, .null, .int 0, .int 0, .null, .int 0, .null, .int 0, .null, .int 0, .int 0, .int 0, .int 0, .int 0, .int 0, .int 0, .int 0, .null, .null, .null])), (q8, .inl (cI, 512, .inl (fun _ => 0))), (q16, .inl (cI, 48, .inl (fun _ => 0))), (q24, .inl (cI, 11, .inl (fun _ => 0))), (q32, .inl (cI, 11, .inl (fun _ => 0))), (q40, .inl (cI, 11, .inl (fun _ => 0))), (q48, .inl (cI, 11, .inl (fun _ => 0))), (q57, .inl (cI, 165, .inl (fun _ => 0))), (q66, .inl (cI, 512, .inl (fun _ => 0))), (q74, .inl (cI, 48, .inl (fun _ => 0))), (q82, .inl (cI, 11, .inl (fun _ => 0))), (q90, .inl (cI, 11, .inl (fun _ => 0))), (q98, .inl (cI, 11, .inl (fun _ => 0))), (q106, .inl (cI, 11, .inl (fun _ => 0))), (q115, .inl (cI, 165, .inl (fun _ => 0)))] := hD
  refine va_putF (D := (dC, dI)) (ci := 11) (v := .ref q115) (ty := .array .int) (C := "StoryMachineModel") (T := T_Mo) (N := 51) hx hb hts in_Mo t_Mo tk_Mo nm_Mo hown hK hP hD hS 0 rfl rfl 19 (by decide) (hts _ mw_1082) (fun _ h9 => h9) rfl hin rfl (by decide +kernel) rfl rfl (Nat.le_of_ble_eq_true rfl) d_Mo_init_117 (fun H locs hP hD hS => ?_)
  have hP : va_P (dC, dI) vcl [(h0, .inr (11, [.int 0, .ref q8, .int 0, .ref q16, .int 0, .ref q24, .ref q32, .ref q40, .ref q48, .ref q57, .int 0, .ref q66, .int 0, .ref q74, .int 0, .ref q82, .ref q90, .ref q98, .ref q106, .ref q115, .int 0, .int 0, .int 0, .int 0, .int 0, .int 0, .int 0, .int 0, .int 0, .int 0, .int 0, .int 0, .null, .int 0, .int 0, .null, .int 0, .null, .int 0, .null, .int 0, .int 0, .int 0, .int 0, .int 0, .int 0, .int 0, .int 0, .null, .null, .null])), (q8, .inl (cI, 512, .inl (fun _ => 0))), (q16, .inl (cI, 48, .inl (fun _ => 0))), (q24, .inl (cI, 11, .inl (fun _ => 0))), (q32, .inl (cI, 11, .inl (fun _ => 0))), (q40, .inl (cI, 11, .inl (fun _ => 0))), (q48, .inl (cI, 11, .inl (fun _ => 0))), (q57, .inl (cI, 165, .inl (fun _ => 0))), (q66, .inl (cI, 512, .inl (fun _ => 0))), (q74, .inl (cI, 48, .inl (fun _ => 0))), (q82, .inl (cI, 11, .inl (fun _ => 0))), (q90, .inl (cI, 11, .inl (fun _ => 0))), (q98, .inl (cI, 11, .inl (fun _ => 0))), (q106, .inl (cI, 11, .inl (fun _ => 0))), (q115, .inl (cI, 165, .inl (fun _ => 0)))] H := hP
  have hD : va_D A [(h0, .inr (11, [.int 0, .ref q8, .int 0, .ref q16, .int 0, .ref q24, .ref q32, .ref q40, .ref q48, .ref q57, .int 0, .ref q66, .int 0, .ref q74, .int 0, .ref q82, .ref q90, .ref q98, .ref q106, .ref q115, .int 0, .int 0, .int 0, .int 0, .int 0, .int 0, .int 0, .int 0, .int 0, .int 0, .int 0, .int 0, .null, .int 0, .int 0, .null, .int 0, .null, .int 0, .null, .int 0, .int 0, .int 0, .int 0, .int 0, .int 0, .int 0, .int 0, .null, .null, .null])), (q8, .inl (cI, 512, .inl (fun _ => 0))), (q16, .inl (cI, 48, .inl (fun _ => 0))), (q24, .inl (cI, 11, .inl (fun _ => 0))), (q32, .inl (cI, 11, .inl (fun _ => 0))), (q40, .inl (cI, 11, .inl (fun _ => 0))), (q48, .inl (cI, 11, .inl (fun _ => 0))), (q57, .inl (cI, 165, .inl (fun _ => 0))), (q66, .inl (cI, 512, .inl (fun _ => 0))), (q74, .inl (cI, 48, .inl (fun _ => 0))), (q82, .inl (cI, 11, .inl (fun _ => 0))), (q90, .inl (cI, 11, .inl (fun _ => 0))), (q98, .inl (cI, 11, .inl (fun _ => 0))), (q106, .inl (cI, 11, .inl (fun _ => 0))), (q115, .inl (cI, 165, .inl (fun _ => 0)))] := hD
  refine lv_aload_n hx hb d_Mo_init_120 rfl (lv_at hl 0 rfl) ?_
  refine lv_bipush (v := 64) hx hb d_Mo_init_121 (by decide) ?_
  refine ta_newI (N' := 64) hx hb (hts _ mw_47) hK 0 rfl hP hD hS hA (by decide) (by decide) (by decide) (Nat.le_of_ble_eq_true rfl) (Nat.le_of_ble_eq_true rfl) d_Mo_init_123 (fun q123 H hP hD hS => ?_)
  have hP : va_P (dC, dI) vcl [(h0, .inr (11, [.int 0, .ref q8, .int 0, .ref q16, .int 0, .ref q24, .ref q32, .ref q40, .ref q48, .ref q57, .int 0, .ref q66, .int 0, .ref q74, .int 0, .ref q82, .ref q90, .ref q98, .ref q106, .ref q115, .int 0, .int 0, .int 0, .int 0, .int 0, .int 0, .int 0, .int 0, .int 0, .int 0, .int 0, .int 0, .null, .int 0, .int 0, .null, .int 0, .null, .int 0, .null, .int 0, .int 0, .int 0, .int 0, .int 0, .int 0, .int 0, .int 0, .null, .null, .null])), (q8, .inl (cI, 512, .inl (fun _ => 0))), (q16, .inl (cI, 48, .inl (fun _ => 0))), (q24, .inl (cI, 11, .inl (fun _ => 0))), (q32, .inl (cI, 11, .inl (fun _ => 0))), (q40, .inl (cI, 11, .inl (fun _ => 0))), (q48, .inl (cI, 11, .inl (fun _ => 0))), (q57, .inl (cI, 165, .inl (fun _ => 0))), (q66, .inl (cI, 512, .inl (fun _ => 0))), (q74, .inl (cI, 48, .inl (fun _ => 0))), (q82, .inl (cI, 11, .inl (fun _ => 0))), (q90, .inl (cI, 11, .inl (fun _ => 0))), (q98, .inl (cI, 11, .inl (fun _ => 0))), (q106, .inl (cI, 11, .inl (fun _ => 0))), (q115, .inl (cI, 165, .inl (fun _ => 0))), (q123, .inl (cI, 64, .inl (fun _ => 0)))] H := hP
  have hD : va_D A [(h0, .inr (11, [.int 0, .ref q8, .int 0, .ref q16, .int 0, .ref q24, .ref q32, .ref q40, .ref q48, .ref q57, .int 0, .ref q66, .int 0, .ref q74, .int 0, .ref q82, .ref q90, .ref q98, .ref q106, .ref q115, .int 0, .int 0, .int 0, .int 0, .int 0, .int 0, .int 0, .int 0, .int 0, .int 0, .int 0, .int 0, .null, .int 0, .int 0, .null, .int 0, .null, .int 0, .null, .int 0, .int 0, .int 0, .int 0, .int 0, .int 0, .int 0, .int 0, .null, .null, .null])), (q8, .inl (cI, 512, .inl (fun _ => 0))), (q16, .inl (cI, 48, .inl (fun _ => 0))), (q24, .inl (cI, 11, .inl (fun _ => 0))), (q32, .inl (cI, 11, .inl (fun _ => 0))), (q40, .inl (cI, 11, .inl (fun _ => 0))), (q48, .inl (cI, 11, .inl (fun _ => 0))), (q57, .inl (cI, 165, .inl (fun _ => 0))), (q66, .inl (cI, 512, .inl (fun _ => 0))), (q74, .inl (cI, 48, .inl (fun _ => 0))), (q82, .inl (cI, 11, .inl (fun _ => 0))), (q90, .inl (cI, 11, .inl (fun _ => 0))), (q98, .inl (cI, 11, .inl (fun _ => 0))), (q106, .inl (cI, 11, .inl (fun _ => 0))), (q115, .inl (cI, 165, .inl (fun _ => 0))), (q123, .inl (cI, 64, .inl (fun _ => 0)))] := hD
  refine va_putF (D := (dC, dI)) (ci := 11) (v := .ref q123) (ty := .array .int) (C := "StoryMachineModel") (T := T_Mo) (N := 51) hx hb hts in_Mo t_Mo tk_Mo nm_Mo hown hK hP hD hS 0 rfl rfl 32 (by decide) (hts _ mw_1095) (fun _ h9 => h9) rfl hin rfl (by decide +kernel) rfl rfl (Nat.le_of_ble_eq_true rfl) d_Mo_init_125 (fun H locs hP hD hS => ?_)
  have hP : va_P (dC, dI) vcl [(h0, .inr (11, [.int 0, .ref q8, .int 0, .ref q16, .int 0, .ref q24, .ref q32, .ref q40, .ref q48, .ref q57, .int 0, .ref q66, .int 0, .ref q74, .int 0, .ref q82, .ref q90, .ref q98, .ref q106, .ref q115, .int 0, .int 0, .int 0, .int 0, .int 0, .int 0, .int 0, .int 0, .int 0, .int 0, .int 0, .int 0, .ref q123, .int 0, .int 0, .null, .int 0, .null, .int 0, .null, .int 0, .int 0, .int 0, .int 0, .int 0, .int 0, .int 0, .int 0, .null, .null, .null])), (q8, .inl (cI, 512, .inl (fun _ => 0))), (q16, .inl (cI, 48, .inl (fun _ => 0))), (q24, .inl (cI, 11, .inl (fun _ => 0))), (q32, .inl (cI, 11, .inl (fun _ => 0))), (q40, .inl (cI, 11, .inl (fun _ => 0))), (q48, .inl (cI, 11, .inl (fun _ => 0))), (q57, .inl (cI, 165, .inl (fun _ => 0))), (q66, .inl (cI, 512, .inl (fun _ => 0))), (q74, .inl (cI, 48, .inl (fun _ => 0))), (q82, .inl (cI, 11, .inl (fun _ => 0))), (q90, .inl (cI, 11, .inl (fun _ => 0))), (q98, .inl (cI, 11, .inl (fun _ => 0))), (q106, .inl (cI, 11, .inl (fun _ => 0))), (q115, .inl (cI, 165, .inl (fun _ => 0))), (q123, .inl (cI, 64, .inl (fun _ => 0)))] H := hP
  have hD : va_D A [(h0, .inr (11, [.int 0, .ref q8, .int 0, .ref q16, .int 0, .ref q24, .ref q32, .ref q40, .ref q48, .ref q57, .int 0, .ref q66, .int 0, .ref q74, .int 0, .ref q82, .ref q90, .ref q98, .ref q106, .ref q115, .int 0, .int 0, .int 0, .int 0, .int 0, .int 0, .int 0, .int 0, .int 0, .int 0, .int 0, .int 0, .ref q123, .int 0, .int 0, .null, .int 0, .null, .int 0, .null, .int 0, .int 0, .int 0, .int 0, .int 0, .int 0, .int 0, .int 0, .null, .null, .null])), (q8, .inl (cI, 512, .inl (fun _ => 0))), (q16, .inl (cI, 48, .inl (fun _ => 0))), (q24, .inl (cI, 11, .inl (fun _ => 0))), (q32, .inl (cI, 11, .inl (fun _ => 0))), (q40, .inl (cI, 11, .inl (fun _ => 0))), (q48, .inl (cI, 11, .inl (fun _ => 0))), (q57, .inl (cI, 165, .inl (fun _ => 0))), (q66, .inl (cI, 512, .inl (fun _ => 0))), (q74, .inl (cI, 48, .inl (fun _ => 0))), (q82, .inl (cI, 11, .inl (fun _ => 0))), (q90, .inl (cI, 11, .inl (fun _ => 0))), (q98, .inl (cI, 11, .inl (fun _ => 0))), (q106, .inl (cI, 11, .inl (fun _ => 0))), (q115, .inl (cI, 165, .inl (fun _ => 0))), (q123, .inl (cI, 64, .inl (fun _ => 0)))] := hD
  refine lv_aload_n hx hb d_Mo_init_128 rfl (lv_at hl 0 rfl) ?_
  refine lv_bipush (v := 24) hx hb d_Mo_init_129 (by decide) ?_
  refine ta_newI (N' := 24) hx hb (hts _ mw_47) hK 0 rfl hP hD hS hA (by decide) (by decide) (by decide) (Nat.le_of_ble_eq_true rfl) (Nat.le_of_ble_eq_true rfl) d_Mo_init_131 (fun q131 H hP hD hS => ?_)
  have hP : va_P (dC, dI) vcl [(h0, .inr (11, [.int 0, .ref q8, .int 0, .ref q16, .int 0, .ref q24, .ref q32, .ref q40, .ref q48, .ref q57, .int 0, .ref q66, .int 0, .ref q74, .int 0, .ref q82, .ref q90, .ref q98, .ref q106, .ref q115, .int 0, .int 0, .int 0, .int 0, .int 0, .int 0, .int 0, .int 0, .int 0, .int 0, .int 0, .int 0, .ref q123, .int 0, .int 0, .null, .int 0, .null, .int 0, .null, .int 0, .int 0, .int 0, .int 0, .int 0, .int 0, .int 0, .int 0, .null, .null, .null])), (q8, .inl (cI, 512, .inl (fun _ => 0))), (q16, .inl (cI, 48, .inl (fun _ => 0))), (q24, .inl (cI, 11, .inl (fun _ => 0))), (q32, .inl (cI, 11, .inl (fun _ => 0))), (q40, .inl (cI, 11, .inl (fun _ => 0))), (q48, .inl (cI, 11, .inl (fun _ => 0))), (q57, .inl (cI, 165, .inl (fun _ => 0))), (q66, .inl (cI, 512, .inl (fun _ => 0))), (q74, .inl (cI, 48, .inl (fun _ => 0))), (q82, .inl (cI, 11, .inl (fun _ => 0))), (q90, .inl (cI, 11, .inl (fun _ => 0))), (q98, .inl (cI, 11, .inl (fun _ => 0))), (q106, .inl (cI, 11, .inl (fun _ => 0))), (q115, .inl (cI, 165, .inl (fun _ => 0))), (q123, .inl (cI, 64, .inl (fun _ => 0))), (q131, .inl (cI, 24, .inl (fun _ => 0)))] H := hP
  have hD : va_D A [(h0, .inr (11, [.int 0, .ref q8, .int 0, .ref q16, .int 0, .ref q24, .ref q32, .ref q40, .ref q48, .ref q57, .int 0, .ref q66, .int 0, .ref q74, .int 0, .ref q82, .ref q90, .ref q98, .ref q106, .ref q115, .int 0, .int 0, .int 0, .int 0, .int 0, .int 0, .int 0, .int 0, .int 0, .int 0, .int 0, .int 0, .ref q123, .int 0, .int 0, .null, .int 0, .null, .int 0, .null, .int 0, .int 0, .int 0, .int 0, .int 0, .int 0, .int 0, .int 0, .null, .null, .null])), (q8, .inl (cI, 512, .inl (fun _ => 0))), (q16, .inl (cI, 48, .inl (fun _ => 0))), (q24, .inl (cI, 11, .inl (fun _ => 0))), (q32, .inl (cI, 11, .inl (fun _ => 0))), (q40, .inl (cI, 11, .inl (fun _ => 0))), (q48, .inl (cI, 11, .inl (fun _ => 0))), (q57, .inl (cI, 165, .inl (fun _ => 0))), (q66, .inl (cI, 512, .inl (fun _ => 0))), (q74, .inl (cI, 48, .inl (fun _ => 0))), (q82, .inl (cI, 11, .inl (fun _ => 0))), (q90, .inl (cI, 11, .inl (fun _ => 0))), (q98, .inl (cI, 11, .inl (fun _ => 0))), (q106, .inl (cI, 11, .inl (fun _ => 0))), (q115, .inl (cI, 165, .inl (fun _ => 0))), (q123, .inl (cI, 64, .inl (fun _ => 0))), (q131, .inl (cI, 24, .inl (fun _ => 0)))] := hD
  refine va_putF (D := (dC, dI)) (ci := 11) (v := .ref q131) (ty := .array .int) (C := "StoryMachineModel") (T := T_Mo) (N := 51) hx hb hts in_Mo t_Mo tk_Mo nm_Mo hown hK hP hD hS 0 rfl rfl 35 (by decide) (hts _ mw_1098) (fun _ h9 => h9) rfl hin rfl (by decide +kernel) rfl rfl (Nat.le_of_ble_eq_true rfl) d_Mo_init_133 (fun H locs hP hD hS => ?_)
  have hP : va_P (dC, dI) vcl [(h0, .inr (11, [.int 0, .ref q8, .int 0, .ref q16, .int 0, .ref q24, .ref q32, .ref q40, .ref q48, .ref q57, .int 0, .ref q66, .int 0, .ref q74, .int 0, .ref q82, .ref q90, .ref q98, .ref q106, .ref q115, .int 0, .int 0, .int 0, .int 0, .int 0, .int 0, .int 0, .int 0, .int 0, .int 0, .int 0, .int 0, .ref q123, .int 0, .int 0, .ref q131, .int 0, .null, .int 0, .null, .int 0, .int 0, .int 0, .int 0, .int 0, .int 0, .int 0, .int 0, .null, .null, .null])), (q8, .inl (cI, 512, .inl (fun _ => 0))), (q16, .inl (cI, 48, .inl (fun _ => 0))), (q24, .inl (cI, 11, .inl (fun _ => 0))), (q32, .inl (cI, 11, .inl (fun _ => 0))), (q40, .inl (cI, 11, .inl (fun _ => 0))), (q48, .inl (cI, 11, .inl (fun _ => 0))), (q57, .inl (cI, 165, .inl (fun _ => 0))), (q66, .inl (cI, 512, .inl (fun _ => 0))), (q74, .inl (cI, 48, .inl (fun _ => 0))), (q82, .inl (cI, 11, .inl (fun _ => 0))), (q90, .inl (cI, 11, .inl (fun _ => 0))), (q98, .inl (cI, 11, .inl (fun _ => 0))), (q106, .inl (cI, 11, .inl (fun _ => 0))), (q115, .inl (cI, 165, .inl (fun _ => 0))), (q123, .inl (cI, 64, .inl (fun _ => 0))), (q131, .inl (cI, 24, .inl (fun _ => 0)))] H := hP
  have hD : va_D A [(h0, .inr (11, [.int 0, .ref q8, .int 0, .ref q16, .int 0, .ref q24, .ref q32, .ref q40, .ref q48, .ref q57, .int 0, .ref q66, .int 0, .ref q74, .int 0, .ref q82, .ref q90, .ref q98, .ref q106, .ref q115, .int 0, .int 0, .int 0, .int 0, .int 0, .int 0, .int 0, .int 0, .int 0, .int 0, .int 0, .int 0, .ref q123, .int 0, .int 0, .ref q131, .int 0, .null, .int 0, .null, .int 0, .int 0, .int 0, .int 0, .int 0, .int 0, .int 0, .int 0, .null, .null, .null])), (q8, .inl (cI, 512, .inl (fun _ => 0))), (q16, .inl (cI, 48, .inl (fun _ => 0))), (q24, .inl (cI, 11, .inl (fun _ => 0))), (q32, .inl (cI, 11, .inl (fun _ => 0))), (q40, .inl (cI, 11, .inl (fun _ => 0))), (q48, .inl (cI, 11, .inl (fun _ => 0))), (q57, .inl (cI, 165, .inl (fun _ => 0))), (q66, .inl (cI, 512, .inl (fun _ => 0))), (q74, .inl (cI, 48, .inl (fun _ => 0))), (q82, .inl (cI, 11, .inl (fun _ => 0))), (q90, .inl (cI, 11, .inl (fun _ => 0))), (q98, .inl (cI, 11, .inl (fun _ => 0))), (q106, .inl (cI, 11, .inl (fun _ => 0))), (q115, .inl (cI, 165, .inl (fun _ => 0))), (q123, .inl (cI, 64, .inl (fun _ => 0))), (q131, .inl (cI, 24, .inl (fun _ => 0)))] := hD
  refine lv_aload_n hx hb d_Mo_init_136 rfl (lv_at hl 0 rfl) ?_
  refine lv_bipush (v := 24) hx hb d_Mo_init_137 (by decide) ?_
  refine ta_newI (N' := 24) hx hb (hts _ mw_47) hK 0 rfl hP hD hS hA (by decide) (by decide) (by decide) (Nat.le_of_ble_eq_true rfl) (Nat.le_of_ble_eq_true rfl) d_Mo_init_139 (fun q139 H hP hD hS => ?_)
  have hP : va_P (dC, dI) vcl [(h0, .inr (11, [.int 0, .ref q8, .int 0, .ref q16, .int 0, .ref q24, .ref q32, .ref q40, .ref q48, .ref q57, .int 0, .ref q66, .int 0, .ref q74, .int 0, .ref q82, .ref q90, .ref q98, .ref q106, .ref q115, .int 0, .int 0, .int 0, .int 0, .int 0, .int 0, .int 0, .int 0, .int 0, .int 0, .int 0, .int 0, .ref q123, .int 0, .int 0, .ref q131, .int 0, .null, .int 0, .null, .int 0, .int 0, .int 0, .int 0, .int 0, .int 0, .int 0, .int 0, .null, .null, .null])), (q8, .inl (cI, 512, .inl (fun _ => 0))), (q16, .inl (cI, 48, .inl (fun _ => 0))), (q24, .inl (cI, 11, .inl (fun _ => 0))), (q32, .inl (cI, 11, .inl (fun _ => 0))), (q40, .inl (cI, 11, .inl (fun _ => 0))), (q48, .inl (cI, 11, .inl (fun _ => 0))), (q57, .inl (cI, 165, .inl (fun _ => 0))), (q66, .inl (cI, 512, .inl (fun _ => 0))), (q74, .inl (cI, 48, .inl (fun _ => 0))), (q82, .inl (cI, 11, .inl (fun _ => 0))), (q90, .inl (cI, 11, .inl (fun _ => 0))), (q98, .inl (cI, 11, .inl (fun _ => 0))), (q106, .inl (cI, 11, .inl (fun _ => 0))), (q115, .inl (cI, 165, .inl (fun _ => 0))), (q123, .inl (cI, 64, .inl (fun _ => 0))), (q131, .inl (cI, 24, .inl (fun _ => 0))), (q139, .inl (cI, 24, .inl (fun _ => 0)))] H := hP
  have hD : va_D A [(h0, .inr (11, [.int 0, .ref q8, .int 0, .ref q16, .int 0, .ref q24, .ref q32, .ref q40, .ref q48, .ref q57, .int 0, .ref q66, .int 0, .ref q74, .int 0, .ref q82, .ref q90, .ref q98, .ref q106, .ref q115, .int 0, .int 0, .int 0, .int 0, .int 0, .int 0, .int 0, .int 0, .int 0, .int 0, .int 0, .int 0, .ref q123, .int 0, .int 0, .ref q131, .int 0, .null, .int 0, .null, .int 0, .int 0, .int 0, .int 0, .int 0, .int 0, .int 0, .int 0, .null, .null, .null])), (q8, .inl (cI, 512, .inl (fun _ => 0))), (q16, .inl (cI, 48, .inl (fun _ => 0))), (q24, .inl (cI, 11, .inl (fun _ => 0))), (q32, .inl (cI, 11, .inl (fun _ => 0))), (q40, .inl (cI, 11, .inl (fun _ => 0))), (q48, .inl (cI, 11, .inl (fun _ => 0))), (q57, .inl (cI, 165, .inl (fun _ => 0))), (q66, .inl (cI, 512, .inl (fun _ => 0))), (q74, .inl (cI, 48, .inl (fun _ => 0))), (q82, .inl (cI, 11, .inl (fun _ => 0))), (q90, .inl (cI, 11, .inl (fun _ => 0))), (q98, .inl (cI, 11, .inl (fun _ => 0))), (q106, .inl (cI, 11, .inl (fun _ => 0))), (q115, .inl (cI, 165, .inl (fun _ => 0))), (q123, .inl (cI, 64, .inl (fun _ => 0))), (q131, .inl (cI, 24, .inl (fun _ => 0))), (q139, .inl (cI, 24, .inl (fun _ => 0)))] := hD
  refine va_putF (D := (dC, dI)) (ci := 11) (v := .ref q139) (ty := .array .int) (C := "StoryMachineModel") (T := T_Mo) (N := 51) hx hb hts in_Mo t_Mo tk_Mo nm_Mo hown hK hP hD hS 0 rfl rfl 37 (by decide) (hts _ mw_1100) (fun _ h9 => h9) rfl hin rfl (by decide +kernel) rfl rfl (Nat.le_of_ble_eq_true rfl) d_Mo_init_141 (fun H locs hP hD hS => ?_)
  have hP : va_P (dC, dI) vcl [(h0, .inr (11, [.int 0, .ref q8, .int 0, .ref q16, .int 0, .ref q24, .ref q32, .ref q40, .ref q48, .ref q57, .int 0, .ref q66, .int 0, .ref q74, .int 0, .ref q82, .ref q90, .ref q98, .ref q106, .ref q115, .int 0, .int 0, .int 0, .int 0, .int 0, .int 0, .int 0, .int 0, .int 0, .int 0, .int 0, .int 0, .ref q123, .int 0, .int 0, .ref q131, .int 0, .ref q139, .int 0, .null, .int 0, .int 0, .int 0, .int 0, .int 0, .int 0, .int 0, .int 0, .null, .null, .null])), (q8, .inl (cI, 512, .inl (fun _ => 0))), (q16, .inl (cI, 48, .inl (fun _ => 0))), (q24, .inl (cI, 11, .inl (fun _ => 0))), (q32, .inl (cI, 11, .inl (fun _ => 0))), (q40, .inl (cI, 11, .inl (fun _ => 0))), (q48, .inl (cI, 11, .inl (fun _ => 0))), (q57, .inl (cI, 165, .inl (fun _ => 0))), (q66, .inl (cI, 512, .inl (fun _ => 0))), (q74, .inl (cI, 48, .inl (fun _ => 0))), (q82, .inl (cI, 11, .inl (fun _ => 0))), (q90, .inl (cI, 11, .inl (fun _ => 0))), (q98, .inl (cI, 11, .inl (fun _ => 0))), (q106, .inl (cI, 11, .inl (fun _ => 0))), (q115, .inl (cI, 165, .inl (fun _ => 0))), (q123, .inl (cI, 64, .inl (fun _ => 0))), (q131, .inl (cI, 24, .inl (fun _ => 0))), (q139, .inl (cI, 24, .inl (fun _ => 0)))] H := hP
  have hD : va_D A [(h0, .inr (11, [.int 0, .ref q8, .int 0, .ref q16, .int 0, .ref q24, .ref q32, .ref q40, .ref q48, .ref q57, .int 0, .ref q66, .int 0, .ref q74, .int 0, .ref q82, .ref q90, .ref q98, .ref q106, .ref q115, .int 0, .int 0, .int 0, .int 0, .int 0, .int 0, .int 0, .int 0, .int 0, .int 0, .int 0, .int 0, .ref q123, .int 0, .int 0, .ref q131, .int 0, .ref q139, .int 0, .null, .int 0, .int 0, .int 0, .int 0, .int 0, .int 0, .int 0, .int 0, .null, .null, .null])), (q8, .inl (cI, 512, .inl (fun _ => 0))), (q16, .inl (cI, 48, .inl (fun _ => 0))), (q24, .inl (cI, 11, .inl (fun _ => 0))), (q32, .inl (cI, 11, .inl (fun _ => 0))), (q40, .inl (cI, 11, .inl (fun _ => 0))), (q48, .inl (cI, 11, .inl (fun _ => 0))), (q57, .inl (cI, 165, .inl (fun _ => 0))), (q66, .inl (cI, 512, .inl (fun _ => 0))), (q74, .inl (cI, 48, .inl (fun _ => 0))), (q82, .inl (cI, 11, .inl (fun _ => 0))), (q90, .inl (cI, 11, .inl (fun _ => 0))), (q98, .inl (cI, 11, .inl (fun _ => 0))), (q106, .inl (cI, 11, .inl (fun _ => 0))), (q115, .inl (cI, 165, .inl (fun _ => 0))), (q123, .inl (cI, 64, .inl (fun _ => 0))), (q131, .inl (cI, 24, .inl (fun _ => 0))), (q139, .inl (cI, 24, .inl (fun _ => 0)))] := hD
  refine lv_aload_n hx hb d_Mo_init_144 rfl (lv_at hl 0 rfl) ?_
  refine lv_iconst (v := 4) hx hb d_Mo_init_145 (by decide) ?_
  refine ta_newI (N' := 4) hx hb (hts _ mw_47) hK 0 rfl hP hD hS hA (by decide) (by decide) (by decide) (Nat.le_of_ble_eq_true rfl) (Nat.le_of_ble_eq_true rfl) d_Mo_init_146 (fun q146 H hP hD hS => ?_)
  have hP : va_P (dC, dI) vcl [(h0, .inr (11, [.int 0, .ref q8, .int 0, .ref q16, .int 0, .ref q24, .ref q32, .ref q40, .ref q48, .ref q57, .int 0, .ref q66, .int 0, .ref q74, .int 0, .ref q82, .ref q90, .ref q98, .ref q106, .ref q115, .int 0, .int 0, .int 0, .int 0, .int 0, .int 0, .int 0, .int 0, .int 0, .int 0, .int 0, .int 0, .ref q123, .int 0, .int 0, .ref q131, .int 0, .ref q139, .int 0, .null, .int 0, .int 0, .int 0, .int 0, .int 0, .int 0, .int 0, .int 0, .null, .null, .null])), (q8, .inl (cI, 512, .inl (fun _ => 0))), (q16, .inl (cI, 48, .inl (fun _ => 0))), (q24, .inl (cI, 11, .inl (fun _ => 0))), (q32, .inl (cI, 11, .inl (fun _ => 0))), (q40, .inl (cI, 11, .inl (fun _ => 0))), (q48, .inl (cI, 11, .inl (fun _ => 0))), (q57, .inl (cI, 165, .inl (fun _ => 0))), (q66, .inl (cI, 512, .inl (fun _ => 0))), (q74, .inl (cI, 48, .inl (fun _ => 0))), (q82, .inl (cI, 11, .inl (fun _ => 0))), (q90, .inl (cI, 11, .inl (fun _ => 0))), (q98, .inl (cI, 11, .inl (fun _ => 0))), (q106, .inl (cI, 11, .inl (fun _ => 0))), (q115, .inl (cI, 165, .inl (fun _ => 0))), (q123, .inl (cI, 64, .inl (fun _ => 0))), (q131, .inl (cI, 24, .inl (fun _ => 0))), (q139, .inl (cI, 24, .inl (fun _ => 0))), (q146, .inl (cI, 4, .inl (fun _ => 0)))] H := hP
  have hD : va_D A [(h0, .inr (11, [.int 0, .ref q8, .int 0, .ref q16, .int 0, .ref q24, .ref q32, .ref q40, .ref q48, .ref q57, .int 0, .ref q66, .int 0, .ref q74, .int 0, .ref q82, .ref q90, .ref q98, .ref q106, .ref q115, .int 0, .int 0, .int 0, .int 0, .int 0, .int 0, .int 0, .int 0, .int 0, .int 0, .int 0, .int 0, .ref q123, .int 0, .int 0, .ref q131, .int 0, .ref q139, .int 0, .null, .int 0, .int 0, .int 0, .int 0, .int 0, .int 0, .int 0, .int 0, .null, .null, .null])), (q8, .inl (cI, 512, .inl (fun _ => 0))), (q16, .inl (cI, 48, .inl (fun _ => 0))), (q24, .inl (cI, 11, .inl (fun _ => 0))), (q32, .inl (cI, 11, .inl (fun _ => 0))), (q40, .inl (cI, 11, .inl (fun _ => 0))), (q48, .inl (cI, 11, .inl (fun _ => 0))), (q57, .inl (cI, 165, .inl (fun _ => 0))), (q66, .inl (cI, 512, .inl (fun _ => 0))), (q74, .inl (cI, 48, .inl (fun _ => 0))), (q82, .inl (cI, 11, .inl (fun _ => 0))), (q90, .inl (cI, 11, .inl (fun _ => 0))), (q98, .inl (cI, 11, .inl (fun _ => 0))), (q106, .inl (cI, 11, .inl (fun _ => 0))), (q115, .inl (cI, 165, .inl (fun _ => 0))), (q123, .inl (cI, 64, .inl (fun _ => 0))), (q131, .inl (cI, 24, .inl (fun _ => 0))), (q139, .inl (cI, 24, .inl (fun _ => 0))), (q146, .inl (cI, 4, .inl (fun _ => 0)))] := hD
  refine va_putF (D := (dC, dI)) (ci := 11) (v := .ref q146) (ty := .array .int) (C := "StoryMachineModel") (T := T_Mo) (N := 51) hx hb hts in_Mo t_Mo tk_Mo nm_Mo hown hK hP hD hS 0 rfl rfl 39 (by decide) (hts _ mw_1102) (fun _ h9 => h9) rfl hin rfl (by decide +kernel) rfl rfl (Nat.le_of_ble_eq_true rfl) d_Mo_init_148 (fun H locs hP hD hS => ?_)
  have hP : va_P (dC, dI) vcl [(h0, .inr (11, [.int 0, .ref q8, .int 0, .ref q16, .int 0, .ref q24, .ref q32, .ref q40, .ref q48, .ref q57, .int 0, .ref q66, .int 0, .ref q74, .int 0, .ref q82, .ref q90, .ref q98, .ref q106, .ref q115, .int 0, .int 0, .int 0, .int 0, .int 0, .int 0, .int 0, .int 0, .int 0, .int 0, .int 0, .int 0, .ref q123, .int 0, .int 0, .ref q131, .int 0, .ref q139, .int 0, .ref q146, .int 0, .int 0, .int 0, .int 0, .int 0, .int 0, .int 0, .int 0, .null, .null, .null])), (q8, .inl (cI, 512, .inl (fun _ => 0))), (q16, .inl (cI, 48, .inl (fun _ => 0))), (q24, .inl (cI, 11, .inl (fun _ => 0))), (q32, .inl (cI, 11, .inl (fun _ => 0))), (q40, .inl (cI, 11, .inl (fun _ => 0))), (q48, .inl (cI, 11, .inl (fun _ => 0))), (q57, .inl (cI, 165, .inl (fun _ => 0))), (q66, .inl (cI, 512, .inl (fun _ => 0))), (q74, .inl (cI, 48, .inl (fun _ => 0))), (q82, .inl (cI, 11, .inl (fun _ => 0))), (q90, .inl (cI, 11, .inl (fun _ => 0))), (q98, .inl (cI, 11, .inl (fun _ => 0))), (q106, .inl (cI, 11, .inl (fun _ => 0))), (q115, .inl (cI, 165, .inl (fun _ => 0))), (q123, .inl (cI, 64, .inl (fun _ => 0))), (q131, .inl (cI, 24, .inl (fun _ => 0))), (q139, .inl (cI, 24, .inl (fun _ => 0))), (q146, .inl (cI, 4, .inl (fun _ => 0)))] H := hP
  have hD : va_D A [(h0, .inr (11, [.int 0, .ref q8, .int 0, .ref q16, .int 0, .ref q24, .ref q32, .ref q40, .ref q48, .ref q57, .int 0, .ref q66, .int 0, .ref q74, .int 0, .ref q82, .ref q90, .ref q98, .ref q106, .ref q115, .int 0, .int 0, .int 0, .int 0, .int 0, .int 0, .int 0, .int 0, .int 0, .int 0, .int 0, .int 0, .ref q123, .int 0, .int 0, .ref q131, .int 0, .ref q139, .int 0, .ref q146, .int 0, .int 0, .int 0, .int 0, .int 0, .int 0, .int 0, .int 0, .null, .null, .null])), (q8, .inl (cI, 512, .inl (fun _ => 0))), (q16, .inl (cI, 48, .inl (fun _ => 0))), (q24, .inl (cI, 11, .inl (fun _ => 0))), (q32, .inl (cI, 11, .inl (fun _ => 0))), (q40, .inl (cI, 11, .inl (fun _ => 0))), (q48, .inl (cI, 11, .inl (fun _ => 0))), (q57, .inl (cI, 165, .inl (fun _ => 0))), (q66, .inl (cI, 512, .inl (fun _ => 0))), (q74, .inl (cI, 48, .inl (fun _ => 0))), (q82, .inl (cI, 11, .inl (fun _ => 0))), (q90, .inl (cI, 11, .inl (fun _ => 0))), (q98, .inl (cI, 11, .inl (fun _ => 0))), (q106, .inl (cI, 11, .inl (fun _ => 0))), (q115, .inl (cI, 165, .inl (fun _ => 0))), (q123, .inl (cI, 64, .inl (fun _ => 0))), (q131, .inl (cI, 24, .inl (fun _ => 0))), (q139, .inl (cI, 24, .inl (fun _ => 0))), (q146, .inl (cI, 4, .inl (fun _ => 0)))] := hD
  refine lv_aload_n hx hb d_Mo_init_151 rfl (lv_at hl 0 rfl) ?_
  refine lv_bipush (v := 6) hx hb d_Mo_init_152 (by decide) ?_
  refine ta_newI (N' := 6) hx hb (hts _ mw_47) hK 0 rfl hP hD hS hA (by decide) (by decide) (by decide) (Nat.le_of_ble_eq_true rfl) (Nat.le_of_ble_eq_true rfl) d_Mo_init_154 (fun q154 H hP hD hS => ?_)
  have hP : va_P (dC, dI) vcl [(h0, .inr (11, [.int 0, .ref q8, .int 0, .ref q16, .int 0, .ref q24, .ref q32, .ref q40, .ref q48, .ref q57, .int 0, .ref q66, .int 0, .ref q74, .int 0, .ref q82, .ref q90, .ref q98, .ref q106, .ref q115, .int 0, .int 0, .int 0, .int 0, .int 0, .int 0, .int 0, .int 0, .int 0, .int 0, .int 0, .int 0, .ref q123, .int 0, .int 0, .ref q131, .int 0, .ref q139, .int 0, .ref q146, .int 0, .int 0, .int 0, .int 0, .int 0, .int 0, .int 0, .int 0, .null, .null, .null])), (q8, .inl (cI, 512, .inl (fun _ => 0))), (q16, .inl (cI, 48, .inl (fun _ => 0))), (q24, .inl (cI, 11, .inl (fun _ => 0))), (q32, .inl (cI, 11, .inl (fun _ => 0))), (q40, .inl (cI, 11, .inl (fun _ => 0))), (q48, .inl (cI, 11, .inl (fun _ => 0))), (q57, .inl (cI, 165, .inl (fun _ => 0))), (q66, .inl (cI, 512, .inl (fun _ => 0))), (q74, .inl (cI, 48, .inl (fun _ => 0))), (q82, .inl (cI, 11, .inl (fun _ => 0))), (q90, .inl (cI, 11, .inl (fun _ => 0))), (q98, .inl (cI, 11, .inl (fun _ => 0))), (q106, .inl (cI, 11, .inl (fun _ => 0))), (q115, .inl (cI, 165, .inl (fun _ => 0))), (q123, .inl (cI, 64, .inl (fun _ => 0))), (q131, .inl (cI, 24, .inl (fun _ => 0))), (q139, .inl (cI, 24, .inl (fun _ => 0))), (q146, .inl (cI, 4, .inl (fun _ => 0))), (q154, .inl (cI, 6, .inl (fun _ => 0)))] H := hP
  have hD : va_D A [(h0, .inr (11, [.int 0, .ref q8, .int 0, .ref q16, .int 0, .ref q24, .ref q32, .ref q40, .ref q48, .ref q57, .int 0, .ref q66, .int 0, .ref q74, .int 0, .ref q82, .ref q90, .ref q98, .ref q106, .ref q115, .int 0, .int 0, .int 0, .int 0, .int 0, .int 0, .int 0, .int 0, .int 0, .int 0, .int 0, .int 0, .ref q123, .int 0, .int 0, .ref q131, .int 0, .ref q139, .int 0, .ref q146, .int 0, .int 0, .int 0, .int 0, .int 0, .int 0, .int 0, .int 0, .null, .null, .null])), (q8, .inl (cI, 512, .inl (fun _ => 0))), (q16, .inl (cI, 48, .inl (fun _ => 0))), (q24, .inl (cI, 11, .inl (fun _ => 0))), (q32, .inl (cI, 11, .inl (fun _ => 0))), (q40, .inl (cI, 11, .inl (fun _ => 0))), (q48, .inl (cI, 11, .inl (fun _ => 0))), (q57, .inl (cI, 165, .inl (fun _ => 0))), (q66, .inl (cI, 512, .inl (fun _ => 0))), (q74, .inl (cI, 48, .inl (fun _ => 0))), (q82, .inl (cI, 11, .inl (fun _ => 0))), (q90, .inl (cI, 11, .inl (fun _ => 0))), (q98, .inl (cI, 11, .inl (fun _ => 0))), (q106, .inl (cI, 11, .inl (fun _ => 0))), (q115, .inl (cI, 165, .inl (fun _ => 0))), (q123, .inl (cI, 64, .inl (fun _ => 0))), (q131, .inl (cI, 24, .inl (fun _ => 0))), (q139, .inl (cI, 24, .inl (fun _ => 0))), (q146, .inl (cI, 4, .inl (fun _ => 0))), (q154, .inl (cI, 6, .inl (fun _ => 0)))] := hD
  refine va_putF (D := (dC, dI)) (ci := 11) (v := .ref q154) (ty := .array .int) (C := "StoryMachineModel") (T := T_Mo) (N := 51) hx hb hts in_Mo t_Mo tk_Mo nm_Mo hown hK hP hD hS 0 rfl rfl 48 (by decide) (hts _ mw_1111) (fun _ h9 => h9) rfl hin rfl (by decide +kernel) rfl rfl (Nat.le_of_ble_eq_true rfl) d_Mo_init_156 (fun H locs hP hD hS => ?_)
  have hP : va_P (dC, dI) vcl [(h0, .inr (11, [.int 0, .ref q8, .int 0, .ref q16, .int 0, .ref q24, .ref q32, .ref q40, .ref q48, .ref q57, .int 0, .ref q66, .int 0, .ref q74, .int 0, .ref q82, .ref q90, .ref q98, .ref q106, .ref q115, .int 0, .int 0, .int 0, .int 0, .int 0, .int 0, .int 0, .int 0, .int 0, .int 0, .int 0, .int 0, .ref q123, .int 0, .int 0, .ref q131, .int 0, .ref q139, .int 0, .ref q146, .int 0, .int 0, .int 0, .int 0, .int 0, .int 0, .int 0, .int 0, .ref q154, .null, .null])), (q8, .inl (cI, 512, .inl (fun _ => 0))), (q16, .inl (cI, 48, .inl (fun _ => 0))), (q24, .inl (cI, 11, .inl (fun _ => 0))), (q32, .inl (cI, 11, .inl (fun _ => 0))), (q40, .inl (cI, 11, .inl (fun _ => 0))), (q48, .inl (cI, 11, .inl (fun _ => 0))), (q57, .inl (cI, 165, .inl (fun _ => 0))), (q66, .inl (cI, 512, .inl (fun _ => 0))), (q74, .inl (cI, 48, .inl (fun _ => 0))), (q82, .inl (cI, 11, .inl (fun _ => 0))), (q90, .inl (cI, 11, .inl (fun _ => 0))), (q98, .inl (cI, 11, .inl (fun _ => 0))), (q106, .inl (cI, 11, .inl (fun _ => 0))), (q115, .inl (cI, 165, .inl (fun _ => 0))), (q123, .inl (cI, 64, .inl (fun _ => 0))), (q131, .inl (cI, 24, .inl (fun _ => 0))), (q139, .inl (cI, 24, .inl (fun _ => 0))), (q146, .inl (cI, 4, .inl (fun _ => 0))), (q154, .inl (cI, 6, .inl (fun _ => 0)))] H := hP
  have hD : va_D A [(h0, .inr (11, [.int 0, .ref q8, .int 0, .ref q16, .int 0, .ref q24, .ref q32, .ref q40, .ref q48, .ref q57, .int 0, .ref q66, .int 0, .ref q74, .int 0, .ref q82, .ref q90, .ref q98, .ref q106, .ref q115, .int 0, .int 0, .int 0, .int 0, .int 0, .int 0, .int 0, .int 0, .int 0, .int 0, .int 0, .int 0, .ref q123, .int 0, .int 0, .ref q131, .int 0, .ref q139, .int 0, .ref q146, .int 0, .int 0, .int 0, .int 0, .int 0, .int 0, .int 0, .int 0, .ref q154, .null, .null])), (q8, .inl (cI, 512, .inl (fun _ => 0))), (q16, .inl (cI, 48, .inl (fun _ => 0))), (q24, .inl (cI, 11, .inl (fun _ => 0))), (q32, .inl (cI, 11, .inl (fun _ => 0))), (q40, .inl (cI, 11, .inl (fun _ => 0))), (q48, .inl (cI, 11, .inl (fun _ => 0))), (q57, .inl (cI, 165, .inl (fun _ => 0))), (q66, .inl (cI, 512, .inl (fun _ => 0))), (q74, .inl (cI, 48, .inl (fun _ => 0))), (q82, .inl (cI, 11, .inl (fun _ => 0))), (q90, .inl (cI, 11, .inl (fun _ => 0))), (q98, .inl (cI, 11, .inl (fun _ => 0))), (q106, .inl (cI, 11, .inl (fun _ => 0))), (q115, .inl (cI, 165, .inl (fun _ => 0))), (q123, .inl (cI, 64, .inl (fun _ => 0))), (q131, .inl (cI, 24, .inl (fun _ => 0))), (q139, .inl (cI, 24, .inl (fun _ => 0))), (q146, .inl (cI, 4, .inl (fun _ => 0))), (q154, .inl (cI, 6, .inl (fun _ => 0)))] := hD
  refine lv_aload_n hx hb d_Mo_init_159 rfl (lv_at hl 0 rfl) ?_
  refine lv_bipush (v := 24) hx hb d_Mo_init_160 (by decide) ?_
  refine ta_newI (N' := 24) hx hb (hts _ mw_47) hK 0 rfl hP hD hS hA (by decide) (by decide) (by decide) (Nat.le_of_ble_eq_true rfl) (Nat.le_of_ble_eq_true rfl) d_Mo_init_162 (fun q162 H hP hD hS => ?_)
  have hP : va_P (dC, dI) vcl [(h0, .inr (11, [.int 0, .ref q8, .int 0, .ref q16, .int 0, .ref q24, .ref q32, .ref q40, .ref q48, .ref q57, .int 0, .ref q66, .int 0, .ref q74, .int 0, .ref q82, .ref q90, .ref q98, .ref q106, .ref q115, .int 0, .int 0, .int 0, .int 0, .int 0, .int 0, .int 0, .int 0, .int 0, .int 0, .int 0, .int 0, .ref q123, .int 0, .int 0, .ref q131, .int 0, .ref q139, .int 0, .ref q146, .int 0, .int 0, .int 0, .int 0, .int 0, .int 0, .int 0, .int 0, .ref q154, .null, .null])), (q8, .inl (cI, 512, .inl (fun _ => 0))), (q16, .inl (cI, 48, .inl (fun _ => 0))), (q24, .inl (cI, 11, .inl (fun _ => 0))), (q32, .inl (cI, 11, .inl (fun _ => 0))), (q40, .inl (cI, 11, .inl (fun _ => 0))), (q48, .inl (cI, 11, .inl (fun _ => 0))), (q57, .inl (cI, 165, .inl (fun _ => 0))), (q66, .inl (cI, 512, .inl (fun _ => 0))), (q74, .inl (cI, 48, .inl (fun _ => 0))), (q82, .inl (cI, 11, .inl (fun _ => 0))), (q90, .inl (cI, 11, .inl (fun _ => 0))), (q98, .inl (cI, 11, .inl (fun _ => 0))), (q106, .inl (cI, 11, .inl (fun _ => 0))), (q115, .inl (cI, 165, .inl (fun _ => 0))), (q123, .inl (cI, 64, .inl (fun _ => 0))), (q131, .inl (cI, 24, .inl (fun _ => 0))), (q139, .inl (cI, 24, .inl (fun _ => 0))), (q146, .inl (cI, 4, .inl (fun _ => 0))), (q154, .inl (cI, 6, .inl (fun _ => 0))), (q162, .inl (cI, 24, .inl (fun _ => 0)))] H := hP
  have hD : va_D A [(h0, .inr (11, [.int 0, .ref q8, .int 0, .ref q16, .int 0, .ref q24, .ref q32, .ref q40, .ref q48, .ref q57, .int 0, .ref q66, .int 0, .ref q74, .int 0, .ref q82, .ref q90, .ref q98, .ref q106, .ref q115, .int 0, .int 0, .int 0, .int 0, .int 0, .int 0, .int 0, .int 0, .int 0, .int 0, .int 0, .int 0, .ref q123, .int 0, .int 0, .ref q131, .int 0, .ref q139, .int 0, .ref q146, .int 0, .int 0, .int 0, .int 0, .int 0, .int 0, .int 0, .int 0, .ref q154, .null, .null])), (q8, .inl (cI, 512, .inl (fun _ => 0))), (q16, .inl (cI, 48, .inl (fun _ => 0))), (q24, .inl (cI, 11, .inl (fun _ => 0))), (q32, .inl (cI, 11, .inl (fun _ => 0))), (q40, .inl (cI, 11, .inl (fun _ => 0))), (q48, .inl (cI, 11, .inl (fun _ => 0))), (q57, .inl (cI, 165, .inl (fun _ => 0))), (q66, .inl (cI, 512, .inl (fun _ => 0))), (q74, .inl (cI, 48, .inl (fun _ => 0))), (q82, .inl (cI, 11, .inl (fun _ => 0))), (q90, .inl (cI, 11, .inl (fun _ => 0))), (q98, .inl (cI, 11, .inl (fun _ => 0))), (q106, .inl (cI, 11, .inl (fun _ => 0))), (q115, .inl (cI, 165, .inl (fun _ => 0))), (q123, .inl (cI, 64, .inl (fun _ => 0))), (q131, .inl (cI, 24, .inl (fun _ => 0))), (q139, .inl (cI, 24, .inl (fun _ => 0))), (q146, .inl (cI, 4, .inl (fun _ => 0))), (q154, .inl (cI, 6, .inl (fun _ => 0))), (q162, .inl (cI, 24, .inl (fun _ => 0)))] := hD
  refine va_putF (D := (dC, dI)) (ci := 11) (v := .ref q162) (ty := .array .int) (C := "StoryMachineModel") (T := T_Mo) (N := 51) hx hb hts in_Mo t_Mo tk_Mo nm_Mo hown hK hP hD hS 0 rfl rfl 49 (by decide) (hts _ mw_1112) (fun _ h9 => h9) rfl hin rfl (by decide +kernel) rfl rfl (Nat.le_of_ble_eq_true rfl) d_Mo_init_164 (fun H locs hP hD hS => ?_)
  have hP : va_P (dC, dI) vcl [(h0, .inr (11, [.int 0, .ref q8, .int 0, .ref q16, .int 0, .ref q24, .ref q32, .ref q40, .ref q48, .ref q57, .int 0, .ref q66, .int 0, .ref q74, .int 0, .ref q82, .ref q90, .ref q98, .ref q106, .ref q115, .int 0, .int 0, .int 0, .int 0, .int 0, .int 0, .int 0, .int 0, .int 0, .int 0, .int 0, .int 0, .ref q123, .int 0, .int 0, .ref q131, .int 0, .ref q139, .int 0, .ref q146, .int 0, .int 0, .int 0, .int 0, .int 0, .int 0, .int 0, .int 0, .ref q154, .ref q162, .null])), (q8, .inl (cI, 512, .inl (fun _ => 0))), (q16, .inl (cI, 48, .inl (fun _ => 0))), (q24, .inl (cI, 11, .inl (fun _ => 0))), (q32, .inl (cI, 11, .inl (fun _ => 0))), (q40, .inl (cI, 11, .inl (fun _ => 0))), (q48, .inl (cI, 11, .inl (fun _ => 0))), (q57, .inl (cI, 165, .inl (fun _ => 0))), (q66, .inl (cI, 512, .inl (fun _ => 0))), (q74, .inl (cI, 48, .inl (fun _ => 0))), (q82, .inl (cI, 11, .inl (fun _ => 0))), (q90, .inl (cI, 11, .inl (fun _ => 0))), (q98, .inl (cI, 11, .inl (fun _ => 0))), (q106, .inl (cI, 11, .inl (fun _ => 0))), (q115, .inl (cI, 165, .inl (fun _ => 0))), (q123, .inl (cI, 64, .inl (fun _ => 0))), (q131, .inl (cI, 24, .inl (fun _ => 0))), (q139, .inl (cI, 24, .inl (fun _ => 0))), (q146, .inl (cI, 4, .inl (fun _ => 0))), (q154, .inl (cI, 6, .inl (fun _ => 0))), (q162, .inl (cI, 24, .inl (fun _ => 0)))] H := hP
  have hD : va_D A [(h0, .inr (11, [.int 0, .ref q8, .int 0, .ref q16, .int 0, .ref q24, .ref q32, .ref q40, .ref q48, .ref q57, .int 0, .ref q66, .int 0, .ref q74, .int 0, .ref q82, .ref q90, .ref q98, .ref q106, .ref q115, .int 0, .int 0, .int 0, .int 0, .int 0, .int 0, .int 0, .int 0, .int 0, .int 0, .int 0, .int 0, .ref q123, .int 0, .int 0, .ref q131, .int 0, .ref q139, .int 0, .ref q146, .int 0, .int 0, .int 0, .int 0, .int 0, .int 0, .int 0, .int 0, .ref q154, .ref q162, .null])), (q8, .inl (cI, 512, .inl (fun _ => 0))), (q16, .inl (cI, 48, .inl (fun _ => 0))), (q24, .inl (cI, 11, .inl (fun _ => 0))), (q32, .inl (cI, 11, .inl (fun _ => 0))), (q40, .inl (cI, 11, .inl (fun _ => 0))), (q48, .inl (cI, 11, .inl (fun _ => 0))), (q57, .inl (cI, 165, .inl (fun _ => 0))), (q66, .inl (cI, 512, .inl (fun _ => 0))), (q74, .inl (cI, 48, .inl (fun _ => 0))), (q82, .inl (cI, 11, .inl (fun _ => 0))), (q90, .inl (cI, 11, .inl (fun _ => 0))), (q98, .inl (cI, 11, .inl (fun _ => 0))), (q106, .inl (cI, 11, .inl (fun _ => 0))), (q115, .inl (cI, 165, .inl (fun _ => 0))), (q123, .inl (cI, 64, .inl (fun _ => 0))), (q131, .inl (cI, 24, .inl (fun _ => 0))), (q139, .inl (cI, 24, .inl (fun _ => 0))), (q146, .inl (cI, 4, .inl (fun _ => 0))), (q154, .inl (cI, 6, .inl (fun _ => 0))), (q162, .inl (cI, 24, .inl (fun _ => 0)))] := hD
  refine lv_aload_n hx hb d_Mo_init_167 rfl (lv_at hl 0 rfl) ?_
  refine lv_bipush (v := 24) hx hb d_Mo_init_168 (by decide) ?_
  refine ta_newI (N' := 24) hx hb (hts _ mw_47) hK 0 rfl hP hD hS hA (by decide) (by decide) (by decide) (Nat.le_of_ble_eq_true rfl) (Nat.le_of_ble_eq_true rfl) d_Mo_init_170 (fun q170 H hP hD hS => ?_)
  have hP : va_P (dC, dI) vcl [(h0, .inr (11, [.int 0, .ref q8, .int 0, .ref q16, .int 0, .ref q24, .ref q32, .ref q40, .ref q48, .ref q57, .int 0, .ref q66, .int 0, .ref q74, .int 0, .ref q82, .ref q90, .ref q98, .ref q106, .ref q115, .int 0, .int 0, .int 0, .int 0, .int 0, .int 0, .int 0, .int 0, .int 0, .int 0, .int 0, .int 0, .ref q123, .int 0, .int 0, .ref q131, .int 0, .ref q139, .int 0, .ref q146, .int 0, .int 0, .int 0, .int 0, .int 0, .int 0, .int 0, .int 0, .ref q154, .ref q162, .null])), (q8, .inl (cI, 512, .inl (fun _ => 0))), (q16, .inl (cI, 48, .inl (fun _ => 0))), (q24, .inl (cI, 11, .inl (fun _ => 0))), (q32, .inl (cI, 11, .inl (fun _ => 0))), (q40, .inl (cI, 11, .inl (fun _ => 0))), (q48, .inl (cI, 11, .inl (fun _ => 0))), (q57, .inl (cI, 165, .inl (fun _ => 0))), (q66, .inl (cI, 512, .inl (fun _ => 0))), (q74, .inl (cI, 48, .inl (fun _ => 0))), (q82, .inl (cI, 11, .inl (fun _ => 0))), (q90, .inl (cI, 11, .inl (fun _ => 0))), (q98, .inl (cI, 11, .inl (fun _ => 0))), (q106, .inl (cI, 11, .inl (fun _ => 0))), (q115, .inl (cI, 165, .inl (fun _ => 0))), (q123, .inl (cI, 64, .inl (fun _ => 0))), (q131, .inl (cI, 24, .inl (fun _ => 0))), (q139, .inl (cI, 24, .inl (fun _ => 0))), (q146, .inl (cI, 4, .inl (fun _ => 0))), (q154, .inl (cI, 6, .inl (fun _ => 0))), (q162, .inl (cI, 24, .inl (fun _ => 0))), (q170, .inl (cI, 24, .inl (fun _ => 0)))] H := hP
  have hD : va_D A [(h0, .inr (11, [.int 0, .ref q8, .int 0, .ref q16, .int 0, .ref q24, .ref q32, .ref q40, .ref q48, .ref q57, .int 0, .ref q66, .int 0, .ref q74, .int 0, .ref q82, .ref q90, .ref q98, .ref q106, .ref q115, .int 0, .int 0, .int 0, .int 0, .int 0, .int 0, .int 0, .int 0, .int 0, .int 0, .int 0, .int 0, .ref q123, .int 0, .int 0, .ref q131, .int 0, .ref q139, .int 0, .ref q146, .int 0, .int 0, .int 0, .int 0, .int 0, .int 0, .int 0, .int 0, .ref q154, .ref q162, .null])), (q8, .inl (cI, 512, .inl (fun _ => 0))), (q16, .inl (cI, 48, .inl (fun _ => 0))), (q24, .inl (cI, 11, .inl (fun _ => 0))), (q32, .inl (cI, 11, .inl (fun _ => 0))), (q40, .inl (cI, 11, .inl (fun _ => 0))), (q48, .inl (cI, 11, .inl (fun _ => 0))), (q57, .inl (cI, 165, .inl (fun _ => 0))), (q66, .inl (cI, 512, .inl (fun _ => 0))), (q74, .inl (cI, 48, .inl (fun _ => 0))), (q82, .inl (cI, 11, .inl (fun _ => 0))), (q90, .inl (cI, 11, .inl (fun _ => 0))), (q98, .inl (cI, 11, .inl (fun _ => 0))), (q106, .inl (cI, 11, .inl (fun _ => 0))), (q115, .inl (cI, 165, .inl (fun _ => 0))), (q123, .inl (cI, 64, .inl (fun _ => 0))), (q131, .inl (cI, 24, .inl (fun _ => 0))), (q139, .inl (cI, 24, .inl (fun _ => 0))), (q146, .inl (cI, 4, .inl (fun _ => 0))), (q154, .inl (cI, 6, .inl (fun _ => 0))), (q162, .inl (cI, 24, .inl (fun _ => 0))), (q170, .inl (cI, 24, .inl (fun _ => 0)))] := hD
  refine va_putF (D := (dC, dI)) (ci := 11) (v := .ref q170) (ty := .array .int) (C := "StoryMachineModel") (T := T_Mo) (N := 51) hx hb hts in_Mo t_Mo tk_Mo nm_Mo hown hK hP hD hS 0 rfl rfl 50 (by decide) (hts _ mw_1113) (fun _ h9 => h9) rfl hin rfl (by decide +kernel) rfl rfl (Nat.le_of_ble_eq_true rfl) d_Mo_init_172 (fun H locs hP hD hS => ?_)
  have hP : va_P (dC, dI) vcl [(h0, .inr (11, [.int 0, .ref q8, .int 0, .ref q16, .int 0, .ref q24, .ref q32, .ref q40, .ref q48, .ref q57, .int 0, .ref q66, .int 0, .ref q74, .int 0, .ref q82, .ref q90, .ref q98, .ref q106, .ref q115, .int 0, .int 0, .int 0, .int 0, .int 0, .int 0, .int 0, .int 0, .int 0, .int 0, .int 0, .int 0, .ref q123, .int 0, .int 0, .ref q131, .int 0, .ref q139, .int 0, .ref q146, .int 0, .int 0, .int 0, .int 0, .int 0, .int 0, .int 0, .int 0, .ref q154, .ref q162, .ref q170])), (q8, .inl (cI, 512, .inl (fun _ => 0))), (q16, .inl (cI, 48, .inl (fun _ => 0))), (q24, .inl (cI, 11, .inl (fun _ => 0))), (q32, .inl (cI, 11, .inl (fun _ => 0))), (q40, .inl (cI, 11, .inl (fun _ => 0))), (q48, .inl (cI, 11, .inl (fun _ => 0))), (q57, .inl (cI, 165, .inl (fun _ => 0))), (q66, .inl (cI, 512, .inl (fun _ => 0))), (q74, .inl (cI, 48, .inl (fun _ => 0))), (q82, .inl (cI, 11, .inl (fun _ => 0))), (q90, .inl (cI, 11, .inl (fun _ => 0))), (q98, .inl (cI, 11, .inl (fun _ => 0))), (q106, .inl (cI, 11, .inl (fun _ => 0))), (q115, .inl (cI, 165, .inl (fun _ => 0))), (q123, .inl (cI, 64, .inl (fun _ => 0))), (q131, .inl (cI, 24, .inl (fun _ => 0))), (q139, .inl (cI, 24, .inl (fun _ => 0))), (q146, .inl (cI, 4, .inl (fun _ => 0))), (q154, .inl (cI, 6, .inl (fun _ => 0))), (q162, .inl (cI, 24, .inl (fun _ => 0))), (q170, .inl (cI, 24, .inl (fun _ => 0)))] H := hP
  have hD : va_D A [(h0, .inr (11, [.int 0, .ref q8, .int 0, .ref q16, .int 0, .ref q24, .ref q32, .ref q40, .ref q48, .ref q57, .int 0, .ref q66, .int 0, .ref q74, .int 0, .ref q82, .ref q90, .ref q98, .ref q106, .ref q115, .int 0, .int 0, .int 0, .int 0, .int 0, .int 0, .int 0, .int 0, .int 0, .int 0, .int 0, .int 0, .ref q123, .int 0, .int 0, .ref q131, .int 0, .ref q139, .int 0, .ref q146, .int 0, .int 0, .int 0, .int 0, .int 0, .int 0, .int 0, .int 0, .ref q154, .ref q162, .ref q170])), (q8, .inl (cI, 512, .inl (fun _ => 0))), (q16, .inl (cI, 48, .inl (fun _ => 0))), (q24, .inl (cI, 11, .inl (fun _ => 0))), (q32, .inl (cI, 11, .inl (fun _ => 0))), (q40, .inl (cI, 11, .inl (fun _ => 0))), (q48, .inl (cI, 11, .inl (fun _ => 0))), (q57, .inl (cI, 165, .inl (fun _ => 0))), (q66, .inl (cI, 512, .inl (fun _ => 0))), (q74, .inl (cI, 48, .inl (fun _ => 0))), (q82, .inl (cI, 11, .inl (fun _ => 0))), (q90, .inl (cI, 11, .inl (fun _ => 0))), (q98, .inl (cI, 11, .inl (fun _ => 0))), (q106, .inl (cI, 11, .inl (fun _ => 0))), (q115, .inl (cI, 165, .inl (fun _ => 0))), (q123, .inl (cI, 64, .inl (fun _ => 0))), (q131, .inl (cI, 24, .inl (fun _ => 0))), (q139, .inl (cI, 24, .inl (fun _ => 0))), (q146, .inl (cI, 4, .inl (fun _ => 0))), (q154, .inl (cI, 6, .inl (fun _ => 0))), (q162, .inl (cI, 24, .inl (fun _ => 0))), (q170, .inl (cI, 24, .inl (fun _ => 0)))] := hD
  have hP9 := hP.sub (ws' := [(h0, .inr (11, [.int 0, .ref q8, .int 0, .ref q16, .int 0, .ref q24, .ref q32, .ref q40, .ref q48, .ref q57, .int 0, .ref q66, .int 0, .ref q74, .int 0, .ref q82, .ref q90, .ref q98, .ref q106, .ref q115, .int 0, .int 0, .int 0, .int 0, .int 0, .int 0, .int 0, .int 0, .int 0, .int 0, .int 0, .int 0, .ref q123, .int 0, .int 0, .ref q131, .int 0, .ref q139, .int 0, .ref q146, .int 0, .int 0, .int 0, .int 0, .int 0, .int 0, .int 0, .int 0, .ref q154, .ref q162, .ref q170])), (q8, .inl (cI, 512, .inl (fun _ => 0))), (q16, .inl (cI, 48, .inl (fun _ => 0))), (q24, .inl (cI, 11, .inl (fun _ => 0))), (q32, .inl (cI, 11, .inl (fun _ => 0))), (q40, .inl (cI, 11, .inl (fun _ => 0))), (q48, .inl (cI, 11, .inl (fun _ => 0))), (q57, .inl (cI, 165, .inl (fun _ => 0))), (q66, .inl (cI, 512, .inl (fun _ => 0))), (q74, .inl (cI, 48, .inl (fun _ => 0))), (q82, .inl (cI, 11, .inl (fun _ => 0))), (q90, .inl (cI, 11, .inl (fun _ => 0))), (q98, .inl (cI, 11, .inl (fun _ => 0))), (q106, .inl (cI, 11, .inl (fun _ => 0))), (q115, .inl (cI, 165, .inl (fun _ => 0))), (q123, .inl (cI, 64, .inl (fun _ => 0))), (q131, .inl (cI, 24, .inl (fun _ => 0))), (q139, .inl (cI, 24, .inl (fun _ => 0))), (q146, .inl (cI, 4, .inl (fun _ => 0))), (q154, .inl (cI, 6, .inl (fun _ => 0))), (q162, .inl (cI, 24, .inl (fun _ => 0))), (q170, .inl (cI, 24, .inl (fun _ => 0)))]) [0, 1, 2, 3, 4, 5, 6, 7, 8, 9, 10, 11, 12, 13, 14, 15, 16, 17, 18, 19, 20, 21] rfl
  have hD9 := hD.sub (ws' := [(h0, .inr (11, [.int 0, .ref q8, .int 0, .ref q16, .int 0, .ref q24, .ref q32, .ref q40, .ref q48, .ref q57, .int 0, .ref q66, .int 0, .ref q74, .int 0, .ref q82, .ref q90, .ref q98, .ref q106, .ref q115, .int 0, .int 0, .int 0, .int 0, .int 0, .int 0, .int 0, .int 0, .int 0, .int 0, .int 0, .int 0, .ref q123, .int 0, .int 0, .ref q131, .int 0, .ref q139, .int 0, .ref q146, .int 0, .int 0, .int 0, .int 0, .int 0, .int 0, .int 0, .int 0, .ref q154, .ref q162, .ref q170])), (q8, .inl (cI, 512, .inl (fun _ => 0))), (q16, .inl (cI, 48, .inl (fun _ => 0))), (q24, .inl (cI, 11, .inl (fun _ => 0))), (q32, .inl (cI, 11, .inl (fun _ => 0))), (q40, .inl (cI, 11, .inl (fun _ => 0))), (q48, .inl (cI, 11, .inl (fun _ => 0))), (q57, .inl (cI, 165, .inl (fun _ => 0))), (q66, .inl (cI, 512, .inl (fun _ => 0))), (q74, .inl (cI, 48, .inl (fun _ => 0))), (q82, .inl (cI, 11, .inl (fun _ => 0))), (q90, .inl (cI, 11, .inl (fun _ => 0))), (q98, .inl (cI, 11, .inl (fun _ => 0))), (q106, .inl (cI, 11, .inl (fun _ => 0))), (q115, .inl (cI, 165, .inl (fun _ => 0))), (q123, .inl (cI, 64, .inl (fun _ => 0))), (q131, .inl (cI, 24, .inl (fun _ => 0))), (q139, .inl (cI, 24, .inl (fun _ => 0))), (q146, .inl (cI, 4, .inl (fun _ => 0))), (q154, .inl (cI, 6, .inl (fun _ => 0))), (q162, .inl (cI, 24, .inl (fun _ => 0))), (q170, .inl (cI, 24, .inl (fun _ => 0)))]) [0, 1, 2, 3, 4, 5, 6, 7, 8, 9, 10, 11, 12, 13, 14, 15, 16, 17, 18, 19, 20, 21] (by decide) rfl
  refine W.widen (k := 21) (n := 1708) (Nat.le_of_ble_eq_true rfl) (Nat.le_of_ble_eq_true rfl) ?_
  exact tx_ret (W.vret hx hb hr (fun t ht hW => ⟨⟨rfl, q8, q16, q24, q32, q40, q48, q57, q66, q74, q82, q90, q98, q106, q115, q123, q131, q139, q146, q154, q162, q170, by rw [ht]; exact hP9, va_K.moved hW.alike hK, hAe ▸ hD9⟩, hS.F ht⟩) (hS.2.2) d_Mo_init_175)
end
section
/-! Contracts; written by wip/tools/p1.py. -/
set_option maxHeartbeats 4000000 in
set_option maxRecDepth 100000 in
theorem c_SM_packed (l : Launch) (hfl : l.flags = pinnedFlags ++ [noTraceFlag]) (dC : Nat → ClassId) (dI : Nat → Nat → Nat) (cI : ClassId) (b : Int64) (n i : Int32) (sz : Nat) : tx_Met l ⟨"StoryMachine", "packed", "(JII)I"⟩ tw_tbl ({ frames := 0, cells := 0, slots := 0, locals := 0 }) (tq_P (dC, dI) vcl [.long b, .int n, .int i] sz [] [(cI, .int)]) (tq_Q (fun o t => ∃ r : Int32, o = .returned (some (.int r))) (va_A [] sz)) 0 0 (va_A [] sz) := by
  refine tx_ofW (cc := prog_1_method_14_code) (maxL := 4) (ret := (some .int)) (by decide) (tx_isM mw_421) ?_
  intro p e s m args below meth c s₁ B hml hv
  obtain ⟨rfl, hsz, hP, hK, hD0, hst0⟩ := hv
  have hx := B.exec
  have hb := B.bytes
  have hr := B.returns
  have hts := atoms_spec (ws := tw_tbl) B.pre
  have hown : s.vm.findClass "StoryMachine" = some m.cls := findClass_of_methodNamed B.named
  have hlocks := B.notSynchronized
  subst hsz
  have hD := hD0.self (sz := s.heap.size)
  have hst := fun (H : Heap) (locs : List Loc) (hS : va_S (va_A [] s.heap.size) s.heap H locs) (U : State) (hU : U.heap = H) (hW : s.WarmedH U.vm) => ts_keep hW (fun q cell h1 h2 => by rw [hU]; exact ts_va hP hS q cell h1 h2) hst0
  generalize hAe : va_A [] s.heap.size = A at hD hst ⊢
  have hA : ∀ q : Nat, s.heap.size ≤ q → A q := fun q h => by rw [← hAe]; exact Or.inr h
  have hS : va_S A s.heap s.heap [] := va_S.rf
  have hP : va_P (dC, dI) vcl [] s.heap := hP
  have hl := lv_entry ([.long b, .int n, .int i]) (n := 4) (Nat.le_of_ble_eq_true rfl)
  rw [lg_entry_eq]
  generalize (lg_sl ([.long b, .int n, .int i]) ++ List.replicate (4 - (lg_sl ([.long b, .int n, .int i])).length) Slot.unset).toArray = ls at hl ⊢
  have hl : lv_has ls 4 [(0, .long b), (2, .int n), (3, .int i)] := hl
  refine lv_lload_n hx hb d_SM_packed_0 rfl (lv_at hl 0 rfl) ?_
  refine lv_bipush (v := 8) hx hb d_SM_packed_1 (by decide) ?_
  refine lv_iload_n hx hb d_SM_packed_3 rfl (lv_at hl 1 rfl) ?_
  refine lv_iconst (v := 1) hx hb d_SM_packed_4 (by decide) ?_
  refine lv_isub hx hb d_SM_packed_5 ?_
  refine lv_iload_n hx hb d_SM_packed_6 rfl (lv_at hl 2 rfl) ?_
  refine lv_isub hx hb d_SM_packed_7 ?_
  refine lv_imul hx hb d_SM_packed_8 ?_
  refine lv_lshr hx hb d_SM_packed_9 rfl ?_
  refine lv_topl (fun v9 hv9 => ?_)
  refine lv_l2i hx hb d_SM_packed_10 rfl ?_
  refine lv_topi (fun v10 hv10 => ?_)
  refine lv_sipush (v := 255) hx hb d_SM_packed_11 (by decide) ?_
  refine lv_iand hx hb d_SM_packed_14 ?_
  refine W.widen (k := 0) (n := 0) (Nat.le_of_ble_eq_true rfl) (Nat.le_of_ble_eq_true rfl) ?_
  exact tx_ret (W.iret (v := v10 &&& 255) hx hb hr (fun t ht hW => ⟨⟨_, rfl⟩, hS.F ht⟩) (hS.2.2) d_SM_packed_15)
end
section
/-! Contracts; written by wip/tools/p1.py. -/
set_option maxHeartbeats 4000000 in
set_option maxRecDepth 100000 in
theorem c_SM_poke (l : Launch) (hfl : l.flags = pinnedFlags ++ [noTraceFlag]) (dC : Nat → ClassId) (dI : Nat → Nat → Nat) (cI : ClassId) (h0 q1 q2 q3 q4 q5 q6 : Nat) (f : Nat → Int32) (p0 : Int32) (p1 : Int64) (p2 : Int32) (sz : Nat) : tx_Met l ⟨"StoryMachine", "poke", "(IJI)V"⟩ tw_tbl ({ frames := 7, cells := 1, slots := 6, locals := 130 }) (tq_P (dC, dI) vcl [.ref h0, .int p0, .long p1, .int p2] sz [(h0, .inr (0, [.ref q1, .ref q2, .ref q3, .ref q4, .ref q5])), (q1, .inr (1, [.ref q6])), (q6, .inl (cI, 512, .inl f))] [(cI, .int)]) (tq_Q (fun o t => ((p2 < 1 ∨ 8 < p2 ∨ p0 < 0 ∨ ¬ p0 ≤ 512 - p2) → ∃ x, o = .threw x ∧ ta_Ex "java/lang/IllegalArgumentException" x t) ∧ (¬ (p2 < 1 ∨ 8 < p2 ∨ p0 < 0 ∨ ¬ p0 ≤ 512 - p2) → o = .returned none)) (va_A [(h0, .inr (0, [.ref q1, .ref q2, .ref q3, .ref q4, .ref q5])), (q1, .inr (1, [.ref q6])), (q6, .inl (cI, 512, .inl f))] sz)) 1 6 (va_A [(h0, .inr (0, [.ref q1, .ref q2, .ref q3, .ref q4, .ref q5])), (q1, .inr (1, [.ref q6])), (q6, .inl (cI, 512, .inl f))] sz) := by
  refine tx_ofW (cc := prog_1_method_2_code) (maxL := 6) (ret := none) (by decide) (tx_isM mw_353) ?_
  intro p e s m args below meth c s₁ B hml hv
  obtain ⟨rfl, hsz, hP, hK, hD0, hst0⟩ := hv
  have hx := B.exec
  have hb := B.bytes
  have hr := B.returns
  have hts := atoms_spec (ws := tw_tbl) B.pre
  have hown : s.vm.findClass "StoryMachine" = some m.cls := findClass_of_methodNamed B.named
  have hlocks := B.notSynchronized
  subst hsz
  have hD := hD0.self (sz := s.heap.size)
  have hst := fun (H : Heap) (locs : List Loc) (hS : va_S (va_A [(h0, .inr (0, [.ref q1, .ref q2, .ref q3, .ref q4, .ref q5])), (q1, .inr (1, [.ref q6])), (q6, .inl (cI, 512, .inl f))] s.heap.size) s.heap H locs) (U : State) (hU : U.heap = H) (hW : s.WarmedH U.vm) => ts_keep hW (fun q cell h1 h2 => by rw [hU]; exact ts_va hP hS q cell h1 h2) hst0
  generalize hAe : va_A [(h0, .inr (0, [.ref q1, .ref q2, .ref q3, .ref q4, .ref q5])), (q1, .inr (1, [.ref q6])), (q6, .inl (cI, 512, .inl f))] s.heap.size = A at hD hst ⊢
  have hA : ∀ q : Nat, s.heap.size ≤ q → A q := fun q h => by rw [← hAe]; exact Or.inr h
  have hS : va_S A s.heap s.heap [] := va_S.rf
  have hP : va_P (dC, dI) vcl [(h0, .inr (0, [.ref q1, .ref q2, .ref q3, .ref q4, .ref q5])), (q1, .inr (1, [.ref q6])), (q6, .inl (cI, 512, .inl f))] s.heap := hP
  have hl := lv_entry ([.ref h0, .int p0, .long p1, .int p2]) (n := 6) (Nat.le_of_ble_eq_true rfl)
  rw [lg_entry_eq]
  generalize (lg_sl ([.ref h0, .int p0, .long p1, .int p2]) ++ List.replicate (6 - (lg_sl ([.ref h0, .int p0, .long p1, .int p2])).length) Slot.unset).toArray = ls at hl ⊢
  have hl : lv_has ls 6 [(0, .ref h0), (1, .int p0), (2, .long p1), (4, .int p2)] := hl
  refine lv_iload hx hb d_SM_poke_0 (lv_at hl 3 rfl) ?_
  refine lv_iconst (v := 1) hx hb d_SM_poke_2 (by decide) ?_
  refine lv_icmp_lt (tgt := 27) hx hb d_SM_poke_3 (by decide) (fun hc3 => ?_) (fun hc3 => ?_)
  · refine W.widen (k := 0) (n := 0) (Nat.le_of_ble_eq_true rfl) (Nat.le_of_ble_eq_true rfl) ?_
    exact tth_SM_IllegalArgumentException hx hb hfl hown hts (hst _ _ hS) (by rw [hml]; exact hl.1) d_SM_poke_27 d_SM_poke_30 d_SM_poke_31 d_SM_poke_34 (tx_noH B (hts _ mw_353) _) (Nat.le_of_ble_eq_true rfl) (Nat.le_of_ble_eq_true rfl) (Nat.le_of_ble_eq_true rfl) (Nat.le_of_ble_eq_true rfl) (fun t ce hW hz hk hce hcl hvm => ⟨⟨fun _ => ⟨_, rfl, ce, hce, hcl, hvm⟩, fun h => absurd (Or.inl hc3) h⟩, ta_thrown hS hz hk⟩) hS.2.2 hlocks
  · refine lv_iload hx hb d_SM_poke_6 (lv_at hl 3 rfl) ?_
    refine lv_bipush (v := 8) hx hb d_SM_poke_8 (by decide) ?_
    refine lv_icmp_gt (tgt := 27) hx hb d_SM_poke_10 (by decide) (fun hc10 => ?_) (fun hc10 => ?_)
    · refine W.widen (k := 0) (n := 0) (Nat.le_of_ble_eq_true rfl) (Nat.le_of_ble_eq_true rfl) ?_
      exact tth_SM_IllegalArgumentException hx hb hfl hown hts (hst _ _ hS) (by rw [hml]; exact hl.1) d_SM_poke_27 d_SM_poke_30 d_SM_poke_31 d_SM_poke_34 (tx_noH B (hts _ mw_353) _) (Nat.le_of_ble_eq_true rfl) (Nat.le_of_ble_eq_true rfl) (Nat.le_of_ble_eq_true rfl) (Nat.le_of_ble_eq_true rfl) (fun t ce hW hz hk hce hcl hvm => ⟨⟨fun _ => ⟨_, rfl, ce, hce, hcl, hvm⟩, fun h => absurd (Or.inr (Or.inl hc10)) h⟩, ta_thrown hS hz hk⟩) hS.2.2 hlocks
    · refine lv_iload_n hx hb d_SM_poke_13 rfl (lv_at hl 1 rfl) ?_
      refine lv_if_lt (tgt := 27) hx hb d_SM_poke_14 (by decide) (fun hc14 => ?_) (fun hc14 => ?_)
      · refine W.widen (k := 0) (n := 0) (Nat.le_of_ble_eq_true rfl) (Nat.le_of_ble_eq_true rfl) ?_
        exact tth_SM_IllegalArgumentException hx hb hfl hown hts (hst _ _ hS) (by rw [hml]; exact hl.1) d_SM_poke_27 d_SM_poke_30 d_SM_poke_31 d_SM_poke_34 (tx_noH B (hts _ mw_353) _) (Nat.le_of_ble_eq_true rfl) (Nat.le_of_ble_eq_true rfl) (Nat.le_of_ble_eq_true rfl) (Nat.le_of_ble_eq_true rfl) (fun t ce hW hz hk hce hcl hvm => ⟨⟨fun _ => ⟨_, rfl, ce, hce, hcl, hvm⟩, fun h => absurd (Or.inr (Or.inr (Or.inl hc14))) h⟩, ta_thrown hS hz hk⟩) hS.2.2 hlocks
      · refine lv_iload_n hx hb d_SM_poke_17 rfl (lv_at hl 1 rfl) ?_
        refine lv_sipush (v := 512) hx hb d_SM_poke_18 (by decide) ?_
        refine lv_iload hx hb d_SM_poke_21 (lv_at hl 3 rfl) ?_
        refine lv_isub hx hb d_SM_poke_23 ?_
        refine lv_icmp_le (tgt := 35) hx hb d_SM_poke_24 (by decide) (fun hc24 => ?_) (fun hc24 => ?_)
        · refine lv_iconst (v := 0) hx hb d_SM_poke_35 (by decide) ?_
          refine lv_istore (lv' := [(5, .int 0), (0, .ref h0), (1, .int p0), (2, .long p1), (4, .int p2)]) hx hb d_SM_poke_36 hl (by decide) rfl (fun ls hl => ?_)
          have hgood : ¬ (p2 < 1 ∨ 8 < p2 ∨ p0 < 0 ∨ ¬ p0 ≤ 512 - p2) := fun h => h.elim hc3 (fun h => h.elim hc10 (fun h => h.elim hc14 (fun h => h hc24)))
          obtain ⟨N, hN, hN1, hNe⟩ : ∃ N : Nat, N ≤ 8 ∧ 1 ≤ N ∧ p2 = nI N := ti_few hc3 hc10
          obtain ⟨P, hPp, hPe⟩ : ∃ P : Nat, P + N ≤ 512 ∧ p0 = nI P := ti_place hN hN1 hNe hc14 hc24
          have loop : ∀ (k : Nat) (H : Heap) (locs : List Loc) (ls : Array Slot) (f : Nat → Int32), k ≤ N → va_P (dC, dI) vcl [(h0, .inr (0, [.ref q1, .ref q2, .ref q3, .ref q4, .ref q5])), (q1, .inr (1, [.ref q6])), (q6, .inl (cI, 512, .inl f))] H → va_D A [(h0, .inr (0, [.ref q1, .ref q2, .ref q3, .ref q4, .ref q5])), (q1, .inr (1, [.ref q6])), (q6, .inl (cI, 512, .inl f))] → va_S A s.heap H locs → lv_has ls 6 [(5, .int (nI (N - k))), (0, .ref h0), (1, .int p0), (2, .long p1), (4, .int p2)] → W p l e (headSpec tw_tbl ({ frames := 7, cells := 1, slots := 6, locals := 130 })).room s m ([.ref h0, .int p0, .long p1, .int p2] : List Value).toArray below meth c H locs 0 0 (tx_MQ below (tq_Q (fun o t => ((p2 < 1 ∨ 8 < p2 ∨ p0 < 0 ∨ ¬ p0 ≤ 512 - p2) → ∃ x, o = .threw x ∧ ta_Ex "java/lang/IllegalArgumentException" x t) ∧ (¬ (p2 < 1 ∨ 8 < p2 ∨ p0 < 0 ∨ ¬ p0 ≤ 512 - p2) → o = .returned none)) A) ([.ref h0, .int p0, .long p1, .int p2] : List Value).toArray s 1 6 A) (F0 m 38 ls []) := by
            intro k
            induction k with
            | zero =>
              intro H locs ls f hk hP hD hS hl
              refine lv_iload hx hb d_SM_poke_38 (lv_at hl 0 rfl) ?_
              refine lv_iload hx hb d_SM_poke_40 (lv_at hl 4 rfl) ?_
              refine lv_icmp_ge (tgt := 71) hx hb d_SM_poke_42 (by decide) (fun _ => ?_) (fun h => absurd (by rw [hNe]; exact nI_le (Nat.le_refl N) (by omega)) h)
              refine W.widen (k := 1) (n := 6) (Nat.le_of_ble_eq_true rfl) (Nat.le_of_ble_eq_true rfl) ?_
              exact tx_ret (W.vret hx hb hr (fun t ht hW => ⟨⟨fun h => absurd h hgood, fun _ => rfl⟩, hS.F ht⟩) (hS.2.2) d_SM_poke_71)
            | succ k ih =>
              intro H locs ls f hk hP hD hS hl
              refine lv_iload hx hb d_SM_poke_38 (lv_at hl 0 rfl) ?_
              refine lv_iload hx hb d_SM_poke_40 (lv_at hl 4 rfl) ?_
              refine lv_icmp_ge (tgt := 71) hx hb d_SM_poke_42 (by decide) (fun h => absurd h (by rw [hNe]; exact nI_ge (by omega) (by omega))) (fun _ => ?_)
              refine lv_aload_n hx hb d_SM_poke_45 rfl (lv_at hl 1 rfl) ?_
              refine va_get (D := (dC, dI)) (ci := 0) (v := .ref q1) (C := "StoryMachine") (T := T_SM) (N := 5) hx hb hts in_SM hown hK hP 0 rfl rfl 0 (by decide) (hts _ mw_310) (fun _ h9 => h9) rfl d_SM_poke_46 ?_
              refine va_get (D := (dC, dI)) (ci := 1) (v := .ref q6) (C := "StoryMachine$Memory") (T := T_Me) (N := 1) hx hb hts in_Me hown hK hP 1 rfl rfl 0 (by decide) (hts _ mw_43) (fun _ h9 => h9) rfl d_SM_poke_49 ?_
              refine lv_iload_n hx hb d_SM_poke_52 rfl (lv_at hl 2 rfl) ?_
              refine lv_iload hx hb d_SM_poke_53 (lv_at hl 0 rfl) ?_
              refine lv_iadd hx hb d_SM_poke_55 ?_
              refine lv_lload_n hx hb d_SM_poke_56 rfl (lv_at hl 3 rfl) ?_
              refine lv_iload hx hb d_SM_poke_57 (lv_at hl 4 rfl) ?_
              refine lv_iload hx hb d_SM_poke_59 (lv_at hl 0 rfl) ?_
              have hPc := hP.sub (ws' := []) [] rfl
              have hDc := hD.sub (ws' := []) [] (by decide) rfl
              have hFc := va_free (wc := []) hD hS hA [] rfl
              refine tx_callK (A1 := va_A [] H.size) (tx_runS (As := [.long p1, .int p2, .int (nI (N - (k + 1)))]) (rest := [.int (p0 + (nI (N - (k + 1)))), .ref q6]) ⟨hx, hb, hml, hown, hts⟩ (c_SM_packed l hfl dC dI cI p1 p2 (nI (N - (k + 1))) H.size) (tx_cb (n := 3) hts rfl rfl ⟨Nat.le_of_ble_eq_true rfl, Nat.le_of_ble_eq_true rfl⟩ (tx_code.of (hts _ mw_421)) (hts _ mw_1) (by decide +kernel) (hts _ mw_419)) (hts _ mw_420) ⟨tq_blind, fun U hU hW => ⟨rfl, by rw [hU], by rw [hU]; exact hPc, va_K.moved hW.alike hK, hDc.weaken (fun _ _ _ _ => trivial), hst _ _ hS U hU hW⟩⟩ rfl rfl hl.1 rfl (lv_room (Nat.le_of_ble_eq_true rfl)) d_SM_poke_61 ⟨Nat.le_of_ble_eq_true rfl, Nat.le_of_ble_eq_true rfl⟩) hS (fun q _ h => hFc q h) hFc (fun v t H61 locs ht hWt hpost hz1 hk1 hS => ?_) (fun x t H1 locs ht hWt hpost hz1 hk1 hS => by obtain ⟨r, h⟩ := hpost; cases h)
              obtain ⟨r61, ho⟩ := hpost
              cases ho
              have hP1 := ta_nilP (D := (dC, dI)) (cl := vcl) (H := t.heap)
              have hD1 := ta_nilD (A := va_A [] H.size)
              rw [ht] at hP1
              obtain ⟨hP, hD⟩ := va_join (wr := [(h0, .inr (0, [.ref q1, .ref q2, .ref q3, .ref q4, .ref q5])), (q1, .inr (1, [.ref q6])), (q6, .inl (cI, 512, .inl f))]) (w1 := []) hP hD [] [0, 1, 2] rfl rfl (by decide) (by decide) hk1 hFc hP1 hD1
              have hP : va_P (dC, dI) vcl [(h0, .inr (0, [.ref q1, .ref q2, .ref q3, .ref q4, .ref q5])), (q1, .inr (1, [.ref q6])), (q6, .inl (cI, 512, .inl f))] H61 := hP
              have hD : va_D A [(h0, .inr (0, [.ref q1, .ref q2, .ref q3, .ref q4, .ref q5])), (q1, .inr (1, [.ref q6])), (q6, .inl (cI, 512, .inl f))] := hD
              refine va_iast hx hb hK hP hD hS 2 0 rfl rfl (by rw [hPe]; exact ti_in (by omega) (by decide)) d_SM_poke_64 (fun H locs hP hD hS => ?_)
              obtain ⟨f1, hf1⟩ : ∃ z : Nat → Int32, z = upd (f) (Int32.toNatClampNeg (p0 + (nI (N - (k + 1))))) (r61) := ⟨_, rfl⟩
              rw [← hf1] at hP hD
              have hP : va_P (dC, dI) vcl [(h0, .inr (0, [.ref q1, .ref q2, .ref q3, .ref q4, .ref q5])), (q1, .inr (1, [.ref q6])), (q6, .inl (cI, 512, .inl f1))] H := hP
              have hD : va_D A [(h0, .inr (0, [.ref q1, .ref q2, .ref q3, .ref q4, .ref q5])), (q1, .inr (1, [.ref q6])), (q6, .inl (cI, 512, .inl f1))] := hD
              refine lv_iinc (k := 0) (v := nI (N - k)) (lv' := [(5, .int (nI (N - k))), (0, .ref h0), (1, .int p0), (2, .long p1), (4, .int p2)]) hx hb d_SM_poke_65 hl rfl (ti_inc (by omega)) (by decide) rfl (fun ls hl => ?_)
              refine lv_goto (tgt := 38) hx hb d_SM_poke_68 (by decide) ?_
              exact ih _ _ _ _ (by omega) hP hD hS (lv_sub hl [0, 1, 2, 3, 4] rfl)
          exact loop N s.heap _ _ _ (Nat.le_refl N) hP hD hS (lv_sub (l' := [(5, .int (nI (N - N))), (0, .ref h0), (1, .int p0), (2, .long p1), (4, .int p2)]) hl [0, 1, 2, 3, 4] (by rw [Nat.sub_self]; rfl))
        · refine W.widen (k := 0) (n := 0) (Nat.le_of_ble_eq_true rfl) (Nat.le_of_ble_eq_true rfl) ?_
          exact tth_SM_IllegalArgumentException hx hb hfl hown hts (hst _ _ hS) (by rw [hml]; exact hl.1) d_SM_poke_27 d_SM_poke_30 d_SM_poke_31 d_SM_poke_34 (tx_noH B (hts _ mw_353) _) (Nat.le_of_ble_eq_true rfl) (Nat.le_of_ble_eq_true rfl) (Nat.le_of_ble_eq_true rfl) (Nat.le_of_ble_eq_true rfl) (fun t ce hW hz hk hce hcl hvm => ⟨⟨fun _ => ⟨_, rfl, ce, hce, hcl, hvm⟩, fun h => absurd (Or.inr (Or.inr (Or.inr (hc24)))) h⟩, ta_thrown hS hz hk⟩) hS.2.2 hlocks
end
section
/-! Contracts; written by wip/tools/p1.py. -/
set_option maxHeartbeats 4000000 in
set_option maxRecDepth 100000 in
theorem c_SM_peek (l : Launch) (hfl : l.flags = pinnedFlags ++ [noTraceFlag]) (dC : Nat → ClassId) (dI : Nat → Nat → Nat) (cI : ClassId) (h0 q1 q2 q3 q4 q5 q6 : Nat) (p0 : Int32) (sz : Nat) : tx_Met l ⟨"StoryMachine", "peek", "(I)I"⟩ tw_tbl ({ frames := 7, cells := 1, slots := 6, locals := 130 }) (tq_P (dC, dI) vcl [.ref h0, .int p0] sz [(h0, .inr (0, [.ref q1, .ref q2, .ref q3, .ref q4, .ref q5])), (q1, .inr (1, [.ref q6])), (q6, .inl (cI, 512, .inl (fun _ => 0)))] [(cI, .int)]) (tq_Q (fun o t => ((p0 < 0 ∨ ¬ p0 < 512) → ∃ x, o = .threw x ∧ ta_Ex "java/lang/IllegalArgumentException" x t) ∧ (¬ (p0 < 0 ∨ ¬ p0 < 512) → o = .returned (some (.int 0)))) (va_A [(h0, .inr (0, [.ref q1, .ref q2, .ref q3, .ref q4, .ref q5])), (q1, .inr (1, [.ref q6])), (q6, .inl (cI, 512, .inl (fun _ => 0)))] sz)) 1 6 (va_A [(h0, .inr (0, [.ref q1, .ref q2, .ref q3, .ref q4, .ref q5])), (q1, .inr (1, [.ref q6])), (q6, .inl (cI, 512, .inl (fun _ => 0)))] sz) := by
  refine tx_ofW (cc := prog_1_method_3_code) (maxL := 2) (ret := (some .int)) (by decide) (tx_isM mw_428) ?_
  intro p e s m args below meth c s₁ B hml hv
  obtain ⟨rfl, hsz, hP, hK, hD0, hst0⟩ := hv
  have hx := B.exec
  have hb := B.bytes
  have hr := B.returns
  have hts := atoms_spec (ws := tw_tbl) B.pre
  have hown : s.vm.findClass "StoryMachine" = some m.cls := findClass_of_methodNamed B.named
  have hlocks := B.notSynchronized
  subst hsz
  have hD := hD0.self (sz := s.heap.size)
  have hst := fun (H : Heap) (locs : List Loc) (hS : va_S (va_A [(h0, .inr (0, [.ref q1, .ref q2, .ref q3, .ref q4, .ref q5])), (q1, .inr (1, [.ref q6])), (q6, .inl (cI, 512, .inl (fun _ => 0)))] s.heap.size) s.heap H locs) (U : State) (hU : U.heap = H) (hW : s.WarmedH U.vm) => ts_keep hW (fun q cell h1 h2 => by rw [hU]; exact ts_va hP hS q cell h1 h2) hst0
  generalize hAe : va_A [(h0, .inr (0, [.ref q1, .ref q2, .ref q3, .ref q4, .ref q5])), (q1, .inr (1, [.ref q6])), (q6, .inl (cI, 512, .inl (fun _ => 0)))] s.heap.size = A at hD hst ⊢
  have hA : ∀ q : Nat, s.heap.size ≤ q → A q := fun q h => by rw [← hAe]; exact Or.inr h
  have hS : va_S A s.heap s.heap [] := va_S.rf
  have hP : va_P (dC, dI) vcl [(h0, .inr (0, [.ref q1, .ref q2, .ref q3, .ref q4, .ref q5])), (q1, .inr (1, [.ref q6])), (q6, .inl (cI, 512, .inl (fun _ => 0)))] s.heap := hP
  have hl := lv_entry ([.ref h0, .int p0]) (n := 2) (Nat.le_of_ble_eq_true rfl)
  rw [lg_entry_eq]
  generalize (lg_sl ([.ref h0, .int p0]) ++ List.replicate (2 - (lg_sl ([.ref h0, .int p0])).length) Slot.unset).toArray = ls at hl ⊢
  have hl : lv_has ls 2 [(0, .ref h0), (1, .int p0)] := hl
  refine lv_iload_n hx hb d_SM_peek_0 rfl (lv_at hl 1 rfl) ?_
  refine lv_if_lt (tgt := 11) hx hb d_SM_peek_1 (by decide) (fun hc1 => ?_) (fun hc1 => ?_)
  · refine W.widen (k := 0) (n := 0) (Nat.le_of_ble_eq_true rfl) (Nat.le_of_ble_eq_true rfl) ?_
    exact tth_SM_IllegalArgumentException hx hb hfl hown hts (hst _ _ hS) (by rw [hml]; exact hl.1) d_SM_peek_11 d_SM_peek_14 d_SM_peek_15 d_SM_peek_18 (tx_noH B (hts _ mw_428) _) (Nat.le_of_ble_eq_true rfl) (Nat.le_of_ble_eq_true rfl) (Nat.le_of_ble_eq_true rfl) (Nat.le_of_ble_eq_true rfl) (fun t ce hW hz hk hce hcl hvm => ⟨⟨fun _ => ⟨_, rfl, ce, hce, hcl, hvm⟩, fun h => absurd (Or.inl hc1) h⟩, ta_thrown hS hz hk⟩) hS.2.2 hlocks
  · refine lv_iload_n hx hb d_SM_peek_4 rfl (lv_at hl 1 rfl) ?_
    refine lv_sipush (v := 512) hx hb d_SM_peek_5 (by decide) ?_
    refine lv_icmp_lt (tgt := 19) hx hb d_SM_peek_8 (by decide) (fun hc8 => ?_) (fun hc8 => ?_)
    · refine lv_aload_n hx hb d_SM_peek_19 rfl (lv_at hl 0 rfl) ?_
      refine va_get (D := (dC, dI)) (ci := 0) (v := .ref q1) (C := "StoryMachine") (T := T_SM) (N := 5) hx hb hts in_SM hown hK hP 0 rfl rfl 0 (by decide) (hts _ mw_310) (fun _ h9 => h9) rfl d_SM_peek_20 ?_
      refine va_get (D := (dC, dI)) (ci := 1) (v := .ref q6) (C := "StoryMachine$Memory") (T := T_Me) (N := 1) hx hb hts in_Me hown hK hP 1 rfl rfl 0 (by decide) (hts _ mw_43) (fun _ h9 => h9) rfl d_SM_peek_23 ?_
      refine lv_iload_n hx hb d_SM_peek_26 rfl (lv_at hl 1 rfl) ?_
      refine va_iald hx hb hK hP 2 0 rfl rfl (ti_rng hc1 hc8 (by decide)) d_SM_peek_27 ?_
      refine W.eq (g2 := F0 m 28 ls [.int 0]) rfl ?_
      refine W.widen (k := 1) (n := 6) (Nat.le_of_ble_eq_true rfl) (Nat.le_of_ble_eq_true rfl) ?_
      exact tx_ret (W.iret (v := 0) hx hb hr (fun t ht hW => ⟨⟨fun h => absurd h (fun h => h.elim hc1 (fun h => (fun z => z hc8) h)), fun _ => rfl⟩, hS.F ht⟩) (hS.2.2) d_SM_peek_28)
    · refine W.widen (k := 0) (n := 0) (Nat.le_of_ble_eq_true rfl) (Nat.le_of_ble_eq_true rfl) ?_
      exact tth_SM_IllegalArgumentException hx hb hfl hown hts (hst _ _ hS) (by rw [hml]; exact hl.1) d_SM_peek_11 d_SM_peek_14 d_SM_peek_15 d_SM_peek_18 (tx_noH B (hts _ mw_428) _) (Nat.le_of_ble_eq_true rfl) (Nat.le_of_ble_eq_true rfl) (Nat.le_of_ble_eq_true rfl) (Nat.le_of_ble_eq_true rfl) (fun t ce hW hz hk hce hcl hvm => ⟨⟨fun _ => ⟨_, rfl, ce, hce, hcl, hvm⟩, fun h => absurd (Or.inr (hc8)) h⟩, ta_thrown hS hz hk⟩) hS.2.2 hlocks
set_option maxHeartbeats 4000000 in
set_option maxRecDepth 100000 in
theorem c_Me_wordAt (l : Launch) (hfl : l.flags = pinnedFlags ++ [noTraceFlag]) (dC : Nat → ClassId) (dI : Nat → Nat → Nat) (cI : ClassId) (h0 q6 : Nat) (sz : Nat) : tx_Met l ⟨"StoryMachine$Memory", "wordAt", "(I)I"⟩ tw_tbl ({ frames := 7, cells := 0, slots := 0, locals := 130 }) (tq_P (dC, dI) vcl [.ref h0, .int 4] sz [(h0, .inr (1, [.ref q6])), (q6, .inl (cI, 512, .inl (fun _ => 0)))] [(cI, .int)]) (tq_Q (fun o t => o = .returned (some (.int 0))) (va_A [(h0, .inr (1, [.ref q6])), (q6, .inl (cI, 512, .inl (fun _ => 0)))] sz)) 0 0 (va_A [(h0, .inr (1, [.ref q6])), (q6, .inl (cI, 512, .inl (fun _ => 0)))] sz) := by
  refine tx_ofW (cc := prog_7_method_3_code) (maxL := 2) (ret := (some .int)) (by decide) (tx_isM mw_440) ?_
  intro p e s m args below meth c s₁ B hml hv
  obtain ⟨rfl, hsz, hP, hK, hD0, hst0⟩ := hv
  have hx := B.exec
  have hb := B.bytes
  have hr := B.returns
  have hts := atoms_spec (ws := tw_tbl) B.pre
  have hown : s.vm.findClass "StoryMachine$Memory" = some m.cls := findClass_of_methodNamed B.named
  have hlocks := B.notSynchronized
  subst hsz
  have hD := hD0.self (sz := s.heap.size)
  have hst := fun (H : Heap) (locs : List Loc) (hS : va_S (va_A [(h0, .inr (1, [.ref q6])), (q6, .inl (cI, 512, .inl (fun _ => 0)))] s.heap.size) s.heap H locs) (U : State) (hU : U.heap = H) (hW : s.WarmedH U.vm) => ts_keep hW (fun q cell h1 h2 => by rw [hU]; exact ts_va hP hS q cell h1 h2) hst0
  generalize hAe : va_A [(h0, .inr (1, [.ref q6])), (q6, .inl (cI, 512, .inl (fun _ => 0)))] s.heap.size = A at hD hst ⊢
  have hA : ∀ q : Nat, s.heap.size ≤ q → A q := fun q h => by rw [← hAe]; exact Or.inr h
  have hS : va_S A s.heap s.heap [] := va_S.rf
  have hP : va_P (dC, dI) vcl [(h0, .inr (1, [.ref q6])), (q6, .inl (cI, 512, .inl (fun _ => 0)))] s.heap := hP
  have hl := lv_entry ([.ref h0, .int 4]) (n := 2) (Nat.le_of_ble_eq_true rfl)
  rw [lg_entry_eq]
  generalize (lg_sl ([.ref h0, .int 4]) ++ List.replicate (2 - (lg_sl ([.ref h0, .int 4])).length) Slot.unset).toArray = ls at hl ⊢
  have hl : lv_has ls 2 [(0, .ref h0), (1, .int 4)] := hl
  refine lv_iload_n hx hb d_Me_wordAt_0 rfl (lv_at hl 1 rfl) ?_
  refine lv_if_lt (tgt := 11) hx hb d_Me_wordAt_1 (by decide) (fun h => absurd h (by decide)) (fun _ => ?_)
  refine lv_iload_n hx hb d_Me_wordAt_4 rfl (lv_at hl 1 rfl) ?_
  refine lv_sipush (v := 511) hx hb d_Me_wordAt_5 (by decide) ?_
  refine lv_icmp_lt (tgt := 19) hx hb d_Me_wordAt_8 (by decide) (fun _ => ?_) (fun h => absurd h (by decide))
  refine lv_sipush (v := 256) hx hb d_Me_wordAt_19 (by decide) ?_
  refine lv_aload_n hx hb d_Me_wordAt_22 rfl (lv_at hl 0 rfl) ?_
  refine va_get (D := (dC, dI)) (ci := 1) (v := .ref q6) (C := "StoryMachine$Memory") (T := T_Me) (N := 1) hx hb hts in_Me hown hK hP 0 rfl rfl 0 (by decide) (hts _ mw_42) (fun _ h9 => h9) rfl d_Me_wordAt_23 ?_
  refine lv_iload_n hx hb d_Me_wordAt_26 rfl (lv_at hl 1 rfl) ?_
  refine va_iald hx hb hK hP 1 0 rfl rfl (show ¬ ((4 : Int32) < 0 ∨ 512 ≤ (4 : Int32).toNatClampNeg) by decide) d_Me_wordAt_27 ?_
  refine W.eq (g2 := F0 m 28 ls [.int 0, .int 256]) rfl ?_
  refine lv_imul hx hb d_Me_wordAt_28 ?_
  refine W.eq (g2 := F0 m 29 ls [.int 0]) rfl ?_
  refine lv_aload_n hx hb d_Me_wordAt_29 rfl (lv_at hl 0 rfl) ?_
  refine va_get (D := (dC, dI)) (ci := 1) (v := .ref q6) (C := "StoryMachine$Memory") (T := T_Me) (N := 1) hx hb hts in_Me hown hK hP 0 rfl rfl 0 (by decide) (hts _ mw_42) (fun _ h9 => h9) rfl d_Me_wordAt_30 ?_
  refine lv_iload_n hx hb d_Me_wordAt_33 rfl (lv_at hl 1 rfl) ?_
  refine lv_iconst (v := 1) hx hb d_Me_wordAt_34 (by decide) ?_
  refine lv_iadd hx hb d_Me_wordAt_35 ?_
  refine W.eq (g2 := F0 m 36 ls [.int 5, .ref q6, .int 0]) rfl ?_
  refine va_iald hx hb hK hP 1 0 rfl rfl (show ¬ ((5 : Int32) < 0 ∨ 512 ≤ (5 : Int32).toNatClampNeg) by decide) d_Me_wordAt_36 ?_
  refine W.eq (g2 := F0 m 37 ls [.int 0, .int 0]) rfl ?_
  refine lv_iadd hx hb d_Me_wordAt_37 ?_
  refine W.eq (g2 := F0 m 38 ls [.int 0]) rfl ?_
  refine W.widen (k := 0) (n := 0) (Nat.le_of_ble_eq_true rfl) (Nat.le_of_ble_eq_true rfl) ?_
  exact tx_ret (W.iret (v := 0) hx hb hr (fun t ht hW => ⟨rfl, hS.F ht⟩) (hS.2.2) d_Me_wordAt_38)
set_option maxHeartbeats 4000000 in
set_option maxRecDepth 100000 in
theorem c_Ro_clear (l : Launch) (hfl : l.flags = pinnedFlags ++ [noTraceFlag]) (dC : Nat → ClassId) (dI : Nat → Nat → Nat) (cI : ClassId) (h0 r_words r_floors r_behinds r_results r_localCounts r_locals : Nat) (f g : Nat → Int32) (sz : Nat) : tx_Met l ⟨"StoryMachine$Routines", "clear", "()V"⟩ tw_tbl ({ frames := 1, cells := 0, slots := 0, locals := 40 }) (tq_P (dC, dI) vcl [.ref h0] sz [(h0, .inr (3, [.ref r_words, .int 0, .int 0, .ref r_floors, .ref r_behinds, .ref r_results, .ref r_localCounts, .ref r_locals])), (r_floors, .inl (cI, 11, .inl f)), (r_localCounts, .inl (cI, 11, .inl g))] [(cI, .int)]) (tq_Q (fun o t => o = .returned none) (va_A [(h0, .inr (3, [.ref r_words, .int 0, .int 0, .ref r_floors, .ref r_behinds, .ref r_results, .ref r_localCounts, .ref r_locals])), (r_floors, .inl (cI, 11, .inl f)), (r_localCounts, .inl (cI, 11, .inl g))] sz)) 0 0 (va_A [(h0, .inr (3, [.ref r_words, .int 0, .int 0, .ref r_floors, .ref r_behinds, .ref r_results, .ref r_localCounts, .ref r_locals])), (r_floors, .inl (cI, 11, .inl f)), (r_localCounts, .inl (cI, 11, .inl g))] sz) := by
  refine tx_ofW (cc := prog_9_method_2_code) (maxL := 1) (ret := none) (by decide) (tx_isM mw_465) ?_
  intro p e s m args below meth c s₁ B hml hv
  obtain ⟨rfl, hsz, hP, hK, hD0, hst0⟩ := hv
  have hx := B.exec
  have hb := B.bytes
  have hr := B.returns
  have hts := atoms_spec (ws := tw_tbl) B.pre
  have hown : s.vm.findClass "StoryMachine$Routines" = some m.cls := findClass_of_methodNamed B.named
  have hlocks := B.notSynchronized
  subst hsz
  have hD := hD0.self (sz := s.heap.size)
  have hst := fun (H : Heap) (locs : List Loc) (hS : va_S (va_A [(h0, .inr (3, [.ref r_words, .int 0, .int 0, .ref r_floors, .ref r_behinds, .ref r_results, .ref r_localCounts, .ref r_locals])), (r_floors, .inl (cI, 11, .inl f)), (r_localCounts, .inl (cI, 11, .inl g))] s.heap.size) s.heap H locs) (U : State) (hU : U.heap = H) (hW : s.WarmedH U.vm) => ts_keep hW (fun q cell h1 h2 => by rw [hU]; exact ts_va hP hS q cell h1 h2) hst0
  generalize hAe : va_A [(h0, .inr (3, [.ref r_words, .int 0, .int 0, .ref r_floors, .ref r_behinds, .ref r_results, .ref r_localCounts, .ref r_locals])), (r_floors, .inl (cI, 11, .inl f)), (r_localCounts, .inl (cI, 11, .inl g))] s.heap.size = A at hD hst ⊢
  have hA : ∀ q : Nat, s.heap.size ≤ q → A q := fun q h => by rw [← hAe]; exact Or.inr h
  have hS : va_S A s.heap s.heap [] := va_S.rf
  have hP : va_P (dC, dI) vcl [(h0, .inr (3, [.ref r_words, .int 0, .int 0, .ref r_floors, .ref r_behinds, .ref r_results, .ref r_localCounts, .ref r_locals])), (r_floors, .inl (cI, 11, .inl f)), (r_localCounts, .inl (cI, 11, .inl g))] s.heap := hP
  have hl := lv_entry ([.ref h0]) (n := 1) (Nat.le_of_ble_eq_true rfl)
  rw [lg_entry_eq]
  generalize (lg_sl ([.ref h0]) ++ List.replicate (1 - (lg_sl ([.ref h0])).length) Slot.unset).toArray = ls at hl ⊢
  have hl : lv_has ls 1 [(0, .ref h0)] := hl
  refine lv_aload_n hx hb d_Ro_clear_0 rfl (lv_at hl 0 rfl) ?_
  refine lv_iconst (v := 0) hx hb d_Ro_clear_1 (by decide) ?_
  refine va_put (D := (dC, dI)) (ci := 3) (v := .int 0) (ty := .int) (C := "StoryMachine$Routines") (T := T_Ro) (N := 8) hx hb hts in_Ro t_Ro tk_Ro nm_Ro hown hK hP hD hS 0 rfl rfl 1 (by decide) (hts _ mw_82) (fun _ h9 => h9) rfl (by decide +kernel) rfl rfl (Nat.le_of_ble_eq_true rfl) d_Ro_clear_2 (fun H locs hP hD hS => ?_)
  have hP : va_P (dC, dI) vcl [(h0, .inr (3, [.ref r_words, .int 0, .int 0, .ref r_floors, .ref r_behinds, .ref r_results, .ref r_localCounts, .ref r_locals])), (r_floors, .inl (cI, 11, .inl f)), (r_localCounts, .inl (cI, 11, .inl g))] H := hP
  have hD : va_D A [(h0, .inr (3, [.ref r_words, .int 0, .int 0, .ref r_floors, .ref r_behinds, .ref r_results, .ref r_localCounts, .ref r_locals])), (r_floors, .inl (cI, 11, .inl f)), (r_localCounts, .inl (cI, 11, .inl g))] := hD
  refine lv_aload_n hx hb d_Ro_clear_5 rfl (lv_at hl 0 rfl) ?_
  refine lv_iconst (v := 0) hx hb d_Ro_clear_6 (by decide) ?_
  refine va_put (D := (dC, dI)) (ci := 3) (v := .int 0) (ty := .int) (C := "StoryMachine$Routines") (T := T_Ro) (N := 8) hx hb hts in_Ro t_Ro tk_Ro nm_Ro hown hK hP hD hS 0 rfl rfl 2 (by decide) (hts _ mw_84) (fun _ h9 => h9) rfl (by decide +kernel) rfl rfl (Nat.le_of_ble_eq_true rfl) d_Ro_clear_7 (fun H locs hP hD hS => ?_)
  have hP : va_P (dC, dI) vcl [(h0, .inr (3, [.ref r_words, .int 0, .int 0, .ref r_floors, .ref r_behinds, .ref r_results, .ref r_localCounts, .ref r_locals])), (r_floors, .inl (cI, 11, .inl f)), (r_localCounts, .inl (cI, 11, .inl g))] H := hP
  have hD : va_D A [(h0, .inr (3, [.ref r_words, .int 0, .int 0, .ref r_floors, .ref r_behinds, .ref r_results, .ref r_localCounts, .ref r_locals])), (r_floors, .inl (cI, 11, .inl f)), (r_localCounts, .inl (cI, 11, .inl g))] := hD
  refine lv_aload_n hx hb d_Ro_clear_10 rfl (lv_at hl 0 rfl) ?_
  refine va_get (D := (dC, dI)) (ci := 3) (v := .ref r_floors) (C := "StoryMachine$Routines") (T := T_Ro) (N := 8) hx hb hts in_Ro hown hK hP 0 rfl rfl 3 (by decide) (hts _ mw_86) (fun _ h9 => h9) rfl d_Ro_clear_11 ?_
  refine lv_iconst (v := 0) hx hb d_Ro_clear_14 (by decide) ?_
  refine lv_iconst (v := 0) hx hb d_Ro_clear_15 (by decide) ?_
  refine va_iast hx hb hK hP hD hS 1 0 rfl rfl (show ¬ ((0 : Int32) < 0 ∨ 11 ≤ (0 : Int32).toNatClampNeg) by decide) d_Ro_clear_16 (fun H locs hP hD hS => ?_)
  obtain ⟨f1, hf1⟩ : ∃ z : Nat → Int32, z = upd (f) (Int32.toNatClampNeg (0)) (0) := ⟨_, rfl⟩
  rw [← hf1] at hP hD
  have hP : va_P (dC, dI) vcl [(h0, .inr (3, [.ref r_words, .int 0, .int 0, .ref r_floors, .ref r_behinds, .ref r_results, .ref r_localCounts, .ref r_locals])), (r_floors, .inl (cI, 11, .inl f1)), (r_localCounts, .inl (cI, 11, .inl g))] H := hP
  have hD : va_D A [(h0, .inr (3, [.ref r_words, .int 0, .int 0, .ref r_floors, .ref r_behinds, .ref r_results, .ref r_localCounts, .ref r_locals])), (r_floors, .inl (cI, 11, .inl f1)), (r_localCounts, .inl (cI, 11, .inl g))] := hD
  refine lv_aload_n hx hb d_Ro_clear_17 rfl (lv_at hl 0 rfl) ?_
  refine va_get (D := (dC, dI)) (ci := 3) (v := .ref r_localCounts) (C := "StoryMachine$Routines") (T := T_Ro) (N := 8) hx hb hts in_Ro hown hK hP 0 rfl rfl 6 (by decide) (hts _ mw_89) (fun _ h9 => h9) rfl d_Ro_clear_18 ?_
  refine lv_iconst (v := 0) hx hb d_Ro_clear_21 (by decide) ?_
  refine lv_iconst (v := 0) hx hb d_Ro_clear_22 (by decide) ?_
  refine va_iast hx hb hK hP hD hS 2 0 rfl rfl (show ¬ ((0 : Int32) < 0 ∨ 11 ≤ (0 : Int32).toNatClampNeg) by decide) d_Ro_clear_23 (fun H locs hP hD hS => ?_)
  obtain ⟨f2, hf2⟩ : ∃ z : Nat → Int32, z = upd (g) (Int32.toNatClampNeg (0)) (0) := ⟨_, rfl⟩
  rw [← hf2] at hP hD
  have hP : va_P (dC, dI) vcl [(h0, .inr (3, [.ref r_words, .int 0, .int 0, .ref r_floors, .ref r_behinds, .ref r_results, .ref r_localCounts, .ref r_locals])), (r_floors, .inl (cI, 11, .inl f1)), (r_localCounts, .inl (cI, 11, .inl f2))] H := hP
  have hD : va_D A [(h0, .inr (3, [.ref r_words, .int 0, .int 0, .ref r_floors, .ref r_behinds, .ref r_results, .ref r_localCounts, .ref r_locals])), (r_floors, .inl (cI, 11, .inl f1)), (r_localCounts, .inl (cI, 11, .inl f2))] := hD
  refine W.widen (k := 0) (n := 0) (Nat.le_of_ble_eq_true rfl) (Nat.le_of_ble_eq_true rfl) ?_
  exact tx_ret (W.vret hx hb hr (fun t ht hW => ⟨rfl, hS.F ht⟩) (hS.2.2) d_Ro_clear_24)
set_option maxHeartbeats 4000000 in
set_option maxRecDepth 100000 in
theorem c_Li_clear (l : Launch) (hfl : l.flags = pinnedFlags ++ [noTraceFlag]) (dC : Nat → ClassId) (dI : Nat → Nat → Nat) (cI : ClassId) (h0 l_typed l_entered : Nat) (sz : Nat) : tx_Met l ⟨"StoryMachine$Line", "clear", "()V"⟩ tw_tbl ({ frames := 1, cells := 0, slots := 0, locals := 40 }) (tq_P (dC, dI) vcl [.ref h0] sz [(h0, .inr (2, [.ref l_typed, .int 0, .ref l_entered, .int 0, .int 0]))] [(cI, .int)]) (tq_Q (fun o t => o = .returned none) (va_A [(h0, .inr (2, [.ref l_typed, .int 0, .ref l_entered, .int 0, .int 0]))] sz)) 0 0 (va_A [(h0, .inr (2, [.ref l_typed, .int 0, .ref l_entered, .int 0, .int 0]))] sz) := by
  refine tx_ofW (cc := prog_6_method_2_code) (maxL := 1) (ret := none) (by decide) (tx_isM mw_469) ?_
  intro p e s m args below meth c s₁ B hml hv
  obtain ⟨rfl, hsz, hP, hK, hD0, hst0⟩ := hv
  have hx := B.exec
  have hb := B.bytes
  have hr := B.returns
  have hts := atoms_spec (ws := tw_tbl) B.pre
  have hown : s.vm.findClass "StoryMachine$Line" = some m.cls := findClass_of_methodNamed B.named
  have hlocks := B.notSynchronized
  subst hsz
  have hD := hD0.self (sz := s.heap.size)
  have hst := fun (H : Heap) (locs : List Loc) (hS : va_S (va_A [(h0, .inr (2, [.ref l_typed, .int 0, .ref l_entered, .int 0, .int 0]))] s.heap.size) s.heap H locs) (U : State) (hU : U.heap = H) (hW : s.WarmedH U.vm) => ts_keep hW (fun q cell h1 h2 => by rw [hU]; exact ts_va hP hS q cell h1 h2) hst0
  generalize hAe : va_A [(h0, .inr (2, [.ref l_typed, .int 0, .ref l_entered, .int 0, .int 0]))] s.heap.size = A at hD hst ⊢
  have hA : ∀ q : Nat, s.heap.size ≤ q → A q := fun q h => by rw [← hAe]; exact Or.inr h
  have hS : va_S A s.heap s.heap [] := va_S.rf
  have hP : va_P (dC, dI) vcl [(h0, .inr (2, [.ref l_typed, .int 0, .ref l_entered, .int 0, .int 0]))] s.heap := hP
  have hl := lv_entry ([.ref h0]) (n := 1) (Nat.le_of_ble_eq_true rfl)
  rw [lg_entry_eq]
  generalize (lg_sl ([.ref h0]) ++ List.replicate (1 - (lg_sl ([.ref h0])).length) Slot.unset).toArray = ls at hl ⊢
  have hl : lv_has ls 1 [(0, .ref h0)] := hl
  refine lv_aload_n hx hb d_Li_clear_0 rfl (lv_at hl 0 rfl) ?_
  refine lv_iconst (v := 0) hx hb d_Li_clear_1 (by decide) ?_
  refine va_put (D := (dC, dI)) (ci := 2) (v := .int 0) (ty := .int) (C := "StoryMachine$Line") (T := T_Li) (N := 5) hx hb hts in_Li t_Li tk_Li nm_Li hown hK hP hD hS 0 rfl rfl 1 (by decide) (hts _ mw_55) (fun _ h9 => h9) rfl (by decide +kernel) rfl rfl (Nat.le_of_ble_eq_true rfl) d_Li_clear_2 (fun H locs hP hD hS => ?_)
  have hP : va_P (dC, dI) vcl [(h0, .inr (2, [.ref l_typed, .int 0, .ref l_entered, .int 0, .int 0]))] H := hP
  have hD : va_D A [(h0, .inr (2, [.ref l_typed, .int 0, .ref l_entered, .int 0, .int 0]))] := hD
  refine lv_aload_n hx hb d_Li_clear_5 rfl (lv_at hl 0 rfl) ?_
  refine lv_iconst (v := 0) hx hb d_Li_clear_6 (by decide) ?_
  refine va_put (D := (dC, dI)) (ci := 2) (v := .int 0) (ty := .boolean) (C := "StoryMachine$Line") (T := T_Li) (N := 5) hx hb hts in_Li t_Li tk_Li nm_Li hown hK hP hD hS 0 rfl rfl 4 (by decide) (hts _ mw_61) (fun _ h9 => h9) rfl (by decide +kernel) (by decide) rfl (Nat.le_of_ble_eq_true rfl) d_Li_clear_7 (fun H locs hP hD hS => ?_)
  have hP : va_P (dC, dI) vcl [(h0, .inr (2, [.ref l_typed, .int 0, .ref l_entered, .int 0, .int 0]))] H := hP
  have hD : va_D A [(h0, .inr (2, [.ref l_typed, .int 0, .ref l_entered, .int 0, .int 0]))] := hD
  refine W.widen (k := 0) (n := 0) (Nat.le_of_ble_eq_true rfl) (Nat.le_of_ble_eq_true rfl) ?_
  exact tx_ret (W.vret hx hb hr (fun t ht hW => ⟨rfl, hS.F ht⟩) (hS.2.2) d_Li_clear_10)
set_option maxHeartbeats 4000000 in
set_option maxRecDepth 100000 in
theorem c_En_startAt (l : Launch) (hfl : l.flags = pinnedFlags ++ [noTraceFlag]) (dC : Nat → ClassId) (dI : Nat → Nat → Nat) (cI : ClassId) (h0 e_memory e_line e_routines e_printer e_variables e_tree e_dictionary e_instruction e_aside e_newLocals p_memory p_kept s_memory s_routines r_words r_floors r_behinds r_results r_localCounts r_locals l_typed l_entered : Nat) (sz : Nat) : tx_Met l ⟨"StoryMachine$Engine", "startAt", "(I)V"⟩ tw_tbl ({ frames := 3, cells := 0, slots := 0, locals := 80 }) (tq_P (dC, dI) vcl [.ref h0, .int 0] sz [(h0, .inr (5, [.ref e_memory, .ref e_line, .ref e_routines, .ref e_printer, .ref e_variables, .ref e_tree, .ref e_dictionary, .ref e_instruction, .ref e_aside, .ref e_newLocals, .int 0, .int (-1), .int 0, .int 0, .int 0])), (e_printer, .inr (4, [.ref p_memory, .ref p_kept, .int 0, .int 0, .int 0])), (e_aside, .inr (10, [.int 0, .ref s_memory, .ref s_routines, .int 0])), (e_routines, .inr (3, [.ref r_words, .int 0, .int 0, .ref r_floors, .ref r_behinds, .ref r_results, .ref r_localCounts, .ref r_locals])), (r_floors, .inl (cI, 11, .inl (fun _ => 0))), (r_localCounts, .inl (cI, 11, .inl (fun _ => 0))), (e_line, .inr (2, [.ref l_typed, .int 0, .ref l_entered, .int 0, .int 0]))] [(cI, .int)]) (tq_Q (fun o t => o = .returned none) (va_A [(h0, .inr (5, [.ref e_memory, .ref e_line, .ref e_routines, .ref e_printer, .ref e_variables, .ref e_tree, .ref e_dictionary, .ref e_instruction, .ref e_aside, .ref e_newLocals, .int 0, .int (-1), .int 0, .int 0, .int 0])), (e_printer, .inr (4, [.ref p_memory, .ref p_kept, .int 0, .int 0, .int 0])), (e_aside, .inr (10, [.int 0, .ref s_memory, .ref s_routines, .int 0])), (e_routines, .inr (3, [.ref r_words, .int 0, .int 0, .ref r_floors, .ref r_behinds, .ref r_results, .ref r_localCounts, .ref r_locals])), (r_floors, .inl (cI, 11, .inl (fun _ => 0))), (r_localCounts, .inl (cI, 11, .inl (fun _ => 0))), (e_line, .inr (2, [.ref l_typed, .int 0, .ref l_entered, .int 0, .int 0]))] sz)) 0 0 (va_A [(h0, .inr (5, [.ref e_memory, .ref e_line, .ref e_routines, .ref e_printer, .ref e_variables, .ref e_tree, .ref e_dictionary, .ref e_instruction, .ref e_aside, .ref e_newLocals, .int 0, .int (-1), .int 0, .int 0, .int 0])), (e_printer, .inr (4, [.ref p_memory, .ref p_kept, .int 0, .int 0, .int 0])), (e_aside, .inr (10, [.int 0, .ref s_memory, .ref s_routines, .int 0])), (e_routines, .inr (3, [.ref r_words, .int 0, .int 0, .ref r_floors, .ref r_behinds, .ref r_results, .ref r_localCounts, .ref r_locals])), (r_floors, .inl (cI, 11, .inl (fun _ => 0))), (r_localCounts, .inl (cI, 11, .inl (fun _ => 0))), (e_line, .inr (2, [.ref l_typed, .int 0, .ref l_entered, .int 0, .int 0]))] sz) := by
  refine tx_ofW (cc := prog_4_method_2_code) (maxL := 2) (ret := none) (by decide) (tx_isM mw_461) ?_
  intro p e s m args below meth c s₁ B hml hv
  obtain ⟨rfl, hsz, hP, hK, hD0, hst0⟩ := hv
  have hx := B.exec
  have hb := B.bytes
  have hr := B.returns
  have hts := atoms_spec (ws := tw_tbl) B.pre
  have hown : s.vm.findClass "StoryMachine$Engine" = some m.cls := findClass_of_methodNamed B.named
  have hlocks := B.notSynchronized
  subst hsz
  have hD := hD0.self (sz := s.heap.size)
  have hst := fun (H : Heap) (locs : List Loc) (hS : va_S (va_A [(h0, .inr (5, [.ref e_memory, .ref e_line, .ref e_routines, .ref e_printer, .ref e_variables, .ref e_tree, .ref e_dictionary, .ref e_instruction, .ref e_aside, .ref e_newLocals, .int 0, .int (-1), .int 0, .int 0, .int 0])), (e_printer, .inr (4, [.ref p_memory, .ref p_kept, .int 0, .int 0, .int 0])), (e_aside, .inr (10, [.int 0, .ref s_memory, .ref s_routines, .int 0])), (e_routines, .inr (3, [.ref r_words, .int 0, .int 0, .ref r_floors, .ref r_behinds, .ref r_results, .ref r_localCounts, .ref r_locals])), (r_floors, .inl (cI, 11, .inl (fun _ => 0))), (r_localCounts, .inl (cI, 11, .inl (fun _ => 0))), (e_line, .inr (2, [.ref l_typed, .int 0, .ref l_entered, .int 0, .int 0]))] s.heap.size) s.heap H locs) (U : State) (hU : U.heap = H) (hW : s.WarmedH U.vm) => ts_keep hW (fun q cell h1 h2 => by rw [hU]; exact ts_va hP hS q cell h1 h2) hst0
  generalize hAe : va_A [(h0, .inr (5, [.ref e_memory, .ref e_line, .ref e_routines, .ref e_printer, .ref e_variables, .ref e_tree, .ref e_dictionary, .ref e_instruction, .ref e_aside, .ref e_newLocals, .int 0, .int (-1), .int 0, .int 0, .int 0])), (e_printer, .inr (4, [.ref p_memory, .ref p_kept, .int 0, .int 0, .int 0])), (e_aside, .inr (10, [.int 0, .ref s_memory, .ref s_routines, .int 0])), (e_routines, .inr (3, [.ref r_words, .int 0, .int 0, .ref r_floors, .ref r_behinds, .ref r_results, .ref r_localCounts, .ref r_locals])), (r_floors, .inl (cI, 11, .inl (fun _ => 0))), (r_localCounts, .inl (cI, 11, .inl (fun _ => 0))), (e_line, .inr (2, [.ref l_typed, .int 0, .ref l_entered, .int 0, .int 0]))] s.heap.size = A at hD hst ⊢
  have hA : ∀ q : Nat, s.heap.size ≤ q → A q := fun q h => by rw [← hAe]; exact Or.inr h
  have hS : va_S A s.heap s.heap [] := va_S.rf
  have hP : va_P (dC, dI) vcl [(h0, .inr (5, [.ref e_memory, .ref e_line, .ref e_routines, .ref e_printer, .ref e_variables, .ref e_tree, .ref e_dictionary, .ref e_instruction, .ref e_aside, .ref e_newLocals, .int 0, .int (-1), .int 0, .int 0, .int 0])), (e_printer, .inr (4, [.ref p_memory, .ref p_kept, .int 0, .int 0, .int 0])), (e_aside, .inr (10, [.int 0, .ref s_memory, .ref s_routines, .int 0])), (e_routines, .inr (3, [.ref r_words, .int 0, .int 0, .ref r_floors, .ref r_behinds, .ref r_results, .ref r_localCounts, .ref r_locals])), (r_floors, .inl (cI, 11, .inl (fun _ => 0))), (r_localCounts, .inl (cI, 11, .inl (fun _ => 0))), (e_line, .inr (2, [.ref l_typed, .int 0, .ref l_entered, .int 0, .int 0]))] s.heap := hP
  have hl := lv_entry ([.ref h0, .int 0]) (n := 2) (Nat.le_of_ble_eq_true rfl)
  rw [lg_entry_eq]
  generalize (lg_sl ([.ref h0, .int 0]) ++ List.replicate (2 - (lg_sl ([.ref h0, .int 0])).length) Slot.unset).toArray = ls at hl ⊢
  have hl : lv_has ls 2 [(0, .ref h0), (1, .int 0)] := hl
  refine lv_aload_n hx hb d_En_startAt_0 rfl (lv_at hl 0 rfl) ?_
  refine lv_iload_n hx hb d_En_startAt_1 rfl (lv_at hl 1 rfl) ?_
  refine va_put (D := (dC, dI)) (ci := 5) (v := .int 0) (ty := .int) (C := "StoryMachine$Engine") (T := T_En) (N := 15) hx hb hts in_En t_En tk_En nm_En hown hK hP hD hS 0 rfl rfl 11 (by decide) (hts _ mw_273) (fun _ h9 => h9) rfl (by decide +kernel) rfl rfl (Nat.le_of_ble_eq_true rfl) d_En_startAt_2 (fun H locs hP hD hS => ?_)
  have hP : va_P (dC, dI) vcl [(h0, .inr (5, [.ref e_memory, .ref e_line, .ref e_routines, .ref e_printer, .ref e_variables, .ref e_tree, .ref e_dictionary, .ref e_instruction, .ref e_aside, .ref e_newLocals, .int 0, .int 0, .int 0, .int 0, .int 0])), (e_printer, .inr (4, [.ref p_memory, .ref p_kept, .int 0, .int 0, .int 0])), (e_aside, .inr (10, [.int 0, .ref s_memory, .ref s_routines, .int 0])), (e_routines, .inr (3, [.ref r_words, .int 0, .int 0, .ref r_floors, .ref r_behinds, .ref r_results, .ref r_localCounts, .ref r_locals])), (r_floors, .inl (cI, 11, .inl (fun _ => 0))), (r_localCounts, .inl (cI, 11, .inl (fun _ => 0))), (e_line, .inr (2, [.ref l_typed, .int 0, .ref l_entered, .int 0, .int 0]))] H := hP
  have hD : va_D A [(h0, .inr (5, [.ref e_memory, .ref e_line, .ref e_routines, .ref e_printer, .ref e_variables, .ref e_tree, .ref e_dictionary, .ref e_instruction, .ref e_aside, .ref e_newLocals, .int 0, .int 0, .int 0, .int 0, .int 0])), (e_printer, .inr (4, [.ref p_memory, .ref p_kept, .int 0, .int 0, .int 0])), (e_aside, .inr (10, [.int 0, .ref s_memory, .ref s_routines, .int 0])), (e_routines, .inr (3, [.ref r_words, .int 0, .int 0, .ref r_floors, .ref r_behinds, .ref r_results, .ref r_localCounts, .ref r_locals])), (r_floors, .inl (cI, 11, .inl (fun _ => 0))), (r_localCounts, .inl (cI, 11, .inl (fun _ => 0))), (e_line, .inr (2, [.ref l_typed, .int 0, .ref l_entered, .int 0, .int 0]))] := hD
  refine lv_aload_n hx hb d_En_startAt_5 rfl (lv_at hl 0 rfl) ?_
  refine lv_iconst (v := 1) hx hb d_En_startAt_6 (by decide) ?_
  refine va_put (D := (dC, dI)) (ci := 5) (v := .int 1) (ty := .boolean) (C := "StoryMachine$Engine") (T := T_En) (N := 15) hx hb hts in_En t_En tk_En nm_En hown hK hP hD hS 0 rfl rfl 10 (by decide) (hts _ mw_271) (fun _ h9 => h9) rfl (by decide +kernel) (by decide) rfl (Nat.le_of_ble_eq_true rfl) d_En_startAt_7 (fun H locs hP hD hS => ?_)
  have hP : va_P (dC, dI) vcl [(h0, .inr (5, [.ref e_memory, .ref e_line, .ref e_routines, .ref e_printer, .ref e_variables, .ref e_tree, .ref e_dictionary, .ref e_instruction, .ref e_aside, .ref e_newLocals, .int 1, .int 0, .int 0, .int 0, .int 0])), (e_printer, .inr (4, [.ref p_memory, .ref p_kept, .int 0, .int 0, .int 0])), (e_aside, .inr (10, [.int 0, .ref s_memory, .ref s_routines, .int 0])), (e_routines, .inr (3, [.ref r_words, .int 0, .int 0, .ref r_floors, .ref r_behinds, .ref r_results, .ref r_localCounts, .ref r_locals])), (r_floors, .inl (cI, 11, .inl (fun _ => 0))), (r_localCounts, .inl (cI, 11, .inl (fun _ => 0))), (e_line, .inr (2, [.ref l_typed, .int 0, .ref l_entered, .int 0, .int 0]))] H := hP
  have hD : va_D A [(h0, .inr (5, [.ref e_memory, .ref e_line, .ref e_routines, .ref e_printer, .ref e_variables, .ref e_tree, .ref e_dictionary, .ref e_instruction, .ref e_aside, .ref e_newLocals, .int 1, .int 0, .int 0, .int 0, .int 0])), (e_printer, .inr (4, [.ref p_memory, .ref p_kept, .int 0, .int 0, .int 0])), (e_aside, .inr (10, [.int 0, .ref s_memory, .ref s_routines, .int 0])), (e_routines, .inr (3, [.ref r_words, .int 0, .int 0, .ref r_floors, .ref r_behinds, .ref r_results, .ref r_localCounts, .ref r_locals])), (r_floors, .inl (cI, 11, .inl (fun _ => 0))), (r_localCounts, .inl (cI, 11, .inl (fun _ => 0))), (e_line, .inr (2, [.ref l_typed, .int 0, .ref l_entered, .int 0, .int 0]))] := hD
  refine lv_aload_n hx hb d_En_startAt_10 rfl (lv_at hl 0 rfl) ?_
  refine lv_iconst (v := 0) hx hb d_En_startAt_11 (by decide) ?_
  refine va_put (D := (dC, dI)) (ci := 5) (v := .int 0) (ty := .int) (C := "StoryMachine$Engine") (T := T_En) (N := 15) hx hb hts in_En t_En tk_En nm_En hown hK hP hD hS 0 rfl rfl 12 (by decide) (hts _ mw_275) (fun _ h9 => h9) rfl (by decide +kernel) rfl rfl (Nat.le_of_ble_eq_true rfl) d_En_startAt_12 (fun H locs hP hD hS => ?_)
  have hP : va_P (dC, dI) vcl [(h0, .inr (5, [.ref e_memory, .ref e_line, .ref e_routines, .ref e_printer, .ref e_variables, .ref e_tree, .ref e_dictionary, .ref e_instruction, .ref e_aside, .ref e_newLocals, .int 1, .int 0, .int 0, .int 0, .int 0])), (e_printer, .inr (4, [.ref p_memory, .ref p_kept, .int 0, .int 0, .int 0])), (e_aside, .inr (10, [.int 0, .ref s_memory, .ref s_routines, .int 0])), (e_routines, .inr (3, [.ref r_words, .int 0, .int 0, .ref r_floors, .ref r_behinds, .ref r_results, .ref r_localCounts, .ref r_locals])), (r_floors, .inl (cI, 11, .inl (fun _ => 0))), (r_localCounts, .inl (cI, 11, .inl (fun _ => 0))), (e_line, .inr (2, [.ref l_typed, .int 0, .ref l_entered, .int 0, .int 0]))] H := hP
  have hD : va_D A [(h0, .inr (5, [.ref e_memory, .ref e_line, .ref e_routines, .ref e_printer, .ref e_variables, .ref e_tree, .ref e_dictionary, .ref e_instruction, .ref e_aside, .ref e_newLocals, .int 1, .int 0, .int 0, .int 0, .int 0])), (e_printer, .inr (4, [.ref p_memory, .ref p_kept, .int 0, .int 0, .int 0])), (e_aside, .inr (10, [.int 0, .ref s_memory, .ref s_routines, .int 0])), (e_routines, .inr (3, [.ref r_words, .int 0, .int 0, .ref r_floors, .ref r_behinds, .ref r_results, .ref r_localCounts, .ref r_locals])), (r_floors, .inl (cI, 11, .inl (fun _ => 0))), (r_localCounts, .inl (cI, 11, .inl (fun _ => 0))), (e_line, .inr (2, [.ref l_typed, .int 0, .ref l_entered, .int 0, .int 0]))] := hD
  refine lv_aload_n hx hb d_En_startAt_15 rfl (lv_at hl 0 rfl) ?_
  refine lv_iconst (v := 0) hx hb d_En_startAt_16 (by decide) ?_
  refine va_put (D := (dC, dI)) (ci := 5) (v := .int 0) (ty := .int) (C := "StoryMachine$Engine") (T := T_En) (N := 15) hx hb hts in_En t_En tk_En nm_En hown hK hP hD hS 0 rfl rfl 14 (by decide) (hts _ mw_278) (fun _ h9 => h9) rfl (by decide +kernel) rfl rfl (Nat.le_of_ble_eq_true rfl) d_En_startAt_17 (fun H locs hP hD hS => ?_)
  have hP : va_P (dC, dI) vcl [(h0, .inr (5, [.ref e_memory, .ref e_line, .ref e_routines, .ref e_printer, .ref e_variables, .ref e_tree, .ref e_dictionary, .ref e_instruction, .ref e_aside, .ref e_newLocals, .int 1, .int 0, .int 0, .int 0, .int 0])), (e_printer, .inr (4, [.ref p_memory, .ref p_kept, .int 0, .int 0, .int 0])), (e_aside, .inr (10, [.int 0, .ref s_memory, .ref s_routines, .int 0])), (e_routines, .inr (3, [.ref r_words, .int 0, .int 0, .ref r_floors, .ref r_behinds, .ref r_results, .ref r_localCounts, .ref r_locals])), (r_floors, .inl (cI, 11, .inl (fun _ => 0))), (r_localCounts, .inl (cI, 11, .inl (fun _ => 0))), (e_line, .inr (2, [.ref l_typed, .int 0, .ref l_entered, .int 0, .int 0]))] H := hP
  have hD : va_D A [(h0, .inr (5, [.ref e_memory, .ref e_line, .ref e_routines, .ref e_printer, .ref e_variables, .ref e_tree, .ref e_dictionary, .ref e_instruction, .ref e_aside, .ref e_newLocals, .int 1, .int 0, .int 0, .int 0, .int 0])), (e_printer, .inr (4, [.ref p_memory, .ref p_kept, .int 0, .int 0, .int 0])), (e_aside, .inr (10, [.int 0, .ref s_memory, .ref s_routines, .int 0])), (e_routines, .inr (3, [.ref r_words, .int 0, .int 0, .ref r_floors, .ref r_behinds, .ref r_results, .ref r_localCounts, .ref r_locals])), (r_floors, .inl (cI, 11, .inl (fun _ => 0))), (r_localCounts, .inl (cI, 11, .inl (fun _ => 0))), (e_line, .inr (2, [.ref l_typed, .int 0, .ref l_entered, .int 0, .int 0]))] := hD
  refine lv_aload_n hx hb d_En_startAt_20 rfl (lv_at hl 0 rfl) ?_
  refine va_get (D := (dC, dI)) (ci := 5) (v := .ref e_printer) (C := "StoryMachine$Engine") (T := T_En) (N := 15) hx hb hts in_En hown hK hP 0 rfl rfl 3 (by decide) (hts _ mw_264) (fun _ h9 => h9) rfl d_En_startAt_21 ?_
  refine lv_iconst (v := 0) hx hb d_En_startAt_24 (by decide) ?_
  refine va_put (D := (dC, dI)) (ci := 4) (v := .int 0) (ty := .int) (C := "StoryMachine$Printer") (T := T_Pr) (N := 5) hx hb hts in_Pr t_Pr tk_Pr nm_Pr hown hK hP hD hS 1 rfl rfl 2 (by decide) (hts _ mw_117) (fun _ h9 => h9) rfl (by decide +kernel) rfl rfl (Nat.le_of_ble_eq_true rfl) d_En_startAt_25 (fun H locs hP hD hS => ?_)
  have hP : va_P (dC, dI) vcl [(h0, .inr (5, [.ref e_memory, .ref e_line, .ref e_routines, .ref e_printer, .ref e_variables, .ref e_tree, .ref e_dictionary, .ref e_instruction, .ref e_aside, .ref e_newLocals, .int 1, .int 0, .int 0, .int 0, .int 0])), (e_printer, .inr (4, [.ref p_memory, .ref p_kept, .int 0, .int 0, .int 0])), (e_aside, .inr (10, [.int 0, .ref s_memory, .ref s_routines, .int 0])), (e_routines, .inr (3, [.ref r_words, .int 0, .int 0, .ref r_floors, .ref r_behinds, .ref r_results, .ref r_localCounts, .ref r_locals])), (r_floors, .inl (cI, 11, .inl (fun _ => 0))), (r_localCounts, .inl (cI, 11, .inl (fun _ => 0))), (e_line, .inr (2, [.ref l_typed, .int 0, .ref l_entered, .int 0, .int 0]))] H := hP
  have hD : va_D A [(h0, .inr (5, [.ref e_memory, .ref e_line, .ref e_routines, .ref e_printer, .ref e_variables, .ref e_tree, .ref e_dictionary, .ref e_instruction, .ref e_aside, .ref e_newLocals, .int 1, .int 0, .int 0, .int 0, .int 0])), (e_printer, .inr (4, [.ref p_memory, .ref p_kept, .int 0, .int 0, .int 0])), (e_aside, .inr (10, [.int 0, .ref s_memory, .ref s_routines, .int 0])), (e_routines, .inr (3, [.ref r_words, .int 0, .int 0, .ref r_floors, .ref r_behinds, .ref r_results, .ref r_localCounts, .ref r_locals])), (r_floors, .inl (cI, 11, .inl (fun _ => 0))), (r_localCounts, .inl (cI, 11, .inl (fun _ => 0))), (e_line, .inr (2, [.ref l_typed, .int 0, .ref l_entered, .int 0, .int 0]))] := hD
  refine lv_aload_n hx hb d_En_startAt_28 rfl (lv_at hl 0 rfl) ?_
  refine va_get (D := (dC, dI)) (ci := 5) (v := .ref e_aside) (C := "StoryMachine$Engine") (T := T_En) (N := 15) hx hb hts in_En hown hK hP 0 rfl rfl 8 (by decide) (hts _ mw_269) (fun _ h9 => h9) rfl d_En_startAt_29 ?_
  refine lv_iconst (v := 0) hx hb d_En_startAt_32 (by decide) ?_
  refine va_put (D := (dC, dI)) (ci := 10) (v := .int 0) (ty := .boolean) (C := "StoryMachine$Aside") (T := T_As) (N := 4) hx hb hts in_As t_As tk_As nm_As hown hK hP hD hS 2 rfl rfl 0 (by decide) (hts _ mw_149) (fun _ h9 => h9) rfl (by decide +kernel) (by decide) rfl (Nat.le_of_ble_eq_true rfl) d_En_startAt_33 (fun H locs hP hD hS => ?_)
  have hP : va_P (dC, dI) vcl [(h0, .inr (5, [.ref e_memory, .ref e_line, .ref e_routines, .ref e_printer, .ref e_variables, .ref e_tree, .ref e_dictionary, .ref e_instruction, .ref e_aside, .ref e_newLocals, .int 1, .int 0, .int 0, .int 0, .int 0])), (e_printer, .inr (4, [.ref p_memory, .ref p_kept, .int 0, .int 0, .int 0])), (e_aside, .inr (10, [.int 0, .ref s_memory, .ref s_routines, .int 0])), (e_routines, .inr (3, [.ref r_words, .int 0, .int 0, .ref r_floors, .ref r_behinds, .ref r_results, .ref r_localCounts, .ref r_locals])), (r_floors, .inl (cI, 11, .inl (fun _ => 0))), (r_localCounts, .inl (cI, 11, .inl (fun _ => 0))), (e_line, .inr (2, [.ref l_typed, .int 0, .ref l_entered, .int 0, .int 0]))] H := hP
  have hD : va_D A [(h0, .inr (5, [.ref e_memory, .ref e_line, .ref e_routines, .ref e_printer, .ref e_variables, .ref e_tree, .ref e_dictionary, .ref e_instruction, .ref e_aside, .ref e_newLocals, .int 1, .int 0, .int 0, .int 0, .int 0])), (e_printer, .inr (4, [.ref p_memory, .ref p_kept, .int 0, .int 0, .int 0])), (e_aside, .inr (10, [.int 0, .ref s_memory, .ref s_routines, .int 0])), (e_routines, .inr (3, [.ref r_words, .int 0, .int 0, .ref r_floors, .ref r_behinds, .ref r_results, .ref r_localCounts, .ref r_locals])), (r_floors, .inl (cI, 11, .inl (fun _ => 0))), (r_localCounts, .inl (cI, 11, .inl (fun _ => 0))), (e_line, .inr (2, [.ref l_typed, .int 0, .ref l_entered, .int 0, .int 0]))] := hD
  refine lv_aload_n hx hb d_En_startAt_36 rfl (lv_at hl 0 rfl) ?_
  refine va_get (D := (dC, dI)) (ci := 5) (v := .ref e_routines) (C := "StoryMachine$Engine") (T := T_En) (N := 15) hx hb hts in_En hown hK hP 0 rfl rfl 2 (by decide) (hts _ mw_263) (fun _ h9 => h9) rfl d_En_startAt_37 ?_
  have hPc := hP.sub (ws' := [(e_routines, .inr (3, [.ref r_words, .int 0, .int 0, .ref r_floors, .ref r_behinds, .ref r_results, .ref r_localCounts, .ref r_locals])), (r_floors, .inl (cI, 11, .inl (fun _ => 0))), (r_localCounts, .inl (cI, 11, .inl (fun _ => 0)))]) [3, 4, 5] rfl
  have hDc := hD.sub (ws' := [(e_routines, .inr (3, [.ref r_words, .int 0, .int 0, .ref r_floors, .ref r_behinds, .ref r_results, .ref r_localCounts, .ref r_locals])), (r_floors, .inl (cI, 11, .inl (fun _ => 0))), (r_localCounts, .inl (cI, 11, .inl (fun _ => 0)))]) [3, 4, 5] (by decide) rfl
  have hFc := va_free (wc := [(e_routines, .inr (3, [.ref r_words, .int 0, .int 0, .ref r_floors, .ref r_behinds, .ref r_results, .ref r_localCounts, .ref r_locals])), (r_floors, .inl (cI, 11, .inl (fun _ => 0))), (r_localCounts, .inl (cI, 11, .inl (fun _ => 0)))]) hD hS hA [3, 4, 5] rfl
  refine tx_callK (A1 := va_A [(e_routines, .inr (3, [.ref r_words, .int 0, .int 0, .ref r_floors, .ref r_behinds, .ref r_results, .ref r_localCounts, .ref r_locals])), (r_floors, .inl (cI, 11, .inl (fun _ => 0))), (r_localCounts, .inl (cI, 11, .inl (fun _ => 0)))] H.size) (tx_runV (C := "StoryMachine$Routines") (As := []) (rest := []) ⟨hx, hb, hml, hown, hts⟩ (c_Ro_clear l hfl dC dI cI e_routines r_words r_floors r_behinds r_results r_localCounts r_locals (fun _ => 0) (fun _ => 0) H.size) (tx_cb (n := 0) hts rfl rfl ⟨Nat.le_of_ble_eq_true rfl, Nat.le_of_ble_eq_true rfl⟩ (tx_code.of (hts _ mw_465)) (hts _ mw_4) (by decide +kernel) (hts _ mw_462)) (hts _ mw_463) (hts _ mw_464) ⟨tq_blind, ta_recv (q0 := 3) hts in_Ro hK hP rfl rfl, fun U hU hW => ⟨rfl, by rw [hU], by rw [hU]; exact hPc, va_K.moved hW.alike hK, hDc.weaken (fun _ _ _ _ => trivial), hst _ _ hS U hU hW⟩⟩ rfl rfl hl.1 rfl (lv_room (Nat.le_of_ble_eq_true rfl)) d_En_startAt_40 ⟨Nat.le_of_ble_eq_true rfl, Nat.le_of_ble_eq_true rfl⟩) hS (fun q _ h => hFc q h) hFc (fun v t H40 locs ht hWt hpost hz1 hk1 hS => ?_) (fun x t H1 locs ht hWt hpost hz1 hk1 hS => by cases hpost)
  cases hpost
  have hP1 := ta_nilP (D := (dC, dI)) (cl := vcl) (H := t.heap)
  have hD1 := ta_nilD (A := va_A [(e_routines, .inr (3, [.ref r_words, .int 0, .int 0, .ref r_floors, .ref r_behinds, .ref r_results, .ref r_localCounts, .ref r_locals])), (r_floors, .inl (cI, 11, .inl (fun _ => 0))), (r_localCounts, .inl (cI, 11, .inl (fun _ => 0)))] H.size)
  rw [ht] at hP1
  obtain ⟨hP, hD⟩ := va_join (wr := [(h0, .inr (5, [.ref e_memory, .ref e_line, .ref e_routines, .ref e_printer, .ref e_variables, .ref e_tree, .ref e_dictionary, .ref e_instruction, .ref e_aside, .ref e_newLocals, .int 1, .int 0, .int 0, .int 0, .int 0])), (e_printer, .inr (4, [.ref p_memory, .ref p_kept, .int 0, .int 0, .int 0])), (e_aside, .inr (10, [.int 0, .ref s_memory, .ref s_routines, .int 0])), (e_line, .inr (2, [.ref l_typed, .int 0, .ref l_entered, .int 0, .int 0]))]) (w1 := []) hP hD [3, 4, 5] [0, 1, 2, 6] rfl rfl (by decide) (by decide) hk1 hFc hP1 hD1
  have hP : va_P (dC, dI) vcl [(h0, .inr (5, [.ref e_memory, .ref e_line, .ref e_routines, .ref e_printer, .ref e_variables, .ref e_tree, .ref e_dictionary, .ref e_instruction, .ref e_aside, .ref e_newLocals, .int 1, .int 0, .int 0, .int 0, .int 0])), (e_printer, .inr (4, [.ref p_memory, .ref p_kept, .int 0, .int 0, .int 0])), (e_aside, .inr (10, [.int 0, .ref s_memory, .ref s_routines, .int 0])), (e_line, .inr (2, [.ref l_typed, .int 0, .ref l_entered, .int 0, .int 0]))] H40 := hP
  have hD : va_D A [(h0, .inr (5, [.ref e_memory, .ref e_line, .ref e_routines, .ref e_printer, .ref e_variables, .ref e_tree, .ref e_dictionary, .ref e_instruction, .ref e_aside, .ref e_newLocals, .int 1, .int 0, .int 0, .int 0, .int 0])), (e_printer, .inr (4, [.ref p_memory, .ref p_kept, .int 0, .int 0, .int 0])), (e_aside, .inr (10, [.int 0, .ref s_memory, .ref s_routines, .int 0])), (e_line, .inr (2, [.ref l_typed, .int 0, .ref l_entered, .int 0, .int 0]))] := hD
  refine lv_aload_n hx hb d_En_startAt_43 rfl (lv_at hl 0 rfl) ?_
  refine va_get (D := (dC, dI)) (ci := 5) (v := .ref e_line) (C := "StoryMachine$Engine") (T := T_En) (N := 15) hx hb hts in_En hown hK hP 0 rfl rfl 1 (by decide) (hts _ mw_262) (fun _ h9 => h9) rfl d_En_startAt_44 ?_
  have hPc := hP.sub (ws' := [(e_line, .inr (2, [.ref l_typed, .int 0, .ref l_entered, .int 0, .int 0]))]) [3] rfl
  have hDc := hD.sub (ws' := [(e_line, .inr (2, [.ref l_typed, .int 0, .ref l_entered, .int 0, .int 0]))]) [3] (by decide) rfl
  have hFc := va_free (wc := [(e_line, .inr (2, [.ref l_typed, .int 0, .ref l_entered, .int 0, .int 0]))]) hD hS hA [3] rfl
  refine tx_callK (A1 := va_A [(e_line, .inr (2, [.ref l_typed, .int 0, .ref l_entered, .int 0, .int 0]))] H40.size) (tx_runV (C := "StoryMachine$Line") (As := []) (rest := []) ⟨hx, hb, hml, hown, hts⟩ (c_Li_clear l hfl dC dI cI e_line l_typed l_entered H40.size) (tx_cb (n := 0) hts rfl rfl ⟨Nat.le_of_ble_eq_true rfl, Nat.le_of_ble_eq_true rfl⟩ (tx_code.of (hts _ mw_469)) (hts _ mw_3) (by decide +kernel) (hts _ mw_466)) (hts _ mw_467) (hts _ mw_468) ⟨tq_blind, ta_recv (q0 := 3) hts in_Li hK hP rfl rfl, fun U hU hW => ⟨rfl, by rw [hU], by rw [hU]; exact hPc, va_K.moved hW.alike hK, hDc.weaken (fun _ _ _ _ => trivial), hst _ _ hS U hU hW⟩⟩ rfl rfl hl.1 rfl (lv_room (Nat.le_of_ble_eq_true rfl)) d_En_startAt_47 ⟨Nat.le_of_ble_eq_true rfl, Nat.le_of_ble_eq_true rfl⟩) hS (fun q _ h => hFc q h) hFc (fun v t H47 locs ht hWt hpost hz1 hk1 hS => ?_) (fun x t H1 locs ht hWt hpost hz1 hk1 hS => by cases hpost)
  cases hpost
  have hP1 := ta_nilP (D := (dC, dI)) (cl := vcl) (H := t.heap)
  have hD1 := ta_nilD (A := va_A [(e_line, .inr (2, [.ref l_typed, .int 0, .ref l_entered, .int 0, .int 0]))] H40.size)
  rw [ht] at hP1
  obtain ⟨hP, hD⟩ := va_join (wr := [(h0, .inr (5, [.ref e_memory, .ref e_line, .ref e_routines, .ref e_printer, .ref e_variables, .ref e_tree, .ref e_dictionary, .ref e_instruction, .ref e_aside, .ref e_newLocals, .int 1, .int 0, .int 0, .int 0, .int 0])), (e_printer, .inr (4, [.ref p_memory, .ref p_kept, .int 0, .int 0, .int 0])), (e_aside, .inr (10, [.int 0, .ref s_memory, .ref s_routines, .int 0]))]) (w1 := []) hP hD [3] [0, 1, 2] rfl rfl (by decide) (by decide) hk1 hFc hP1 hD1
  have hP : va_P (dC, dI) vcl [(h0, .inr (5, [.ref e_memory, .ref e_line, .ref e_routines, .ref e_printer, .ref e_variables, .ref e_tree, .ref e_dictionary, .ref e_instruction, .ref e_aside, .ref e_newLocals, .int 1, .int 0, .int 0, .int 0, .int 0])), (e_printer, .inr (4, [.ref p_memory, .ref p_kept, .int 0, .int 0, .int 0])), (e_aside, .inr (10, [.int 0, .ref s_memory, .ref s_routines, .int 0]))] H47 := hP
  have hD : va_D A [(h0, .inr (5, [.ref e_memory, .ref e_line, .ref e_routines, .ref e_printer, .ref e_variables, .ref e_tree, .ref e_dictionary, .ref e_instruction, .ref e_aside, .ref e_newLocals, .int 1, .int 0, .int 0, .int 0, .int 0])), (e_printer, .inr (4, [.ref p_memory, .ref p_kept, .int 0, .int 0, .int 0])), (e_aside, .inr (10, [.int 0, .ref s_memory, .ref s_routines, .int 0]))] := hD
  refine W.widen (k := 0) (n := 0) (Nat.le_of_ble_eq_true rfl) (Nat.le_of_ble_eq_true rfl) ?_
  exact tx_ret (W.vret hx hb hr (fun t ht hW => ⟨rfl, hS.F ht⟩) (hS.2.2) d_En_startAt_50)
set_option maxHeartbeats 4000000 in
set_option maxRecDepth 100000 in
theorem c_SM_begin (l : Launch) (hfl : l.flags = pinnedFlags ++ [noTraceFlag]) (dC : Nat → ClassId) (dI : Nat → Nat → Nat) (cI : ClassId) (h0 q1 q2 q3 q4 q5 q6 e_memory e_line e_routines e_printer e_variables e_tree e_dictionary e_instruction e_aside e_newLocals p_memory p_kept s_memory s_routines r_words r_floors r_behinds r_results r_localCounts r_locals l_typed l_entered : Nat) (sz : Nat) : tx_Met l ⟨"StoryMachine", "begin", "()V"⟩ tw_tbl ({ frames := 8, cells := 0, slots := 0, locals := 160 }) (tq_P (dC, dI) vcl [.ref h0] sz [(h0, .inr (0, [.ref q1, .ref q2, .ref q3, .ref q4, .ref q5])), (q1, .inr (1, [.ref q6])), (q6, .inl (cI, 512, .inl (fun _ => 0))), (q5, .inr (5, [.ref e_memory, .ref e_line, .ref e_routines, .ref e_printer, .ref e_variables, .ref e_tree, .ref e_dictionary, .ref e_instruction, .ref e_aside, .ref e_newLocals, .int 0, .int (-1), .int 0, .int 0, .int 0])), (e_printer, .inr (4, [.ref p_memory, .ref p_kept, .int 0, .int 0, .int 0])), (e_aside, .inr (10, [.int 0, .ref s_memory, .ref s_routines, .int 0])), (e_routines, .inr (3, [.ref r_words, .int 0, .int 0, .ref r_floors, .ref r_behinds, .ref r_results, .ref r_localCounts, .ref r_locals])), (r_floors, .inl (cI, 11, .inl (fun _ => 0))), (r_localCounts, .inl (cI, 11, .inl (fun _ => 0))), (e_line, .inr (2, [.ref l_typed, .int 0, .ref l_entered, .int 0, .int 0]))] [(cI, .int)]) (tq_Q (fun o t => o = .returned none) (va_A [(h0, .inr (0, [.ref q1, .ref q2, .ref q3, .ref q4, .ref q5])), (q1, .inr (1, [.ref q6])), (q6, .inl (cI, 512, .inl (fun _ => 0))), (q5, .inr (5, [.ref e_memory, .ref e_line, .ref e_routines, .ref e_printer, .ref e_variables, .ref e_tree, .ref e_dictionary, .ref e_instruction, .ref e_aside, .ref e_newLocals, .int 0, .int (-1), .int 0, .int 0, .int 0])), (e_printer, .inr (4, [.ref p_memory, .ref p_kept, .int 0, .int 0, .int 0])), (e_aside, .inr (10, [.int 0, .ref s_memory, .ref s_routines, .int 0])), (e_routines, .inr (3, [.ref r_words, .int 0, .int 0, .ref r_floors, .ref r_behinds, .ref r_results, .ref r_localCounts, .ref r_locals])), (r_floors, .inl (cI, 11, .inl (fun _ => 0))), (r_localCounts, .inl (cI, 11, .inl (fun _ => 0))), (e_line, .inr (2, [.ref l_typed, .int 0, .ref l_entered, .int 0, .int 0]))] sz)) 0 0 (va_A [(h0, .inr (0, [.ref q1, .ref q2, .ref q3, .ref q4, .ref q5])), (q1, .inr (1, [.ref q6])), (q6, .inl (cI, 512, .inl (fun _ => 0))), (q5, .inr (5, [.ref e_memory, .ref e_line, .ref e_routines, .ref e_printer, .ref e_variables, .ref e_tree, .ref e_dictionary, .ref e_instruction, .ref e_aside, .ref e_newLocals, .int 0, .int (-1), .int 0, .int 0, .int 0])), (e_printer, .inr (4, [.ref p_memory, .ref p_kept, .int 0, .int 0, .int 0])), (e_aside, .inr (10, [.int 0, .ref s_memory, .ref s_routines, .int 0])), (e_routines, .inr (3, [.ref r_words, .int 0, .int 0, .ref r_floors, .ref r_behinds, .ref r_results, .ref r_localCounts, .ref r_locals])), (r_floors, .inl (cI, 11, .inl (fun _ => 0))), (r_localCounts, .inl (cI, 11, .inl (fun _ => 0))), (e_line, .inr (2, [.ref l_typed, .int 0, .ref l_entered, .int 0, .int 0]))] sz) := by
  refine tx_ofW (cc := prog_1_method_4_code) (maxL := 2) (ret := none) (by decide) (tx_isM mw_436) ?_
  intro p e s m args below meth c s₁ B hml hv
  obtain ⟨rfl, hsz, hP, hK, hD0, hst0⟩ := hv
  have hx := B.exec
  have hb := B.bytes
  have hr := B.returns
  have hts := atoms_spec (ws := tw_tbl) B.pre
  have hown : s.vm.findClass "StoryMachine" = some m.cls := findClass_of_methodNamed B.named
  have hlocks := B.notSynchronized
  subst hsz
  have hD := hD0.self (sz := s.heap.size)
  have hst := fun (H : Heap) (locs : List Loc) (hS : va_S (va_A [(h0, .inr (0, [.ref q1, .ref q2, .ref q3, .ref q4, .ref q5])), (q1, .inr (1, [.ref q6])), (q6, .inl (cI, 512, .inl (fun _ => 0))), (q5, .inr (5, [.ref e_memory, .ref e_line, .ref e_routines, .ref e_printer, .ref e_variables, .ref e_tree, .ref e_dictionary, .ref e_instruction, .ref e_aside, .ref e_newLocals, .int 0, .int (-1), .int 0, .int 0, .int 0])), (e_printer, .inr (4, [.ref p_memory, .ref p_kept, .int 0, .int 0, .int 0])), (e_aside, .inr (10, [.int 0, .ref s_memory, .ref s_routines, .int 0])), (e_routines, .inr (3, [.ref r_words, .int 0, .int 0, .ref r_floors, .ref r_behinds, .ref r_results, .ref r_localCounts, .ref r_locals])), (r_floors, .inl (cI, 11, .inl (fun _ => 0))), (r_localCounts, .inl (cI, 11, .inl (fun _ => 0))), (e_line, .inr (2, [.ref l_typed, .int 0, .ref l_entered, .int 0, .int 0]))] s.heap.size) s.heap H locs) (U : State) (hU : U.heap = H) (hW : s.WarmedH U.vm) => ts_keep hW (fun q cell h1 h2 => by rw [hU]; exact ts_va hP hS q cell h1 h2) hst0
  generalize hAe : va_A [(h0, .inr (0, [.ref q1, .ref q2, .ref q3, .ref q4, .ref q5])), (q1, .inr (1, [.ref q6])), (q6, .inl (cI, 512, .inl (fun _ => 0))), (q5, .inr (5, [.ref e_memory, .ref e_line, .ref e_routines, .ref e_printer, .ref e_variables, .ref e_tree, .ref e_dictionary, .ref e_instruction, .ref e_aside, .ref e_newLocals, .int 0, .int (-1), .int 0, .int 0, .int 0])), (e_printer, .inr (4, [.ref p_memory, .ref p_kept, .int 0, .int 0, .int 0])), (e_aside, .inr (10, [.int 0, .ref s_memory, .ref s_routines, .int 0])), (e_routines, .inr (3, [.ref r_words, .int 0, .int 0, .ref r_floors, .ref r_behinds, .ref r_results, .ref r_localCounts, .ref r_locals])), (r_floors, .inl (cI, 11, .inl (fun _ => 0))), (r_localCounts, .inl (cI, 11, .inl (fun _ => 0))), (e_line, .inr (2, [.ref l_typed, .int 0, .ref l_entered, .int 0, .int 0]))] s.heap.size = A at hD hst ⊢
  have hA : ∀ q : Nat, s.heap.size ≤ q → A q := fun q h => by rw [← hAe]; exact Or.inr h
  have hS : va_S A s.heap s.heap [] := va_S.rf
  have hP : va_P (dC, dI) vcl [(h0, .inr (0, [.ref q1, .ref q2, .ref q3, .ref q4, .ref q5])), (q1, .inr (1, [.ref q6])), (q6, .inl (cI, 512, .inl (fun _ => 0))), (q5, .inr (5, [.ref e_memory, .ref e_line, .ref e_routines, .ref e_printer, .ref e_variables, .ref e_tree, .ref e_dictionary, .ref e_instruction, .ref e_aside, .ref e_newLocals, .int 0, .int (-1), .int 0, .int 0, .int 0])), (e_printer, .inr (4, [.ref p_memory, .ref p_kept, .int 0, .int 0, .int 0])), (e_aside, .inr (10, [.int 0, .ref s_memory, .ref s_routines, .int 0])), (e_routines, .inr (3, [.ref r_words, .int 0, .int 0, .ref r_floors, .ref r_behinds, .ref r_results, .ref r_localCounts, .ref r_locals])), (r_floors, .inl (cI, 11, .inl (fun _ => 0))), (r_localCounts, .inl (cI, 11, .inl (fun _ => 0))), (e_line, .inr (2, [.ref l_typed, .int 0, .ref l_entered, .int 0, .int 0]))] s.heap := hP
  have hl := lv_entry ([.ref h0]) (n := 2) (Nat.le_of_ble_eq_true rfl)
  rw [lg_entry_eq]
  generalize (lg_sl ([.ref h0]) ++ List.replicate (2 - (lg_sl ([.ref h0])).length) Slot.unset).toArray = ls at hl ⊢
  have hl : lv_has ls 2 [(0, .ref h0)] := hl
  refine lv_aload_n hx hb d_SM_begin_0 rfl (lv_at hl 0 rfl) ?_
  refine va_get (D := (dC, dI)) (ci := 0) (v := .ref q1) (C := "StoryMachine") (T := T_SM) (N := 5) hx hb hts in_SM hown hK hP 0 rfl rfl 0 (by decide) (hts _ mw_310) (fun _ h9 => h9) rfl d_SM_begin_1 ?_
  refine lv_iconst (v := 4) hx hb d_SM_begin_4 (by decide) ?_
  have hPc := hP.sub (ws' := [(q1, .inr (1, [.ref q6])), (q6, .inl (cI, 512, .inl (fun _ => 0)))]) [1, 2] rfl
  have hDc := hD.sub (ws' := [(q1, .inr (1, [.ref q6])), (q6, .inl (cI, 512, .inl (fun _ => 0)))]) [1, 2] (by decide) rfl
  have hFc := va_free (wc := [(q1, .inr (1, [.ref q6])), (q6, .inl (cI, 512, .inl (fun _ => 0)))]) hD hS hA [1, 2] rfl
  refine tx_callK (A1 := va_A [(q1, .inr (1, [.ref q6])), (q6, .inl (cI, 512, .inl (fun _ => 0)))] s.heap.size) (tx_runV (C := "StoryMachine$Memory") (As := [.int 4]) (rest := []) ⟨hx, hb, hml, hown, hts⟩ (c_Me_wordAt l hfl dC dI cI q1 q6 s.heap.size) (tx_cb (n := 1) hts rfl rfl ⟨Nat.le_of_ble_eq_true rfl, Nat.le_of_ble_eq_true rfl⟩ (tx_code.of (hts _ mw_440)) (hts _ mw_2) (by decide +kernel) (hts _ mw_437)) (hts _ mw_438) (hts _ mw_439) ⟨tq_blind, ta_recv (q0 := 1) hts in_Me hK hP rfl rfl, fun U hU hW => ⟨rfl, by rw [hU], by rw [hU]; exact hPc, va_K.moved hW.alike hK, hDc.weaken (fun _ _ _ _ => trivial), hst _ _ hS U hU hW⟩⟩ rfl rfl hl.1 rfl (lv_room (Nat.le_of_ble_eq_true rfl)) d_SM_begin_5 ⟨Nat.le_of_ble_eq_true rfl, Nat.le_of_ble_eq_true rfl⟩) hS (fun q _ h => hFc q h) hFc (fun v t H5 locs ht hWt hpost hz1 hk1 hS => ?_) (fun x t H1 locs ht hWt hpost hz1 hk1 hS => by cases hpost)
  cases hpost
  have hP1 := ta_nilP (D := (dC, dI)) (cl := vcl) (H := t.heap)
  have hD1 := ta_nilD (A := va_A [(q1, .inr (1, [.ref q6])), (q6, .inl (cI, 512, .inl (fun _ => 0)))] s.heap.size)
  rw [ht] at hP1
  obtain ⟨hP, hD⟩ := va_join (wr := [(h0, .inr (0, [.ref q1, .ref q2, .ref q3, .ref q4, .ref q5])), (q5, .inr (5, [.ref e_memory, .ref e_line, .ref e_routines, .ref e_printer, .ref e_variables, .ref e_tree, .ref e_dictionary, .ref e_instruction, .ref e_aside, .ref e_newLocals, .int 0, .int (-1), .int 0, .int 0, .int 0])), (e_printer, .inr (4, [.ref p_memory, .ref p_kept, .int 0, .int 0, .int 0])), (e_aside, .inr (10, [.int 0, .ref s_memory, .ref s_routines, .int 0])), (e_routines, .inr (3, [.ref r_words, .int 0, .int 0, .ref r_floors, .ref r_behinds, .ref r_results, .ref r_localCounts, .ref r_locals])), (r_floors, .inl (cI, 11, .inl (fun _ => 0))), (r_localCounts, .inl (cI, 11, .inl (fun _ => 0))), (e_line, .inr (2, [.ref l_typed, .int 0, .ref l_entered, .int 0, .int 0]))]) (w1 := []) hP hD [1, 2] [0, 3, 4, 5, 6, 7, 8, 9] rfl rfl (by decide) (by decide) hk1 hFc hP1 hD1
  have hP : va_P (dC, dI) vcl [(h0, .inr (0, [.ref q1, .ref q2, .ref q3, .ref q4, .ref q5])), (q5, .inr (5, [.ref e_memory, .ref e_line, .ref e_routines, .ref e_printer, .ref e_variables, .ref e_tree, .ref e_dictionary, .ref e_instruction, .ref e_aside, .ref e_newLocals, .int 0, .int (-1), .int 0, .int 0, .int 0])), (e_printer, .inr (4, [.ref p_memory, .ref p_kept, .int 0, .int 0, .int 0])), (e_aside, .inr (10, [.int 0, .ref s_memory, .ref s_routines, .int 0])), (e_routines, .inr (3, [.ref r_words, .int 0, .int 0, .ref r_floors, .ref r_behinds, .ref r_results, .ref r_localCounts, .ref r_locals])), (r_floors, .inl (cI, 11, .inl (fun _ => 0))), (r_localCounts, .inl (cI, 11, .inl (fun _ => 0))), (e_line, .inr (2, [.ref l_typed, .int 0, .ref l_entered, .int 0, .int 0]))] H5 := hP
  have hD : va_D A [(h0, .inr (0, [.ref q1, .ref q2, .ref q3, .ref q4, .ref q5])), (q5, .inr (5, [.ref e_memory, .ref e_line, .ref e_routines, .ref e_printer, .ref e_variables, .ref e_tree, .ref e_dictionary, .ref e_instruction, .ref e_aside, .ref e_newLocals, .int 0, .int (-1), .int 0, .int 0, .int 0])), (e_printer, .inr (4, [.ref p_memory, .ref p_kept, .int 0, .int 0, .int 0])), (e_aside, .inr (10, [.int 0, .ref s_memory, .ref s_routines, .int 0])), (e_routines, .inr (3, [.ref r_words, .int 0, .int 0, .ref r_floors, .ref r_behinds, .ref r_results, .ref r_localCounts, .ref r_locals])), (r_floors, .inl (cI, 11, .inl (fun _ => 0))), (r_localCounts, .inl (cI, 11, .inl (fun _ => 0))), (e_line, .inr (2, [.ref l_typed, .int 0, .ref l_entered, .int 0, .int 0]))] := hD
  refine lv_istore_n (lv' := [(1, .int 0), (0, .ref h0)]) hx hb d_SM_begin_8 rfl hl (by decide) rfl (fun ls hl => ?_)
  refine lv_iload_n hx hb d_SM_begin_9 rfl (lv_at hl 0 rfl) ?_
  refine lv_sipush (v := 512) hx hb d_SM_begin_10 (by decide) ?_
  refine lv_icmp_lt (tgt := 24) hx hb d_SM_begin_13 (by decide) (fun _ => ?_) (fun h => absurd h (by decide))
  refine lv_aload_n hx hb d_SM_begin_24 rfl (lv_at hl 1 rfl) ?_
  refine va_get (D := (dC, dI)) (ci := 0) (v := .ref q5) (C := "StoryMachine") (T := T_SM) (N := 5) hx hb hts in_SM hown hK hP 0 rfl rfl 4 (by decide) (hts _ mw_314) (fun _ h9 => h9) rfl d_SM_begin_25 ?_
  refine lv_iload_n hx hb d_SM_begin_28 rfl (lv_at hl 0 rfl) ?_
  have hPc := hP.sub (ws' := [(q5, .inr (5, [.ref e_memory, .ref e_line, .ref e_routines, .ref e_printer, .ref e_variables, .ref e_tree, .ref e_dictionary, .ref e_instruction, .ref e_aside, .ref e_newLocals, .int 0, .int (-1), .int 0, .int 0, .int 0])), (e_printer, .inr (4, [.ref p_memory, .ref p_kept, .int 0, .int 0, .int 0])), (e_aside, .inr (10, [.int 0, .ref s_memory, .ref s_routines, .int 0])), (e_routines, .inr (3, [.ref r_words, .int 0, .int 0, .ref r_floors, .ref r_behinds, .ref r_results, .ref r_localCounts, .ref r_locals])), (r_floors, .inl (cI, 11, .inl (fun _ => 0))), (r_localCounts, .inl (cI, 11, .inl (fun _ => 0))), (e_line, .inr (2, [.ref l_typed, .int 0, .ref l_entered, .int 0, .int 0]))]) [1, 2, 3, 4, 5, 6, 7] rfl
  have hDc := hD.sub (ws' := [(q5, .inr (5, [.ref e_memory, .ref e_line, .ref e_routines, .ref e_printer, .ref e_variables, .ref e_tree, .ref e_dictionary, .ref e_instruction, .ref e_aside, .ref e_newLocals, .int 0, .int (-1), .int 0, .int 0, .int 0])), (e_printer, .inr (4, [.ref p_memory, .ref p_kept, .int 0, .int 0, .int 0])), (e_aside, .inr (10, [.int 0, .ref s_memory, .ref s_routines, .int 0])), (e_routines, .inr (3, [.ref r_words, .int 0, .int 0, .ref r_floors, .ref r_behinds, .ref r_results, .ref r_localCounts, .ref r_locals])), (r_floors, .inl (cI, 11, .inl (fun _ => 0))), (r_localCounts, .inl (cI, 11, .inl (fun _ => 0))), (e_line, .inr (2, [.ref l_typed, .int 0, .ref l_entered, .int 0, .int 0]))]) [1, 2, 3, 4, 5, 6, 7] (by decide) rfl
  have hFc := va_free (wc := [(q5, .inr (5, [.ref e_memory, .ref e_line, .ref e_routines, .ref e_printer, .ref e_variables, .ref e_tree, .ref e_dictionary, .ref e_instruction, .ref e_aside, .ref e_newLocals, .int 0, .int (-1), .int 0, .int 0, .int 0])), (e_printer, .inr (4, [.ref p_memory, .ref p_kept, .int 0, .int 0, .int 0])), (e_aside, .inr (10, [.int 0, .ref s_memory, .ref s_routines, .int 0])), (e_routines, .inr (3, [.ref r_words, .int 0, .int 0, .ref r_floors, .ref r_behinds, .ref r_results, .ref r_localCounts, .ref r_locals])), (r_floors, .inl (cI, 11, .inl (fun _ => 0))), (r_localCounts, .inl (cI, 11, .inl (fun _ => 0))), (e_line, .inr (2, [.ref l_typed, .int 0, .ref l_entered, .int 0, .int 0]))]) hD hS hA [1, 2, 3, 4, 5, 6, 7] rfl
  refine tx_callK (A1 := va_A [(q5, .inr (5, [.ref e_memory, .ref e_line, .ref e_routines, .ref e_printer, .ref e_variables, .ref e_tree, .ref e_dictionary, .ref e_instruction, .ref e_aside, .ref e_newLocals, .int 0, .int (-1), .int 0, .int 0, .int 0])), (e_printer, .inr (4, [.ref p_memory, .ref p_kept, .int 0, .int 0, .int 0])), (e_aside, .inr (10, [.int 0, .ref s_memory, .ref s_routines, .int 0])), (e_routines, .inr (3, [.ref r_words, .int 0, .int 0, .ref r_floors, .ref r_behinds, .ref r_results, .ref r_localCounts, .ref r_locals])), (r_floors, .inl (cI, 11, .inl (fun _ => 0))), (r_localCounts, .inl (cI, 11, .inl (fun _ => 0))), (e_line, .inr (2, [.ref l_typed, .int 0, .ref l_entered, .int 0, .int 0]))] H5.size) (tx_runV (C := "StoryMachine$Engine") (As := [.int 0]) (rest := []) ⟨hx, hb, hml, hown, hts⟩ (c_En_startAt l hfl dC dI cI q5 e_memory e_line e_routines e_printer e_variables e_tree e_dictionary e_instruction e_aside e_newLocals p_memory p_kept s_memory s_routines r_words r_floors r_behinds r_results r_localCounts r_locals l_typed l_entered H5.size) (tx_cb (n := 1) hts rfl rfl ⟨Nat.le_of_ble_eq_true rfl, Nat.le_of_ble_eq_true rfl⟩ (tx_code.of (hts _ mw_461)) (hts _ mw_6) (by decide +kernel) (hts _ mw_458)) (hts _ mw_459) (hts _ mw_460) ⟨tq_blind, ta_recv (q0 := 1) hts in_En hK hP rfl rfl, fun U hU hW => ⟨rfl, by rw [hU], by rw [hU]; exact hPc, va_K.moved hW.alike hK, hDc.weaken (fun _ _ _ _ => trivial), hst _ _ hS U hU hW⟩⟩ rfl rfl hl.1 rfl (lv_room (Nat.le_of_ble_eq_true rfl)) d_SM_begin_29 ⟨Nat.le_of_ble_eq_true rfl, Nat.le_of_ble_eq_true rfl⟩) hS (fun q _ h => hFc q h) hFc (fun v t H29 locs ht hWt hpost hz1 hk1 hS => ?_) (fun x t H1 locs ht hWt hpost hz1 hk1 hS => by cases hpost)
  cases hpost
  have hP1 := ta_nilP (D := (dC, dI)) (cl := vcl) (H := t.heap)
  have hD1 := ta_nilD (A := va_A [(q5, .inr (5, [.ref e_memory, .ref e_line, .ref e_routines, .ref e_printer, .ref e_variables, .ref e_tree, .ref e_dictionary, .ref e_instruction, .ref e_aside, .ref e_newLocals, .int 0, .int (-1), .int 0, .int 0, .int 0])), (e_printer, .inr (4, [.ref p_memory, .ref p_kept, .int 0, .int 0, .int 0])), (e_aside, .inr (10, [.int 0, .ref s_memory, .ref s_routines, .int 0])), (e_routines, .inr (3, [.ref r_words, .int 0, .int 0, .ref r_floors, .ref r_behinds, .ref r_results, .ref r_localCounts, .ref r_locals])), (r_floors, .inl (cI, 11, .inl (fun _ => 0))), (r_localCounts, .inl (cI, 11, .inl (fun _ => 0))), (e_line, .inr (2, [.ref l_typed, .int 0, .ref l_entered, .int 0, .int 0]))] H5.size)
  rw [ht] at hP1
  obtain ⟨hP, hD⟩ := va_join (wr := [(h0, .inr (0, [.ref q1, .ref q2, .ref q3, .ref q4, .ref q5]))]) (w1 := []) hP hD [1, 2, 3, 4, 5, 6, 7] [0] rfl rfl (by decide) (by decide) hk1 hFc hP1 hD1
  have hP : va_P (dC, dI) vcl [(h0, .inr (0, [.ref q1, .ref q2, .ref q3, .ref q4, .ref q5]))] H29 := hP
  have hD : va_D A [(h0, .inr (0, [.ref q1, .ref q2, .ref q3, .ref q4, .ref q5]))] := hD
  refine W.widen (k := 0) (n := 0) (Nat.le_of_ble_eq_true rfl) (Nat.le_of_ble_eq_true rfl) ?_
  exact tx_ret (W.vret hx hb hr (fun t ht hW => ⟨rfl, hS.F ht⟩) (hS.2.2) d_SM_begin_32)
end
section
/-! Contracts; written by wip/tools/p1.py. -/
set_option maxHeartbeats 4000000 in
set_option maxRecDepth 100000 in
theorem c_SM_run (l : Launch) (hfl : l.flags = pinnedFlags ++ [noTraceFlag]) (dC : Nat → ClassId) (dI : Nat → Nat → Nat) (cI : ClassId) (h0 q1 q2 q3 q4 q5 e_memory e_line e_routines e_printer e_variables e_tree e_dictionary e_instruction e_aside e_newLocals : Nat) (p0 : Int32) (sz : Nat) : tx_Met l ⟨"StoryMachine", "run", "(I)I"⟩ tw_tbl ({ frames := 7, cells := 1, slots := 6, locals := 130 }) (tq_P (dC, dI) vcl [.ref h0, .int p0] sz [(h0, .inr (0, [.ref q1, .ref q2, .ref q3, .ref q4, .ref q5])), (q5, .inr (5, [.ref e_memory, .ref e_line, .ref e_routines, .ref e_printer, .ref e_variables, .ref e_tree, .ref e_dictionary, .ref e_instruction, .ref e_aside, .ref e_newLocals, .int 0, .int (-1), .int 0, .int 0, .int 0]))] [(cI, .int)]) (tq_Q (fun o t => ((p0 < 1 ∨ 300 < p0) → ∃ x, o = .threw x ∧ ta_Ex "java/lang/IllegalArgumentException" x t) ∧ (¬ (p0 < 1 ∨ 300 < p0) → ∃ x, o = .threw x ∧ ta_Ex "java/lang/IllegalStateException" x t)) (va_A [(h0, .inr (0, [.ref q1, .ref q2, .ref q3, .ref q4, .ref q5])), (q5, .inr (5, [.ref e_memory, .ref e_line, .ref e_routines, .ref e_printer, .ref e_variables, .ref e_tree, .ref e_dictionary, .ref e_instruction, .ref e_aside, .ref e_newLocals, .int 0, .int (-1), .int 0, .int 0, .int 0]))] sz)) 1 6 (va_A [(h0, .inr (0, [.ref q1, .ref q2, .ref q3, .ref q4, .ref q5])), (q5, .inr (5, [.ref e_memory, .ref e_line, .ref e_routines, .ref e_printer, .ref e_variables, .ref e_tree, .ref e_dictionary, .ref e_instruction, .ref e_aside, .ref e_newLocals, .int 0, .int (-1), .int 0, .int 0, .int 0]))] sz) := by
  refine tx_ofW (cc := prog_1_method_7_code) (maxL := 4) (ret := (some .int)) (by decide) (tx_isM mw_487) ?_
  intro p e s m args below meth c s₁ B hml hv
  obtain ⟨rfl, hsz, hP, hK, hD0, hst0⟩ := hv
  have hx := B.exec
  have hb := B.bytes
  have hr := B.returns
  have hts := atoms_spec (ws := tw_tbl) B.pre
  have hown : s.vm.findClass "StoryMachine" = some m.cls := findClass_of_methodNamed B.named
  have hlocks := B.notSynchronized
  subst hsz
  have hD := hD0.self (sz := s.heap.size)
  have hst := fun (H : Heap) (locs : List Loc) (hS : va_S (va_A [(h0, .inr (0, [.ref q1, .ref q2, .ref q3, .ref q4, .ref q5])), (q5, .inr (5, [.ref e_memory, .ref e_line, .ref e_routines, .ref e_printer, .ref e_variables, .ref e_tree, .ref e_dictionary, .ref e_instruction, .ref e_aside, .ref e_newLocals, .int 0, .int (-1), .int 0, .int 0, .int 0]))] s.heap.size) s.heap H locs) (U : State) (hU : U.heap = H) (hW : s.WarmedH U.vm) => ts_keep hW (fun q cell h1 h2 => by rw [hU]; exact ts_va hP hS q cell h1 h2) hst0
  generalize hAe : va_A [(h0, .inr (0, [.ref q1, .ref q2, .ref q3, .ref q4, .ref q5])), (q5, .inr (5, [.ref e_memory, .ref e_line, .ref e_routines, .ref e_printer, .ref e_variables, .ref e_tree, .ref e_dictionary, .ref e_instruction, .ref e_aside, .ref e_newLocals, .int 0, .int (-1), .int 0, .int 0, .int 0]))] s.heap.size = A at hD hst ⊢
  have hA : ∀ q : Nat, s.heap.size ≤ q → A q := fun q h => by rw [← hAe]; exact Or.inr h
  have hS : va_S A s.heap s.heap [] := va_S.rf
  have hP : va_P (dC, dI) vcl [(h0, .inr (0, [.ref q1, .ref q2, .ref q3, .ref q4, .ref q5])), (q5, .inr (5, [.ref e_memory, .ref e_line, .ref e_routines, .ref e_printer, .ref e_variables, .ref e_tree, .ref e_dictionary, .ref e_instruction, .ref e_aside, .ref e_newLocals, .int 0, .int (-1), .int 0, .int 0, .int 0]))] s.heap := hP
  have hl := lv_entry ([.ref h0, .int p0]) (n := 4) (Nat.le_of_ble_eq_true rfl)
  rw [lg_entry_eq]
  generalize (lg_sl ([.ref h0, .int p0]) ++ List.replicate (4 - (lg_sl ([.ref h0, .int p0])).length) Slot.unset).toArray = ls at hl ⊢
  have hl : lv_has ls 4 [(0, .ref h0), (1, .int p0)] := hl
  refine lv_iload_n hx hb d_SM_run_0 rfl (lv_at hl 1 rfl) ?_
  refine lv_iconst (v := 1) hx hb d_SM_run_1 (by decide) ?_
  refine lv_icmp_lt (tgt := 12) hx hb d_SM_run_2 (by decide) (fun hc2 => ?_) (fun hc2 => ?_)
  · refine W.widen (k := 0) (n := 0) (Nat.le_of_ble_eq_true rfl) (Nat.le_of_ble_eq_true rfl) ?_
    exact tth_SM_IllegalArgumentException hx hb hfl hown hts (hst _ _ hS) (by rw [hml]; exact hl.1) d_SM_run_12 d_SM_run_15 d_SM_run_16 d_SM_run_19 (tx_noH B (hts _ mw_487) _) (Nat.le_of_ble_eq_true rfl) (Nat.le_of_ble_eq_true rfl) (Nat.le_of_ble_eq_true rfl) (Nat.le_of_ble_eq_true rfl) (fun t ce hW hz hk hce hcl hvm => ⟨⟨fun _ => ⟨_, rfl, ce, hce, hcl, hvm⟩, fun h => absurd (Or.inl hc2) h⟩, ta_thrown hS hz hk⟩) hS.2.2 hlocks
  · refine lv_iload_n hx hb d_SM_run_5 rfl (lv_at hl 1 rfl) ?_
    refine lv_sipush (v := 300) hx hb d_SM_run_6 (by decide) ?_
    refine lv_icmp_le (tgt := 20) hx hb d_SM_run_9 (by decide) (fun hc9 => ?_) (fun hc9 => ?_)
    · refine lv_aload_n hx hb d_SM_run_20 rfl (lv_at hl 0 rfl) ?_
      refine va_get (D := (dC, dI)) (ci := 0) (v := .ref q5) (C := "StoryMachine") (T := T_SM) (N := 5) hx hb hts in_SM hown hK hP 0 rfl rfl 4 (by decide) (hts _ mw_314) (fun _ h9 => h9) rfl d_SM_run_21 ?_
      refine va_get (D := (dC, dI)) (ci := 5) (v := .int 0) (C := "StoryMachine$Engine") (T := T_En) (N := 15) hx hb hts in_En hown hK hP 1 rfl rfl 10 (by decide) (hts _ mw_272) (fun _ h9 => h9) rfl d_SM_run_24 ?_
      refine lv_if_ne (tgt := 38) hx hb d_SM_run_27 (by decide) (fun h => absurd h (by decide)) (fun _ => ?_)
      refine W.widen (k := 0) (n := 0) (Nat.le_of_ble_eq_true rfl) (Nat.le_of_ble_eq_true rfl) ?_
      exact tth_SM_IllegalStateException hx hb hfl hown hts (hst _ _ hS) (by rw [hml]; exact hl.1) d_SM_run_30 d_SM_run_33 d_SM_run_34 d_SM_run_37 (tx_noH B (hts _ mw_487) _) (Nat.le_of_ble_eq_true rfl) (Nat.le_of_ble_eq_true rfl) (Nat.le_of_ble_eq_true rfl) (Nat.le_of_ble_eq_true rfl) (fun t ce hW hz hk hce hcl hvm => ⟨⟨fun h => absurd h (fun h => h.elim hc2 (fun h => (Int32.not_lt.mpr hc9) h)), fun _ => ⟨_, rfl, ce, hce, hcl, hvm⟩⟩, ta_thrown hS hz hk⟩) hS.2.2 hlocks
    · refine W.widen (k := 0) (n := 0) (Nat.le_of_ble_eq_true rfl) (Nat.le_of_ble_eq_true rfl) ?_
      exact tth_SM_IllegalArgumentException hx hb hfl hown hts (hst _ _ hS) (by rw [hml]; exact hl.1) d_SM_run_12 d_SM_run_15 d_SM_run_16 d_SM_run_19 (tx_noH B (hts _ mw_487) _) (Nat.le_of_ble_eq_true rfl) (Nat.le_of_ble_eq_true rfl) (Nat.le_of_ble_eq_true rfl) (Nat.le_of_ble_eq_true rfl) (fun t ce hW hz hk hce hcl hvm => ⟨⟨fun _ => ⟨_, rfl, ce, hce, hcl, hvm⟩, fun h => absurd (Or.inr ((Int32.not_le.mp hc9))) h⟩, ta_thrown hS hz hk⟩) hS.2.2 hlocks
set_option maxHeartbeats 4000000 in
set_option maxRecDepth 100000 in
theorem c_SM_steps (l : Launch) (hfl : l.flags = pinnedFlags ++ [noTraceFlag]) (dC : Nat → ClassId) (dI : Nat → Nat → Nat) (cI : ClassId) (h0 q1 q2 q3 q4 q5 e_memory e_line e_routines e_printer e_variables e_tree e_dictionary e_instruction e_aside e_newLocals : Nat) (sz : Nat) : tx_Met l ⟨"StoryMachine", "steps", "()I"⟩ tw_tbl ({ frames := 0, cells := 0, slots := 0, locals := 0 }) (tq_P (dC, dI) vcl [.ref h0] sz [(h0, .inr (0, [.ref q1, .ref q2, .ref q3, .ref q4, .ref q5])), (q5, .inr (5, [.ref e_memory, .ref e_line, .ref e_routines, .ref e_printer, .ref e_variables, .ref e_tree, .ref e_dictionary, .ref e_instruction, .ref e_aside, .ref e_newLocals, .int 0, .int (-1), .int 0, .int 0, .int 0]))] [(cI, .int)]) (tq_Q (fun o t => o = .returned (some (.int 0))) (va_A [(h0, .inr (0, [.ref q1, .ref q2, .ref q3, .ref q4, .ref q5])), (q5, .inr (5, [.ref e_memory, .ref e_line, .ref e_routines, .ref e_printer, .ref e_variables, .ref e_tree, .ref e_dictionary, .ref e_instruction, .ref e_aside, .ref e_newLocals, .int 0, .int (-1), .int 0, .int 0, .int 0]))] sz)) 0 0 (va_A [(h0, .inr (0, [.ref q1, .ref q2, .ref q3, .ref q4, .ref q5])), (q5, .inr (5, [.ref e_memory, .ref e_line, .ref e_routines, .ref e_printer, .ref e_variables, .ref e_tree, .ref e_dictionary, .ref e_instruction, .ref e_aside, .ref e_newLocals, .int 0, .int (-1), .int 0, .int 0, .int 0]))] sz) := by
  refine tx_ofW (cc := prog_1_method_8_code) (maxL := 1) (ret := (some .int)) (by decide) (tx_isM mw_337) ?_
  intro p e s m args below meth c s₁ B hml hv
  obtain ⟨rfl, hsz, hP, hK, hD0, hst0⟩ := hv
  have hx := B.exec
  have hb := B.bytes
  have hr := B.returns
  have hts := atoms_spec (ws := tw_tbl) B.pre
  have hown : s.vm.findClass "StoryMachine" = some m.cls := findClass_of_methodNamed B.named
  have hlocks := B.notSynchronized
  subst hsz
  have hD := hD0.self (sz := s.heap.size)
  have hst := fun (H : Heap) (locs : List Loc) (hS : va_S (va_A [(h0, .inr (0, [.ref q1, .ref q2, .ref q3, .ref q4, .ref q5])), (q5, .inr (5, [.ref e_memory, .ref e_line, .ref e_routines, .ref e_printer, .ref e_variables, .ref e_tree, .ref e_dictionary, .ref e_instruction, .ref e_aside, .ref e_newLocals, .int 0, .int (-1), .int 0, .int 0, .int 0]))] s.heap.size) s.heap H locs) (U : State) (hU : U.heap = H) (hW : s.WarmedH U.vm) => ts_keep hW (fun q cell h1 h2 => by rw [hU]; exact ts_va hP hS q cell h1 h2) hst0
  generalize hAe : va_A [(h0, .inr (0, [.ref q1, .ref q2, .ref q3, .ref q4, .ref q5])), (q5, .inr (5, [.ref e_memory, .ref e_line, .ref e_routines, .ref e_printer, .ref e_variables, .ref e_tree, .ref e_dictionary, .ref e_instruction, .ref e_aside, .ref e_newLocals, .int 0, .int (-1), .int 0, .int 0, .int 0]))] s.heap.size = A at hD hst ⊢
  have hA : ∀ q : Nat, s.heap.size ≤ q → A q := fun q h => by rw [← hAe]; exact Or.inr h
  have hS : va_S A s.heap s.heap [] := va_S.rf
  have hP : va_P (dC, dI) vcl [(h0, .inr (0, [.ref q1, .ref q2, .ref q3, .ref q4, .ref q5])), (q5, .inr (5, [.ref e_memory, .ref e_line, .ref e_routines, .ref e_printer, .ref e_variables, .ref e_tree, .ref e_dictionary, .ref e_instruction, .ref e_aside, .ref e_newLocals, .int 0, .int (-1), .int 0, .int 0, .int 0]))] s.heap := hP
  have hl := lv_entry ([.ref h0]) (n := 1) (Nat.le_of_ble_eq_true rfl)
  rw [lg_entry_eq]
  generalize (lg_sl ([.ref h0]) ++ List.replicate (1 - (lg_sl ([.ref h0])).length) Slot.unset).toArray = ls at hl ⊢
  have hl : lv_has ls 1 [(0, .ref h0)] := hl
  refine lv_aload_n hx hb d_SM_steps_0 rfl (lv_at hl 0 rfl) ?_
  refine va_get (D := (dC, dI)) (ci := 0) (v := .ref q5) (C := "StoryMachine") (T := T_SM) (N := 5) hx hb hts in_SM hown hK hP 0 rfl rfl 4 (by decide) (hts _ mw_314) (fun _ h9 => h9) rfl d_SM_steps_1 ?_
  refine va_get (D := (dC, dI)) (ci := 5) (v := .int 0) (C := "StoryMachine$Engine") (T := T_En) (N := 15) hx hb hts in_En hown hK hP 1 rfl rfl 12 (by decide) (hts _ mw_276) (fun _ h9 => h9) rfl d_SM_steps_4 ?_
  refine W.widen (k := 0) (n := 0) (Nat.le_of_ble_eq_true rfl) (Nat.le_of_ble_eq_true rfl) ?_
  exact tx_ret (W.iret (v := 0) hx hb hr (fun t ht hW => ⟨rfl, hS.F ht⟩) (hS.2.2) d_SM_steps_7)
set_option maxHeartbeats 4000000 in
set_option maxRecDepth 100000 in
theorem c_SM_place (l : Launch) (hfl : l.flags = pinnedFlags ++ [noTraceFlag]) (dC : Nat → ClassId) (dI : Nat → Nat → Nat) (cI : ClassId) (h0 q1 q2 q3 q4 q5 e_memory e_line e_routines e_printer e_variables e_tree e_dictionary e_instruction e_aside e_newLocals : Nat) (sz : Nat) : tx_Met l ⟨"StoryMachine", "place", "()I"⟩ tw_tbl ({ frames := 0, cells := 0, slots := 0, locals := 0 }) (tq_P (dC, dI) vcl [.ref h0] sz [(h0, .inr (0, [.ref q1, .ref q2, .ref q3, .ref q4, .ref q5])), (q5, .inr (5, [.ref e_memory, .ref e_line, .ref e_routines, .ref e_printer, .ref e_variables, .ref e_tree, .ref e_dictionary, .ref e_instruction, .ref e_aside, .ref e_newLocals, .int 0, .int (-1), .int 0, .int 0, .int 0]))] [(cI, .int)]) (tq_Q (fun o t => o = .returned (some (.int (-1)))) (va_A [(h0, .inr (0, [.ref q1, .ref q2, .ref q3, .ref q4, .ref q5])), (q5, .inr (5, [.ref e_memory, .ref e_line, .ref e_routines, .ref e_printer, .ref e_variables, .ref e_tree, .ref e_dictionary, .ref e_instruction, .ref e_aside, .ref e_newLocals, .int 0, .int (-1), .int 0, .int 0, .int 0]))] sz)) 0 0 (va_A [(h0, .inr (0, [.ref q1, .ref q2, .ref q3, .ref q4, .ref q5])), (q5, .inr (5, [.ref e_memory, .ref e_line, .ref e_routines, .ref e_printer, .ref e_variables, .ref e_tree, .ref e_dictionary, .ref e_instruction, .ref e_aside, .ref e_newLocals, .int 0, .int (-1), .int 0, .int 0, .int 0]))] sz) := by
  refine tx_ofW (cc := prog_1_method_9_code) (maxL := 1) (ret := (some .int)) (by decide) (tx_isM mw_341) ?_
  intro p e s m args below meth c s₁ B hml hv
  obtain ⟨rfl, hsz, hP, hK, hD0, hst0⟩ := hv
  have hx := B.exec
  have hb := B.bytes
  have hr := B.returns
  have hts := atoms_spec (ws := tw_tbl) B.pre
  have hown : s.vm.findClass "StoryMachine" = some m.cls := findClass_of_methodNamed B.named
  have hlocks := B.notSynchronized
  subst hsz
  have hD := hD0.self (sz := s.heap.size)
  have hst := fun (H : Heap) (locs : List Loc) (hS : va_S (va_A [(h0, .inr (0, [.ref q1, .ref q2, .ref q3, .ref q4, .ref q5])), (q5, .inr (5, [.ref e_memory, .ref e_line, .ref e_routines, .ref e_printer, .ref e_variables, .ref e_tree, .ref e_dictionary, .ref e_instruction, .ref e_aside, .ref e_newLocals, .int 0, .int (-1), .int 0, .int 0, .int 0]))] s.heap.size) s.heap H locs) (U : State) (hU : U.heap = H) (hW : s.WarmedH U.vm) => ts_keep hW (fun q cell h1 h2 => by rw [hU]; exact ts_va hP hS q cell h1 h2) hst0
  generalize hAe : va_A [(h0, .inr (0, [.ref q1, .ref q2, .ref q3, .ref q4, .ref q5])), (q5, .inr (5, [.ref e_memory, .ref e_line, .ref e_routines, .ref e_printer, .ref e_variables, .ref e_tree, .ref e_dictionary, .ref e_instruction, .ref e_aside, .ref e_newLocals, .int 0, .int (-1), .int 0, .int 0, .int 0]))] s.heap.size = A at hD hst ⊢
  have hA : ∀ q : Nat, s.heap.size ≤ q → A q := fun q h => by rw [← hAe]; exact Or.inr h
  have hS : va_S A s.heap s.heap [] := va_S.rf
  have hP : va_P (dC, dI) vcl [(h0, .inr (0, [.ref q1, .ref q2, .ref q3, .ref q4, .ref q5])), (q5, .inr (5, [.ref e_memory, .ref e_line, .ref e_routines, .ref e_printer, .ref e_variables, .ref e_tree, .ref e_dictionary, .ref e_instruction, .ref e_aside, .ref e_newLocals, .int 0, .int (-1), .int 0, .int 0, .int 0]))] s.heap := hP
  have hl := lv_entry ([.ref h0]) (n := 1) (Nat.le_of_ble_eq_true rfl)
  rw [lg_entry_eq]
  generalize (lg_sl ([.ref h0]) ++ List.replicate (1 - (lg_sl ([.ref h0])).length) Slot.unset).toArray = ls at hl ⊢
  have hl : lv_has ls 1 [(0, .ref h0)] := hl
  refine lv_aload_n hx hb d_SM_place_0 rfl (lv_at hl 0 rfl) ?_
  refine va_get (D := (dC, dI)) (ci := 0) (v := .ref q5) (C := "StoryMachine") (T := T_SM) (N := 5) hx hb hts in_SM hown hK hP 0 rfl rfl 4 (by decide) (hts _ mw_314) (fun _ h9 => h9) rfl d_SM_place_1 ?_
  refine va_get (D := (dC, dI)) (ci := 5) (v := .int (-1)) (C := "StoryMachine$Engine") (T := T_En) (N := 15) hx hb hts in_En hown hK hP 1 rfl rfl 11 (by decide) (hts _ mw_274) (fun _ h9 => h9) rfl d_SM_place_4 ?_
  refine W.widen (k := 0) (n := 0) (Nat.le_of_ble_eq_true rfl) (Nat.le_of_ble_eq_true rfl) ?_
  exact tx_ret (W.iret (v := (-1)) hx hb hr (fun t ht hW => ⟨rfl, hS.F ht⟩) (hS.2.2) d_SM_place_7)
set_option maxHeartbeats 4000000 in
set_option maxRecDepth 100000 in
theorem c_SM_routines (l : Launch) (hfl : l.flags = pinnedFlags ++ [noTraceFlag]) (dC : Nat → ClassId) (dI : Nat → Nat → Nat) (cI : ClassId) (h0 q1 q2 q3 q4 q5 r_words r_floors r_behinds r_results r_localCounts r_locals : Nat) (sz : Nat) : tx_Met l ⟨"StoryMachine", "routines", "()I"⟩ tw_tbl ({ frames := 0, cells := 0, slots := 0, locals := 0 }) (tq_P (dC, dI) vcl [.ref h0] sz [(h0, .inr (0, [.ref q1, .ref q2, .ref q3, .ref q4, .ref q5])), (q3, .inr (3, [.ref r_words, .int 0, .int 0, .ref r_floors, .ref r_behinds, .ref r_results, .ref r_localCounts, .ref r_locals]))] [(cI, .int)]) (tq_Q (fun o t => o = .returned (some (.int 0))) (va_A [(h0, .inr (0, [.ref q1, .ref q2, .ref q3, .ref q4, .ref q5])), (q3, .inr (3, [.ref r_words, .int 0, .int 0, .ref r_floors, .ref r_behinds, .ref r_results, .ref r_localCounts, .ref r_locals]))] sz)) 0 0 (va_A [(h0, .inr (0, [.ref q1, .ref q2, .ref q3, .ref q4, .ref q5])), (q3, .inr (3, [.ref r_words, .int 0, .int 0, .ref r_floors, .ref r_behinds, .ref r_results, .ref r_localCounts, .ref r_locals]))] sz) := by
  refine tx_ofW (cc := prog_1_method_13_code) (maxL := 1) (ret := (some .int)) (by decide) (tx_isM mw_345) ?_
  intro p e s m args below meth c s₁ B hml hv
  obtain ⟨rfl, hsz, hP, hK, hD0, hst0⟩ := hv
  have hx := B.exec
  have hb := B.bytes
  have hr := B.returns
  have hts := atoms_spec (ws := tw_tbl) B.pre
  have hown : s.vm.findClass "StoryMachine" = some m.cls := findClass_of_methodNamed B.named
  have hlocks := B.notSynchronized
  subst hsz
  have hD := hD0.self (sz := s.heap.size)
  have hst := fun (H : Heap) (locs : List Loc) (hS : va_S (va_A [(h0, .inr (0, [.ref q1, .ref q2, .ref q3, .ref q4, .ref q5])), (q3, .inr (3, [.ref r_words, .int 0, .int 0, .ref r_floors, .ref r_behinds, .ref r_results, .ref r_localCounts, .ref r_locals]))] s.heap.size) s.heap H locs) (U : State) (hU : U.heap = H) (hW : s.WarmedH U.vm) => ts_keep hW (fun q cell h1 h2 => by rw [hU]; exact ts_va hP hS q cell h1 h2) hst0
  generalize hAe : va_A [(h0, .inr (0, [.ref q1, .ref q2, .ref q3, .ref q4, .ref q5])), (q3, .inr (3, [.ref r_words, .int 0, .int 0, .ref r_floors, .ref r_behinds, .ref r_results, .ref r_localCounts, .ref r_locals]))] s.heap.size = A at hD hst ⊢
  have hA : ∀ q : Nat, s.heap.size ≤ q → A q := fun q h => by rw [← hAe]; exact Or.inr h
  have hS : va_S A s.heap s.heap [] := va_S.rf
  have hP : va_P (dC, dI) vcl [(h0, .inr (0, [.ref q1, .ref q2, .ref q3, .ref q4, .ref q5])), (q3, .inr (3, [.ref r_words, .int 0, .int 0, .ref r_floors, .ref r_behinds, .ref r_results, .ref r_localCounts, .ref r_locals]))] s.heap := hP
  have hl := lv_entry ([.ref h0]) (n := 1) (Nat.le_of_ble_eq_true rfl)
  rw [lg_entry_eq]
  generalize (lg_sl ([.ref h0]) ++ List.replicate (1 - (lg_sl ([.ref h0])).length) Slot.unset).toArray = ls at hl ⊢
  have hl : lv_has ls 1 [(0, .ref h0)] := hl
  refine lv_aload_n hx hb d_SM_routines_0 rfl (lv_at hl 0 rfl) ?_
  refine va_get (D := (dC, dI)) (ci := 0) (v := .ref q3) (C := "StoryMachine") (T := T_SM) (N := 5) hx hb hts in_SM hown hK hP 0 rfl rfl 2 (by decide) (hts _ mw_312) (fun _ h9 => h9) rfl d_SM_routines_1 ?_
  refine va_get (D := (dC, dI)) (ci := 3) (v := .int 0) (C := "StoryMachine$Routines") (T := T_Ro) (N := 8) hx hb hts in_Ro hown hK hP 1 rfl rfl 2 (by decide) (hts _ mw_85) (fun _ h9 => h9) rfl d_SM_routines_4 ?_
  refine W.widen (k := 0) (n := 0) (Nat.le_of_ble_eq_true rfl) (Nat.le_of_ble_eq_true rfl) ?_
  exact tx_ret (W.iret (v := 0) hx hb hr (fun t ht hW => ⟨rfl, hS.F ht⟩) (hS.2.2) d_SM_routines_7)
set_option maxHeartbeats 4000000 in
set_option maxRecDepth 100000 in
theorem c_SM_output (l : Launch) (hfl : l.flags = pinnedFlags ++ [noTraceFlag]) (dC : Nat → ClassId) (dI : Nat → Nat → Nat) (cI : ClassId) (h0 q1 q2 q3 q4 q5 p_memory p_kept : Nat) (p0 : Int32) (sz : Nat) : tx_Met l ⟨"StoryMachine", "output", "(I)I"⟩ tw_tbl ({ frames := 7, cells := 1, slots := 6, locals := 130 }) (tq_P (dC, dI) vcl [.ref h0, .int p0] sz [(h0, .inr (0, [.ref q1, .ref q2, .ref q3, .ref q4, .ref q5])), (q4, .inr (4, [.ref p_memory, .ref p_kept, .int 0, .int 0, .int 0]))] [(cI, .int)]) (tq_Q (fun o t => ((p0 < (-1) ∨ 64 ≤ p0 ∨ 0 ≤ p0) → ∃ x, o = .threw x ∧ ta_Ex "java/lang/IndexOutOfBoundsException" x t) ∧ (¬ (p0 < (-1) ∨ 64 ≤ p0 ∨ 0 ≤ p0) → o = .returned (some (.int 0)))) (va_A [(h0, .inr (0, [.ref q1, .ref q2, .ref q3, .ref q4, .ref q5])), (q4, .inr (4, [.ref p_memory, .ref p_kept, .int 0, .int 0, .int 0]))] sz)) 1 6 (va_A [(h0, .inr (0, [.ref q1, .ref q2, .ref q3, .ref q4, .ref q5])), (q4, .inr (4, [.ref p_memory, .ref p_kept, .int 0, .int 0, .int 0]))] sz) := by
  refine tx_ofW (cc := prog_1_method_10_code) (maxL := 2) (ret := (some .int)) (by decide) (tx_isM mw_1018) ?_
  intro p e s m args below meth c s₁ B hml hv
  obtain ⟨rfl, hsz, hP, hK, hD0, hst0⟩ := hv
  have hx := B.exec
  have hb := B.bytes
  have hr := B.returns
  have hts := atoms_spec (ws := tw_tbl) B.pre
  have hown : s.vm.findClass "StoryMachine" = some m.cls := findClass_of_methodNamed B.named
  have hlocks := B.notSynchronized
  subst hsz
  have hD := hD0.self (sz := s.heap.size)
  have hst := fun (H : Heap) (locs : List Loc) (hS : va_S (va_A [(h0, .inr (0, [.ref q1, .ref q2, .ref q3, .ref q4, .ref q5])), (q4, .inr (4, [.ref p_memory, .ref p_kept, .int 0, .int 0, .int 0]))] s.heap.size) s.heap H locs) (U : State) (hU : U.heap = H) (hW : s.WarmedH U.vm) => ts_keep hW (fun q cell h1 h2 => by rw [hU]; exact ts_va hP hS q cell h1 h2) hst0
  generalize hAe : va_A [(h0, .inr (0, [.ref q1, .ref q2, .ref q3, .ref q4, .ref q5])), (q4, .inr (4, [.ref p_memory, .ref p_kept, .int 0, .int 0, .int 0]))] s.heap.size = A at hD hst ⊢
  have hA : ∀ q : Nat, s.heap.size ≤ q → A q := fun q h => by rw [← hAe]; exact Or.inr h
  have hS : va_S A s.heap s.heap [] := va_S.rf
  have hP : va_P (dC, dI) vcl [(h0, .inr (0, [.ref q1, .ref q2, .ref q3, .ref q4, .ref q5])), (q4, .inr (4, [.ref p_memory, .ref p_kept, .int 0, .int 0, .int 0]))] s.heap := hP
  have hl := lv_entry ([.ref h0, .int p0]) (n := 2) (Nat.le_of_ble_eq_true rfl)
  rw [lg_entry_eq]
  generalize (lg_sl ([.ref h0, .int p0]) ++ List.replicate (2 - (lg_sl ([.ref h0, .int p0])).length) Slot.unset).toArray = ls at hl ⊢
  have hl : lv_has ls 2 [(0, .ref h0), (1, .int p0)] := hl
  refine lv_iload_n hx hb d_SM_output_0 rfl (lv_at hl 1 rfl) ?_
  refine lv_iconst (v := (-1)) hx hb d_SM_output_1 (by decide) ?_
  refine lv_icmp_lt (tgt := 22) hx hb d_SM_output_2 (by decide) (fun hc2 => ?_) (fun hc2 => ?_)
  · refine W.widen (k := 0) (n := 0) (Nat.le_of_ble_eq_true rfl) (Nat.le_of_ble_eq_true rfl) ?_
    exact tth_SM_IndexOutOfBoundsException hx hb hfl hown hts (hst _ _ hS) (by rw [hml]; exact hl.1) d_SM_output_22 d_SM_output_25 d_SM_output_26 d_SM_output_29 (tx_noH B (hts _ mw_1018) _) (Nat.le_of_ble_eq_true rfl) (Nat.le_of_ble_eq_true rfl) (Nat.le_of_ble_eq_true rfl) (Nat.le_of_ble_eq_true rfl) (fun t ce hW hz hk hce hcl hvm => ⟨⟨fun _ => ⟨_, rfl, ce, hce, hcl, hvm⟩, fun h => absurd (Or.inl hc2) h⟩, ta_thrown hS hz hk⟩) hS.2.2 hlocks
  · refine lv_iload_n hx hb d_SM_output_5 rfl (lv_at hl 1 rfl) ?_
    refine lv_bipush (v := 64) hx hb d_SM_output_6 (by decide) ?_
    refine lv_icmp_ge (tgt := 22) hx hb d_SM_output_8 (by decide) (fun hc8 => ?_) (fun hc8 => ?_)
    · refine W.widen (k := 0) (n := 0) (Nat.le_of_ble_eq_true rfl) (Nat.le_of_ble_eq_true rfl) ?_
      exact tth_SM_IndexOutOfBoundsException hx hb hfl hown hts (hst _ _ hS) (by rw [hml]; exact hl.1) d_SM_output_22 d_SM_output_25 d_SM_output_26 d_SM_output_29 (tx_noH B (hts _ mw_1018) _) (Nat.le_of_ble_eq_true rfl) (Nat.le_of_ble_eq_true rfl) (Nat.le_of_ble_eq_true rfl) (Nat.le_of_ble_eq_true rfl) (fun t ce hW hz hk hce hcl hvm => ⟨⟨fun _ => ⟨_, rfl, ce, hce, hcl, hvm⟩, fun h => absurd (Or.inr (Or.inl hc8)) h⟩, ta_thrown hS hz hk⟩) hS.2.2 hlocks
    · refine lv_iload_n hx hb d_SM_output_11 rfl (lv_at hl 1 rfl) ?_
      refine lv_aload_n hx hb d_SM_output_12 rfl (lv_at hl 0 rfl) ?_
      refine va_get (D := (dC, dI)) (ci := 0) (v := .ref q4) (C := "StoryMachine") (T := T_SM) (N := 5) hx hb hts in_SM hown hK hP 0 rfl rfl 3 (by decide) (hts _ mw_313) (fun _ h9 => h9) rfl d_SM_output_13 ?_
      refine va_get (D := (dC, dI)) (ci := 4) (v := .int 0) (C := "StoryMachine$Printer") (T := T_Pr) (N := 5) hx hb hts in_Pr hown hK hP 1 rfl rfl 2 (by decide) (hts _ mw_118) (fun _ h9 => h9) rfl d_SM_output_16 ?_
      refine lv_icmp_lt (tgt := 30) hx hb d_SM_output_19 (by decide) (fun hc19 => ?_) (fun hc19 => ?_)
      · refine lv_iload_n hx hb d_SM_output_30 rfl (lv_at hl 1 rfl) ?_
        refine lv_iconst (v := (-1)) hx hb d_SM_output_31 (by decide) ?_
        refine lv_icmp_ne (tgt := 45) hx hb d_SM_output_32 (by decide) (fun h => absurd (ti_m1 hc2 (Int32.not_le.mpr hc19)) h) (fun hc32 => ?_)
        refine lv_aload_n hx hb d_SM_output_35 rfl (lv_at hl 0 rfl) ?_
        refine va_get (D := (dC, dI)) (ci := 0) (v := .ref q4) (C := "StoryMachine") (T := T_SM) (N := 5) hx hb hts in_SM hown hK hP 0 rfl rfl 3 (by decide) (hts _ mw_313) (fun _ h9 => h9) rfl d_SM_output_36 ?_
        refine va_get (D := (dC, dI)) (ci := 4) (v := .int 0) (C := "StoryMachine$Printer") (T := T_Pr) (N := 5) hx hb hts in_Pr hown hK hP 1 rfl rfl 2 (by decide) (hts _ mw_118) (fun _ h9 => h9) rfl d_SM_output_39 ?_
        refine lv_goto (tgt := 53) hx hb d_SM_output_42 (by decide) ?_
        refine W.widen (k := 1) (n := 6) (Nat.le_of_ble_eq_true rfl) (Nat.le_of_ble_eq_true rfl) ?_
        exact tx_ret (W.iret (v := 0) hx hb hr (fun t ht hW => ⟨⟨fun h => absurd h (fun h => h.elim hc2 (fun h => h.elim hc8 (fun h => (Int32.not_le.mpr hc19) h))), fun _ => rfl⟩, hS.F ht⟩) (hS.2.2) d_SM_output_53)
      · refine W.widen (k := 0) (n := 0) (Nat.le_of_ble_eq_true rfl) (Nat.le_of_ble_eq_true rfl) ?_
        exact tth_SM_IndexOutOfBoundsException hx hb hfl hown hts (hst _ _ hS) (by rw [hml]; exact hl.1) d_SM_output_22 d_SM_output_25 d_SM_output_26 d_SM_output_29 (tx_noH B (hts _ mw_1018) _) (Nat.le_of_ble_eq_true rfl) (Nat.le_of_ble_eq_true rfl) (Nat.le_of_ble_eq_true rfl) (Nat.le_of_ble_eq_true rfl) (fun t ce hW hz hk hce hcl hvm => ⟨⟨fun _ => ⟨_, rfl, ce, hce, hcl, hvm⟩, fun h => absurd (Or.inr (Or.inr ((Int32.not_lt.mp hc19)))) h⟩, ta_thrown hS hz hk⟩) hS.2.2 hlocks
set_option maxHeartbeats 4000000 in
set_option maxRecDepth 100000 in
theorem c_SM_stack (l : Launch) (hfl : l.flags = pinnedFlags ++ [noTraceFlag]) (dC : Nat → ClassId) (dI : Nat → Nat → Nat) (cI : ClassId) (h0 q1 q2 q3 q4 q5 r_words r_floors r_behinds r_results r_localCounts r_locals : Nat) (p0 : Int32) (sz : Nat) : tx_Met l ⟨"StoryMachine", "stack", "(I)I"⟩ tw_tbl ({ frames := 7, cells := 1, slots := 6, locals := 130 }) (tq_P (dC, dI) vcl [.ref h0, .int p0] sz [(h0, .inr (0, [.ref q1, .ref q2, .ref q3, .ref q4, .ref q5])), (q3, .inr (3, [.ref r_words, .int 0, .int 0, .ref r_floors, .ref r_behinds, .ref r_results, .ref r_localCounts, .ref r_locals]))] [(cI, .int)]) (tq_Q (fun o t => ((p0 < (-1) ∨ 0 ≤ p0) → ∃ x, o = .threw x ∧ ta_Ex "java/lang/IndexOutOfBoundsException" x t) ∧ (¬ (p0 < (-1) ∨ 0 ≤ p0) → o = .returned (some (.int 0)))) (va_A [(h0, .inr (0, [.ref q1, .ref q2, .ref q3, .ref q4, .ref q5])), (q3, .inr (3, [.ref r_words, .int 0, .int 0, .ref r_floors, .ref r_behinds, .ref r_results, .ref r_localCounts, .ref r_locals]))] sz)) 1 6 (va_A [(h0, .inr (0, [.ref q1, .ref q2, .ref q3, .ref q4, .ref q5])), (q3, .inr (3, [.ref r_words, .int 0, .int 0, .ref r_floors, .ref r_behinds, .ref r_results, .ref r_localCounts, .ref r_locals]))] sz) := by
  refine tx_ofW (cc := prog_1_method_11_code) (maxL := 2) (ret := (some .int)) (by decide) (tx_isM mw_1044) ?_
  intro p e s m args below meth c s₁ B hml hv
  obtain ⟨rfl, hsz, hP, hK, hD0, hst0⟩ := hv
  have hx := B.exec
  have hb := B.bytes
  have hr := B.returns
  have hts := atoms_spec (ws := tw_tbl) B.pre
  have hown : s.vm.findClass "StoryMachine" = some m.cls := findClass_of_methodNamed B.named
  have hlocks := B.notSynchronized
  subst hsz
  have hD := hD0.self (sz := s.heap.size)
  have hst := fun (H : Heap) (locs : List Loc) (hS : va_S (va_A [(h0, .inr (0, [.ref q1, .ref q2, .ref q3, .ref q4, .ref q5])), (q3, .inr (3, [.ref r_words, .int 0, .int 0, .ref r_floors, .ref r_behinds, .ref r_results, .ref r_localCounts, .ref r_locals]))] s.heap.size) s.heap H locs) (U : State) (hU : U.heap = H) (hW : s.WarmedH U.vm) => ts_keep hW (fun q cell h1 h2 => by rw [hU]; exact ts_va hP hS q cell h1 h2) hst0
  generalize hAe : va_A [(h0, .inr (0, [.ref q1, .ref q2, .ref q3, .ref q4, .ref q5])), (q3, .inr (3, [.ref r_words, .int 0, .int 0, .ref r_floors, .ref r_behinds, .ref r_results, .ref r_localCounts, .ref r_locals]))] s.heap.size = A at hD hst ⊢
  have hA : ∀ q : Nat, s.heap.size ≤ q → A q := fun q h => by rw [← hAe]; exact Or.inr h
  have hS : va_S A s.heap s.heap [] := va_S.rf
  have hP : va_P (dC, dI) vcl [(h0, .inr (0, [.ref q1, .ref q2, .ref q3, .ref q4, .ref q5])), (q3, .inr (3, [.ref r_words, .int 0, .int 0, .ref r_floors, .ref r_behinds, .ref r_results, .ref r_localCounts, .ref r_locals]))] s.heap := hP
  have hl := lv_entry ([.ref h0, .int p0]) (n := 2) (Nat.le_of_ble_eq_true rfl)
  rw [lg_entry_eq]
  generalize (lg_sl ([.ref h0, .int p0]) ++ List.replicate (2 - (lg_sl ([.ref h0, .int p0])).length) Slot.unset).toArray = ls at hl ⊢
  have hl : lv_has ls 2 [(0, .ref h0), (1, .int p0)] := hl
  refine lv_iload_n hx hb d_SM_stack_0 rfl (lv_at hl 1 rfl) ?_
  refine lv_iconst (v := (-1)) hx hb d_SM_stack_1 (by decide) ?_
  refine lv_icmp_lt (tgt := 16) hx hb d_SM_stack_2 (by decide) (fun hc2 => ?_) (fun hc2 => ?_)
  · refine W.widen (k := 0) (n := 0) (Nat.le_of_ble_eq_true rfl) (Nat.le_of_ble_eq_true rfl) ?_
    exact tth_SM_IndexOutOfBoundsException hx hb hfl hown hts (hst _ _ hS) (by rw [hml]; exact hl.1) d_SM_stack_16 d_SM_stack_19 d_SM_stack_20 d_SM_stack_23 (tx_noH B (hts _ mw_1044) _) (Nat.le_of_ble_eq_true rfl) (Nat.le_of_ble_eq_true rfl) (Nat.le_of_ble_eq_true rfl) (Nat.le_of_ble_eq_true rfl) (fun t ce hW hz hk hce hcl hvm => ⟨⟨fun _ => ⟨_, rfl, ce, hce, hcl, hvm⟩, fun h => absurd (Or.inl hc2) h⟩, ta_thrown hS hz hk⟩) hS.2.2 hlocks
  · refine lv_iload_n hx hb d_SM_stack_5 rfl (lv_at hl 1 rfl) ?_
    refine lv_aload_n hx hb d_SM_stack_6 rfl (lv_at hl 0 rfl) ?_
    refine va_get (D := (dC, dI)) (ci := 0) (v := .ref q3) (C := "StoryMachine") (T := T_SM) (N := 5) hx hb hts in_SM hown hK hP 0 rfl rfl 2 (by decide) (hts _ mw_312) (fun _ h9 => h9) rfl d_SM_stack_7 ?_
    refine va_get (D := (dC, dI)) (ci := 3) (v := .int 0) (C := "StoryMachine$Routines") (T := T_Ro) (N := 8) hx hb hts in_Ro hown hK hP 1 rfl rfl 1 (by decide) (hts _ mw_83) (fun _ h9 => h9) rfl d_SM_stack_10 ?_
    refine lv_icmp_lt (tgt := 24) hx hb d_SM_stack_13 (by decide) (fun hc13 => ?_) (fun hc13 => ?_)
    · refine lv_iload_n hx hb d_SM_stack_24 rfl (lv_at hl 1 rfl) ?_
      refine lv_iconst (v := (-1)) hx hb d_SM_stack_25 (by decide) ?_
      refine lv_icmp_ne (tgt := 39) hx hb d_SM_stack_26 (by decide) (fun h => absurd (ti_m1 hc2 (Int32.not_le.mpr hc13)) h) (fun hc26 => ?_)
      refine lv_aload_n hx hb d_SM_stack_29 rfl (lv_at hl 0 rfl) ?_
      refine va_get (D := (dC, dI)) (ci := 0) (v := .ref q3) (C := "StoryMachine") (T := T_SM) (N := 5) hx hb hts in_SM hown hK hP 0 rfl rfl 2 (by decide) (hts _ mw_312) (fun _ h9 => h9) rfl d_SM_stack_30 ?_
      refine va_get (D := (dC, dI)) (ci := 3) (v := .int 0) (C := "StoryMachine$Routines") (T := T_Ro) (N := 8) hx hb hts in_Ro hown hK hP 1 rfl rfl 1 (by decide) (hts _ mw_83) (fun _ h9 => h9) rfl d_SM_stack_33 ?_
      refine lv_goto (tgt := 58) hx hb d_SM_stack_36 (by decide) ?_
      refine W.widen (k := 1) (n := 6) (Nat.le_of_ble_eq_true rfl) (Nat.le_of_ble_eq_true rfl) ?_
      exact tx_ret (W.iret (v := 0) hx hb hr (fun t ht hW => ⟨⟨fun h => absurd h (fun h => h.elim hc2 (fun h => (Int32.not_le.mpr hc13) h)), fun _ => rfl⟩, hS.F ht⟩) (hS.2.2) d_SM_stack_58)
    · refine W.widen (k := 0) (n := 0) (Nat.le_of_ble_eq_true rfl) (Nat.le_of_ble_eq_true rfl) ?_
      exact tth_SM_IndexOutOfBoundsException hx hb hfl hown hts (hst _ _ hS) (by rw [hml]; exact hl.1) d_SM_stack_16 d_SM_stack_19 d_SM_stack_20 d_SM_stack_23 (tx_noH B (hts _ mw_1044) _) (Nat.le_of_ble_eq_true rfl) (Nat.le_of_ble_eq_true rfl) (Nat.le_of_ble_eq_true rfl) (Nat.le_of_ble_eq_true rfl) (fun t ce hW hz hk hce hcl hvm => ⟨⟨fun _ => ⟨_, rfl, ce, hce, hcl, hvm⟩, fun h => absurd (Or.inr ((Int32.not_lt.mp hc13))) h⟩, ta_thrown hS hz hk⟩) hS.2.2 hlocks
set_option maxHeartbeats 4000000 in
set_option maxRecDepth 100000 in
theorem c_Ro_localCount (l : Launch) (hfl : l.flags = pinnedFlags ++ [noTraceFlag]) (dC : Nat → ClassId) (dI : Nat → Nat → Nat) (cI : ClassId) (h0 r_words r_floors r_behinds r_results r_localCounts r_locals : Nat) (sz : Nat) : tx_Met l ⟨"StoryMachine$Routines", "localCount", "()I"⟩ tw_tbl ({ frames := 0, cells := 0, slots := 0, locals := 0 }) (tq_P (dC, dI) vcl [.ref h0] sz [(h0, .inr (3, [.ref r_words, .int 0, .int 0, .ref r_floors, .ref r_behinds, .ref r_results, .ref r_localCounts, .ref r_locals])), (r_localCounts, .inl (cI, 11, .inl (fun _ => 0)))] [(cI, .int)]) (tq_Q (fun o t => o = .returned (some (.int 0))) (va_A [(h0, .inr (3, [.ref r_words, .int 0, .int 0, .ref r_floors, .ref r_behinds, .ref r_results, .ref r_localCounts, .ref r_locals])), (r_localCounts, .inl (cI, 11, .inl (fun _ => 0)))] sz)) 0 0 (va_A [(h0, .inr (3, [.ref r_words, .int 0, .int 0, .ref r_floors, .ref r_behinds, .ref r_results, .ref r_localCounts, .ref r_locals])), (r_localCounts, .inl (cI, 11, .inl (fun _ => 0)))] sz) := by
  refine tx_ofW (cc := prog_9_method_7_code) (maxL := 1) (ret := (some .int)) (by decide) (tx_isM mw_1055) ?_
  intro p e s m args below meth c s₁ B hml hv
  obtain ⟨rfl, hsz, hP, hK, hD0, hst0⟩ := hv
  have hx := B.exec
  have hb := B.bytes
  have hr := B.returns
  have hts := atoms_spec (ws := tw_tbl) B.pre
  have hown : s.vm.findClass "StoryMachine$Routines" = some m.cls := findClass_of_methodNamed B.named
  have hlocks := B.notSynchronized
  subst hsz
  have hD := hD0.self (sz := s.heap.size)
  have hst := fun (H : Heap) (locs : List Loc) (hS : va_S (va_A [(h0, .inr (3, [.ref r_words, .int 0, .int 0, .ref r_floors, .ref r_behinds, .ref r_results, .ref r_localCounts, .ref r_locals])), (r_localCounts, .inl (cI, 11, .inl (fun _ => 0)))] s.heap.size) s.heap H locs) (U : State) (hU : U.heap = H) (hW : s.WarmedH U.vm) => ts_keep hW (fun q cell h1 h2 => by rw [hU]; exact ts_va hP hS q cell h1 h2) hst0
  generalize hAe : va_A [(h0, .inr (3, [.ref r_words, .int 0, .int 0, .ref r_floors, .ref r_behinds, .ref r_results, .ref r_localCounts, .ref r_locals])), (r_localCounts, .inl (cI, 11, .inl (fun _ => 0)))] s.heap.size = A at hD hst ⊢
  have hA : ∀ q : Nat, s.heap.size ≤ q → A q := fun q h => by rw [← hAe]; exact Or.inr h
  have hS : va_S A s.heap s.heap [] := va_S.rf
  have hP : va_P (dC, dI) vcl [(h0, .inr (3, [.ref r_words, .int 0, .int 0, .ref r_floors, .ref r_behinds, .ref r_results, .ref r_localCounts, .ref r_locals])), (r_localCounts, .inl (cI, 11, .inl (fun _ => 0)))] s.heap := hP
  have hl := lv_entry ([.ref h0]) (n := 1) (Nat.le_of_ble_eq_true rfl)
  rw [lg_entry_eq]
  generalize (lg_sl ([.ref h0]) ++ List.replicate (1 - (lg_sl ([.ref h0])).length) Slot.unset).toArray = ls at hl ⊢
  have hl : lv_has ls 1 [(0, .ref h0)] := hl
  refine lv_aload_n hx hb d_Ro_localCount_0 rfl (lv_at hl 0 rfl) ?_
  refine va_get (D := (dC, dI)) (ci := 3) (v := .ref r_localCounts) (C := "StoryMachine$Routines") (T := T_Ro) (N := 8) hx hb hts in_Ro hown hK hP 0 rfl rfl 6 (by decide) (hts _ mw_89) (fun _ h9 => h9) rfl d_Ro_localCount_1 ?_
  refine lv_aload_n hx hb d_Ro_localCount_4 rfl (lv_at hl 0 rfl) ?_
  refine va_get (D := (dC, dI)) (ci := 3) (v := .int 0) (C := "StoryMachine$Routines") (T := T_Ro) (N := 8) hx hb hts in_Ro hown hK hP 0 rfl rfl 2 (by decide) (hts _ mw_84) (fun _ h9 => h9) rfl d_Ro_localCount_5 ?_
  refine va_iald hx hb hK hP 1 0 rfl rfl (show ¬ ((0 : Int32) < 0 ∨ 11 ≤ (0 : Int32).toNatClampNeg) by decide) d_Ro_localCount_8 ?_
  refine W.eq (g2 := F0 m 9 ls [.int 0]) rfl ?_
  refine W.widen (k := 0) (n := 0) (Nat.le_of_ble_eq_true rfl) (Nat.le_of_ble_eq_true rfl) ?_
  exact tx_ret (W.iret (v := 0) hx hb hr (fun t ht hW => ⟨rfl, hS.F ht⟩) (hS.2.2) d_Ro_localCount_9)
set_option maxHeartbeats 4000000 in
set_option maxRecDepth 100000 in
theorem c_SM_local (l : Launch) (hfl : l.flags = pinnedFlags ++ [noTraceFlag]) (dC : Nat → ClassId) (dI : Nat → Nat → Nat) (cI : ClassId) (h0 q1 q2 q3 q4 q5 r_words r_floors r_behinds r_results r_localCounts r_locals : Nat) (p0 : Int32) (sz : Nat) : tx_Met l ⟨"StoryMachine", "local", "(I)I"⟩ tw_tbl ({ frames := 7, cells := 1, slots := 6, locals := 130 }) (tq_P (dC, dI) vcl [.ref h0, .int p0] sz [(h0, .inr (0, [.ref q1, .ref q2, .ref q3, .ref q4, .ref q5])), (q3, .inr (3, [.ref r_words, .int 0, .int 0, .ref r_floors, .ref r_behinds, .ref r_results, .ref r_localCounts, .ref r_locals])), (r_localCounts, .inl (cI, 11, .inl (fun _ => 0)))] [(cI, .int)]) (tq_Q (fun o t => ((p0 < 0 ∨ 15 < p0) → ∃ x, o = .threw x ∧ ta_Ex "java/lang/IndexOutOfBoundsException" x t) ∧ (¬ (p0 < 0 ∨ 15 < p0) → o = .returned (some (.int 0)))) (va_A [(h0, .inr (0, [.ref q1, .ref q2, .ref q3, .ref q4, .ref q5])), (q3, .inr (3, [.ref r_words, .int 0, .int 0, .ref r_floors, .ref r_behinds, .ref r_results, .ref r_localCounts, .ref r_locals])), (r_localCounts, .inl (cI, 11, .inl (fun _ => 0)))] sz)) 1 6 (va_A [(h0, .inr (0, [.ref q1, .ref q2, .ref q3, .ref q4, .ref q5])), (q3, .inr (3, [.ref r_words, .int 0, .int 0, .ref r_floors, .ref r_behinds, .ref r_results, .ref r_localCounts, .ref r_locals])), (r_localCounts, .inl (cI, 11, .inl (fun _ => 0)))] sz) := by
  refine tx_ofW (cc := prog_1_method_12_code) (maxL := 2) (ret := (some .int)) (by decide) (tx_isM mw_1051) ?_
  intro p e s m args below meth c s₁ B hml hv
  obtain ⟨rfl, hsz, hP, hK, hD0, hst0⟩ := hv
  have hx := B.exec
  have hb := B.bytes
  have hr := B.returns
  have hts := atoms_spec (ws := tw_tbl) B.pre
  have hown : s.vm.findClass "StoryMachine" = some m.cls := findClass_of_methodNamed B.named
  have hlocks := B.notSynchronized
  subst hsz
  have hD := hD0.self (sz := s.heap.size)
  have hst := fun (H : Heap) (locs : List Loc) (hS : va_S (va_A [(h0, .inr (0, [.ref q1, .ref q2, .ref q3, .ref q4, .ref q5])), (q3, .inr (3, [.ref r_words, .int 0, .int 0, .ref r_floors, .ref r_behinds, .ref r_results, .ref r_localCounts, .ref r_locals])), (r_localCounts, .inl (cI, 11, .inl (fun _ => 0)))] s.heap.size) s.heap H locs) (U : State) (hU : U.heap = H) (hW : s.WarmedH U.vm) => ts_keep hW (fun q cell h1 h2 => by rw [hU]; exact ts_va hP hS q cell h1 h2) hst0
  generalize hAe : va_A [(h0, .inr (0, [.ref q1, .ref q2, .ref q3, .ref q4, .ref q5])), (q3, .inr (3, [.ref r_words, .int 0, .int 0, .ref r_floors, .ref r_behinds, .ref r_results, .ref r_localCounts, .ref r_locals])), (r_localCounts, .inl (cI, 11, .inl (fun _ => 0)))] s.heap.size = A at hD hst ⊢
  have hA : ∀ q : Nat, s.heap.size ≤ q → A q := fun q h => by rw [← hAe]; exact Or.inr h
  have hS : va_S A s.heap s.heap [] := va_S.rf
  have hP : va_P (dC, dI) vcl [(h0, .inr (0, [.ref q1, .ref q2, .ref q3, .ref q4, .ref q5])), (q3, .inr (3, [.ref r_words, .int 0, .int 0, .ref r_floors, .ref r_behinds, .ref r_results, .ref r_localCounts, .ref r_locals])), (r_localCounts, .inl (cI, 11, .inl (fun _ => 0)))] s.heap := hP
  have hl := lv_entry ([.ref h0, .int p0]) (n := 2) (Nat.le_of_ble_eq_true rfl)
  rw [lg_entry_eq]
  generalize (lg_sl ([.ref h0, .int p0]) ++ List.replicate (2 - (lg_sl ([.ref h0, .int p0])).length) Slot.unset).toArray = ls at hl ⊢
  have hl : lv_has ls 2 [(0, .ref h0), (1, .int p0)] := hl
  refine lv_iload_n hx hb d_SM_local_0 rfl (lv_at hl 1 rfl) ?_
  refine lv_if_lt (tgt := 10) hx hb d_SM_local_1 (by decide) (fun hc1 => ?_) (fun hc1 => ?_)
  · refine W.widen (k := 0) (n := 0) (Nat.le_of_ble_eq_true rfl) (Nat.le_of_ble_eq_true rfl) ?_
    exact tth_SM_IndexOutOfBoundsException hx hb hfl hown hts (hst _ _ hS) (by rw [hml]; exact hl.1) d_SM_local_10 d_SM_local_13 d_SM_local_14 d_SM_local_17 (tx_noH B (hts _ mw_1051) _) (Nat.le_of_ble_eq_true rfl) (Nat.le_of_ble_eq_true rfl) (Nat.le_of_ble_eq_true rfl) (Nat.le_of_ble_eq_true rfl) (fun t ce hW hz hk hce hcl hvm => ⟨⟨fun _ => ⟨_, rfl, ce, hce, hcl, hvm⟩, fun h => absurd (Or.inl hc1) h⟩, ta_thrown hS hz hk⟩) hS.2.2 hlocks
  · refine lv_iload_n hx hb d_SM_local_4 rfl (lv_at hl 1 rfl) ?_
    refine lv_bipush (v := 15) hx hb d_SM_local_5 (by decide) ?_
    refine lv_icmp_le (tgt := 18) hx hb d_SM_local_7 (by decide) (fun hc7 => ?_) (fun hc7 => ?_)
    · refine lv_iload_n hx hb d_SM_local_18 rfl (lv_at hl 1 rfl) ?_
      refine lv_if_ne (tgt := 30) hx hb d_SM_local_19 (by decide) (fun hc19 => ?_) (fun hc19 => ?_)
      · refine lv_iload_n hx hb d_SM_local_30 rfl (lv_at hl 1 rfl) ?_
        refine lv_aload_n hx hb d_SM_local_31 rfl (lv_at hl 0 rfl) ?_
        refine va_get (D := (dC, dI)) (ci := 0) (v := .ref q3) (C := "StoryMachine") (T := T_SM) (N := 5) hx hb hts in_SM hown hK hP 0 rfl rfl 2 (by decide) (hts _ mw_312) (fun _ h9 => h9) rfl d_SM_local_32 ?_
        have hPc := hP.sub (ws' := [(q3, .inr (3, [.ref r_words, .int 0, .int 0, .ref r_floors, .ref r_behinds, .ref r_results, .ref r_localCounts, .ref r_locals])), (r_localCounts, .inl (cI, 11, .inl (fun _ => 0)))]) [1, 2] rfl
        have hDc := hD.sub (ws' := [(q3, .inr (3, [.ref r_words, .int 0, .int 0, .ref r_floors, .ref r_behinds, .ref r_results, .ref r_localCounts, .ref r_locals])), (r_localCounts, .inl (cI, 11, .inl (fun _ => 0)))]) [1, 2] (by decide) rfl
        have hFc := va_free (wc := [(q3, .inr (3, [.ref r_words, .int 0, .int 0, .ref r_floors, .ref r_behinds, .ref r_results, .ref r_localCounts, .ref r_locals])), (r_localCounts, .inl (cI, 11, .inl (fun _ => 0)))]) hD hS hA [1, 2] rfl
        refine tx_callK (A1 := va_A [(q3, .inr (3, [.ref r_words, .int 0, .int 0, .ref r_floors, .ref r_behinds, .ref r_results, .ref r_localCounts, .ref r_locals])), (r_localCounts, .inl (cI, 11, .inl (fun _ => 0)))] s.heap.size) (tx_runV (C := "StoryMachine$Routines") (As := []) (rest := [.int p0]) ⟨hx, hb, hml, hown, hts⟩ (c_Ro_localCount l hfl dC dI cI q3 r_words r_floors r_behinds r_results r_localCounts r_locals s.heap.size) (tx_cb (n := 0) hts rfl rfl ⟨Nat.le_of_ble_eq_true rfl, Nat.le_of_ble_eq_true rfl⟩ (tx_code.of (hts _ mw_1055)) (hts _ mw_4) (by decide +kernel) (hts _ mw_1052)) (hts _ mw_1053) (hts _ mw_1054) ⟨tq_blind, ta_recv (q0 := 1) hts in_Ro hK hP rfl rfl, fun U hU hW => ⟨rfl, by rw [hU], by rw [hU]; exact hPc, va_K.moved hW.alike hK, hDc.weaken (fun _ _ _ _ => trivial), hst _ _ hS U hU hW⟩⟩ rfl rfl hl.1 rfl (lv_room (Nat.le_of_ble_eq_true rfl)) d_SM_local_35 ⟨Nat.le_of_ble_eq_true rfl, Nat.le_of_ble_eq_true rfl⟩) hS (fun q _ h => hFc q h) hFc (fun v t H35 locs ht hWt hpost hz1 hk1 hS => ?_) (fun x t H1 locs ht hWt hpost hz1 hk1 hS => by cases hpost)
        cases hpost
        have hP1 := ta_nilP (D := (dC, dI)) (cl := vcl) (H := t.heap)
        have hD1 := ta_nilD (A := va_A [(q3, .inr (3, [.ref r_words, .int 0, .int 0, .ref r_floors, .ref r_behinds, .ref r_results, .ref r_localCounts, .ref r_locals])), (r_localCounts, .inl (cI, 11, .inl (fun _ => 0)))] s.heap.size)
        rw [ht] at hP1
        obtain ⟨hP, hD⟩ := va_join (wr := [(h0, .inr (0, [.ref q1, .ref q2, .ref q3, .ref q4, .ref q5]))]) (w1 := []) hP hD [1, 2] [0] rfl rfl (by decide) (by decide) hk1 hFc hP1 hD1
        have hP : va_P (dC, dI) vcl [(h0, .inr (0, [.ref q1, .ref q2, .ref q3, .ref q4, .ref q5]))] H35 := hP
        have hD : va_D A [(h0, .inr (0, [.ref q1, .ref q2, .ref q3, .ref q4, .ref q5]))] := hD
        refine lv_icmp_gt (tgt := 52) hx hb d_SM_local_38 (by decide) (fun hc38 => ?_) (fun h => absurd (ti_pos hc1 hc19) h)
        refine lv_iconst (v := 0) hx hb d_SM_local_52 (by decide) ?_
        refine W.widen (k := 1) (n := 6) (Nat.le_of_ble_eq_true rfl) (Nat.le_of_ble_eq_true rfl) ?_
        exact tx_ret (W.iret (v := 0) hx hb hr (fun t ht hW => ⟨⟨fun h => absurd h (fun h => h.elim hc1 (fun h => (Int32.not_lt.mpr hc7) h)), fun _ => rfl⟩, hS.F ht⟩) (hS.2.2) d_SM_local_53)
      · refine lv_aload_n hx hb d_SM_local_22 rfl (lv_at hl 0 rfl) ?_
        refine va_get (D := (dC, dI)) (ci := 0) (v := .ref q3) (C := "StoryMachine") (T := T_SM) (N := 5) hx hb hts in_SM hown hK hP 0 rfl rfl 2 (by decide) (hts _ mw_312) (fun _ h9 => h9) rfl d_SM_local_23 ?_
        have hPc := hP.sub (ws' := [(q3, .inr (3, [.ref r_words, .int 0, .int 0, .ref r_floors, .ref r_behinds, .ref r_results, .ref r_localCounts, .ref r_locals])), (r_localCounts, .inl (cI, 11, .inl (fun _ => 0)))]) [1, 2] rfl
        have hDc := hD.sub (ws' := [(q3, .inr (3, [.ref r_words, .int 0, .int 0, .ref r_floors, .ref r_behinds, .ref r_results, .ref r_localCounts, .ref r_locals])), (r_localCounts, .inl (cI, 11, .inl (fun _ => 0)))]) [1, 2] (by decide) rfl
        have hFc := va_free (wc := [(q3, .inr (3, [.ref r_words, .int 0, .int 0, .ref r_floors, .ref r_behinds, .ref r_results, .ref r_localCounts, .ref r_locals])), (r_localCounts, .inl (cI, 11, .inl (fun _ => 0)))]) hD hS hA [1, 2] rfl
        refine tx_callK (A1 := va_A [(q3, .inr (3, [.ref r_words, .int 0, .int 0, .ref r_floors, .ref r_behinds, .ref r_results, .ref r_localCounts, .ref r_locals])), (r_localCounts, .inl (cI, 11, .inl (fun _ => 0)))] s.heap.size) (tx_runV (C := "StoryMachine$Routines") (As := []) (rest := []) ⟨hx, hb, hml, hown, hts⟩ (c_Ro_localCount l hfl dC dI cI q3 r_words r_floors r_behinds r_results r_localCounts r_locals s.heap.size) (tx_cb (n := 0) hts rfl rfl ⟨Nat.le_of_ble_eq_true rfl, Nat.le_of_ble_eq_true rfl⟩ (tx_code.of (hts _ mw_1055)) (hts _ mw_4) (by decide +kernel) (hts _ mw_1052)) (hts _ mw_1053) (hts _ mw_1054) ⟨tq_blind, ta_recv (q0 := 1) hts in_Ro hK hP rfl rfl, fun U hU hW => ⟨rfl, by rw [hU], by rw [hU]; exact hPc, va_K.moved hW.alike hK, hDc.weaken (fun _ _ _ _ => trivial), hst _ _ hS U hU hW⟩⟩ rfl rfl hl.1 rfl (lv_room (Nat.le_of_ble_eq_true rfl)) d_SM_local_26 ⟨Nat.le_of_ble_eq_true rfl, Nat.le_of_ble_eq_true rfl⟩) hS (fun q _ h => hFc q h) hFc (fun v t H26 locs ht hWt hpost hz1 hk1 hS => ?_) (fun x t H1 locs ht hWt hpost hz1 hk1 hS => by cases hpost)
        cases hpost
        have hP1 := ta_nilP (D := (dC, dI)) (cl := vcl) (H := t.heap)
        have hD1 := ta_nilD (A := va_A [(q3, .inr (3, [.ref r_words, .int 0, .int 0, .ref r_floors, .ref r_behinds, .ref r_results, .ref r_localCounts, .ref r_locals])), (r_localCounts, .inl (cI, 11, .inl (fun _ => 0)))] s.heap.size)
        rw [ht] at hP1
        obtain ⟨hP, hD⟩ := va_join (wr := [(h0, .inr (0, [.ref q1, .ref q2, .ref q3, .ref q4, .ref q5]))]) (w1 := []) hP hD [1, 2] [0] rfl rfl (by decide) (by decide) hk1 hFc hP1 hD1
        have hP : va_P (dC, dI) vcl [(h0, .inr (0, [.ref q1, .ref q2, .ref q3, .ref q4, .ref q5]))] H26 := hP
        have hD : va_D A [(h0, .inr (0, [.ref q1, .ref q2, .ref q3, .ref q4, .ref q5]))] := hD
        refine W.widen (k := 1) (n := 6) (Nat.le_of_ble_eq_true rfl) (Nat.le_of_ble_eq_true rfl) ?_
        exact tx_ret (W.iret (v := 0) hx hb hr (fun t ht hW => ⟨⟨fun h => absurd h (fun h => h.elim hc1 (fun h => (Int32.not_lt.mpr hc7) h)), fun _ => rfl⟩, hS.F ht⟩) (hS.2.2) d_SM_local_29)
    · refine W.widen (k := 0) (n := 0) (Nat.le_of_ble_eq_true rfl) (Nat.le_of_ble_eq_true rfl) ?_
      exact tth_SM_IndexOutOfBoundsException hx hb hfl hown hts (hst _ _ hS) (by rw [hml]; exact hl.1) d_SM_local_10 d_SM_local_13 d_SM_local_14 d_SM_local_17 (tx_noH B (hts _ mw_1051) _) (Nat.le_of_ble_eq_true rfl) (Nat.le_of_ble_eq_true rfl) (Nat.le_of_ble_eq_true rfl) (Nat.le_of_ble_eq_true rfl) (fun t ce hW hz hk hce hcl hvm => ⟨⟨fun _ => ⟨_, rfl, ce, hce, hcl, hvm⟩, fun h => absurd (Or.inr ((Int32.not_le.mp hc7))) h⟩, ta_thrown hS hz hk⟩) hS.2.2 hlocks
end
section
/-! Contracts; written by wip/tools/p1.py. -/
set_option maxHeartbeats 4000000 in
set_option maxRecDepth 100000 in
theorem c_Mo_thrown (l : Launch) (dC : Nat → ClassId) (dI : Nat → Nat → Nat) (cI : ClassId) (h0 : Nat) (fs : List Value) (k : Int32) (hfs : fs[0]? = some (.int k)) (sz : Nat) : tx_Met l ⟨"StoryMachineModel", "thrown", "()I"⟩ tw_tbl ({ frames := 0, cells := 0, slots := 0, locals := 0 }) (tq_P (dC, dI) vcl [.ref h0] sz [(h0, .inr (11, fs))] [(cI, .int)]) (tq_Q (fun o t => o = .returned (some (.int k))) (va_A [(h0, .inr (11, fs))] sz)) 0 0 (va_A [(h0, .inr (11, fs))] sz) := by
  refine tx_ofW (cc := prog_13_method_2_code) (maxL := 1) (ret := (some .int)) (by decide) (tx_isM mw_1220) ?_
  intro p e s m args below meth c s₁ B hml hv
  obtain ⟨rfl, hsz, hP, hK, hD0, hst0⟩ := hv
  have hx := B.exec
  have hb := B.bytes
  have hr := B.returns
  have hts := atoms_spec (ws := tw_tbl) B.pre
  have hown : s.vm.findClass "StoryMachineModel" = some m.cls := findClass_of_methodNamed B.named
  have hlocks := B.notSynchronized
  subst hsz
  generalize hAe : va_A [(h0, .inr (11, fs))] s.heap.size = A
  have hS : va_S A s.heap s.heap [] := va_S.rf
  have hl := lv_entry ([.ref h0]) (n := 1) (Nat.le_of_ble_eq_true rfl)
  rw [lg_entry_eq]
  generalize (lg_sl ([.ref h0]) ++ List.replicate (1 - (lg_sl ([.ref h0])).length) Slot.unset).toArray = ls at hl ⊢
  have hl : lv_has ls 1 [(0, .ref h0)] := hl
  refine lv_aload_n hx hb d_Mo_thrown_0 rfl (lv_at hl 0 rfl) ?_
  refine va_get (D := (dC, dI)) (ci := 11) (v := .int k) (C := "StoryMachineModel") (T := T_Mo) (N := 51) hx hb hts in_Mo hown hK hP 0 rfl rfl 0 (by decide) (hts _ mw_1063) (fun _ h9 => h9) hfs d_Mo_thrown_1 ?_
  exact tx_ret (W.iret (v := k) hx hb hr (fun t ht hW => ⟨rfl, hS.F ht⟩) hS.2.2 d_Mo_thrown_4)
set_option maxHeartbeats 4000000 in
set_option maxRecDepth 100000 in
theorem c_Mo_peek (l : Launch) (hfl : l.flags = pinnedFlags ++ [noTraceFlag]) (dC : Nat → ClassId) (dI : Nat → Nat → Nat) (cI : ClassId) (h0 m_memory m_words m_many m_bottom m_back m_gets m_locals m_oldMemory m_oldWords m_oldMany m_oldBottom m_oldBack m_oldGets m_oldLocals m_latest m_typed m_line m_numbers m_letters m_starts m_lengths : Nat) (p0 : Int32) (sz : Nat) : tx_Met l ⟨"StoryMachineModel", "peek", "(I)I"⟩ tw_tbl ({ frames := 1, cells := 0, slots := 0, locals := 40 }) (tq_P (dC, dI) vcl [.ref h0, .int p0] sz [(h0, .inr (11, [.int 0, .ref m_memory, .int 0, .ref m_words, .int 0, .ref m_many, .ref m_bottom, .ref m_back, .ref m_gets, .ref m_locals, .int 0, .ref m_oldMemory, .int 0, .ref m_oldWords, .int 0, .ref m_oldMany, .ref m_oldBottom, .ref m_oldBack, .ref m_oldGets, .ref m_oldLocals, .int 0, .int 0, .int 0, .int 0, .int 0, .int 0, .int 0, .int 0, .int 0, .int 0, .int 0, .int 0, .ref m_latest, .int 0, .int 0, .ref m_typed, .int 0, .ref m_line, .int 0, .ref m_numbers, .int 0, .int 0, .int 0, .int 0, .int 0, .int 0, .int 0, .int 0, .ref m_letters, .ref m_starts, .ref m_lengths])), (m_memory, .inl (cI, 512, .inl (fun _ => 0)))] [(cI, .int)]) (tq_Q (fun o t => ((p0 < 0 ∨ ¬ p0 < 512) → o = .returned (some (.int 0)) ∧ tm_Mo (dC, dI) vcl h0 1 (va_A [(h0, .inr (11, [.int 0, .ref m_memory, .int 0, .ref m_words, .int 0, .ref m_many, .ref m_bottom, .ref m_back, .ref m_gets, .ref m_locals, .int 0, .ref m_oldMemory, .int 0, .ref m_oldWords, .int 0, .ref m_oldMany, .ref m_oldBottom, .ref m_oldBack, .ref m_oldGets, .ref m_oldLocals, .int 0, .int 0, .int 0, .int 0, .int 0, .int 0, .int 0, .int 0, .int 0, .int 0, .int 0, .int 0, .ref m_latest, .int 0, .int 0, .ref m_typed, .int 0, .ref m_line, .int 0, .ref m_numbers, .int 0, .int 0, .int 0, .int 0, .int 0, .int 0, .int 0, .int 0, .ref m_letters, .ref m_starts, .ref m_lengths])), (m_memory, .inl (cI, 512, .inl (fun _ => 0)))] sz) t) ∧ (¬ (p0 < 0 ∨ ¬ p0 < 512) → o = .returned (some (.int 0)) ∧ tm_Mo (dC, dI) vcl h0 0 (va_A [(h0, .inr (11, [.int 0, .ref m_memory, .int 0, .ref m_words, .int 0, .ref m_many, .ref m_bottom, .ref m_back, .ref m_gets, .ref m_locals, .int 0, .ref m_oldMemory, .int 0, .ref m_oldWords, .int 0, .ref m_oldMany, .ref m_oldBottom, .ref m_oldBack, .ref m_oldGets, .ref m_oldLocals, .int 0, .int 0, .int 0, .int 0, .int 0, .int 0, .int 0, .int 0, .int 0, .int 0, .int 0, .int 0, .ref m_latest, .int 0, .int 0, .ref m_typed, .int 0, .ref m_line, .int 0, .ref m_numbers, .int 0, .int 0, .int 0, .int 0, .int 0, .int 0, .int 0, .int 0, .ref m_letters, .ref m_starts, .ref m_lengths])), (m_memory, .inl (cI, 512, .inl (fun _ => 0)))] sz) t)) (va_A [(h0, .inr (11, [.int 0, .ref m_memory, .int 0, .ref m_words, .int 0, .ref m_many, .ref m_bottom, .ref m_back, .ref m_gets, .ref m_locals, .int 0, .ref m_oldMemory, .int 0, .ref m_oldWords, .int 0, .ref m_oldMany, .ref m_oldBottom, .ref m_oldBack, .ref m_oldGets, .ref m_oldLocals, .int 0, .int 0, .int 0, .int 0, .int 0, .int 0, .int 0, .int 0, .int 0, .int 0, .int 0, .int 0, .ref m_latest, .int 0, .int 0, .ref m_typed, .int 0, .ref m_line, .int 0, .ref m_numbers, .int 0, .int 0, .int 0, .int 0, .int 0, .int 0, .int 0, .int 0, .ref m_letters, .ref m_starts, .ref m_lengths])), (m_memory, .inl (cI, 512, .inl (fun _ => 0)))] sz)) 0 0 (va_A [(h0, .inr (11, [.int 0, .ref m_memory, .int 0, .ref m_words, .int 0, .ref m_many, .ref m_bottom, .ref m_back, .ref m_gets, .ref m_locals, .int 0, .ref m_oldMemory, .int 0, .ref m_oldWords, .int 0, .ref m_oldMany, .ref m_oldBottom, .ref m_oldBack, .ref m_oldGets, .ref m_oldLocals, .int 0, .int 0, .int 0, .int 0, .int 0, .int 0, .int 0, .int 0, .int 0, .int 0, .int 0, .int 0, .ref m_latest, .int 0, .int 0, .ref m_typed, .int 0, .ref m_line, .int 0, .ref m_numbers, .int 0, .int 0, .int 0, .int 0, .int 0, .int 0, .int 0, .int 0, .ref m_letters, .ref m_starts, .ref m_lengths])), (m_memory, .inl (cI, 512, .inl (fun _ => 0)))] sz) := by
  refine tx_ofW (cc := prog_13_method_75_code) (maxL := 2) (ret := (some .int)) (by decide) (tx_isM mw_1508) ?_
  intro p e s m args below meth c s₁ B hml hv
  obtain ⟨rfl, hsz, hP, hK, hD0, hst0⟩ := hv
  have hx := B.exec
  have hb := B.bytes
  have hr := B.returns
  have hts := atoms_spec (ws := tw_tbl) B.pre
  have hown : s.vm.findClass "StoryMachineModel" = some m.cls := findClass_of_methodNamed B.named
  have hlocks := B.notSynchronized
  subst hsz
  have hD := hD0.self (sz := s.heap.size)
  have hst := fun (H : Heap) (locs : List Loc) (hS : va_S (va_A [(h0, .inr (11, [.int 0, .ref m_memory, .int 0, .ref m_words, .int 0, .ref m_many, .ref m_bottom, .ref m_back, .ref m_gets, .ref m_locals, .int 0, .ref m_oldMemory, .int 0, .ref m_oldWords, .int 0, .ref m_oldMany, .ref m_oldBottom, .ref m_oldBack, .ref m_oldGets, .ref m_oldLocals, .int 0, .int 0, .int 0, .int 0, .int 0, .int 0, .int 0, .int 0, .int 0, .int 0, .int 0, .int 0, .ref m_latest, .int 0, .int 0, .ref m_typed, .int 0, .ref m_line, .int 0, .ref m_numbers, .int 0, .int 0, .int 0, .int 0, .int 0, .int 0, .int 0, .int 0, .ref m_letters, .ref m_starts, .ref m_lengths])), (m_memory, .inl (cI, 512, .inl (fun _ => 0)))] s.heap.size) s.heap H locs) (U : State) (hU : U.heap = H) (hW : s.WarmedH U.vm) => ts_keep hW (fun q cell h1 h2 => by rw [hU]; exact ts_va hP hS q cell h1 h2) hst0
  generalize hAe : va_A [(h0, .inr (11, [.int 0, .ref m_memory, .int 0, .ref m_words, .int 0, .ref m_many, .ref m_bottom, .ref m_back, .ref m_gets, .ref m_locals, .int 0, .ref m_oldMemory, .int 0, .ref m_oldWords, .int 0, .ref m_oldMany, .ref m_oldBottom, .ref m_oldBack, .ref m_oldGets, .ref m_oldLocals, .int 0, .int 0, .int 0, .int 0, .int 0, .int 0, .int 0, .int 0, .int 0, .int 0, .int 0, .int 0, .ref m_latest, .int 0, .int 0, .ref m_typed, .int 0, .ref m_line, .int 0, .ref m_numbers, .int 0, .int 0, .int 0, .int 0, .int 0, .int 0, .int 0, .int 0, .ref m_letters, .ref m_starts, .ref m_lengths])), (m_memory, .inl (cI, 512, .inl (fun _ => 0)))] s.heap.size = A at hD hst ⊢
  have hA : ∀ q : Nat, s.heap.size ≤ q → A q := fun q h => by rw [← hAe]; exact Or.inr h
  have hS : va_S A s.heap s.heap [] := va_S.rf
  have hP : va_P (dC, dI) vcl [(h0, .inr (11, [.int 0, .ref m_memory, .int 0, .ref m_words, .int 0, .ref m_many, .ref m_bottom, .ref m_back, .ref m_gets, .ref m_locals, .int 0, .ref m_oldMemory, .int 0, .ref m_oldWords, .int 0, .ref m_oldMany, .ref m_oldBottom, .ref m_oldBack, .ref m_oldGets, .ref m_oldLocals, .int 0, .int 0, .int 0, .int 0, .int 0, .int 0, .int 0, .int 0, .int 0, .int 0, .int 0, .int 0, .ref m_latest, .int 0, .int 0, .ref m_typed, .int 0, .ref m_line, .int 0, .ref m_numbers, .int 0, .int 0, .int 0, .int 0, .int 0, .int 0, .int 0, .int 0, .ref m_letters, .ref m_starts, .ref m_lengths])), (m_memory, .inl (cI, 512, .inl (fun _ => 0)))] s.heap := hP
  have hl := lv_entry ([.ref h0, .int p0]) (n := 2) (Nat.le_of_ble_eq_true rfl)
  rw [lg_entry_eq]
  generalize (lg_sl ([.ref h0, .int p0]) ++ List.replicate (2 - (lg_sl ([.ref h0, .int p0])).length) Slot.unset).toArray = ls at hl ⊢
  have hl : lv_has ls 2 [(0, .ref h0), (1, .int p0)] := hl
  refine lv_aload_n hx hb d_Mo_peek_0 rfl (lv_at hl 0 rfl) ?_
  refine lv_iload_n hx hb d_Mo_peek_1 rfl (lv_at hl 1 rfl) ?_
  refine lv_if_lt (tgt := 12) hx hb d_Mo_peek_2 (by decide) (fun hc2 => ?_) (fun hc2 => ?_)
  · refine lv_iconst (v := 1) hx hb d_Mo_peek_12 (by decide) ?_
    refine lv_goto (tgt := 17) hx hb d_Mo_peek_13 (by decide) ?_
    refine va_put (D := (dC, dI)) (ci := 11) (v := .int 1) (ty := .int) (C := "StoryMachineModel") (T := T_Mo) (N := 51) hx hb hts in_Mo t_Mo tk_Mo nm_Mo hown hK hP hD hS 0 rfl rfl 0 (by decide) (hts _ mw_1063) (fun _ h9 => h9) rfl (by decide +kernel) rfl rfl (Nat.le_of_ble_eq_true rfl) d_Mo_peek_17 (fun H locs hP hD hS => ?_)
    have hP : va_P (dC, dI) vcl [(h0, .inr (11, [.int 1, .ref m_memory, .int 0, .ref m_words, .int 0, .ref m_many, .ref m_bottom, .ref m_back, .ref m_gets, .ref m_locals, .int 0, .ref m_oldMemory, .int 0, .ref m_oldWords, .int 0, .ref m_oldMany, .ref m_oldBottom, .ref m_oldBack, .ref m_oldGets, .ref m_oldLocals, .int 0, .int 0, .int 0, .int 0, .int 0, .int 0, .int 0, .int 0, .int 0, .int 0, .int 0, .int 0, .ref m_latest, .int 0, .int 0, .ref m_typed, .int 0, .ref m_line, .int 0, .ref m_numbers, .int 0, .int 0, .int 0, .int 0, .int 0, .int 0, .int 0, .int 0, .ref m_letters, .ref m_starts, .ref m_lengths])), (m_memory, .inl (cI, 512, .inl (fun _ => 0)))] H := hP
    have hD : va_D A [(h0, .inr (11, [.int 1, .ref m_memory, .int 0, .ref m_words, .int 0, .ref m_many, .ref m_bottom, .ref m_back, .ref m_gets, .ref m_locals, .int 0, .ref m_oldMemory, .int 0, .ref m_oldWords, .int 0, .ref m_oldMany, .ref m_oldBottom, .ref m_oldBack, .ref m_oldGets, .ref m_oldLocals, .int 0, .int 0, .int 0, .int 0, .int 0, .int 0, .int 0, .int 0, .int 0, .int 0, .int 0, .int 0, .ref m_latest, .int 0, .int 0, .ref m_typed, .int 0, .ref m_line, .int 0, .ref m_numbers, .int 0, .int 0, .int 0, .int 0, .int 0, .int 0, .int 0, .int 0, .ref m_letters, .ref m_starts, .ref m_lengths])), (m_memory, .inl (cI, 512, .inl (fun _ => 0)))] := hD
    refine lv_aload_n hx hb d_Mo_peek_20 rfl (lv_at hl 0 rfl) ?_
    refine va_get (D := (dC, dI)) (ci := 11) (v := .int 1) (C := "StoryMachineModel") (T := T_Mo) (N := 51) hx hb hts in_Mo hown hK hP 0 rfl rfl 0 (by decide) (hts _ mw_1063) (fun _ h9 => h9) rfl d_Mo_peek_21 ?_
    refine lv_if_le (tgt := 31) hx hb d_Mo_peek_24 (by decide) (fun h => absurd h (by decide)) (fun _ => ?_)
    refine lv_iconst (v := 0) hx hb d_Mo_peek_27 (by decide) ?_
    refine lv_goto (tgt := 37) hx hb d_Mo_peek_28 (by decide) ?_
    have hP9 := hP.sub (ws' := [(h0, .inr (11, [.int 1, .ref m_memory, .int 0, .ref m_words, .int 0, .ref m_many, .ref m_bottom, .ref m_back, .ref m_gets, .ref m_locals, .int 0, .ref m_oldMemory, .int 0, .ref m_oldWords, .int 0, .ref m_oldMany, .ref m_oldBottom, .ref m_oldBack, .ref m_oldGets, .ref m_oldLocals, .int 0, .int 0, .int 0, .int 0, .int 0, .int 0, .int 0, .int 0, .int 0, .int 0, .int 0, .int 0, .ref m_latest, .int 0, .int 0, .ref m_typed, .int 0, .ref m_line, .int 0, .ref m_numbers, .int 0, .int 0, .int 0, .int 0, .int 0, .int 0, .int 0, .int 0, .ref m_letters, .ref m_starts, .ref m_lengths]))]) [0] rfl
    have hD9 := hD.sub (ws' := [(h0, .inr (11, [.int 1, .ref m_memory, .int 0, .ref m_words, .int 0, .ref m_many, .ref m_bottom, .ref m_back, .ref m_gets, .ref m_locals, .int 0, .ref m_oldMemory, .int 0, .ref m_oldWords, .int 0, .ref m_oldMany, .ref m_oldBottom, .ref m_oldBack, .ref m_oldGets, .ref m_oldLocals, .int 0, .int 0, .int 0, .int 0, .int 0, .int 0, .int 0, .int 0, .int 0, .int 0, .int 0, .int 0, .ref m_latest, .int 0, .int 0, .ref m_typed, .int 0, .ref m_line, .int 0, .ref m_numbers, .int 0, .int 0, .int 0, .int 0, .int 0, .int 0, .int 0, .int 0, .ref m_letters, .ref m_starts, .ref m_lengths]))]) [0] (by decide) rfl
    refine W.widen (k := 0) (n := 0) (Nat.le_of_ble_eq_true rfl) (Nat.le_of_ble_eq_true rfl) ?_
    exact tx_ret (W.iret (v := 0) hx hb hr (fun t ht hW => ⟨⟨fun _ => ⟨rfl, ⟨_, rfl, by rw [ht]; exact hP9, hD9⟩⟩, fun h => absurd (Or.inl hc2) h⟩, hS.F ht⟩) (hS.2.2) d_Mo_peek_37)
  · refine lv_iload_n hx hb d_Mo_peek_5 rfl (lv_at hl 1 rfl) ?_
    refine lv_sipush (v := 511) hx hb d_Mo_peek_6 (by decide) ?_
    refine lv_icmp_le (tgt := 16) hx hb d_Mo_peek_9 (by decide) (fun hc9 => ?_) (fun hc9 => ?_)
    · refine lv_iconst (v := 0) hx hb d_Mo_peek_16 (by decide) ?_
      refine va_put (D := (dC, dI)) (ci := 11) (v := .int 0) (ty := .int) (C := "StoryMachineModel") (T := T_Mo) (N := 51) hx hb hts in_Mo t_Mo tk_Mo nm_Mo hown hK hP hD hS 0 rfl rfl 0 (by decide) (hts _ mw_1063) (fun _ h9 => h9) rfl (by decide +kernel) rfl rfl (Nat.le_of_ble_eq_true rfl) d_Mo_peek_17 (fun H locs hP hD hS => ?_)
      have hP : va_P (dC, dI) vcl [(h0, .inr (11, [.int 0, .ref m_memory, .int 0, .ref m_words, .int 0, .ref m_many, .ref m_bottom, .ref m_back, .ref m_gets, .ref m_locals, .int 0, .ref m_oldMemory, .int 0, .ref m_oldWords, .int 0, .ref m_oldMany, .ref m_oldBottom, .ref m_oldBack, .ref m_oldGets, .ref m_oldLocals, .int 0, .int 0, .int 0, .int 0, .int 0, .int 0, .int 0, .int 0, .int 0, .int 0, .int 0, .int 0, .ref m_latest, .int 0, .int 0, .ref m_typed, .int 0, .ref m_line, .int 0, .ref m_numbers, .int 0, .int 0, .int 0, .int 0, .int 0, .int 0, .int 0, .int 0, .ref m_letters, .ref m_starts, .ref m_lengths])), (m_memory, .inl (cI, 512, .inl (fun _ => 0)))] H := hP
      have hD : va_D A [(h0, .inr (11, [.int 0, .ref m_memory, .int 0, .ref m_words, .int 0, .ref m_many, .ref m_bottom, .ref m_back, .ref m_gets, .ref m_locals, .int 0, .ref m_oldMemory, .int 0, .ref m_oldWords, .int 0, .ref m_oldMany, .ref m_oldBottom, .ref m_oldBack, .ref m_oldGets, .ref m_oldLocals, .int 0, .int 0, .int 0, .int 0, .int 0, .int 0, .int 0, .int 0, .int 0, .int 0, .int 0, .int 0, .ref m_latest, .int 0, .int 0, .ref m_typed, .int 0, .ref m_line, .int 0, .ref m_numbers, .int 0, .int 0, .int 0, .int 0, .int 0, .int 0, .int 0, .int 0, .ref m_letters, .ref m_starts, .ref m_lengths])), (m_memory, .inl (cI, 512, .inl (fun _ => 0)))] := hD
      refine lv_aload_n hx hb d_Mo_peek_20 rfl (lv_at hl 0 rfl) ?_
      refine va_get (D := (dC, dI)) (ci := 11) (v := .int 0) (C := "StoryMachineModel") (T := T_Mo) (N := 51) hx hb hts in_Mo hown hK hP 0 rfl rfl 0 (by decide) (hts _ mw_1063) (fun _ h9 => h9) rfl d_Mo_peek_21 ?_
      refine lv_if_le (tgt := 31) hx hb d_Mo_peek_24 (by decide) (fun _ => ?_) (fun h => absurd h (by decide))
      refine lv_aload_n hx hb d_Mo_peek_31 rfl (lv_at hl 0 rfl) ?_
      refine va_get (D := (dC, dI)) (ci := 11) (v := .ref m_memory) (C := "StoryMachineModel") (T := T_Mo) (N := 51) hx hb hts in_Mo hown hK hP 0 rfl rfl 1 (by decide) (hts _ mw_1064) (fun _ h9 => h9) rfl d_Mo_peek_32 ?_
      refine lv_iload_n hx hb d_Mo_peek_35 rfl (lv_at hl 1 rfl) ?_
      refine va_iald hx hb hK hP 1 0 rfl rfl (ti_rng hc2 (ti_511 hc9) (by decide)) d_Mo_peek_36 ?_
      refine W.eq (g2 := F0 m 37 ls [.int 0]) rfl ?_
      have hP9 := hP.sub (ws' := [(h0, .inr (11, [.int 0, .ref m_memory, .int 0, .ref m_words, .int 0, .ref m_many, .ref m_bottom, .ref m_back, .ref m_gets, .ref m_locals, .int 0, .ref m_oldMemory, .int 0, .ref m_oldWords, .int 0, .ref m_oldMany, .ref m_oldBottom, .ref m_oldBack, .ref m_oldGets, .ref m_oldLocals, .int 0, .int 0, .int 0, .int 0, .int 0, .int 0, .int 0, .int 0, .int 0, .int 0, .int 0, .int 0, .ref m_latest, .int 0, .int 0, .ref m_typed, .int 0, .ref m_line, .int 0, .ref m_numbers, .int 0, .int 0, .int 0, .int 0, .int 0, .int 0, .int 0, .int 0, .ref m_letters, .ref m_starts, .ref m_lengths]))]) [0] rfl
      have hD9 := hD.sub (ws' := [(h0, .inr (11, [.int 0, .ref m_memory, .int 0, .ref m_words, .int 0, .ref m_many, .ref m_bottom, .ref m_back, .ref m_gets, .ref m_locals, .int 0, .ref m_oldMemory, .int 0, .ref m_oldWords, .int 0, .ref m_oldMany, .ref m_oldBottom, .ref m_oldBack, .ref m_oldGets, .ref m_oldLocals, .int 0, .int 0, .int 0, .int 0, .int 0, .int 0, .int 0, .int 0, .int 0, .int 0, .int 0, .int 0, .ref m_latest, .int 0, .int 0, .ref m_typed, .int 0, .ref m_line, .int 0, .ref m_numbers, .int 0, .int 0, .int 0, .int 0, .int 0, .int 0, .int 0, .int 0, .ref m_letters, .ref m_starts, .ref m_lengths]))]) [0] (by decide) rfl
      refine W.widen (k := 0) (n := 0) (Nat.le_of_ble_eq_true rfl) (Nat.le_of_ble_eq_true rfl) ?_
      exact tx_ret (W.iret (v := 0) hx hb hr (fun t ht hW => ⟨⟨fun h => absurd h (fun h => h.elim hc2 (fun h => (fun z => z (ti_511 hc9)) h)), fun _ => ⟨rfl, ⟨_, rfl, by rw [ht]; exact hP9, hD9⟩⟩⟩, hS.F ht⟩) (hS.2.2) d_Mo_peek_37)
    · refine lv_iconst (v := 1) hx hb d_Mo_peek_12 (by decide) ?_
      refine lv_goto (tgt := 17) hx hb d_Mo_peek_13 (by decide) ?_
      refine va_put (D := (dC, dI)) (ci := 11) (v := .int 1) (ty := .int) (C := "StoryMachineModel") (T := T_Mo) (N := 51) hx hb hts in_Mo t_Mo tk_Mo nm_Mo hown hK hP hD hS 0 rfl rfl 0 (by decide) (hts _ mw_1063) (fun _ h9 => h9) rfl (by decide +kernel) rfl rfl (Nat.le_of_ble_eq_true rfl) d_Mo_peek_17 (fun H locs hP hD hS => ?_)
      have hP : va_P (dC, dI) vcl [(h0, .inr (11, [.int 1, .ref m_memory, .int 0, .ref m_words, .int 0, .ref m_many, .ref m_bottom, .ref m_back, .ref m_gets, .ref m_locals, .int 0, .ref m_oldMemory, .int 0, .ref m_oldWords, .int 0, .ref m_oldMany, .ref m_oldBottom, .ref m_oldBack, .ref m_oldGets, .ref m_oldLocals, .int 0, .int 0, .int 0, .int 0, .int 0, .int 0, .int 0, .int 0, .int 0, .int 0, .int 0, .int 0, .ref m_latest, .int 0, .int 0, .ref m_typed, .int 0, .ref m_line, .int 0, .ref m_numbers, .int 0, .int 0, .int 0, .int 0, .int 0, .int 0, .int 0, .int 0, .ref m_letters, .ref m_starts, .ref m_lengths])), (m_memory, .inl (cI, 512, .inl (fun _ => 0)))] H := hP
      have hD : va_D A [(h0, .inr (11, [.int 1, .ref m_memory, .int 0, .ref m_words, .int 0, .ref m_many, .ref m_bottom, .ref m_back, .ref m_gets, .ref m_locals, .int 0, .ref m_oldMemory, .int 0, .ref m_oldWords, .int 0, .ref m_oldMany, .ref m_oldBottom, .ref m_oldBack, .ref m_oldGets, .ref m_oldLocals, .int 0, .int 0, .int 0, .int 0, .int 0, .int 0, .int 0, .int 0, .int 0, .int 0, .int 0, .int 0, .ref m_latest, .int 0, .int 0, .ref m_typed, .int 0, .ref m_line, .int 0, .ref m_numbers, .int 0, .int 0, .int 0, .int 0, .int 0, .int 0, .int 0, .int 0, .ref m_letters, .ref m_starts, .ref m_lengths])), (m_memory, .inl (cI, 512, .inl (fun _ => 0)))] := hD
      refine lv_aload_n hx hb d_Mo_peek_20 rfl (lv_at hl 0 rfl) ?_
      refine va_get (D := (dC, dI)) (ci := 11) (v := .int 1) (C := "StoryMachineModel") (T := T_Mo) (N := 51) hx hb hts in_Mo hown hK hP 0 rfl rfl 0 (by decide) (hts _ mw_1063) (fun _ h9 => h9) rfl d_Mo_peek_21 ?_
      refine lv_if_le (tgt := 31) hx hb d_Mo_peek_24 (by decide) (fun h => absurd h (by decide)) (fun _ => ?_)
      refine lv_iconst (v := 0) hx hb d_Mo_peek_27 (by decide) ?_
      refine lv_goto (tgt := 37) hx hb d_Mo_peek_28 (by decide) ?_
      have hP9 := hP.sub (ws' := [(h0, .inr (11, [.int 1, .ref m_memory, .int 0, .ref m_words, .int 0, .ref m_many, .ref m_bottom, .ref m_back, .ref m_gets, .ref m_locals, .int 0, .ref m_oldMemory, .int 0, .ref m_oldWords, .int 0, .ref m_oldMany, .ref m_oldBottom, .ref m_oldBack, .ref m_oldGets, .ref m_oldLocals, .int 0, .int 0, .int 0, .int 0, .int 0, .int 0, .int 0, .int 0, .int 0, .int 0, .int 0, .int 0, .ref m_latest, .int 0, .int 0, .ref m_typed, .int 0, .ref m_line, .int 0, .ref m_numbers, .int 0, .int 0, .int 0, .int 0, .int 0, .int 0, .int 0, .int 0, .ref m_letters, .ref m_starts, .ref m_lengths]))]) [0] rfl
      have hD9 := hD.sub (ws' := [(h0, .inr (11, [.int 1, .ref m_memory, .int 0, .ref m_words, .int 0, .ref m_many, .ref m_bottom, .ref m_back, .ref m_gets, .ref m_locals, .int 0, .ref m_oldMemory, .int 0, .ref m_oldWords, .int 0, .ref m_oldMany, .ref m_oldBottom, .ref m_oldBack, .ref m_oldGets, .ref m_oldLocals, .int 0, .int 0, .int 0, .int 0, .int 0, .int 0, .int 0, .int 0, .int 0, .int 0, .int 0, .int 0, .ref m_latest, .int 0, .int 0, .ref m_typed, .int 0, .ref m_line, .int 0, .ref m_numbers, .int 0, .int 0, .int 0, .int 0, .int 0, .int 0, .int 0, .int 0, .ref m_letters, .ref m_starts, .ref m_lengths]))]) [0] (by decide) rfl
      refine W.widen (k := 0) (n := 0) (Nat.le_of_ble_eq_true rfl) (Nat.le_of_ble_eq_true rfl) ?_
      exact tx_ret (W.iret (v := 0) hx hb hr (fun t ht hW => ⟨⟨fun _ => ⟨rfl, ⟨_, rfl, by rw [ht]; exact hP9, hD9⟩⟩, fun h => absurd (Or.inr ((ti_n511 hc9))) h⟩, hS.F ht⟩) (hS.2.2) d_Mo_peek_37)
set_option maxHeartbeats 4000000 in
set_option maxRecDepth 100000 in
theorem c_Mo_begin (l : Launch) (hfl : l.flags = pinnedFlags ++ [noTraceFlag]) (dC : Nat → ClassId) (dI : Nat → Nat → Nat) (cI : ClassId) (h0 m_memory m_words m_many m_bottom m_back m_gets m_locals m_oldMemory m_oldWords m_oldMany m_oldBottom m_oldBack m_oldGets m_oldLocals m_latest m_typed m_line m_numbers m_letters m_starts m_lengths : Nat) (sz : Nat) : tx_Met l ⟨"StoryMachineModel", "begin", "()V"⟩ tw_tbl ({ frames := 1, cells := 0, slots := 0, locals := 40 }) (tq_P (dC, dI) vcl [.ref h0] sz [(h0, .inr (11, [.int 0, .ref m_memory, .int 0, .ref m_words, .int 0, .ref m_many, .ref m_bottom, .ref m_back, .ref m_gets, .ref m_locals, .int 0, .ref m_oldMemory, .int 0, .ref m_oldWords, .int 0, .ref m_oldMany, .ref m_oldBottom, .ref m_oldBack, .ref m_oldGets, .ref m_oldLocals, .int 0, .int 0, .int 0, .int 0, .int 0, .int 0, .int 0, .int 0, .int 0, .int 0, .int 0, .int 0, .ref m_latest, .int 0, .int 0, .ref m_typed, .int 0, .ref m_line, .int 0, .ref m_numbers, .int 0, .int 0, .int 0, .int 0, .int 0, .int 0, .int 0, .int 0, .ref m_letters, .ref m_starts, .ref m_lengths])), (m_memory, .inl (cI, 512, .inl (fun _ => 0))), (m_many, .inl (cI, 11, .inl (fun _ => 0))), (m_bottom, .inl (cI, 11, .inl (fun _ => 0)))] [(cI, .int)]) (tq_Q (fun o t => o = .returned none ∧ tm_Mo (dC, dI) vcl h0 0 (va_A [(h0, .inr (11, [.int 0, .ref m_memory, .int 0, .ref m_words, .int 0, .ref m_many, .ref m_bottom, .ref m_back, .ref m_gets, .ref m_locals, .int 0, .ref m_oldMemory, .int 0, .ref m_oldWords, .int 0, .ref m_oldMany, .ref m_oldBottom, .ref m_oldBack, .ref m_oldGets, .ref m_oldLocals, .int 0, .int 0, .int 0, .int 0, .int 0, .int 0, .int 0, .int 0, .int 0, .int 0, .int 0, .int 0, .ref m_latest, .int 0, .int 0, .ref m_typed, .int 0, .ref m_line, .int 0, .ref m_numbers, .int 0, .int 0, .int 0, .int 0, .int 0, .int 0, .int 0, .int 0, .ref m_letters, .ref m_starts, .ref m_lengths])), (m_memory, .inl (cI, 512, .inl (fun _ => 0))), (m_many, .inl (cI, 11, .inl (fun _ => 0))), (m_bottom, .inl (cI, 11, .inl (fun _ => 0)))] sz) t) (va_A [(h0, .inr (11, [.int 0, .ref m_memory, .int 0, .ref m_words, .int 0, .ref m_many, .ref m_bottom, .ref m_back, .ref m_gets, .ref m_locals, .int 0, .ref m_oldMemory, .int 0, .ref m_oldWords, .int 0, .ref m_oldMany, .ref m_oldBottom, .ref m_oldBack, .ref m_oldGets, .ref m_oldLocals, .int 0, .int 0, .int 0, .int 0, .int 0, .int 0, .int 0, .int 0, .int 0, .int 0, .int 0, .int 0, .ref m_latest, .int 0, .int 0, .ref m_typed, .int 0, .ref m_line, .int 0, .ref m_numbers, .int 0, .int 0, .int 0, .int 0, .int 0, .int 0, .int 0, .int 0, .ref m_letters, .ref m_starts, .ref m_lengths])), (m_memory, .inl (cI, 512, .inl (fun _ => 0))), (m_many, .inl (cI, 11, .inl (fun _ => 0))), (m_bottom, .inl (cI, 11, .inl (fun _ => 0)))] sz)) 0 0 (va_A [(h0, .inr (11, [.int 0, .ref m_memory, .int 0, .ref m_words, .int 0, .ref m_many, .ref m_bottom, .ref m_back, .ref m_gets, .ref m_locals, .int 0, .ref m_oldMemory, .int 0, .ref m_oldWords, .int 0, .ref m_oldMany, .ref m_oldBottom, .ref m_oldBack, .ref m_oldGets, .ref m_oldLocals, .int 0, .int 0, .int 0, .int 0, .int 0, .int 0, .int 0, .int 0, .int 0, .int 0, .int 0, .int 0, .ref m_latest, .int 0, .int 0, .ref m_typed, .int 0, .ref m_line, .int 0, .ref m_numbers, .int 0, .int 0, .int 0, .int 0, .int 0, .int 0, .int 0, .int 0, .ref m_letters, .ref m_starts, .ref m_lengths])), (m_memory, .inl (cI, 512, .inl (fun _ => 0))), (m_many, .inl (cI, 11, .inl (fun _ => 0))), (m_bottom, .inl (cI, 11, .inl (fun _ => 0)))] sz) := by
  refine tx_ofW (cc := prog_13_method_76_code) (maxL := 2) (ret := none) (by decide) (tx_isM mw_1512) ?_
  intro p e s m args below meth c s₁ B hml hv
  obtain ⟨rfl, hsz, hP, hK, hD0, hst0⟩ := hv
  have hx := B.exec
  have hb := B.bytes
  have hr := B.returns
  have hts := atoms_spec (ws := tw_tbl) B.pre
  have hown : s.vm.findClass "StoryMachineModel" = some m.cls := findClass_of_methodNamed B.named
  have hlocks := B.notSynchronized
  subst hsz
  have hD := hD0.self (sz := s.heap.size)
  have hst := fun (H : Heap) (locs : List Loc) (hS : va_S (va_A [(h0, .inr (11, [.int 0, .ref m_memory, .int 0, .ref m_words, .int 0, .ref m_many, .ref m_bottom, .ref m_back, .ref m_gets, .ref m_locals, .int 0, .ref m_oldMemory, .int 0, .ref m_oldWords, .int 0, .ref m_oldMany, .ref m_oldBottom, .ref m_oldBack, .ref m_oldGets, .ref m_oldLocals, .int 0, .int 0, .int 0, .int 0, .int 0, .int 0, .int 0, .int 0, .int 0, .int 0, .int 0, .int 0, .ref m_latest, .int 0, .int 0, .ref m_typed, .int 0, .ref m_line, .int 0, .ref m_numbers, .int 0, .int 0, .int 0, .int 0, .int 0, .int 0, .int 0, .int 0, .ref m_letters, .ref m_starts, .ref m_lengths])), (m_memory, .inl (cI, 512, .inl (fun _ => 0))), (m_many, .inl (cI, 11, .inl (fun _ => 0))), (m_bottom, .inl (cI, 11, .inl (fun _ => 0)))] s.heap.size) s.heap H locs) (U : State) (hU : U.heap = H) (hW : s.WarmedH U.vm) => ts_keep hW (fun q cell h1 h2 => by rw [hU]; exact ts_va hP hS q cell h1 h2) hst0
  generalize hAe : va_A [(h0, .inr (11, [.int 0, .ref m_memory, .int 0, .ref m_words, .int 0, .ref m_many, .ref m_bottom, .ref m_back, .ref m_gets, .ref m_locals, .int 0, .ref m_oldMemory, .int 0, .ref m_oldWords, .int 0, .ref m_oldMany, .ref m_oldBottom, .ref m_oldBack, .ref m_oldGets, .ref m_oldLocals, .int 0, .int 0, .int 0, .int 0, .int 0, .int 0, .int 0, .int 0, .int 0, .int 0, .int 0, .int 0, .ref m_latest, .int 0, .int 0, .ref m_typed, .int 0, .ref m_line, .int 0, .ref m_numbers, .int 0, .int 0, .int 0, .int 0, .int 0, .int 0, .int 0, .int 0, .ref m_letters, .ref m_starts, .ref m_lengths])), (m_memory, .inl (cI, 512, .inl (fun _ => 0))), (m_many, .inl (cI, 11, .inl (fun _ => 0))), (m_bottom, .inl (cI, 11, .inl (fun _ => 0)))] s.heap.size = A at hD hst ⊢
  have hA : ∀ q : Nat, s.heap.size ≤ q → A q := fun q h => by rw [← hAe]; exact Or.inr h
  have hS : va_S A s.heap s.heap [] := va_S.rf
  have hP : va_P (dC, dI) vcl [(h0, .inr (11, [.int 0, .ref m_memory, .int 0, .ref m_words, .int 0, .ref m_many, .ref m_bottom, .ref m_back, .ref m_gets, .ref m_locals, .int 0, .ref m_oldMemory, .int 0, .ref m_oldWords, .int 0, .ref m_oldMany, .ref m_oldBottom, .ref m_oldBack, .ref m_oldGets, .ref m_oldLocals, .int 0, .int 0, .int 0, .int 0, .int 0, .int 0, .int 0, .int 0, .int 0, .int 0, .int 0, .int 0, .ref m_latest, .int 0, .int 0, .ref m_typed, .int 0, .ref m_line, .int 0, .ref m_numbers, .int 0, .int 0, .int 0, .int 0, .int 0, .int 0, .int 0, .int 0, .ref m_letters, .ref m_starts, .ref m_lengths])), (m_memory, .inl (cI, 512, .inl (fun _ => 0))), (m_many, .inl (cI, 11, .inl (fun _ => 0))), (m_bottom, .inl (cI, 11, .inl (fun _ => 0)))] s.heap := hP
  have hl := lv_entry ([.ref h0]) (n := 2) (Nat.le_of_ble_eq_true rfl)
  rw [lg_entry_eq]
  generalize (lg_sl ([.ref h0]) ++ List.replicate (2 - (lg_sl ([.ref h0])).length) Slot.unset).toArray = ls at hl ⊢
  have hl : lv_has ls 2 [(0, .ref h0)] := hl
  refine lv_sipush (v := 256) hx hb d_Mo_begin_0 (by decide) ?_
  refine lv_aload_n hx hb d_Mo_begin_3 rfl (lv_at hl 0 rfl) ?_
  refine va_get (D := (dC, dI)) (ci := 11) (v := .ref m_memory) (C := "StoryMachineModel") (T := T_Mo) (N := 51) hx hb hts in_Mo hown hK hP 0 rfl rfl 1 (by decide) (hts _ mw_1064) (fun _ h9 => h9) rfl d_Mo_begin_4 ?_
  refine lv_iconst (v := 4) hx hb d_Mo_begin_7 (by decide) ?_
  refine va_iald hx hb hK hP 1 0 rfl rfl (show ¬ ((4 : Int32) < 0 ∨ 512 ≤ (4 : Int32).toNatClampNeg) by decide) d_Mo_begin_8 ?_
  refine W.eq (g2 := F0 m 9 ls [.int 0, .int 256]) rfl ?_
  refine lv_imul hx hb d_Mo_begin_9 ?_
  refine W.eq (g2 := F0 m 10 ls [.int 0]) rfl ?_
  refine lv_aload_n hx hb d_Mo_begin_10 rfl (lv_at hl 0 rfl) ?_
  refine va_get (D := (dC, dI)) (ci := 11) (v := .ref m_memory) (C := "StoryMachineModel") (T := T_Mo) (N := 51) hx hb hts in_Mo hown hK hP 0 rfl rfl 1 (by decide) (hts _ mw_1064) (fun _ h9 => h9) rfl d_Mo_begin_11 ?_
  refine lv_iconst (v := 5) hx hb d_Mo_begin_14 (by decide) ?_
  refine va_iald hx hb hK hP 1 0 rfl rfl (show ¬ ((5 : Int32) < 0 ∨ 512 ≤ (5 : Int32).toNatClampNeg) by decide) d_Mo_begin_15 ?_
  refine W.eq (g2 := F0 m 16 ls [.int 0, .int 0]) rfl ?_
  refine lv_iadd hx hb d_Mo_begin_16 ?_
  refine W.eq (g2 := F0 m 17 ls [.int 0]) rfl ?_
  refine lv_istore_n (lv' := [(1, .int 0), (0, .ref h0)]) hx hb d_Mo_begin_17 rfl hl (by decide) rfl (fun ls hl => ?_)
  refine lv_aload_n hx hb d_Mo_begin_18 rfl (lv_at hl 1 rfl) ?_
  refine lv_iload_n hx hb d_Mo_begin_19 rfl (lv_at hl 0 rfl) ?_
  refine lv_sipush (v := 511) hx hb d_Mo_begin_20 (by decide) ?_
  refine lv_icmp_le (tgt := 30) hx hb d_Mo_begin_23 (by decide) (fun _ => ?_) (fun h => absurd h (by decide))
  refine lv_iconst (v := 0) hx hb d_Mo_begin_30 (by decide) ?_
  refine va_put (D := (dC, dI)) (ci := 11) (v := .int 0) (ty := .int) (C := "StoryMachineModel") (T := T_Mo) (N := 51) hx hb hts in_Mo t_Mo tk_Mo nm_Mo hown hK hP hD hS 0 rfl rfl 0 (by decide) (hts _ mw_1063) (fun _ h9 => h9) rfl (by decide +kernel) rfl rfl (Nat.le_of_ble_eq_true rfl) d_Mo_begin_31 (fun H locs hP hD hS => ?_)
  have hP : va_P (dC, dI) vcl [(h0, .inr (11, [.int 0, .ref m_memory, .int 0, .ref m_words, .int 0, .ref m_many, .ref m_bottom, .ref m_back, .ref m_gets, .ref m_locals, .int 0, .ref m_oldMemory, .int 0, .ref m_oldWords, .int 0, .ref m_oldMany, .ref m_oldBottom, .ref m_oldBack, .ref m_oldGets, .ref m_oldLocals, .int 0, .int 0, .int 0, .int 0, .int 0, .int 0, .int 0, .int 0, .int 0, .int 0, .int 0, .int 0, .ref m_latest, .int 0, .int 0, .ref m_typed, .int 0, .ref m_line, .int 0, .ref m_numbers, .int 0, .int 0, .int 0, .int 0, .int 0, .int 0, .int 0, .int 0, .ref m_letters, .ref m_starts, .ref m_lengths])), (m_memory, .inl (cI, 512, .inl (fun _ => 0))), (m_many, .inl (cI, 11, .inl (fun _ => 0))), (m_bottom, .inl (cI, 11, .inl (fun _ => 0)))] H := hP
  have hD : va_D A [(h0, .inr (11, [.int 0, .ref m_memory, .int 0, .ref m_words, .int 0, .ref m_many, .ref m_bottom, .ref m_back, .ref m_gets, .ref m_locals, .int 0, .ref m_oldMemory, .int 0, .ref m_oldWords, .int 0, .ref m_oldMany, .ref m_oldBottom, .ref m_oldBack, .ref m_oldGets, .ref m_oldLocals, .int 0, .int 0, .int 0, .int 0, .int 0, .int 0, .int 0, .int 0, .int 0, .int 0, .int 0, .int 0, .ref m_latest, .int 0, .int 0, .ref m_typed, .int 0, .ref m_line, .int 0, .ref m_numbers, .int 0, .int 0, .int 0, .int 0, .int 0, .int 0, .int 0, .int 0, .ref m_letters, .ref m_starts, .ref m_lengths])), (m_memory, .inl (cI, 512, .inl (fun _ => 0))), (m_many, .inl (cI, 11, .inl (fun _ => 0))), (m_bottom, .inl (cI, 11, .inl (fun _ => 0)))] := hD
  refine lv_aload_n hx hb d_Mo_begin_34 rfl (lv_at hl 1 rfl) ?_
  refine va_get (D := (dC, dI)) (ci := 11) (v := .int 0) (C := "StoryMachineModel") (T := T_Mo) (N := 51) hx hb hts in_Mo hown hK hP 0 rfl rfl 0 (by decide) (hts _ mw_1063) (fun _ h9 => h9) rfl d_Mo_begin_35 ?_
  refine lv_if_le (tgt := 42) hx hb d_Mo_begin_38 (by decide) (fun _ => ?_) (fun h => absurd h (by decide))
  refine lv_aload_n hx hb d_Mo_begin_42 rfl (lv_at hl 1 rfl) ?_
  refine lv_iconst (v := 1) hx hb d_Mo_begin_43 (by decide) ?_
  refine va_put (D := (dC, dI)) (ci := 11) (v := .int 1) (ty := .boolean) (C := "StoryMachineModel") (T := T_Mo) (N := 51) hx hb hts in_Mo t_Mo tk_Mo nm_Mo hown hK hP hD hS 0 rfl rfl 23 (by decide) (hts _ mw_1086) (fun _ h9 => h9) rfl (by decide +kernel) (by decide) rfl (Nat.le_of_ble_eq_true rfl) d_Mo_begin_44 (fun H locs hP hD hS => ?_)
  have hP : va_P (dC, dI) vcl [(h0, .inr (11, [.int 0, .ref m_memory, .int 0, .ref m_words, .int 0, .ref m_many, .ref m_bottom, .ref m_back, .ref m_gets, .ref m_locals, .int 0, .ref m_oldMemory, .int 0, .ref m_oldWords, .int 0, .ref m_oldMany, .ref m_oldBottom, .ref m_oldBack, .ref m_oldGets, .ref m_oldLocals, .int 0, .int 0, .int 0, .int 1, .int 0, .int 0, .int 0, .int 0, .int 0, .int 0, .int 0, .int 0, .ref m_latest, .int 0, .int 0, .ref m_typed, .int 0, .ref m_line, .int 0, .ref m_numbers, .int 0, .int 0, .int 0, .int 0, .int 0, .int 0, .int 0, .int 0, .ref m_letters, .ref m_starts, .ref m_lengths])), (m_memory, .inl (cI, 512, .inl (fun _ => 0))), (m_many, .inl (cI, 11, .inl (fun _ => 0))), (m_bottom, .inl (cI, 11, .inl (fun _ => 0)))] H := hP
  have hD : va_D A [(h0, .inr (11, [.int 0, .ref m_memory, .int 0, .ref m_words, .int 0, .ref m_many, .ref m_bottom, .ref m_back, .ref m_gets, .ref m_locals, .int 0, .ref m_oldMemory, .int 0, .ref m_oldWords, .int 0, .ref m_oldMany, .ref m_oldBottom, .ref m_oldBack, .ref m_oldGets, .ref m_oldLocals, .int 0, .int 0, .int 0, .int 1, .int 0, .int 0, .int 0, .int 0, .int 0, .int 0, .int 0, .int 0, .ref m_latest, .int 0, .int 0, .ref m_typed, .int 0, .ref m_line, .int 0, .ref m_numbers, .int 0, .int 0, .int 0, .int 0, .int 0, .int 0, .int 0, .int 0, .ref m_letters, .ref m_starts, .ref m_lengths])), (m_memory, .inl (cI, 512, .inl (fun _ => 0))), (m_many, .inl (cI, 11, .inl (fun _ => 0))), (m_bottom, .inl (cI, 11, .inl (fun _ => 0)))] := hD
  refine lv_aload_n hx hb d_Mo_begin_47 rfl (lv_at hl 1 rfl) ?_
  refine lv_iload_n hx hb d_Mo_begin_48 rfl (lv_at hl 0 rfl) ?_
  refine va_put (D := (dC, dI)) (ci := 11) (v := .int 0) (ty := .int) (C := "StoryMachineModel") (T := T_Mo) (N := 51) hx hb hts in_Mo t_Mo tk_Mo nm_Mo hown hK hP hD hS 0 rfl rfl 27 (by decide) (hts _ mw_1090) (fun _ h9 => h9) rfl (by decide +kernel) rfl rfl (Nat.le_of_ble_eq_true rfl) d_Mo_begin_49 (fun H locs hP hD hS => ?_)
  have hP : va_P (dC, dI) vcl [(h0, .inr (11, [.int 0, .ref m_memory, .int 0, .ref m_words, .int 0, .ref m_many, .ref m_bottom, .ref m_back, .ref m_gets, .ref m_locals, .int 0, .ref m_oldMemory, .int 0, .ref m_oldWords, .int 0, .ref m_oldMany, .ref m_oldBottom, .ref m_oldBack, .ref m_oldGets, .ref m_oldLocals, .int 0, .int 0, .int 0, .int 1, .int 0, .int 0, .int 0, .int 0, .int 0, .int 0, .int 0, .int 0, .ref m_latest, .int 0, .int 0, .ref m_typed, .int 0, .ref m_line, .int 0, .ref m_numbers, .int 0, .int 0, .int 0, .int 0, .int 0, .int 0, .int 0, .int 0, .ref m_letters, .ref m_starts, .ref m_lengths])), (m_memory, .inl (cI, 512, .inl (fun _ => 0))), (m_many, .inl (cI, 11, .inl (fun _ => 0))), (m_bottom, .inl (cI, 11, .inl (fun _ => 0)))] H := hP
  have hD : va_D A [(h0, .inr (11, [.int 0, .ref m_memory, .int 0, .ref m_words, .int 0, .ref m_many, .ref m_bottom, .ref m_back, .ref m_gets, .ref m_locals, .int 0, .ref m_oldMemory, .int 0, .ref m_oldWords, .int 0, .ref m_oldMany, .ref m_oldBottom, .ref m_oldBack, .ref m_oldGets, .ref m_oldLocals, .int 0, .int 0, .int 0, .int 1, .int 0, .int 0, .int 0, .int 0, .int 0, .int 0, .int 0, .int 0, .ref m_latest, .int 0, .int 0, .ref m_typed, .int 0, .ref m_line, .int 0, .ref m_numbers, .int 0, .int 0, .int 0, .int 0, .int 0, .int 0, .int 0, .int 0, .ref m_letters, .ref m_starts, .ref m_lengths])), (m_memory, .inl (cI, 512, .inl (fun _ => 0))), (m_many, .inl (cI, 11, .inl (fun _ => 0))), (m_bottom, .inl (cI, 11, .inl (fun _ => 0)))] := hD
  refine lv_aload_n hx hb d_Mo_begin_52 rfl (lv_at hl 1 rfl) ?_
  refine lv_iconst (v := 0) hx hb d_Mo_begin_53 (by decide) ?_
  refine va_put (D := (dC, dI)) (ci := 11) (v := .int 0) (ty := .int) (C := "StoryMachineModel") (T := T_Mo) (N := 51) hx hb hts in_Mo t_Mo tk_Mo nm_Mo hown hK hP hD hS 0 rfl rfl 2 (by decide) (hts _ mw_1065) (fun _ h9 => h9) rfl (by decide +kernel) rfl rfl (Nat.le_of_ble_eq_true rfl) d_Mo_begin_54 (fun H locs hP hD hS => ?_)
  have hP : va_P (dC, dI) vcl [(h0, .inr (11, [.int 0, .ref m_memory, .int 0, .ref m_words, .int 0, .ref m_many, .ref m_bottom, .ref m_back, .ref m_gets, .ref m_locals, .int 0, .ref m_oldMemory, .int 0, .ref m_oldWords, .int 0, .ref m_oldMany, .ref m_oldBottom, .ref m_oldBack, .ref m_oldGets, .ref m_oldLocals, .int 0, .int 0, .int 0, .int 1, .int 0, .int 0, .int 0, .int 0, .int 0, .int 0, .int 0, .int 0, .ref m_latest, .int 0, .int 0, .ref m_typed, .int 0, .ref m_line, .int 0, .ref m_numbers, .int 0, .int 0, .int 0, .int 0, .int 0, .int 0, .int 0, .int 0, .ref m_letters, .ref m_starts, .ref m_lengths])), (m_memory, .inl (cI, 512, .inl (fun _ => 0))), (m_many, .inl (cI, 11, .inl (fun _ => 0))), (m_bottom, .inl (cI, 11, .inl (fun _ => 0)))] H := hP
  have hD : va_D A [(h0, .inr (11, [.int 0, .ref m_memory, .int 0, .ref m_words, .int 0, .ref m_many, .ref m_bottom, .ref m_back, .ref m_gets, .ref m_locals, .int 0, .ref m_oldMemory, .int 0, .ref m_oldWords, .int 0, .ref m_oldMany, .ref m_oldBottom, .ref m_oldBack, .ref m_oldGets, .ref m_oldLocals, .int 0, .int 0, .int 0, .int 1, .int 0, .int 0, .int 0, .int 0, .int 0, .int 0, .int 0, .int 0, .ref m_latest, .int 0, .int 0, .ref m_typed, .int 0, .ref m_line, .int 0, .ref m_numbers, .int 0, .int 0, .int 0, .int 0, .int 0, .int 0, .int 0, .int 0, .ref m_letters, .ref m_starts, .ref m_lengths])), (m_memory, .inl (cI, 512, .inl (fun _ => 0))), (m_many, .inl (cI, 11, .inl (fun _ => 0))), (m_bottom, .inl (cI, 11, .inl (fun _ => 0)))] := hD
  refine lv_aload_n hx hb d_Mo_begin_57 rfl (lv_at hl 1 rfl) ?_
  refine lv_iconst (v := 0) hx hb d_Mo_begin_58 (by decide) ?_
  refine va_put (D := (dC, dI)) (ci := 11) (v := .int 0) (ty := .int) (C := "StoryMachineModel") (T := T_Mo) (N := 51) hx hb hts in_Mo t_Mo tk_Mo nm_Mo hown hK hP hD hS 0 rfl rfl 4 (by decide) (hts _ mw_1067) (fun _ h9 => h9) rfl (by decide +kernel) rfl rfl (Nat.le_of_ble_eq_true rfl) d_Mo_begin_59 (fun H locs hP hD hS => ?_)
  have hP : va_P (dC, dI) vcl [(h0, .inr (11, [.int 0, .ref m_memory, .int 0, .ref m_words, .int 0, .ref m_many, .ref m_bottom, .ref m_back, .ref m_gets, .ref m_locals, .int 0, .ref m_oldMemory, .int 0, .ref m_oldWords, .int 0, .ref m_oldMany, .ref m_oldBottom, .ref m_oldBack, .ref m_oldGets, .ref m_oldLocals, .int 0, .int 0, .int 0, .int 1, .int 0, .int 0, .int 0, .int 0, .int 0, .int 0, .int 0, .int 0, .ref m_latest, .int 0, .int 0, .ref m_typed, .int 0, .ref m_line, .int 0, .ref m_numbers, .int 0, .int 0, .int 0, .int 0, .int 0, .int 0, .int 0, .int 0, .ref m_letters, .ref m_starts, .ref m_lengths])), (m_memory, .inl (cI, 512, .inl (fun _ => 0))), (m_many, .inl (cI, 11, .inl (fun _ => 0))), (m_bottom, .inl (cI, 11, .inl (fun _ => 0)))] H := hP
  have hD : va_D A [(h0, .inr (11, [.int 0, .ref m_memory, .int 0, .ref m_words, .int 0, .ref m_many, .ref m_bottom, .ref m_back, .ref m_gets, .ref m_locals, .int 0, .ref m_oldMemory, .int 0, .ref m_oldWords, .int 0, .ref m_oldMany, .ref m_oldBottom, .ref m_oldBack, .ref m_oldGets, .ref m_oldLocals, .int 0, .int 0, .int 0, .int 1, .int 0, .int 0, .int 0, .int 0, .int 0, .int 0, .int 0, .int 0, .ref m_latest, .int 0, .int 0, .ref m_typed, .int 0, .ref m_line, .int 0, .ref m_numbers, .int 0, .int 0, .int 0, .int 0, .int 0, .int 0, .int 0, .int 0, .ref m_letters, .ref m_starts, .ref m_lengths])), (m_memory, .inl (cI, 512, .inl (fun _ => 0))), (m_many, .inl (cI, 11, .inl (fun _ => 0))), (m_bottom, .inl (cI, 11, .inl (fun _ => 0)))] := hD
  refine lv_aload_n hx hb d_Mo_begin_62 rfl (lv_at hl 1 rfl) ?_
  refine va_get (D := (dC, dI)) (ci := 11) (v := .ref m_many) (C := "StoryMachineModel") (T := T_Mo) (N := 51) hx hb hts in_Mo hown hK hP 0 rfl rfl 5 (by decide) (hts _ mw_1068) (fun _ h9 => h9) rfl d_Mo_begin_63 ?_
  refine lv_iconst (v := 0) hx hb d_Mo_begin_66 (by decide) ?_
  refine lv_iconst (v := 0) hx hb d_Mo_begin_67 (by decide) ?_
  refine va_iast hx hb hK hP hD hS 2 0 rfl rfl (show ¬ ((0 : Int32) < 0 ∨ 11 ≤ (0 : Int32).toNatClampNeg) by decide) d_Mo_begin_68 (fun H locs hP hD hS => ?_)
  obtain ⟨f1, hf1⟩ : ∃ z : Nat → Int32, z = upd (fun _ => 0) (Int32.toNatClampNeg (0)) (0) := ⟨_, rfl⟩
  rw [← hf1] at hP hD
  have hP : va_P (dC, dI) vcl [(h0, .inr (11, [.int 0, .ref m_memory, .int 0, .ref m_words, .int 0, .ref m_many, .ref m_bottom, .ref m_back, .ref m_gets, .ref m_locals, .int 0, .ref m_oldMemory, .int 0, .ref m_oldWords, .int 0, .ref m_oldMany, .ref m_oldBottom, .ref m_oldBack, .ref m_oldGets, .ref m_oldLocals, .int 0, .int 0, .int 0, .int 1, .int 0, .int 0, .int 0, .int 0, .int 0, .int 0, .int 0, .int 0, .ref m_latest, .int 0, .int 0, .ref m_typed, .int 0, .ref m_line, .int 0, .ref m_numbers, .int 0, .int 0, .int 0, .int 0, .int 0, .int 0, .int 0, .int 0, .ref m_letters, .ref m_starts, .ref m_lengths])), (m_memory, .inl (cI, 512, .inl (fun _ => 0))), (m_many, .inl (cI, 11, .inl f1)), (m_bottom, .inl (cI, 11, .inl (fun _ => 0)))] H := hP
  have hD : va_D A [(h0, .inr (11, [.int 0, .ref m_memory, .int 0, .ref m_words, .int 0, .ref m_many, .ref m_bottom, .ref m_back, .ref m_gets, .ref m_locals, .int 0, .ref m_oldMemory, .int 0, .ref m_oldWords, .int 0, .ref m_oldMany, .ref m_oldBottom, .ref m_oldBack, .ref m_oldGets, .ref m_oldLocals, .int 0, .int 0, .int 0, .int 1, .int 0, .int 0, .int 0, .int 0, .int 0, .int 0, .int 0, .int 0, .ref m_latest, .int 0, .int 0, .ref m_typed, .int 0, .ref m_line, .int 0, .ref m_numbers, .int 0, .int 0, .int 0, .int 0, .int 0, .int 0, .int 0, .int 0, .ref m_letters, .ref m_starts, .ref m_lengths])), (m_memory, .inl (cI, 512, .inl (fun _ => 0))), (m_many, .inl (cI, 11, .inl f1)), (m_bottom, .inl (cI, 11, .inl (fun _ => 0)))] := hD
  refine lv_aload_n hx hb d_Mo_begin_69 rfl (lv_at hl 1 rfl) ?_
  refine va_get (D := (dC, dI)) (ci := 11) (v := .ref m_bottom) (C := "StoryMachineModel") (T := T_Mo) (N := 51) hx hb hts in_Mo hown hK hP 0 rfl rfl 6 (by decide) (hts _ mw_1069) (fun _ h9 => h9) rfl d_Mo_begin_70 ?_
  refine lv_iconst (v := 0) hx hb d_Mo_begin_73 (by decide) ?_
  refine lv_iconst (v := 0) hx hb d_Mo_begin_74 (by decide) ?_
  refine va_iast hx hb hK hP hD hS 3 0 rfl rfl (show ¬ ((0 : Int32) < 0 ∨ 11 ≤ (0 : Int32).toNatClampNeg) by decide) d_Mo_begin_75 (fun H locs hP hD hS => ?_)
  obtain ⟨f2, hf2⟩ : ∃ z : Nat → Int32, z = upd (fun _ => 0) (Int32.toNatClampNeg (0)) (0) := ⟨_, rfl⟩
  rw [← hf2] at hP hD
  have hP : va_P (dC, dI) vcl [(h0, .inr (11, [.int 0, .ref m_memory, .int 0, .ref m_words, .int 0, .ref m_many, .ref m_bottom, .ref m_back, .ref m_gets, .ref m_locals, .int 0, .ref m_oldMemory, .int 0, .ref m_oldWords, .int 0, .ref m_oldMany, .ref m_oldBottom, .ref m_oldBack, .ref m_oldGets, .ref m_oldLocals, .int 0, .int 0, .int 0, .int 1, .int 0, .int 0, .int 0, .int 0, .int 0, .int 0, .int 0, .int 0, .ref m_latest, .int 0, .int 0, .ref m_typed, .int 0, .ref m_line, .int 0, .ref m_numbers, .int 0, .int 0, .int 0, .int 0, .int 0, .int 0, .int 0, .int 0, .ref m_letters, .ref m_starts, .ref m_lengths])), (m_memory, .inl (cI, 512, .inl (fun _ => 0))), (m_many, .inl (cI, 11, .inl f1)), (m_bottom, .inl (cI, 11, .inl f2))] H := hP
  have hD : va_D A [(h0, .inr (11, [.int 0, .ref m_memory, .int 0, .ref m_words, .int 0, .ref m_many, .ref m_bottom, .ref m_back, .ref m_gets, .ref m_locals, .int 0, .ref m_oldMemory, .int 0, .ref m_oldWords, .int 0, .ref m_oldMany, .ref m_oldBottom, .ref m_oldBack, .ref m_oldGets, .ref m_oldLocals, .int 0, .int 0, .int 0, .int 1, .int 0, .int 0, .int 0, .int 0, .int 0, .int 0, .int 0, .int 0, .ref m_latest, .int 0, .int 0, .ref m_typed, .int 0, .ref m_line, .int 0, .ref m_numbers, .int 0, .int 0, .int 0, .int 0, .int 0, .int 0, .int 0, .int 0, .ref m_letters, .ref m_starts, .ref m_lengths])), (m_memory, .inl (cI, 512, .inl (fun _ => 0))), (m_many, .inl (cI, 11, .inl f1)), (m_bottom, .inl (cI, 11, .inl f2))] := hD
  refine lv_aload_n hx hb d_Mo_begin_76 rfl (lv_at hl 1 rfl) ?_
  refine lv_iconst (v := 0) hx hb d_Mo_begin_77 (by decide) ?_
  refine va_put (D := (dC, dI)) (ci := 11) (v := .int 0) (ty := .int) (C := "StoryMachineModel") (T := T_Mo) (N := 51) hx hb hts in_Mo t_Mo tk_Mo nm_Mo hown hK hP hD hS 0 rfl rfl 30 (by decide) (hts _ mw_1093) (fun _ h9 => h9) rfl (by decide +kernel) rfl rfl (Nat.le_of_ble_eq_true rfl) d_Mo_begin_78 (fun H locs hP hD hS => ?_)
  have hP : va_P (dC, dI) vcl [(h0, .inr (11, [.int 0, .ref m_memory, .int 0, .ref m_words, .int 0, .ref m_many, .ref m_bottom, .ref m_back, .ref m_gets, .ref m_locals, .int 0, .ref m_oldMemory, .int 0, .ref m_oldWords, .int 0, .ref m_oldMany, .ref m_oldBottom, .ref m_oldBack, .ref m_oldGets, .ref m_oldLocals, .int 0, .int 0, .int 0, .int 1, .int 0, .int 0, .int 0, .int 0, .int 0, .int 0, .int 0, .int 0, .ref m_latest, .int 0, .int 0, .ref m_typed, .int 0, .ref m_line, .int 0, .ref m_numbers, .int 0, .int 0, .int 0, .int 0, .int 0, .int 0, .int 0, .int 0, .ref m_letters, .ref m_starts, .ref m_lengths])), (m_memory, .inl (cI, 512, .inl (fun _ => 0))), (m_many, .inl (cI, 11, .inl f1)), (m_bottom, .inl (cI, 11, .inl f2))] H := hP
  have hD : va_D A [(h0, .inr (11, [.int 0, .ref m_memory, .int 0, .ref m_words, .int 0, .ref m_many, .ref m_bottom, .ref m_back, .ref m_gets, .ref m_locals, .int 0, .ref m_oldMemory, .int 0, .ref m_oldWords, .int 0, .ref m_oldMany, .ref m_oldBottom, .ref m_oldBack, .ref m_oldGets, .ref m_oldLocals, .int 0, .int 0, .int 0, .int 1, .int 0, .int 0, .int 0, .int 0, .int 0, .int 0, .int 0, .int 0, .ref m_latest, .int 0, .int 0, .ref m_typed, .int 0, .ref m_line, .int 0, .ref m_numbers, .int 0, .int 0, .int 0, .int 0, .int 0, .int 0, .int 0, .int 0, .ref m_letters, .ref m_starts, .ref m_lengths])), (m_memory, .inl (cI, 512, .inl (fun _ => 0))), (m_many, .inl (cI, 11, .inl f1)), (m_bottom, .inl (cI, 11, .inl f2))] := hD
  refine lv_aload_n hx hb d_Mo_begin_81 rfl (lv_at hl 1 rfl) ?_
  refine lv_iconst (v := 0) hx hb d_Mo_begin_82 (by decide) ?_
  refine va_put (D := (dC, dI)) (ci := 11) (v := .int 0) (ty := .int) (C := "StoryMachineModel") (T := T_Mo) (N := 51) hx hb hts in_Mo t_Mo tk_Mo nm_Mo hown hK hP hD hS 0 rfl rfl 31 (by decide) (hts _ mw_1094) (fun _ h9 => h9) rfl (by decide +kernel) rfl rfl (Nat.le_of_ble_eq_true rfl) d_Mo_begin_83 (fun H locs hP hD hS => ?_)
  have hP : va_P (dC, dI) vcl [(h0, .inr (11, [.int 0, .ref m_memory, .int 0, .ref m_words, .int 0, .ref m_many, .ref m_bottom, .ref m_back, .ref m_gets, .ref m_locals, .int 0, .ref m_oldMemory, .int 0, .ref m_oldWords, .int 0, .ref m_oldMany, .ref m_oldBottom, .ref m_oldBack, .ref m_oldGets, .ref m_oldLocals, .int 0, .int 0, .int 0, .int 1, .int 0, .int 0, .int 0, .int 0, .int 0, .int 0, .int 0, .int 0, .ref m_latest, .int 0, .int 0, .ref m_typed, .int 0, .ref m_line, .int 0, .ref m_numbers, .int 0, .int 0, .int 0, .int 0, .int 0, .int 0, .int 0, .int 0, .ref m_letters, .ref m_starts, .ref m_lengths])), (m_memory, .inl (cI, 512, .inl (fun _ => 0))), (m_many, .inl (cI, 11, .inl f1)), (m_bottom, .inl (cI, 11, .inl f2))] H := hP
  have hD : va_D A [(h0, .inr (11, [.int 0, .ref m_memory, .int 0, .ref m_words, .int 0, .ref m_many, .ref m_bottom, .ref m_back, .ref m_gets, .ref m_locals, .int 0, .ref m_oldMemory, .int 0, .ref m_oldWords, .int 0, .ref m_oldMany, .ref m_oldBottom, .ref m_oldBack, .ref m_oldGets, .ref m_oldLocals, .int 0, .int 0, .int 0, .int 1, .int 0, .int 0, .int 0, .int 0, .int 0, .int 0, .int 0, .int 0, .ref m_latest, .int 0, .int 0, .ref m_typed, .int 0, .ref m_line, .int 0, .ref m_numbers, .int 0, .int 0, .int 0, .int 0, .int 0, .int 0, .int 0, .int 0, .ref m_letters, .ref m_starts, .ref m_lengths])), (m_memory, .inl (cI, 512, .inl (fun _ => 0))), (m_many, .inl (cI, 11, .inl f1)), (m_bottom, .inl (cI, 11, .inl f2))] := hD
  refine lv_aload_n hx hb d_Mo_begin_86 rfl (lv_at hl 1 rfl) ?_
  refine lv_iconst (v := 0) hx hb d_Mo_begin_87 (by decide) ?_
  refine va_put (D := (dC, dI)) (ci := 11) (v := .int 0) (ty := .int) (C := "StoryMachineModel") (T := T_Mo) (N := 51) hx hb hts in_Mo t_Mo tk_Mo nm_Mo hown hK hP hD hS 0 rfl rfl 34 (by decide) (hts _ mw_1097) (fun _ h9 => h9) rfl (by decide +kernel) rfl rfl (Nat.le_of_ble_eq_true rfl) d_Mo_begin_88 (fun H locs hP hD hS => ?_)
  have hP : va_P (dC, dI) vcl [(h0, .inr (11, [.int 0, .ref m_memory, .int 0, .ref m_words, .int 0, .ref m_many, .ref m_bottom, .ref m_back, .ref m_gets, .ref m_locals, .int 0, .ref m_oldMemory, .int 0, .ref m_oldWords, .int 0, .ref m_oldMany, .ref m_oldBottom, .ref m_oldBack, .ref m_oldGets, .ref m_oldLocals, .int 0, .int 0, .int 0, .int 1, .int 0, .int 0, .int 0, .int 0, .int 0, .int 0, .int 0, .int 0, .ref m_latest, .int 0, .int 0, .ref m_typed, .int 0, .ref m_line, .int 0, .ref m_numbers, .int 0, .int 0, .int 0, .int 0, .int 0, .int 0, .int 0, .int 0, .ref m_letters, .ref m_starts, .ref m_lengths])), (m_memory, .inl (cI, 512, .inl (fun _ => 0))), (m_many, .inl (cI, 11, .inl f1)), (m_bottom, .inl (cI, 11, .inl f2))] H := hP
  have hD : va_D A [(h0, .inr (11, [.int 0, .ref m_memory, .int 0, .ref m_words, .int 0, .ref m_many, .ref m_bottom, .ref m_back, .ref m_gets, .ref m_locals, .int 0, .ref m_oldMemory, .int 0, .ref m_oldWords, .int 0, .ref m_oldMany, .ref m_oldBottom, .ref m_oldBack, .ref m_oldGets, .ref m_oldLocals, .int 0, .int 0, .int 0, .int 1, .int 0, .int 0, .int 0, .int 0, .int 0, .int 0, .int 0, .int 0, .ref m_latest, .int 0, .int 0, .ref m_typed, .int 0, .ref m_line, .int 0, .ref m_numbers, .int 0, .int 0, .int 0, .int 0, .int 0, .int 0, .int 0, .int 0, .ref m_letters, .ref m_starts, .ref m_lengths])), (m_memory, .inl (cI, 512, .inl (fun _ => 0))), (m_many, .inl (cI, 11, .inl f1)), (m_bottom, .inl (cI, 11, .inl f2))] := hD
  refine lv_aload_n hx hb d_Mo_begin_91 rfl (lv_at hl 1 rfl) ?_
  refine lv_iconst (v := 0) hx hb d_Mo_begin_92 (by decide) ?_
  refine va_put (D := (dC, dI)) (ci := 11) (v := .int 0) (ty := .boolean) (C := "StoryMachineModel") (T := T_Mo) (N := 51) hx hb hts in_Mo t_Mo tk_Mo nm_Mo hown hK hP hD hS 0 rfl rfl 33 (by decide) (hts _ mw_1096) (fun _ h9 => h9) rfl (by decide +kernel) (by decide) rfl (Nat.le_of_ble_eq_true rfl) d_Mo_begin_93 (fun H locs hP hD hS => ?_)
  have hP : va_P (dC, dI) vcl [(h0, .inr (11, [.int 0, .ref m_memory, .int 0, .ref m_words, .int 0, .ref m_many, .ref m_bottom, .ref m_back, .ref m_gets, .ref m_locals, .int 0, .ref m_oldMemory, .int 0, .ref m_oldWords, .int 0, .ref m_oldMany, .ref m_oldBottom, .ref m_oldBack, .ref m_oldGets, .ref m_oldLocals, .int 0, .int 0, .int 0, .int 1, .int 0, .int 0, .int 0, .int 0, .int 0, .int 0, .int 0, .int 0, .ref m_latest, .int 0, .int 0, .ref m_typed, .int 0, .ref m_line, .int 0, .ref m_numbers, .int 0, .int 0, .int 0, .int 0, .int 0, .int 0, .int 0, .int 0, .ref m_letters, .ref m_starts, .ref m_lengths])), (m_memory, .inl (cI, 512, .inl (fun _ => 0))), (m_many, .inl (cI, 11, .inl f1)), (m_bottom, .inl (cI, 11, .inl f2))] H := hP
  have hD : va_D A [(h0, .inr (11, [.int 0, .ref m_memory, .int 0, .ref m_words, .int 0, .ref m_many, .ref m_bottom, .ref m_back, .ref m_gets, .ref m_locals, .int 0, .ref m_oldMemory, .int 0, .ref m_oldWords, .int 0, .ref m_oldMany, .ref m_oldBottom, .ref m_oldBack, .ref m_oldGets, .ref m_oldLocals, .int 0, .int 0, .int 0, .int 1, .int 0, .int 0, .int 0, .int 0, .int 0, .int 0, .int 0, .int 0, .ref m_latest, .int 0, .int 0, .ref m_typed, .int 0, .ref m_line, .int 0, .ref m_numbers, .int 0, .int 0, .int 0, .int 0, .int 0, .int 0, .int 0, .int 0, .ref m_letters, .ref m_starts, .ref m_lengths])), (m_memory, .inl (cI, 512, .inl (fun _ => 0))), (m_many, .inl (cI, 11, .inl f1)), (m_bottom, .inl (cI, 11, .inl f2))] := hD
  refine lv_aload_n hx hb d_Mo_begin_96 rfl (lv_at hl 1 rfl) ?_
  refine lv_iconst (v := 0) hx hb d_Mo_begin_97 (by decide) ?_
  refine va_put (D := (dC, dI)) (ci := 11) (v := .int 0) (ty := .boolean) (C := "StoryMachineModel") (T := T_Mo) (N := 51) hx hb hts in_Mo t_Mo tk_Mo nm_Mo hown hK hP hD hS 0 rfl rfl 10 (by decide) (hts _ mw_1073) (fun _ h9 => h9) rfl (by decide +kernel) (by decide) rfl (Nat.le_of_ble_eq_true rfl) d_Mo_begin_98 (fun H locs hP hD hS => ?_)
  have hP : va_P (dC, dI) vcl [(h0, .inr (11, [.int 0, .ref m_memory, .int 0, .ref m_words, .int 0, .ref m_many, .ref m_bottom, .ref m_back, .ref m_gets, .ref m_locals, .int 0, .ref m_oldMemory, .int 0, .ref m_oldWords, .int 0, .ref m_oldMany, .ref m_oldBottom, .ref m_oldBack, .ref m_oldGets, .ref m_oldLocals, .int 0, .int 0, .int 0, .int 1, .int 0, .int 0, .int 0, .int 0, .int 0, .int 0, .int 0, .int 0, .ref m_latest, .int 0, .int 0, .ref m_typed, .int 0, .ref m_line, .int 0, .ref m_numbers, .int 0, .int 0, .int 0, .int 0, .int 0, .int 0, .int 0, .int 0, .ref m_letters, .ref m_starts, .ref m_lengths])), (m_memory, .inl (cI, 512, .inl (fun _ => 0))), (m_many, .inl (cI, 11, .inl f1)), (m_bottom, .inl (cI, 11, .inl f2))] H := hP
  have hD : va_D A [(h0, .inr (11, [.int 0, .ref m_memory, .int 0, .ref m_words, .int 0, .ref m_many, .ref m_bottom, .ref m_back, .ref m_gets, .ref m_locals, .int 0, .ref m_oldMemory, .int 0, .ref m_oldWords, .int 0, .ref m_oldMany, .ref m_oldBottom, .ref m_oldBack, .ref m_oldGets, .ref m_oldLocals, .int 0, .int 0, .int 0, .int 1, .int 0, .int 0, .int 0, .int 0, .int 0, .int 0, .int 0, .int 0, .ref m_latest, .int 0, .int 0, .ref m_typed, .int 0, .ref m_line, .int 0, .ref m_numbers, .int 0, .int 0, .int 0, .int 0, .int 0, .int 0, .int 0, .int 0, .ref m_letters, .ref m_starts, .ref m_lengths])), (m_memory, .inl (cI, 512, .inl (fun _ => 0))), (m_many, .inl (cI, 11, .inl f1)), (m_bottom, .inl (cI, 11, .inl f2))] := hD
  refine lv_aload_n hx hb d_Mo_begin_101 rfl (lv_at hl 1 rfl) ?_
  refine lv_iconst (v := 0) hx hb d_Mo_begin_102 (by decide) ?_
  refine va_put (D := (dC, dI)) (ci := 11) (v := .int 0) (ty := .int) (C := "StoryMachineModel") (T := T_Mo) (N := 51) hx hb hts in_Mo t_Mo tk_Mo nm_Mo hown hK hP hD hS 0 rfl rfl 24 (by decide) (hts _ mw_1087) (fun _ h9 => h9) rfl (by decide +kernel) rfl rfl (Nat.le_of_ble_eq_true rfl) d_Mo_begin_103 (fun H locs hP hD hS => ?_)
  have hP : va_P (dC, dI) vcl [(h0, .inr (11, [.int 0, .ref m_memory, .int 0, .ref m_words, .int 0, .ref m_many, .ref m_bottom, .ref m_back, .ref m_gets, .ref m_locals, .int 0, .ref m_oldMemory, .int 0, .ref m_oldWords, .int 0, .ref m_oldMany, .ref m_oldBottom, .ref m_oldBack, .ref m_oldGets, .ref m_oldLocals, .int 0, .int 0, .int 0, .int 1, .int 0, .int 0, .int 0, .int 0, .int 0, .int 0, .int 0, .int 0, .ref m_latest, .int 0, .int 0, .ref m_typed, .int 0, .ref m_line, .int 0, .ref m_numbers, .int 0, .int 0, .int 0, .int 0, .int 0, .int 0, .int 0, .int 0, .ref m_letters, .ref m_starts, .ref m_lengths])), (m_memory, .inl (cI, 512, .inl (fun _ => 0))), (m_many, .inl (cI, 11, .inl f1)), (m_bottom, .inl (cI, 11, .inl f2))] H := hP
  have hD : va_D A [(h0, .inr (11, [.int 0, .ref m_memory, .int 0, .ref m_words, .int 0, .ref m_many, .ref m_bottom, .ref m_back, .ref m_gets, .ref m_locals, .int 0, .ref m_oldMemory, .int 0, .ref m_oldWords, .int 0, .ref m_oldMany, .ref m_oldBottom, .ref m_oldBack, .ref m_oldGets, .ref m_oldLocals, .int 0, .int 0, .int 0, .int 1, .int 0, .int 0, .int 0, .int 0, .int 0, .int 0, .int 0, .int 0, .ref m_latest, .int 0, .int 0, .ref m_typed, .int 0, .ref m_line, .int 0, .ref m_numbers, .int 0, .int 0, .int 0, .int 0, .int 0, .int 0, .int 0, .int 0, .ref m_letters, .ref m_starts, .ref m_lengths])), (m_memory, .inl (cI, 512, .inl (fun _ => 0))), (m_many, .inl (cI, 11, .inl f1)), (m_bottom, .inl (cI, 11, .inl f2))] := hD
  refine lv_aload_n hx hb d_Mo_begin_106 rfl (lv_at hl 1 rfl) ?_
  refine lv_iconst (v := 0) hx hb d_Mo_begin_107 (by decide) ?_
  refine va_put (D := (dC, dI)) (ci := 11) (v := .int 0) (ty := .int) (C := "StoryMachineModel") (T := T_Mo) (N := 51) hx hb hts in_Mo t_Mo tk_Mo nm_Mo hown hK hP hD hS 0 rfl rfl 29 (by decide) (hts _ mw_1092) (fun _ h9 => h9) rfl (by decide +kernel) rfl rfl (Nat.le_of_ble_eq_true rfl) d_Mo_begin_108 (fun H locs hP hD hS => ?_)
  have hP : va_P (dC, dI) vcl [(h0, .inr (11, [.int 0, .ref m_memory, .int 0, .ref m_words, .int 0, .ref m_many, .ref m_bottom, .ref m_back, .ref m_gets, .ref m_locals, .int 0, .ref m_oldMemory, .int 0, .ref m_oldWords, .int 0, .ref m_oldMany, .ref m_oldBottom, .ref m_oldBack, .ref m_oldGets, .ref m_oldLocals, .int 0, .int 0, .int 0, .int 1, .int 0, .int 0, .int 0, .int 0, .int 0, .int 0, .int 0, .int 0, .ref m_latest, .int 0, .int 0, .ref m_typed, .int 0, .ref m_line, .int 0, .ref m_numbers, .int 0, .int 0, .int 0, .int 0, .int 0, .int 0, .int 0, .int 0, .ref m_letters, .ref m_starts, .ref m_lengths])), (m_memory, .inl (cI, 512, .inl (fun _ => 0))), (m_many, .inl (cI, 11, .inl f1)), (m_bottom, .inl (cI, 11, .inl f2))] H := hP
  have hD : va_D A [(h0, .inr (11, [.int 0, .ref m_memory, .int 0, .ref m_words, .int 0, .ref m_many, .ref m_bottom, .ref m_back, .ref m_gets, .ref m_locals, .int 0, .ref m_oldMemory, .int 0, .ref m_oldWords, .int 0, .ref m_oldMany, .ref m_oldBottom, .ref m_oldBack, .ref m_oldGets, .ref m_oldLocals, .int 0, .int 0, .int 0, .int 1, .int 0, .int 0, .int 0, .int 0, .int 0, .int 0, .int 0, .int 0, .ref m_latest, .int 0, .int 0, .ref m_typed, .int 0, .ref m_line, .int 0, .ref m_numbers, .int 0, .int 0, .int 0, .int 0, .int 0, .int 0, .int 0, .int 0, .ref m_letters, .ref m_starts, .ref m_lengths])), (m_memory, .inl (cI, 512, .inl (fun _ => 0))), (m_many, .inl (cI, 11, .inl f1)), (m_bottom, .inl (cI, 11, .inl f2))] := hD
  have hP9 := hP.sub (ws' := [(h0, .inr (11, [.int 0, .ref m_memory, .int 0, .ref m_words, .int 0, .ref m_many, .ref m_bottom, .ref m_back, .ref m_gets, .ref m_locals, .int 0, .ref m_oldMemory, .int 0, .ref m_oldWords, .int 0, .ref m_oldMany, .ref m_oldBottom, .ref m_oldBack, .ref m_oldGets, .ref m_oldLocals, .int 0, .int 0, .int 0, .int 1, .int 0, .int 0, .int 0, .int 0, .int 0, .int 0, .int 0, .int 0, .ref m_latest, .int 0, .int 0, .ref m_typed, .int 0, .ref m_line, .int 0, .ref m_numbers, .int 0, .int 0, .int 0, .int 0, .int 0, .int 0, .int 0, .int 0, .ref m_letters, .ref m_starts, .ref m_lengths]))]) [0] rfl
  have hD9 := hD.sub (ws' := [(h0, .inr (11, [.int 0, .ref m_memory, .int 0, .ref m_words, .int 0, .ref m_many, .ref m_bottom, .ref m_back, .ref m_gets, .ref m_locals, .int 0, .ref m_oldMemory, .int 0, .ref m_oldWords, .int 0, .ref m_oldMany, .ref m_oldBottom, .ref m_oldBack, .ref m_oldGets, .ref m_oldLocals, .int 0, .int 0, .int 0, .int 1, .int 0, .int 0, .int 0, .int 0, .int 0, .int 0, .int 0, .int 0, .ref m_latest, .int 0, .int 0, .ref m_typed, .int 0, .ref m_line, .int 0, .ref m_numbers, .int 0, .int 0, .int 0, .int 0, .int 0, .int 0, .int 0, .int 0, .ref m_letters, .ref m_starts, .ref m_lengths]))]) [0] (by decide) rfl
  refine W.widen (k := 0) (n := 0) (Nat.le_of_ble_eq_true rfl) (Nat.le_of_ble_eq_true rfl) ?_
  exact tx_ret (W.vret hx hb hr (fun t ht hW => ⟨⟨rfl, ⟨_, rfl, by rw [ht]; exact hP9, hD9⟩⟩, hS.F ht⟩) (hS.2.2) d_Mo_begin_111)
set_option maxHeartbeats 4000000 in
set_option maxRecDepth 100000 in
theorem c_Mo_run (l : Launch) (hfl : l.flags = pinnedFlags ++ [noTraceFlag]) (dC : Nat → ClassId) (dI : Nat → Nat → Nat) (cI : ClassId) (h0 m_memory m_words m_many m_bottom m_back m_gets m_locals m_oldMemory m_oldWords m_oldMany m_oldBottom m_oldBack m_oldGets m_oldLocals m_latest m_typed m_line m_numbers m_letters m_starts m_lengths : Nat) (p0 : Int32) (sz : Nat) : tx_Met l ⟨"StoryMachineModel", "run", "(I)I"⟩ tw_tbl ({ frames := 1, cells := 0, slots := 0, locals := 40 }) (tq_P (dC, dI) vcl [.ref h0, .int p0] sz [(h0, .inr (11, [.int 0, .ref m_memory, .int 0, .ref m_words, .int 0, .ref m_many, .ref m_bottom, .ref m_back, .ref m_gets, .ref m_locals, .int 0, .ref m_oldMemory, .int 0, .ref m_oldWords, .int 0, .ref m_oldMany, .ref m_oldBottom, .ref m_oldBack, .ref m_oldGets, .ref m_oldLocals, .int 0, .int 0, .int 0, .int 0, .int 0, .int 0, .int 0, .int 0, .int 0, .int 0, .int 0, .int 0, .ref m_latest, .int 0, .int 0, .ref m_typed, .int 0, .ref m_line, .int 0, .ref m_numbers, .int 0, .int 0, .int 0, .int 0, .int 0, .int 0, .int 0, .int 0, .ref m_letters, .ref m_starts, .ref m_lengths]))] [(cI, .int)]) (tq_Q (fun o t => ((p0 < 1 ∨ ¬ p0 ≤ 300) → o = .returned (some (.int 0)) ∧ tm_Mo (dC, dI) vcl h0 1 (va_A [(h0, .inr (11, [.int 0, .ref m_memory, .int 0, .ref m_words, .int 0, .ref m_many, .ref m_bottom, .ref m_back, .ref m_gets, .ref m_locals, .int 0, .ref m_oldMemory, .int 0, .ref m_oldWords, .int 0, .ref m_oldMany, .ref m_oldBottom, .ref m_oldBack, .ref m_oldGets, .ref m_oldLocals, .int 0, .int 0, .int 0, .int 0, .int 0, .int 0, .int 0, .int 0, .int 0, .int 0, .int 0, .int 0, .ref m_latest, .int 0, .int 0, .ref m_typed, .int 0, .ref m_line, .int 0, .ref m_numbers, .int 0, .int 0, .int 0, .int 0, .int 0, .int 0, .int 0, .int 0, .ref m_letters, .ref m_starts, .ref m_lengths]))] sz) t) ∧ (¬ (p0 < 1 ∨ ¬ p0 ≤ 300) → o = .returned (some (.int 0)) ∧ tm_Mo (dC, dI) vcl h0 2 (va_A [(h0, .inr (11, [.int 0, .ref m_memory, .int 0, .ref m_words, .int 0, .ref m_many, .ref m_bottom, .ref m_back, .ref m_gets, .ref m_locals, .int 0, .ref m_oldMemory, .int 0, .ref m_oldWords, .int 0, .ref m_oldMany, .ref m_oldBottom, .ref m_oldBack, .ref m_oldGets, .ref m_oldLocals, .int 0, .int 0, .int 0, .int 0, .int 0, .int 0, .int 0, .int 0, .int 0, .int 0, .int 0, .int 0, .ref m_latest, .int 0, .int 0, .ref m_typed, .int 0, .ref m_line, .int 0, .ref m_numbers, .int 0, .int 0, .int 0, .int 0, .int 0, .int 0, .int 0, .int 0, .ref m_letters, .ref m_starts, .ref m_lengths]))] sz) t)) (va_A [(h0, .inr (11, [.int 0, .ref m_memory, .int 0, .ref m_words, .int 0, .ref m_many, .ref m_bottom, .ref m_back, .ref m_gets, .ref m_locals, .int 0, .ref m_oldMemory, .int 0, .ref m_oldWords, .int 0, .ref m_oldMany, .ref m_oldBottom, .ref m_oldBack, .ref m_oldGets, .ref m_oldLocals, .int 0, .int 0, .int 0, .int 0, .int 0, .int 0, .int 0, .int 0, .int 0, .int 0, .int 0, .int 0, .ref m_latest, .int 0, .int 0, .ref m_typed, .int 0, .ref m_line, .int 0, .ref m_numbers, .int 0, .int 0, .int 0, .int 0, .int 0, .int 0, .int 0, .int 0, .ref m_letters, .ref m_starts, .ref m_lengths]))] sz)) 0 0 (va_A [(h0, .inr (11, [.int 0, .ref m_memory, .int 0, .ref m_words, .int 0, .ref m_many, .ref m_bottom, .ref m_back, .ref m_gets, .ref m_locals, .int 0, .ref m_oldMemory, .int 0, .ref m_oldWords, .int 0, .ref m_oldMany, .ref m_oldBottom, .ref m_oldBack, .ref m_oldGets, .ref m_oldLocals, .int 0, .int 0, .int 0, .int 0, .int 0, .int 0, .int 0, .int 0, .int 0, .int 0, .int 0, .int 0, .ref m_latest, .int 0, .int 0, .ref m_typed, .int 0, .ref m_line, .int 0, .ref m_numbers, .int 0, .int 0, .int 0, .int 0, .int 0, .int 0, .int 0, .int 0, .ref m_letters, .ref m_starts, .ref m_lengths]))] sz) := by
  refine tx_ofW (cc := prog_13_method_72_code) (maxL := 3) (ret := (some .int)) (by decide) (tx_isM mw_1224) ?_
  intro p e s m args below meth c s₁ B hml hv
  obtain ⟨rfl, hsz, hP, hK, hD0, hst0⟩ := hv
  have hx := B.exec
  have hb := B.bytes
  have hr := B.returns
  have hts := atoms_spec (ws := tw_tbl) B.pre
  have hown : s.vm.findClass "StoryMachineModel" = some m.cls := findClass_of_methodNamed B.named
  have hlocks := B.notSynchronized
  subst hsz
  have hD := hD0.self (sz := s.heap.size)
  have hst := fun (H : Heap) (locs : List Loc) (hS : va_S (va_A [(h0, .inr (11, [.int 0, .ref m_memory, .int 0, .ref m_words, .int 0, .ref m_many, .ref m_bottom, .ref m_back, .ref m_gets, .ref m_locals, .int 0, .ref m_oldMemory, .int 0, .ref m_oldWords, .int 0, .ref m_oldMany, .ref m_oldBottom, .ref m_oldBack, .ref m_oldGets, .ref m_oldLocals, .int 0, .int 0, .int 0, .int 0, .int 0, .int 0, .int 0, .int 0, .int 0, .int 0, .int 0, .int 0, .ref m_latest, .int 0, .int 0, .ref m_typed, .int 0, .ref m_line, .int 0, .ref m_numbers, .int 0, .int 0, .int 0, .int 0, .int 0, .int 0, .int 0, .int 0, .ref m_letters, .ref m_starts, .ref m_lengths]))] s.heap.size) s.heap H locs) (U : State) (hU : U.heap = H) (hW : s.WarmedH U.vm) => ts_keep hW (fun q cell h1 h2 => by rw [hU]; exact ts_va hP hS q cell h1 h2) hst0
  generalize hAe : va_A [(h0, .inr (11, [.int 0, .ref m_memory, .int 0, .ref m_words, .int 0, .ref m_many, .ref m_bottom, .ref m_back, .ref m_gets, .ref m_locals, .int 0, .ref m_oldMemory, .int 0, .ref m_oldWords, .int 0, .ref m_oldMany, .ref m_oldBottom, .ref m_oldBack, .ref m_oldGets, .ref m_oldLocals, .int 0, .int 0, .int 0, .int 0, .int 0, .int 0, .int 0, .int 0, .int 0, .int 0, .int 0, .int 0, .ref m_latest, .int 0, .int 0, .ref m_typed, .int 0, .ref m_line, .int 0, .ref m_numbers, .int 0, .int 0, .int 0, .int 0, .int 0, .int 0, .int 0, .int 0, .ref m_letters, .ref m_starts, .ref m_lengths]))] s.heap.size = A at hD hst ⊢
  have hA : ∀ q : Nat, s.heap.size ≤ q → A q := fun q h => by rw [← hAe]; exact Or.inr h
  have hS : va_S A s.heap s.heap [] := va_S.rf
  have hP : va_P (dC, dI) vcl [(h0, .inr (11, [.int 0, .ref m_memory, .int 0, .ref m_words, .int 0, .ref m_many, .ref m_bottom, .ref m_back, .ref m_gets, .ref m_locals, .int 0, .ref m_oldMemory, .int 0, .ref m_oldWords, .int 0, .ref m_oldMany, .ref m_oldBottom, .ref m_oldBack, .ref m_oldGets, .ref m_oldLocals, .int 0, .int 0, .int 0, .int 0, .int 0, .int 0, .int 0, .int 0, .int 0, .int 0, .int 0, .int 0, .ref m_latest, .int 0, .int 0, .ref m_typed, .int 0, .ref m_line, .int 0, .ref m_numbers, .int 0, .int 0, .int 0, .int 0, .int 0, .int 0, .int 0, .int 0, .ref m_letters, .ref m_starts, .ref m_lengths]))] s.heap := hP
  have hl := lv_entry ([.ref h0, .int p0]) (n := 3) (Nat.le_of_ble_eq_true rfl)
  rw [lg_entry_eq]
  generalize (lg_sl ([.ref h0, .int p0]) ++ List.replicate (3 - (lg_sl ([.ref h0, .int p0])).length) Slot.unset).toArray = ls at hl ⊢
  have hl : lv_has ls 3 [(0, .ref h0), (1, .int p0)] := hl
  refine lv_aload_n hx hb d_Mo_run_0 rfl (lv_at hl 0 rfl) ?_
  refine lv_iload_n hx hb d_Mo_run_1 rfl (lv_at hl 1 rfl) ?_
  refine lv_iconst (v := 1) hx hb d_Mo_run_2 (by decide) ?_
  refine lv_icmp_lt (tgt := 13) hx hb d_Mo_run_3 (by decide) (fun hc3 => ?_) (fun hc3 => ?_)
  · refine lv_iconst (v := 1) hx hb d_Mo_run_13 (by decide) ?_
    refine lv_goto (tgt := 44) hx hb d_Mo_run_14 (by decide) ?_
    refine va_put (D := (dC, dI)) (ci := 11) (v := .int 1) (ty := .int) (C := "StoryMachineModel") (T := T_Mo) (N := 51) hx hb hts in_Mo t_Mo tk_Mo nm_Mo hown hK hP hD hS 0 rfl rfl 0 (by decide) (hts _ mw_1063) (fun _ h9 => h9) rfl (by decide +kernel) rfl rfl (Nat.le_of_ble_eq_true rfl) d_Mo_run_44 (fun H locs hP hD hS => ?_)
    have hP : va_P (dC, dI) vcl [(h0, .inr (11, [.int 1, .ref m_memory, .int 0, .ref m_words, .int 0, .ref m_many, .ref m_bottom, .ref m_back, .ref m_gets, .ref m_locals, .int 0, .ref m_oldMemory, .int 0, .ref m_oldWords, .int 0, .ref m_oldMany, .ref m_oldBottom, .ref m_oldBack, .ref m_oldGets, .ref m_oldLocals, .int 0, .int 0, .int 0, .int 0, .int 0, .int 0, .int 0, .int 0, .int 0, .int 0, .int 0, .int 0, .ref m_latest, .int 0, .int 0, .ref m_typed, .int 0, .ref m_line, .int 0, .ref m_numbers, .int 0, .int 0, .int 0, .int 0, .int 0, .int 0, .int 0, .int 0, .ref m_letters, .ref m_starts, .ref m_lengths]))] H := hP
    have hD : va_D A [(h0, .inr (11, [.int 1, .ref m_memory, .int 0, .ref m_words, .int 0, .ref m_many, .ref m_bottom, .ref m_back, .ref m_gets, .ref m_locals, .int 0, .ref m_oldMemory, .int 0, .ref m_oldWords, .int 0, .ref m_oldMany, .ref m_oldBottom, .ref m_oldBack, .ref m_oldGets, .ref m_oldLocals, .int 0, .int 0, .int 0, .int 0, .int 0, .int 0, .int 0, .int 0, .int 0, .int 0, .int 0, .int 0, .ref m_latest, .int 0, .int 0, .ref m_typed, .int 0, .ref m_line, .int 0, .ref m_numbers, .int 0, .int 0, .int 0, .int 0, .int 0, .int 0, .int 0, .int 0, .ref m_letters, .ref m_starts, .ref m_lengths]))] := hD
    refine lv_aload_n hx hb d_Mo_run_47 rfl (lv_at hl 0 rfl) ?_
    refine va_get (D := (dC, dI)) (ci := 11) (v := .int 1) (C := "StoryMachineModel") (T := T_Mo) (N := 51) hx hb hts in_Mo hown hK hP 0 rfl rfl 0 (by decide) (hts _ mw_1063) (fun _ h9 => h9) rfl d_Mo_run_48 ?_
    refine lv_if_le (tgt := 56) hx hb d_Mo_run_51 (by decide) (fun h => absurd h (by decide)) (fun _ => ?_)
    refine lv_iconst (v := 0) hx hb d_Mo_run_54 (by decide) ?_
    have hP9 := hP.sub (ws' := [(h0, .inr (11, [.int 1, .ref m_memory, .int 0, .ref m_words, .int 0, .ref m_many, .ref m_bottom, .ref m_back, .ref m_gets, .ref m_locals, .int 0, .ref m_oldMemory, .int 0, .ref m_oldWords, .int 0, .ref m_oldMany, .ref m_oldBottom, .ref m_oldBack, .ref m_oldGets, .ref m_oldLocals, .int 0, .int 0, .int 0, .int 0, .int 0, .int 0, .int 0, .int 0, .int 0, .int 0, .int 0, .int 0, .ref m_latest, .int 0, .int 0, .ref m_typed, .int 0, .ref m_line, .int 0, .ref m_numbers, .int 0, .int 0, .int 0, .int 0, .int 0, .int 0, .int 0, .int 0, .ref m_letters, .ref m_starts, .ref m_lengths]))]) [0] rfl
    have hD9 := hD.sub (ws' := [(h0, .inr (11, [.int 1, .ref m_memory, .int 0, .ref m_words, .int 0, .ref m_many, .ref m_bottom, .ref m_back, .ref m_gets, .ref m_locals, .int 0, .ref m_oldMemory, .int 0, .ref m_oldWords, .int 0, .ref m_oldMany, .ref m_oldBottom, .ref m_oldBack, .ref m_oldGets, .ref m_oldLocals, .int 0, .int 0, .int 0, .int 0, .int 0, .int 0, .int 0, .int 0, .int 0, .int 0, .int 0, .int 0, .ref m_latest, .int 0, .int 0, .ref m_typed, .int 0, .ref m_line, .int 0, .ref m_numbers, .int 0, .int 0, .int 0, .int 0, .int 0, .int 0, .int 0, .int 0, .ref m_letters, .ref m_starts, .ref m_lengths]))]) [0] (by decide) rfl
    refine W.widen (k := 0) (n := 0) (Nat.le_of_ble_eq_true rfl) (Nat.le_of_ble_eq_true rfl) ?_
    exact tx_ret (W.iret (v := 0) hx hb hr (fun t ht hW => ⟨⟨fun _ => ⟨rfl, ⟨_, rfl, by rw [ht]; exact hP9, hD9⟩⟩, fun h => absurd (Or.inl hc3) h⟩, hS.F ht⟩) (hS.2.2) d_Mo_run_55)
  · refine lv_iload_n hx hb d_Mo_run_6 rfl (lv_at hl 1 rfl) ?_
    refine lv_sipush (v := 300) hx hb d_Mo_run_7 (by decide) ?_
    refine lv_icmp_le (tgt := 17) hx hb d_Mo_run_10 (by decide) (fun hc10 => ?_) (fun hc10 => ?_)
    · refine lv_aload_n hx hb d_Mo_run_17 rfl (lv_at hl 0 rfl) ?_
      refine va_get (D := (dC, dI)) (ci := 11) (v := .int 0) (C := "StoryMachineModel") (T := T_Mo) (N := 51) hx hb hts in_Mo hown hK hP 0 rfl rfl 23 (by decide) (hts _ mw_1086) (fun _ h9 => h9) rfl d_Mo_run_18 ?_
      refine lv_if_eq (tgt := 39) hx hb d_Mo_run_21 (by decide) (fun _ => ?_) (fun h => absurd h (by decide))
      refine lv_iconst (v := 2) hx hb d_Mo_run_39 (by decide) ?_
      refine lv_goto (tgt := 44) hx hb d_Mo_run_40 (by decide) ?_
      refine va_put (D := (dC, dI)) (ci := 11) (v := .int 2) (ty := .int) (C := "StoryMachineModel") (T := T_Mo) (N := 51) hx hb hts in_Mo t_Mo tk_Mo nm_Mo hown hK hP hD hS 0 rfl rfl 0 (by decide) (hts _ mw_1063) (fun _ h9 => h9) rfl (by decide +kernel) rfl rfl (Nat.le_of_ble_eq_true rfl) d_Mo_run_44 (fun H locs hP hD hS => ?_)
      have hP : va_P (dC, dI) vcl [(h0, .inr (11, [.int 2, .ref m_memory, .int 0, .ref m_words, .int 0, .ref m_many, .ref m_bottom, .ref m_back, .ref m_gets, .ref m_locals, .int 0, .ref m_oldMemory, .int 0, .ref m_oldWords, .int 0, .ref m_oldMany, .ref m_oldBottom, .ref m_oldBack, .ref m_oldGets, .ref m_oldLocals, .int 0, .int 0, .int 0, .int 0, .int 0, .int 0, .int 0, .int 0, .int 0, .int 0, .int 0, .int 0, .ref m_latest, .int 0, .int 0, .ref m_typed, .int 0, .ref m_line, .int 0, .ref m_numbers, .int 0, .int 0, .int 0, .int 0, .int 0, .int 0, .int 0, .int 0, .ref m_letters, .ref m_starts, .ref m_lengths]))] H := hP
      have hD : va_D A [(h0, .inr (11, [.int 2, .ref m_memory, .int 0, .ref m_words, .int 0, .ref m_many, .ref m_bottom, .ref m_back, .ref m_gets, .ref m_locals, .int 0, .ref m_oldMemory, .int 0, .ref m_oldWords, .int 0, .ref m_oldMany, .ref m_oldBottom, .ref m_oldBack, .ref m_oldGets, .ref m_oldLocals, .int 0, .int 0, .int 0, .int 0, .int 0, .int 0, .int 0, .int 0, .int 0, .int 0, .int 0, .int 0, .ref m_latest, .int 0, .int 0, .ref m_typed, .int 0, .ref m_line, .int 0, .ref m_numbers, .int 0, .int 0, .int 0, .int 0, .int 0, .int 0, .int 0, .int 0, .ref m_letters, .ref m_starts, .ref m_lengths]))] := hD
      refine lv_aload_n hx hb d_Mo_run_47 rfl (lv_at hl 0 rfl) ?_
      refine va_get (D := (dC, dI)) (ci := 11) (v := .int 2) (C := "StoryMachineModel") (T := T_Mo) (N := 51) hx hb hts in_Mo hown hK hP 0 rfl rfl 0 (by decide) (hts _ mw_1063) (fun _ h9 => h9) rfl d_Mo_run_48 ?_
      refine lv_if_le (tgt := 56) hx hb d_Mo_run_51 (by decide) (fun h => absurd h (by decide)) (fun _ => ?_)
      refine lv_iconst (v := 0) hx hb d_Mo_run_54 (by decide) ?_
      have hP9 := hP.sub (ws' := [(h0, .inr (11, [.int 2, .ref m_memory, .int 0, .ref m_words, .int 0, .ref m_many, .ref m_bottom, .ref m_back, .ref m_gets, .ref m_locals, .int 0, .ref m_oldMemory, .int 0, .ref m_oldWords, .int 0, .ref m_oldMany, .ref m_oldBottom, .ref m_oldBack, .ref m_oldGets, .ref m_oldLocals, .int 0, .int 0, .int 0, .int 0, .int 0, .int 0, .int 0, .int 0, .int 0, .int 0, .int 0, .int 0, .ref m_latest, .int 0, .int 0, .ref m_typed, .int 0, .ref m_line, .int 0, .ref m_numbers, .int 0, .int 0, .int 0, .int 0, .int 0, .int 0, .int 0, .int 0, .ref m_letters, .ref m_starts, .ref m_lengths]))]) [0] rfl
      have hD9 := hD.sub (ws' := [(h0, .inr (11, [.int 2, .ref m_memory, .int 0, .ref m_words, .int 0, .ref m_many, .ref m_bottom, .ref m_back, .ref m_gets, .ref m_locals, .int 0, .ref m_oldMemory, .int 0, .ref m_oldWords, .int 0, .ref m_oldMany, .ref m_oldBottom, .ref m_oldBack, .ref m_oldGets, .ref m_oldLocals, .int 0, .int 0, .int 0, .int 0, .int 0, .int 0, .int 0, .int 0, .int 0, .int 0, .int 0, .int 0, .ref m_latest, .int 0, .int 0, .ref m_typed, .int 0, .ref m_line, .int 0, .ref m_numbers, .int 0, .int 0, .int 0, .int 0, .int 0, .int 0, .int 0, .int 0, .ref m_letters, .ref m_starts, .ref m_lengths]))]) [0] (by decide) rfl
      refine W.widen (k := 0) (n := 0) (Nat.le_of_ble_eq_true rfl) (Nat.le_of_ble_eq_true rfl) ?_
      exact tx_ret (W.iret (v := 0) hx hb hr (fun t ht hW => ⟨⟨fun h => absurd h (fun h => h.elim hc3 (fun h => (fun z => z hc10) h)), fun _ => ⟨rfl, ⟨_, rfl, by rw [ht]; exact hP9, hD9⟩⟩⟩, hS.F ht⟩) (hS.2.2) d_Mo_run_55)
    · refine lv_iconst (v := 1) hx hb d_Mo_run_13 (by decide) ?_
      refine lv_goto (tgt := 44) hx hb d_Mo_run_14 (by decide) ?_
      refine va_put (D := (dC, dI)) (ci := 11) (v := .int 1) (ty := .int) (C := "StoryMachineModel") (T := T_Mo) (N := 51) hx hb hts in_Mo t_Mo tk_Mo nm_Mo hown hK hP hD hS 0 rfl rfl 0 (by decide) (hts _ mw_1063) (fun _ h9 => h9) rfl (by decide +kernel) rfl rfl (Nat.le_of_ble_eq_true rfl) d_Mo_run_44 (fun H locs hP hD hS => ?_)
      have hP : va_P (dC, dI) vcl [(h0, .inr (11, [.int 1, .ref m_memory, .int 0, .ref m_words, .int 0, .ref m_many, .ref m_bottom, .ref m_back, .ref m_gets, .ref m_locals, .int 0, .ref m_oldMemory, .int 0, .ref m_oldWords, .int 0, .ref m_oldMany, .ref m_oldBottom, .ref m_oldBack, .ref m_oldGets, .ref m_oldLocals, .int 0, .int 0, .int 0, .int 0, .int 0, .int 0, .int 0, .int 0, .int 0, .int 0, .int 0, .int 0, .ref m_latest, .int 0, .int 0, .ref m_typed, .int 0, .ref m_line, .int 0, .ref m_numbers, .int 0, .int 0, .int 0, .int 0, .int 0, .int 0, .int 0, .int 0, .ref m_letters, .ref m_starts, .ref m_lengths]))] H := hP
      have hD : va_D A [(h0, .inr (11, [.int 1, .ref m_memory, .int 0, .ref m_words, .int 0, .ref m_many, .ref m_bottom, .ref m_back, .ref m_gets, .ref m_locals, .int 0, .ref m_oldMemory, .int 0, .ref m_oldWords, .int 0, .ref m_oldMany, .ref m_oldBottom, .ref m_oldBack, .ref m_oldGets, .ref m_oldLocals, .int 0, .int 0, .int 0, .int 0, .int 0, .int 0, .int 0, .int 0, .int 0, .int 0, .int 0, .int 0, .ref m_latest, .int 0, .int 0, .ref m_typed, .int 0, .ref m_line, .int 0, .ref m_numbers, .int 0, .int 0, .int 0, .int 0, .int 0, .int 0, .int 0, .int 0, .ref m_letters, .ref m_starts, .ref m_lengths]))] := hD
      refine lv_aload_n hx hb d_Mo_run_47 rfl (lv_at hl 0 rfl) ?_
      refine va_get (D := (dC, dI)) (ci := 11) (v := .int 1) (C := "StoryMachineModel") (T := T_Mo) (N := 51) hx hb hts in_Mo hown hK hP 0 rfl rfl 0 (by decide) (hts _ mw_1063) (fun _ h9 => h9) rfl d_Mo_run_48 ?_
      refine lv_if_le (tgt := 56) hx hb d_Mo_run_51 (by decide) (fun h => absurd h (by decide)) (fun _ => ?_)
      refine lv_iconst (v := 0) hx hb d_Mo_run_54 (by decide) ?_
      have hP9 := hP.sub (ws' := [(h0, .inr (11, [.int 1, .ref m_memory, .int 0, .ref m_words, .int 0, .ref m_many, .ref m_bottom, .ref m_back, .ref m_gets, .ref m_locals, .int 0, .ref m_oldMemory, .int 0, .ref m_oldWords, .int 0, .ref m_oldMany, .ref m_oldBottom, .ref m_oldBack, .ref m_oldGets, .ref m_oldLocals, .int 0, .int 0, .int 0, .int 0, .int 0, .int 0, .int 0, .int 0, .int 0, .int 0, .int 0, .int 0, .ref m_latest, .int 0, .int 0, .ref m_typed, .int 0, .ref m_line, .int 0, .ref m_numbers, .int 0, .int 0, .int 0, .int 0, .int 0, .int 0, .int 0, .int 0, .ref m_letters, .ref m_starts, .ref m_lengths]))]) [0] rfl
      have hD9 := hD.sub (ws' := [(h0, .inr (11, [.int 1, .ref m_memory, .int 0, .ref m_words, .int 0, .ref m_many, .ref m_bottom, .ref m_back, .ref m_gets, .ref m_locals, .int 0, .ref m_oldMemory, .int 0, .ref m_oldWords, .int 0, .ref m_oldMany, .ref m_oldBottom, .ref m_oldBack, .ref m_oldGets, .ref m_oldLocals, .int 0, .int 0, .int 0, .int 0, .int 0, .int 0, .int 0, .int 0, .int 0, .int 0, .int 0, .int 0, .ref m_latest, .int 0, .int 0, .ref m_typed, .int 0, .ref m_line, .int 0, .ref m_numbers, .int 0, .int 0, .int 0, .int 0, .int 0, .int 0, .int 0, .int 0, .ref m_letters, .ref m_starts, .ref m_lengths]))]) [0] (by decide) rfl
      refine W.widen (k := 0) (n := 0) (Nat.le_of_ble_eq_true rfl) (Nat.le_of_ble_eq_true rfl) ?_
      exact tx_ret (W.iret (v := 0) hx hb hr (fun t ht hW => ⟨⟨fun _ => ⟨rfl, ⟨_, rfl, by rw [ht]; exact hP9, hD9⟩⟩, fun h => absurd (Or.inr (hc10)) h⟩, hS.F ht⟩) (hS.2.2) d_Mo_run_55)
set_option maxHeartbeats 4000000 in
set_option maxRecDepth 100000 in
theorem c_Mo_steps (l : Launch) (hfl : l.flags = pinnedFlags ++ [noTraceFlag]) (dC : Nat → ClassId) (dI : Nat → Nat → Nat) (cI : ClassId) (h0 m_memory m_words m_many m_bottom m_back m_gets m_locals m_oldMemory m_oldWords m_oldMany m_oldBottom m_oldBack m_oldGets m_oldLocals m_latest m_typed m_line m_numbers m_letters m_starts m_lengths : Nat) (sz : Nat) : tx_Met l ⟨"StoryMachineModel", "steps", "()I"⟩ tw_tbl ({ frames := 1, cells := 0, slots := 0, locals := 40 }) (tq_P (dC, dI) vcl [.ref h0] sz [(h0, .inr (11, [.int 0, .ref m_memory, .int 0, .ref m_words, .int 0, .ref m_many, .ref m_bottom, .ref m_back, .ref m_gets, .ref m_locals, .int 0, .ref m_oldMemory, .int 0, .ref m_oldWords, .int 0, .ref m_oldMany, .ref m_oldBottom, .ref m_oldBack, .ref m_oldGets, .ref m_oldLocals, .int 0, .int 0, .int 0, .int 0, .int 0, .int 0, .int 0, .int 0, .int 0, .int 0, .int 0, .int 0, .ref m_latest, .int 0, .int 0, .ref m_typed, .int 0, .ref m_line, .int 0, .ref m_numbers, .int 0, .int 0, .int 0, .int 0, .int 0, .int 0, .int 0, .int 0, .ref m_letters, .ref m_starts, .ref m_lengths]))] [(cI, .int)]) (tq_Q (fun o t => o = .returned (some (.int 0))) (va_A [(h0, .inr (11, [.int 0, .ref m_memory, .int 0, .ref m_words, .int 0, .ref m_many, .ref m_bottom, .ref m_back, .ref m_gets, .ref m_locals, .int 0, .ref m_oldMemory, .int 0, .ref m_oldWords, .int 0, .ref m_oldMany, .ref m_oldBottom, .ref m_oldBack, .ref m_oldGets, .ref m_oldLocals, .int 0, .int 0, .int 0, .int 0, .int 0, .int 0, .int 0, .int 0, .int 0, .int 0, .int 0, .int 0, .ref m_latest, .int 0, .int 0, .ref m_typed, .int 0, .ref m_line, .int 0, .ref m_numbers, .int 0, .int 0, .int 0, .int 0, .int 0, .int 0, .int 0, .int 0, .ref m_letters, .ref m_starts, .ref m_lengths]))] sz)) 0 0 (va_A [(h0, .inr (11, [.int 0, .ref m_memory, .int 0, .ref m_words, .int 0, .ref m_many, .ref m_bottom, .ref m_back, .ref m_gets, .ref m_locals, .int 0, .ref m_oldMemory, .int 0, .ref m_oldWords, .int 0, .ref m_oldMany, .ref m_oldBottom, .ref m_oldBack, .ref m_oldGets, .ref m_oldLocals, .int 0, .int 0, .int 0, .int 0, .int 0, .int 0, .int 0, .int 0, .int 0, .int 0, .int 0, .int 0, .ref m_latest, .int 0, .int 0, .ref m_typed, .int 0, .ref m_line, .int 0, .ref m_numbers, .int 0, .int 0, .int 0, .int 0, .int 0, .int 0, .int 0, .int 0, .ref m_letters, .ref m_starts, .ref m_lengths]))] sz) := by
  refine tx_ofW (cc := prog_13_method_79_code) (maxL := 1) (ret := (some .int)) (by decide) (tx_isM mw_1526) ?_
  intro p e s m args below meth c s₁ B hml hv
  obtain ⟨rfl, hsz, hP, hK, hD0, hst0⟩ := hv
  have hx := B.exec
  have hb := B.bytes
  have hr := B.returns
  have hts := atoms_spec (ws := tw_tbl) B.pre
  have hown : s.vm.findClass "StoryMachineModel" = some m.cls := findClass_of_methodNamed B.named
  have hlocks := B.notSynchronized
  subst hsz
  have hD := hD0.self (sz := s.heap.size)
  have hst := fun (H : Heap) (locs : List Loc) (hS : va_S (va_A [(h0, .inr (11, [.int 0, .ref m_memory, .int 0, .ref m_words, .int 0, .ref m_many, .ref m_bottom, .ref m_back, .ref m_gets, .ref m_locals, .int 0, .ref m_oldMemory, .int 0, .ref m_oldWords, .int 0, .ref m_oldMany, .ref m_oldBottom, .ref m_oldBack, .ref m_oldGets, .ref m_oldLocals, .int 0, .int 0, .int 0, .int 0, .int 0, .int 0, .int 0, .int 0, .int 0, .int 0, .int 0, .int 0, .ref m_latest, .int 0, .int 0, .ref m_typed, .int 0, .ref m_line, .int 0, .ref m_numbers, .int 0, .int 0, .int 0, .int 0, .int 0, .int 0, .int 0, .int 0, .ref m_letters, .ref m_starts, .ref m_lengths]))] s.heap.size) s.heap H locs) (U : State) (hU : U.heap = H) (hW : s.WarmedH U.vm) => ts_keep hW (fun q cell h1 h2 => by rw [hU]; exact ts_va hP hS q cell h1 h2) hst0
  generalize hAe : va_A [(h0, .inr (11, [.int 0, .ref m_memory, .int 0, .ref m_words, .int 0, .ref m_many, .ref m_bottom, .ref m_back, .ref m_gets, .ref m_locals, .int 0, .ref m_oldMemory, .int 0, .ref m_oldWords, .int 0, .ref m_oldMany, .ref m_oldBottom, .ref m_oldBack, .ref m_oldGets, .ref m_oldLocals, .int 0, .int 0, .int 0, .int 0, .int 0, .int 0, .int 0, .int 0, .int 0, .int 0, .int 0, .int 0, .ref m_latest, .int 0, .int 0, .ref m_typed, .int 0, .ref m_line, .int 0, .ref m_numbers, .int 0, .int 0, .int 0, .int 0, .int 0, .int 0, .int 0, .int 0, .ref m_letters, .ref m_starts, .ref m_lengths]))] s.heap.size = A at hD hst ⊢
  have hA : ∀ q : Nat, s.heap.size ≤ q → A q := fun q h => by rw [← hAe]; exact Or.inr h
  have hS : va_S A s.heap s.heap [] := va_S.rf
  have hP : va_P (dC, dI) vcl [(h0, .inr (11, [.int 0, .ref m_memory, .int 0, .ref m_words, .int 0, .ref m_many, .ref m_bottom, .ref m_back, .ref m_gets, .ref m_locals, .int 0, .ref m_oldMemory, .int 0, .ref m_oldWords, .int 0, .ref m_oldMany, .ref m_oldBottom, .ref m_oldBack, .ref m_oldGets, .ref m_oldLocals, .int 0, .int 0, .int 0, .int 0, .int 0, .int 0, .int 0, .int 0, .int 0, .int 0, .int 0, .int 0, .ref m_latest, .int 0, .int 0, .ref m_typed, .int 0, .ref m_line, .int 0, .ref m_numbers, .int 0, .int 0, .int 0, .int 0, .int 0, .int 0, .int 0, .int 0, .ref m_letters, .ref m_starts, .ref m_lengths]))] s.heap := hP
  have hl := lv_entry ([.ref h0]) (n := 1) (Nat.le_of_ble_eq_true rfl)
  rw [lg_entry_eq]
  generalize (lg_sl ([.ref h0]) ++ List.replicate (1 - (lg_sl ([.ref h0])).length) Slot.unset).toArray = ls at hl ⊢
  have hl : lv_has ls 1 [(0, .ref h0)] := hl
  refine lv_aload_n hx hb d_Mo_steps_0 rfl (lv_at hl 0 rfl) ?_
  refine lv_iconst (v := 0) hx hb d_Mo_steps_1 (by decide) ?_
  refine va_put (D := (dC, dI)) (ci := 11) (v := .int 0) (ty := .int) (C := "StoryMachineModel") (T := T_Mo) (N := 51) hx hb hts in_Mo t_Mo tk_Mo nm_Mo hown hK hP hD hS 0 rfl rfl 0 (by decide) (hts _ mw_1063) (fun _ h9 => h9) rfl (by decide +kernel) rfl rfl (Nat.le_of_ble_eq_true rfl) d_Mo_steps_2 (fun H locs hP hD hS => ?_)
  have hP : va_P (dC, dI) vcl [(h0, .inr (11, [.int 0, .ref m_memory, .int 0, .ref m_words, .int 0, .ref m_many, .ref m_bottom, .ref m_back, .ref m_gets, .ref m_locals, .int 0, .ref m_oldMemory, .int 0, .ref m_oldWords, .int 0, .ref m_oldMany, .ref m_oldBottom, .ref m_oldBack, .ref m_oldGets, .ref m_oldLocals, .int 0, .int 0, .int 0, .int 0, .int 0, .int 0, .int 0, .int 0, .int 0, .int 0, .int 0, .int 0, .ref m_latest, .int 0, .int 0, .ref m_typed, .int 0, .ref m_line, .int 0, .ref m_numbers, .int 0, .int 0, .int 0, .int 0, .int 0, .int 0, .int 0, .int 0, .ref m_letters, .ref m_starts, .ref m_lengths]))] H := hP
  have hD : va_D A [(h0, .inr (11, [.int 0, .ref m_memory, .int 0, .ref m_words, .int 0, .ref m_many, .ref m_bottom, .ref m_back, .ref m_gets, .ref m_locals, .int 0, .ref m_oldMemory, .int 0, .ref m_oldWords, .int 0, .ref m_oldMany, .ref m_oldBottom, .ref m_oldBack, .ref m_oldGets, .ref m_oldLocals, .int 0, .int 0, .int 0, .int 0, .int 0, .int 0, .int 0, .int 0, .int 0, .int 0, .int 0, .int 0, .ref m_latest, .int 0, .int 0, .ref m_typed, .int 0, .ref m_line, .int 0, .ref m_numbers, .int 0, .int 0, .int 0, .int 0, .int 0, .int 0, .int 0, .int 0, .ref m_letters, .ref m_starts, .ref m_lengths]))] := hD
  refine lv_aload_n hx hb d_Mo_steps_5 rfl (lv_at hl 0 rfl) ?_
  refine va_get (D := (dC, dI)) (ci := 11) (v := .int 0) (C := "StoryMachineModel") (T := T_Mo) (N := 51) hx hb hts in_Mo hown hK hP 0 rfl rfl 29 (by decide) (hts _ mw_1092) (fun _ h9 => h9) rfl d_Mo_steps_6 ?_
  refine W.widen (k := 0) (n := 0) (Nat.le_of_ble_eq_true rfl) (Nat.le_of_ble_eq_true rfl) ?_
  exact tx_ret (W.iret (v := 0) hx hb hr (fun t ht hW => ⟨rfl, hS.F ht⟩) (hS.2.2) d_Mo_steps_9)
set_option maxHeartbeats 4000000 in
set_option maxRecDepth 100000 in
theorem c_Mo_place (l : Launch) (hfl : l.flags = pinnedFlags ++ [noTraceFlag]) (dC : Nat → ClassId) (dI : Nat → Nat → Nat) (cI : ClassId) (h0 m_memory m_words m_many m_bottom m_back m_gets m_locals m_oldMemory m_oldWords m_oldMany m_oldBottom m_oldBack m_oldGets m_oldLocals m_latest m_typed m_line m_numbers m_letters m_starts m_lengths : Nat) (sz : Nat) : tx_Met l ⟨"StoryMachineModel", "place", "()I"⟩ tw_tbl ({ frames := 1, cells := 0, slots := 0, locals := 40 }) (tq_P (dC, dI) vcl [.ref h0] sz [(h0, .inr (11, [.int 0, .ref m_memory, .int 0, .ref m_words, .int 0, .ref m_many, .ref m_bottom, .ref m_back, .ref m_gets, .ref m_locals, .int 0, .ref m_oldMemory, .int 0, .ref m_oldWords, .int 0, .ref m_oldMany, .ref m_oldBottom, .ref m_oldBack, .ref m_oldGets, .ref m_oldLocals, .int 0, .int 0, .int 0, .int 0, .int 0, .int 0, .int 0, .int 0, .int 0, .int 0, .int 0, .int 0, .ref m_latest, .int 0, .int 0, .ref m_typed, .int 0, .ref m_line, .int 0, .ref m_numbers, .int 0, .int 0, .int 0, .int 0, .int 0, .int 0, .int 0, .int 0, .ref m_letters, .ref m_starts, .ref m_lengths]))] [(cI, .int)]) (tq_Q (fun o t => o = .returned (some (.int (-1)))) (va_A [(h0, .inr (11, [.int 0, .ref m_memory, .int 0, .ref m_words, .int 0, .ref m_many, .ref m_bottom, .ref m_back, .ref m_gets, .ref m_locals, .int 0, .ref m_oldMemory, .int 0, .ref m_oldWords, .int 0, .ref m_oldMany, .ref m_oldBottom, .ref m_oldBack, .ref m_oldGets, .ref m_oldLocals, .int 0, .int 0, .int 0, .int 0, .int 0, .int 0, .int 0, .int 0, .int 0, .int 0, .int 0, .int 0, .ref m_latest, .int 0, .int 0, .ref m_typed, .int 0, .ref m_line, .int 0, .ref m_numbers, .int 0, .int 0, .int 0, .int 0, .int 0, .int 0, .int 0, .int 0, .ref m_letters, .ref m_starts, .ref m_lengths]))] sz)) 0 0 (va_A [(h0, .inr (11, [.int 0, .ref m_memory, .int 0, .ref m_words, .int 0, .ref m_many, .ref m_bottom, .ref m_back, .ref m_gets, .ref m_locals, .int 0, .ref m_oldMemory, .int 0, .ref m_oldWords, .int 0, .ref m_oldMany, .ref m_oldBottom, .ref m_oldBack, .ref m_oldGets, .ref m_oldLocals, .int 0, .int 0, .int 0, .int 0, .int 0, .int 0, .int 0, .int 0, .int 0, .int 0, .int 0, .int 0, .ref m_latest, .int 0, .int 0, .ref m_typed, .int 0, .ref m_line, .int 0, .ref m_numbers, .int 0, .int 0, .int 0, .int 0, .int 0, .int 0, .int 0, .int 0, .ref m_letters, .ref m_starts, .ref m_lengths]))] sz) := by
  refine tx_ofW (cc := prog_13_method_80_code) (maxL := 1) (ret := (some .int)) (by decide) (tx_isM mw_1530) ?_
  intro p e s m args below meth c s₁ B hml hv
  obtain ⟨rfl, hsz, hP, hK, hD0, hst0⟩ := hv
  have hx := B.exec
  have hb := B.bytes
  have hr := B.returns
  have hts := atoms_spec (ws := tw_tbl) B.pre
  have hown : s.vm.findClass "StoryMachineModel" = some m.cls := findClass_of_methodNamed B.named
  have hlocks := B.notSynchronized
  subst hsz
  have hD := hD0.self (sz := s.heap.size)
  have hst := fun (H : Heap) (locs : List Loc) (hS : va_S (va_A [(h0, .inr (11, [.int 0, .ref m_memory, .int 0, .ref m_words, .int 0, .ref m_many, .ref m_bottom, .ref m_back, .ref m_gets, .ref m_locals, .int 0, .ref m_oldMemory, .int 0, .ref m_oldWords, .int 0, .ref m_oldMany, .ref m_oldBottom, .ref m_oldBack, .ref m_oldGets, .ref m_oldLocals, .int 0, .int 0, .int 0, .int 0, .int 0, .int 0, .int 0, .int 0, .int 0, .int 0, .int 0, .int 0, .ref m_latest, .int 0, .int 0, .ref m_typed, .int 0, .ref m_line, .int 0, .ref m_numbers, .int 0, .int 0, .int 0, .int 0, .int 0, .int 0, .int 0, .int 0, .ref m_letters, .ref m_starts, .ref m_lengths]))] s.heap.size) s.heap H locs) (U : State) (hU : U.heap = H) (hW : s.WarmedH U.vm) => ts_keep hW (fun q cell h1 h2 => by rw [hU]; exact ts_va hP hS q cell h1 h2) hst0
  generalize hAe : va_A [(h0, .inr (11, [.int 0, .ref m_memory, .int 0, .ref m_words, .int 0, .ref m_many, .ref m_bottom, .ref m_back, .ref m_gets, .ref m_locals, .int 0, .ref m_oldMemory, .int 0, .ref m_oldWords, .int 0, .ref m_oldMany, .ref m_oldBottom, .ref m_oldBack, .ref m_oldGets, .ref m_oldLocals, .int 0, .int 0, .int 0, .int 0, .int 0, .int 0, .int 0, .int 0, .int 0, .int 0, .int 0, .int 0, .ref m_latest, .int 0, .int 0, .ref m_typed, .int 0, .ref m_line, .int 0, .ref m_numbers, .int 0, .int 0, .int 0, .int 0, .int 0, .int 0, .int 0, .int 0, .ref m_letters, .ref m_starts, .ref m_lengths]))] s.heap.size = A at hD hst ⊢
  have hA : ∀ q : Nat, s.heap.size ≤ q → A q := fun q h => by rw [← hAe]; exact Or.inr h
  have hS : va_S A s.heap s.heap [] := va_S.rf
  have hP : va_P (dC, dI) vcl [(h0, .inr (11, [.int 0, .ref m_memory, .int 0, .ref m_words, .int 0, .ref m_many, .ref m_bottom, .ref m_back, .ref m_gets, .ref m_locals, .int 0, .ref m_oldMemory, .int 0, .ref m_oldWords, .int 0, .ref m_oldMany, .ref m_oldBottom, .ref m_oldBack, .ref m_oldGets, .ref m_oldLocals, .int 0, .int 0, .int 0, .int 0, .int 0, .int 0, .int 0, .int 0, .int 0, .int 0, .int 0, .int 0, .ref m_latest, .int 0, .int 0, .ref m_typed, .int 0, .ref m_line, .int 0, .ref m_numbers, .int 0, .int 0, .int 0, .int 0, .int 0, .int 0, .int 0, .int 0, .ref m_letters, .ref m_starts, .ref m_lengths]))] s.heap := hP
  have hl := lv_entry ([.ref h0]) (n := 1) (Nat.le_of_ble_eq_true rfl)
  rw [lg_entry_eq]
  generalize (lg_sl ([.ref h0]) ++ List.replicate (1 - (lg_sl ([.ref h0])).length) Slot.unset).toArray = ls at hl ⊢
  have hl : lv_has ls 1 [(0, .ref h0)] := hl
  refine lv_aload_n hx hb d_Mo_place_0 rfl (lv_at hl 0 rfl) ?_
  refine lv_iconst (v := 0) hx hb d_Mo_place_1 (by decide) ?_
  refine va_put (D := (dC, dI)) (ci := 11) (v := .int 0) (ty := .int) (C := "StoryMachineModel") (T := T_Mo) (N := 51) hx hb hts in_Mo t_Mo tk_Mo nm_Mo hown hK hP hD hS 0 rfl rfl 0 (by decide) (hts _ mw_1063) (fun _ h9 => h9) rfl (by decide +kernel) rfl rfl (Nat.le_of_ble_eq_true rfl) d_Mo_place_2 (fun H locs hP hD hS => ?_)
  have hP : va_P (dC, dI) vcl [(h0, .inr (11, [.int 0, .ref m_memory, .int 0, .ref m_words, .int 0, .ref m_many, .ref m_bottom, .ref m_back, .ref m_gets, .ref m_locals, .int 0, .ref m_oldMemory, .int 0, .ref m_oldWords, .int 0, .ref m_oldMany, .ref m_oldBottom, .ref m_oldBack, .ref m_oldGets, .ref m_oldLocals, .int 0, .int 0, .int 0, .int 0, .int 0, .int 0, .int 0, .int 0, .int 0, .int 0, .int 0, .int 0, .ref m_latest, .int 0, .int 0, .ref m_typed, .int 0, .ref m_line, .int 0, .ref m_numbers, .int 0, .int 0, .int 0, .int 0, .int 0, .int 0, .int 0, .int 0, .ref m_letters, .ref m_starts, .ref m_lengths]))] H := hP
  have hD : va_D A [(h0, .inr (11, [.int 0, .ref m_memory, .int 0, .ref m_words, .int 0, .ref m_many, .ref m_bottom, .ref m_back, .ref m_gets, .ref m_locals, .int 0, .ref m_oldMemory, .int 0, .ref m_oldWords, .int 0, .ref m_oldMany, .ref m_oldBottom, .ref m_oldBack, .ref m_oldGets, .ref m_oldLocals, .int 0, .int 0, .int 0, .int 0, .int 0, .int 0, .int 0, .int 0, .int 0, .int 0, .int 0, .int 0, .ref m_latest, .int 0, .int 0, .ref m_typed, .int 0, .ref m_line, .int 0, .ref m_numbers, .int 0, .int 0, .int 0, .int 0, .int 0, .int 0, .int 0, .int 0, .ref m_letters, .ref m_starts, .ref m_lengths]))] := hD
  refine lv_aload_n hx hb d_Mo_place_5 rfl (lv_at hl 0 rfl) ?_
  refine va_get (D := (dC, dI)) (ci := 11) (v := .int 0) (C := "StoryMachineModel") (T := T_Mo) (N := 51) hx hb hts in_Mo hown hK hP 0 rfl rfl 23 (by decide) (hts _ mw_1086) (fun _ h9 => h9) rfl d_Mo_place_6 ?_
  refine lv_if_eq (tgt := 19) hx hb d_Mo_place_9 (by decide) (fun _ => ?_) (fun h => absurd h (by decide))
  refine lv_iconst (v := (-1)) hx hb d_Mo_place_19 (by decide) ?_
  refine W.widen (k := 0) (n := 0) (Nat.le_of_ble_eq_true rfl) (Nat.le_of_ble_eq_true rfl) ?_
  exact tx_ret (W.iret (v := (-1)) hx hb hr (fun t ht hW => ⟨rfl, hS.F ht⟩) (hS.2.2) d_Mo_place_20)
set_option maxHeartbeats 4000000 in
set_option maxRecDepth 100000 in
theorem c_Mo_routines (l : Launch) (hfl : l.flags = pinnedFlags ++ [noTraceFlag]) (dC : Nat → ClassId) (dI : Nat → Nat → Nat) (cI : ClassId) (h0 m_memory m_words m_many m_bottom m_back m_gets m_locals m_oldMemory m_oldWords m_oldMany m_oldBottom m_oldBack m_oldGets m_oldLocals m_latest m_typed m_line m_numbers m_letters m_starts m_lengths : Nat) (sz : Nat) : tx_Met l ⟨"StoryMachineModel", "routines", "()I"⟩ tw_tbl ({ frames := 1, cells := 0, slots := 0, locals := 40 }) (tq_P (dC, dI) vcl [.ref h0] sz [(h0, .inr (11, [.int 0, .ref m_memory, .int 0, .ref m_words, .int 0, .ref m_many, .ref m_bottom, .ref m_back, .ref m_gets, .ref m_locals, .int 0, .ref m_oldMemory, .int 0, .ref m_oldWords, .int 0, .ref m_oldMany, .ref m_oldBottom, .ref m_oldBack, .ref m_oldGets, .ref m_oldLocals, .int 0, .int 0, .int 0, .int 0, .int 0, .int 0, .int 0, .int 0, .int 0, .int 0, .int 0, .int 0, .ref m_latest, .int 0, .int 0, .ref m_typed, .int 0, .ref m_line, .int 0, .ref m_numbers, .int 0, .int 0, .int 0, .int 0, .int 0, .int 0, .int 0, .int 0, .ref m_letters, .ref m_starts, .ref m_lengths]))] [(cI, .int)]) (tq_Q (fun o t => o = .returned (some (.int 0))) (va_A [(h0, .inr (11, [.int 0, .ref m_memory, .int 0, .ref m_words, .int 0, .ref m_many, .ref m_bottom, .ref m_back, .ref m_gets, .ref m_locals, .int 0, .ref m_oldMemory, .int 0, .ref m_oldWords, .int 0, .ref m_oldMany, .ref m_oldBottom, .ref m_oldBack, .ref m_oldGets, .ref m_oldLocals, .int 0, .int 0, .int 0, .int 0, .int 0, .int 0, .int 0, .int 0, .int 0, .int 0, .int 0, .int 0, .ref m_latest, .int 0, .int 0, .ref m_typed, .int 0, .ref m_line, .int 0, .ref m_numbers, .int 0, .int 0, .int 0, .int 0, .int 0, .int 0, .int 0, .int 0, .ref m_letters, .ref m_starts, .ref m_lengths]))] sz)) 0 0 (va_A [(h0, .inr (11, [.int 0, .ref m_memory, .int 0, .ref m_words, .int 0, .ref m_many, .ref m_bottom, .ref m_back, .ref m_gets, .ref m_locals, .int 0, .ref m_oldMemory, .int 0, .ref m_oldWords, .int 0, .ref m_oldMany, .ref m_oldBottom, .ref m_oldBack, .ref m_oldGets, .ref m_oldLocals, .int 0, .int 0, .int 0, .int 0, .int 0, .int 0, .int 0, .int 0, .int 0, .int 0, .int 0, .int 0, .ref m_latest, .int 0, .int 0, .ref m_typed, .int 0, .ref m_line, .int 0, .ref m_numbers, .int 0, .int 0, .int 0, .int 0, .int 0, .int 0, .int 0, .int 0, .ref m_letters, .ref m_starts, .ref m_lengths]))] sz) := by
  refine tx_ofW (cc := prog_13_method_84_code) (maxL := 1) (ret := (some .int)) (by decide) (tx_isM mw_1546) ?_
  intro p e s m args below meth c s₁ B hml hv
  obtain ⟨rfl, hsz, hP, hK, hD0, hst0⟩ := hv
  have hx := B.exec
  have hb := B.bytes
  have hr := B.returns
  have hts := atoms_spec (ws := tw_tbl) B.pre
  have hown : s.vm.findClass "StoryMachineModel" = some m.cls := findClass_of_methodNamed B.named
  have hlocks := B.notSynchronized
  subst hsz
  have hD := hD0.self (sz := s.heap.size)
  have hst := fun (H : Heap) (locs : List Loc) (hS : va_S (va_A [(h0, .inr (11, [.int 0, .ref m_memory, .int 0, .ref m_words, .int 0, .ref m_many, .ref m_bottom, .ref m_back, .ref m_gets, .ref m_locals, .int 0, .ref m_oldMemory, .int 0, .ref m_oldWords, .int 0, .ref m_oldMany, .ref m_oldBottom, .ref m_oldBack, .ref m_oldGets, .ref m_oldLocals, .int 0, .int 0, .int 0, .int 0, .int 0, .int 0, .int 0, .int 0, .int 0, .int 0, .int 0, .int 0, .ref m_latest, .int 0, .int 0, .ref m_typed, .int 0, .ref m_line, .int 0, .ref m_numbers, .int 0, .int 0, .int 0, .int 0, .int 0, .int 0, .int 0, .int 0, .ref m_letters, .ref m_starts, .ref m_lengths]))] s.heap.size) s.heap H locs) (U : State) (hU : U.heap = H) (hW : s.WarmedH U.vm) => ts_keep hW (fun q cell h1 h2 => by rw [hU]; exact ts_va hP hS q cell h1 h2) hst0
  generalize hAe : va_A [(h0, .inr (11, [.int 0, .ref m_memory, .int 0, .ref m_words, .int 0, .ref m_many, .ref m_bottom, .ref m_back, .ref m_gets, .ref m_locals, .int 0, .ref m_oldMemory, .int 0, .ref m_oldWords, .int 0, .ref m_oldMany, .ref m_oldBottom, .ref m_oldBack, .ref m_oldGets, .ref m_oldLocals, .int 0, .int 0, .int 0, .int 0, .int 0, .int 0, .int 0, .int 0, .int 0, .int 0, .int 0, .int 0, .ref m_latest, .int 0, .int 0, .ref m_typed, .int 0, .ref m_line, .int 0, .ref m_numbers, .int 0, .int 0, .int 0, .int 0, .int 0, .int 0, .int 0, .int 0, .ref m_letters, .ref m_starts, .ref m_lengths]))] s.heap.size = A at hD hst ⊢
  have hA : ∀ q : Nat, s.heap.size ≤ q → A q := fun q h => by rw [← hAe]; exact Or.inr h
  have hS : va_S A s.heap s.heap [] := va_S.rf
  have hP : va_P (dC, dI) vcl [(h0, .inr (11, [.int 0, .ref m_memory, .int 0, .ref m_words, .int 0, .ref m_many, .ref m_bottom, .ref m_back, .ref m_gets, .ref m_locals, .int 0, .ref m_oldMemory, .int 0, .ref m_oldWords, .int 0, .ref m_oldMany, .ref m_oldBottom, .ref m_oldBack, .ref m_oldGets, .ref m_oldLocals, .int 0, .int 0, .int 0, .int 0, .int 0, .int 0, .int 0, .int 0, .int 0, .int 0, .int 0, .int 0, .ref m_latest, .int 0, .int 0, .ref m_typed, .int 0, .ref m_line, .int 0, .ref m_numbers, .int 0, .int 0, .int 0, .int 0, .int 0, .int 0, .int 0, .int 0, .ref m_letters, .ref m_starts, .ref m_lengths]))] s.heap := hP
  have hl := lv_entry ([.ref h0]) (n := 1) (Nat.le_of_ble_eq_true rfl)
  rw [lg_entry_eq]
  generalize (lg_sl ([.ref h0]) ++ List.replicate (1 - (lg_sl ([.ref h0])).length) Slot.unset).toArray = ls at hl ⊢
  have hl : lv_has ls 1 [(0, .ref h0)] := hl
  refine lv_aload_n hx hb d_Mo_routines_0 rfl (lv_at hl 0 rfl) ?_
  refine lv_iconst (v := 0) hx hb d_Mo_routines_1 (by decide) ?_
  refine va_put (D := (dC, dI)) (ci := 11) (v := .int 0) (ty := .int) (C := "StoryMachineModel") (T := T_Mo) (N := 51) hx hb hts in_Mo t_Mo tk_Mo nm_Mo hown hK hP hD hS 0 rfl rfl 0 (by decide) (hts _ mw_1063) (fun _ h9 => h9) rfl (by decide +kernel) rfl rfl (Nat.le_of_ble_eq_true rfl) d_Mo_routines_2 (fun H locs hP hD hS => ?_)
  have hP : va_P (dC, dI) vcl [(h0, .inr (11, [.int 0, .ref m_memory, .int 0, .ref m_words, .int 0, .ref m_many, .ref m_bottom, .ref m_back, .ref m_gets, .ref m_locals, .int 0, .ref m_oldMemory, .int 0, .ref m_oldWords, .int 0, .ref m_oldMany, .ref m_oldBottom, .ref m_oldBack, .ref m_oldGets, .ref m_oldLocals, .int 0, .int 0, .int 0, .int 0, .int 0, .int 0, .int 0, .int 0, .int 0, .int 0, .int 0, .int 0, .ref m_latest, .int 0, .int 0, .ref m_typed, .int 0, .ref m_line, .int 0, .ref m_numbers, .int 0, .int 0, .int 0, .int 0, .int 0, .int 0, .int 0, .int 0, .ref m_letters, .ref m_starts, .ref m_lengths]))] H := hP
  have hD : va_D A [(h0, .inr (11, [.int 0, .ref m_memory, .int 0, .ref m_words, .int 0, .ref m_many, .ref m_bottom, .ref m_back, .ref m_gets, .ref m_locals, .int 0, .ref m_oldMemory, .int 0, .ref m_oldWords, .int 0, .ref m_oldMany, .ref m_oldBottom, .ref m_oldBack, .ref m_oldGets, .ref m_oldLocals, .int 0, .int 0, .int 0, .int 0, .int 0, .int 0, .int 0, .int 0, .int 0, .int 0, .int 0, .int 0, .ref m_latest, .int 0, .int 0, .ref m_typed, .int 0, .ref m_line, .int 0, .ref m_numbers, .int 0, .int 0, .int 0, .int 0, .int 0, .int 0, .int 0, .int 0, .ref m_letters, .ref m_starts, .ref m_lengths]))] := hD
  refine lv_aload_n hx hb d_Mo_routines_5 rfl (lv_at hl 0 rfl) ?_
  refine va_get (D := (dC, dI)) (ci := 11) (v := .int 0) (C := "StoryMachineModel") (T := T_Mo) (N := 51) hx hb hts in_Mo hown hK hP 0 rfl rfl 4 (by decide) (hts _ mw_1067) (fun _ h9 => h9) rfl d_Mo_routines_6 ?_
  refine W.widen (k := 0) (n := 0) (Nat.le_of_ble_eq_true rfl) (Nat.le_of_ble_eq_true rfl) ?_
  exact tx_ret (W.iret (v := 0) hx hb hr (fun t ht hW => ⟨rfl, hS.F ht⟩) (hS.2.2) d_Mo_routines_9)
end
section
/-! Contracts; written by wip/tools/p1.py. -/
set_option maxHeartbeats 4000000 in
set_option maxRecDepth 100000 in
theorem c_Mo_output (l : Launch) (hfl : l.flags = pinnedFlags ++ [noTraceFlag]) (dC : Nat → ClassId) (dI : Nat → Nat → Nat) (cI : ClassId) (h0 m_memory m_words m_many m_bottom m_back m_gets m_locals m_oldMemory m_oldWords m_oldMany m_oldBottom m_oldBack m_oldGets m_oldLocals m_latest m_typed m_line m_numbers m_letters m_starts m_lengths : Nat) (p0 : Int32) (sz : Nat) : tx_Met l ⟨"StoryMachineModel", "output", "(I)I"⟩ tw_tbl ({ frames := 1, cells := 0, slots := 0, locals := 40 }) (tq_P (dC, dI) vcl [.ref h0, .int p0] sz [(h0, .inr (11, [.int 0, .ref m_memory, .int 0, .ref m_words, .int 0, .ref m_many, .ref m_bottom, .ref m_back, .ref m_gets, .ref m_locals, .int 0, .ref m_oldMemory, .int 0, .ref m_oldWords, .int 0, .ref m_oldMany, .ref m_oldBottom, .ref m_oldBack, .ref m_oldGets, .ref m_oldLocals, .int 0, .int 0, .int 0, .int 0, .int 0, .int 0, .int 0, .int 0, .int 0, .int 0, .int 0, .int 0, .ref m_latest, .int 0, .int 0, .ref m_typed, .int 0, .ref m_line, .int 0, .ref m_numbers, .int 0, .int 0, .int 0, .int 0, .int 0, .int 0, .int 0, .int 0, .ref m_letters, .ref m_starts, .ref m_lengths]))] [(cI, .int)]) (tq_Q (fun o t => ((p0 < (-1) ∨ 64 ≤ p0 ∨ 0 ≤ p0) → o = .returned (some (.int 0)) ∧ tm_Mo (dC, dI) vcl h0 1 (va_A [(h0, .inr (11, [.int 0, .ref m_memory, .int 0, .ref m_words, .int 0, .ref m_many, .ref m_bottom, .ref m_back, .ref m_gets, .ref m_locals, .int 0, .ref m_oldMemory, .int 0, .ref m_oldWords, .int 0, .ref m_oldMany, .ref m_oldBottom, .ref m_oldBack, .ref m_oldGets, .ref m_oldLocals, .int 0, .int 0, .int 0, .int 0, .int 0, .int 0, .int 0, .int 0, .int 0, .int 0, .int 0, .int 0, .ref m_latest, .int 0, .int 0, .ref m_typed, .int 0, .ref m_line, .int 0, .ref m_numbers, .int 0, .int 0, .int 0, .int 0, .int 0, .int 0, .int 0, .int 0, .ref m_letters, .ref m_starts, .ref m_lengths]))] sz) t) ∧ (¬ (p0 < (-1) ∨ 64 ≤ p0 ∨ 0 ≤ p0) → o = .returned (some (.int 0)) ∧ tm_Mo (dC, dI) vcl h0 0 (va_A [(h0, .inr (11, [.int 0, .ref m_memory, .int 0, .ref m_words, .int 0, .ref m_many, .ref m_bottom, .ref m_back, .ref m_gets, .ref m_locals, .int 0, .ref m_oldMemory, .int 0, .ref m_oldWords, .int 0, .ref m_oldMany, .ref m_oldBottom, .ref m_oldBack, .ref m_oldGets, .ref m_oldLocals, .int 0, .int 0, .int 0, .int 0, .int 0, .int 0, .int 0, .int 0, .int 0, .int 0, .int 0, .int 0, .ref m_latest, .int 0, .int 0, .ref m_typed, .int 0, .ref m_line, .int 0, .ref m_numbers, .int 0, .int 0, .int 0, .int 0, .int 0, .int 0, .int 0, .int 0, .ref m_letters, .ref m_starts, .ref m_lengths]))] sz) t)) (va_A [(h0, .inr (11, [.int 0, .ref m_memory, .int 0, .ref m_words, .int 0, .ref m_many, .ref m_bottom, .ref m_back, .ref m_gets, .ref m_locals, .int 0, .ref m_oldMemory, .int 0, .ref m_oldWords, .int 0, .ref m_oldMany, .ref m_oldBottom, .ref m_oldBack, .ref m_oldGets, .ref m_oldLocals, .int 0, .int 0, .int 0, .int 0, .int 0, .int 0, .int 0, .int 0, .int 0, .int 0, .int 0, .int 0, .ref m_latest, .int 0, .int 0, .ref m_typed, .int 0, .ref m_line, .int 0, .ref m_numbers, .int 0, .int 0, .int 0, .int 0, .int 0, .int 0, .int 0, .int 0, .ref m_letters, .ref m_starts, .ref m_lengths]))] sz)) 0 0 (va_A [(h0, .inr (11, [.int 0, .ref m_memory, .int 0, .ref m_words, .int 0, .ref m_many, .ref m_bottom, .ref m_back, .ref m_gets, .ref m_locals, .int 0, .ref m_oldMemory, .int 0, .ref m_oldWords, .int 0, .ref m_oldMany, .ref m_oldBottom, .ref m_oldBack, .ref m_oldGets, .ref m_oldLocals, .int 0, .int 0, .int 0, .int 0, .int 0, .int 0, .int 0, .int 0, .int 0, .int 0, .int 0, .int 0, .ref m_latest, .int 0, .int 0, .ref m_typed, .int 0, .ref m_line, .int 0, .ref m_numbers, .int 0, .int 0, .int 0, .int 0, .int 0, .int 0, .int 0, .int 0, .ref m_letters, .ref m_starts, .ref m_lengths]))] sz) := by
  refine tx_ofW (cc := prog_13_method_81_code) (maxL := 2) (ret := (some .int)) (by decide) (tx_isM mw_1534) ?_
  intro p e s m args below meth c s₁ B hml hv
  obtain ⟨rfl, hsz, hP, hK, hD0, hst0⟩ := hv
  have hx := B.exec
  have hb := B.bytes
  have hr := B.returns
  have hts := atoms_spec (ws := tw_tbl) B.pre
  have hown : s.vm.findClass "StoryMachineModel" = some m.cls := findClass_of_methodNamed B.named
  have hlocks := B.notSynchronized
  subst hsz
  have hD := hD0.self (sz := s.heap.size)
  have hst := fun (H : Heap) (locs : List Loc) (hS : va_S (va_A [(h0, .inr (11, [.int 0, .ref m_memory, .int 0, .ref m_words, .int 0, .ref m_many, .ref m_bottom, .ref m_back, .ref m_gets, .ref m_locals, .int 0, .ref m_oldMemory, .int 0, .ref m_oldWords, .int 0, .ref m_oldMany, .ref m_oldBottom, .ref m_oldBack, .ref m_oldGets, .ref m_oldLocals, .int 0, .int 0, .int 0, .int 0, .int 0, .int 0, .int 0, .int 0, .int 0, .int 0, .int 0, .int 0, .ref m_latest, .int 0, .int 0, .ref m_typed, .int 0, .ref m_line, .int 0, .ref m_numbers, .int 0, .int 0, .int 0, .int 0, .int 0, .int 0, .int 0, .int 0, .ref m_letters, .ref m_starts, .ref m_lengths]))] s.heap.size) s.heap H locs) (U : State) (hU : U.heap = H) (hW : s.WarmedH U.vm) => ts_keep hW (fun q cell h1 h2 => by rw [hU]; exact ts_va hP hS q cell h1 h2) hst0
  generalize hAe : va_A [(h0, .inr (11, [.int 0, .ref m_memory, .int 0, .ref m_words, .int 0, .ref m_many, .ref m_bottom, .ref m_back, .ref m_gets, .ref m_locals, .int 0, .ref m_oldMemory, .int 0, .ref m_oldWords, .int 0, .ref m_oldMany, .ref m_oldBottom, .ref m_oldBack, .ref m_oldGets, .ref m_oldLocals, .int 0, .int 0, .int 0, .int 0, .int 0, .int 0, .int 0, .int 0, .int 0, .int 0, .int 0, .int 0, .ref m_latest, .int 0, .int 0, .ref m_typed, .int 0, .ref m_line, .int 0, .ref m_numbers, .int 0, .int 0, .int 0, .int 0, .int 0, .int 0, .int 0, .int 0, .ref m_letters, .ref m_starts, .ref m_lengths]))] s.heap.size = A at hD hst ⊢
  have hA : ∀ q : Nat, s.heap.size ≤ q → A q := fun q h => by rw [← hAe]; exact Or.inr h
  have hS : va_S A s.heap s.heap [] := va_S.rf
  have hP : va_P (dC, dI) vcl [(h0, .inr (11, [.int 0, .ref m_memory, .int 0, .ref m_words, .int 0, .ref m_many, .ref m_bottom, .ref m_back, .ref m_gets, .ref m_locals, .int 0, .ref m_oldMemory, .int 0, .ref m_oldWords, .int 0, .ref m_oldMany, .ref m_oldBottom, .ref m_oldBack, .ref m_oldGets, .ref m_oldLocals, .int 0, .int 0, .int 0, .int 0, .int 0, .int 0, .int 0, .int 0, .int 0, .int 0, .int 0, .int 0, .ref m_latest, .int 0, .int 0, .ref m_typed, .int 0, .ref m_line, .int 0, .ref m_numbers, .int 0, .int 0, .int 0, .int 0, .int 0, .int 0, .int 0, .int 0, .ref m_letters, .ref m_starts, .ref m_lengths]))] s.heap := hP
  have hl := lv_entry ([.ref h0, .int p0]) (n := 2) (Nat.le_of_ble_eq_true rfl)
  rw [lg_entry_eq]
  generalize (lg_sl ([.ref h0, .int p0]) ++ List.replicate (2 - (lg_sl ([.ref h0, .int p0])).length) Slot.unset).toArray = ls at hl ⊢
  have hl : lv_has ls 2 [(0, .ref h0), (1, .int p0)] := hl
  refine lv_aload_n hx hb d_Mo_output_0 rfl (lv_at hl 0 rfl) ?_
  refine lv_iload_n hx hb d_Mo_output_1 rfl (lv_at hl 1 rfl) ?_
  refine lv_iconst (v := (-1)) hx hb d_Mo_output_2 (by decide) ?_
  refine lv_icmp_lt (tgt := 20) hx hb d_Mo_output_3 (by decide) (fun hc3 => ?_) (fun hc3 => ?_)
  · refine lv_iconst (v := 1) hx hb d_Mo_output_20 (by decide) ?_
    refine lv_goto (tgt := 25) hx hb d_Mo_output_21 (by decide) ?_
    refine va_put (D := (dC, dI)) (ci := 11) (v := .int 1) (ty := .int) (C := "StoryMachineModel") (T := T_Mo) (N := 51) hx hb hts in_Mo t_Mo tk_Mo nm_Mo hown hK hP hD hS 0 rfl rfl 0 (by decide) (hts _ mw_1063) (fun _ h9 => h9) rfl (by decide +kernel) rfl rfl (Nat.le_of_ble_eq_true rfl) d_Mo_output_25 (fun H locs hP hD hS => ?_)
    have hP : va_P (dC, dI) vcl [(h0, .inr (11, [.int 1, .ref m_memory, .int 0, .ref m_words, .int 0, .ref m_many, .ref m_bottom, .ref m_back, .ref m_gets, .ref m_locals, .int 0, .ref m_oldMemory, .int 0, .ref m_oldWords, .int 0, .ref m_oldMany, .ref m_oldBottom, .ref m_oldBack, .ref m_oldGets, .ref m_oldLocals, .int 0, .int 0, .int 0, .int 0, .int 0, .int 0, .int 0, .int 0, .int 0, .int 0, .int 0, .int 0, .ref m_latest, .int 0, .int 0, .ref m_typed, .int 0, .ref m_line, .int 0, .ref m_numbers, .int 0, .int 0, .int 0, .int 0, .int 0, .int 0, .int 0, .int 0, .ref m_letters, .ref m_starts, .ref m_lengths]))] H := hP
    have hD : va_D A [(h0, .inr (11, [.int 1, .ref m_memory, .int 0, .ref m_words, .int 0, .ref m_many, .ref m_bottom, .ref m_back, .ref m_gets, .ref m_locals, .int 0, .ref m_oldMemory, .int 0, .ref m_oldWords, .int 0, .ref m_oldMany, .ref m_oldBottom, .ref m_oldBack, .ref m_oldGets, .ref m_oldLocals, .int 0, .int 0, .int 0, .int 0, .int 0, .int 0, .int 0, .int 0, .int 0, .int 0, .int 0, .int 0, .ref m_latest, .int 0, .int 0, .ref m_typed, .int 0, .ref m_line, .int 0, .ref m_numbers, .int 0, .int 0, .int 0, .int 0, .int 0, .int 0, .int 0, .int 0, .ref m_letters, .ref m_starts, .ref m_lengths]))] := hD
    refine lv_aload_n hx hb d_Mo_output_28 rfl (lv_at hl 0 rfl) ?_
    refine va_get (D := (dC, dI)) (ci := 11) (v := .int 1) (C := "StoryMachineModel") (T := T_Mo) (N := 51) hx hb hts in_Mo hown hK hP 0 rfl rfl 0 (by decide) (hts _ mw_1063) (fun _ h9 => h9) rfl d_Mo_output_29 ?_
    refine lv_if_le (tgt := 37) hx hb d_Mo_output_32 (by decide) (fun h => absurd h (by decide)) (fun _ => ?_)
    refine lv_iconst (v := 0) hx hb d_Mo_output_35 (by decide) ?_
    have hP9 := hP.sub (ws' := [(h0, .inr (11, [.int 1, .ref m_memory, .int 0, .ref m_words, .int 0, .ref m_many, .ref m_bottom, .ref m_back, .ref m_gets, .ref m_locals, .int 0, .ref m_oldMemory, .int 0, .ref m_oldWords, .int 0, .ref m_oldMany, .ref m_oldBottom, .ref m_oldBack, .ref m_oldGets, .ref m_oldLocals, .int 0, .int 0, .int 0, .int 0, .int 0, .int 0, .int 0, .int 0, .int 0, .int 0, .int 0, .int 0, .ref m_latest, .int 0, .int 0, .ref m_typed, .int 0, .ref m_line, .int 0, .ref m_numbers, .int 0, .int 0, .int 0, .int 0, .int 0, .int 0, .int 0, .int 0, .ref m_letters, .ref m_starts, .ref m_lengths]))]) [0] rfl
    have hD9 := hD.sub (ws' := [(h0, .inr (11, [.int 1, .ref m_memory, .int 0, .ref m_words, .int 0, .ref m_many, .ref m_bottom, .ref m_back, .ref m_gets, .ref m_locals, .int 0, .ref m_oldMemory, .int 0, .ref m_oldWords, .int 0, .ref m_oldMany, .ref m_oldBottom, .ref m_oldBack, .ref m_oldGets, .ref m_oldLocals, .int 0, .int 0, .int 0, .int 0, .int 0, .int 0, .int 0, .int 0, .int 0, .int 0, .int 0, .int 0, .ref m_latest, .int 0, .int 0, .ref m_typed, .int 0, .ref m_line, .int 0, .ref m_numbers, .int 0, .int 0, .int 0, .int 0, .int 0, .int 0, .int 0, .int 0, .ref m_letters, .ref m_starts, .ref m_lengths]))]) [0] (by decide) rfl
    refine W.widen (k := 0) (n := 0) (Nat.le_of_ble_eq_true rfl) (Nat.le_of_ble_eq_true rfl) ?_
    exact tx_ret (W.iret (v := 0) hx hb hr (fun t ht hW => ⟨⟨fun _ => ⟨rfl, ⟨_, rfl, by rw [ht]; exact hP9, hD9⟩⟩, fun h => absurd (Or.inl hc3) h⟩, hS.F ht⟩) (hS.2.2) d_Mo_output_36)
  · refine lv_iload_n hx hb d_Mo_output_6 rfl (lv_at hl 1 rfl) ?_
    refine lv_bipush (v := 63) hx hb d_Mo_output_7 (by decide) ?_
    refine lv_icmp_gt (tgt := 20) hx hb d_Mo_output_9 (by decide) (fun hc9 => ?_) (fun hc9 => ?_)
    · refine lv_iconst (v := 1) hx hb d_Mo_output_20 (by decide) ?_
      refine lv_goto (tgt := 25) hx hb d_Mo_output_21 (by decide) ?_
      refine va_put (D := (dC, dI)) (ci := 11) (v := .int 1) (ty := .int) (C := "StoryMachineModel") (T := T_Mo) (N := 51) hx hb hts in_Mo t_Mo tk_Mo nm_Mo hown hK hP hD hS 0 rfl rfl 0 (by decide) (hts _ mw_1063) (fun _ h9 => h9) rfl (by decide +kernel) rfl rfl (Nat.le_of_ble_eq_true rfl) d_Mo_output_25 (fun H locs hP hD hS => ?_)
      have hP : va_P (dC, dI) vcl [(h0, .inr (11, [.int 1, .ref m_memory, .int 0, .ref m_words, .int 0, .ref m_many, .ref m_bottom, .ref m_back, .ref m_gets, .ref m_locals, .int 0, .ref m_oldMemory, .int 0, .ref m_oldWords, .int 0, .ref m_oldMany, .ref m_oldBottom, .ref m_oldBack, .ref m_oldGets, .ref m_oldLocals, .int 0, .int 0, .int 0, .int 0, .int 0, .int 0, .int 0, .int 0, .int 0, .int 0, .int 0, .int 0, .ref m_latest, .int 0, .int 0, .ref m_typed, .int 0, .ref m_line, .int 0, .ref m_numbers, .int 0, .int 0, .int 0, .int 0, .int 0, .int 0, .int 0, .int 0, .ref m_letters, .ref m_starts, .ref m_lengths]))] H := hP
      have hD : va_D A [(h0, .inr (11, [.int 1, .ref m_memory, .int 0, .ref m_words, .int 0, .ref m_many, .ref m_bottom, .ref m_back, .ref m_gets, .ref m_locals, .int 0, .ref m_oldMemory, .int 0, .ref m_oldWords, .int 0, .ref m_oldMany, .ref m_oldBottom, .ref m_oldBack, .ref m_oldGets, .ref m_oldLocals, .int 0, .int 0, .int 0, .int 0, .int 0, .int 0, .int 0, .int 0, .int 0, .int 0, .int 0, .int 0, .ref m_latest, .int 0, .int 0, .ref m_typed, .int 0, .ref m_line, .int 0, .ref m_numbers, .int 0, .int 0, .int 0, .int 0, .int 0, .int 0, .int 0, .int 0, .ref m_letters, .ref m_starts, .ref m_lengths]))] := hD
      refine lv_aload_n hx hb d_Mo_output_28 rfl (lv_at hl 0 rfl) ?_
      refine va_get (D := (dC, dI)) (ci := 11) (v := .int 1) (C := "StoryMachineModel") (T := T_Mo) (N := 51) hx hb hts in_Mo hown hK hP 0 rfl rfl 0 (by decide) (hts _ mw_1063) (fun _ h9 => h9) rfl d_Mo_output_29 ?_
      refine lv_if_le (tgt := 37) hx hb d_Mo_output_32 (by decide) (fun h => absurd h (by decide)) (fun _ => ?_)
      refine lv_iconst (v := 0) hx hb d_Mo_output_35 (by decide) ?_
      have hP9 := hP.sub (ws' := [(h0, .inr (11, [.int 1, .ref m_memory, .int 0, .ref m_words, .int 0, .ref m_many, .ref m_bottom, .ref m_back, .ref m_gets, .ref m_locals, .int 0, .ref m_oldMemory, .int 0, .ref m_oldWords, .int 0, .ref m_oldMany, .ref m_oldBottom, .ref m_oldBack, .ref m_oldGets, .ref m_oldLocals, .int 0, .int 0, .int 0, .int 0, .int 0, .int 0, .int 0, .int 0, .int 0, .int 0, .int 0, .int 0, .ref m_latest, .int 0, .int 0, .ref m_typed, .int 0, .ref m_line, .int 0, .ref m_numbers, .int 0, .int 0, .int 0, .int 0, .int 0, .int 0, .int 0, .int 0, .ref m_letters, .ref m_starts, .ref m_lengths]))]) [0] rfl
      have hD9 := hD.sub (ws' := [(h0, .inr (11, [.int 1, .ref m_memory, .int 0, .ref m_words, .int 0, .ref m_many, .ref m_bottom, .ref m_back, .ref m_gets, .ref m_locals, .int 0, .ref m_oldMemory, .int 0, .ref m_oldWords, .int 0, .ref m_oldMany, .ref m_oldBottom, .ref m_oldBack, .ref m_oldGets, .ref m_oldLocals, .int 0, .int 0, .int 0, .int 0, .int 0, .int 0, .int 0, .int 0, .int 0, .int 0, .int 0, .int 0, .ref m_latest, .int 0, .int 0, .ref m_typed, .int 0, .ref m_line, .int 0, .ref m_numbers, .int 0, .int 0, .int 0, .int 0, .int 0, .int 0, .int 0, .int 0, .ref m_letters, .ref m_starts, .ref m_lengths]))]) [0] (by decide) rfl
      refine W.widen (k := 0) (n := 0) (Nat.le_of_ble_eq_true rfl) (Nat.le_of_ble_eq_true rfl) ?_
      exact tx_ret (W.iret (v := 0) hx hb hr (fun t ht hW => ⟨⟨fun _ => ⟨rfl, ⟨_, rfl, by rw [ht]; exact hP9, hD9⟩⟩, fun h => absurd (Or.inr (Or.inl (ti_64 hc9))) h⟩, hS.F ht⟩) (hS.2.2) d_Mo_output_36)
    · refine lv_iload_n hx hb d_Mo_output_12 rfl (lv_at hl 1 rfl) ?_
      refine lv_aload_n hx hb d_Mo_output_13 rfl (lv_at hl 0 rfl) ?_
      refine va_get (D := (dC, dI)) (ci := 11) (v := .int 0) (C := "StoryMachineModel") (T := T_Mo) (N := 51) hx hb hts in_Mo hown hK hP 0 rfl rfl 31 (by decide) (hts _ mw_1094) (fun _ h9 => h9) rfl d_Mo_output_14 ?_
      refine lv_icmp_lt (tgt := 24) hx hb d_Mo_output_17 (by decide) (fun hc17 => ?_) (fun hc17 => ?_)
      · refine lv_iconst (v := 0) hx hb d_Mo_output_24 (by decide) ?_
        refine va_put (D := (dC, dI)) (ci := 11) (v := .int 0) (ty := .int) (C := "StoryMachineModel") (T := T_Mo) (N := 51) hx hb hts in_Mo t_Mo tk_Mo nm_Mo hown hK hP hD hS 0 rfl rfl 0 (by decide) (hts _ mw_1063) (fun _ h9 => h9) rfl (by decide +kernel) rfl rfl (Nat.le_of_ble_eq_true rfl) d_Mo_output_25 (fun H locs hP hD hS => ?_)
        have hP : va_P (dC, dI) vcl [(h0, .inr (11, [.int 0, .ref m_memory, .int 0, .ref m_words, .int 0, .ref m_many, .ref m_bottom, .ref m_back, .ref m_gets, .ref m_locals, .int 0, .ref m_oldMemory, .int 0, .ref m_oldWords, .int 0, .ref m_oldMany, .ref m_oldBottom, .ref m_oldBack, .ref m_oldGets, .ref m_oldLocals, .int 0, .int 0, .int 0, .int 0, .int 0, .int 0, .int 0, .int 0, .int 0, .int 0, .int 0, .int 0, .ref m_latest, .int 0, .int 0, .ref m_typed, .int 0, .ref m_line, .int 0, .ref m_numbers, .int 0, .int 0, .int 0, .int 0, .int 0, .int 0, .int 0, .int 0, .ref m_letters, .ref m_starts, .ref m_lengths]))] H := hP
        have hD : va_D A [(h0, .inr (11, [.int 0, .ref m_memory, .int 0, .ref m_words, .int 0, .ref m_many, .ref m_bottom, .ref m_back, .ref m_gets, .ref m_locals, .int 0, .ref m_oldMemory, .int 0, .ref m_oldWords, .int 0, .ref m_oldMany, .ref m_oldBottom, .ref m_oldBack, .ref m_oldGets, .ref m_oldLocals, .int 0, .int 0, .int 0, .int 0, .int 0, .int 0, .int 0, .int 0, .int 0, .int 0, .int 0, .int 0, .ref m_latest, .int 0, .int 0, .ref m_typed, .int 0, .ref m_line, .int 0, .ref m_numbers, .int 0, .int 0, .int 0, .int 0, .int 0, .int 0, .int 0, .int 0, .ref m_letters, .ref m_starts, .ref m_lengths]))] := hD
        refine lv_aload_n hx hb d_Mo_output_28 rfl (lv_at hl 0 rfl) ?_
        refine va_get (D := (dC, dI)) (ci := 11) (v := .int 0) (C := "StoryMachineModel") (T := T_Mo) (N := 51) hx hb hts in_Mo hown hK hP 0 rfl rfl 0 (by decide) (hts _ mw_1063) (fun _ h9 => h9) rfl d_Mo_output_29 ?_
        refine lv_if_le (tgt := 37) hx hb d_Mo_output_32 (by decide) (fun _ => ?_) (fun h => absurd h (by decide))
        refine lv_iload_n hx hb d_Mo_output_37 rfl (lv_at hl 1 rfl) ?_
        refine lv_if_ge (tgt := 48) hx hb d_Mo_output_38 (by decide) (fun h => absurd h (Int32.not_le.mpr hc17)) (fun hc38 => ?_)
        refine lv_aload_n hx hb d_Mo_output_41 rfl (lv_at hl 0 rfl) ?_
        refine va_get (D := (dC, dI)) (ci := 11) (v := .int 0) (C := "StoryMachineModel") (T := T_Mo) (N := 51) hx hb hts in_Mo hown hK hP 0 rfl rfl 31 (by decide) (hts _ mw_1094) (fun _ h9 => h9) rfl d_Mo_output_42 ?_
        refine lv_goto (tgt := 64) hx hb d_Mo_output_45 (by decide) ?_
        have hP9 := hP.sub (ws' := [(h0, .inr (11, [.int 0, .ref m_memory, .int 0, .ref m_words, .int 0, .ref m_many, .ref m_bottom, .ref m_back, .ref m_gets, .ref m_locals, .int 0, .ref m_oldMemory, .int 0, .ref m_oldWords, .int 0, .ref m_oldMany, .ref m_oldBottom, .ref m_oldBack, .ref m_oldGets, .ref m_oldLocals, .int 0, .int 0, .int 0, .int 0, .int 0, .int 0, .int 0, .int 0, .int 0, .int 0, .int 0, .int 0, .ref m_latest, .int 0, .int 0, .ref m_typed, .int 0, .ref m_line, .int 0, .ref m_numbers, .int 0, .int 0, .int 0, .int 0, .int 0, .int 0, .int 0, .int 0, .ref m_letters, .ref m_starts, .ref m_lengths]))]) [0] rfl
        have hD9 := hD.sub (ws' := [(h0, .inr (11, [.int 0, .ref m_memory, .int 0, .ref m_words, .int 0, .ref m_many, .ref m_bottom, .ref m_back, .ref m_gets, .ref m_locals, .int 0, .ref m_oldMemory, .int 0, .ref m_oldWords, .int 0, .ref m_oldMany, .ref m_oldBottom, .ref m_oldBack, .ref m_oldGets, .ref m_oldLocals, .int 0, .int 0, .int 0, .int 0, .int 0, .int 0, .int 0, .int 0, .int 0, .int 0, .int 0, .int 0, .ref m_latest, .int 0, .int 0, .ref m_typed, .int 0, .ref m_line, .int 0, .ref m_numbers, .int 0, .int 0, .int 0, .int 0, .int 0, .int 0, .int 0, .int 0, .ref m_letters, .ref m_starts, .ref m_lengths]))]) [0] (by decide) rfl
        refine W.widen (k := 0) (n := 0) (Nat.le_of_ble_eq_true rfl) (Nat.le_of_ble_eq_true rfl) ?_
        exact tx_ret (W.iret (v := 0) hx hb hr (fun t ht hW => ⟨⟨fun h => absurd h (fun h => h.elim hc3 (fun h => h.elim (ti_n64 hc9) (fun h => (Int32.not_le.mpr hc17) h))), fun _ => ⟨rfl, ⟨_, rfl, by rw [ht]; exact hP9, hD9⟩⟩⟩, hS.F ht⟩) (hS.2.2) d_Mo_output_64)
      · refine lv_iconst (v := 1) hx hb d_Mo_output_20 (by decide) ?_
        refine lv_goto (tgt := 25) hx hb d_Mo_output_21 (by decide) ?_
        refine va_put (D := (dC, dI)) (ci := 11) (v := .int 1) (ty := .int) (C := "StoryMachineModel") (T := T_Mo) (N := 51) hx hb hts in_Mo t_Mo tk_Mo nm_Mo hown hK hP hD hS 0 rfl rfl 0 (by decide) (hts _ mw_1063) (fun _ h9 => h9) rfl (by decide +kernel) rfl rfl (Nat.le_of_ble_eq_true rfl) d_Mo_output_25 (fun H locs hP hD hS => ?_)
        have hP : va_P (dC, dI) vcl [(h0, .inr (11, [.int 1, .ref m_memory, .int 0, .ref m_words, .int 0, .ref m_many, .ref m_bottom, .ref m_back, .ref m_gets, .ref m_locals, .int 0, .ref m_oldMemory, .int 0, .ref m_oldWords, .int 0, .ref m_oldMany, .ref m_oldBottom, .ref m_oldBack, .ref m_oldGets, .ref m_oldLocals, .int 0, .int 0, .int 0, .int 0, .int 0, .int 0, .int 0, .int 0, .int 0, .int 0, .int 0, .int 0, .ref m_latest, .int 0, .int 0, .ref m_typed, .int 0, .ref m_line, .int 0, .ref m_numbers, .int 0, .int 0, .int 0, .int 0, .int 0, .int 0, .int 0, .int 0, .ref m_letters, .ref m_starts, .ref m_lengths]))] H := hP
        have hD : va_D A [(h0, .inr (11, [.int 1, .ref m_memory, .int 0, .ref m_words, .int 0, .ref m_many, .ref m_bottom, .ref m_back, .ref m_gets, .ref m_locals, .int 0, .ref m_oldMemory, .int 0, .ref m_oldWords, .int 0, .ref m_oldMany, .ref m_oldBottom, .ref m_oldBack, .ref m_oldGets, .ref m_oldLocals, .int 0, .int 0, .int 0, .int 0, .int 0, .int 0, .int 0, .int 0, .int 0, .int 0, .int 0, .int 0, .ref m_latest, .int 0, .int 0, .ref m_typed, .int 0, .ref m_line, .int 0, .ref m_numbers, .int 0, .int 0, .int 0, .int 0, .int 0, .int 0, .int 0, .int 0, .ref m_letters, .ref m_starts, .ref m_lengths]))] := hD
        refine lv_aload_n hx hb d_Mo_output_28 rfl (lv_at hl 0 rfl) ?_
        refine va_get (D := (dC, dI)) (ci := 11) (v := .int 1) (C := "StoryMachineModel") (T := T_Mo) (N := 51) hx hb hts in_Mo hown hK hP 0 rfl rfl 0 (by decide) (hts _ mw_1063) (fun _ h9 => h9) rfl d_Mo_output_29 ?_
        refine lv_if_le (tgt := 37) hx hb d_Mo_output_32 (by decide) (fun h => absurd h (by decide)) (fun _ => ?_)
        refine lv_iconst (v := 0) hx hb d_Mo_output_35 (by decide) ?_
        have hP9 := hP.sub (ws' := [(h0, .inr (11, [.int 1, .ref m_memory, .int 0, .ref m_words, .int 0, .ref m_many, .ref m_bottom, .ref m_back, .ref m_gets, .ref m_locals, .int 0, .ref m_oldMemory, .int 0, .ref m_oldWords, .int 0, .ref m_oldMany, .ref m_oldBottom, .ref m_oldBack, .ref m_oldGets, .ref m_oldLocals, .int 0, .int 0, .int 0, .int 0, .int 0, .int 0, .int 0, .int 0, .int 0, .int 0, .int 0, .int 0, .ref m_latest, .int 0, .int 0, .ref m_typed, .int 0, .ref m_line, .int 0, .ref m_numbers, .int 0, .int 0, .int 0, .int 0, .int 0, .int 0, .int 0, .int 0, .ref m_letters, .ref m_starts, .ref m_lengths]))]) [0] rfl
        have hD9 := hD.sub (ws' := [(h0, .inr (11, [.int 1, .ref m_memory, .int 0, .ref m_words, .int 0, .ref m_many, .ref m_bottom, .ref m_back, .ref m_gets, .ref m_locals, .int 0, .ref m_oldMemory, .int 0, .ref m_oldWords, .int 0, .ref m_oldMany, .ref m_oldBottom, .ref m_oldBack, .ref m_oldGets, .ref m_oldLocals, .int 0, .int 0, .int 0, .int 0, .int 0, .int 0, .int 0, .int 0, .int 0, .int 0, .int 0, .int 0, .ref m_latest, .int 0, .int 0, .ref m_typed, .int 0, .ref m_line, .int 0, .ref m_numbers, .int 0, .int 0, .int 0, .int 0, .int 0, .int 0, .int 0, .int 0, .ref m_letters, .ref m_starts, .ref m_lengths]))]) [0] (by decide) rfl
        refine W.widen (k := 0) (n := 0) (Nat.le_of_ble_eq_true rfl) (Nat.le_of_ble_eq_true rfl) ?_
        exact tx_ret (W.iret (v := 0) hx hb hr (fun t ht hW => ⟨⟨fun _ => ⟨rfl, ⟨_, rfl, by rw [ht]; exact hP9, hD9⟩⟩, fun h => absurd (Or.inr (Or.inr ((Int32.not_lt.mp hc17)))) h⟩, hS.F ht⟩) (hS.2.2) d_Mo_output_36)
set_option maxHeartbeats 4000000 in
set_option maxRecDepth 100000 in
theorem c_Mo_stack (l : Launch) (hfl : l.flags = pinnedFlags ++ [noTraceFlag]) (dC : Nat → ClassId) (dI : Nat → Nat → Nat) (cI : ClassId) (h0 m_memory m_words m_many m_bottom m_back m_gets m_locals m_oldMemory m_oldWords m_oldMany m_oldBottom m_oldBack m_oldGets m_oldLocals m_latest m_typed m_line m_numbers m_letters m_starts m_lengths : Nat) (p0 : Int32) (sz : Nat) : tx_Met l ⟨"StoryMachineModel", "stack", "(I)I"⟩ tw_tbl ({ frames := 1, cells := 0, slots := 0, locals := 40 }) (tq_P (dC, dI) vcl [.ref h0, .int p0] sz [(h0, .inr (11, [.int 0, .ref m_memory, .int 0, .ref m_words, .int 0, .ref m_many, .ref m_bottom, .ref m_back, .ref m_gets, .ref m_locals, .int 0, .ref m_oldMemory, .int 0, .ref m_oldWords, .int 0, .ref m_oldMany, .ref m_oldBottom, .ref m_oldBack, .ref m_oldGets, .ref m_oldLocals, .int 0, .int 0, .int 0, .int 0, .int 0, .int 0, .int 0, .int 0, .int 0, .int 0, .int 0, .int 0, .ref m_latest, .int 0, .int 0, .ref m_typed, .int 0, .ref m_line, .int 0, .ref m_numbers, .int 0, .int 0, .int 0, .int 0, .int 0, .int 0, .int 0, .int 0, .ref m_letters, .ref m_starts, .ref m_lengths]))] [(cI, .int)]) (tq_Q (fun o t => ((p0 < (-1) ∨ 0 ≤ p0) → o = .returned (some (.int 0)) ∧ tm_Mo (dC, dI) vcl h0 1 (va_A [(h0, .inr (11, [.int 0, .ref m_memory, .int 0, .ref m_words, .int 0, .ref m_many, .ref m_bottom, .ref m_back, .ref m_gets, .ref m_locals, .int 0, .ref m_oldMemory, .int 0, .ref m_oldWords, .int 0, .ref m_oldMany, .ref m_oldBottom, .ref m_oldBack, .ref m_oldGets, .ref m_oldLocals, .int 0, .int 0, .int 0, .int 0, .int 0, .int 0, .int 0, .int 0, .int 0, .int 0, .int 0, .int 0, .ref m_latest, .int 0, .int 0, .ref m_typed, .int 0, .ref m_line, .int 0, .ref m_numbers, .int 0, .int 0, .int 0, .int 0, .int 0, .int 0, .int 0, .int 0, .ref m_letters, .ref m_starts, .ref m_lengths]))] sz) t) ∧ (¬ (p0 < (-1) ∨ 0 ≤ p0) → o = .returned (some (.int 0)) ∧ tm_Mo (dC, dI) vcl h0 0 (va_A [(h0, .inr (11, [.int 0, .ref m_memory, .int 0, .ref m_words, .int 0, .ref m_many, .ref m_bottom, .ref m_back, .ref m_gets, .ref m_locals, .int 0, .ref m_oldMemory, .int 0, .ref m_oldWords, .int 0, .ref m_oldMany, .ref m_oldBottom, .ref m_oldBack, .ref m_oldGets, .ref m_oldLocals, .int 0, .int 0, .int 0, .int 0, .int 0, .int 0, .int 0, .int 0, .int 0, .int 0, .int 0, .int 0, .ref m_latest, .int 0, .int 0, .ref m_typed, .int 0, .ref m_line, .int 0, .ref m_numbers, .int 0, .int 0, .int 0, .int 0, .int 0, .int 0, .int 0, .int 0, .ref m_letters, .ref m_starts, .ref m_lengths]))] sz) t)) (va_A [(h0, .inr (11, [.int 0, .ref m_memory, .int 0, .ref m_words, .int 0, .ref m_many, .ref m_bottom, .ref m_back, .ref m_gets, .ref m_locals, .int 0, .ref m_oldMemory, .int 0, .ref m_oldWords, .int 0, .ref m_oldMany, .ref m_oldBottom, .ref m_oldBack, .ref m_oldGets, .ref m_oldLocals, .int 0, .int 0, .int 0, .int 0, .int 0, .int 0, .int 0, .int 0, .int 0, .int 0, .int 0, .int 0, .ref m_latest, .int 0, .int 0, .ref m_typed, .int 0, .ref m_line, .int 0, .ref m_numbers, .int 0, .int 0, .int 0, .int 0, .int 0, .int 0, .int 0, .int 0, .ref m_letters, .ref m_starts, .ref m_lengths]))] sz)) 0 0 (va_A [(h0, .inr (11, [.int 0, .ref m_memory, .int 0, .ref m_words, .int 0, .ref m_many, .ref m_bottom, .ref m_back, .ref m_gets, .ref m_locals, .int 0, .ref m_oldMemory, .int 0, .ref m_oldWords, .int 0, .ref m_oldMany, .ref m_oldBottom, .ref m_oldBack, .ref m_oldGets, .ref m_oldLocals, .int 0, .int 0, .int 0, .int 0, .int 0, .int 0, .int 0, .int 0, .int 0, .int 0, .int 0, .int 0, .ref m_latest, .int 0, .int 0, .ref m_typed, .int 0, .ref m_line, .int 0, .ref m_numbers, .int 0, .int 0, .int 0, .int 0, .int 0, .int 0, .int 0, .int 0, .ref m_letters, .ref m_starts, .ref m_lengths]))] sz) := by
  refine tx_ofW (cc := prog_13_method_82_code) (maxL := 2) (ret := (some .int)) (by decide) (tx_isM mw_1538) ?_
  intro p e s m args below meth c s₁ B hml hv
  obtain ⟨rfl, hsz, hP, hK, hD0, hst0⟩ := hv
  have hx := B.exec
  have hb := B.bytes
  have hr := B.returns
  have hts := atoms_spec (ws := tw_tbl) B.pre
  have hown : s.vm.findClass "StoryMachineModel" = some m.cls := findClass_of_methodNamed B.named
  have hlocks := B.notSynchronized
  subst hsz
  have hD := hD0.self (sz := s.heap.size)
  have hst := fun (H : Heap) (locs : List Loc) (hS : va_S (va_A [(h0, .inr (11, [.int 0, .ref m_memory, .int 0, .ref m_words, .int 0, .ref m_many, .ref m_bottom, .ref m_back, .ref m_gets, .ref m_locals, .int 0, .ref m_oldMemory, .int 0, .ref m_oldWords, .int 0, .ref m_oldMany, .ref m_oldBottom, .ref m_oldBack, .ref m_oldGets, .ref m_oldLocals, .int 0, .int 0, .int 0, .int 0, .int 0, .int 0, .int 0, .int 0, .int 0, .int 0, .int 0, .int 0, .ref m_latest, .int 0, .int 0, .ref m_typed, .int 0, .ref m_line, .int 0, .ref m_numbers, .int 0, .int 0, .int 0, .int 0, .int 0, .int 0, .int 0, .int 0, .ref m_letters, .ref m_starts, .ref m_lengths]))] s.heap.size) s.heap H locs) (U : State) (hU : U.heap = H) (hW : s.WarmedH U.vm) => ts_keep hW (fun q cell h1 h2 => by rw [hU]; exact ts_va hP hS q cell h1 h2) hst0
  generalize hAe : va_A [(h0, .inr (11, [.int 0, .ref m_memory, .int 0, .ref m_words, .int 0, .ref m_many, .ref m_bottom, .ref m_back, .ref m_gets, .ref m_locals, .int 0, .ref m_oldMemory, .int 0, .ref m_oldWords, .int 0, .ref m_oldMany, .ref m_oldBottom, .ref m_oldBack, .ref m_oldGets, .ref m_oldLocals, .int 0, .int 0, .int 0, .int 0, .int 0, .int 0, .int 0, .int 0, .int 0, .int 0, .int 0, .int 0, .ref m_latest, .int 0, .int 0, .ref m_typed, .int 0, .ref m_line, .int 0, .ref m_numbers, .int 0, .int 0, .int 0, .int 0, .int 0, .int 0, .int 0, .int 0, .ref m_letters, .ref m_starts, .ref m_lengths]))] s.heap.size = A at hD hst ⊢
  have hA : ∀ q : Nat, s.heap.size ≤ q → A q := fun q h => by rw [← hAe]; exact Or.inr h
  have hS : va_S A s.heap s.heap [] := va_S.rf
  have hP : va_P (dC, dI) vcl [(h0, .inr (11, [.int 0, .ref m_memory, .int 0, .ref m_words, .int 0, .ref m_many, .ref m_bottom, .ref m_back, .ref m_gets, .ref m_locals, .int 0, .ref m_oldMemory, .int 0, .ref m_oldWords, .int 0, .ref m_oldMany, .ref m_oldBottom, .ref m_oldBack, .ref m_oldGets, .ref m_oldLocals, .int 0, .int 0, .int 0, .int 0, .int 0, .int 0, .int 0, .int 0, .int 0, .int 0, .int 0, .int 0, .ref m_latest, .int 0, .int 0, .ref m_typed, .int 0, .ref m_line, .int 0, .ref m_numbers, .int 0, .int 0, .int 0, .int 0, .int 0, .int 0, .int 0, .int 0, .ref m_letters, .ref m_starts, .ref m_lengths]))] s.heap := hP
  have hl := lv_entry ([.ref h0, .int p0]) (n := 2) (Nat.le_of_ble_eq_true rfl)
  rw [lg_entry_eq]
  generalize (lg_sl ([.ref h0, .int p0]) ++ List.replicate (2 - (lg_sl ([.ref h0, .int p0])).length) Slot.unset).toArray = ls at hl ⊢
  have hl : lv_has ls 2 [(0, .ref h0), (1, .int p0)] := hl
  refine lv_aload_n hx hb d_Mo_stack_0 rfl (lv_at hl 0 rfl) ?_
  refine lv_iload_n hx hb d_Mo_stack_1 rfl (lv_at hl 1 rfl) ?_
  refine lv_iconst (v := (-1)) hx hb d_Mo_stack_2 (by decide) ?_
  refine lv_icmp_lt (tgt := 14) hx hb d_Mo_stack_3 (by decide) (fun hc3 => ?_) (fun hc3 => ?_)
  · refine lv_iconst (v := 1) hx hb d_Mo_stack_14 (by decide) ?_
    refine lv_goto (tgt := 19) hx hb d_Mo_stack_15 (by decide) ?_
    refine va_put (D := (dC, dI)) (ci := 11) (v := .int 1) (ty := .int) (C := "StoryMachineModel") (T := T_Mo) (N := 51) hx hb hts in_Mo t_Mo tk_Mo nm_Mo hown hK hP hD hS 0 rfl rfl 0 (by decide) (hts _ mw_1063) (fun _ h9 => h9) rfl (by decide +kernel) rfl rfl (Nat.le_of_ble_eq_true rfl) d_Mo_stack_19 (fun H locs hP hD hS => ?_)
    have hP : va_P (dC, dI) vcl [(h0, .inr (11, [.int 1, .ref m_memory, .int 0, .ref m_words, .int 0, .ref m_many, .ref m_bottom, .ref m_back, .ref m_gets, .ref m_locals, .int 0, .ref m_oldMemory, .int 0, .ref m_oldWords, .int 0, .ref m_oldMany, .ref m_oldBottom, .ref m_oldBack, .ref m_oldGets, .ref m_oldLocals, .int 0, .int 0, .int 0, .int 0, .int 0, .int 0, .int 0, .int 0, .int 0, .int 0, .int 0, .int 0, .ref m_latest, .int 0, .int 0, .ref m_typed, .int 0, .ref m_line, .int 0, .ref m_numbers, .int 0, .int 0, .int 0, .int 0, .int 0, .int 0, .int 0, .int 0, .ref m_letters, .ref m_starts, .ref m_lengths]))] H := hP
    have hD : va_D A [(h0, .inr (11, [.int 1, .ref m_memory, .int 0, .ref m_words, .int 0, .ref m_many, .ref m_bottom, .ref m_back, .ref m_gets, .ref m_locals, .int 0, .ref m_oldMemory, .int 0, .ref m_oldWords, .int 0, .ref m_oldMany, .ref m_oldBottom, .ref m_oldBack, .ref m_oldGets, .ref m_oldLocals, .int 0, .int 0, .int 0, .int 0, .int 0, .int 0, .int 0, .int 0, .int 0, .int 0, .int 0, .int 0, .ref m_latest, .int 0, .int 0, .ref m_typed, .int 0, .ref m_line, .int 0, .ref m_numbers, .int 0, .int 0, .int 0, .int 0, .int 0, .int 0, .int 0, .int 0, .ref m_letters, .ref m_starts, .ref m_lengths]))] := hD
    refine lv_aload_n hx hb d_Mo_stack_22 rfl (lv_at hl 0 rfl) ?_
    refine va_get (D := (dC, dI)) (ci := 11) (v := .int 1) (C := "StoryMachineModel") (T := T_Mo) (N := 51) hx hb hts in_Mo hown hK hP 0 rfl rfl 0 (by decide) (hts _ mw_1063) (fun _ h9 => h9) rfl d_Mo_stack_23 ?_
    refine lv_if_le (tgt := 31) hx hb d_Mo_stack_26 (by decide) (fun h => absurd h (by decide)) (fun _ => ?_)
    refine lv_iconst (v := 0) hx hb d_Mo_stack_29 (by decide) ?_
    have hP9 := hP.sub (ws' := [(h0, .inr (11, [.int 1, .ref m_memory, .int 0, .ref m_words, .int 0, .ref m_many, .ref m_bottom, .ref m_back, .ref m_gets, .ref m_locals, .int 0, .ref m_oldMemory, .int 0, .ref m_oldWords, .int 0, .ref m_oldMany, .ref m_oldBottom, .ref m_oldBack, .ref m_oldGets, .ref m_oldLocals, .int 0, .int 0, .int 0, .int 0, .int 0, .int 0, .int 0, .int 0, .int 0, .int 0, .int 0, .int 0, .ref m_latest, .int 0, .int 0, .ref m_typed, .int 0, .ref m_line, .int 0, .ref m_numbers, .int 0, .int 0, .int 0, .int 0, .int 0, .int 0, .int 0, .int 0, .ref m_letters, .ref m_starts, .ref m_lengths]))]) [0] rfl
    have hD9 := hD.sub (ws' := [(h0, .inr (11, [.int 1, .ref m_memory, .int 0, .ref m_words, .int 0, .ref m_many, .ref m_bottom, .ref m_back, .ref m_gets, .ref m_locals, .int 0, .ref m_oldMemory, .int 0, .ref m_oldWords, .int 0, .ref m_oldMany, .ref m_oldBottom, .ref m_oldBack, .ref m_oldGets, .ref m_oldLocals, .int 0, .int 0, .int 0, .int 0, .int 0, .int 0, .int 0, .int 0, .int 0, .int 0, .int 0, .int 0, .ref m_latest, .int 0, .int 0, .ref m_typed, .int 0, .ref m_line, .int 0, .ref m_numbers, .int 0, .int 0, .int 0, .int 0, .int 0, .int 0, .int 0, .int 0, .ref m_letters, .ref m_starts, .ref m_lengths]))]) [0] (by decide) rfl
    refine W.widen (k := 0) (n := 0) (Nat.le_of_ble_eq_true rfl) (Nat.le_of_ble_eq_true rfl) ?_
    exact tx_ret (W.iret (v := 0) hx hb hr (fun t ht hW => ⟨⟨fun _ => ⟨rfl, ⟨_, rfl, by rw [ht]; exact hP9, hD9⟩⟩, fun h => absurd (Or.inl hc3) h⟩, hS.F ht⟩) (hS.2.2) d_Mo_stack_30)
  · refine lv_iload_n hx hb d_Mo_stack_6 rfl (lv_at hl 1 rfl) ?_
    refine lv_aload_n hx hb d_Mo_stack_7 rfl (lv_at hl 0 rfl) ?_
    refine va_get (D := (dC, dI)) (ci := 11) (v := .int 0) (C := "StoryMachineModel") (T := T_Mo) (N := 51) hx hb hts in_Mo hown hK hP 0 rfl rfl 2 (by decide) (hts _ mw_1065) (fun _ h9 => h9) rfl d_Mo_stack_8 ?_
    refine lv_icmp_lt (tgt := 18) hx hb d_Mo_stack_11 (by decide) (fun hc11 => ?_) (fun hc11 => ?_)
    · refine lv_iconst (v := 0) hx hb d_Mo_stack_18 (by decide) ?_
      refine va_put (D := (dC, dI)) (ci := 11) (v := .int 0) (ty := .int) (C := "StoryMachineModel") (T := T_Mo) (N := 51) hx hb hts in_Mo t_Mo tk_Mo nm_Mo hown hK hP hD hS 0 rfl rfl 0 (by decide) (hts _ mw_1063) (fun _ h9 => h9) rfl (by decide +kernel) rfl rfl (Nat.le_of_ble_eq_true rfl) d_Mo_stack_19 (fun H locs hP hD hS => ?_)
      have hP : va_P (dC, dI) vcl [(h0, .inr (11, [.int 0, .ref m_memory, .int 0, .ref m_words, .int 0, .ref m_many, .ref m_bottom, .ref m_back, .ref m_gets, .ref m_locals, .int 0, .ref m_oldMemory, .int 0, .ref m_oldWords, .int 0, .ref m_oldMany, .ref m_oldBottom, .ref m_oldBack, .ref m_oldGets, .ref m_oldLocals, .int 0, .int 0, .int 0, .int 0, .int 0, .int 0, .int 0, .int 0, .int 0, .int 0, .int 0, .int 0, .ref m_latest, .int 0, .int 0, .ref m_typed, .int 0, .ref m_line, .int 0, .ref m_numbers, .int 0, .int 0, .int 0, .int 0, .int 0, .int 0, .int 0, .int 0, .ref m_letters, .ref m_starts, .ref m_lengths]))] H := hP
      have hD : va_D A [(h0, .inr (11, [.int 0, .ref m_memory, .int 0, .ref m_words, .int 0, .ref m_many, .ref m_bottom, .ref m_back, .ref m_gets, .ref m_locals, .int 0, .ref m_oldMemory, .int 0, .ref m_oldWords, .int 0, .ref m_oldMany, .ref m_oldBottom, .ref m_oldBack, .ref m_oldGets, .ref m_oldLocals, .int 0, .int 0, .int 0, .int 0, .int 0, .int 0, .int 0, .int 0, .int 0, .int 0, .int 0, .int 0, .ref m_latest, .int 0, .int 0, .ref m_typed, .int 0, .ref m_line, .int 0, .ref m_numbers, .int 0, .int 0, .int 0, .int 0, .int 0, .int 0, .int 0, .int 0, .ref m_letters, .ref m_starts, .ref m_lengths]))] := hD
      refine lv_aload_n hx hb d_Mo_stack_22 rfl (lv_at hl 0 rfl) ?_
      refine va_get (D := (dC, dI)) (ci := 11) (v := .int 0) (C := "StoryMachineModel") (T := T_Mo) (N := 51) hx hb hts in_Mo hown hK hP 0 rfl rfl 0 (by decide) (hts _ mw_1063) (fun _ h9 => h9) rfl d_Mo_stack_23 ?_
      refine lv_if_le (tgt := 31) hx hb d_Mo_stack_26 (by decide) (fun _ => ?_) (fun h => absurd h (by decide))
      refine lv_iload_n hx hb d_Mo_stack_31 rfl (lv_at hl 1 rfl) ?_
      refine lv_if_ge (tgt := 42) hx hb d_Mo_stack_32 (by decide) (fun h => absurd h (Int32.not_le.mpr hc11)) (fun hc32 => ?_)
      refine lv_aload_n hx hb d_Mo_stack_35 rfl (lv_at hl 0 rfl) ?_
      refine va_get (D := (dC, dI)) (ci := 11) (v := .int 0) (C := "StoryMachineModel") (T := T_Mo) (N := 51) hx hb hts in_Mo hown hK hP 0 rfl rfl 2 (by decide) (hts _ mw_1065) (fun _ h9 => h9) rfl d_Mo_stack_36 ?_
      refine lv_goto (tgt := 55) hx hb d_Mo_stack_39 (by decide) ?_
      have hP9 := hP.sub (ws' := [(h0, .inr (11, [.int 0, .ref m_memory, .int 0, .ref m_words, .int 0, .ref m_many, .ref m_bottom, .ref m_back, .ref m_gets, .ref m_locals, .int 0, .ref m_oldMemory, .int 0, .ref m_oldWords, .int 0, .ref m_oldMany, .ref m_oldBottom, .ref m_oldBack, .ref m_oldGets, .ref m_oldLocals, .int 0, .int 0, .int 0, .int 0, .int 0, .int 0, .int 0, .int 0, .int 0, .int 0, .int 0, .int 0, .ref m_latest, .int 0, .int 0, .ref m_typed, .int 0, .ref m_line, .int 0, .ref m_numbers, .int 0, .int 0, .int 0, .int 0, .int 0, .int 0, .int 0, .int 0, .ref m_letters, .ref m_starts, .ref m_lengths]))]) [0] rfl
      have hD9 := hD.sub (ws' := [(h0, .inr (11, [.int 0, .ref m_memory, .int 0, .ref m_words, .int 0, .ref m_many, .ref m_bottom, .ref m_back, .ref m_gets, .ref m_locals, .int 0, .ref m_oldMemory, .int 0, .ref m_oldWords, .int 0, .ref m_oldMany, .ref m_oldBottom, .ref m_oldBack, .ref m_oldGets, .ref m_oldLocals, .int 0, .int 0, .int 0, .int 0, .int 0, .int 0, .int 0, .int 0, .int 0, .int 0, .int 0, .int 0, .ref m_latest, .int 0, .int 0, .ref m_typed, .int 0, .ref m_line, .int 0, .ref m_numbers, .int 0, .int 0, .int 0, .int 0, .int 0, .int 0, .int 0, .int 0, .ref m_letters, .ref m_starts, .ref m_lengths]))]) [0] (by decide) rfl
      refine W.widen (k := 0) (n := 0) (Nat.le_of_ble_eq_true rfl) (Nat.le_of_ble_eq_true rfl) ?_
      exact tx_ret (W.iret (v := 0) hx hb hr (fun t ht hW => ⟨⟨fun h => absurd h (fun h => h.elim hc3 (fun h => (Int32.not_le.mpr hc11) h)), fun _ => ⟨rfl, ⟨_, rfl, by rw [ht]; exact hP9, hD9⟩⟩⟩, hS.F ht⟩) (hS.2.2) d_Mo_stack_55)
    · refine lv_iconst (v := 1) hx hb d_Mo_stack_14 (by decide) ?_
      refine lv_goto (tgt := 19) hx hb d_Mo_stack_15 (by decide) ?_
      refine va_put (D := (dC, dI)) (ci := 11) (v := .int 1) (ty := .int) (C := "StoryMachineModel") (T := T_Mo) (N := 51) hx hb hts in_Mo t_Mo tk_Mo nm_Mo hown hK hP hD hS 0 rfl rfl 0 (by decide) (hts _ mw_1063) (fun _ h9 => h9) rfl (by decide +kernel) rfl rfl (Nat.le_of_ble_eq_true rfl) d_Mo_stack_19 (fun H locs hP hD hS => ?_)
      have hP : va_P (dC, dI) vcl [(h0, .inr (11, [.int 1, .ref m_memory, .int 0, .ref m_words, .int 0, .ref m_many, .ref m_bottom, .ref m_back, .ref m_gets, .ref m_locals, .int 0, .ref m_oldMemory, .int 0, .ref m_oldWords, .int 0, .ref m_oldMany, .ref m_oldBottom, .ref m_oldBack, .ref m_oldGets, .ref m_oldLocals, .int 0, .int 0, .int 0, .int 0, .int 0, .int 0, .int 0, .int 0, .int 0, .int 0, .int 0, .int 0, .ref m_latest, .int 0, .int 0, .ref m_typed, .int 0, .ref m_line, .int 0, .ref m_numbers, .int 0, .int 0, .int 0, .int 0, .int 0, .int 0, .int 0, .int 0, .ref m_letters, .ref m_starts, .ref m_lengths]))] H := hP
      have hD : va_D A [(h0, .inr (11, [.int 1, .ref m_memory, .int 0, .ref m_words, .int 0, .ref m_many, .ref m_bottom, .ref m_back, .ref m_gets, .ref m_locals, .int 0, .ref m_oldMemory, .int 0, .ref m_oldWords, .int 0, .ref m_oldMany, .ref m_oldBottom, .ref m_oldBack, .ref m_oldGets, .ref m_oldLocals, .int 0, .int 0, .int 0, .int 0, .int 0, .int 0, .int 0, .int 0, .int 0, .int 0, .int 0, .int 0, .ref m_latest, .int 0, .int 0, .ref m_typed, .int 0, .ref m_line, .int 0, .ref m_numbers, .int 0, .int 0, .int 0, .int 0, .int 0, .int 0, .int 0, .int 0, .ref m_letters, .ref m_starts, .ref m_lengths]))] := hD
      refine lv_aload_n hx hb d_Mo_stack_22 rfl (lv_at hl 0 rfl) ?_
      refine va_get (D := (dC, dI)) (ci := 11) (v := .int 1) (C := "StoryMachineModel") (T := T_Mo) (N := 51) hx hb hts in_Mo hown hK hP 0 rfl rfl 0 (by decide) (hts _ mw_1063) (fun _ h9 => h9) rfl d_Mo_stack_23 ?_
      refine lv_if_le (tgt := 31) hx hb d_Mo_stack_26 (by decide) (fun h => absurd h (by decide)) (fun _ => ?_)
      refine lv_iconst (v := 0) hx hb d_Mo_stack_29 (by decide) ?_
      have hP9 := hP.sub (ws' := [(h0, .inr (11, [.int 1, .ref m_memory, .int 0, .ref m_words, .int 0, .ref m_many, .ref m_bottom, .ref m_back, .ref m_gets, .ref m_locals, .int 0, .ref m_oldMemory, .int 0, .ref m_oldWords, .int 0, .ref m_oldMany, .ref m_oldBottom, .ref m_oldBack, .ref m_oldGets, .ref m_oldLocals, .int 0, .int 0, .int 0, .int 0, .int 0, .int 0, .int 0, .int 0, .int 0, .int 0, .int 0, .int 0, .ref m_latest, .int 0, .int 0, .ref m_typed, .int 0, .ref m_line, .int 0, .ref m_numbers, .int 0, .int 0, .int 0, .int 0, .int 0, .int 0, .int 0, .int 0, .ref m_letters, .ref m_starts, .ref m_lengths]))]) [0] rfl
      have hD9 := hD.sub (ws' := [(h0, .inr (11, [.int 1, .ref m_memory, .int 0, .ref m_words, .int 0, .ref m_many, .ref m_bottom, .ref m_back, .ref m_gets, .ref m_locals, .int 0, .ref m_oldMemory, .int 0, .ref m_oldWords, .int 0, .ref m_oldMany, .ref m_oldBottom, .ref m_oldBack, .ref m_oldGets, .ref m_oldLocals, .int 0, .int 0, .int 0, .int 0, .int 0, .int 0, .int 0, .int 0, .int 0, .int 0, .int 0, .int 0, .ref m_latest, .int 0, .int 0, .ref m_typed, .int 0, .ref m_line, .int 0, .ref m_numbers, .int 0, .int 0, .int 0, .int 0, .int 0, .int 0, .int 0, .int 0, .ref m_letters, .ref m_starts, .ref m_lengths]))]) [0] (by decide) rfl
      refine W.widen (k := 0) (n := 0) (Nat.le_of_ble_eq_true rfl) (Nat.le_of_ble_eq_true rfl) ?_
      exact tx_ret (W.iret (v := 0) hx hb hr (fun t ht hW => ⟨⟨fun _ => ⟨rfl, ⟨_, rfl, by rw [ht]; exact hP9, hD9⟩⟩, fun h => absurd (Or.inr ((Int32.not_lt.mp hc11))) h⟩, hS.F ht⟩) (hS.2.2) d_Mo_stack_30)
set_option maxHeartbeats 4000000 in
set_option maxRecDepth 100000 in
theorem c_Mo_local (l : Launch) (hfl : l.flags = pinnedFlags ++ [noTraceFlag]) (dC : Nat → ClassId) (dI : Nat → Nat → Nat) (cI : ClassId) (h0 m_memory m_words m_many m_bottom m_back m_gets m_locals m_oldMemory m_oldWords m_oldMany m_oldBottom m_oldBack m_oldGets m_oldLocals m_latest m_typed m_line m_numbers m_letters m_starts m_lengths : Nat) (p0 : Int32) (sz : Nat) : tx_Met l ⟨"StoryMachineModel", "local", "(I)I"⟩ tw_tbl ({ frames := 1, cells := 0, slots := 0, locals := 40 }) (tq_P (dC, dI) vcl [.ref h0, .int p0] sz [(h0, .inr (11, [.int 0, .ref m_memory, .int 0, .ref m_words, .int 0, .ref m_many, .ref m_bottom, .ref m_back, .ref m_gets, .ref m_locals, .int 0, .ref m_oldMemory, .int 0, .ref m_oldWords, .int 0, .ref m_oldMany, .ref m_oldBottom, .ref m_oldBack, .ref m_oldGets, .ref m_oldLocals, .int 0, .int 0, .int 0, .int 0, .int 0, .int 0, .int 0, .int 0, .int 0, .int 0, .int 0, .int 0, .ref m_latest, .int 0, .int 0, .ref m_typed, .int 0, .ref m_line, .int 0, .ref m_numbers, .int 0, .int 0, .int 0, .int 0, .int 0, .int 0, .int 0, .int 0, .ref m_letters, .ref m_starts, .ref m_lengths])), (m_many, .inl (cI, 11, .inl (fun _ => 0)))] [(cI, .int)]) (tq_Q (fun o t => ((p0 < 0 ∨ 15 < p0) → o = .returned (some (.int 0)) ∧ tm_Mo (dC, dI) vcl h0 1 (va_A [(h0, .inr (11, [.int 0, .ref m_memory, .int 0, .ref m_words, .int 0, .ref m_many, .ref m_bottom, .ref m_back, .ref m_gets, .ref m_locals, .int 0, .ref m_oldMemory, .int 0, .ref m_oldWords, .int 0, .ref m_oldMany, .ref m_oldBottom, .ref m_oldBack, .ref m_oldGets, .ref m_oldLocals, .int 0, .int 0, .int 0, .int 0, .int 0, .int 0, .int 0, .int 0, .int 0, .int 0, .int 0, .int 0, .ref m_latest, .int 0, .int 0, .ref m_typed, .int 0, .ref m_line, .int 0, .ref m_numbers, .int 0, .int 0, .int 0, .int 0, .int 0, .int 0, .int 0, .int 0, .ref m_letters, .ref m_starts, .ref m_lengths])), (m_many, .inl (cI, 11, .inl (fun _ => 0)))] sz) t) ∧ (¬ (p0 < 0 ∨ 15 < p0) → o = .returned (some (.int 0)) ∧ tm_Mo (dC, dI) vcl h0 0 (va_A [(h0, .inr (11, [.int 0, .ref m_memory, .int 0, .ref m_words, .int 0, .ref m_many, .ref m_bottom, .ref m_back, .ref m_gets, .ref m_locals, .int 0, .ref m_oldMemory, .int 0, .ref m_oldWords, .int 0, .ref m_oldMany, .ref m_oldBottom, .ref m_oldBack, .ref m_oldGets, .ref m_oldLocals, .int 0, .int 0, .int 0, .int 0, .int 0, .int 0, .int 0, .int 0, .int 0, .int 0, .int 0, .int 0, .ref m_latest, .int 0, .int 0, .ref m_typed, .int 0, .ref m_line, .int 0, .ref m_numbers, .int 0, .int 0, .int 0, .int 0, .int 0, .int 0, .int 0, .int 0, .ref m_letters, .ref m_starts, .ref m_lengths])), (m_many, .inl (cI, 11, .inl (fun _ => 0)))] sz) t)) (va_A [(h0, .inr (11, [.int 0, .ref m_memory, .int 0, .ref m_words, .int 0, .ref m_many, .ref m_bottom, .ref m_back, .ref m_gets, .ref m_locals, .int 0, .ref m_oldMemory, .int 0, .ref m_oldWords, .int 0, .ref m_oldMany, .ref m_oldBottom, .ref m_oldBack, .ref m_oldGets, .ref m_oldLocals, .int 0, .int 0, .int 0, .int 0, .int 0, .int 0, .int 0, .int 0, .int 0, .int 0, .int 0, .int 0, .ref m_latest, .int 0, .int 0, .ref m_typed, .int 0, .ref m_line, .int 0, .ref m_numbers, .int 0, .int 0, .int 0, .int 0, .int 0, .int 0, .int 0, .int 0, .ref m_letters, .ref m_starts, .ref m_lengths])), (m_many, .inl (cI, 11, .inl (fun _ => 0)))] sz)) 0 0 (va_A [(h0, .inr (11, [.int 0, .ref m_memory, .int 0, .ref m_words, .int 0, .ref m_many, .ref m_bottom, .ref m_back, .ref m_gets, .ref m_locals, .int 0, .ref m_oldMemory, .int 0, .ref m_oldWords, .int 0, .ref m_oldMany, .ref m_oldBottom, .ref m_oldBack, .ref m_oldGets, .ref m_oldLocals, .int 0, .int 0, .int 0, .int 0, .int 0, .int 0, .int 0, .int 0, .int 0, .int 0, .int 0, .int 0, .ref m_latest, .int 0, .int 0, .ref m_typed, .int 0, .ref m_line, .int 0, .ref m_numbers, .int 0, .int 0, .int 0, .int 0, .int 0, .int 0, .int 0, .int 0, .ref m_letters, .ref m_starts, .ref m_lengths])), (m_many, .inl (cI, 11, .inl (fun _ => 0)))] sz) := by
  refine tx_ofW (cc := prog_13_method_83_code) (maxL := 2) (ret := (some .int)) (by decide) (tx_isM mw_1542) ?_
  intro p e s m args below meth c s₁ B hml hv
  obtain ⟨rfl, hsz, hP, hK, hD0, hst0⟩ := hv
  have hx := B.exec
  have hb := B.bytes
  have hr := B.returns
  have hts := atoms_spec (ws := tw_tbl) B.pre
  have hown : s.vm.findClass "StoryMachineModel" = some m.cls := findClass_of_methodNamed B.named
  have hlocks := B.notSynchronized
  subst hsz
  have hD := hD0.self (sz := s.heap.size)
  have hst := fun (H : Heap) (locs : List Loc) (hS : va_S (va_A [(h0, .inr (11, [.int 0, .ref m_memory, .int 0, .ref m_words, .int 0, .ref m_many, .ref m_bottom, .ref m_back, .ref m_gets, .ref m_locals, .int 0, .ref m_oldMemory, .int 0, .ref m_oldWords, .int 0, .ref m_oldMany, .ref m_oldBottom, .ref m_oldBack, .ref m_oldGets, .ref m_oldLocals, .int 0, .int 0, .int 0, .int 0, .int 0, .int 0, .int 0, .int 0, .int 0, .int 0, .int 0, .int 0, .ref m_latest, .int 0, .int 0, .ref m_typed, .int 0, .ref m_line, .int 0, .ref m_numbers, .int 0, .int 0, .int 0, .int 0, .int 0, .int 0, .int 0, .int 0, .ref m_letters, .ref m_starts, .ref m_lengths])), (m_many, .inl (cI, 11, .inl (fun _ => 0)))] s.heap.size) s.heap H locs) (U : State) (hU : U.heap = H) (hW : s.WarmedH U.vm) => ts_keep hW (fun q cell h1 h2 => by rw [hU]; exact ts_va hP hS q cell h1 h2) hst0
  generalize hAe : va_A [(h0, .inr (11, [.int 0, .ref m_memory, .int 0, .ref m_words, .int 0, .ref m_many, .ref m_bottom, .ref m_back, .ref m_gets, .ref m_locals, .int 0, .ref m_oldMemory, .int 0, .ref m_oldWords, .int 0, .ref m_oldMany, .ref m_oldBottom, .ref m_oldBack, .ref m_oldGets, .ref m_oldLocals, .int 0, .int 0, .int 0, .int 0, .int 0, .int 0, .int 0, .int 0, .int 0, .int 0, .int 0, .int 0, .ref m_latest, .int 0, .int 0, .ref m_typed, .int 0, .ref m_line, .int 0, .ref m_numbers, .int 0, .int 0, .int 0, .int 0, .int 0, .int 0, .int 0, .int 0, .ref m_letters, .ref m_starts, .ref m_lengths])), (m_many, .inl (cI, 11, .inl (fun _ => 0)))] s.heap.size = A at hD hst ⊢
  have hA : ∀ q : Nat, s.heap.size ≤ q → A q := fun q h => by rw [← hAe]; exact Or.inr h
  have hS : va_S A s.heap s.heap [] := va_S.rf
  have hP : va_P (dC, dI) vcl [(h0, .inr (11, [.int 0, .ref m_memory, .int 0, .ref m_words, .int 0, .ref m_many, .ref m_bottom, .ref m_back, .ref m_gets, .ref m_locals, .int 0, .ref m_oldMemory, .int 0, .ref m_oldWords, .int 0, .ref m_oldMany, .ref m_oldBottom, .ref m_oldBack, .ref m_oldGets, .ref m_oldLocals, .int 0, .int 0, .int 0, .int 0, .int 0, .int 0, .int 0, .int 0, .int 0, .int 0, .int 0, .int 0, .ref m_latest, .int 0, .int 0, .ref m_typed, .int 0, .ref m_line, .int 0, .ref m_numbers, .int 0, .int 0, .int 0, .int 0, .int 0, .int 0, .int 0, .int 0, .ref m_letters, .ref m_starts, .ref m_lengths])), (m_many, .inl (cI, 11, .inl (fun _ => 0)))] s.heap := hP
  have hl := lv_entry ([.ref h0, .int p0]) (n := 2) (Nat.le_of_ble_eq_true rfl)
  rw [lg_entry_eq]
  generalize (lg_sl ([.ref h0, .int p0]) ++ List.replicate (2 - (lg_sl ([.ref h0, .int p0])).length) Slot.unset).toArray = ls at hl ⊢
  have hl : lv_has ls 2 [(0, .ref h0), (1, .int p0)] := hl
  refine lv_aload_n hx hb d_Mo_local_0 rfl (lv_at hl 0 rfl) ?_
  refine lv_iload_n hx hb d_Mo_local_1 rfl (lv_at hl 1 rfl) ?_
  refine lv_if_lt (tgt := 11) hx hb d_Mo_local_2 (by decide) (fun hc2 => ?_) (fun hc2 => ?_)
  · refine lv_iconst (v := 1) hx hb d_Mo_local_11 (by decide) ?_
    refine lv_goto (tgt := 16) hx hb d_Mo_local_12 (by decide) ?_
    refine va_put (D := (dC, dI)) (ci := 11) (v := .int 1) (ty := .int) (C := "StoryMachineModel") (T := T_Mo) (N := 51) hx hb hts in_Mo t_Mo tk_Mo nm_Mo hown hK hP hD hS 0 rfl rfl 0 (by decide) (hts _ mw_1063) (fun _ h9 => h9) rfl (by decide +kernel) rfl rfl (Nat.le_of_ble_eq_true rfl) d_Mo_local_16 (fun H locs hP hD hS => ?_)
    have hP : va_P (dC, dI) vcl [(h0, .inr (11, [.int 1, .ref m_memory, .int 0, .ref m_words, .int 0, .ref m_many, .ref m_bottom, .ref m_back, .ref m_gets, .ref m_locals, .int 0, .ref m_oldMemory, .int 0, .ref m_oldWords, .int 0, .ref m_oldMany, .ref m_oldBottom, .ref m_oldBack, .ref m_oldGets, .ref m_oldLocals, .int 0, .int 0, .int 0, .int 0, .int 0, .int 0, .int 0, .int 0, .int 0, .int 0, .int 0, .int 0, .ref m_latest, .int 0, .int 0, .ref m_typed, .int 0, .ref m_line, .int 0, .ref m_numbers, .int 0, .int 0, .int 0, .int 0, .int 0, .int 0, .int 0, .int 0, .ref m_letters, .ref m_starts, .ref m_lengths])), (m_many, .inl (cI, 11, .inl (fun _ => 0)))] H := hP
    have hD : va_D A [(h0, .inr (11, [.int 1, .ref m_memory, .int 0, .ref m_words, .int 0, .ref m_many, .ref m_bottom, .ref m_back, .ref m_gets, .ref m_locals, .int 0, .ref m_oldMemory, .int 0, .ref m_oldWords, .int 0, .ref m_oldMany, .ref m_oldBottom, .ref m_oldBack, .ref m_oldGets, .ref m_oldLocals, .int 0, .int 0, .int 0, .int 0, .int 0, .int 0, .int 0, .int 0, .int 0, .int 0, .int 0, .int 0, .ref m_latest, .int 0, .int 0, .ref m_typed, .int 0, .ref m_line, .int 0, .ref m_numbers, .int 0, .int 0, .int 0, .int 0, .int 0, .int 0, .int 0, .int 0, .ref m_letters, .ref m_starts, .ref m_lengths])), (m_many, .inl (cI, 11, .inl (fun _ => 0)))] := hD
    refine lv_aload_n hx hb d_Mo_local_19 rfl (lv_at hl 0 rfl) ?_
    refine va_get (D := (dC, dI)) (ci := 11) (v := .int 1) (C := "StoryMachineModel") (T := T_Mo) (N := 51) hx hb hts in_Mo hown hK hP 0 rfl rfl 0 (by decide) (hts _ mw_1063) (fun _ h9 => h9) rfl d_Mo_local_20 ?_
    refine lv_if_le (tgt := 28) hx hb d_Mo_local_23 (by decide) (fun h => absurd h (by decide)) (fun _ => ?_)
    refine lv_iconst (v := 0) hx hb d_Mo_local_26 (by decide) ?_
    have hP9 := hP.sub (ws' := [(h0, .inr (11, [.int 1, .ref m_memory, .int 0, .ref m_words, .int 0, .ref m_many, .ref m_bottom, .ref m_back, .ref m_gets, .ref m_locals, .int 0, .ref m_oldMemory, .int 0, .ref m_oldWords, .int 0, .ref m_oldMany, .ref m_oldBottom, .ref m_oldBack, .ref m_oldGets, .ref m_oldLocals, .int 0, .int 0, .int 0, .int 0, .int 0, .int 0, .int 0, .int 0, .int 0, .int 0, .int 0, .int 0, .ref m_latest, .int 0, .int 0, .ref m_typed, .int 0, .ref m_line, .int 0, .ref m_numbers, .int 0, .int 0, .int 0, .int 0, .int 0, .int 0, .int 0, .int 0, .ref m_letters, .ref m_starts, .ref m_lengths]))]) [0] rfl
    have hD9 := hD.sub (ws' := [(h0, .inr (11, [.int 1, .ref m_memory, .int 0, .ref m_words, .int 0, .ref m_many, .ref m_bottom, .ref m_back, .ref m_gets, .ref m_locals, .int 0, .ref m_oldMemory, .int 0, .ref m_oldWords, .int 0, .ref m_oldMany, .ref m_oldBottom, .ref m_oldBack, .ref m_oldGets, .ref m_oldLocals, .int 0, .int 0, .int 0, .int 0, .int 0, .int 0, .int 0, .int 0, .int 0, .int 0, .int 0, .int 0, .ref m_latest, .int 0, .int 0, .ref m_typed, .int 0, .ref m_line, .int 0, .ref m_numbers, .int 0, .int 0, .int 0, .int 0, .int 0, .int 0, .int 0, .int 0, .ref m_letters, .ref m_starts, .ref m_lengths]))]) [0] (by decide) rfl
    refine W.widen (k := 0) (n := 0) (Nat.le_of_ble_eq_true rfl) (Nat.le_of_ble_eq_true rfl) ?_
    exact tx_ret (W.iret (v := 0) hx hb hr (fun t ht hW => ⟨⟨fun _ => ⟨rfl, ⟨_, rfl, by rw [ht]; exact hP9, hD9⟩⟩, fun h => absurd (Or.inl hc2) h⟩, hS.F ht⟩) (hS.2.2) d_Mo_local_27)
  · refine lv_iload_n hx hb d_Mo_local_5 rfl (lv_at hl 1 rfl) ?_
    refine lv_bipush (v := 15) hx hb d_Mo_local_6 (by decide) ?_
    refine lv_icmp_le (tgt := 15) hx hb d_Mo_local_8 (by decide) (fun hc8 => ?_) (fun hc8 => ?_)
    · refine lv_iconst (v := 0) hx hb d_Mo_local_15 (by decide) ?_
      refine va_put (D := (dC, dI)) (ci := 11) (v := .int 0) (ty := .int) (C := "StoryMachineModel") (T := T_Mo) (N := 51) hx hb hts in_Mo t_Mo tk_Mo nm_Mo hown hK hP hD hS 0 rfl rfl 0 (by decide) (hts _ mw_1063) (fun _ h9 => h9) rfl (by decide +kernel) rfl rfl (Nat.le_of_ble_eq_true rfl) d_Mo_local_16 (fun H locs hP hD hS => ?_)
      have hP : va_P (dC, dI) vcl [(h0, .inr (11, [.int 0, .ref m_memory, .int 0, .ref m_words, .int 0, .ref m_many, .ref m_bottom, .ref m_back, .ref m_gets, .ref m_locals, .int 0, .ref m_oldMemory, .int 0, .ref m_oldWords, .int 0, .ref m_oldMany, .ref m_oldBottom, .ref m_oldBack, .ref m_oldGets, .ref m_oldLocals, .int 0, .int 0, .int 0, .int 0, .int 0, .int 0, .int 0, .int 0, .int 0, .int 0, .int 0, .int 0, .ref m_latest, .int 0, .int 0, .ref m_typed, .int 0, .ref m_line, .int 0, .ref m_numbers, .int 0, .int 0, .int 0, .int 0, .int 0, .int 0, .int 0, .int 0, .ref m_letters, .ref m_starts, .ref m_lengths])), (m_many, .inl (cI, 11, .inl (fun _ => 0)))] H := hP
      have hD : va_D A [(h0, .inr (11, [.int 0, .ref m_memory, .int 0, .ref m_words, .int 0, .ref m_many, .ref m_bottom, .ref m_back, .ref m_gets, .ref m_locals, .int 0, .ref m_oldMemory, .int 0, .ref m_oldWords, .int 0, .ref m_oldMany, .ref m_oldBottom, .ref m_oldBack, .ref m_oldGets, .ref m_oldLocals, .int 0, .int 0, .int 0, .int 0, .int 0, .int 0, .int 0, .int 0, .int 0, .int 0, .int 0, .int 0, .ref m_latest, .int 0, .int 0, .ref m_typed, .int 0, .ref m_line, .int 0, .ref m_numbers, .int 0, .int 0, .int 0, .int 0, .int 0, .int 0, .int 0, .int 0, .ref m_letters, .ref m_starts, .ref m_lengths])), (m_many, .inl (cI, 11, .inl (fun _ => 0)))] := hD
      refine lv_aload_n hx hb d_Mo_local_19 rfl (lv_at hl 0 rfl) ?_
      refine va_get (D := (dC, dI)) (ci := 11) (v := .int 0) (C := "StoryMachineModel") (T := T_Mo) (N := 51) hx hb hts in_Mo hown hK hP 0 rfl rfl 0 (by decide) (hts _ mw_1063) (fun _ h9 => h9) rfl d_Mo_local_20 ?_
      refine lv_if_le (tgt := 28) hx hb d_Mo_local_23 (by decide) (fun _ => ?_) (fun h => absurd h (by decide))
      refine lv_iload_n hx hb d_Mo_local_28 rfl (lv_at hl 1 rfl) ?_
      refine lv_if_ne (tgt := 44) hx hb d_Mo_local_29 (by decide) (fun hc29 => ?_) (fun hc29 => ?_)
      · refine lv_iload_n hx hb d_Mo_local_44 rfl (lv_at hl 1 rfl) ?_
        refine lv_aload_n hx hb d_Mo_local_45 rfl (lv_at hl 0 rfl) ?_
        refine va_get (D := (dC, dI)) (ci := 11) (v := .ref m_many) (C := "StoryMachineModel") (T := T_Mo) (N := 51) hx hb hts in_Mo hown hK hP 0 rfl rfl 5 (by decide) (hts _ mw_1068) (fun _ h9 => h9) rfl d_Mo_local_46 ?_
        refine lv_aload_n hx hb d_Mo_local_49 rfl (lv_at hl 0 rfl) ?_
        refine va_get (D := (dC, dI)) (ci := 11) (v := .int 0) (C := "StoryMachineModel") (T := T_Mo) (N := 51) hx hb hts in_Mo hown hK hP 0 rfl rfl 4 (by decide) (hts _ mw_1067) (fun _ h9 => h9) rfl d_Mo_local_50 ?_
        refine va_iald hx hb hK hP 1 0 rfl rfl (show ¬ ((0 : Int32) < 0 ∨ 11 ≤ (0 : Int32).toNatClampNeg) by decide) d_Mo_local_53 ?_
        refine W.eq (g2 := F0 m 54 ls [.int 0, .int p0]) rfl ?_
        refine lv_icmp_gt (tgt := 76) hx hb d_Mo_local_54 (by decide) (fun hc54 => ?_) (fun h => absurd (ti_pos hc2 hc29) h)
        refine lv_iconst (v := 0) hx hb d_Mo_local_76 (by decide) ?_
        have hP9 := hP.sub (ws' := [(h0, .inr (11, [.int 0, .ref m_memory, .int 0, .ref m_words, .int 0, .ref m_many, .ref m_bottom, .ref m_back, .ref m_gets, .ref m_locals, .int 0, .ref m_oldMemory, .int 0, .ref m_oldWords, .int 0, .ref m_oldMany, .ref m_oldBottom, .ref m_oldBack, .ref m_oldGets, .ref m_oldLocals, .int 0, .int 0, .int 0, .int 0, .int 0, .int 0, .int 0, .int 0, .int 0, .int 0, .int 0, .int 0, .ref m_latest, .int 0, .int 0, .ref m_typed, .int 0, .ref m_line, .int 0, .ref m_numbers, .int 0, .int 0, .int 0, .int 0, .int 0, .int 0, .int 0, .int 0, .ref m_letters, .ref m_starts, .ref m_lengths]))]) [0] rfl
        have hD9 := hD.sub (ws' := [(h0, .inr (11, [.int 0, .ref m_memory, .int 0, .ref m_words, .int 0, .ref m_many, .ref m_bottom, .ref m_back, .ref m_gets, .ref m_locals, .int 0, .ref m_oldMemory, .int 0, .ref m_oldWords, .int 0, .ref m_oldMany, .ref m_oldBottom, .ref m_oldBack, .ref m_oldGets, .ref m_oldLocals, .int 0, .int 0, .int 0, .int 0, .int 0, .int 0, .int 0, .int 0, .int 0, .int 0, .int 0, .int 0, .ref m_latest, .int 0, .int 0, .ref m_typed, .int 0, .ref m_line, .int 0, .ref m_numbers, .int 0, .int 0, .int 0, .int 0, .int 0, .int 0, .int 0, .int 0, .ref m_letters, .ref m_starts, .ref m_lengths]))]) [0] (by decide) rfl
        refine W.widen (k := 0) (n := 0) (Nat.le_of_ble_eq_true rfl) (Nat.le_of_ble_eq_true rfl) ?_
        exact tx_ret (W.iret (v := 0) hx hb hr (fun t ht hW => ⟨⟨fun h => absurd h (fun h => h.elim hc2 (fun h => (Int32.not_lt.mpr hc8) h)), fun _ => ⟨rfl, ⟨_, rfl, by rw [ht]; exact hP9, hD9⟩⟩⟩, hS.F ht⟩) (hS.2.2) d_Mo_local_77)
      · refine lv_aload_n hx hb d_Mo_local_32 rfl (lv_at hl 0 rfl) ?_
        refine va_get (D := (dC, dI)) (ci := 11) (v := .ref m_many) (C := "StoryMachineModel") (T := T_Mo) (N := 51) hx hb hts in_Mo hown hK hP 0 rfl rfl 5 (by decide) (hts _ mw_1068) (fun _ h9 => h9) rfl d_Mo_local_33 ?_
        refine lv_aload_n hx hb d_Mo_local_36 rfl (lv_at hl 0 rfl) ?_
        refine va_get (D := (dC, dI)) (ci := 11) (v := .int 0) (C := "StoryMachineModel") (T := T_Mo) (N := 51) hx hb hts in_Mo hown hK hP 0 rfl rfl 4 (by decide) (hts _ mw_1067) (fun _ h9 => h9) rfl d_Mo_local_37 ?_
        refine va_iald hx hb hK hP 1 0 rfl rfl (show ¬ ((0 : Int32) < 0 ∨ 11 ≤ (0 : Int32).toNatClampNeg) by decide) d_Mo_local_40 ?_
        refine W.eq (g2 := F0 m 41 ls [.int 0]) rfl ?_
        refine lv_goto (tgt := 77) hx hb d_Mo_local_41 (by decide) ?_
        have hP9 := hP.sub (ws' := [(h0, .inr (11, [.int 0, .ref m_memory, .int 0, .ref m_words, .int 0, .ref m_many, .ref m_bottom, .ref m_back, .ref m_gets, .ref m_locals, .int 0, .ref m_oldMemory, .int 0, .ref m_oldWords, .int 0, .ref m_oldMany, .ref m_oldBottom, .ref m_oldBack, .ref m_oldGets, .ref m_oldLocals, .int 0, .int 0, .int 0, .int 0, .int 0, .int 0, .int 0, .int 0, .int 0, .int 0, .int 0, .int 0, .ref m_latest, .int 0, .int 0, .ref m_typed, .int 0, .ref m_line, .int 0, .ref m_numbers, .int 0, .int 0, .int 0, .int 0, .int 0, .int 0, .int 0, .int 0, .ref m_letters, .ref m_starts, .ref m_lengths]))]) [0] rfl
        have hD9 := hD.sub (ws' := [(h0, .inr (11, [.int 0, .ref m_memory, .int 0, .ref m_words, .int 0, .ref m_many, .ref m_bottom, .ref m_back, .ref m_gets, .ref m_locals, .int 0, .ref m_oldMemory, .int 0, .ref m_oldWords, .int 0, .ref m_oldMany, .ref m_oldBottom, .ref m_oldBack, .ref m_oldGets, .ref m_oldLocals, .int 0, .int 0, .int 0, .int 0, .int 0, .int 0, .int 0, .int 0, .int 0, .int 0, .int 0, .int 0, .ref m_latest, .int 0, .int 0, .ref m_typed, .int 0, .ref m_line, .int 0, .ref m_numbers, .int 0, .int 0, .int 0, .int 0, .int 0, .int 0, .int 0, .int 0, .ref m_letters, .ref m_starts, .ref m_lengths]))]) [0] (by decide) rfl
        refine W.widen (k := 0) (n := 0) (Nat.le_of_ble_eq_true rfl) (Nat.le_of_ble_eq_true rfl) ?_
        exact tx_ret (W.iret (v := 0) hx hb hr (fun t ht hW => ⟨⟨fun h => absurd h (fun h => h.elim hc2 (fun h => (Int32.not_lt.mpr hc8) h)), fun _ => ⟨rfl, ⟨_, rfl, by rw [ht]; exact hP9, hD9⟩⟩⟩, hS.F ht⟩) (hS.2.2) d_Mo_local_77)
    · refine lv_iconst (v := 1) hx hb d_Mo_local_11 (by decide) ?_
      refine lv_goto (tgt := 16) hx hb d_Mo_local_12 (by decide) ?_
      refine va_put (D := (dC, dI)) (ci := 11) (v := .int 1) (ty := .int) (C := "StoryMachineModel") (T := T_Mo) (N := 51) hx hb hts in_Mo t_Mo tk_Mo nm_Mo hown hK hP hD hS 0 rfl rfl 0 (by decide) (hts _ mw_1063) (fun _ h9 => h9) rfl (by decide +kernel) rfl rfl (Nat.le_of_ble_eq_true rfl) d_Mo_local_16 (fun H locs hP hD hS => ?_)
      have hP : va_P (dC, dI) vcl [(h0, .inr (11, [.int 1, .ref m_memory, .int 0, .ref m_words, .int 0, .ref m_many, .ref m_bottom, .ref m_back, .ref m_gets, .ref m_locals, .int 0, .ref m_oldMemory, .int 0, .ref m_oldWords, .int 0, .ref m_oldMany, .ref m_oldBottom, .ref m_oldBack, .ref m_oldGets, .ref m_oldLocals, .int 0, .int 0, .int 0, .int 0, .int 0, .int 0, .int 0, .int 0, .int 0, .int 0, .int 0, .int 0, .ref m_latest, .int 0, .int 0, .ref m_typed, .int 0, .ref m_line, .int 0, .ref m_numbers, .int 0, .int 0, .int 0, .int 0, .int 0, .int 0, .int 0, .int 0, .ref m_letters, .ref m_starts, .ref m_lengths])), (m_many, .inl (cI, 11, .inl (fun _ => 0)))] H := hP
      have hD : va_D A [(h0, .inr (11, [.int 1, .ref m_memory, .int 0, .ref m_words, .int 0, .ref m_many, .ref m_bottom, .ref m_back, .ref m_gets, .ref m_locals, .int 0, .ref m_oldMemory, .int 0, .ref m_oldWords, .int 0, .ref m_oldMany, .ref m_oldBottom, .ref m_oldBack, .ref m_oldGets, .ref m_oldLocals, .int 0, .int 0, .int 0, .int 0, .int 0, .int 0, .int 0, .int 0, .int 0, .int 0, .int 0, .int 0, .ref m_latest, .int 0, .int 0, .ref m_typed, .int 0, .ref m_line, .int 0, .ref m_numbers, .int 0, .int 0, .int 0, .int 0, .int 0, .int 0, .int 0, .int 0, .ref m_letters, .ref m_starts, .ref m_lengths])), (m_many, .inl (cI, 11, .inl (fun _ => 0)))] := hD
      refine lv_aload_n hx hb d_Mo_local_19 rfl (lv_at hl 0 rfl) ?_
      refine va_get (D := (dC, dI)) (ci := 11) (v := .int 1) (C := "StoryMachineModel") (T := T_Mo) (N := 51) hx hb hts in_Mo hown hK hP 0 rfl rfl 0 (by decide) (hts _ mw_1063) (fun _ h9 => h9) rfl d_Mo_local_20 ?_
      refine lv_if_le (tgt := 28) hx hb d_Mo_local_23 (by decide) (fun h => absurd h (by decide)) (fun _ => ?_)
      refine lv_iconst (v := 0) hx hb d_Mo_local_26 (by decide) ?_
      have hP9 := hP.sub (ws' := [(h0, .inr (11, [.int 1, .ref m_memory, .int 0, .ref m_words, .int 0, .ref m_many, .ref m_bottom, .ref m_back, .ref m_gets, .ref m_locals, .int 0, .ref m_oldMemory, .int 0, .ref m_oldWords, .int 0, .ref m_oldMany, .ref m_oldBottom, .ref m_oldBack, .ref m_oldGets, .ref m_oldLocals, .int 0, .int 0, .int 0, .int 0, .int 0, .int 0, .int 0, .int 0, .int 0, .int 0, .int 0, .int 0, .ref m_latest, .int 0, .int 0, .ref m_typed, .int 0, .ref m_line, .int 0, .ref m_numbers, .int 0, .int 0, .int 0, .int 0, .int 0, .int 0, .int 0, .int 0, .ref m_letters, .ref m_starts, .ref m_lengths]))]) [0] rfl
      have hD9 := hD.sub (ws' := [(h0, .inr (11, [.int 1, .ref m_memory, .int 0, .ref m_words, .int 0, .ref m_many, .ref m_bottom, .ref m_back, .ref m_gets, .ref m_locals, .int 0, .ref m_oldMemory, .int 0, .ref m_oldWords, .int 0, .ref m_oldMany, .ref m_oldBottom, .ref m_oldBack, .ref m_oldGets, .ref m_oldLocals, .int 0, .int 0, .int 0, .int 0, .int 0, .int 0, .int 0, .int 0, .int 0, .int 0, .int 0, .int 0, .ref m_latest, .int 0, .int 0, .ref m_typed, .int 0, .ref m_line, .int 0, .ref m_numbers, .int 0, .int 0, .int 0, .int 0, .int 0, .int 0, .int 0, .int 0, .ref m_letters, .ref m_starts, .ref m_lengths]))]) [0] (by decide) rfl
      refine W.widen (k := 0) (n := 0) (Nat.le_of_ble_eq_true rfl) (Nat.le_of_ble_eq_true rfl) ?_
      exact tx_ret (W.iret (v := 0) hx hb hr (fun t ht hW => ⟨⟨fun _ => ⟨rfl, ⟨_, rfl, by rw [ht]; exact hP9, hD9⟩⟩, fun h => absurd (Or.inr ((Int32.not_le.mp hc8))) h⟩, hS.F ht⟩) (hS.2.2) d_Mo_local_27)
set_option maxHeartbeats 4000000 in
set_option maxRecDepth 100000 in
theorem c_Mo_copy (l : Launch) (hfl : l.flags = pinnedFlags ++ [noTraceFlag]) (dC : Nat → ClassId) (dI : Nat → Nat → Nat) (cI : ClassId) (q1 q2 : Nat) (sz : Nat) : tx_Met l ⟨"StoryMachineModel", "copy", "([I[II)V"⟩ tw_tbl ({ frames := 0, cells := 0, slots := 0, locals := 0 }) (tq_P (dC, dI) vcl [.ref q1, .ref q2, .int 0] sz [] [(cI, .int)]) (tq_Q (fun o t => o = .returned none) (va_A [] sz)) 0 0 (va_A [] sz) := by
  refine tx_ofW (cc := prog_13_method_56_code) (maxL := 4) (ret := none) (by decide) (tx_isM mw_1428) ?_
  intro p e s m args below meth c s₁ B hml hv
  obtain ⟨rfl, hsz, hP, hK, hD0, hst0⟩ := hv
  have hx := B.exec
  have hb := B.bytes
  have hr := B.returns
  have hts := atoms_spec (ws := tw_tbl) B.pre
  have hown : s.vm.findClass "StoryMachineModel" = some m.cls := findClass_of_methodNamed B.named
  have hlocks := B.notSynchronized
  subst hsz
  have hD := hD0.self (sz := s.heap.size)
  have hst := fun (H : Heap) (locs : List Loc) (hS : va_S (va_A [] s.heap.size) s.heap H locs) (U : State) (hU : U.heap = H) (hW : s.WarmedH U.vm) => ts_keep hW (fun q cell h1 h2 => by rw [hU]; exact ts_va hP hS q cell h1 h2) hst0
  generalize hAe : va_A [] s.heap.size = A at hD hst ⊢
  have hA : ∀ q : Nat, s.heap.size ≤ q → A q := fun q h => by rw [← hAe]; exact Or.inr h
  have hS : va_S A s.heap s.heap [] := va_S.rf
  have hP : va_P (dC, dI) vcl [] s.heap := hP
  have hl := lv_entry ([.ref q1, .ref q2, .int 0]) (n := 4) (Nat.le_of_ble_eq_true rfl)
  rw [lg_entry_eq]
  generalize (lg_sl ([.ref q1, .ref q2, .int 0]) ++ List.replicate (4 - (lg_sl ([.ref q1, .ref q2, .int 0])).length) Slot.unset).toArray = ls at hl ⊢
  have hl : lv_has ls 4 [(0, .ref q1), (1, .ref q2), (2, .int 0)] := hl
  refine lv_iconst (v := 0) hx hb d_Mo_copy_0 (by decide) ?_
  refine lv_istore_n (lv' := [(3, .int 0), (0, .ref q1), (1, .ref q2), (2, .int 0)]) hx hb d_Mo_copy_1 rfl hl (by decide) rfl (fun ls hl => ?_)
  refine lv_iload_n hx hb d_Mo_copy_2 rfl (lv_at hl 0 rfl) ?_
  refine lv_iload_n hx hb d_Mo_copy_3 rfl (lv_at hl 3 rfl) ?_
  refine lv_icmp_ge (tgt := 19) hx hb d_Mo_copy_4 (by decide) (fun _ => ?_) (fun h => absurd h (by decide))
  refine W.widen (k := 0) (n := 0) (Nat.le_of_ble_eq_true rfl) (Nat.le_of_ble_eq_true rfl) ?_
  exact tx_ret (W.vret hx hb hr (fun t ht hW => ⟨rfl, hS.F ht⟩) (hS.2.2) d_Mo_copy_19)
set_option maxHeartbeats 4000000 in
set_option maxRecDepth 100000 in
theorem c_Mo_enter (l : Launch) (hfl : l.flags = pinnedFlags ++ [noTraceFlag]) (dC : Nat → ClassId) (dI : Nat → Nat → Nat) (cI : ClassId) (h0 m_memory m_words m_many m_bottom m_back m_gets m_locals m_oldMemory m_oldWords m_oldMany m_oldBottom m_oldBack m_oldGets m_oldLocals m_latest m_typed m_line m_numbers m_letters m_starts m_lengths : Nat) (sz : Nat) : tx_Met l ⟨"StoryMachineModel", "enter", "()V"⟩ tw_tbl ({ frames := 2, cells := 0, slots := 0, locals := 60 }) (tq_P (dC, dI) vcl [.ref h0] sz [(h0, .inr (11, [.int 0, .ref m_memory, .int 0, .ref m_words, .int 0, .ref m_many, .ref m_bottom, .ref m_back, .ref m_gets, .ref m_locals, .int 0, .ref m_oldMemory, .int 0, .ref m_oldWords, .int 0, .ref m_oldMany, .ref m_oldBottom, .ref m_oldBack, .ref m_oldGets, .ref m_oldLocals, .int 0, .int 0, .int 0, .int 0, .int 0, .int 0, .int 0, .int 0, .int 0, .int 0, .int 0, .int 0, .ref m_latest, .int 0, .int 0, .ref m_typed, .int 0, .ref m_line, .int 0, .ref m_numbers, .int 0, .int 0, .int 0, .int 0, .int 0, .int 0, .int 0, .int 0, .ref m_letters, .ref m_starts, .ref m_lengths]))] [(cI, .int)]) (tq_Q (fun o t => o = .returned none) (va_A [(h0, .inr (11, [.int 0, .ref m_memory, .int 0, .ref m_words, .int 0, .ref m_many, .ref m_bottom, .ref m_back, .ref m_gets, .ref m_locals, .int 0, .ref m_oldMemory, .int 0, .ref m_oldWords, .int 0, .ref m_oldMany, .ref m_oldBottom, .ref m_oldBack, .ref m_oldGets, .ref m_oldLocals, .int 0, .int 0, .int 0, .int 0, .int 0, .int 0, .int 0, .int 0, .int 0, .int 0, .int 0, .int 0, .ref m_latest, .int 0, .int 0, .ref m_typed, .int 0, .ref m_line, .int 0, .ref m_numbers, .int 0, .int 0, .int 0, .int 0, .int 0, .int 0, .int 0, .int 0, .ref m_letters, .ref m_starts, .ref m_lengths]))] sz)) 0 0 (va_A [(h0, .inr (11, [.int 0, .ref m_memory, .int 0, .ref m_words, .int 0, .ref m_many, .ref m_bottom, .ref m_back, .ref m_gets, .ref m_locals, .int 0, .ref m_oldMemory, .int 0, .ref m_oldWords, .int 0, .ref m_oldMany, .ref m_oldBottom, .ref m_oldBack, .ref m_oldGets, .ref m_oldLocals, .int 0, .int 0, .int 0, .int 0, .int 0, .int 0, .int 0, .int 0, .int 0, .int 0, .int 0, .int 0, .ref m_latest, .int 0, .int 0, .ref m_typed, .int 0, .ref m_line, .int 0, .ref m_numbers, .int 0, .int 0, .int 0, .int 0, .int 0, .int 0, .int 0, .int 0, .ref m_letters, .ref m_starts, .ref m_lengths]))] sz) := by
  refine tx_ofW (cc := prog_13_method_78_code) (maxL := 1) (ret := none) (by decide) (tx_isM mw_1522) ?_
  intro p e s m args below meth c s₁ B hml hv
  obtain ⟨rfl, hsz, hP, hK, hD0, hst0⟩ := hv
  have hx := B.exec
  have hb := B.bytes
  have hr := B.returns
  have hts := atoms_spec (ws := tw_tbl) B.pre
  have hown : s.vm.findClass "StoryMachineModel" = some m.cls := findClass_of_methodNamed B.named
  have hlocks := B.notSynchronized
  subst hsz
  have hD := hD0.self (sz := s.heap.size)
  have hst := fun (H : Heap) (locs : List Loc) (hS : va_S (va_A [(h0, .inr (11, [.int 0, .ref m_memory, .int 0, .ref m_words, .int 0, .ref m_many, .ref m_bottom, .ref m_back, .ref m_gets, .ref m_locals, .int 0, .ref m_oldMemory, .int 0, .ref m_oldWords, .int 0, .ref m_oldMany, .ref m_oldBottom, .ref m_oldBack, .ref m_oldGets, .ref m_oldLocals, .int 0, .int 0, .int 0, .int 0, .int 0, .int 0, .int 0, .int 0, .int 0, .int 0, .int 0, .int 0, .ref m_latest, .int 0, .int 0, .ref m_typed, .int 0, .ref m_line, .int 0, .ref m_numbers, .int 0, .int 0, .int 0, .int 0, .int 0, .int 0, .int 0, .int 0, .ref m_letters, .ref m_starts, .ref m_lengths]))] s.heap.size) s.heap H locs) (U : State) (hU : U.heap = H) (hW : s.WarmedH U.vm) => ts_keep hW (fun q cell h1 h2 => by rw [hU]; exact ts_va hP hS q cell h1 h2) hst0
  generalize hAe : va_A [(h0, .inr (11, [.int 0, .ref m_memory, .int 0, .ref m_words, .int 0, .ref m_many, .ref m_bottom, .ref m_back, .ref m_gets, .ref m_locals, .int 0, .ref m_oldMemory, .int 0, .ref m_oldWords, .int 0, .ref m_oldMany, .ref m_oldBottom, .ref m_oldBack, .ref m_oldGets, .ref m_oldLocals, .int 0, .int 0, .int 0, .int 0, .int 0, .int 0, .int 0, .int 0, .int 0, .int 0, .int 0, .int 0, .ref m_latest, .int 0, .int 0, .ref m_typed, .int 0, .ref m_line, .int 0, .ref m_numbers, .int 0, .int 0, .int 0, .int 0, .int 0, .int 0, .int 0, .int 0, .ref m_letters, .ref m_starts, .ref m_lengths]))] s.heap.size = A at hD hst ⊢
  have hA : ∀ q : Nat, s.heap.size ≤ q → A q := fun q h => by rw [← hAe]; exact Or.inr h
  have hS : va_S A s.heap s.heap [] := va_S.rf
  have hP : va_P (dC, dI) vcl [(h0, .inr (11, [.int 0, .ref m_memory, .int 0, .ref m_words, .int 0, .ref m_many, .ref m_bottom, .ref m_back, .ref m_gets, .ref m_locals, .int 0, .ref m_oldMemory, .int 0, .ref m_oldWords, .int 0, .ref m_oldMany, .ref m_oldBottom, .ref m_oldBack, .ref m_oldGets, .ref m_oldLocals, .int 0, .int 0, .int 0, .int 0, .int 0, .int 0, .int 0, .int 0, .int 0, .int 0, .int 0, .int 0, .ref m_latest, .int 0, .int 0, .ref m_typed, .int 0, .ref m_line, .int 0, .ref m_numbers, .int 0, .int 0, .int 0, .int 0, .int 0, .int 0, .int 0, .int 0, .ref m_letters, .ref m_starts, .ref m_lengths]))] s.heap := hP
  have hl := lv_entry ([.ref h0]) (n := 1) (Nat.le_of_ble_eq_true rfl)
  rw [lg_entry_eq]
  generalize (lg_sl ([.ref h0]) ++ List.replicate (1 - (lg_sl ([.ref h0])).length) Slot.unset).toArray = ls at hl ⊢
  have hl : lv_has ls 1 [(0, .ref h0)] := hl
  refine lv_aload_n hx hb d_Mo_enter_0 rfl (lv_at hl 0 rfl) ?_
  refine lv_iconst (v := 0) hx hb d_Mo_enter_1 (by decide) ?_
  refine va_put (D := (dC, dI)) (ci := 11) (v := .int 0) (ty := .int) (C := "StoryMachineModel") (T := T_Mo) (N := 51) hx hb hts in_Mo t_Mo tk_Mo nm_Mo hown hK hP hD hS 0 rfl rfl 0 (by decide) (hts _ mw_1063) (fun _ h9 => h9) rfl (by decide +kernel) rfl rfl (Nat.le_of_ble_eq_true rfl) d_Mo_enter_2 (fun H locs hP hD hS => ?_)
  have hP : va_P (dC, dI) vcl [(h0, .inr (11, [.int 0, .ref m_memory, .int 0, .ref m_words, .int 0, .ref m_many, .ref m_bottom, .ref m_back, .ref m_gets, .ref m_locals, .int 0, .ref m_oldMemory, .int 0, .ref m_oldWords, .int 0, .ref m_oldMany, .ref m_oldBottom, .ref m_oldBack, .ref m_oldGets, .ref m_oldLocals, .int 0, .int 0, .int 0, .int 0, .int 0, .int 0, .int 0, .int 0, .int 0, .int 0, .int 0, .int 0, .ref m_latest, .int 0, .int 0, .ref m_typed, .int 0, .ref m_line, .int 0, .ref m_numbers, .int 0, .int 0, .int 0, .int 0, .int 0, .int 0, .int 0, .int 0, .ref m_letters, .ref m_starts, .ref m_lengths]))] H := hP
  have hD : va_D A [(h0, .inr (11, [.int 0, .ref m_memory, .int 0, .ref m_words, .int 0, .ref m_many, .ref m_bottom, .ref m_back, .ref m_gets, .ref m_locals, .int 0, .ref m_oldMemory, .int 0, .ref m_oldWords, .int 0, .ref m_oldMany, .ref m_oldBottom, .ref m_oldBack, .ref m_oldGets, .ref m_oldLocals, .int 0, .int 0, .int 0, .int 0, .int 0, .int 0, .int 0, .int 0, .int 0, .int 0, .int 0, .int 0, .ref m_latest, .int 0, .int 0, .ref m_typed, .int 0, .ref m_line, .int 0, .ref m_numbers, .int 0, .int 0, .int 0, .int 0, .int 0, .int 0, .int 0, .int 0, .ref m_letters, .ref m_starts, .ref m_lengths]))] := hD
  refine lv_aload_n hx hb d_Mo_enter_5 rfl (lv_at hl 0 rfl) ?_
  refine lv_aload_n hx hb d_Mo_enter_6 rfl (lv_at hl 0 rfl) ?_
  refine va_get (D := (dC, dI)) (ci := 11) (v := .int 0) (C := "StoryMachineModel") (T := T_Mo) (N := 51) hx hb hts in_Mo hown hK hP 0 rfl rfl 34 (by decide) (hts _ mw_1097) (fun _ h9 => h9) rfl d_Mo_enter_7 ?_
  refine va_put (D := (dC, dI)) (ci := 11) (v := .int 0) (ty := .int) (C := "StoryMachineModel") (T := T_Mo) (N := 51) hx hb hts in_Mo t_Mo tk_Mo nm_Mo hown hK hP hD hS 0 rfl rfl 36 (by decide) (hts _ mw_1099) (fun _ h9 => h9) rfl (by decide +kernel) rfl rfl (Nat.le_of_ble_eq_true rfl) d_Mo_enter_10 (fun H locs hP hD hS => ?_)
  have hP : va_P (dC, dI) vcl [(h0, .inr (11, [.int 0, .ref m_memory, .int 0, .ref m_words, .int 0, .ref m_many, .ref m_bottom, .ref m_back, .ref m_gets, .ref m_locals, .int 0, .ref m_oldMemory, .int 0, .ref m_oldWords, .int 0, .ref m_oldMany, .ref m_oldBottom, .ref m_oldBack, .ref m_oldGets, .ref m_oldLocals, .int 0, .int 0, .int 0, .int 0, .int 0, .int 0, .int 0, .int 0, .int 0, .int 0, .int 0, .int 0, .ref m_latest, .int 0, .int 0, .ref m_typed, .int 0, .ref m_line, .int 0, .ref m_numbers, .int 0, .int 0, .int 0, .int 0, .int 0, .int 0, .int 0, .int 0, .ref m_letters, .ref m_starts, .ref m_lengths]))] H := hP
  have hD : va_D A [(h0, .inr (11, [.int 0, .ref m_memory, .int 0, .ref m_words, .int 0, .ref m_many, .ref m_bottom, .ref m_back, .ref m_gets, .ref m_locals, .int 0, .ref m_oldMemory, .int 0, .ref m_oldWords, .int 0, .ref m_oldMany, .ref m_oldBottom, .ref m_oldBack, .ref m_oldGets, .ref m_oldLocals, .int 0, .int 0, .int 0, .int 0, .int 0, .int 0, .int 0, .int 0, .int 0, .int 0, .int 0, .int 0, .ref m_latest, .int 0, .int 0, .ref m_typed, .int 0, .ref m_line, .int 0, .ref m_numbers, .int 0, .int 0, .int 0, .int 0, .int 0, .int 0, .int 0, .int 0, .ref m_letters, .ref m_starts, .ref m_lengths]))] := hD
  refine lv_aload_n hx hb d_Mo_enter_13 rfl (lv_at hl 0 rfl) ?_
  refine va_get (D := (dC, dI)) (ci := 11) (v := .ref m_typed) (C := "StoryMachineModel") (T := T_Mo) (N := 51) hx hb hts in_Mo hown hK hP 0 rfl rfl 35 (by decide) (hts _ mw_1098) (fun _ h9 => h9) rfl d_Mo_enter_14 ?_
  refine lv_aload_n hx hb d_Mo_enter_17 rfl (lv_at hl 0 rfl) ?_
  refine va_get (D := (dC, dI)) (ci := 11) (v := .ref m_line) (C := "StoryMachineModel") (T := T_Mo) (N := 51) hx hb hts in_Mo hown hK hP 0 rfl rfl 37 (by decide) (hts _ mw_1100) (fun _ h9 => h9) rfl d_Mo_enter_18 ?_
  refine lv_aload_n hx hb d_Mo_enter_21 rfl (lv_at hl 0 rfl) ?_
  refine va_get (D := (dC, dI)) (ci := 11) (v := .int 0) (C := "StoryMachineModel") (T := T_Mo) (N := 51) hx hb hts in_Mo hown hK hP 0 rfl rfl 34 (by decide) (hts _ mw_1097) (fun _ h9 => h9) rfl d_Mo_enter_22 ?_
  have hPc := hP.sub (ws' := []) [] rfl
  have hDc := hD.sub (ws' := []) [] (by decide) rfl
  have hFc := va_free (wc := []) hD hS hA [] rfl
  refine tx_callK (A1 := va_A [] H.size) (tx_runS (As := [.ref m_typed, .ref m_line, .int 0]) (rest := []) ⟨hx, hb, hml, hown, hts⟩ (c_Mo_copy l hfl dC dI cI m_typed m_line H.size) (tx_cb (n := 3) hts rfl rfl ⟨Nat.le_of_ble_eq_true rfl, Nat.le_of_ble_eq_true rfl⟩ (tx_code.of (hts _ mw_1428)) (hts _ mw_12) (by decide +kernel) (hts _ mw_1426)) (hts _ mw_1427) ⟨tq_blind, fun U hU hW => ⟨rfl, by rw [hU], by rw [hU]; exact hPc, va_K.moved hW.alike hK, hDc.weaken (fun _ _ _ _ => trivial), hst _ _ hS U hU hW⟩⟩ rfl rfl hl.1 rfl (lv_room (Nat.le_of_ble_eq_true rfl)) d_Mo_enter_25 ⟨Nat.le_of_ble_eq_true rfl, Nat.le_of_ble_eq_true rfl⟩) hS (fun q _ h => hFc q h) hFc (fun v t H25 locs ht hWt hpost hz1 hk1 hS => ?_) (fun x t H1 locs ht hWt hpost hz1 hk1 hS => by cases hpost)
  cases hpost
  have hP1 := ta_nilP (D := (dC, dI)) (cl := vcl) (H := t.heap)
  have hD1 := ta_nilD (A := va_A [] H.size)
  rw [ht] at hP1
  obtain ⟨hP, hD⟩ := va_join (wr := [(h0, .inr (11, [.int 0, .ref m_memory, .int 0, .ref m_words, .int 0, .ref m_many, .ref m_bottom, .ref m_back, .ref m_gets, .ref m_locals, .int 0, .ref m_oldMemory, .int 0, .ref m_oldWords, .int 0, .ref m_oldMany, .ref m_oldBottom, .ref m_oldBack, .ref m_oldGets, .ref m_oldLocals, .int 0, .int 0, .int 0, .int 0, .int 0, .int 0, .int 0, .int 0, .int 0, .int 0, .int 0, .int 0, .ref m_latest, .int 0, .int 0, .ref m_typed, .int 0, .ref m_line, .int 0, .ref m_numbers, .int 0, .int 0, .int 0, .int 0, .int 0, .int 0, .int 0, .int 0, .ref m_letters, .ref m_starts, .ref m_lengths]))]) (w1 := []) hP hD [] [0] rfl rfl (by decide) (by decide) hk1 hFc hP1 hD1
  have hP : va_P (dC, dI) vcl [(h0, .inr (11, [.int 0, .ref m_memory, .int 0, .ref m_words, .int 0, .ref m_many, .ref m_bottom, .ref m_back, .ref m_gets, .ref m_locals, .int 0, .ref m_oldMemory, .int 0, .ref m_oldWords, .int 0, .ref m_oldMany, .ref m_oldBottom, .ref m_oldBack, .ref m_oldGets, .ref m_oldLocals, .int 0, .int 0, .int 0, .int 0, .int 0, .int 0, .int 0, .int 0, .int 0, .int 0, .int 0, .int 0, .ref m_latest, .int 0, .int 0, .ref m_typed, .int 0, .ref m_line, .int 0, .ref m_numbers, .int 0, .int 0, .int 0, .int 0, .int 0, .int 0, .int 0, .int 0, .ref m_letters, .ref m_starts, .ref m_lengths]))] H25 := hP
  have hD : va_D A [(h0, .inr (11, [.int 0, .ref m_memory, .int 0, .ref m_words, .int 0, .ref m_many, .ref m_bottom, .ref m_back, .ref m_gets, .ref m_locals, .int 0, .ref m_oldMemory, .int 0, .ref m_oldWords, .int 0, .ref m_oldMany, .ref m_oldBottom, .ref m_oldBack, .ref m_oldGets, .ref m_oldLocals, .int 0, .int 0, .int 0, .int 0, .int 0, .int 0, .int 0, .int 0, .int 0, .int 0, .int 0, .int 0, .ref m_latest, .int 0, .int 0, .ref m_typed, .int 0, .ref m_line, .int 0, .ref m_numbers, .int 0, .int 0, .int 0, .int 0, .int 0, .int 0, .int 0, .int 0, .ref m_letters, .ref m_starts, .ref m_lengths]))] := hD
  refine lv_aload_n hx hb d_Mo_enter_28 rfl (lv_at hl 0 rfl) ?_
  refine lv_iconst (v := 0) hx hb d_Mo_enter_29 (by decide) ?_
  refine va_put (D := (dC, dI)) (ci := 11) (v := .int 0) (ty := .int) (C := "StoryMachineModel") (T := T_Mo) (N := 51) hx hb hts in_Mo t_Mo tk_Mo nm_Mo hown hK hP hD hS 0 rfl rfl 34 (by decide) (hts _ mw_1097) (fun _ h9 => h9) rfl (by decide +kernel) rfl rfl (Nat.le_of_ble_eq_true rfl) d_Mo_enter_30 (fun H locs hP hD hS => ?_)
  have hP : va_P (dC, dI) vcl [(h0, .inr (11, [.int 0, .ref m_memory, .int 0, .ref m_words, .int 0, .ref m_many, .ref m_bottom, .ref m_back, .ref m_gets, .ref m_locals, .int 0, .ref m_oldMemory, .int 0, .ref m_oldWords, .int 0, .ref m_oldMany, .ref m_oldBottom, .ref m_oldBack, .ref m_oldGets, .ref m_oldLocals, .int 0, .int 0, .int 0, .int 0, .int 0, .int 0, .int 0, .int 0, .int 0, .int 0, .int 0, .int 0, .ref m_latest, .int 0, .int 0, .ref m_typed, .int 0, .ref m_line, .int 0, .ref m_numbers, .int 0, .int 0, .int 0, .int 0, .int 0, .int 0, .int 0, .int 0, .ref m_letters, .ref m_starts, .ref m_lengths]))] H := hP
  have hD : va_D A [(h0, .inr (11, [.int 0, .ref m_memory, .int 0, .ref m_words, .int 0, .ref m_many, .ref m_bottom, .ref m_back, .ref m_gets, .ref m_locals, .int 0, .ref m_oldMemory, .int 0, .ref m_oldWords, .int 0, .ref m_oldMany, .ref m_oldBottom, .ref m_oldBack, .ref m_oldGets, .ref m_oldLocals, .int 0, .int 0, .int 0, .int 0, .int 0, .int 0, .int 0, .int 0, .int 0, .int 0, .int 0, .int 0, .ref m_latest, .int 0, .int 0, .ref m_typed, .int 0, .ref m_line, .int 0, .ref m_numbers, .int 0, .int 0, .int 0, .int 0, .int 0, .int 0, .int 0, .int 0, .ref m_letters, .ref m_starts, .ref m_lengths]))] := hD
  refine lv_aload_n hx hb d_Mo_enter_33 rfl (lv_at hl 0 rfl) ?_
  refine lv_iconst (v := 1) hx hb d_Mo_enter_34 (by decide) ?_
  refine va_put (D := (dC, dI)) (ci := 11) (v := .int 1) (ty := .boolean) (C := "StoryMachineModel") (T := T_Mo) (N := 51) hx hb hts in_Mo t_Mo tk_Mo nm_Mo hown hK hP hD hS 0 rfl rfl 33 (by decide) (hts _ mw_1096) (fun _ h9 => h9) rfl (by decide +kernel) (by decide) rfl (Nat.le_of_ble_eq_true rfl) d_Mo_enter_35 (fun H locs hP hD hS => ?_)
  have hP : va_P (dC, dI) vcl [(h0, .inr (11, [.int 0, .ref m_memory, .int 0, .ref m_words, .int 0, .ref m_many, .ref m_bottom, .ref m_back, .ref m_gets, .ref m_locals, .int 0, .ref m_oldMemory, .int 0, .ref m_oldWords, .int 0, .ref m_oldMany, .ref m_oldBottom, .ref m_oldBack, .ref m_oldGets, .ref m_oldLocals, .int 0, .int 0, .int 0, .int 0, .int 0, .int 0, .int 0, .int 0, .int 0, .int 0, .int 0, .int 0, .ref m_latest, .int 1, .int 0, .ref m_typed, .int 0, .ref m_line, .int 0, .ref m_numbers, .int 0, .int 0, .int 0, .int 0, .int 0, .int 0, .int 0, .int 0, .ref m_letters, .ref m_starts, .ref m_lengths]))] H := hP
  have hD : va_D A [(h0, .inr (11, [.int 0, .ref m_memory, .int 0, .ref m_words, .int 0, .ref m_many, .ref m_bottom, .ref m_back, .ref m_gets, .ref m_locals, .int 0, .ref m_oldMemory, .int 0, .ref m_oldWords, .int 0, .ref m_oldMany, .ref m_oldBottom, .ref m_oldBack, .ref m_oldGets, .ref m_oldLocals, .int 0, .int 0, .int 0, .int 0, .int 0, .int 0, .int 0, .int 0, .int 0, .int 0, .int 0, .int 0, .ref m_latest, .int 1, .int 0, .ref m_typed, .int 0, .ref m_line, .int 0, .ref m_numbers, .int 0, .int 0, .int 0, .int 0, .int 0, .int 0, .int 0, .int 0, .ref m_letters, .ref m_starts, .ref m_lengths]))] := hD
  refine W.widen (k := 0) (n := 0) (Nat.le_of_ble_eq_true rfl) (Nat.le_of_ble_eq_true rfl) ?_
  exact tx_ret (W.vret hx hb hr (fun t ht hW => ⟨rfl, hS.F ht⟩) (hS.2.2) d_Mo_enter_38)
set_option maxHeartbeats 4000000 in
set_option maxRecDepth 100000 in
theorem c_Li_finish (l : Launch) (hfl : l.flags = pinnedFlags ++ [noTraceFlag]) (dC : Nat → ClassId) (dI : Nat → Nat → Nat) (cI : ClassId) (h0 l_typed l_entered : Nat) (sz : Nat) : tx_Met l ⟨"StoryMachine$Line", "finish", "()V"⟩ tw_tbl ({ frames := 1, cells := 0, slots := 0, locals := 40 }) (tq_P (dC, dI) vcl [.ref h0] sz [(h0, .inr (2, [.ref l_typed, .int 0, .ref l_entered, .int 0, .int 0]))] [(cI, .int)]) (tq_Q (fun o t => o = .returned none) (va_A [(h0, .inr (2, [.ref l_typed, .int 0, .ref l_entered, .int 0, .int 0]))] sz)) 0 0 (va_A [(h0, .inr (2, [.ref l_typed, .int 0, .ref l_entered, .int 0, .int 0]))] sz) := by
  refine tx_ofW (cc := prog_6_method_4_code) (maxL := 4) (ret := none) (by decide) (tx_isM mw_333) ?_
  intro p e s m args below meth c s₁ B hml hv
  obtain ⟨rfl, hsz, hP, hK, hD0, hst0⟩ := hv
  have hx := B.exec
  have hb := B.bytes
  have hr := B.returns
  have hts := atoms_spec (ws := tw_tbl) B.pre
  have hown : s.vm.findClass "StoryMachine$Line" = some m.cls := findClass_of_methodNamed B.named
  have hlocks := B.notSynchronized
  subst hsz
  have hD := hD0.self (sz := s.heap.size)
  have hst := fun (H : Heap) (locs : List Loc) (hS : va_S (va_A [(h0, .inr (2, [.ref l_typed, .int 0, .ref l_entered, .int 0, .int 0]))] s.heap.size) s.heap H locs) (U : State) (hU : U.heap = H) (hW : s.WarmedH U.vm) => ts_keep hW (fun q cell h1 h2 => by rw [hU]; exact ts_va hP hS q cell h1 h2) hst0
  generalize hAe : va_A [(h0, .inr (2, [.ref l_typed, .int 0, .ref l_entered, .int 0, .int 0]))] s.heap.size = A at hD hst ⊢
  have hA : ∀ q : Nat, s.heap.size ≤ q → A q := fun q h => by rw [← hAe]; exact Or.inr h
  have hS : va_S A s.heap s.heap [] := va_S.rf
  have hP : va_P (dC, dI) vcl [(h0, .inr (2, [.ref l_typed, .int 0, .ref l_entered, .int 0, .int 0]))] s.heap := hP
  have hl := lv_entry ([.ref h0]) (n := 4) (Nat.le_of_ble_eq_true rfl)
  rw [lg_entry_eq]
  generalize (lg_sl ([.ref h0]) ++ List.replicate (4 - (lg_sl ([.ref h0])).length) Slot.unset).toArray = ls at hl ⊢
  have hl : lv_has ls 4 [(0, .ref h0)] := hl
  refine lv_iconst (v := 0) hx hb d_Li_finish_0 (by decide) ?_
  refine lv_istore_n (lv' := [(1, .int 0), (0, .ref h0)]) hx hb d_Li_finish_1 rfl hl (by decide) rfl (fun ls hl => ?_)
  refine lv_iload_n hx hb d_Li_finish_2 rfl (lv_at hl 0 rfl) ?_
  refine lv_aload_n hx hb d_Li_finish_3 rfl (lv_at hl 1 rfl) ?_
  refine va_get (D := (dC, dI)) (ci := 2) (v := .int 0) (C := "StoryMachine$Line") (T := T_Li) (N := 5) hx hb hts in_Li hown hK hP 0 rfl rfl 1 (by decide) (hts _ mw_55) (fun _ h9 => h9) rfl d_Li_finish_4 ?_
  refine lv_icmp_ge (tgt := 62) hx hb d_Li_finish_7 (by decide) (fun _ => ?_) (fun h => absurd h (by decide))
  refine lv_aload_n hx hb d_Li_finish_62 rfl (lv_at hl 1 rfl) ?_
  refine lv_aload_n hx hb d_Li_finish_63 rfl (lv_at hl 1 rfl) ?_
  refine va_get (D := (dC, dI)) (ci := 2) (v := .int 0) (C := "StoryMachine$Line") (T := T_Li) (N := 5) hx hb hts in_Li hown hK hP 0 rfl rfl 1 (by decide) (hts _ mw_55) (fun _ h9 => h9) rfl d_Li_finish_64 ?_
  refine va_put (D := (dC, dI)) (ci := 2) (v := .int 0) (ty := .int) (C := "StoryMachine$Line") (T := T_Li) (N := 5) hx hb hts in_Li t_Li tk_Li nm_Li hown hK hP hD hS 0 rfl rfl 3 (by decide) (hts _ mw_59) (fun _ h9 => h9) rfl (by decide +kernel) rfl rfl (Nat.le_of_ble_eq_true rfl) d_Li_finish_67 (fun H locs hP hD hS => ?_)
  have hP : va_P (dC, dI) vcl [(h0, .inr (2, [.ref l_typed, .int 0, .ref l_entered, .int 0, .int 0]))] H := hP
  have hD : va_D A [(h0, .inr (2, [.ref l_typed, .int 0, .ref l_entered, .int 0, .int 0]))] := hD
  refine lv_aload_n hx hb d_Li_finish_70 rfl (lv_at hl 1 rfl) ?_
  refine lv_iconst (v := 0) hx hb d_Li_finish_71 (by decide) ?_
  refine va_put (D := (dC, dI)) (ci := 2) (v := .int 0) (ty := .int) (C := "StoryMachine$Line") (T := T_Li) (N := 5) hx hb hts in_Li t_Li tk_Li nm_Li hown hK hP hD hS 0 rfl rfl 1 (by decide) (hts _ mw_55) (fun _ h9 => h9) rfl (by decide +kernel) rfl rfl (Nat.le_of_ble_eq_true rfl) d_Li_finish_72 (fun H locs hP hD hS => ?_)
  have hP : va_P (dC, dI) vcl [(h0, .inr (2, [.ref l_typed, .int 0, .ref l_entered, .int 0, .int 0]))] H := hP
  have hD : va_D A [(h0, .inr (2, [.ref l_typed, .int 0, .ref l_entered, .int 0, .int 0]))] := hD
  refine lv_aload_n hx hb d_Li_finish_75 rfl (lv_at hl 1 rfl) ?_
  refine lv_iconst (v := 1) hx hb d_Li_finish_76 (by decide) ?_
  refine va_put (D := (dC, dI)) (ci := 2) (v := .int 1) (ty := .boolean) (C := "StoryMachine$Line") (T := T_Li) (N := 5) hx hb hts in_Li t_Li tk_Li nm_Li hown hK hP hD hS 0 rfl rfl 4 (by decide) (hts _ mw_61) (fun _ h9 => h9) rfl (by decide +kernel) (by decide) rfl (Nat.le_of_ble_eq_true rfl) d_Li_finish_77 (fun H locs hP hD hS => ?_)
  have hP : va_P (dC, dI) vcl [(h0, .inr (2, [.ref l_typed, .int 0, .ref l_entered, .int 0, .int 1]))] H := hP
  have hD : va_D A [(h0, .inr (2, [.ref l_typed, .int 0, .ref l_entered, .int 0, .int 1]))] := hD
  refine W.widen (k := 0) (n := 0) (Nat.le_of_ble_eq_true rfl) (Nat.le_of_ble_eq_true rfl) ?_
  exact tx_ret (W.vret hx hb hr (fun t ht hW => ⟨rfl, hS.F ht⟩) (hS.2.2) d_Li_finish_80)
set_option maxHeartbeats 4000000 in
set_option maxRecDepth 100000 in
theorem c_SM_enter (l : Launch) (hfl : l.flags = pinnedFlags ++ [noTraceFlag]) (dC : Nat → ClassId) (dI : Nat → Nat → Nat) (cI : ClassId) (h0 q1 q2 q3 q4 q5 l_typed l_entered : Nat) (sz : Nat) : tx_Met l ⟨"StoryMachine", "enter", "()V"⟩ tw_tbl ({ frames := 2, cells := 0, slots := 0, locals := 70 }) (tq_P (dC, dI) vcl [.ref h0] sz [(h0, .inr (0, [.ref q1, .ref q2, .ref q3, .ref q4, .ref q5])), (q2, .inr (2, [.ref l_typed, .int 0, .ref l_entered, .int 0, .int 0]))] [(cI, .int)]) (tq_Q (fun o t => o = .returned none) (va_A [(h0, .inr (0, [.ref q1, .ref q2, .ref q3, .ref q4, .ref q5])), (q2, .inr (2, [.ref l_typed, .int 0, .ref l_entered, .int 0, .int 0]))] sz)) 0 0 (va_A [(h0, .inr (0, [.ref q1, .ref q2, .ref q3, .ref q4, .ref q5])), (q2, .inr (2, [.ref l_typed, .int 0, .ref l_entered, .int 0, .int 0]))] sz) := by
  refine tx_ofW (cc := prog_1_method_6_code) (maxL := 1) (ret := none) (by decide) (tx_isM mw_329) ?_
  intro p e s m args below meth c s₁ B hml hv
  obtain ⟨rfl, hsz, hP, hK, hD0, hst0⟩ := hv
  have hx := B.exec
  have hb := B.bytes
  have hr := B.returns
  have hts := atoms_spec (ws := tw_tbl) B.pre
  have hown : s.vm.findClass "StoryMachine" = some m.cls := findClass_of_methodNamed B.named
  have hlocks := B.notSynchronized
  subst hsz
  have hD := hD0.self (sz := s.heap.size)
  have hst := fun (H : Heap) (locs : List Loc) (hS : va_S (va_A [(h0, .inr (0, [.ref q1, .ref q2, .ref q3, .ref q4, .ref q5])), (q2, .inr (2, [.ref l_typed, .int 0, .ref l_entered, .int 0, .int 0]))] s.heap.size) s.heap H locs) (U : State) (hU : U.heap = H) (hW : s.WarmedH U.vm) => ts_keep hW (fun q cell h1 h2 => by rw [hU]; exact ts_va hP hS q cell h1 h2) hst0
  generalize hAe : va_A [(h0, .inr (0, [.ref q1, .ref q2, .ref q3, .ref q4, .ref q5])), (q2, .inr (2, [.ref l_typed, .int 0, .ref l_entered, .int 0, .int 0]))] s.heap.size = A at hD hst ⊢
  have hA : ∀ q : Nat, s.heap.size ≤ q → A q := fun q h => by rw [← hAe]; exact Or.inr h
  have hS : va_S A s.heap s.heap [] := va_S.rf
  have hP : va_P (dC, dI) vcl [(h0, .inr (0, [.ref q1, .ref q2, .ref q3, .ref q4, .ref q5])), (q2, .inr (2, [.ref l_typed, .int 0, .ref l_entered, .int 0, .int 0]))] s.heap := hP
  have hl := lv_entry ([.ref h0]) (n := 1) (Nat.le_of_ble_eq_true rfl)
  rw [lg_entry_eq]
  generalize (lg_sl ([.ref h0]) ++ List.replicate (1 - (lg_sl ([.ref h0])).length) Slot.unset).toArray = ls at hl ⊢
  have hl : lv_has ls 1 [(0, .ref h0)] := hl
  refine lv_aload_n hx hb d_SM_enter_0 rfl (lv_at hl 0 rfl) ?_
  refine va_get (D := (dC, dI)) (ci := 0) (v := .ref q2) (C := "StoryMachine") (T := T_SM) (N := 5) hx hb hts in_SM hown hK hP 0 rfl rfl 1 (by decide) (hts _ mw_311) (fun _ h9 => h9) rfl d_SM_enter_1 ?_
  have hPc := hP.sub (ws' := [(q2, .inr (2, [.ref l_typed, .int 0, .ref l_entered, .int 0, .int 0]))]) [1] rfl
  have hDc := hD.sub (ws' := [(q2, .inr (2, [.ref l_typed, .int 0, .ref l_entered, .int 0, .int 0]))]) [1] (by decide) rfl
  have hFc := va_free (wc := [(q2, .inr (2, [.ref l_typed, .int 0, .ref l_entered, .int 0, .int 0]))]) hD hS hA [1] rfl
  refine tx_callK (A1 := va_A [(q2, .inr (2, [.ref l_typed, .int 0, .ref l_entered, .int 0, .int 0]))] s.heap.size) (tx_runV (C := "StoryMachine$Line") (As := []) (rest := []) ⟨hx, hb, hml, hown, hts⟩ (c_Li_finish l hfl dC dI cI q2 l_typed l_entered s.heap.size) (tx_cb (n := 0) hts rfl rfl ⟨Nat.le_of_ble_eq_true rfl, Nat.le_of_ble_eq_true rfl⟩ (tx_code.of (hts _ mw_333)) (hts _ mw_3) (by decide +kernel) (hts _ mw_330)) (hts _ mw_331) (hts _ mw_332) ⟨tq_blind, ta_recv (q0 := 1) hts in_Li hK hP rfl rfl, fun U hU hW => ⟨rfl, by rw [hU], by rw [hU]; exact hPc, va_K.moved hW.alike hK, hDc.weaken (fun _ _ _ _ => trivial), hst _ _ hS U hU hW⟩⟩ rfl rfl hl.1 rfl (lv_room (Nat.le_of_ble_eq_true rfl)) d_SM_enter_4 ⟨Nat.le_of_ble_eq_true rfl, Nat.le_of_ble_eq_true rfl⟩) hS (fun q _ h => hFc q h) hFc (fun v t H4 locs ht hWt hpost hz1 hk1 hS => ?_) (fun x t H1 locs ht hWt hpost hz1 hk1 hS => by cases hpost)
  cases hpost
  have hP1 := ta_nilP (D := (dC, dI)) (cl := vcl) (H := t.heap)
  have hD1 := ta_nilD (A := va_A [(q2, .inr (2, [.ref l_typed, .int 0, .ref l_entered, .int 0, .int 0]))] s.heap.size)
  rw [ht] at hP1
  obtain ⟨hP, hD⟩ := va_join (wr := [(h0, .inr (0, [.ref q1, .ref q2, .ref q3, .ref q4, .ref q5]))]) (w1 := []) hP hD [1] [0] rfl rfl (by decide) (by decide) hk1 hFc hP1 hD1
  have hP : va_P (dC, dI) vcl [(h0, .inr (0, [.ref q1, .ref q2, .ref q3, .ref q4, .ref q5]))] H4 := hP
  have hD : va_D A [(h0, .inr (0, [.ref q1, .ref q2, .ref q3, .ref q4, .ref q5]))] := hD
  refine W.widen (k := 0) (n := 0) (Nat.le_of_ble_eq_true rfl) (Nat.le_of_ble_eq_true rfl) ?_
  exact tx_ret (W.vret hx hb hr (fun t ht hW => ⟨rfl, hS.F ht⟩) (hS.2.2) d_SM_enter_7)
end
