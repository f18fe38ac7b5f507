/-! Names, field tables, words by their places; written by wip/tools/gen.py. -/
theorem mw_0 : (Cond.initialized "StoryMachineLaw") ∈ tw_tbl := tw_mem (List.mem_append_right _ (List.mem_of_getElem? (i := 0) (by decide +kernel))) rfl
theorem mw_1 : (Cond.initialized "StoryMachine") ∈ tw_tbl := tw_mem (List.mem_append_right _ (List.mem_of_getElem? (i := 1) (by decide +kernel))) rfl
theorem mw_2 : (Cond.initialized "StoryMachine$Memory") ∈ tw_tbl := tw_mem (List.mem_append_right _ (List.mem_of_getElem? (i := 2) (by decide +kernel))) rfl
theorem mw_3 : (Cond.initialized "StoryMachine$Line") ∈ tw_tbl := tw_mem (List.mem_append_right _ (List.mem_of_getElem? (i := 3) (by decide +kernel))) rfl
theorem mw_4 : (Cond.initialized "StoryMachine$Routines") ∈ tw_tbl := tw_mem (List.mem_append_right _ (List.mem_of_getElem? (i := 4) (by decide +kernel))) rfl
theorem mw_5 : (Cond.initialized "StoryMachine$Printer") ∈ tw_tbl := tw_mem (List.mem_append_right _ (List.mem_of_getElem? (i := 5) (by decide +kernel))) rfl
theorem mw_6 : (Cond.initialized "StoryMachine$Engine") ∈ tw_tbl := tw_mem (List.mem_append_right _ (List.mem_of_getElem? (i := 6) (by decide +kernel))) rfl
theorem mw_7 : (Cond.initialized "StoryMachine$Aside") ∈ tw_tbl := tw_mem (List.mem_append_right _ (List.mem_of_getElem? (i := 7) (by decide +kernel))) rfl
theorem mw_8 : (Cond.initialized "StoryMachine$Variables") ∈ tw_tbl := tw_mem (List.mem_append_right _ (List.mem_of_getElem? (i := 8) (by decide +kernel))) rfl
theorem mw_9 : (Cond.initialized "StoryMachine$Tree") ∈ tw_tbl := tw_mem (List.mem_append_right _ (List.mem_of_getElem? (i := 9) (by decide +kernel))) rfl
theorem mw_10 : (Cond.initialized "StoryMachine$Dictionary") ∈ tw_tbl := tw_mem (List.mem_append_right _ (List.mem_of_getElem? (i := 10) (by decide +kernel))) rfl
theorem mw_11 : (Cond.initialized "StoryMachine$Instruction") ∈ tw_tbl := tw_mem (List.mem_append_right _ (List.mem_of_getElem? (i := 11) (by decide +kernel))) rfl
theorem mw_12 : (Cond.initialized "StoryMachineModel") ∈ tw_tbl := tw_mem (List.mem_append_right _ (List.mem_of_getElem? (i := 12) (by decide +kernel))) rfl
theorem mw_13 : (Cond.initialized "java/lang/Throwable") ∈ tw_tbl := tw_mem (List.mem_append_right _ (List.mem_of_getElem? (i := 13) (by decide +kernel))) rfl
theorem mw_14 : (Cond.initialized "java/lang/Exception") ∈ tw_tbl := tw_mem (List.mem_append_right _ (List.mem_of_getElem? (i := 14) (by decide +kernel))) rfl
theorem mw_15 : (Cond.initialized "java/lang/RuntimeException") ∈ tw_tbl := tw_mem (List.mem_append_right _ (List.mem_of_getElem? (i := 15) (by decide +kernel))) rfl
theorem mw_16 : (Cond.initialized "java/lang/IllegalArgumentException") ∈ tw_tbl := tw_mem (List.mem_append_right _ (List.mem_of_getElem? (i := 16) (by decide +kernel))) rfl
theorem mw_17 : (Cond.initialized "java/lang/IllegalStateException") ∈ tw_tbl := tw_mem (List.mem_append_right _ (List.mem_of_getElem? (i := 17) (by decide +kernel))) rfl
theorem mw_18 : (Cond.initialized "java/lang/UnsupportedOperationException") ∈ tw_tbl := tw_mem (List.mem_append_right _ (List.mem_of_getElem? (i := 18) (by decide +kernel))) rfl
theorem mw_19 : (Cond.initialized "java/lang/String") ∈ tw_tbl := tw_mem (List.mem_append_right _ (List.mem_of_getElem? (i := 19) (by decide +kernel))) rfl
theorem mw_20 : (Cond.initialized "java/lang/StringLatin1") ∈ tw_tbl := tw_mem (List.mem_append_right _ (List.mem_of_getElem? (i := 20) (by decide +kernel))) rfl
theorem mw_21 : (Cond.initialized "jdk/internal/util/Preconditions") ∈ tw_tbl := tw_mem (List.mem_append_right _ (List.mem_of_getElem? (i := 21) (by decide +kernel))) rfl
theorem mw_22 : (Cond.initialized "java/lang/StringUTF16") ∈ tw_tbl := tw_mem (List.mem_append_right _ (List.mem_of_getElem? (i := 22) (by decide +kernel))) rfl
theorem mw_23 : (Cond.initialized "java/lang/System") ∈ tw_tbl := tw_mem (List.mem_append_right _ (List.mem_of_getElem? (i := 23) (by decide +kernel))) rfl
theorem mw_24 : (Cond.initialized "java/lang/ArithmeticException") ∈ tw_tbl := tw_mem (List.mem_append_right _ (List.mem_of_getElem? (i := 24) (by decide +kernel))) rfl
theorem mw_25 : (Cond.initialized "java/lang/Math") ∈ tw_tbl := tw_mem (List.mem_append_right _ (List.mem_of_getElem? (i := 25) (by decide +kernel))) rfl
theorem mw_26 : (Cond.initialized "java/lang/Character") ∈ tw_tbl := tw_mem (List.mem_append_right _ (List.mem_of_getElem? (i := 26) (by decide +kernel))) rfl
theorem mw_27 : (Cond.initialized "java/lang/IndexOutOfBoundsException") ∈ tw_tbl := tw_mem (List.mem_append_right _ (List.mem_of_getElem? (i := 27) (by decide +kernel))) rfl
theorem mw_28 : (Cond.classLink "StoryMachineLaw" 8 "StoryMachine") ∈ tw_tbl := tw_mem (List.mem_append_right _ (List.mem_of_getElem? (i := 28) (by decide +kernel))) rfl
theorem mw_29 : (Cond.instantiable "StoryMachine" 5) ∈ tw_tbl := tw_mem (List.mem_append_right _ (List.mem_of_getElem? (i := 29) (by decide +kernel))) rfl
theorem mw_30 : (Cond.methodLink "StoryMachineLaw" 42 (⟨"StoryMachine", "<init>", "()V"⟩)) ∈ tw_tbl := tw_mem (List.mem_append_right _ (List.mem_of_getElem? (i := 30) (by decide +kernel))) rfl
theorem mw_31 : (Cond.instanceMethod (⟨"StoryMachine", "<init>", "()V"⟩)) ∈ tw_tbl := tw_mem (List.mem_append_right _ (List.mem_of_getElem? (i := 31) (by decide +kernel))) rfl
theorem mw_32 : (Cond.code (⟨"StoryMachine", "<init>", "()V"⟩) prog_1_method_1_code 5 none) ∈ tw_tbl := tw_mem (List.mem_append_right _ (List.mem_of_getElem? (i := 32) (by decide +kernel))) rfl
theorem mw_33 : (Cond.methodLink "StoryMachine" 1 (⟨"java/lang/Object", "<init>", "()V"⟩)) ∈ tw_tbl := tw_mem (List.mem_append_right _ (List.mem_of_getElem? (i := 33) (by decide +kernel))) rfl
theorem mw_34 : (Cond.instanceMethod (⟨"java/lang/Object", "<init>", "()V"⟩)) ∈ tw_tbl := tw_mem (List.mem_append_right _ (List.mem_of_getElem? (i := 34) (by decide +kernel))) rfl
theorem mw_35 : (Cond.code (⟨"java/lang/Object", "<init>", "()V"⟩) object_method_1_code 1 none) ∈ tw_tbl := tw_mem (List.mem_append_right _ (List.mem_of_getElem? (i := 35) (by decide +kernel))) rfl
theorem mw_36 : (Cond.classLink "StoryMachine" 7 "StoryMachine$Memory") ∈ tw_tbl := tw_mem (List.mem_append_right _ (List.mem_of_getElem? (i := 36) (by decide +kernel))) rfl
theorem mw_37 : (Cond.instantiable "StoryMachine$Memory" 1) ∈ tw_tbl := tw_mem (List.mem_append_right _ (List.mem_of_getElem? (i := 37) (by decide +kernel))) rfl
theorem mw_38 : (Cond.methodLinkNest "StoryMachine" 9 (⟨"StoryMachine$Memory", "<init>", "()V"⟩) "StoryMachine") ∈ tw_tbl := tw_mem (List.mem_append_right _ (List.mem_of_getElem? (i := 38) (by decide +kernel))) rfl
theorem mw_39 : (Cond.instanceMethod (⟨"StoryMachine$Memory", "<init>", "()V"⟩)) ∈ tw_tbl := tw_mem (List.mem_append_right _ (List.mem_of_getElem? (i := 39) (by decide +kernel))) rfl
theorem mw_40 : (Cond.code (⟨"StoryMachine$Memory", "<init>", "()V"⟩) prog_7_method_1_code 1 none) ∈ tw_tbl := tw_mem (List.mem_append_right _ (List.mem_of_getElem? (i := 40) (by decide +kernel))) rfl
theorem mw_41 : (Cond.methodLink "StoryMachine$Memory" 1 (⟨"java/lang/Object", "<init>", "()V"⟩)) ∈ tw_tbl := tw_mem (List.mem_append_right _ (List.mem_of_getElem? (i := 41) (by decide +kernel))) rfl
theorem mw_42 : (Cond.fieldLink "StoryMachine$Memory" 9 "StoryMachine$Memory" "bytes" "[I") ∈ tw_tbl := tw_mem (List.mem_append_right _ (List.mem_of_getElem? (i := 42) (by decide +kernel))) rfl
theorem mw_43 : (Cond.fieldLink "StoryMachine" 51 "StoryMachine$Memory" "bytes" "[I") ∈ tw_tbl := tw_mem (List.mem_append_right _ (List.mem_of_getElem? (i := 43) (by decide +kernel))) rfl
theorem mw_44 : (Cond.laysFinal "StoryMachine$Memory" "StoryMachine$Memory" "bytes" "[I") ∈ tw_tbl := tw_mem (List.mem_append_right _ (List.mem_of_getElem? (i := 44) (by decide +kernel))) rfl
theorem mw_47 : (Cond.arrayClass .int) ∈ tw_tbl := tw_mem (List.mem_append_right _ (List.mem_of_getElem? (i := 47) (by decide +kernel))) rfl
theorem mw_48 : (Cond.classLink "StoryMachine" 10 "StoryMachine$Line") ∈ tw_tbl := tw_mem (List.mem_append_right _ (List.mem_of_getElem? (i := 48) (by decide +kernel))) rfl
theorem mw_49 : (Cond.instantiable "StoryMachine$Line" 5) ∈ tw_tbl := tw_mem (List.mem_append_right _ (List.mem_of_getElem? (i := 49) (by decide +kernel))) rfl
theorem mw_50 : (Cond.methodLinkNest "StoryMachine" 12 (⟨"StoryMachine$Line", "<init>", "()V"⟩) "StoryMachine") ∈ tw_tbl := tw_mem (List.mem_append_right _ (List.mem_of_getElem? (i := 50) (by decide +kernel))) rfl
theorem mw_51 : (Cond.instanceMethod (⟨"StoryMachine$Line", "<init>", "()V"⟩)) ∈ tw_tbl := tw_mem (List.mem_append_right _ (List.mem_of_getElem? (i := 51) (by decide +kernel))) rfl
theorem mw_52 : (Cond.code (⟨"StoryMachine$Line", "<init>", "()V"⟩) prog_6_method_1_code 1 none) ∈ tw_tbl := tw_mem (List.mem_append_right _ (List.mem_of_getElem? (i := 52) (by decide +kernel))) rfl
theorem mw_53 : (Cond.methodLink "StoryMachine$Line" 1 (⟨"java/lang/Object", "<init>", "()V"⟩)) ∈ tw_tbl := tw_mem (List.mem_append_right _ (List.mem_of_getElem? (i := 53) (by decide +kernel))) rfl
theorem mw_54 : (Cond.fieldLink "StoryMachine$Line" 9 "StoryMachine$Line" "typed" "[I") ∈ tw_tbl := tw_mem (List.mem_append_right _ (List.mem_of_getElem? (i := 54) (by decide +kernel))) rfl
theorem mw_55 : (Cond.fieldLink "StoryMachine$Line" 16 "StoryMachine$Line" "typedLength" "I") ∈ tw_tbl := tw_mem (List.mem_append_right _ (List.mem_of_getElem? (i := 55) (by decide +kernel))) rfl
theorem mw_56 : (Cond.fieldLink "StoryMachine" 70 "StoryMachine$Line" "typedLength" "I") ∈ tw_tbl := tw_mem (List.mem_append_right _ (List.mem_of_getElem? (i := 56) (by decide +kernel))) rfl
theorem mw_57 : (Cond.fieldLink "StoryMachine$Line" 13 "StoryMachine$Line" "entered" "[I") ∈ tw_tbl := tw_mem (List.mem_append_right _ (List.mem_of_getElem? (i := 57) (by decide +kernel))) rfl
theorem mw_58 : (Cond.fieldLink "StoryMachine$Engine" 315 "StoryMachine$Line" "entered" "[I") ∈ tw_tbl := tw_mem (List.mem_append_right _ (List.mem_of_getElem? (i := 58) (by decide +kernel))) rfl
theorem mw_59 : (Cond.fieldLink "StoryMachine$Line" 24 "StoryMachine$Line" "enteredLength" "I") ∈ tw_tbl := tw_mem (List.mem_append_right _ (List.mem_of_getElem? (i := 59) (by decide +kernel))) rfl
theorem mw_60 : (Cond.fieldLink "StoryMachine$Engine" 307 "StoryMachine$Line" "enteredLength" "I") ∈ tw_tbl := tw_mem (List.mem_append_right _ (List.mem_of_getElem? (i := 60) (by decide +kernel))) rfl
theorem mw_61 : (Cond.fieldLink "StoryMachine$Line" 20 "StoryMachine$Line" "isEntered" "Z") ∈ tw_tbl := tw_mem (List.mem_append_right _ (List.mem_of_getElem? (i := 61) (by decide +kernel))) rfl
theorem mw_62 : (Cond.fieldLink "StoryMachine$Engine" 103 "StoryMachine$Line" "isEntered" "Z") ∈ tw_tbl := tw_mem (List.mem_append_right _ (List.mem_of_getElem? (i := 62) (by decide +kernel))) rfl
theorem mw_63 : (Cond.laysFinal "StoryMachine$Line" "StoryMachine$Line" "typed" "[I") ∈ tw_tbl := tw_mem (List.mem_append_right _ (List.mem_of_getElem? (i := 63) (by decide +kernel))) rfl
theorem mw_65 : (Cond.lays "StoryMachine$Line" "StoryMachine$Line" "typedLength" "I") ∈ tw_tbl := tw_mem (List.mem_append_right _ (List.mem_of_getElem? (i := 65) (by decide +kernel))) rfl
theorem mw_67 : (Cond.laysFinal "StoryMachine$Line" "StoryMachine$Line" "entered" "[I") ∈ tw_tbl := tw_mem (List.mem_append_right _ (List.mem_of_getElem? (i := 67) (by decide +kernel))) rfl
theorem mw_69 : (Cond.lays "StoryMachine$Line" "StoryMachine$Line" "enteredLength" "I") ∈ tw_tbl := tw_mem (List.mem_append_right _ (List.mem_of_getElem? (i := 69) (by decide +kernel))) rfl
theorem mw_71 : (Cond.lays "StoryMachine$Line" "StoryMachine$Line" "isEntered" "Z") ∈ tw_tbl := tw_mem (List.mem_append_right _ (List.mem_of_getElem? (i := 71) (by decide +kernel))) rfl
theorem mw_74 : (Cond.classLink "StoryMachine" 13 "StoryMachine$Routines") ∈ tw_tbl := tw_mem (List.mem_append_right _ (List.mem_of_getElem? (i := 74) (by decide +kernel))) rfl
theorem mw_75 : (Cond.instantiable "StoryMachine$Routines" 8) ∈ tw_tbl := tw_mem (List.mem_append_right _ (List.mem_of_getElem? (i := 75) (by decide +kernel))) rfl
theorem mw_76 : (Cond.methodLinkNest "StoryMachine" 15 (⟨"StoryMachine$Routines", "<init>", "()V"⟩) "StoryMachine") ∈ tw_tbl := tw_mem (List.mem_append_right _ (List.mem_of_getElem? (i := 76) (by decide +kernel))) rfl
theorem mw_77 : (Cond.instanceMethod (⟨"StoryMachine$Routines", "<init>", "()V"⟩)) ∈ tw_tbl := tw_mem (List.mem_append_right _ (List.mem_of_getElem? (i := 77) (by decide +kernel))) rfl
theorem mw_78 : (Cond.code (⟨"StoryMachine$Routines", "<init>", "()V"⟩) prog_9_method_1_code 1 none) ∈ tw_tbl := tw_mem (List.mem_append_right _ (List.mem_of_getElem? (i := 78) (by decide +kernel))) rfl
theorem mw_79 : (Cond.methodLink "StoryMachine$Routines" 1 (⟨"java/lang/Object", "<init>", "()V"⟩)) ∈ tw_tbl := tw_mem (List.mem_append_right _ (List.mem_of_getElem? (i := 79) (by decide +kernel))) rfl
theorem mw_80 : (Cond.fieldLink "StoryMachine$Routines" 9 "StoryMachine$Routines" "words" "[I") ∈ tw_tbl := tw_mem (List.mem_append_right _ (List.mem_of_getElem? (i := 80) (by decide +kernel))) rfl
theorem mw_81 : (Cond.fieldLink "StoryMachine" 106 "StoryMachine$Routines" "words" "[I") ∈ tw_tbl := tw_mem (List.mem_append_right _ (List.mem_of_getElem? (i := 81) (by decide +kernel))) rfl
theorem mw_82 : (Cond.fieldLink "StoryMachine$Routines" 28 "StoryMachine$Routines" "height" "I") ∈ tw_tbl := tw_mem (List.mem_append_right _ (List.mem_of_getElem? (i := 82) (by decide +kernel))) rfl
theorem mw_83 : (Cond.fieldLink "StoryMachine" 103 "StoryMachine$Routines" "height" "I") ∈ tw_tbl := tw_mem (List.mem_append_right _ (List.mem_of_getElem? (i := 83) (by decide +kernel))) rfl
theorem mw_84 : (Cond.fieldLink "StoryMachine$Routines" 32 "StoryMachine$Routines" "depth" "I") ∈ tw_tbl := tw_mem (List.mem_append_right _ (List.mem_of_getElem? (i := 84) (by decide +kernel))) rfl
theorem mw_85 : (Cond.fieldLink "StoryMachine" 115 "StoryMachine$Routines" "depth" "I") ∈ tw_tbl := tw_mem (List.mem_append_right _ (List.mem_of_getElem? (i := 85) (by decide +kernel))) rfl
theorem mw_86 : (Cond.fieldLink "StoryMachine$Routines" 13 "StoryMachine$Routines" "floors" "[I") ∈ tw_tbl := tw_mem (List.mem_append_right _ (List.mem_of_getElem? (i := 86) (by decide +kernel))) rfl
theorem mw_87 : (Cond.fieldLink "StoryMachine$Routines" 16 "StoryMachine$Routines" "behinds" "[I") ∈ tw_tbl := tw_mem (List.mem_append_right _ (List.mem_of_getElem? (i := 87) (by decide +kernel))) rfl
theorem mw_88 : (Cond.fieldLink "StoryMachine$Routines" 19 "StoryMachine$Routines" "results" "[I") ∈ tw_tbl := tw_mem (List.mem_append_right _ (List.mem_of_getElem? (i := 88) (by decide +kernel))) rfl
theorem mw_89 : (Cond.fieldLink "StoryMachine$Routines" 22 "StoryMachine$Routines" "localCounts" "[I") ∈ tw_tbl := tw_mem (List.mem_append_right _ (List.mem_of_getElem? (i := 89) (by decide +kernel))) rfl
theorem mw_90 : (Cond.fieldLink "StoryMachine$Routines" 25 "StoryMachine$Routines" "locals" "[I") ∈ tw_tbl := tw_mem (List.mem_append_right _ (List.mem_of_getElem? (i := 90) (by decide +kernel))) rfl
theorem mw_91 : (Cond.laysFinal "StoryMachine$Routines" "StoryMachine$Routines" "words" "[I") ∈ tw_tbl := tw_mem (List.mem_append_right _ (List.mem_of_getElem? (i := 91) (by decide +kernel))) rfl
theorem mw_93 : (Cond.lays "StoryMachine$Routines" "StoryMachine$Routines" "height" "I") ∈ tw_tbl := tw_mem (List.mem_append_right _ (List.mem_of_getElem? (i := 93) (by decide +kernel))) rfl
theorem mw_95 : (Cond.lays "StoryMachine$Routines" "StoryMachine$Routines" "depth" "I") ∈ tw_tbl := tw_mem (List.mem_append_right _ (List.mem_of_getElem? (i := 95) (by decide +kernel))) rfl
theorem mw_97 : (Cond.laysFinal "StoryMachine$Routines" "StoryMachine$Routines" "floors" "[I") ∈ tw_tbl := tw_mem (List.mem_append_right _ (List.mem_of_getElem? (i := 97) (by decide +kernel))) rfl
theorem mw_99 : (Cond.laysFinal "StoryMachine$Routines" "StoryMachine$Routines" "behinds" "[I") ∈ tw_tbl := tw_mem (List.mem_append_right _ (List.mem_of_getElem? (i := 99) (by decide +kernel))) rfl
theorem mw_101 : (Cond.laysFinal "StoryMachine$Routines" "StoryMachine$Routines" "results" "[I") ∈ tw_tbl := tw_mem (List.mem_append_right _ (List.mem_of_getElem? (i := 101) (by decide +kernel))) rfl
theorem mw_103 : (Cond.laysFinal "StoryMachine$Routines" "StoryMachine$Routines" "localCounts" "[I") ∈ tw_tbl := tw_mem (List.mem_append_right _ (List.mem_of_getElem? (i := 103) (by decide +kernel))) rfl
theorem mw_105 : (Cond.laysFinal "StoryMachine$Routines" "StoryMachine$Routines" "locals" "[I") ∈ tw_tbl := tw_mem (List.mem_append_right _ (List.mem_of_getElem? (i := 105) (by decide +kernel))) rfl
theorem mw_108 : (Cond.classLink "StoryMachine" 16 "StoryMachine$Printer") ∈ tw_tbl := tw_mem (List.mem_append_right _ (List.mem_of_getElem? (i := 108) (by decide +kernel))) rfl
theorem mw_109 : (Cond.instantiable "StoryMachine$Printer" 5) ∈ tw_tbl := tw_mem (List.mem_append_right _ (List.mem_of_getElem? (i := 109) (by decide +kernel))) rfl
theorem mw_110 : (Cond.methodLink "StoryMachine" 18 (⟨"StoryMachine$Printer", "<init>", "(LStoryMachine$Memory;)V"⟩)) ∈ tw_tbl := tw_mem (List.mem_append_right _ (List.mem_of_getElem? (i := 110) (by decide +kernel))) rfl
theorem mw_111 : (Cond.instanceMethod (⟨"StoryMachine$Printer", "<init>", "(LStoryMachine$Memory;)V"⟩)) ∈ tw_tbl := tw_mem (List.mem_append_right _ (List.mem_of_getElem? (i := 111) (by decide +kernel))) rfl
theorem mw_112 : (Cond.code (⟨"StoryMachine$Printer", "<init>", "(LStoryMachine$Memory;)V"⟩) prog_8_method_1_code 2 none) ∈ tw_tbl := tw_mem (List.mem_append_right _ (List.mem_of_getElem? (i := 112) (by decide +kernel))) rfl
theorem mw_113 : (Cond.methodLink "StoryMachine$Printer" 1 (⟨"java/lang/Object", "<init>", "()V"⟩)) ∈ tw_tbl := tw_mem (List.mem_append_right _ (List.mem_of_getElem? (i := 113) (by decide +kernel))) rfl
theorem mw_114 : (Cond.fieldLink "StoryMachine$Printer" 13 "StoryMachine$Printer" "memory" "LStoryMachine$Memory;") ∈ tw_tbl := tw_mem (List.mem_append_right _ (List.mem_of_getElem? (i := 114) (by decide +kernel))) rfl
theorem mw_115 : (Cond.fieldLink "StoryMachine$Printer" 9 "StoryMachine$Printer" "kept" "[I") ∈ tw_tbl := tw_mem (List.mem_append_right _ (List.mem_of_getElem? (i := 115) (by decide +kernel))) rfl
theorem mw_116 : (Cond.fieldLink "StoryMachine$Printer" 17 "StoryMachine$Printer" "count" "I") ∈ tw_tbl := tw_mem (List.mem_append_right _ (List.mem_of_getElem? (i := 116) (by decide +kernel))) rfl
theorem mw_117 : (Cond.fieldLink "StoryMachine$Engine" 86 "StoryMachine$Printer" "count" "I") ∈ tw_tbl := tw_mem (List.mem_append_right _ (List.mem_of_getElem? (i := 117) (by decide +kernel))) rfl
theorem mw_118 : (Cond.fieldLink "StoryMachine" 94 "StoryMachine$Printer" "count" "I") ∈ tw_tbl := tw_mem (List.mem_append_right _ (List.mem_of_getElem? (i := 118) (by decide +kernel))) rfl
theorem mw_119 : (Cond.fieldLink "StoryMachine$Printer" 31 "StoryMachine$Printer" "mode" "I") ∈ tw_tbl := tw_mem (List.mem_append_right _ (List.mem_of_getElem? (i := 119) (by decide +kernel))) rfl
theorem mw_120 : (Cond.fieldLink "StoryMachine$Printer" 46 "StoryMachine$Printer" "half" "I") ∈ tw_tbl := tw_mem (List.mem_append_right _ (List.mem_of_getElem? (i := 120) (by decide +kernel))) rfl
theorem mw_121 : (Cond.laysFinal "StoryMachine$Printer" "StoryMachine$Printer" "memory" "LStoryMachine$Memory;") ∈ tw_tbl := tw_mem (List.mem_append_right _ (List.mem_of_getElem? (i := 121) (by decide +kernel))) rfl
theorem mw_123 : (Cond.laysFinal "StoryMachine$Printer" "StoryMachine$Printer" "kept" "[I") ∈ tw_tbl := tw_mem (List.mem_append_right _ (List.mem_of_getElem? (i := 123) (by decide +kernel))) rfl
theorem mw_125 : (Cond.lays "StoryMachine$Printer" "StoryMachine$Printer" "count" "I") ∈ tw_tbl := tw_mem (List.mem_append_right _ (List.mem_of_getElem? (i := 125) (by decide +kernel))) rfl
theorem mw_127 : (Cond.lays "StoryMachine$Printer" "StoryMachine$Printer" "mode" "I") ∈ tw_tbl := tw_mem (List.mem_append_right _ (List.mem_of_getElem? (i := 127) (by decide +kernel))) rfl
theorem mw_129 : (Cond.lays "StoryMachine$Printer" "StoryMachine$Printer" "half" "I") ∈ tw_tbl := tw_mem (List.mem_append_right _ (List.mem_of_getElem? (i := 129) (by decide +kernel))) rfl
theorem mw_132 : (Cond.classLink "StoryMachine" 39 "StoryMachine$Engine") ∈ tw_tbl := tw_mem (List.mem_append_right _ (List.mem_of_getElem? (i := 132) (by decide +kernel))) rfl
theorem mw_133 : (Cond.instantiable "StoryMachine$Engine" 15) ∈ tw_tbl := tw_mem (List.mem_append_right _ (List.mem_of_getElem? (i := 133) (by decide +kernel))) rfl
theorem mw_134 : (Cond.methodLink "StoryMachine" 41 (⟨"StoryMachine$Engine", "<init>", "(LStoryMachine$Memory;LStoryMachine$Line;LStoryMachine$Routines;LStoryMachine$Printer;)V"⟩)) ∈ tw_tbl := tw_mem (List.mem_append_right _ (List.mem_of_getElem? (i := 134) (by decide +kernel))) rfl
theorem mw_135 : (Cond.instanceMethod (⟨"StoryMachine$Engine", "<init>", "(LStoryMachine$Memory;LStoryMachine$Line;LStoryMachine$Routines;LStoryMachine$Printer;)V"⟩)) ∈ tw_tbl := tw_mem (List.mem_append_right _ (List.mem_of_getElem? (i := 135) (by decide +kernel))) rfl
theorem mw_136 : (Cond.code (⟨"StoryMachine$Engine", "<init>", "(LStoryMachine$Memory;LStoryMachine$Line;LStoryMachine$Routines;LStoryMachine$Printer;)V"⟩) prog_4_method_1_code 6 none) ∈ tw_tbl := tw_mem (List.mem_append_right _ (List.mem_of_getElem? (i := 136) (by decide +kernel))) rfl
theorem mw_137 : (Cond.methodLink "StoryMachine$Engine" 1 (⟨"java/lang/Object", "<init>", "()V"⟩)) ∈ tw_tbl := tw_mem (List.mem_append_right _ (List.mem_of_getElem? (i := 137) (by decide +kernel))) rfl
theorem mw_138 : (Cond.classLink "StoryMachine$Engine" 7 "StoryMachine$Aside") ∈ tw_tbl := tw_mem (List.mem_append_right _ (List.mem_of_getElem? (i := 138) (by decide +kernel))) rfl
theorem mw_139 : (Cond.instantiable "StoryMachine$Aside" 4) ∈ tw_tbl := tw_mem (List.mem_append_right _ (List.mem_of_getElem? (i := 139) (by decide +kernel))) rfl
theorem mw_140 : (Cond.methodLinkNest "StoryMachine$Engine" 9 (⟨"StoryMachine$Aside", "<init>", "()V"⟩) "StoryMachine") ∈ tw_tbl := tw_mem (List.mem_append_right _ (List.mem_of_getElem? (i := 140) (by decide +kernel))) rfl
theorem mw_141 : (Cond.instanceMethod (⟨"StoryMachine$Aside", "<init>", "()V"⟩)) ∈ tw_tbl := tw_mem (List.mem_append_right _ (List.mem_of_getElem? (i := 141) (by decide +kernel))) rfl
theorem mw_142 : (Cond.code (⟨"StoryMachine$Aside", "<init>", "()V"⟩) prog_2_method_1_code 1 none) ∈ tw_tbl := tw_mem (List.mem_append_right _ (List.mem_of_getElem? (i := 142) (by decide +kernel))) rfl
theorem mw_143 : (Cond.methodLink "StoryMachine$Aside" 1 (⟨"java/lang/Object", "<init>", "()V"⟩)) ∈ tw_tbl := tw_mem (List.mem_append_right _ (List.mem_of_getElem? (i := 143) (by decide +kernel))) rfl
theorem mw_144 : (Cond.classLink "StoryMachine$Aside" 7 "StoryMachine$Memory") ∈ tw_tbl := tw_mem (List.mem_append_right _ (List.mem_of_getElem? (i := 144) (by decide +kernel))) rfl
theorem mw_145 : (Cond.methodLinkNest "StoryMachine$Aside" 9 (⟨"StoryMachine$Memory", "<init>", "()V"⟩) "StoryMachine") ∈ tw_tbl := tw_mem (List.mem_append_right _ (List.mem_of_getElem? (i := 145) (by decide +kernel))) rfl
theorem mw_146 : (Cond.classLink "StoryMachine$Aside" 16 "StoryMachine$Routines") ∈ tw_tbl := tw_mem (List.mem_append_right _ (List.mem_of_getElem? (i := 146) (by decide +kernel))) rfl
theorem mw_147 : (Cond.methodLinkNest "StoryMachine$Aside" 18 (⟨"StoryMachine$Routines", "<init>", "()V"⟩) "StoryMachine") ∈ tw_tbl := tw_mem (List.mem_append_right _ (List.mem_of_getElem? (i := 147) (by decide +kernel))) rfl
theorem mw_148 : (Cond.fieldLink "StoryMachine$Aside" 34 "StoryMachine$Aside" "isThere" "Z") ∈ tw_tbl := tw_mem (List.mem_append_right _ (List.mem_of_getElem? (i := 148) (by decide +kernel))) rfl
theorem mw_149 : (Cond.fieldLink "StoryMachine$Engine" 91 "StoryMachine$Aside" "isThere" "Z") ∈ tw_tbl := tw_mem (List.mem_append_right _ (List.mem_of_getElem? (i := 149) (by decide +kernel))) rfl
theorem mw_150 : (Cond.fieldLink "StoryMachine$Aside" 10 "StoryMachine$Aside" "memory" "LStoryMachine$Memory;") ∈ tw_tbl := tw_mem (List.mem_append_right _ (List.mem_of_getElem? (i := 150) (by decide +kernel))) rfl
theorem mw_151 : (Cond.fieldLink "StoryMachine$Aside" 19 "StoryMachine$Aside" "routines" "LStoryMachine$Routines;") ∈ tw_tbl := tw_mem (List.mem_append_right _ (List.mem_of_getElem? (i := 151) (by decide +kernel))) rfl
theorem mw_152 : (Cond.fieldLink "StoryMachine$Aside" 30 "StoryMachine$Aside" "next" "I") ∈ tw_tbl := tw_mem (List.mem_append_right _ (List.mem_of_getElem? (i := 152) (by decide +kernel))) rfl
theorem mw_153 : (Cond.lays "StoryMachine$Aside" "StoryMachine$Aside" "isThere" "Z") ∈ tw_tbl := tw_mem (List.mem_append_right _ (List.mem_of_getElem? (i := 153) (by decide +kernel))) rfl
theorem mw_155 : (Cond.laysFinal "StoryMachine$Aside" "StoryMachine$Aside" "memory" "LStoryMachine$Memory;") ∈ tw_tbl := tw_mem (List.mem_append_right _ (List.mem_of_getElem? (i := 155) (by decide +kernel))) rfl
theorem mw_157 : (Cond.laysFinal "StoryMachine$Aside" "StoryMachine$Aside" "routines" "LStoryMachine$Routines;") ∈ tw_tbl := tw_mem (List.mem_append_right _ (List.mem_of_getElem? (i := 157) (by decide +kernel))) rfl
theorem mw_159 : (Cond.lays "StoryMachine$Aside" "StoryMachine$Aside" "next" "I") ∈ tw_tbl := tw_mem (List.mem_append_right _ (List.mem_of_getElem? (i := 159) (by decide +kernel))) rfl
theorem mw_162 : (Cond.classLink "StoryMachine$Engine" 26 "StoryMachine$Variables") ∈ tw_tbl := tw_mem (List.mem_append_right _ (List.mem_of_getElem? (i := 162) (by decide +kernel))) rfl
theorem mw_163 : (Cond.instantiable "StoryMachine$Variables" 2) ∈ tw_tbl := tw_mem (List.mem_append_right _ (List.mem_of_getElem? (i := 163) (by decide +kernel))) rfl
theorem mw_164 : (Cond.methodLink "StoryMachine$Engine" 28 (⟨"StoryMachine$Variables", "<init>", "(LStoryMachine$Memory;LStoryMachine$Routines;)V"⟩)) ∈ tw_tbl := tw_mem (List.mem_append_right _ (List.mem_of_getElem? (i := 164) (by decide +kernel))) rfl
theorem mw_165 : (Cond.instanceMethod (⟨"StoryMachine$Variables", "<init>", "(LStoryMachine$Memory;LStoryMachine$Routines;)V"⟩)) ∈ tw_tbl := tw_mem (List.mem_append_right _ (List.mem_of_getElem? (i := 165) (by decide +kernel))) rfl
theorem mw_166 : (Cond.code (⟨"StoryMachine$Variables", "<init>", "(LStoryMachine$Memory;LStoryMachine$Routines;)V"⟩) prog_11_method_1_code 3 none) ∈ tw_tbl := tw_mem (List.mem_append_right _ (List.mem_of_getElem? (i := 166) (by decide +kernel))) rfl
theorem mw_167 : (Cond.methodLink "StoryMachine$Variables" 1 (⟨"java/lang/Object", "<init>", "()V"⟩)) ∈ tw_tbl := tw_mem (List.mem_append_right _ (List.mem_of_getElem? (i := 167) (by decide +kernel))) rfl
theorem mw_168 : (Cond.fieldLink "StoryMachine$Variables" 7 "StoryMachine$Variables" "memory" "LStoryMachine$Memory;") ∈ tw_tbl := tw_mem (List.mem_append_right _ (List.mem_of_getElem? (i := 168) (by decide +kernel))) rfl
theorem mw_169 : (Cond.fieldLink "StoryMachine$Variables" 13 "StoryMachine$Variables" "routines" "LStoryMachine$Routines;") ∈ tw_tbl := tw_mem (List.mem_append_right _ (List.mem_of_getElem? (i := 169) (by decide +kernel))) rfl
theorem mw_170 : (Cond.laysFinal "StoryMachine$Variables" "StoryMachine$Variables" "memory" "LStoryMachine$Memory;") ∈ tw_tbl := tw_mem (List.mem_append_right _ (List.mem_of_getElem? (i := 170) (by decide +kernel))) rfl
theorem mw_172 : (Cond.laysFinal "StoryMachine$Variables" "StoryMachine$Variables" "routines" "LStoryMachine$Routines;") ∈ tw_tbl := tw_mem (List.mem_append_right _ (List.mem_of_getElem? (i := 172) (by decide +kernel))) rfl
theorem mw_175 : (Cond.classLink "StoryMachine$Engine" 51 "StoryMachine$Tree") ∈ tw_tbl := tw_mem (List.mem_append_right _ (List.mem_of_getElem? (i := 175) (by decide +kernel))) rfl
theorem mw_176 : (Cond.instantiable "StoryMachine$Tree" 1) ∈ tw_tbl := tw_mem (List.mem_append_right _ (List.mem_of_getElem? (i := 176) (by decide +kernel))) rfl
theorem mw_177 : (Cond.methodLink "StoryMachine$Engine" 53 (⟨"StoryMachine$Tree", "<init>", "(LStoryMachine$Memory;)V"⟩)) ∈ tw_tbl := tw_mem (List.mem_append_right _ (List.mem_of_getElem? (i := 177) (by decide +kernel))) rfl
theorem mw_178 : (Cond.instanceMethod (⟨"StoryMachine$Tree", "<init>", "(LStoryMachine$Memory;)V"⟩)) ∈ tw_tbl := tw_mem (List.mem_append_right _ (List.mem_of_getElem? (i := 178) (by decide +kernel))) rfl
theorem mw_179 : (Cond.code (⟨"StoryMachine$Tree", "<init>", "(LStoryMachine$Memory;)V"⟩) prog_10_method_1_code 2 none) ∈ tw_tbl := tw_mem (List.mem_append_right _ (List.mem_of_getElem? (i := 179) (by decide +kernel))) rfl
theorem mw_180 : (Cond.methodLink "StoryMachine$Tree" 1 (⟨"java/lang/Object", "<init>", "()V"⟩)) ∈ tw_tbl := tw_mem (List.mem_append_right _ (List.mem_of_getElem? (i := 180) (by decide +kernel))) rfl
theorem mw_181 : (Cond.fieldLink "StoryMachine$Tree" 7 "StoryMachine$Tree" "memory" "LStoryMachine$Memory;") ∈ tw_tbl := tw_mem (List.mem_append_right _ (List.mem_of_getElem? (i := 181) (by decide +kernel))) rfl
theorem mw_182 : (Cond.laysFinal "StoryMachine$Tree" "StoryMachine$Tree" "memory" "LStoryMachine$Memory;") ∈ tw_tbl := tw_mem (List.mem_append_right _ (List.mem_of_getElem? (i := 182) (by decide +kernel))) rfl
theorem mw_185 : (Cond.classLink "StoryMachine$Engine" 60 "StoryMachine$Dictionary") ∈ tw_tbl := tw_mem (List.mem_append_right _ (List.mem_of_getElem? (i := 185) (by decide +kernel))) rfl
theorem mw_186 : (Cond.instantiable "StoryMachine$Dictionary" 6) ∈ tw_tbl := tw_mem (List.mem_append_right _ (List.mem_of_getElem? (i := 186) (by decide +kernel))) rfl
theorem mw_187 : (Cond.methodLink "StoryMachine$Engine" 62 (⟨"StoryMachine$Dictionary", "<init>", "(LStoryMachine$Memory;)V"⟩)) ∈ tw_tbl := tw_mem (List.mem_append_right _ (List.mem_of_getElem? (i := 187) (by decide +kernel))) rfl
theorem mw_188 : (Cond.instanceMethod (⟨"StoryMachine$Dictionary", "<init>", "(LStoryMachine$Memory;)V"⟩)) ∈ tw_tbl := tw_mem (List.mem_append_right _ (List.mem_of_getElem? (i := 188) (by decide +kernel))) rfl
theorem mw_189 : (Cond.code (⟨"StoryMachine$Dictionary", "<init>", "(LStoryMachine$Memory;)V"⟩) prog_3_method_1_code 2 none) ∈ tw_tbl := tw_mem (List.mem_append_right _ (List.mem_of_getElem? (i := 189) (by decide +kernel))) rfl
theorem mw_190 : (Cond.methodLink "StoryMachine$Dictionary" 1 (⟨"java/lang/Object", "<init>", "()V"⟩)) ∈ tw_tbl := tw_mem (List.mem_append_right _ (List.mem_of_getElem? (i := 190) (by decide +kernel))) rfl
theorem mw_191 : (Cond.fieldLink "StoryMachine$Dictionary" 21 "StoryMachine$Dictionary" "memory" "LStoryMachine$Memory;") ∈ tw_tbl := tw_mem (List.mem_append_right _ (List.mem_of_getElem? (i := 191) (by decide +kernel))) rfl
theorem mw_192 : (Cond.fieldLink "StoryMachine$Dictionary" 9 "StoryMachine$Dictionary" "starts" "[I") ∈ tw_tbl := tw_mem (List.mem_append_right _ (List.mem_of_getElem? (i := 192) (by decide +kernel))) rfl
theorem mw_193 : (Cond.fieldLink "StoryMachine$Engine" 332 "StoryMachine$Dictionary" "starts" "[I") ∈ tw_tbl := tw_mem (List.mem_append_right _ (List.mem_of_getElem? (i := 193) (by decide +kernel))) rfl
theorem mw_194 : (Cond.fieldLink "StoryMachine$Dictionary" 15 "StoryMachine$Dictionary" "lengths" "[I") ∈ tw_tbl := tw_mem (List.mem_append_right _ (List.mem_of_getElem? (i := 194) (by decide +kernel))) rfl
theorem mw_195 : (Cond.fieldLink "StoryMachine$Engine" 329 "StoryMachine$Dictionary" "lengths" "[I") ∈ tw_tbl := tw_mem (List.mem_append_right _ (List.mem_of_getElem? (i := 195) (by decide +kernel))) rfl
theorem mw_196 : (Cond.fieldLink "StoryMachine$Dictionary" 25 "StoryMachine$Dictionary" "words" "I") ∈ tw_tbl := tw_mem (List.mem_append_right _ (List.mem_of_getElem? (i := 196) (by decide +kernel))) rfl
theorem mw_197 : (Cond.fieldLink "StoryMachine$Engine" 322 "StoryMachine$Dictionary" "words" "I") ∈ tw_tbl := tw_mem (List.mem_append_right _ (List.mem_of_getElem? (i := 197) (by decide +kernel))) rfl
theorem mw_198 : (Cond.fieldLink "StoryMachine$Dictionary" 18 "StoryMachine$Dictionary" "letters" "[I") ∈ tw_tbl := tw_mem (List.mem_append_right _ (List.mem_of_getElem? (i := 198) (by decide +kernel))) rfl
theorem mw_199 : (Cond.fieldLink "StoryMachine$Dictionary" 57 "StoryMachine$Dictionary" "letterCount" "I") ∈ tw_tbl := tw_mem (List.mem_append_right _ (List.mem_of_getElem? (i := 199) (by decide +kernel))) rfl
theorem mw_200 : (Cond.laysFinal "StoryMachine$Dictionary" "StoryMachine$Dictionary" "memory" "LStoryMachine$Memory;") ∈ tw_tbl := tw_mem (List.mem_append_right _ (List.mem_of_getElem? (i := 200) (by decide +kernel))) rfl
theorem mw_202 : (Cond.laysFinal "StoryMachine$Dictionary" "StoryMachine$Dictionary" "starts" "[I") ∈ tw_tbl := tw_mem (List.mem_append_right _ (List.mem_of_getElem? (i := 202) (by decide +kernel))) rfl
theorem mw_204 : (Cond.laysFinal "StoryMachine$Dictionary" "StoryMachine$Dictionary" "lengths" "[I") ∈ tw_tbl := tw_mem (List.mem_append_right _ (List.mem_of_getElem? (i := 204) (by decide +kernel))) rfl
theorem mw_206 : (Cond.lays "StoryMachine$Dictionary" "StoryMachine$Dictionary" "words" "I") ∈ tw_tbl := tw_mem (List.mem_append_right _ (List.mem_of_getElem? (i := 206) (by decide +kernel))) rfl
theorem mw_208 : (Cond.laysFinal "StoryMachine$Dictionary" "StoryMachine$Dictionary" "letters" "[I") ∈ tw_tbl := tw_mem (List.mem_append_right _ (List.mem_of_getElem? (i := 208) (by decide +kernel))) rfl
theorem mw_210 : (Cond.lays "StoryMachine$Dictionary" "StoryMachine$Dictionary" "letterCount" "I") ∈ tw_tbl := tw_mem (List.mem_append_right _ (List.mem_of_getElem? (i := 210) (by decide +kernel))) rfl
theorem mw_213 : (Cond.classLink "StoryMachine$Engine" 67 "StoryMachine$Instruction") ∈ tw_tbl := tw_mem (List.mem_append_right _ (List.mem_of_getElem? (i := 213) (by decide +kernel))) rfl
theorem mw_214 : (Cond.instantiable "StoryMachine$Instruction" 11) ∈ tw_tbl := tw_mem (List.mem_append_right _ (List.mem_of_getElem? (i := 214) (by decide +kernel))) rfl
theorem mw_215 : (Cond.methodLink "StoryMachine$Engine" 69 (⟨"StoryMachine$Instruction", "<init>", "(LStoryMachine$Memory;LStoryMachine$Variables;)V"⟩)) ∈ tw_tbl := tw_mem (List.mem_append_right _ (List.mem_of_getElem? (i := 215) (by decide +kernel))) rfl
theorem mw_216 : (Cond.instanceMethod (⟨"StoryMachine$Instruction", "<init>", "(LStoryMachine$Memory;LStoryMachine$Variables;)V"⟩)) ∈ tw_tbl := tw_mem (List.mem_append_right _ (List.mem_of_getElem? (i := 216) (by decide +kernel))) rfl
theorem mw_217 : (Cond.code (⟨"StoryMachine$Instruction", "<init>", "(LStoryMachine$Memory;LStoryMachine$Variables;)V"⟩) prog_5_method_1_code 3 none) ∈ tw_tbl := tw_mem (List.mem_append_right _ (List.mem_of_getElem? (i := 217) (by decide +kernel))) rfl
theorem mw_218 : (Cond.methodLink "StoryMachine$Instruction" 1 (⟨"java/lang/Object", "<init>", "()V"⟩)) ∈ tw_tbl := tw_mem (List.mem_append_right _ (List.mem_of_getElem? (i := 218) (by decide +kernel))) rfl
theorem mw_219 : (Cond.fieldLink "StoryMachine$Instruction" 13 "StoryMachine$Instruction" "memory" "LStoryMachine$Memory;") ∈ tw_tbl := tw_mem (List.mem_append_right _ (List.mem_of_getElem? (i := 219) (by decide +kernel))) rfl
theorem mw_220 : (Cond.fieldLink "StoryMachine$Instruction" 17 "StoryMachine$Instruction" "variables" "LStoryMachine$Variables;") ∈ tw_tbl := tw_mem (List.mem_append_right _ (List.mem_of_getElem? (i := 220) (by decide +kernel))) rfl
theorem mw_221 : (Cond.fieldLink "StoryMachine$Instruction" 7 "StoryMachine$Instruction" "numbers" "[I") ∈ tw_tbl := tw_mem (List.mem_append_right _ (List.mem_of_getElem? (i := 221) (by decide +kernel))) rfl
theorem mw_222 : (Cond.fieldLink "StoryMachine$Engine" 100 "StoryMachine$Instruction" "numbers" "[I") ∈ tw_tbl := tw_mem (List.mem_append_right _ (List.mem_of_getElem? (i := 222) (by decide +kernel))) rfl
theorem mw_223 : (Cond.fieldLink "StoryMachine$Instruction" 48 "StoryMachine$Instruction" "count" "I") ∈ tw_tbl := tw_mem (List.mem_append_right _ (List.mem_of_getElem? (i := 223) (by decide +kernel))) rfl
theorem mw_224 : (Cond.fieldLink "StoryMachine$Engine" 234 "StoryMachine$Instruction" "count" "I") ∈ tw_tbl := tw_mem (List.mem_append_right _ (List.mem_of_getElem? (i := 224) (by decide +kernel))) rfl
theorem mw_225 : (Cond.fieldLink "StoryMachine$Engine" 116 "StoryMachine$Instruction" "list" "I") ∈ tw_tbl := tw_mem (List.mem_append_right _ (List.mem_of_getElem? (i := 225) (by decide +kernel))) rfl
theorem mw_226 : (Cond.fieldLink "StoryMachine$Instruction" 32 "StoryMachine$Instruction" "list" "I") ∈ tw_tbl := tw_mem (List.mem_append_right _ (List.mem_of_getElem? (i := 226) (by decide +kernel))) rfl
theorem mw_227 : (Cond.fieldLink "StoryMachine$Engine" 142 "StoryMachine$Instruction" "operation" "I") ∈ tw_tbl := tw_mem (List.mem_append_right _ (List.mem_of_getElem? (i := 227) (by decide +kernel))) rfl
theorem mw_228 : (Cond.fieldLink "StoryMachine$Instruction" 35 "StoryMachine$Instruction" "operation" "I") ∈ tw_tbl := tw_mem (List.mem_append_right _ (List.mem_of_getElem? (i := 228) (by decide +kernel))) rfl
theorem mw_229 : (Cond.fieldLink "StoryMachine$Engine" 110 "StoryMachine$Instruction" "behind" "I") ∈ tw_tbl := tw_mem (List.mem_append_right _ (List.mem_of_getElem? (i := 229) (by decide +kernel))) rfl
theorem mw_230 : (Cond.fieldLink "StoryMachine$Instruction" 25 "StoryMachine$Instruction" "behind" "I") ∈ tw_tbl := tw_mem (List.mem_append_right _ (List.mem_of_getElem? (i := 230) (by decide +kernel))) rfl
theorem mw_231 : (Cond.fieldLink "StoryMachine$Instruction" 64 "StoryMachine$Instruction" "result" "I") ∈ tw_tbl := tw_mem (List.mem_append_right _ (List.mem_of_getElem? (i := 231) (by decide +kernel))) rfl
theorem mw_232 : (Cond.fieldLink "StoryMachine$Engine" 178 "StoryMachine$Instruction" "result" "I") ∈ tw_tbl := tw_mem (List.mem_append_right _ (List.mem_of_getElem? (i := 232) (by decide +kernel))) rfl
theorem mw_233 : (Cond.fieldLink "StoryMachine$Instruction" 103 "StoryMachine$Instruction" "branchesWhen" "Z") ∈ tw_tbl := tw_mem (List.mem_append_right _ (List.mem_of_getElem? (i := 233) (by decide +kernel))) rfl
theorem mw_234 : (Cond.fieldLink "StoryMachine$Engine" 283 "StoryMachine$Instruction" "branchesWhen" "Z") ∈ tw_tbl := tw_mem (List.mem_append_right _ (List.mem_of_getElem? (i := 234) (by decide +kernel))) rfl
theorem mw_235 : (Cond.fieldLink "StoryMachine$Instruction" 107 "StoryMachine$Instruction" "offset" "I") ∈ tw_tbl := tw_mem (List.mem_append_right _ (List.mem_of_getElem? (i := 235) (by decide +kernel))) rfl
theorem mw_236 : (Cond.fieldLink "StoryMachine$Engine" 286 "StoryMachine$Instruction" "offset" "I") ∈ tw_tbl := tw_mem (List.mem_append_right _ (List.mem_of_getElem? (i := 236) (by decide +kernel))) rfl
theorem mw_237 : (Cond.fieldLink "StoryMachine$Instruction" 21 "StoryMachine$Instruction" "form" "I") ∈ tw_tbl := tw_mem (List.mem_append_right _ (List.mem_of_getElem? (i := 237) (by decide +kernel))) rfl
theorem mw_238 : (Cond.laysFinal "StoryMachine$Instruction" "StoryMachine$Instruction" "memory" "LStoryMachine$Memory;") ∈ tw_tbl := tw_mem (List.mem_append_right _ (List.mem_of_getElem? (i := 238) (by decide +kernel))) rfl
theorem mw_240 : (Cond.laysFinal "StoryMachine$Instruction" "StoryMachine$Instruction" "variables" "LStoryMachine$Variables;") ∈ tw_tbl := tw_mem (List.mem_append_right _ (List.mem_of_getElem? (i := 240) (by decide +kernel))) rfl
theorem mw_242 : (Cond.laysFinal "StoryMachine$Instruction" "StoryMachine$Instruction" "numbers" "[I") ∈ tw_tbl := tw_mem (List.mem_append_right _ (List.mem_of_getElem? (i := 242) (by decide +kernel))) rfl
theorem mw_244 : (Cond.lays "StoryMachine$Instruction" "StoryMachine$Instruction" "count" "I") ∈ tw_tbl := tw_mem (List.mem_append_right _ (List.mem_of_getElem? (i := 244) (by decide +kernel))) rfl
theorem mw_246 : (Cond.lays "StoryMachine$Instruction" "StoryMachine$Instruction" "list" "I") ∈ tw_tbl := tw_mem (List.mem_append_right _ (List.mem_of_getElem? (i := 246) (by decide +kernel))) rfl
theorem mw_248 : (Cond.lays "StoryMachine$Instruction" "StoryMachine$Instruction" "operation" "I") ∈ tw_tbl := tw_mem (List.mem_append_right _ (List.mem_of_getElem? (i := 248) (by decide +kernel))) rfl
theorem mw_250 : (Cond.lays "StoryMachine$Instruction" "StoryMachine$Instruction" "behind" "I") ∈ tw_tbl := tw_mem (List.mem_append_right _ (List.mem_of_getElem? (i := 250) (by decide +kernel))) rfl
theorem mw_252 : (Cond.lays "StoryMachine$Instruction" "StoryMachine$Instruction" "result" "I") ∈ tw_tbl := tw_mem (List.mem_append_right _ (List.mem_of_getElem? (i := 252) (by decide +kernel))) rfl
theorem mw_254 : (Cond.lays "StoryMachine$Instruction" "StoryMachine$Instruction" "branchesWhen" "Z") ∈ tw_tbl := tw_mem (List.mem_append_right _ (List.mem_of_getElem? (i := 254) (by decide +kernel))) rfl
theorem mw_256 : (Cond.lays "StoryMachine$Instruction" "StoryMachine$Instruction" "offset" "I") ∈ tw_tbl := tw_mem (List.mem_append_right _ (List.mem_of_getElem? (i := 256) (by decide +kernel))) rfl
theorem mw_258 : (Cond.lays "StoryMachine$Instruction" "StoryMachine$Instruction" "form" "I") ∈ tw_tbl := tw_mem (List.mem_append_right _ (List.mem_of_getElem? (i := 258) (by decide +kernel))) rfl
theorem mw_261 : (Cond.fieldLink "StoryMachine$Engine" 31 "StoryMachine$Engine" "memory" "LStoryMachine$Memory;") ∈ tw_tbl := tw_mem (List.mem_append_right _ (List.mem_of_getElem? (i := 261) (by decide +kernel))) rfl
theorem mw_262 : (Cond.fieldLink "StoryMachine$Engine" 35 "StoryMachine$Engine" "line" "LStoryMachine$Line;") ∈ tw_tbl := tw_mem (List.mem_append_right _ (List.mem_of_getElem? (i := 262) (by decide +kernel))) rfl
theorem mw_263 : (Cond.fieldLink "StoryMachine$Engine" 39 "StoryMachine$Engine" "routines" "LStoryMachine$Routines;") ∈ tw_tbl := tw_mem (List.mem_append_right _ (List.mem_of_getElem? (i := 263) (by decide +kernel))) rfl
theorem mw_264 : (Cond.fieldLink "StoryMachine$Engine" 43 "StoryMachine$Engine" "printer" "LStoryMachine$Printer;") ∈ tw_tbl := tw_mem (List.mem_append_right _ (List.mem_of_getElem? (i := 264) (by decide +kernel))) rfl
theorem mw_265 : (Cond.fieldLink "StoryMachine$Engine" 47 "StoryMachine$Engine" "variables" "LStoryMachine$Variables;") ∈ tw_tbl := tw_mem (List.mem_append_right _ (List.mem_of_getElem? (i := 265) (by decide +kernel))) rfl
theorem mw_266 : (Cond.fieldLink "StoryMachine$Engine" 56 "StoryMachine$Engine" "tree" "LStoryMachine$Tree;") ∈ tw_tbl := tw_mem (List.mem_append_right _ (List.mem_of_getElem? (i := 266) (by decide +kernel))) rfl
theorem mw_267 : (Cond.fieldLink "StoryMachine$Engine" 63 "StoryMachine$Engine" "dictionary" "LStoryMachine$Dictionary;") ∈ tw_tbl := tw_mem (List.mem_append_right _ (List.mem_of_getElem? (i := 267) (by decide +kernel))) rfl
theorem mw_268 : (Cond.fieldLink "StoryMachine$Engine" 72 "StoryMachine$Engine" "instruction" "LStoryMachine$Instruction;") ∈ tw_tbl := tw_mem (List.mem_append_right _ (List.mem_of_getElem? (i := 268) (by decide +kernel))) rfl
theorem mw_269 : (Cond.fieldLink "StoryMachine$Engine" 10 "StoryMachine$Engine" "aside" "LStoryMachine$Aside;") ∈ tw_tbl := tw_mem (List.mem_append_right _ (List.mem_of_getElem? (i := 269) (by decide +kernel))) rfl
theorem mw_270 : (Cond.fieldLink "StoryMachine$Engine" 18 "StoryMachine$Engine" "newLocals" "[I") ∈ tw_tbl := tw_mem (List.mem_append_right _ (List.mem_of_getElem? (i := 270) (by decide +kernel))) rfl
theorem mw_271 : (Cond.fieldLink "StoryMachine$Engine" 76 "StoryMachine$Engine" "canGoOn" "Z") ∈ tw_tbl := tw_mem (List.mem_append_right _ (List.mem_of_getElem? (i := 271) (by decide +kernel))) rfl
theorem mw_272 : (Cond.fieldLink "StoryMachine" 80 "StoryMachine$Engine" "canGoOn" "Z") ∈ tw_tbl := tw_mem (List.mem_append_right _ (List.mem_of_getElem? (i := 272) (by decide +kernel))) rfl
theorem mw_273 : (Cond.fieldLink "StoryMachine$Engine" 22 "StoryMachine$Engine" "current" "I") ∈ tw_tbl := tw_mem (List.mem_append_right _ (List.mem_of_getElem? (i := 273) (by decide +kernel))) rfl
theorem mw_274 : (Cond.fieldLink "StoryMachine" 91 "StoryMachine$Engine" "current" "I") ∈ tw_tbl := tw_mem (List.mem_append_right _ (List.mem_of_getElem? (i := 274) (by decide +kernel))) rfl
theorem mw_275 : (Cond.fieldLink "StoryMachine$Engine" 80 "StoryMachine$Engine" "stepsDone" "I") ∈ tw_tbl := tw_mem (List.mem_append_right _ (List.mem_of_getElem? (i := 275) (by decide +kernel))) rfl
theorem mw_276 : (Cond.fieldLink "StoryMachine" 88 "StoryMachine$Engine" "stepsDone" "I") ∈ tw_tbl := tw_mem (List.mem_append_right _ (List.mem_of_getElem? (i := 276) (by decide +kernel))) rfl
theorem mw_277 : (Cond.fieldLink "StoryMachine$Engine" 113 "StoryMachine$Engine" "next" "I") ∈ tw_tbl := tw_mem (List.mem_append_right _ (List.mem_of_getElem? (i := 277) (by decide +kernel))) rfl
theorem mw_278 : (Cond.fieldLink "StoryMachine$Engine" 83 "StoryMachine$Engine" "random" "I") ∈ tw_tbl := tw_mem (List.mem_append_right _ (List.mem_of_getElem? (i := 278) (by decide +kernel))) rfl
theorem mw_279 : (Cond.laysFinal "StoryMachine$Engine" "StoryMachine$Engine" "memory" "LStoryMachine$Memory;") ∈ tw_tbl := tw_mem (List.mem_append_right _ (List.mem_of_getElem? (i := 279) (by decide +kernel))) rfl
theorem mw_281 : (Cond.laysFinal "StoryMachine$Engine" "StoryMachine$Engine" "line" "LStoryMachine$Line;") ∈ tw_tbl := tw_mem (List.mem_append_right _ (List.mem_of_getElem? (i := 281) (by decide +kernel))) rfl
theorem mw_283 : (Cond.laysFinal "StoryMachine$Engine" "StoryMachine$Engine" "routines" "LStoryMachine$Routines;") ∈ tw_tbl := tw_mem (List.mem_append_right _ (List.mem_of_getElem? (i := 283) (by decide +kernel))) rfl
theorem mw_285 : (Cond.laysFinal "StoryMachine$Engine" "StoryMachine$Engine" "printer" "LStoryMachine$Printer;") ∈ tw_tbl := tw_mem (List.mem_append_right _ (List.mem_of_getElem? (i := 285) (by decide +kernel))) rfl
theorem mw_287 : (Cond.laysFinal "StoryMachine$Engine" "StoryMachine$Engine" "variables" "LStoryMachine$Variables;") ∈ tw_tbl := tw_mem (List.mem_append_right _ (List.mem_of_getElem? (i := 287) (by decide +kernel))) rfl
theorem mw_289 : (Cond.laysFinal "StoryMachine$Engine" "StoryMachine$Engine" "tree" "LStoryMachine$Tree;") ∈ tw_tbl := tw_mem (List.mem_append_right _ (List.mem_of_getElem? (i := 289) (by decide +kernel))) rfl
theorem mw_291 : (Cond.laysFinal "StoryMachine$Engine" "StoryMachine$Engine" "dictionary" "LStoryMachine$Dictionary;") ∈ tw_tbl := tw_mem (List.mem_append_right _ (List.mem_of_getElem? (i := 291) (by decide +kernel))) rfl
theorem mw_293 : (Cond.laysFinal "StoryMachine$Engine" "StoryMachine$Engine" "instruction" "LStoryMachine$Instruction;") ∈ tw_tbl := tw_mem (List.mem_append_right _ (List.mem_of_getElem? (i := 293) (by decide +kernel))) rfl
theorem mw_295 : (Cond.laysFinal "StoryMachine$Engine" "StoryMachine$Engine" "aside" "LStoryMachine$Aside;") ∈ tw_tbl := tw_mem (List.mem_append_right _ (List.mem_of_getElem? (i := 295) (by decide +kernel))) rfl
theorem mw_297 : (Cond.laysFinal "StoryMachine$Engine" "StoryMachine$Engine" "newLocals" "[I") ∈ tw_tbl := tw_mem (List.mem_append_right _ (List.mem_of_getElem? (i := 297) (by decide +kernel))) rfl
theorem mw_299 : (Cond.lays "StoryMachine$Engine" "StoryMachine$Engine" "canGoOn" "Z") ∈ tw_tbl := tw_mem (List.mem_append_right _ (List.mem_of_getElem? (i := 299) (by decide +kernel))) rfl
theorem mw_301 : (Cond.lays "StoryMachine$Engine" "StoryMachine$Engine" "current" "I") ∈ tw_tbl := tw_mem (List.mem_append_right _ (List.mem_of_getElem? (i := 301) (by decide +kernel))) rfl
theorem mw_303 : (Cond.lays "StoryMachine$Engine" "StoryMachine$Engine" "stepsDone" "I") ∈ tw_tbl := tw_mem (List.mem_append_right _ (List.mem_of_getElem? (i := 303) (by decide +kernel))) rfl
theorem mw_305 : (Cond.lays "StoryMachine$Engine" "StoryMachine$Engine" "next" "I") ∈ tw_tbl := tw_mem (List.mem_append_right _ (List.mem_of_getElem? (i := 305) (by decide +kernel))) rfl
theorem mw_307 : (Cond.lays "StoryMachine$Engine" "StoryMachine$Engine" "random" "I") ∈ tw_tbl := tw_mem (List.mem_append_right _ (List.mem_of_getElem? (i := 307) (by decide +kernel))) rfl
theorem mw_310 : (Cond.fieldLink "StoryMachine" 21 "StoryMachine" "memory" "LStoryMachine$Memory;") ∈ tw_tbl := tw_mem (List.mem_append_right _ (List.mem_of_getElem? (i := 310) (by decide +kernel))) rfl
theorem mw_311 : (Cond.fieldLink "StoryMachine" 27 "StoryMachine" "line" "LStoryMachine$Line;") ∈ tw_tbl := tw_mem (List.mem_append_right _ (List.mem_of_getElem? (i := 311) (by decide +kernel))) rfl
theorem mw_312 : (Cond.fieldLink "StoryMachine" 31 "StoryMachine" "routines" "LStoryMachine$Routines;") ∈ tw_tbl := tw_mem (List.mem_append_right _ (List.mem_of_getElem? (i := 312) (by decide +kernel))) rfl
theorem mw_313 : (Cond.fieldLink "StoryMachine" 35 "StoryMachine" "printer" "LStoryMachine$Printer;") ∈ tw_tbl := tw_mem (List.mem_append_right _ (List.mem_of_getElem? (i := 313) (by decide +kernel))) rfl
theorem mw_314 : (Cond.fieldLink "StoryMachine" 44 "StoryMachine" "engine" "LStoryMachine$Engine;") ∈ tw_tbl := tw_mem (List.mem_append_right _ (List.mem_of_getElem? (i := 314) (by decide +kernel))) rfl
theorem mw_315 : (Cond.laysFinal "StoryMachine" "StoryMachine" "memory" "LStoryMachine$Memory;") ∈ tw_tbl := tw_mem (List.mem_append_right _ (List.mem_of_getElem? (i := 315) (by decide +kernel))) rfl
theorem mw_317 : (Cond.laysFinal "StoryMachine" "StoryMachine" "line" "LStoryMachine$Line;") ∈ tw_tbl := tw_mem (List.mem_append_right _ (List.mem_of_getElem? (i := 317) (by decide +kernel))) rfl
theorem mw_319 : (Cond.laysFinal "StoryMachine" "StoryMachine" "routines" "LStoryMachine$Routines;") ∈ tw_tbl := tw_mem (List.mem_append_right _ (List.mem_of_getElem? (i := 319) (by decide +kernel))) rfl
theorem mw_321 : (Cond.laysFinal "StoryMachine" "StoryMachine" "printer" "LStoryMachine$Printer;") ∈ tw_tbl := tw_mem (List.mem_append_right _ (List.mem_of_getElem? (i := 321) (by decide +kernel))) rfl
theorem mw_323 : (Cond.laysFinal "StoryMachine" "StoryMachine" "engine" "LStoryMachine$Engine;") ∈ tw_tbl := tw_mem (List.mem_append_right _ (List.mem_of_getElem? (i := 323) (by decide +kernel))) rfl
theorem mw_326 : (Cond.methodLink "StoryMachineLaw" 70 (⟨"StoryMachine", "enter", "()V"⟩)) ∈ tw_tbl := tw_mem (List.mem_append_right _ (List.mem_of_getElem? (i := 326) (by decide +kernel))) rfl
theorem mw_327 : (Cond.instanceMethod (⟨"StoryMachine", "enter", "()V"⟩)) ∈ tw_tbl := tw_mem (List.mem_append_right _ (List.mem_of_getElem? (i := 327) (by decide +kernel))) rfl
theorem mw_328 : (Cond.selects "StoryMachine" (⟨"StoryMachine", "enter", "()V"⟩) (⟨"StoryMachine", "enter", "()V"⟩)) ∈ tw_tbl := tw_mem (List.mem_append_right _ (List.mem_of_getElem? (i := 328) (by decide +kernel))) rfl
theorem mw_329 : (Cond.code (⟨"StoryMachine", "enter", "()V"⟩) prog_1_method_6_code 1 none) ∈ tw_tbl := tw_mem (List.mem_append_right _ (List.mem_of_getElem? (i := 329) (by decide +kernel))) rfl
theorem mw_330 : (Cond.methodLink "StoryMachine" 77 (⟨"StoryMachine$Line", "finish", "()V"⟩)) ∈ tw_tbl := tw_mem (List.mem_append_right _ (List.mem_of_getElem? (i := 330) (by decide +kernel))) rfl
theorem mw_331 : (Cond.instanceMethod (⟨"StoryMachine$Line", "finish", "()V"⟩)) ∈ tw_tbl := tw_mem (List.mem_append_right _ (List.mem_of_getElem? (i := 331) (by decide +kernel))) rfl
theorem mw_332 : (Cond.selects "StoryMachine$Line" (⟨"StoryMachine$Line", "finish", "()V"⟩) (⟨"StoryMachine$Line", "finish", "()V"⟩)) ∈ tw_tbl := tw_mem (List.mem_append_right _ (List.mem_of_getElem? (i := 332) (by decide +kernel))) rfl
theorem mw_333 : (Cond.code (⟨"StoryMachine$Line", "finish", "()V"⟩) prog_6_method_4_code 4 none) ∈ tw_tbl := tw_mem (List.mem_append_right _ (List.mem_of_getElem? (i := 333) (by decide +kernel))) rfl
theorem mw_334 : (Cond.methodLink "StoryMachineLaw" 77 (⟨"StoryMachine", "steps", "()I"⟩)) ∈ tw_tbl := tw_mem (List.mem_append_right _ (List.mem_of_getElem? (i := 334) (by decide +kernel))) rfl
theorem mw_335 : (Cond.instanceMethod (⟨"StoryMachine", "steps", "()I"⟩)) ∈ tw_tbl := tw_mem (List.mem_append_right _ (List.mem_of_getElem? (i := 335) (by decide +kernel))) rfl
theorem mw_336 : (Cond.selects "StoryMachine" (⟨"StoryMachine", "steps", "()I"⟩) (⟨"StoryMachine", "steps", "()I"⟩)) ∈ tw_tbl := tw_mem (List.mem_append_right _ (List.mem_of_getElem? (i := 336) (by decide +kernel))) rfl
theorem mw_337 : (Cond.code (⟨"StoryMachine", "steps", "()I"⟩) prog_1_method_8_code 1 (some .int)) ∈ tw_tbl := tw_mem (List.mem_append_right _ (List.mem_of_getElem? (i := 337) (by decide +kernel))) rfl
theorem mw_338 : (Cond.methodLink "StoryMachineLaw" 81 (⟨"StoryMachine", "place", "()I"⟩)) ∈ tw_tbl := tw_mem (List.mem_append_right _ (List.mem_of_getElem? (i := 338) (by decide +kernel))) rfl
theorem mw_339 : (Cond.instanceMethod (⟨"StoryMachine", "place", "()I"⟩)) ∈ tw_tbl := tw_mem (List.mem_append_right _ (List.mem_of_getElem? (i := 339) (by decide +kernel))) rfl
theorem mw_340 : (Cond.selects "StoryMachine" (⟨"StoryMachine", "place", "()I"⟩) (⟨"StoryMachine", "place", "()I"⟩)) ∈ tw_tbl := tw_mem (List.mem_append_right _ (List.mem_of_getElem? (i := 340) (by decide +kernel))) rfl
theorem mw_341 : (Cond.code (⟨"StoryMachine", "place", "()I"⟩) prog_1_method_9_code 1 (some .int)) ∈ tw_tbl := tw_mem (List.mem_append_right _ (List.mem_of_getElem? (i := 341) (by decide +kernel))) rfl
theorem mw_342 : (Cond.methodLink "StoryMachineLaw" 94 (⟨"StoryMachine", "routines", "()I"⟩)) ∈ tw_tbl := tw_mem (List.mem_append_right _ (List.mem_of_getElem? (i := 342) (by decide +kernel))) rfl
theorem mw_343 : (Cond.instanceMethod (⟨"StoryMachine", "routines", "()I"⟩)) ∈ tw_tbl := tw_mem (List.mem_append_right _ (List.mem_of_getElem? (i := 343) (by decide +kernel))) rfl
theorem mw_344 : (Cond.selects "StoryMachine" (⟨"StoryMachine", "routines", "()I"⟩) (⟨"StoryMachine", "routines", "()I"⟩)) ∈ tw_tbl := tw_mem (List.mem_append_right _ (List.mem_of_getElem? (i := 344) (by decide +kernel))) rfl
theorem mw_345 : (Cond.code (⟨"StoryMachine", "routines", "()I"⟩) prog_1_method_13_code 1 (some .int)) ∈ tw_tbl := tw_mem (List.mem_append_right _ (List.mem_of_getElem? (i := 345) (by decide +kernel))) rfl
theorem mw_346 : (Cond.methodLink "StoryMachineLaw" 48 (⟨"StoryMachineLaw", "poke", "(LStoryMachine;IJI)I"⟩)) ∈ tw_tbl := tw_mem (List.mem_append_right _ (List.mem_of_getElem? (i := 346) (by decide +kernel))) rfl
theorem mw_347 : (Cond.static (⟨"StoryMachineLaw", "poke", "(LStoryMachine;IJI)I"⟩)) ∈ tw_tbl := tw_mem (List.mem_append_right _ (List.mem_of_getElem? (i := 347) (by decide +kernel))) rfl
theorem mw_348 : (Cond.codeWith (⟨"StoryMachineLaw", "poke", "(LStoryMachine;IJI)I"⟩) method_3_code 6 (some .int) [(0, 8, 11, 13)]) ∈ tw_tbl := tw_mem (List.mem_append_right _ (List.mem_of_getElem? (i := 348) (by decide +kernel))) rfl
theorem mw_349 : (Cond.classLink "StoryMachineLaw" 13 "java/lang/IllegalArgumentException") ∈ tw_tbl := tw_mem (List.mem_append_right _ (List.mem_of_getElem? (i := 349) (by decide +kernel))) rfl
theorem mw_350 : (Cond.methodLink "StoryMachineLaw" 7 (⟨"StoryMachine", "poke", "(IJI)V"⟩)) ∈ tw_tbl := tw_mem (List.mem_append_right _ (List.mem_of_getElem? (i := 350) (by decide +kernel))) rfl
theorem mw_351 : (Cond.instanceMethod (⟨"StoryMachine", "poke", "(IJI)V"⟩)) ∈ tw_tbl := tw_mem (List.mem_append_right _ (List.mem_of_getElem? (i := 351) (by decide +kernel))) rfl
theorem mw_352 : (Cond.selects "StoryMachine" (⟨"StoryMachine", "poke", "(IJI)V"⟩) (⟨"StoryMachine", "poke", "(IJI)V"⟩)) ∈ tw_tbl := tw_mem (List.mem_append_right _ (List.mem_of_getElem? (i := 352) (by decide +kernel))) rfl
theorem mw_353 : (Cond.code (⟨"StoryMachine", "poke", "(IJI)V"⟩) prog_1_method_2_code 6 none) ∈ tw_tbl := tw_mem (List.mem_append_right _ (List.mem_of_getElem? (i := 353) (by decide +kernel))) rfl
theorem mw_354 : (Cond.classLink "StoryMachine" 48 "java/lang/IllegalArgumentException") ∈ tw_tbl := tw_mem (List.mem_append_right _ (List.mem_of_getElem? (i := 354) (by decide +kernel))) rfl
theorem mw_355 : (Cond.instantiable "java/lang/IllegalArgumentException" 6) ∈ tw_tbl := tw_mem (List.mem_append_right _ (List.mem_of_getElem? (i := 355) (by decide +kernel))) rfl
theorem mw_356 : (Cond.castable "java/lang/IllegalArgumentException" "java/lang/IllegalArgumentException") ∈ tw_tbl := tw_mem (List.mem_append_right _ (List.mem_of_getElem? (i := 356) (by decide +kernel))) rfl
theorem mw_357 : (Cond.declares (⟨"java/lang/RuntimeException", "<init>", "()V"⟩)) ∈ tw_tbl := tw_mem (List.mem_append_right _ (List.mem_of_getElem? (i := 357) (by decide +kernel))) rfl
theorem mw_359 : (Cond.declares (⟨"java/lang/Exception", "<init>", "()V"⟩)) ∈ tw_tbl := tw_mem (List.mem_append_right _ (List.mem_of_getElem? (i := 359) (by decide +kernel))) rfl
theorem mw_361 : (Cond.declares (⟨"java/lang/Throwable", "<init>", "()V"⟩)) ∈ tw_tbl := tw_mem (List.mem_append_right _ (List.mem_of_getElem? (i := 361) (by decide +kernel))) rfl
theorem mw_363 : (Cond.selects "java/lang/IllegalArgumentException" (⟨"java/lang/Throwable", "fillInStackTrace", "(I)Ljava/lang/Throwable;"⟩) (⟨"java/lang/Throwable", "fillInStackTrace", "(I)Ljava/lang/Throwable;"⟩)) ∈ tw_tbl := tw_mem (List.mem_append_right _ (List.mem_of_getElem? (i := 363) (by decide +kernel))) rfl
theorem mw_364 : (Cond.selects "java/lang/IllegalArgumentException" (⟨"java/lang/Throwable", "fillInStackTrace", "()Ljava/lang/Throwable;"⟩) (⟨"java/lang/Throwable", "fillInStackTrace", "()Ljava/lang/Throwable;"⟩)) ∈ tw_tbl := tw_mem (List.mem_append_right _ (List.mem_of_getElem? (i := 364) (by decide +kernel))) rfl
theorem mw_365 : (Cond.lays "java/lang/IllegalArgumentException" "java/lang/Throwable" "cause" "Ljava/lang/Throwable;") ∈ tw_tbl := tw_mem (List.mem_append_right _ (List.mem_of_getElem? (i := 365) (by decide +kernel))) rfl
theorem mw_366 : (Cond.lays "java/lang/Throwable" "java/lang/Throwable" "cause" "Ljava/lang/Throwable;") ∈ tw_tbl := tw_mem (List.mem_append_right _ (List.mem_of_getElem? (i := 366) (by decide +kernel))) rfl
theorem mw_367 : (Cond.lays "java/lang/IllegalArgumentException" "java/lang/Throwable" "stackTrace" "[Ljava/lang/StackTraceElement;") ∈ tw_tbl := tw_mem (List.mem_append_right _ (List.mem_of_getElem? (i := 367) (by decide +kernel))) rfl
theorem mw_368 : (Cond.lays "java/lang/Throwable" "java/lang/Throwable" "stackTrace" "[Ljava/lang/StackTraceElement;") ∈ tw_tbl := tw_mem (List.mem_append_right _ (List.mem_of_getElem? (i := 368) (by decide +kernel))) rfl
theorem mw_369 : (Cond.lays "java/lang/IllegalArgumentException" "java/lang/Throwable" "suppressedExceptions" "Ljava/util/List;") ∈ tw_tbl := tw_mem (List.mem_append_right _ (List.mem_of_getElem? (i := 369) (by decide +kernel))) rfl
theorem mw_370 : (Cond.lays "java/lang/Throwable" "java/lang/Throwable" "suppressedExceptions" "Ljava/util/List;") ∈ tw_tbl := tw_mem (List.mem_append_right _ (List.mem_of_getElem? (i := 370) (by decide +kernel))) rfl
theorem mw_371 : (Cond.lays "java/lang/IllegalArgumentException" "java/lang/Throwable" "detailMessage" "Ljava/lang/String;") ∈ tw_tbl := tw_mem (List.mem_append_right _ (List.mem_of_getElem? (i := 371) (by decide +kernel))) rfl
theorem mw_372 : (Cond.lays "java/lang/Throwable" "java/lang/Throwable" "detailMessage" "Ljava/lang/String;") ∈ tw_tbl := tw_mem (List.mem_append_right _ (List.mem_of_getElem? (i := 372) (by decide +kernel))) rfl
theorem mw_373 : (Cond.lays "java/lang/IllegalArgumentException" "java/lang/Throwable" "backtrace" "Ljava/lang/Object;") ∈ tw_tbl := tw_mem (List.mem_append_right _ (List.mem_of_getElem? (i := 373) (by decide +kernel))) rfl
theorem mw_374 : (Cond.lays "java/lang/Throwable" "java/lang/Throwable" "backtrace" "Ljava/lang/Object;") ∈ tw_tbl := tw_mem (List.mem_append_right _ (List.mem_of_getElem? (i := 374) (by decide +kernel))) rfl
theorem mw_375 : (Cond.fieldLink "java/lang/Throwable" 198 "java/lang/Throwable" "backtrace" "Ljava/lang/Object;") ∈ tw_tbl := tw_mem (List.mem_append_right _ (List.mem_of_getElem? (i := 375) (by decide +kernel))) rfl
theorem mw_376 : (Cond.superclass "java/lang/Throwable" "java/lang/Object") ∈ tw_tbl := tw_mem (List.mem_append_right _ (List.mem_of_getElem? (i := 376) (by decide +kernel))) rfl
theorem mw_377 : (Cond.instanceMethod (⟨"java/lang/Throwable", "<init>", "()V"⟩)) ∈ tw_tbl := tw_mem (List.mem_append_right _ (List.mem_of_getElem? (i := 377) (by decide +kernel))) rfl
theorem mw_378 : (Cond.code (⟨"java/lang/Throwable", "<init>", "()V"⟩) prog_26_method_1_code 1 none) ∈ tw_tbl := tw_mem (List.mem_append_right _ (List.mem_of_getElem? (i := 378) (by decide +kernel))) rfl
theorem mw_379 : (Cond.methodLink "java/lang/Throwable" 1 (⟨"java/lang/Object", "<init>", "()V"⟩)) ∈ tw_tbl := tw_mem (List.mem_append_right _ (List.mem_of_getElem? (i := 379) (by decide +kernel))) rfl
theorem mw_380 : (Cond.fieldLink "java/lang/Throwable" 13 "java/lang/Throwable" "UNASSIGNED_STACK" "[Ljava/lang/StackTraceElement;") ∈ tw_tbl := tw_mem (List.mem_append_right _ (List.mem_of_getElem? (i := 380) (by decide +kernel))) rfl
theorem mw_382 : (Cond.fieldLink "java/lang/Throwable" 20 "java/lang/Throwable" "SUPPRESSED_SENTINEL" "Ljava/util/List;") ∈ tw_tbl := tw_mem (List.mem_append_right _ (List.mem_of_getElem? (i := 382) (by decide +kernel))) rfl
theorem mw_384 : (Cond.methodLink "java/lang/Throwable" 27 (⟨"java/lang/Throwable", "fillInStackTrace", "()Ljava/lang/Throwable;"⟩)) ∈ tw_tbl := tw_mem (List.mem_append_right _ (List.mem_of_getElem? (i := 384) (by decide +kernel))) rfl
theorem mw_385 : (Cond.instanceMethod (⟨"java/lang/Throwable", "fillInStackTrace", "()Ljava/lang/Throwable;"⟩)) ∈ tw_tbl := tw_mem (List.mem_append_right _ (List.mem_of_getElem? (i := 385) (by decide +kernel))) rfl
theorem mw_387 : (Cond.selects "java/lang/ArithmeticException" (⟨"java/lang/Throwable", "fillInStackTrace", "()Ljava/lang/Throwable;"⟩) (⟨"java/lang/Throwable", "fillInStackTrace", "()Ljava/lang/Throwable;"⟩)) ∈ tw_tbl := tw_mem (List.mem_append_right _ (List.mem_of_getElem? (i := 387) (by decide +kernel))) rfl
theorem mw_388 : (Cond.selects "java/lang/IllegalStateException" (⟨"java/lang/Throwable", "fillInStackTrace", "()Ljava/lang/Throwable;"⟩) (⟨"java/lang/Throwable", "fillInStackTrace", "()Ljava/lang/Throwable;"⟩)) ∈ tw_tbl := tw_mem (List.mem_append_right _ (List.mem_of_getElem? (i := 388) (by decide +kernel))) rfl
theorem mw_389 : (Cond.selects "java/lang/IndexOutOfBoundsException" (⟨"java/lang/Throwable", "fillInStackTrace", "()Ljava/lang/Throwable;"⟩) (⟨"java/lang/Throwable", "fillInStackTrace", "()Ljava/lang/Throwable;"⟩)) ∈ tw_tbl := tw_mem (List.mem_append_right _ (List.mem_of_getElem? (i := 389) (by decide +kernel))) rfl
theorem mw_390 : (Cond.selects "java/lang/UnsupportedOperationException" (⟨"java/lang/Throwable", "fillInStackTrace", "()Ljava/lang/Throwable;"⟩) (⟨"java/lang/Throwable", "fillInStackTrace", "()Ljava/lang/Throwable;"⟩)) ∈ tw_tbl := tw_mem (List.mem_append_right _ (List.mem_of_getElem? (i := 390) (by decide +kernel))) rfl
theorem mw_391 : (Cond.codeSync (⟨"java/lang/Throwable", "fillInStackTrace", "()Ljava/lang/Throwable;"⟩) prog_26_method_18_code 1 (some (.object "java/lang/Throwable"))) ∈ tw_tbl := tw_mem (List.mem_append_right _ (List.mem_of_getElem? (i := 391) (by decide +kernel))) rfl
theorem mw_392 : (Cond.methodLink "java/lang/Throwable" 202 (⟨"java/lang/Throwable", "fillInStackTrace", "(I)Ljava/lang/Throwable;"⟩)) ∈ tw_tbl := tw_mem (List.mem_append_right _ (List.mem_of_getElem? (i := 392) (by decide +kernel))) rfl
theorem mw_394 : (Cond.instanceMethod (⟨"java/lang/Throwable", "fillInStackTrace", "(I)Ljava/lang/Throwable;"⟩)) ∈ tw_tbl := tw_mem (List.mem_append_right _ (List.mem_of_getElem? (i := 394) (by decide +kernel))) rfl
theorem mw_395 : (Cond.instantiable "java/lang/Throwable" 6) ∈ tw_tbl := tw_mem (List.mem_append_right _ (List.mem_of_getElem? (i := 395) (by decide +kernel))) rfl
theorem mw_396 : (Cond.native (⟨"java/lang/Throwable", "fillInStackTrace", "(I)Ljava/lang/Throwable;"⟩)) ∈ tw_tbl := tw_mem (List.mem_append_right _ (List.mem_of_getElem? (i := 396) (by decide +kernel))) rfl
theorem mw_397 : (Cond.methodLink "StoryMachine" 50 (⟨"java/lang/IllegalArgumentException", "<init>", "()V"⟩)) ∈ tw_tbl := tw_mem (List.mem_append_right _ (List.mem_of_getElem? (i := 397) (by decide +kernel))) rfl
theorem mw_398 : (Cond.instanceMethod (⟨"java/lang/IllegalArgumentException", "<init>", "()V"⟩)) ∈ tw_tbl := tw_mem (List.mem_append_right _ (List.mem_of_getElem? (i := 398) (by decide +kernel))) rfl
theorem mw_399 : (Cond.code (⟨"java/lang/IllegalArgumentException", "<init>", "()V"⟩) prog_17_method_1_code 1 none) ∈ tw_tbl := tw_mem (List.mem_append_right _ (List.mem_of_getElem? (i := 399) (by decide +kernel))) rfl
theorem mw_400 : (Cond.methodLink "java/lang/IllegalArgumentException" 1 (⟨"java/lang/RuntimeException", "<init>", "()V"⟩)) ∈ tw_tbl := tw_mem (List.mem_append_right _ (List.mem_of_getElem? (i := 400) (by decide +kernel))) rfl
theorem mw_401 : (Cond.instanceMethod (⟨"java/lang/RuntimeException", "<init>", "()V"⟩)) ∈ tw_tbl := tw_mem (List.mem_append_right _ (List.mem_of_getElem? (i := 401) (by decide +kernel))) rfl
theorem mw_402 : (Cond.code (⟨"java/lang/RuntimeException", "<init>", "()V"⟩) prog_21_method_1_code 1 none) ∈ tw_tbl := tw_mem (List.mem_append_right _ (List.mem_of_getElem? (i := 402) (by decide +kernel))) rfl
theorem mw_403 : (Cond.methodLink "java/lang/RuntimeException" 1 (⟨"java/lang/Exception", "<init>", "()V"⟩)) ∈ tw_tbl := tw_mem (List.mem_append_right _ (List.mem_of_getElem? (i := 403) (by decide +kernel))) rfl
theorem mw_404 : (Cond.instanceMethod (⟨"java/lang/Exception", "<init>", "()V"⟩)) ∈ tw_tbl := tw_mem (List.mem_append_right _ (List.mem_of_getElem? (i := 404) (by decide +kernel))) rfl
theorem mw_405 : (Cond.code (⟨"java/lang/Exception", "<init>", "()V"⟩) prog_16_method_1_code 1 none) ∈ tw_tbl := tw_mem (List.mem_append_right _ (List.mem_of_getElem? (i := 405) (by decide +kernel))) rfl
theorem mw_406 : (Cond.methodLink "java/lang/Exception" 1 (⟨"java/lang/Throwable", "<init>", "()V"⟩)) ∈ tw_tbl := tw_mem (List.mem_append_right _ (List.mem_of_getElem? (i := 406) (by decide +kernel))) rfl
theorem mw_408 : (Cond.fieldLink "java/lang/Throwable" 7 "java/lang/Throwable" "cause" "Ljava/lang/Throwable;") ∈ tw_tbl := tw_mem (List.mem_append_right _ (List.mem_of_getElem? (i := 408) (by decide +kernel))) rfl
theorem mw_409 : (Cond.fieldLink "java/lang/Throwable" 17 "java/lang/Throwable" "stackTrace" "[Ljava/lang/StackTraceElement;") ∈ tw_tbl := tw_mem (List.mem_append_right _ (List.mem_of_getElem? (i := 409) (by decide +kernel))) rfl
theorem mw_410 : (Cond.fieldLink "java/lang/Throwable" 24 "java/lang/Throwable" "suppressedExceptions" "Ljava/util/List;") ∈ tw_tbl := tw_mem (List.mem_append_right _ (List.mem_of_getElem? (i := 410) (by decide +kernel))) rfl
theorem mw_419 : (Cond.methodLink "StoryMachine" 55 (⟨"StoryMachine", "packed", "(JII)I"⟩)) ∈ tw_tbl := tw_mem (List.mem_append_right _ (List.mem_of_getElem? (i := 419) (by decide +kernel))) rfl
theorem mw_420 : (Cond.static (⟨"StoryMachine", "packed", "(JII)I"⟩)) ∈ tw_tbl := tw_mem (List.mem_append_right _ (List.mem_of_getElem? (i := 420) (by decide +kernel))) rfl
theorem mw_421 : (Cond.code (⟨"StoryMachine", "packed", "(JII)I"⟩) prog_1_method_14_code 4 (some .int)) ∈ tw_tbl := tw_mem (List.mem_append_right _ (List.mem_of_getElem? (i := 421) (by decide +kernel))) rfl
theorem mw_422 : (Cond.methodLink "StoryMachineLaw" 58 (⟨"StoryMachineLaw", "peek", "(LStoryMachine;I[J)I"⟩)) ∈ tw_tbl := tw_mem (List.mem_append_right _ (List.mem_of_getElem? (i := 422) (by decide +kernel))) rfl
theorem mw_423 : (Cond.static (⟨"StoryMachineLaw", "peek", "(LStoryMachine;I[J)I"⟩)) ∈ tw_tbl := tw_mem (List.mem_append_right _ (List.mem_of_getElem? (i := 423) (by decide +kernel))) rfl
theorem mw_424 : (Cond.codeWith (⟨"StoryMachineLaw", "peek", "(LStoryMachine;I[J)I"⟩) method_4_code 4 (some .int) [(0, 9, 12, 13)]) ∈ tw_tbl := tw_mem (List.mem_append_right _ (List.mem_of_getElem? (i := 424) (by decide +kernel))) rfl
theorem mw_425 : (Cond.methodLink "StoryMachineLaw" 15 (⟨"StoryMachine", "peek", "(I)I"⟩)) ∈ tw_tbl := tw_mem (List.mem_append_right _ (List.mem_of_getElem? (i := 425) (by decide +kernel))) rfl
theorem mw_426 : (Cond.instanceMethod (⟨"StoryMachine", "peek", "(I)I"⟩)) ∈ tw_tbl := tw_mem (List.mem_append_right _ (List.mem_of_getElem? (i := 426) (by decide +kernel))) rfl
theorem mw_427 : (Cond.selects "StoryMachine" (⟨"StoryMachine", "peek", "(I)I"⟩) (⟨"StoryMachine", "peek", "(I)I"⟩)) ∈ tw_tbl := tw_mem (List.mem_append_right _ (List.mem_of_getElem? (i := 427) (by decide +kernel))) rfl
theorem mw_428 : (Cond.code (⟨"StoryMachine", "peek", "(I)I"⟩) prog_1_method_3_code 2 (some .int)) ∈ tw_tbl := tw_mem (List.mem_append_right _ (List.mem_of_getElem? (i := 428) (by decide +kernel))) rfl
theorem mw_429 : (Cond.methodLink "StoryMachineLaw" 62 (⟨"StoryMachineLaw", "begin", "(LStoryMachine;)I"⟩)) ∈ tw_tbl := tw_mem (List.mem_append_right _ (List.mem_of_getElem? (i := 429) (by decide +kernel))) rfl
theorem mw_430 : (Cond.static (⟨"StoryMachineLaw", "begin", "(LStoryMachine;)I"⟩)) ∈ tw_tbl := tw_mem (List.mem_append_right _ (List.mem_of_getElem? (i := 430) (by decide +kernel))) rfl
theorem mw_431 : (Cond.codeWith (⟨"StoryMachineLaw", "begin", "(LStoryMachine;)I"⟩) method_5_code 2 (some .int) [(0, 4, 7, 22)]) ∈ tw_tbl := tw_mem (List.mem_append_right _ (List.mem_of_getElem? (i := 431) (by decide +kernel))) rfl
theorem mw_432 : (Cond.classLink "StoryMachineLaw" 22 "java/lang/IllegalStateException") ∈ tw_tbl := tw_mem (List.mem_append_right _ (List.mem_of_getElem? (i := 432) (by decide +kernel))) rfl
theorem mw_433 : (Cond.methodLink "StoryMachineLaw" 19 (⟨"StoryMachine", "begin", "()V"⟩)) ∈ tw_tbl := tw_mem (List.mem_append_right _ (List.mem_of_getElem? (i := 433) (by decide +kernel))) rfl
theorem mw_434 : (Cond.instanceMethod (⟨"StoryMachine", "begin", "()V"⟩)) ∈ tw_tbl := tw_mem (List.mem_append_right _ (List.mem_of_getElem? (i := 434) (by decide +kernel))) rfl
theorem mw_435 : (Cond.selects "StoryMachine" (⟨"StoryMachine", "begin", "()V"⟩) (⟨"StoryMachine", "begin", "()V"⟩)) ∈ tw_tbl := tw_mem (List.mem_append_right _ (List.mem_of_getElem? (i := 435) (by decide +kernel))) rfl
theorem mw_436 : (Cond.code (⟨"StoryMachine", "begin", "()V"⟩) prog_1_method_4_code 2 none) ∈ tw_tbl := tw_mem (List.mem_append_right _ (List.mem_of_getElem? (i := 436) (by decide +kernel))) rfl
theorem mw_437 : (Cond.methodLink "StoryMachine" 59 (⟨"StoryMachine$Memory", "wordAt", "(I)I"⟩)) ∈ tw_tbl := tw_mem (List.mem_append_right _ (List.mem_of_getElem? (i := 437) (by decide +kernel))) rfl
theorem mw_438 : (Cond.instanceMethod (⟨"StoryMachine$Memory", "wordAt", "(I)I"⟩)) ∈ tw_tbl := tw_mem (List.mem_append_right _ (List.mem_of_getElem? (i := 438) (by decide +kernel))) rfl
theorem mw_439 : (Cond.selects "StoryMachine$Memory" (⟨"StoryMachine$Memory", "wordAt", "(I)I"⟩) (⟨"StoryMachine$Memory", "wordAt", "(I)I"⟩)) ∈ tw_tbl := tw_mem (List.mem_append_right _ (List.mem_of_getElem? (i := 439) (by decide +kernel))) rfl
theorem mw_440 : (Cond.code (⟨"StoryMachine$Memory", "wordAt", "(I)I"⟩) prog_7_method_3_code 2 (some .int)) ∈ tw_tbl := tw_mem (List.mem_append_right _ (List.mem_of_getElem? (i := 440) (by decide +kernel))) rfl
theorem mw_441 : (Cond.classLink "StoryMachine$Memory" 13 "java/lang/IllegalArgumentException") ∈ tw_tbl := tw_mem (List.mem_append_right _ (List.mem_of_getElem? (i := 441) (by decide +kernel))) rfl
theorem mw_442 : (Cond.methodLink "StoryMachine$Memory" 15 (⟨"java/lang/IllegalArgumentException", "<init>", "()V"⟩)) ∈ tw_tbl := tw_mem (List.mem_append_right _ (List.mem_of_getElem? (i := 442) (by decide +kernel))) rfl
theorem mw_443 : (Cond.classLink "StoryMachine" 63 "java/lang/IllegalStateException") ∈ tw_tbl := tw_mem (List.mem_append_right _ (List.mem_of_getElem? (i := 443) (by decide +kernel))) rfl
theorem mw_444 : (Cond.instantiable "java/lang/IllegalStateException" 6) ∈ tw_tbl := tw_mem (List.mem_append_right _ (List.mem_of_getElem? (i := 444) (by decide +kernel))) rfl
theorem mw_445 : (Cond.castable "java/lang/IllegalStateException" "java/lang/IllegalStateException") ∈ tw_tbl := tw_mem (List.mem_append_right _ (List.mem_of_getElem? (i := 445) (by decide +kernel))) rfl
theorem mw_446 : (Cond.selects "java/lang/IllegalStateException" (⟨"java/lang/Throwable", "fillInStackTrace", "(I)Ljava/lang/Throwable;"⟩) (⟨"java/lang/Throwable", "fillInStackTrace", "(I)Ljava/lang/Throwable;"⟩)) ∈ tw_tbl := tw_mem (List.mem_append_right _ (List.mem_of_getElem? (i := 446) (by decide +kernel))) rfl
theorem mw_447 : (Cond.lays "java/lang/IllegalStateException" "java/lang/Throwable" "cause" "Ljava/lang/Throwable;") ∈ tw_tbl := tw_mem (List.mem_append_right _ (List.mem_of_getElem? (i := 447) (by decide +kernel))) rfl
theorem mw_448 : (Cond.lays "java/lang/IllegalStateException" "java/lang/Throwable" "stackTrace" "[Ljava/lang/StackTraceElement;") ∈ tw_tbl := tw_mem (List.mem_append_right _ (List.mem_of_getElem? (i := 448) (by decide +kernel))) rfl
theorem mw_449 : (Cond.lays "java/lang/IllegalStateException" "java/lang/Throwable" "suppressedExceptions" "Ljava/util/List;") ∈ tw_tbl := tw_mem (List.mem_append_right _ (List.mem_of_getElem? (i := 449) (by decide +kernel))) rfl
theorem mw_450 : (Cond.lays "java/lang/IllegalStateException" "java/lang/Throwable" "detailMessage" "Ljava/lang/String;") ∈ tw_tbl := tw_mem (List.mem_append_right _ (List.mem_of_getElem? (i := 450) (by decide +kernel))) rfl
theorem mw_451 : (Cond.lays "java/lang/IllegalStateException" "java/lang/Throwable" "backtrace" "Ljava/lang/Object;") ∈ tw_tbl := tw_mem (List.mem_append_right _ (List.mem_of_getElem? (i := 451) (by decide +kernel))) rfl
theorem mw_452 : (Cond.methodLink "StoryMachine" 65 (⟨"java/lang/IllegalStateException", "<init>", "()V"⟩)) ∈ tw_tbl := tw_mem (List.mem_append_right _ (List.mem_of_getElem? (i := 452) (by decide +kernel))) rfl
theorem mw_453 : (Cond.instanceMethod (⟨"java/lang/IllegalStateException", "<init>", "()V"⟩)) ∈ tw_tbl := tw_mem (List.mem_append_right _ (List.mem_of_getElem? (i := 453) (by decide +kernel))) rfl
theorem mw_454 : (Cond.code (⟨"java/lang/IllegalStateException", "<init>", "()V"⟩) prog_18_method_1_code 1 none) ∈ tw_tbl := tw_mem (List.mem_append_right _ (List.mem_of_getElem? (i := 454) (by decide +kernel))) rfl
theorem mw_455 : (Cond.methodLink "java/lang/IllegalStateException" 1 (⟨"java/lang/RuntimeException", "<init>", "()V"⟩)) ∈ tw_tbl := tw_mem (List.mem_append_right _ (List.mem_of_getElem? (i := 455) (by decide +kernel))) rfl
theorem mw_458 : (Cond.methodLink "StoryMachine" 66 (⟨"StoryMachine$Engine", "startAt", "(I)V"⟩)) ∈ tw_tbl := tw_mem (List.mem_append_right _ (List.mem_of_getElem? (i := 458) (by decide +kernel))) rfl
theorem mw_459 : (Cond.instanceMethod (⟨"StoryMachine$Engine", "startAt", "(I)V"⟩)) ∈ tw_tbl := tw_mem (List.mem_append_right _ (List.mem_of_getElem? (i := 459) (by decide +kernel))) rfl
theorem mw_460 : (Cond.selects "StoryMachine$Engine" (⟨"StoryMachine$Engine", "startAt", "(I)V"⟩) (⟨"StoryMachine$Engine", "startAt", "(I)V"⟩)) ∈ tw_tbl := tw_mem (List.mem_append_right _ (List.mem_of_getElem? (i := 460) (by decide +kernel))) rfl
theorem mw_461 : (Cond.code (⟨"StoryMachine$Engine", "startAt", "(I)V"⟩) prog_4_method_2_code 2 none) ∈ tw_tbl := tw_mem (List.mem_append_right _ (List.mem_of_getElem? (i := 461) (by decide +kernel))) rfl
theorem mw_462 : (Cond.methodLink "StoryMachine$Engine" 94 (⟨"StoryMachine$Routines", "clear", "()V"⟩)) ∈ tw_tbl := tw_mem (List.mem_append_right _ (List.mem_of_getElem? (i := 462) (by decide +kernel))) rfl
theorem mw_463 : (Cond.instanceMethod (⟨"StoryMachine$Routines", "clear", "()V"⟩)) ∈ tw_tbl := tw_mem (List.mem_append_right _ (List.mem_of_getElem? (i := 463) (by decide +kernel))) rfl
theorem mw_464 : (Cond.selects "StoryMachine$Routines" (⟨"StoryMachine$Routines", "clear", "()V"⟩) (⟨"StoryMachine$Routines", "clear", "()V"⟩)) ∈ tw_tbl := tw_mem (List.mem_append_right _ (List.mem_of_getElem? (i := 464) (by decide +kernel))) rfl
theorem mw_465 : (Cond.code (⟨"StoryMachine$Routines", "clear", "()V"⟩) prog_9_method_2_code 1 none) ∈ tw_tbl := tw_mem (List.mem_append_right _ (List.mem_of_getElem? (i := 465) (by decide +kernel))) rfl
theorem mw_466 : (Cond.methodLink "StoryMachine$Engine" 97 (⟨"StoryMachine$Line", "clear", "()V"⟩)) ∈ tw_tbl := tw_mem (List.mem_append_right _ (List.mem_of_getElem? (i := 466) (by decide +kernel))) rfl
theorem mw_467 : (Cond.instanceMethod (⟨"StoryMachine$Line", "clear", "()V"⟩)) ∈ tw_tbl := tw_mem (List.mem_append_right _ (List.mem_of_getElem? (i := 467) (by decide +kernel))) rfl
theorem mw_468 : (Cond.selects "StoryMachine$Line" (⟨"StoryMachine$Line", "clear", "()V"⟩) (⟨"StoryMachine$Line", "clear", "()V"⟩)) ∈ tw_tbl := tw_mem (List.mem_append_right _ (List.mem_of_getElem? (i := 468) (by decide +kernel))) rfl
theorem mw_469 : (Cond.code (⟨"StoryMachine$Line", "clear", "()V"⟩) prog_6_method_2_code 1 none) ∈ tw_tbl := tw_mem (List.mem_append_right _ (List.mem_of_getElem? (i := 469) (by decide +kernel))) rfl
theorem mw_470 : (Cond.methodLink "StoryMachineLaw" 66 (⟨"StoryMachineLaw", "type", "(LStoryMachine;JI)I"⟩)) ∈ tw_tbl := tw_mem (List.mem_append_right _ (List.mem_of_getElem? (i := 470) (by decide +kernel))) rfl
theorem mw_471 : (Cond.static (⟨"StoryMachineLaw", "type", "(LStoryMachine;JI)I"⟩)) ∈ tw_tbl := tw_mem (List.mem_append_right _ (List.mem_of_getElem? (i := 471) (by decide +kernel))) rfl
theorem mw_472 : (Cond.codeWith (⟨"StoryMachineLaw", "type", "(LStoryMachine;JI)I"⟩) method_6_code 5 (some .int) [(0, 6, 9, 13), (0, 6, 13, 22)]) ∈ tw_tbl := tw_mem (List.mem_append_right _ (List.mem_of_getElem? (i := 472) (by decide +kernel))) rfl
theorem mw_473 : (Cond.methodLink "StoryMachineLaw" 24 (⟨"StoryMachine", "type", "(JI)V"⟩)) ∈ tw_tbl := tw_mem (List.mem_append_right _ (List.mem_of_getElem? (i := 473) (by decide +kernel))) rfl
theorem mw_474 : (Cond.instanceMethod (⟨"StoryMachine", "type", "(JI)V"⟩)) ∈ tw_tbl := tw_mem (List.mem_append_right _ (List.mem_of_getElem? (i := 474) (by decide +kernel))) rfl
theorem mw_475 : (Cond.selects "StoryMachine" (⟨"StoryMachine", "type", "(JI)V"⟩) (⟨"StoryMachine", "type", "(JI)V"⟩)) ∈ tw_tbl := tw_mem (List.mem_append_right _ (List.mem_of_getElem? (i := 475) (by decide +kernel))) rfl
theorem mw_476 : (Cond.code (⟨"StoryMachine", "type", "(JI)V"⟩) prog_1_method_5_code 6 none) ∈ tw_tbl := tw_mem (List.mem_append_right _ (List.mem_of_getElem? (i := 476) (by decide +kernel))) rfl
theorem mw_477 : (Cond.methodLink "StoryMachine" 74 (⟨"StoryMachine$Line", "add", "(I)V"⟩)) ∈ tw_tbl := tw_mem (List.mem_append_right _ (List.mem_of_getElem? (i := 477) (by decide +kernel))) rfl
theorem mw_478 : (Cond.instanceMethod (⟨"StoryMachine$Line", "add", "(I)V"⟩)) ∈ tw_tbl := tw_mem (List.mem_append_right _ (List.mem_of_getElem? (i := 478) (by decide +kernel))) rfl
theorem mw_479 : (Cond.selects "StoryMachine$Line" (⟨"StoryMachine$Line", "add", "(I)V"⟩) (⟨"StoryMachine$Line", "add", "(I)V"⟩)) ∈ tw_tbl := tw_mem (List.mem_append_right _ (List.mem_of_getElem? (i := 479) (by decide +kernel))) rfl
theorem mw_480 : (Cond.code (⟨"StoryMachine$Line", "add", "(I)V"⟩) prog_6_method_3_code 2 none) ∈ tw_tbl := tw_mem (List.mem_append_right _ (List.mem_of_getElem? (i := 480) (by decide +kernel))) rfl
theorem mw_481 : (Cond.methodLink "StoryMachineLaw" 74 (⟨"StoryMachineLaw", "run", "(LStoryMachine;I[J)I"⟩)) ∈ tw_tbl := tw_mem (List.mem_append_right _ (List.mem_of_getElem? (i := 481) (by decide +kernel))) rfl
theorem mw_482 : (Cond.static (⟨"StoryMachineLaw", "run", "(LStoryMachine;I[J)I"⟩)) ∈ tw_tbl := tw_mem (List.mem_append_right _ (List.mem_of_getElem? (i := 482) (by decide +kernel))) rfl
theorem mw_483 : (Cond.codeWith (⟨"StoryMachineLaw", "run", "(LStoryMachine;I[J)I"⟩) method_7_code 4 (some .int) [(0, 9, 12, 13), (0, 9, 15, 22)]) ∈ tw_tbl := tw_mem (List.mem_append_right _ (List.mem_of_getElem? (i := 483) (by decide +kernel))) rfl
theorem mw_484 : (Cond.methodLink "StoryMachineLaw" 28 (⟨"StoryMachine", "run", "(I)I"⟩)) ∈ tw_tbl := tw_mem (List.mem_append_right _ (List.mem_of_getElem? (i := 484) (by decide +kernel))) rfl
theorem mw_485 : (Cond.instanceMethod (⟨"StoryMachine", "run", "(I)I"⟩)) ∈ tw_tbl := tw_mem (List.mem_append_right _ (List.mem_of_getElem? (i := 485) (by decide +kernel))) rfl
theorem mw_486 : (Cond.selects "StoryMachine" (⟨"StoryMachine", "run", "(I)I"⟩) (⟨"StoryMachine", "run", "(I)I"⟩)) ∈ tw_tbl := tw_mem (List.mem_append_right _ (List.mem_of_getElem? (i := 486) (by decide +kernel))) rfl
theorem mw_487 : (Cond.code (⟨"StoryMachine", "run", "(I)I"⟩) prog_1_method_7_code 4 (some .int)) ∈ tw_tbl := tw_mem (List.mem_append_right _ (List.mem_of_getElem? (i := 487) (by decide +kernel))) rfl
theorem mw_488 : (Cond.methodLink "StoryMachine" 84 (⟨"StoryMachine$Engine", "tryStep", "()I"⟩)) ∈ tw_tbl := tw_mem (List.mem_append_right _ (List.mem_of_getElem? (i := 488) (by decide +kernel))) rfl
theorem mw_489 : (Cond.instanceMethod (⟨"StoryMachine$Engine", "tryStep", "()I"⟩)) ∈ tw_tbl := tw_mem (List.mem_append_right _ (List.mem_of_getElem? (i := 489) (by decide +kernel))) rfl
theorem mw_490 : (Cond.selects "StoryMachine$Engine" (⟨"StoryMachine$Engine", "tryStep", "()I"⟩) (⟨"StoryMachine$Engine", "tryStep", "()I"⟩)) ∈ tw_tbl := tw_mem (List.mem_append_right _ (List.mem_of_getElem? (i := 490) (by decide +kernel))) rfl
theorem mw_491 : (Cond.codeWith (⟨"StoryMachine$Engine", "tryStep", "()I"⟩) prog_4_method_3_code 3 (some .int) [(8, 115, 118, 134), (8, 115, 126, 136), (8, 115, 134, 138), (8, 115, 142, 140)]) ∈ tw_tbl := tw_mem (List.mem_append_right _ (List.mem_of_getElem? (i := 491) (by decide +kernel))) rfl
theorem mw_492 : (Cond.classLink "StoryMachine$Engine" 134 "java/lang/IllegalArgumentException") ∈ tw_tbl := tw_mem (List.mem_append_right _ (List.mem_of_getElem? (i := 492) (by decide +kernel))) rfl
theorem mw_493 : (Cond.classLink "StoryMachine$Engine" 136 "java/lang/IllegalStateException") ∈ tw_tbl := tw_mem (List.mem_append_right _ (List.mem_of_getElem? (i := 493) (by decide +kernel))) rfl
theorem mw_494 : (Cond.classLink "StoryMachine$Engine" 138 "java/lang/ArithmeticException") ∈ tw_tbl := tw_mem (List.mem_append_right _ (List.mem_of_getElem? (i := 494) (by decide +kernel))) rfl
theorem mw_495 : (Cond.classLink "StoryMachine$Engine" 140 "java/lang/UnsupportedOperationException") ∈ tw_tbl := tw_mem (List.mem_append_right _ (List.mem_of_getElem? (i := 495) (by decide +kernel))) rfl
theorem mw_496 : (Cond.methodLink "StoryMachine$Engine" 106 (⟨"StoryMachine$Instruction", "decode", "(IZ)V"⟩)) ∈ tw_tbl := tw_mem (List.mem_append_right _ (List.mem_of_getElem? (i := 496) (by decide +kernel))) rfl
theorem mw_497 : (Cond.instanceMethod (⟨"StoryMachine$Instruction", "decode", "(IZ)V"⟩)) ∈ tw_tbl := tw_mem (List.mem_append_right _ (List.mem_of_getElem? (i := 497) (by decide +kernel))) rfl
theorem mw_498 : (Cond.selects "StoryMachine$Instruction" (⟨"StoryMachine$Instruction", "decode", "(IZ)V"⟩) (⟨"StoryMachine$Instruction", "decode", "(IZ)V"⟩)) ∈ tw_tbl := tw_mem (List.mem_append_right _ (List.mem_of_getElem? (i := 498) (by decide +kernel))) rfl
theorem mw_499 : (Cond.code (⟨"StoryMachine$Instruction", "decode", "(IZ)V"⟩) prog_5_method_4_code 4 none) ∈ tw_tbl := tw_mem (List.mem_append_right _ (List.mem_of_getElem? (i := 499) (by decide +kernel))) rfl
theorem mw_500 : (Cond.methodLink "StoryMachine$Instruction" 28 (⟨"StoryMachine$Instruction", "decodeHead", "()I"⟩)) ∈ tw_tbl := tw_mem (List.mem_append_right _ (List.mem_of_getElem? (i := 500) (by decide +kernel))) rfl
theorem mw_502 : (Cond.instanceMethod (⟨"StoryMachine$Instruction", "decodeHead", "()I"⟩)) ∈ tw_tbl := tw_mem (List.mem_append_right _ (List.mem_of_getElem? (i := 502) (by decide +kernel))) rfl
theorem mw_503 : (Cond.code (⟨"StoryMachine$Instruction", "decodeHead", "()I"⟩) prog_5_method_5_code 4 (some .int)) ∈ tw_tbl := tw_mem (List.mem_append_right _ (List.mem_of_getElem? (i := 503) (by decide +kernel))) rfl
theorem mw_504 : (Cond.methodLink "StoryMachine$Instruction" 61 (⟨"StoryMachine$Instruction", "nextByte", "()I"⟩)) ∈ tw_tbl := tw_mem (List.mem_append_right _ (List.mem_of_getElem? (i := 504) (by decide +kernel))) rfl
theorem mw_506 : (Cond.instanceMethod (⟨"StoryMachine$Instruction", "nextByte", "()I"⟩)) ∈ tw_tbl := tw_mem (List.mem_append_right _ (List.mem_of_getElem? (i := 506) (by decide +kernel))) rfl
theorem mw_507 : (Cond.code (⟨"StoryMachine$Instruction", "nextByte", "()I"⟩) prog_5_method_11_code 2 (some .int)) ∈ tw_tbl := tw_mem (List.mem_append_right _ (List.mem_of_getElem? (i := 507) (by decide +kernel))) rfl
theorem mw_508 : (Cond.methodLink "StoryMachine$Instruction" 110 (⟨"StoryMachine$Memory", "byteAt", "(I)I"⟩)) ∈ tw_tbl := tw_mem (List.mem_append_right _ (List.mem_of_getElem? (i := 508) (by decide +kernel))) rfl
theorem mw_509 : (Cond.instanceMethod (⟨"StoryMachine$Memory", "byteAt", "(I)I"⟩)) ∈ tw_tbl := tw_mem (List.mem_append_right _ (List.mem_of_getElem? (i := 509) (by decide +kernel))) rfl
theorem mw_510 : (Cond.selects "StoryMachine$Memory" (⟨"StoryMachine$Memory", "byteAt", "(I)I"⟩) (⟨"StoryMachine$Memory", "byteAt", "(I)I"⟩)) ∈ tw_tbl := tw_mem (List.mem_append_right _ (List.mem_of_getElem? (i := 510) (by decide +kernel))) rfl
theorem mw_511 : (Cond.code (⟨"StoryMachine$Memory", "byteAt", "(I)I"⟩) prog_7_method_2_code 2 (some .int)) ∈ tw_tbl := tw_mem (List.mem_append_right _ (List.mem_of_getElem? (i := 511) (by decide +kernel))) rfl
theorem mw_512 : (Cond.classLink "StoryMachine$Instruction" 38 "java/lang/UnsupportedOperationException") ∈ tw_tbl := tw_mem (List.mem_append_right _ (List.mem_of_getElem? (i := 512) (by decide +kernel))) rfl
theorem mw_513 : (Cond.instantiable "java/lang/UnsupportedOperationException" 6) ∈ tw_tbl := tw_mem (List.mem_append_right _ (List.mem_of_getElem? (i := 513) (by decide +kernel))) rfl
theorem mw_514 : (Cond.castable "java/lang/UnsupportedOperationException" "java/lang/UnsupportedOperationException") ∈ tw_tbl := tw_mem (List.mem_append_right _ (List.mem_of_getElem? (i := 514) (by decide +kernel))) rfl
theorem mw_515 : (Cond.selects "java/lang/UnsupportedOperationException" (⟨"java/lang/Throwable", "fillInStackTrace", "(I)Ljava/lang/Throwable;"⟩) (⟨"java/lang/Throwable", "fillInStackTrace", "(I)Ljava/lang/Throwable;"⟩)) ∈ tw_tbl := tw_mem (List.mem_append_right _ (List.mem_of_getElem? (i := 515) (by decide +kernel))) rfl
theorem mw_516 : (Cond.lays "java/lang/UnsupportedOperationException" "java/lang/Throwable" "cause" "Ljava/lang/Throwable;") ∈ tw_tbl := tw_mem (List.mem_append_right _ (List.mem_of_getElem? (i := 516) (by decide +kernel))) rfl
theorem mw_517 : (Cond.lays "java/lang/UnsupportedOperationException" "java/lang/Throwable" "stackTrace" "[Ljava/lang/StackTraceElement;") ∈ tw_tbl := tw_mem (List.mem_append_right _ (List.mem_of_getElem? (i := 517) (by decide +kernel))) rfl
theorem mw_518 : (Cond.lays "java/lang/UnsupportedOperationException" "java/lang/Throwable" "suppressedExceptions" "Ljava/util/List;") ∈ tw_tbl := tw_mem (List.mem_append_right _ (List.mem_of_getElem? (i := 518) (by decide +kernel))) rfl
theorem mw_519 : (Cond.lays "java/lang/UnsupportedOperationException" "java/lang/Throwable" "detailMessage" "Ljava/lang/String;") ∈ tw_tbl := tw_mem (List.mem_append_right _ (List.mem_of_getElem? (i := 519) (by decide +kernel))) rfl
theorem mw_520 : (Cond.lays "java/lang/UnsupportedOperationException" "java/lang/Throwable" "backtrace" "Ljava/lang/Object;") ∈ tw_tbl := tw_mem (List.mem_append_right _ (List.mem_of_getElem? (i := 520) (by decide +kernel))) rfl
theorem mw_521 : (Cond.methodLink "StoryMachine$Instruction" 40 (⟨"java/lang/UnsupportedOperationException", "<init>", "()V"⟩)) ∈ tw_tbl := tw_mem (List.mem_append_right _ (List.mem_of_getElem? (i := 521) (by decide +kernel))) rfl
theorem mw_522 : (Cond.instanceMethod (⟨"java/lang/UnsupportedOperationException", "<init>", "()V"⟩)) ∈ tw_tbl := tw_mem (List.mem_append_right _ (List.mem_of_getElem? (i := 522) (by decide +kernel))) rfl
theorem mw_523 : (Cond.code (⟨"java/lang/UnsupportedOperationException", "<init>", "()V"⟩) prog_27_method_1_code 1 none) ∈ tw_tbl := tw_mem (List.mem_append_right _ (List.mem_of_getElem? (i := 523) (by decide +kernel))) rfl
theorem mw_524 : (Cond.methodLink "java/lang/UnsupportedOperationException" 1 (⟨"java/lang/RuntimeException", "<init>", "()V"⟩)) ∈ tw_tbl := tw_mem (List.mem_append_right _ (List.mem_of_getElem? (i := 524) (by decide +kernel))) rfl
theorem mw_527 : (Cond.methodLink "StoryMachine$Instruction" 41 (⟨"StoryMachine$Instruction", "readNumbers", "(I)V"⟩)) ∈ tw_tbl := tw_mem (List.mem_append_right _ (List.mem_of_getElem? (i := 527) (by decide +kernel))) rfl
theorem mw_529 : (Cond.instanceMethod (⟨"StoryMachine$Instruction", "readNumbers", "(I)V"⟩)) ∈ tw_tbl := tw_mem (List.mem_append_right _ (List.mem_of_getElem? (i := 529) (by decide +kernel))) rfl
theorem mw_530 : (Cond.code (⟨"StoryMachine$Instruction", "readNumbers", "(I)V"⟩) prog_5_method_6_code 4 none) ∈ tw_tbl := tw_mem (List.mem_append_right _ (List.mem_of_getElem? (i := 530) (by decide +kernel))) rfl
theorem mw_531 : (Cond.methodLink "StoryMachine$Instruction" 73 (⟨"StoryMachine$Instruction", "readNumber", "(I)I"⟩)) ∈ tw_tbl := tw_mem (List.mem_append_right _ (List.mem_of_getElem? (i := 531) (by decide +kernel))) rfl
theorem mw_533 : (Cond.instanceMethod (⟨"StoryMachine$Instruction", "readNumber", "(I)I"⟩)) ∈ tw_tbl := tw_mem (List.mem_append_right _ (List.mem_of_getElem? (i := 533) (by decide +kernel))) rfl
theorem mw_534 : (Cond.code (⟨"StoryMachine$Instruction", "readNumber", "(I)I"⟩) prog_5_method_7_code 3 (some .int)) ∈ tw_tbl := tw_mem (List.mem_append_right _ (List.mem_of_getElem? (i := 534) (by decide +kernel))) rfl
theorem mw_535 : (Cond.methodLink "StoryMachine$Instruction" 77 (⟨"StoryMachine$Variables", "read", "(IZ)I"⟩)) ∈ tw_tbl := tw_mem (List.mem_append_right _ (List.mem_of_getElem? (i := 535) (by decide +kernel))) rfl
theorem mw_536 : (Cond.instanceMethod (⟨"StoryMachine$Variables", "read", "(IZ)I"⟩)) ∈ tw_tbl := tw_mem (List.mem_append_right _ (List.mem_of_getElem? (i := 536) (by decide +kernel))) rfl
theorem mw_537 : (Cond.selects "StoryMachine$Variables" (⟨"StoryMachine$Variables", "read", "(IZ)I"⟩) (⟨"StoryMachine$Variables", "read", "(IZ)I"⟩)) ∈ tw_tbl := tw_mem (List.mem_append_right _ (List.mem_of_getElem? (i := 537) (by decide +kernel))) rfl
theorem mw_538 : (Cond.code (⟨"StoryMachine$Variables", "read", "(IZ)I"⟩) prog_11_method_2_code 3 (some .int)) ∈ tw_tbl := tw_mem (List.mem_append_right _ (List.mem_of_getElem? (i := 538) (by decide +kernel))) rfl
theorem mw_539 : (Cond.methodLink "StoryMachine$Variables" 17 (⟨"StoryMachine$Routines", "top", "()I"⟩)) ∈ tw_tbl := tw_mem (List.mem_append_right _ (List.mem_of_getElem? (i := 539) (by decide +kernel))) rfl
theorem mw_540 : (Cond.instanceMethod (⟨"StoryMachine$Routines", "top", "()I"⟩)) ∈ tw_tbl := tw_mem (List.mem_append_right _ (List.mem_of_getElem? (i := 540) (by decide +kernel))) rfl
theorem mw_541 : (Cond.selects "StoryMachine$Routines" (⟨"StoryMachine$Routines", "top", "()I"⟩) (⟨"StoryMachine$Routines", "top", "()I"⟩)) ∈ tw_tbl := tw_mem (List.mem_append_right _ (List.mem_of_getElem? (i := 541) (by decide +kernel))) rfl
theorem mw_542 : (Cond.code (⟨"StoryMachine$Routines", "top", "()I"⟩) prog_9_method_5_code 1 (some .int)) ∈ tw_tbl := tw_mem (List.mem_append_right _ (List.mem_of_getElem? (i := 542) (by decide +kernel))) rfl
theorem mw_543 : (Cond.classLink "StoryMachine$Routines" 35 "java/lang/IllegalStateException") ∈ tw_tbl := tw_mem (List.mem_append_right _ (List.mem_of_getElem? (i := 543) (by decide +kernel))) rfl
theorem mw_544 : (Cond.methodLink "StoryMachine$Routines" 37 (⟨"java/lang/IllegalStateException", "<init>", "()V"⟩)) ∈ tw_tbl := tw_mem (List.mem_append_right _ (List.mem_of_getElem? (i := 544) (by decide +kernel))) rfl
theorem mw_545 : (Cond.methodLink "StoryMachine$Variables" 23 (⟨"StoryMachine$Routines", "pop", "()I"⟩)) ∈ tw_tbl := tw_mem (List.mem_append_right _ (List.mem_of_getElem? (i := 545) (by decide +kernel))) rfl
theorem mw_546 : (Cond.instanceMethod (⟨"StoryMachine$Routines", "pop", "()I"⟩)) ∈ tw_tbl := tw_mem (List.mem_append_right _ (List.mem_of_getElem? (i := 546) (by decide +kernel))) rfl
theorem mw_547 : (Cond.selects "StoryMachine$Routines" (⟨"StoryMachine$Routines", "pop", "()I"⟩) (⟨"StoryMachine$Routines", "pop", "()I"⟩)) ∈ tw_tbl := tw_mem (List.mem_append_right _ (List.mem_of_getElem? (i := 547) (by decide +kernel))) rfl
theorem mw_548 : (Cond.code (⟨"StoryMachine$Routines", "pop", "()I"⟩) prog_9_method_4_code 2 (some .int)) ∈ tw_tbl := tw_mem (List.mem_append_right _ (List.mem_of_getElem? (i := 548) (by decide +kernel))) rfl
theorem mw_549 : (Cond.methodLink "StoryMachine$Routines" 39 (⟨"StoryMachine$Routines", "top", "()I"⟩)) ∈ tw_tbl := tw_mem (List.mem_append_right _ (List.mem_of_getElem? (i := 549) (by decide +kernel))) rfl
theorem mw_550 : (Cond.methodLink "StoryMachine$Variables" 26 (⟨"StoryMachine$Routines", "localValue", "(I)I"⟩)) ∈ tw_tbl := tw_mem (List.mem_append_right _ (List.mem_of_getElem? (i := 550) (by decide +kernel))) rfl
theorem mw_551 : (Cond.instanceMethod (⟨"StoryMachine$Routines", "localValue", "(I)I"⟩)) ∈ tw_tbl := tw_mem (List.mem_append_right _ (List.mem_of_getElem? (i := 551) (by decide +kernel))) rfl
theorem mw_552 : (Cond.selects "StoryMachine$Routines" (⟨"StoryMachine$Routines", "localValue", "(I)I"⟩) (⟨"StoryMachine$Routines", "localValue", "(I)I"⟩)) ∈ tw_tbl := tw_mem (List.mem_append_right _ (List.mem_of_getElem? (i := 552) (by decide +kernel))) rfl
theorem mw_553 : (Cond.code (⟨"StoryMachine$Routines", "localValue", "(I)I"⟩) prog_9_method_8_code 2 (some .int)) ∈ tw_tbl := tw_mem (List.mem_append_right _ (List.mem_of_getElem? (i := 553) (by decide +kernel))) rfl
theorem mw_554 : (Cond.classLink "StoryMachine$Routines" 43 "java/lang/IllegalArgumentException") ∈ tw_tbl := tw_mem (List.mem_append_right _ (List.mem_of_getElem? (i := 554) (by decide +kernel))) rfl
theorem mw_555 : (Cond.methodLink "StoryMachine$Routines" 45 (⟨"java/lang/IllegalArgumentException", "<init>", "()V"⟩)) ∈ tw_tbl := tw_mem (List.mem_append_right _ (List.mem_of_getElem? (i := 555) (by decide +kernel))) rfl
theorem mw_556 : (Cond.methodLink "StoryMachine$Variables" 30 (⟨"StoryMachine$Variables", "globalPlace", "(I)I"⟩)) ∈ tw_tbl := tw_mem (List.mem_append_right _ (List.mem_of_getElem? (i := 556) (by decide +kernel))) rfl
theorem mw_558 : (Cond.instanceMethod (⟨"StoryMachine$Variables", "globalPlace", "(I)I"⟩)) ∈ tw_tbl := tw_mem (List.mem_append_right _ (List.mem_of_getElem? (i := 558) (by decide +kernel))) rfl
theorem mw_559 : (Cond.code (⟨"StoryMachine$Variables", "globalPlace", "(I)I"⟩) prog_11_method_4_code 2 (some .int)) ∈ tw_tbl := tw_mem (List.mem_append_right _ (List.mem_of_getElem? (i := 559) (by decide +kernel))) rfl
theorem mw_560 : (Cond.classLink "StoryMachine$Variables" 52 "java/lang/IllegalArgumentException") ∈ tw_tbl := tw_mem (List.mem_append_right _ (List.mem_of_getElem? (i := 560) (by decide +kernel))) rfl
theorem mw_561 : (Cond.methodLink "StoryMachine$Variables" 54 (⟨"java/lang/IllegalArgumentException", "<init>", "()V"⟩)) ∈ tw_tbl := tw_mem (List.mem_append_right _ (List.mem_of_getElem? (i := 561) (by decide +kernel))) rfl
theorem mw_562 : (Cond.methodLink "StoryMachine$Variables" 33 (⟨"StoryMachine$Memory", "wordAt", "(I)I"⟩)) ∈ tw_tbl := tw_mem (List.mem_append_right _ (List.mem_of_getElem? (i := 562) (by decide +kernel))) rfl
theorem mw_563 : (Cond.methodLink "StoryMachine$Instruction" 83 (⟨"StoryMachine$Memory", "wordAt", "(I)I"⟩)) ∈ tw_tbl := tw_mem (List.mem_append_right _ (List.mem_of_getElem? (i := 563) (by decide +kernel))) rfl
theorem mw_564 : (Cond.methodLink "StoryMachine$Instruction" 45 (⟨"StoryMachine$Instruction", "formOf", "()I"⟩)) ∈ tw_tbl := tw_mem (List.mem_append_right _ (List.mem_of_getElem? (i := 564) (by decide +kernel))) rfl
theorem mw_566 : (Cond.instanceMethod (⟨"StoryMachine$Instruction", "formOf", "()I"⟩)) ∈ tw_tbl := tw_mem (List.mem_append_right _ (List.mem_of_getElem? (i := 566) (by decide +kernel))) rfl
theorem mw_567 : (Cond.code (⟨"StoryMachine$Instruction", "formOf", "()I"⟩) prog_5_method_8_code 1 (some .int)) ∈ tw_tbl := tw_mem (List.mem_append_right _ (List.mem_of_getElem? (i := 567) (by decide +kernel))) rfl
theorem mw_568 : (Cond.fieldLink "StoryMachine$Instruction" 88 "StoryMachine$Instruction" "FORMS_OF_NONE" "[I") ∈ tw_tbl := tw_mem (List.mem_append_right _ (List.mem_of_getElem? (i := 568) (by decide +kernel))) rfl
theorem mw_570 : (Cond.fieldLink "StoryMachine$Instruction" 91 "StoryMachine$Instruction" "FORMS_OF_FIRST" "[I") ∈ tw_tbl := tw_mem (List.mem_append_right _ (List.mem_of_getElem? (i := 570) (by decide +kernel))) rfl
theorem mw_572 : (Cond.fieldLink "StoryMachine$Instruction" 94 "StoryMachine$Instruction" "FORMS_OF_SECOND" "[I") ∈ tw_tbl := tw_mem (List.mem_append_right _ (List.mem_of_getElem? (i := 572) (by decide +kernel))) rfl
theorem mw_574 : (Cond.fieldLink "StoryMachine$Instruction" 97 "StoryMachine$Instruction" "FORMS_OF_MANY" "[I") ∈ tw_tbl := tw_mem (List.mem_append_right _ (List.mem_of_getElem? (i := 574) (by decide +kernel))) rfl
theorem mw_576 : (Cond.methodLink "StoryMachine$Instruction" 51 (⟨"StoryMachine$Instruction", "needed", "()I"⟩)) ∈ tw_tbl := tw_mem (List.mem_append_right _ (List.mem_of_getElem? (i := 576) (by decide +kernel))) rfl
theorem mw_578 : (Cond.instanceMethod (⟨"StoryMachine$Instruction", "needed", "()I"⟩)) ∈ tw_tbl := tw_mem (List.mem_append_right _ (List.mem_of_getElem? (i := 578) (by decide +kernel))) rfl
theorem mw_579 : (Cond.code (⟨"StoryMachine$Instruction", "needed", "()I"⟩) prog_5_method_9_code 1 (some .int)) ∈ tw_tbl := tw_mem (List.mem_append_right _ (List.mem_of_getElem? (i := 579) (by decide +kernel))) rfl
theorem mw_580 : (Cond.fieldLink "StoryMachine$Instruction" 100 "StoryMachine$Instruction" "NEEDS_OF_MANY" "[I") ∈ tw_tbl := tw_mem (List.mem_append_right _ (List.mem_of_getElem? (i := 580) (by decide +kernel))) rfl
theorem mw_582 : (Cond.classLink "StoryMachine$Instruction" 54 "java/lang/IllegalArgumentException") ∈ tw_tbl := tw_mem (List.mem_append_right _ (List.mem_of_getElem? (i := 582) (by decide +kernel))) rfl
theorem mw_583 : (Cond.methodLink "StoryMachine$Instruction" 56 (⟨"java/lang/IllegalArgumentException", "<init>", "()V"⟩)) ∈ tw_tbl := tw_mem (List.mem_append_right _ (List.mem_of_getElem? (i := 583) (by decide +kernel))) rfl
theorem mw_584 : (Cond.methodLink "StoryMachine$Instruction" 57 (⟨"StoryMachine$Instruction", "gives", "()Z"⟩)) ∈ tw_tbl := tw_mem (List.mem_append_right _ (List.mem_of_getElem? (i := 584) (by decide +kernel))) rfl
theorem mw_585 : (Cond.instanceMethod (⟨"StoryMachine$Instruction", "gives", "()Z"⟩)) ∈ tw_tbl := tw_mem (List.mem_append_right _ (List.mem_of_getElem? (i := 585) (by decide +kernel))) rfl
theorem mw_586 : (Cond.selects "StoryMachine$Instruction" (⟨"StoryMachine$Instruction", "gives", "()Z"⟩) (⟨"StoryMachine$Instruction", "gives", "()Z"⟩)) ∈ tw_tbl := tw_mem (List.mem_append_right _ (List.mem_of_getElem? (i := 586) (by decide +kernel))) rfl
theorem mw_587 : (Cond.code (⟨"StoryMachine$Instruction", "gives", "()Z"⟩) prog_5_method_2_code 1 (some .boolean)) ∈ tw_tbl := tw_mem (List.mem_append_right _ (List.mem_of_getElem? (i := 587) (by decide +kernel))) rfl
theorem mw_588 : (Cond.methodLink "StoryMachine$Instruction" 67 (⟨"StoryMachine$Instruction", "branches", "()Z"⟩)) ∈ tw_tbl := tw_mem (List.mem_append_right _ (List.mem_of_getElem? (i := 588) (by decide +kernel))) rfl
theorem mw_589 : (Cond.instanceMethod (⟨"StoryMachine$Instruction", "branches", "()Z"⟩)) ∈ tw_tbl := tw_mem (List.mem_append_right _ (List.mem_of_getElem? (i := 589) (by decide +kernel))) rfl
theorem mw_590 : (Cond.selects "StoryMachine$Instruction" (⟨"StoryMachine$Instruction", "branches", "()Z"⟩) (⟨"StoryMachine$Instruction", "branches", "()Z"⟩)) ∈ tw_tbl := tw_mem (List.mem_append_right _ (List.mem_of_getElem? (i := 590) (by decide +kernel))) rfl
theorem mw_591 : (Cond.code (⟨"StoryMachine$Instruction", "branches", "()Z"⟩) prog_5_method_3_code 1 (some .boolean)) ∈ tw_tbl := tw_mem (List.mem_append_right _ (List.mem_of_getElem? (i := 591) (by decide +kernel))) rfl
theorem mw_592 : (Cond.methodLink "StoryMachine$Instruction" 70 (⟨"StoryMachine$Instruction", "readBranch", "()V"⟩)) ∈ tw_tbl := tw_mem (List.mem_append_right _ (List.mem_of_getElem? (i := 592) (by decide +kernel))) rfl
theorem mw_594 : (Cond.instanceMethod (⟨"StoryMachine$Instruction", "readBranch", "()V"⟩)) ∈ tw_tbl := tw_mem (List.mem_append_right _ (List.mem_of_getElem? (i := 594) (by decide +kernel))) rfl
theorem mw_595 : (Cond.code (⟨"StoryMachine$Instruction", "readBranch", "()V"⟩) prog_5_method_10_code 2 none) ∈ tw_tbl := tw_mem (List.mem_append_right _ (List.mem_of_getElem? (i := 595) (by decide +kernel))) rfl
theorem mw_596 : (Cond.methodLink "StoryMachine$Engine" 119 (⟨"StoryMachine$Engine", "doNone", "()V"⟩)) ∈ tw_tbl := tw_mem (List.mem_append_right _ (List.mem_of_getElem? (i := 596) (by decide +kernel))) rfl
theorem mw_598 : (Cond.instanceMethod (⟨"StoryMachine$Engine", "doNone", "()V"⟩)) ∈ tw_tbl := tw_mem (List.mem_append_right _ (List.mem_of_getElem? (i := 598) (by decide +kernel))) rfl
theorem mw_599 : (Cond.code (⟨"StoryMachine$Engine", "doNone", "()V"⟩) prog_4_method_4_code 1 none) ∈ tw_tbl := tw_mem (List.mem_append_right _ (List.mem_of_getElem? (i := 599) (by decide +kernel))) rfl
theorem mw_600 : (Cond.methodLink "StoryMachine$Engine" 145 (⟨"StoryMachine$Engine", "returnWith", "(I)V"⟩)) ∈ tw_tbl := tw_mem (List.mem_append_right _ (List.mem_of_getElem? (i := 600) (by decide +kernel))) rfl
theorem mw_602 : (Cond.instanceMethod (⟨"StoryMachine$Engine", "returnWith", "(I)V"⟩)) ∈ tw_tbl := tw_mem (List.mem_append_right _ (List.mem_of_getElem? (i := 602) (by decide +kernel))) rfl
theorem mw_603 : (Cond.code (⟨"StoryMachine$Engine", "returnWith", "(I)V"⟩) prog_4_method_16_code 3 none) ∈ tw_tbl := tw_mem (List.mem_append_right _ (List.mem_of_getElem? (i := 603) (by decide +kernel))) rfl
theorem mw_604 : (Cond.methodLink "StoryMachine$Engine" 297 (⟨"StoryMachine$Routines", "result", "()I"⟩)) ∈ tw_tbl := tw_mem (List.mem_append_right _ (List.mem_of_getElem? (i := 604) (by decide +kernel))) rfl
theorem mw_605 : (Cond.instanceMethod (⟨"StoryMachine$Routines", "result", "()I"⟩)) ∈ tw_tbl := tw_mem (List.mem_append_right _ (List.mem_of_getElem? (i := 605) (by decide +kernel))) rfl
theorem mw_606 : (Cond.selects "StoryMachine$Routines" (⟨"StoryMachine$Routines", "result", "()I"⟩) (⟨"StoryMachine$Routines", "result", "()I"⟩)) ∈ tw_tbl := tw_mem (List.mem_append_right _ (List.mem_of_getElem? (i := 606) (by decide +kernel))) rfl
theorem mw_607 : (Cond.code (⟨"StoryMachine$Routines", "result", "()I"⟩) prog_9_method_13_code 1 (some .int)) ∈ tw_tbl := tw_mem (List.mem_append_right _ (List.mem_of_getElem? (i := 607) (by decide +kernel))) rfl
theorem mw_608 : (Cond.methodLink "StoryMachine$Engine" 299 (⟨"StoryMachine$Routines", "behind", "()I"⟩)) ∈ tw_tbl := tw_mem (List.mem_append_right _ (List.mem_of_getElem? (i := 608) (by decide +kernel))) rfl
theorem mw_609 : (Cond.instanceMethod (⟨"StoryMachine$Routines", "behind", "()I"⟩)) ∈ tw_tbl := tw_mem (List.mem_append_right _ (List.mem_of_getElem? (i := 609) (by decide +kernel))) rfl
theorem mw_610 : (Cond.selects "StoryMachine$Routines" (⟨"StoryMachine$Routines", "behind", "()I"⟩) (⟨"StoryMachine$Routines", "behind", "()I"⟩)) ∈ tw_tbl := tw_mem (List.mem_append_right _ (List.mem_of_getElem? (i := 610) (by decide +kernel))) rfl
theorem mw_611 : (Cond.code (⟨"StoryMachine$Routines", "behind", "()I"⟩) prog_9_method_12_code 1 (some .int)) ∈ tw_tbl := tw_mem (List.mem_append_right _ (List.mem_of_getElem? (i := 611) (by decide +kernel))) rfl
theorem mw_612 : (Cond.methodLink "StoryMachine$Engine" 301 (⟨"StoryMachine$Routines", "close", "()V"⟩)) ∈ tw_tbl := tw_mem (List.mem_append_right _ (List.mem_of_getElem? (i := 612) (by decide +kernel))) rfl
theorem mw_613 : (Cond.instanceMethod (⟨"StoryMachine$Routines", "close", "()V"⟩)) ∈ tw_tbl := tw_mem (List.mem_append_right _ (List.mem_of_getElem? (i := 613) (by decide +kernel))) rfl
theorem mw_614 : (Cond.selects "StoryMachine$Routines" (⟨"StoryMachine$Routines", "close", "()V"⟩) (⟨"StoryMachine$Routines", "close", "()V"⟩)) ∈ tw_tbl := tw_mem (List.mem_append_right _ (List.mem_of_getElem? (i := 614) (by decide +kernel))) rfl
theorem mw_615 : (Cond.code (⟨"StoryMachine$Routines", "close", "()V"⟩) prog_9_method_14_code 1 none) ∈ tw_tbl := tw_mem (List.mem_append_right _ (List.mem_of_getElem? (i := 615) (by decide +kernel))) rfl
theorem mw_616 : (Cond.methodLink "StoryMachine$Engine" 181 (⟨"StoryMachine$Variables", "write", "(IIZ)V"⟩)) ∈ tw_tbl := tw_mem (List.mem_append_right _ (List.mem_of_getElem? (i := 616) (by decide +kernel))) rfl
theorem mw_617 : (Cond.instanceMethod (⟨"StoryMachine$Variables", "write", "(IIZ)V"⟩)) ∈ tw_tbl := tw_mem (List.mem_append_right _ (List.mem_of_getElem? (i := 617) (by decide +kernel))) rfl
theorem mw_618 : (Cond.selects "StoryMachine$Variables" (⟨"StoryMachine$Variables", "write", "(IIZ)V"⟩) (⟨"StoryMachine$Variables", "write", "(IIZ)V"⟩)) ∈ tw_tbl := tw_mem (List.mem_append_right _ (List.mem_of_getElem? (i := 618) (by decide +kernel))) rfl
theorem mw_619 : (Cond.code (⟨"StoryMachine$Variables", "write", "(IIZ)V"⟩) prog_11_method_3_code 4 none) ∈ tw_tbl := tw_mem (List.mem_append_right _ (List.mem_of_getElem? (i := 619) (by decide +kernel))) rfl
theorem mw_620 : (Cond.methodLink "StoryMachine$Variables" 38 (⟨"StoryMachine$Routines", "replaceTop", "(I)V"⟩)) ∈ tw_tbl := tw_mem (List.mem_append_right _ (List.mem_of_getElem? (i := 620) (by decide +kernel))) rfl
theorem mw_621 : (Cond.instanceMethod (⟨"StoryMachine$Routines", "replaceTop", "(I)V"⟩)) ∈ tw_tbl := tw_mem (List.mem_append_right _ (List.mem_of_getElem? (i := 621) (by decide +kernel))) rfl
theorem mw_622 : (Cond.selects "StoryMachine$Routines" (⟨"StoryMachine$Routines", "replaceTop", "(I)V"⟩) (⟨"StoryMachine$Routines", "replaceTop", "(I)V"⟩)) ∈ tw_tbl := tw_mem (List.mem_append_right _ (List.mem_of_getElem? (i := 622) (by decide +kernel))) rfl
theorem mw_623 : (Cond.code (⟨"StoryMachine$Routines", "replaceTop", "(I)V"⟩) prog_9_method_6_code 2 none) ∈ tw_tbl := tw_mem (List.mem_append_right _ (List.mem_of_getElem? (i := 623) (by decide +kernel))) rfl
theorem mw_624 : (Cond.constant "StoryMachine$Routines" 38 (65535 : Int32)) ∈ tw_tbl := tw_mem (List.mem_append_right _ (List.mem_of_getElem? (i := 624) (by decide +kernel))) rfl
theorem mw_625 : (Cond.methodLink "StoryMachine$Variables" 42 (⟨"StoryMachine$Routines", "push", "(I)V"⟩)) ∈ tw_tbl := tw_mem (List.mem_append_right _ (List.mem_of_getElem? (i := 625) (by decide +kernel))) rfl
theorem mw_626 : (Cond.instanceMethod (⟨"StoryMachine$Routines", "push", "(I)V"⟩)) ∈ tw_tbl := tw_mem (List.mem_append_right _ (List.mem_of_getElem? (i := 626) (by decide +kernel))) rfl
theorem mw_627 : (Cond.selects "StoryMachine$Routines" (⟨"StoryMachine$Routines", "push", "(I)V"⟩) (⟨"StoryMachine$Routines", "push", "(I)V"⟩)) ∈ tw_tbl := tw_mem (List.mem_append_right _ (List.mem_of_getElem? (i := 627) (by decide +kernel))) rfl
theorem mw_628 : (Cond.code (⟨"StoryMachine$Routines", "push", "(I)V"⟩) prog_9_method_3_code 2 none) ∈ tw_tbl := tw_mem (List.mem_append_right _ (List.mem_of_getElem? (i := 628) (by decide +kernel))) rfl
theorem mw_629 : (Cond.methodLink "StoryMachine$Variables" 45 (⟨"StoryMachine$Routines", "setLocal", "(II)V"⟩)) ∈ tw_tbl := tw_mem (List.mem_append_right _ (List.mem_of_getElem? (i := 629) (by decide +kernel))) rfl
theorem mw_630 : (Cond.instanceMethod (⟨"StoryMachine$Routines", "setLocal", "(II)V"⟩)) ∈ tw_tbl := tw_mem (List.mem_append_right _ (List.mem_of_getElem? (i := 630) (by decide +kernel))) rfl
theorem mw_631 : (Cond.selects "StoryMachine$Routines" (⟨"StoryMachine$Routines", "setLocal", "(II)V"⟩) (⟨"StoryMachine$Routines", "setLocal", "(II)V"⟩)) ∈ tw_tbl := tw_mem (List.mem_append_right _ (List.mem_of_getElem? (i := 631) (by decide +kernel))) rfl
theorem mw_632 : (Cond.code (⟨"StoryMachine$Routines", "setLocal", "(II)V"⟩) prog_9_method_9_code 3 none) ∈ tw_tbl := tw_mem (List.mem_append_right _ (List.mem_of_getElem? (i := 632) (by decide +kernel))) rfl
theorem mw_633 : (Cond.methodLink "StoryMachine$Variables" 49 (⟨"StoryMachine$Memory", "writeWord", "(II)V"⟩)) ∈ tw_tbl := tw_mem (List.mem_append_right _ (List.mem_of_getElem? (i := 633) (by decide +kernel))) rfl
theorem mw_634 : (Cond.instanceMethod (⟨"StoryMachine$Memory", "writeWord", "(II)V"⟩)) ∈ tw_tbl := tw_mem (List.mem_append_right _ (List.mem_of_getElem? (i := 634) (by decide +kernel))) rfl
theorem mw_635 : (Cond.selects "StoryMachine$Memory" (⟨"StoryMachine$Memory", "writeWord", "(II)V"⟩) (⟨"StoryMachine$Memory", "writeWord", "(II)V"⟩)) ∈ tw_tbl := tw_mem (List.mem_append_right _ (List.mem_of_getElem? (i := 635) (by decide +kernel))) rfl
theorem mw_636 : (Cond.code (⟨"StoryMachine$Memory", "writeWord", "(II)V"⟩) prog_7_method_5_code 3 none) ∈ tw_tbl := tw_mem (List.mem_append_right _ (List.mem_of_getElem? (i := 636) (by decide +kernel))) rfl
theorem mw_637 : (Cond.methodLink "StoryMachine$Memory" 16 (⟨"StoryMachine$Memory", "mayWrite", "(II)Z"⟩)) ∈ tw_tbl := tw_mem (List.mem_append_right _ (List.mem_of_getElem? (i := 637) (by decide +kernel))) rfl
theorem mw_639 : (Cond.instanceMethod (⟨"StoryMachine$Memory", "mayWrite", "(II)Z"⟩)) ∈ tw_tbl := tw_mem (List.mem_append_right _ (List.mem_of_getElem? (i := 639) (by decide +kernel))) rfl
theorem mw_640 : (Cond.code (⟨"StoryMachine$Memory", "mayWrite", "(II)Z"⟩) prog_7_method_6_code 4 (some .boolean)) ∈ tw_tbl := tw_mem (List.mem_append_right _ (List.mem_of_getElem? (i := 640) (by decide +kernel))) rfl
theorem mw_641 : (Cond.methodLink "StoryMachine$Engine" 148 (⟨"StoryMachine$Printer", "putText", "(I)I"⟩)) ∈ tw_tbl := tw_mem (List.mem_append_right _ (List.mem_of_getElem? (i := 641) (by decide +kernel))) rfl
theorem mw_642 : (Cond.instanceMethod (⟨"StoryMachine$Printer", "putText", "(I)I"⟩)) ∈ tw_tbl := tw_mem (List.mem_append_right _ (List.mem_of_getElem? (i := 642) (by decide +kernel))) rfl
theorem mw_643 : (Cond.selects "StoryMachine$Printer" (⟨"StoryMachine$Printer", "putText", "(I)I"⟩) (⟨"StoryMachine$Printer", "putText", "(I)I"⟩)) ∈ tw_tbl := tw_mem (List.mem_append_right _ (List.mem_of_getElem? (i := 643) (by decide +kernel))) rfl
theorem mw_644 : (Cond.code (⟨"StoryMachine$Printer", "putText", "(I)I"⟩) prog_8_method_5_code 4 (some .int)) ∈ tw_tbl := tw_mem (List.mem_append_right _ (List.mem_of_getElem? (i := 644) (by decide +kernel))) rfl
theorem mw_645 : (Cond.methodLink "StoryMachine$Printer" 36 (⟨"StoryMachine$Memory", "wordAt", "(I)I"⟩)) ∈ tw_tbl := tw_mem (List.mem_append_right _ (List.mem_of_getElem? (i := 645) (by decide +kernel))) rfl
theorem mw_646 : (Cond.methodLink "StoryMachine$Printer" 39 (⟨"StoryMachine$Printer", "putLetter", "(I)V"⟩)) ∈ tw_tbl := tw_mem (List.mem_append_right _ (List.mem_of_getElem? (i := 646) (by decide +kernel))) rfl
theorem mw_648 : (Cond.instanceMethod (⟨"StoryMachine$Printer", "putLetter", "(I)V"⟩)) ∈ tw_tbl := tw_mem (List.mem_append_right _ (List.mem_of_getElem? (i := 648) (by decide +kernel))) rfl
theorem mw_649 : (Cond.code (⟨"StoryMachine$Printer", "putLetter", "(I)V"⟩) prog_8_method_6_code 3 none) ∈ tw_tbl := tw_mem (List.mem_append_right _ (List.mem_of_getElem? (i := 649) (by decide +kernel))) rfl
theorem mw_650 : (Cond.methodLink "StoryMachine$Printer" 21 (⟨"StoryMachine$Printer", "put", "(I)V"⟩)) ∈ tw_tbl := tw_mem (List.mem_append_right _ (List.mem_of_getElem? (i := 650) (by decide +kernel))) rfl
theorem mw_651 : (Cond.instanceMethod (⟨"StoryMachine$Printer", "put", "(I)V"⟩)) ∈ tw_tbl := tw_mem (List.mem_append_right _ (List.mem_of_getElem? (i := 651) (by decide +kernel))) rfl
theorem mw_652 : (Cond.selects "StoryMachine$Printer" (⟨"StoryMachine$Printer", "put", "(I)V"⟩) (⟨"StoryMachine$Printer", "put", "(I)V"⟩)) ∈ tw_tbl := tw_mem (List.mem_append_right _ (List.mem_of_getElem? (i := 652) (by decide +kernel))) rfl
theorem mw_653 : (Cond.code (⟨"StoryMachine$Printer", "put", "(I)V"⟩) prog_8_method_2_code 2 none) ∈ tw_tbl := tw_mem (List.mem_append_right _ (List.mem_of_getElem? (i := 653) (by decide +kernel))) rfl
theorem mw_654 : (Cond.methodLink "StoryMachine$Printer" 49 (⟨"StoryMachine$Printer", "putOf", "(II)V"⟩)) ∈ tw_tbl := tw_mem (List.mem_append_right _ (List.mem_of_getElem? (i := 654) (by decide +kernel))) rfl
theorem mw_656 : (Cond.instanceMethod (⟨"StoryMachine$Printer", "putOf", "(II)V"⟩)) ∈ tw_tbl := tw_mem (List.mem_append_right _ (List.mem_of_getElem? (i := 656) (by decide +kernel))) rfl
theorem mw_657 : (Cond.code (⟨"StoryMachine$Printer", "putOf", "(II)V"⟩) prog_8_method_7_code 3 none) ∈ tw_tbl := tw_mem (List.mem_append_right _ (List.mem_of_getElem? (i := 657) (by decide +kernel))) rfl
theorem mw_659 : (Cond.methodLink "StoryMachine$Printer" 55 (⟨"java/lang/String", "charAt", "(I)C"⟩)) ∈ tw_tbl := tw_mem (List.mem_append_right _ (List.mem_of_getElem? (i := 659) (by decide +kernel))) rfl
theorem mw_660 : (Cond.instanceMethod (⟨"java/lang/String", "charAt", "(I)C"⟩)) ∈ tw_tbl := tw_mem (List.mem_append_right _ (List.mem_of_getElem? (i := 660) (by decide +kernel))) rfl
theorem mw_661 : (Cond.selects "java/lang/String" (⟨"java/lang/String", "charAt", "(I)C"⟩) (⟨"java/lang/String", "charAt", "(I)C"⟩)) ∈ tw_tbl := tw_mem (List.mem_append_right _ (List.mem_of_getElem? (i := 661) (by decide +kernel))) rfl
theorem mw_662 : (Cond.code (⟨"java/lang/String", "charAt", "(I)C"⟩) prog_22_method_56_code 2 (some .char)) ∈ tw_tbl := tw_mem (List.mem_append_right _ (List.mem_of_getElem? (i := 662) (by decide +kernel))) rfl
theorem mw_663 : (Cond.methodLink "java/lang/String" 492 (⟨"java/lang/String", "isLatin1", "()Z"⟩)) ∈ tw_tbl := tw_mem (List.mem_append_right _ (List.mem_of_getElem? (i := 663) (by decide +kernel))) rfl
theorem mw_664 : (Cond.instanceMethod (⟨"java/lang/String", "isLatin1", "()Z"⟩)) ∈ tw_tbl := tw_mem (List.mem_append_right _ (List.mem_of_getElem? (i := 664) (by decide +kernel))) rfl
theorem mw_665 : (Cond.selects "java/lang/String" (⟨"java/lang/String", "isLatin1", "()Z"⟩) (⟨"java/lang/String", "isLatin1", "()Z"⟩)) ∈ tw_tbl := tw_mem (List.mem_append_right _ (List.mem_of_getElem? (i := 665) (by decide +kernel))) rfl
theorem mw_666 : (Cond.code (⟨"java/lang/String", "isLatin1", "()Z"⟩) prog_22_method_154_code 1 (some .boolean)) ∈ tw_tbl := tw_mem (List.mem_append_right _ (List.mem_of_getElem? (i := 666) (by decide +kernel))) rfl
theorem mw_667 : (Cond.fieldLink "java/lang/String" 38 "java/lang/String" "COMPACT_STRINGS" "Z") ∈ tw_tbl := tw_mem (List.mem_append_right _ (List.mem_of_getElem? (i := 667) (by decide +kernel))) rfl
theorem mw_669 : (Cond.methodLink "java/lang/String" 495 (⟨"java/lang/StringLatin1", "charAt", "([BI)C"⟩)) ∈ tw_tbl := tw_mem (List.mem_append_right _ (List.mem_of_getElem? (i := 669) (by decide +kernel))) rfl
theorem mw_670 : (Cond.static (⟨"java/lang/StringLatin1", "charAt", "([BI)C"⟩)) ∈ tw_tbl := tw_mem (List.mem_append_right _ (List.mem_of_getElem? (i := 670) (by decide +kernel))) rfl
theorem mw_671 : (Cond.code (⟨"java/lang/StringLatin1", "charAt", "([BI)C"⟩) prog_23_method_2_code 2 (some .char)) ∈ tw_tbl := tw_mem (List.mem_append_right _ (List.mem_of_getElem? (i := 671) (by decide +kernel))) rfl
theorem mw_672 : (Cond.methodLink "java/lang/StringLatin1" 9 (⟨"java/lang/String", "checkIndex", "(II)V"⟩)) ∈ tw_tbl := tw_mem (List.mem_append_right _ (List.mem_of_getElem? (i := 672) (by decide +kernel))) rfl
theorem mw_673 : (Cond.static (⟨"java/lang/String", "checkIndex", "(II)V"⟩)) ∈ tw_tbl := tw_mem (List.mem_append_right _ (List.mem_of_getElem? (i := 673) (by decide +kernel))) rfl
theorem mw_674 : (Cond.code (⟨"java/lang/String", "checkIndex", "(II)V"⟩) prog_22_method_155_code 2 none) ∈ tw_tbl := tw_mem (List.mem_append_right _ (List.mem_of_getElem? (i := 674) (by decide +kernel))) rfl
theorem mw_675 : (Cond.fieldLink "java/lang/String" 1053 "jdk/internal/util/Preconditions" "SIOOBE_FORMATTER" "Ljava/util/function/BiFunction;") ∈ tw_tbl := tw_mem (List.mem_append_right _ (List.mem_of_getElem? (i := 675) (by decide +kernel))) rfl
theorem mw_677 : (Cond.methodLink "java/lang/String" 1059 (⟨"jdk/internal/util/Preconditions", "checkIndex", "(IILjava/util/function/BiFunction;)I"⟩)) ∈ tw_tbl := tw_mem (List.mem_append_right _ (List.mem_of_getElem? (i := 677) (by decide +kernel))) rfl
theorem mw_678 : (Cond.static (⟨"jdk/internal/util/Preconditions", "checkIndex", "(IILjava/util/function/BiFunction;)I"⟩)) ∈ tw_tbl := tw_mem (List.mem_append_right _ (List.mem_of_getElem? (i := 678) (by decide +kernel))) rfl
theorem mw_679 : (Cond.code (⟨"jdk/internal/util/Preconditions", "checkIndex", "(IILjava/util/function/BiFunction;)I"⟩) prog_28_method_11_code 3 (some .int)) ∈ tw_tbl := tw_mem (List.mem_append_right _ (List.mem_of_getElem? (i := 679) (by decide +kernel))) rfl
theorem mw_680 : (Cond.methodLink "java/lang/String" 498 (⟨"java/lang/StringUTF16", "charAt", "([BI)C"⟩)) ∈ tw_tbl := tw_mem (List.mem_append_right _ (List.mem_of_getElem? (i := 680) (by decide +kernel))) rfl
theorem mw_681 : (Cond.static (⟨"java/lang/StringUTF16", "charAt", "([BI)C"⟩)) ∈ tw_tbl := tw_mem (List.mem_append_right _ (List.mem_of_getElem? (i := 681) (by decide +kernel))) rfl
theorem mw_682 : (Cond.code (⟨"java/lang/StringUTF16", "charAt", "([BI)C"⟩) prog_24_method_83_code 2 (some .char)) ∈ tw_tbl := tw_mem (List.mem_append_right _ (List.mem_of_getElem? (i := 682) (by decide +kernel))) rfl
theorem mw_683 : (Cond.methodLink "java/lang/StringUTF16" 67 (⟨"java/lang/StringUTF16", "checkIndex", "(I[B)V"⟩)) ∈ tw_tbl := tw_mem (List.mem_append_right _ (List.mem_of_getElem? (i := 683) (by decide +kernel))) rfl
theorem mw_684 : (Cond.static (⟨"java/lang/StringUTF16", "checkIndex", "(I[B)V"⟩)) ∈ tw_tbl := tw_mem (List.mem_append_right _ (List.mem_of_getElem? (i := 684) (by decide +kernel))) rfl
theorem mw_685 : (Cond.code (⟨"java/lang/StringUTF16", "checkIndex", "(I[B)V"⟩) prog_24_method_91_code 2 none) ∈ tw_tbl := tw_mem (List.mem_append_right _ (List.mem_of_getElem? (i := 685) (by decide +kernel))) rfl
theorem mw_686 : (Cond.methodLink "java/lang/StringUTF16" 48 (⟨"java/lang/StringUTF16", "length", "([B)I"⟩)) ∈ tw_tbl := tw_mem (List.mem_append_right _ (List.mem_of_getElem? (i := 686) (by decide +kernel))) rfl
theorem mw_687 : (Cond.static (⟨"java/lang/StringUTF16", "length", "([B)I"⟩)) ∈ tw_tbl := tw_mem (List.mem_append_right _ (List.mem_of_getElem? (i := 687) (by decide +kernel))) rfl
theorem mw_688 : (Cond.code (⟨"java/lang/StringUTF16", "length", "([B)I"⟩) prog_24_method_6_code 1 (some .int)) ∈ tw_tbl := tw_mem (List.mem_append_right _ (List.mem_of_getElem? (i := 688) (by decide +kernel))) rfl
theorem mw_689 : (Cond.methodLink "java/lang/StringUTF16" 414 (⟨"java/lang/String", "checkIndex", "(II)V"⟩)) ∈ tw_tbl := tw_mem (List.mem_append_right _ (List.mem_of_getElem? (i := 689) (by decide +kernel))) rfl
theorem mw_690 : (Cond.methodLink "java/lang/StringUTF16" 71 (⟨"java/lang/StringUTF16", "getChar", "([BI)C"⟩)) ∈ tw_tbl := tw_mem (List.mem_append_right _ (List.mem_of_getElem? (i := 690) (by decide +kernel))) rfl
theorem mw_691 : (Cond.static (⟨"java/lang/StringUTF16", "getChar", "([BI)C"⟩)) ∈ tw_tbl := tw_mem (List.mem_append_right _ (List.mem_of_getElem? (i := 691) (by decide +kernel))) rfl
theorem mw_692 : (Cond.code (⟨"java/lang/StringUTF16", "getChar", "([BI)C"⟩) prog_24_method_5_code 2 (some .char)) ∈ tw_tbl := tw_mem (List.mem_append_right _ (List.mem_of_getElem? (i := 692) (by decide +kernel))) rfl
theorem mw_693 : (Cond.fieldLink "java/lang/StringUTF16" 44 "java/lang/StringUTF16" "$assertionsDisabled" "Z") ∈ tw_tbl := tw_mem (List.mem_append_right _ (List.mem_of_getElem? (i := 693) (by decide +kernel))) rfl
theorem mw_695 : (Cond.fieldLink "java/lang/StringUTF16" 59 "java/lang/StringUTF16" "HI_BYTE_SHIFT" "I") ∈ tw_tbl := tw_mem (List.mem_append_right _ (List.mem_of_getElem? (i := 695) (by decide +kernel))) rfl
theorem mw_697 : (Cond.fieldLink "java/lang/StringUTF16" 63 "java/lang/StringUTF16" "LO_BYTE_SHIFT" "I") ∈ tw_tbl := tw_mem (List.mem_append_right _ (List.mem_of_getElem? (i := 697) (by decide +kernel))) rfl
theorem mw_699 : (Cond.constant "StoryMachine$Printer" 42 (32768 : Int32)) ∈ tw_tbl := tw_mem (List.mem_append_right _ (List.mem_of_getElem? (i := 699) (by decide +kernel))) rfl
theorem mw_700 : (Cond.classLink "StoryMachine$Printer" 43 "java/lang/IllegalArgumentException") ∈ tw_tbl := tw_mem (List.mem_append_right _ (List.mem_of_getElem? (i := 700) (by decide +kernel))) rfl
theorem mw_701 : (Cond.methodLink "StoryMachine$Printer" 45 (⟨"java/lang/IllegalArgumentException", "<init>", "()V"⟩)) ∈ tw_tbl := tw_mem (List.mem_append_right _ (List.mem_of_getElem? (i := 701) (by decide +kernel))) rfl
theorem mw_702 : (Cond.methodLink "StoryMachine$Engine" 152 (⟨"StoryMachine$Printer", "put", "(I)V"⟩)) ∈ tw_tbl := tw_mem (List.mem_append_right _ (List.mem_of_getElem? (i := 702) (by decide +kernel))) rfl
theorem mw_703 : (Cond.methodLink "StoryMachine$Engine" 155 (⟨"StoryMachine$Engine", "branch", "(Z)V"⟩)) ∈ tw_tbl := tw_mem (List.mem_append_right _ (List.mem_of_getElem? (i := 703) (by decide +kernel))) rfl
theorem mw_705 : (Cond.instanceMethod (⟨"StoryMachine$Engine", "branch", "(Z)V"⟩)) ∈ tw_tbl := tw_mem (List.mem_append_right _ (List.mem_of_getElem? (i := 705) (by decide +kernel))) rfl
theorem mw_706 : (Cond.code (⟨"StoryMachine$Engine", "branch", "(Z)V"⟩) prog_4_method_14_code 3 none) ∈ tw_tbl := tw_mem (List.mem_append_right _ (List.mem_of_getElem? (i := 706) (by decide +kernel))) rfl
theorem mw_707 : (Cond.methodLink "StoryMachine$Engine" 159 (⟨"StoryMachine$Aside", "keep", "(LStoryMachine$Memory;LStoryMachine$Routines;I)V"⟩)) ∈ tw_tbl := tw_mem (List.mem_append_right _ (List.mem_of_getElem? (i := 707) (by decide +kernel))) rfl
theorem mw_708 : (Cond.instanceMethod (⟨"StoryMachine$Aside", "keep", "(LStoryMachine$Memory;LStoryMachine$Routines;I)V"⟩)) ∈ tw_tbl := tw_mem (List.mem_append_right _ (List.mem_of_getElem? (i := 708) (by decide +kernel))) rfl
theorem mw_709 : (Cond.selects "StoryMachine$Aside" (⟨"StoryMachine$Aside", "keep", "(LStoryMachine$Memory;LStoryMachine$Routines;I)V"⟩) (⟨"StoryMachine$Aside", "keep", "(LStoryMachine$Memory;LStoryMachine$Routines;I)V"⟩)) ∈ tw_tbl := tw_mem (List.mem_append_right _ (List.mem_of_getElem? (i := 709) (by decide +kernel))) rfl
theorem mw_710 : (Cond.code (⟨"StoryMachine$Aside", "keep", "(LStoryMachine$Memory;LStoryMachine$Routines;I)V"⟩) prog_2_method_2_code 4 none) ∈ tw_tbl := tw_mem (List.mem_append_right _ (List.mem_of_getElem? (i := 710) (by decide +kernel))) rfl
theorem mw_711 : (Cond.methodLink "StoryMachine$Aside" 23 (⟨"StoryMachine$Memory", "copyFrom", "(LStoryMachine$Memory;)V"⟩)) ∈ tw_tbl := tw_mem (List.mem_append_right _ (List.mem_of_getElem? (i := 711) (by decide +kernel))) rfl
theorem mw_712 : (Cond.instanceMethod (⟨"StoryMachine$Memory", "copyFrom", "(LStoryMachine$Memory;)V"⟩)) ∈ tw_tbl := tw_mem (List.mem_append_right _ (List.mem_of_getElem? (i := 712) (by decide +kernel))) rfl
theorem mw_713 : (Cond.selects "StoryMachine$Memory" (⟨"StoryMachine$Memory", "copyFrom", "(LStoryMachine$Memory;)V"⟩) (⟨"StoryMachine$Memory", "copyFrom", "(LStoryMachine$Memory;)V"⟩)) ∈ tw_tbl := tw_mem (List.mem_append_right _ (List.mem_of_getElem? (i := 713) (by decide +kernel))) rfl
theorem mw_714 : (Cond.code (⟨"StoryMachine$Memory", "copyFrom", "(LStoryMachine$Memory;)V"⟩) prog_7_method_7_code 2 none) ∈ tw_tbl := tw_mem (List.mem_append_right _ (List.mem_of_getElem? (i := 714) (by decide +kernel))) rfl
theorem mw_715 : (Cond.methodLink "StoryMachine$Memory" 20 (⟨"java/lang/System", "arraycopy", "(Ljava/lang/Object;ILjava/lang/Object;II)V"⟩)) ∈ tw_tbl := tw_mem (List.mem_append_right _ (List.mem_of_getElem? (i := 715) (by decide +kernel))) rfl
theorem mw_716 : (Cond.static (⟨"java/lang/System", "arraycopy", "(Ljava/lang/Object;ILjava/lang/Object;II)V"⟩)) ∈ tw_tbl := tw_mem (List.mem_append_right _ (List.mem_of_getElem? (i := 716) (by decide +kernel))) rfl
theorem mw_717 : (Cond.native (⟨"java/lang/System", "arraycopy", "(Ljava/lang/Object;ILjava/lang/Object;II)V"⟩)) ∈ tw_tbl := tw_mem (List.mem_append_right _ (List.mem_of_getElem? (i := 717) (by decide +kernel))) rfl
theorem mw_718 : (Cond.methodLink "StoryMachine$Aside" 27 (⟨"StoryMachine$Routines", "copyFrom", "(LStoryMachine$Routines;)V"⟩)) ∈ tw_tbl := tw_mem (List.mem_append_right _ (List.mem_of_getElem? (i := 718) (by decide +kernel))) rfl
theorem mw_719 : (Cond.instanceMethod (⟨"StoryMachine$Routines", "copyFrom", "(LStoryMachine$Routines;)V"⟩)) ∈ tw_tbl := tw_mem (List.mem_append_right _ (List.mem_of_getElem? (i := 719) (by decide +kernel))) rfl
theorem mw_720 : (Cond.selects "StoryMachine$Routines" (⟨"StoryMachine$Routines", "copyFrom", "(LStoryMachine$Routines;)V"⟩) (⟨"StoryMachine$Routines", "copyFrom", "(LStoryMachine$Routines;)V"⟩)) ∈ tw_tbl := tw_mem (List.mem_append_right _ (List.mem_of_getElem? (i := 720) (by decide +kernel))) rfl
theorem mw_721 : (Cond.code (⟨"StoryMachine$Routines", "copyFrom", "(LStoryMachine$Routines;)V"⟩) prog_9_method_15_code 2 none) ∈ tw_tbl := tw_mem (List.mem_append_right _ (List.mem_of_getElem? (i := 721) (by decide +kernel))) rfl
theorem mw_722 : (Cond.methodLink "StoryMachine$Routines" 49 (⟨"java/lang/System", "arraycopy", "(Ljava/lang/Object;ILjava/lang/Object;II)V"⟩)) ∈ tw_tbl := tw_mem (List.mem_append_right _ (List.mem_of_getElem? (i := 722) (by decide +kernel))) rfl
theorem mw_723 : (Cond.methodLink "StoryMachine$Engine" 163 (⟨"StoryMachine$Aside", "bringBack", "(LStoryMachine$Memory;LStoryMachine$Routines;)I"⟩)) ∈ tw_tbl := tw_mem (List.mem_append_right _ (List.mem_of_getElem? (i := 723) (by decide +kernel))) rfl
theorem mw_724 : (Cond.instanceMethod (⟨"StoryMachine$Aside", "bringBack", "(LStoryMachine$Memory;LStoryMachine$Routines;)I"⟩)) ∈ tw_tbl := tw_mem (List.mem_append_right _ (List.mem_of_getElem? (i := 724) (by decide +kernel))) rfl
theorem mw_725 : (Cond.selects "StoryMachine$Aside" (⟨"StoryMachine$Aside", "bringBack", "(LStoryMachine$Memory;LStoryMachine$Routines;)I"⟩) (⟨"StoryMachine$Aside", "bringBack", "(LStoryMachine$Memory;LStoryMachine$Routines;)I"⟩)) ∈ tw_tbl := tw_mem (List.mem_append_right _ (List.mem_of_getElem? (i := 725) (by decide +kernel))) rfl
theorem mw_726 : (Cond.code (⟨"StoryMachine$Aside", "bringBack", "(LStoryMachine$Memory;LStoryMachine$Routines;)I"⟩) prog_2_method_3_code 3 (some .int)) ∈ tw_tbl := tw_mem (List.mem_append_right _ (List.mem_of_getElem? (i := 726) (by decide +kernel))) rfl
theorem mw_727 : (Cond.methodLink "StoryMachine$Engine" 167 (⟨"StoryMachine$Routines", "pop", "()I"⟩)) ∈ tw_tbl := tw_mem (List.mem_append_right _ (List.mem_of_getElem? (i := 727) (by decide +kernel))) rfl
theorem mw_728 : (Cond.methodLink "StoryMachine$Engine" 122 (⟨"StoryMachine$Engine", "doFirst", "(I)V"⟩)) ∈ tw_tbl := tw_mem (List.mem_append_right _ (List.mem_of_getElem? (i := 728) (by decide +kernel))) rfl
theorem mw_730 : (Cond.instanceMethod (⟨"StoryMachine$Engine", "doFirst", "(I)V"⟩)) ∈ tw_tbl := tw_mem (List.mem_append_right _ (List.mem_of_getElem? (i := 730) (by decide +kernel))) rfl
theorem mw_731 : (Cond.code (⟨"StoryMachine$Engine", "doFirst", "(I)V"⟩) prog_4_method_5_code 3 none) ∈ tw_tbl := tw_mem (List.mem_append_right _ (List.mem_of_getElem? (i := 731) (by decide +kernel))) rfl
theorem mw_732 : (Cond.methodLink "StoryMachine$Engine" 171 (⟨"StoryMachine$Instruction", "gives", "()Z"⟩)) ∈ tw_tbl := tw_mem (List.mem_append_right _ (List.mem_of_getElem? (i := 732) (by decide +kernel))) rfl
theorem mw_733 : (Cond.methodLink "StoryMachine$Engine" 175 (⟨"StoryMachine$Engine", "firstValue", "(I)I"⟩)) ∈ tw_tbl := tw_mem (List.mem_append_right _ (List.mem_of_getElem? (i := 733) (by decide +kernel))) rfl
theorem mw_735 : (Cond.instanceMethod (⟨"StoryMachine$Engine", "firstValue", "(I)I"⟩)) ∈ tw_tbl := tw_mem (List.mem_append_right _ (List.mem_of_getElem? (i := 735) (by decide +kernel))) rfl
theorem mw_736 : (Cond.code (⟨"StoryMachine$Engine", "firstValue", "(I)I"⟩) prog_4_method_6_code 2 (some .int)) ∈ tw_tbl := tw_mem (List.mem_append_right _ (List.mem_of_getElem? (i := 736) (by decide +kernel))) rfl
theorem mw_737 : (Cond.methodLink "StoryMachine$Engine" 198 (⟨"StoryMachine$Tree", "sibling", "(I)I"⟩)) ∈ tw_tbl := tw_mem (List.mem_append_right _ (List.mem_of_getElem? (i := 737) (by decide +kernel))) rfl
theorem mw_738 : (Cond.instanceMethod (⟨"StoryMachine$Tree", "sibling", "(I)I"⟩)) ∈ tw_tbl := tw_mem (List.mem_append_right _ (List.mem_of_getElem? (i := 738) (by decide +kernel))) rfl
theorem mw_739 : (Cond.selects "StoryMachine$Tree" (⟨"StoryMachine$Tree", "sibling", "(I)I"⟩) (⟨"StoryMachine$Tree", "sibling", "(I)I"⟩)) ∈ tw_tbl := tw_mem (List.mem_append_right _ (List.mem_of_getElem? (i := 739) (by decide +kernel))) rfl
theorem mw_740 : (Cond.code (⟨"StoryMachine$Tree", "sibling", "(I)I"⟩) prog_10_method_4_code 2 (some .int)) ∈ tw_tbl := tw_mem (List.mem_append_right _ (List.mem_of_getElem? (i := 740) (by decide +kernel))) rfl
theorem mw_741 : (Cond.methodLink "StoryMachine$Tree" 22 (⟨"StoryMachine$Tree", "placeOf", "(I)I"⟩)) ∈ tw_tbl := tw_mem (List.mem_append_right _ (List.mem_of_getElem? (i := 741) (by decide +kernel))) rfl
theorem mw_743 : (Cond.instanceMethod (⟨"StoryMachine$Tree", "placeOf", "(I)I"⟩)) ∈ tw_tbl := tw_mem (List.mem_append_right _ (List.mem_of_getElem? (i := 743) (by decide +kernel))) rfl
theorem mw_744 : (Cond.code (⟨"StoryMachine$Tree", "placeOf", "(I)I"⟩) prog_10_method_2_code 2 (some .int)) ∈ tw_tbl := tw_mem (List.mem_append_right _ (List.mem_of_getElem? (i := 744) (by decide +kernel))) rfl
theorem mw_745 : (Cond.classLink "StoryMachine$Tree" 13 "java/lang/IllegalArgumentException") ∈ tw_tbl := tw_mem (List.mem_append_right _ (List.mem_of_getElem? (i := 745) (by decide +kernel))) rfl
theorem mw_746 : (Cond.methodLink "StoryMachine$Tree" 15 (⟨"java/lang/IllegalArgumentException", "<init>", "()V"⟩)) ∈ tw_tbl := tw_mem (List.mem_append_right _ (List.mem_of_getElem? (i := 746) (by decide +kernel))) rfl
theorem mw_747 : (Cond.methodLink "StoryMachine$Tree" 18 (⟨"StoryMachine$Memory", "wordAt", "(I)I"⟩)) ∈ tw_tbl := tw_mem (List.mem_append_right _ (List.mem_of_getElem? (i := 747) (by decide +kernel))) rfl
theorem mw_748 : (Cond.methodLink "StoryMachine$Tree" 25 (⟨"StoryMachine$Memory", "byteAt", "(I)I"⟩)) ∈ tw_tbl := tw_mem (List.mem_append_right _ (List.mem_of_getElem? (i := 748) (by decide +kernel))) rfl
theorem mw_749 : (Cond.methodLink "StoryMachine$Engine" 201 (⟨"StoryMachine$Tree", "child", "(I)I"⟩)) ∈ tw_tbl := tw_mem (List.mem_append_right _ (List.mem_of_getElem? (i := 749) (by decide +kernel))) rfl
theorem mw_750 : (Cond.instanceMethod (⟨"StoryMachine$Tree", "child", "(I)I"⟩)) ∈ tw_tbl := tw_mem (List.mem_append_right _ (List.mem_of_getElem? (i := 750) (by decide +kernel))) rfl
theorem mw_751 : (Cond.selects "StoryMachine$Tree" (⟨"StoryMachine$Tree", "child", "(I)I"⟩) (⟨"StoryMachine$Tree", "child", "(I)I"⟩)) ∈ tw_tbl := tw_mem (List.mem_append_right _ (List.mem_of_getElem? (i := 751) (by decide +kernel))) rfl
theorem mw_752 : (Cond.code (⟨"StoryMachine$Tree", "child", "(I)I"⟩) prog_10_method_5_code 2 (some .int)) ∈ tw_tbl := tw_mem (List.mem_append_right _ (List.mem_of_getElem? (i := 752) (by decide +kernel))) rfl
theorem mw_753 : (Cond.methodLink "StoryMachine$Engine" 204 (⟨"StoryMachine$Tree", "parent", "(I)I"⟩)) ∈ tw_tbl := tw_mem (List.mem_append_right _ (List.mem_of_getElem? (i := 753) (by decide +kernel))) rfl
theorem mw_754 : (Cond.instanceMethod (⟨"StoryMachine$Tree", "parent", "(I)I"⟩)) ∈ tw_tbl := tw_mem (List.mem_append_right _ (List.mem_of_getElem? (i := 754) (by decide +kernel))) rfl
theorem mw_755 : (Cond.selects "StoryMachine$Tree" (⟨"StoryMachine$Tree", "parent", "(I)I"⟩) (⟨"StoryMachine$Tree", "parent", "(I)I"⟩)) ∈ tw_tbl := tw_mem (List.mem_append_right _ (List.mem_of_getElem? (i := 755) (by decide +kernel))) rfl
theorem mw_756 : (Cond.code (⟨"StoryMachine$Tree", "parent", "(I)I"⟩) prog_10_method_3_code 2 (some .int)) ∈ tw_tbl := tw_mem (List.mem_append_right _ (List.mem_of_getElem? (i := 756) (by decide +kernel))) rfl
theorem mw_757 : (Cond.methodLink "StoryMachine$Engine" 207 (⟨"StoryMachine$Tree", "propertyLength", "(I)I"⟩)) ∈ tw_tbl := tw_mem (List.mem_append_right _ (List.mem_of_getElem? (i := 757) (by decide +kernel))) rfl
theorem mw_758 : (Cond.instanceMethod (⟨"StoryMachine$Tree", "propertyLength", "(I)I"⟩)) ∈ tw_tbl := tw_mem (List.mem_append_right _ (List.mem_of_getElem? (i := 758) (by decide +kernel))) rfl
theorem mw_759 : (Cond.selects "StoryMachine$Tree" (⟨"StoryMachine$Tree", "propertyLength", "(I)I"⟩) (⟨"StoryMachine$Tree", "propertyLength", "(I)I"⟩)) ∈ tw_tbl := tw_mem (List.mem_append_right _ (List.mem_of_getElem? (i := 759) (by decide +kernel))) rfl
theorem mw_760 : (Cond.code (⟨"StoryMachine$Tree", "propertyLength", "(I)I"⟩) prog_10_method_16_code 2 (some .int)) ∈ tw_tbl := tw_mem (List.mem_append_right _ (List.mem_of_getElem? (i := 760) (by decide +kernel))) rfl
theorem mw_761 : (Cond.methodLink "StoryMachine$Tree" 43 (⟨"StoryMachine$Tree", "lengthIn", "(I)I"⟩)) ∈ tw_tbl := tw_mem (List.mem_append_right _ (List.mem_of_getElem? (i := 761) (by decide +kernel))) rfl
theorem mw_762 : (Cond.static (⟨"StoryMachine$Tree", "lengthIn", "(I)I"⟩)) ∈ tw_tbl := tw_mem (List.mem_append_right _ (List.mem_of_getElem? (i := 762) (by decide +kernel))) rfl
theorem mw_763 : (Cond.code (⟨"StoryMachine$Tree", "lengthIn", "(I)I"⟩) prog_10_method_15_code 1 (some .int)) ∈ tw_tbl := tw_mem (List.mem_append_right _ (List.mem_of_getElem? (i := 763) (by decide +kernel))) rfl
theorem mw_764 : (Cond.methodLink "StoryMachine$Engine" 210 (⟨"StoryMachine$Variables", "read", "(IZ)I"⟩)) ∈ tw_tbl := tw_mem (List.mem_append_right _ (List.mem_of_getElem? (i := 764) (by decide +kernel))) rfl
theorem mw_765 : (Cond.methodLink "StoryMachine$Engine" 185 (⟨"StoryMachine$Instruction", "branches", "()Z"⟩)) ∈ tw_tbl := tw_mem (List.mem_append_right _ (List.mem_of_getElem? (i := 765) (by decide +kernel))) rfl
theorem mw_766 : (Cond.methodLink "StoryMachine$Engine" 188 (⟨"StoryMachine$Engine", "changedBy", "(II)I"⟩)) ∈ tw_tbl := tw_mem (List.mem_append_right _ (List.mem_of_getElem? (i := 766) (by decide +kernel))) rfl
theorem mw_768 : (Cond.instanceMethod (⟨"StoryMachine$Engine", "changedBy", "(II)I"⟩)) ∈ tw_tbl := tw_mem (List.mem_append_right _ (List.mem_of_getElem? (i := 768) (by decide +kernel))) rfl
theorem mw_769 : (Cond.code (⟨"StoryMachine$Engine", "changedBy", "(II)I"⟩) prog_4_method_10_code 4 (some .int)) ∈ tw_tbl := tw_mem (List.mem_append_right _ (List.mem_of_getElem? (i := 769) (by decide +kernel))) rfl
theorem mw_770 : (Cond.methodLink "StoryMachine$Engine" 192 (⟨"StoryMachine$Tree", "takeFromParent", "(I)V"⟩)) ∈ tw_tbl := tw_mem (List.mem_append_right _ (List.mem_of_getElem? (i := 770) (by decide +kernel))) rfl
theorem mw_771 : (Cond.instanceMethod (⟨"StoryMachine$Tree", "takeFromParent", "(I)V"⟩)) ∈ tw_tbl := tw_mem (List.mem_append_right _ (List.mem_of_getElem? (i := 771) (by decide +kernel))) rfl
theorem mw_772 : (Cond.selects "StoryMachine$Tree" (⟨"StoryMachine$Tree", "takeFromParent", "(I)V"⟩) (⟨"StoryMachine$Tree", "takeFromParent", "(I)V"⟩)) ∈ tw_tbl := tw_mem (List.mem_append_right _ (List.mem_of_getElem? (i := 772) (by decide +kernel))) rfl
theorem mw_773 : (Cond.code (⟨"StoryMachine$Tree", "takeFromParent", "(I)V"⟩) prog_10_method_9_code 5 none) ∈ tw_tbl := tw_mem (List.mem_append_right _ (List.mem_of_getElem? (i := 773) (by decide +kernel))) rfl
theorem mw_774 : (Cond.methodLink "StoryMachine$Tree" 36 (⟨"StoryMachine$Tree", "linkTo", "(II)I"⟩)) ∈ tw_tbl := tw_mem (List.mem_append_right _ (List.mem_of_getElem? (i := 774) (by decide +kernel))) rfl
theorem mw_776 : (Cond.instanceMethod (⟨"StoryMachine$Tree", "linkTo", "(II)I"⟩)) ∈ tw_tbl := tw_mem (List.mem_append_right _ (List.mem_of_getElem? (i := 776) (by decide +kernel))) rfl
theorem mw_777 : (Cond.code (⟨"StoryMachine$Tree", "linkTo", "(II)I"⟩) prog_10_method_10_code 6 (some .int)) ∈ tw_tbl := tw_mem (List.mem_append_right _ (List.mem_of_getElem? (i := 777) (by decide +kernel))) rfl
theorem mw_778 : (Cond.methodLink "StoryMachine$Tree" 32 (⟨"StoryMachine$Memory", "writeByte", "(II)V"⟩)) ∈ tw_tbl := tw_mem (List.mem_append_right _ (List.mem_of_getElem? (i := 778) (by decide +kernel))) rfl
theorem mw_779 : (Cond.instanceMethod (⟨"StoryMachine$Memory", "writeByte", "(II)V"⟩)) ∈ tw_tbl := tw_mem (List.mem_append_right _ (List.mem_of_getElem? (i := 779) (by decide +kernel))) rfl
theorem mw_780 : (Cond.selects "StoryMachine$Memory" (⟨"StoryMachine$Memory", "writeByte", "(II)V"⟩) (⟨"StoryMachine$Memory", "writeByte", "(II)V"⟩)) ∈ tw_tbl := tw_mem (List.mem_append_right _ (List.mem_of_getElem? (i := 780) (by decide +kernel))) rfl
theorem mw_781 : (Cond.code (⟨"StoryMachine$Memory", "writeByte", "(II)V"⟩) prog_7_method_4_code 3 none) ∈ tw_tbl := tw_mem (List.mem_append_right _ (List.mem_of_getElem? (i := 781) (by decide +kernel))) rfl
theorem mw_782 : (Cond.methodLink "StoryMachine$Engine" 195 (⟨"StoryMachine$Engine", "putName", "(I)V"⟩)) ∈ tw_tbl := tw_mem (List.mem_append_right _ (List.mem_of_getElem? (i := 782) (by decide +kernel))) rfl
theorem mw_784 : (Cond.instanceMethod (⟨"StoryMachine$Engine", "putName", "(I)V"⟩)) ∈ tw_tbl := tw_mem (List.mem_append_right _ (List.mem_of_getElem? (i := 784) (by decide +kernel))) rfl
theorem mw_785 : (Cond.code (⟨"StoryMachine$Engine", "putName", "(I)V"⟩) prog_4_method_17_code 3 none) ∈ tw_tbl := tw_mem (List.mem_append_right _ (List.mem_of_getElem? (i := 785) (by decide +kernel))) rfl
theorem mw_786 : (Cond.methodLink "StoryMachine$Engine" 304 (⟨"StoryMachine$Tree", "namePlace", "(I)I"⟩)) ∈ tw_tbl := tw_mem (List.mem_append_right _ (List.mem_of_getElem? (i := 786) (by decide +kernel))) rfl
theorem mw_787 : (Cond.instanceMethod (⟨"StoryMachine$Tree", "namePlace", "(I)I"⟩)) ∈ tw_tbl := tw_mem (List.mem_append_right _ (List.mem_of_getElem? (i := 787) (by decide +kernel))) rfl
theorem mw_788 : (Cond.selects "StoryMachine$Tree" (⟨"StoryMachine$Tree", "namePlace", "(I)I"⟩) (⟨"StoryMachine$Tree", "namePlace", "(I)I"⟩)) ∈ tw_tbl := tw_mem (List.mem_append_right _ (List.mem_of_getElem? (i := 788) (by decide +kernel))) rfl
theorem mw_789 : (Cond.code (⟨"StoryMachine$Tree", "namePlace", "(I)I"⟩) prog_10_method_12_code 2 (some .int)) ∈ tw_tbl := tw_mem (List.mem_append_right _ (List.mem_of_getElem? (i := 789) (by decide +kernel))) rfl
theorem mw_790 : (Cond.methodLink "StoryMachine$Engine" 240 (⟨"StoryMachine$Memory", "byteAt", "(I)I"⟩)) ∈ tw_tbl := tw_mem (List.mem_append_right _ (List.mem_of_getElem? (i := 790) (by decide +kernel))) rfl
theorem mw_791 : (Cond.methodLink "StoryMachine$Engine" 126 (⟨"StoryMachine$Engine", "doSecond", "(II)V"⟩)) ∈ tw_tbl := tw_mem (List.mem_append_right _ (List.mem_of_getElem? (i := 791) (by decide +kernel))) rfl
theorem mw_793 : (Cond.instanceMethod (⟨"StoryMachine$Engine", "doSecond", "(II)V"⟩)) ∈ tw_tbl := tw_mem (List.mem_append_right _ (List.mem_of_getElem? (i := 793) (by decide +kernel))) rfl
theorem mw_794 : (Cond.code (⟨"StoryMachine$Engine", "doSecond", "(II)V"⟩) prog_4_method_7_code 3 none) ∈ tw_tbl := tw_mem (List.mem_append_right _ (List.mem_of_getElem? (i := 794) (by decide +kernel))) rfl
theorem mw_795 : (Cond.methodLink "StoryMachine$Engine" 214 (⟨"StoryMachine$Engine", "secondAsks", "(II)Z"⟩)) ∈ tw_tbl := tw_mem (List.mem_append_right _ (List.mem_of_getElem? (i := 795) (by decide +kernel))) rfl
theorem mw_797 : (Cond.instanceMethod (⟨"StoryMachine$Engine", "secondAsks", "(II)Z"⟩)) ∈ tw_tbl := tw_mem (List.mem_append_right _ (List.mem_of_getElem? (i := 797) (by decide +kernel))) rfl
theorem mw_798 : (Cond.code (⟨"StoryMachine$Engine", "secondAsks", "(II)Z"⟩) prog_4_method_8_code 3 (some .boolean)) ∈ tw_tbl := tw_mem (List.mem_append_right _ (List.mem_of_getElem? (i := 798) (by decide +kernel))) rfl
theorem mw_799 : (Cond.methodLink "StoryMachine$Engine" 227 (⟨"StoryMachine$Engine", "isAmongOthers", "(I)Z"⟩)) ∈ tw_tbl := tw_mem (List.mem_append_right _ (List.mem_of_getElem? (i := 799) (by decide +kernel))) rfl
theorem mw_801 : (Cond.instanceMethod (⟨"StoryMachine$Engine", "isAmongOthers", "(I)Z"⟩)) ∈ tw_tbl := tw_mem (List.mem_append_right _ (List.mem_of_getElem? (i := 801) (by decide +kernel))) rfl
theorem mw_802 : (Cond.code (⟨"StoryMachine$Engine", "isAmongOthers", "(I)Z"⟩) prog_4_method_9_code 3 (some .boolean)) ∈ tw_tbl := tw_mem (List.mem_append_right _ (List.mem_of_getElem? (i := 802) (by decide +kernel))) rfl
theorem mw_803 : (Cond.methodLink "StoryMachine$Engine" 231 (⟨"StoryMachine$Tree", "hasAttribute", "(II)Z"⟩)) ∈ tw_tbl := tw_mem (List.mem_append_right _ (List.mem_of_getElem? (i := 803) (by decide +kernel))) rfl
theorem mw_804 : (Cond.instanceMethod (⟨"StoryMachine$Tree", "hasAttribute", "(II)Z"⟩)) ∈ tw_tbl := tw_mem (List.mem_append_right _ (List.mem_of_getElem? (i := 804) (by decide +kernel))) rfl
theorem mw_805 : (Cond.selects "StoryMachine$Tree" (⟨"StoryMachine$Tree", "hasAttribute", "(II)Z"⟩) (⟨"StoryMachine$Tree", "hasAttribute", "(II)Z"⟩)) ∈ tw_tbl := tw_mem (List.mem_append_right _ (List.mem_of_getElem? (i := 805) (by decide +kernel))) rfl
theorem mw_806 : (Cond.code (⟨"StoryMachine$Tree", "hasAttribute", "(II)Z"⟩) prog_10_method_7_code 4 (some .boolean)) ∈ tw_tbl := tw_mem (List.mem_append_right _ (List.mem_of_getElem? (i := 806) (by decide +kernel))) rfl
theorem mw_807 : (Cond.methodLink "StoryMachine$Tree" 28 (⟨"StoryMachine$Tree", "attributePlace", "(II)I"⟩)) ∈ tw_tbl := tw_mem (List.mem_append_right _ (List.mem_of_getElem? (i := 807) (by decide +kernel))) rfl
theorem mw_809 : (Cond.instanceMethod (⟨"StoryMachine$Tree", "attributePlace", "(II)I"⟩)) ∈ tw_tbl := tw_mem (List.mem_append_right _ (List.mem_of_getElem? (i := 809) (by decide +kernel))) rfl
theorem mw_810 : (Cond.code (⟨"StoryMachine$Tree", "attributePlace", "(II)I"⟩) prog_10_method_6_code 4 (some .int)) ∈ tw_tbl := tw_mem (List.mem_append_right _ (List.mem_of_getElem? (i := 810) (by decide +kernel))) rfl
theorem mw_811 : (Cond.methodLink "StoryMachine$Engine" 218 (⟨"StoryMachine$Engine", "secondValue", "(II)I"⟩)) ∈ tw_tbl := tw_mem (List.mem_append_right _ (List.mem_of_getElem? (i := 811) (by decide +kernel))) rfl
theorem mw_813 : (Cond.instanceMethod (⟨"StoryMachine$Engine", "secondValue", "(II)I"⟩)) ∈ tw_tbl := tw_mem (List.mem_append_right _ (List.mem_of_getElem? (i := 813) (by decide +kernel))) rfl
theorem mw_814 : (Cond.code (⟨"StoryMachine$Engine", "secondValue", "(II)I"⟩) prog_4_method_11_code 3 (some .int)) ∈ tw_tbl := tw_mem (List.mem_append_right _ (List.mem_of_getElem? (i := 814) (by decide +kernel))) rfl
theorem mw_815 : (Cond.methodLink "StoryMachine$Engine" 235 (⟨"StoryMachine$Memory", "wordAt", "(I)I"⟩)) ∈ tw_tbl := tw_mem (List.mem_append_right _ (List.mem_of_getElem? (i := 815) (by decide +kernel))) rfl
theorem mw_816 : (Cond.methodLink "StoryMachine$Engine" 243 (⟨"StoryMachine$Tree", "properties", "(I)I"⟩)) ∈ tw_tbl := tw_mem (List.mem_append_right _ (List.mem_of_getElem? (i := 816) (by decide +kernel))) rfl
theorem mw_817 : (Cond.instanceMethod (⟨"StoryMachine$Tree", "properties", "(I)I"⟩)) ∈ tw_tbl := tw_mem (List.mem_append_right _ (List.mem_of_getElem? (i := 817) (by decide +kernel))) rfl
theorem mw_818 : (Cond.selects "StoryMachine$Tree" (⟨"StoryMachine$Tree", "properties", "(I)I"⟩) (⟨"StoryMachine$Tree", "properties", "(I)I"⟩)) ∈ tw_tbl := tw_mem (List.mem_append_right _ (List.mem_of_getElem? (i := 818) (by decide +kernel))) rfl
theorem mw_819 : (Cond.code (⟨"StoryMachine$Tree", "properties", "(I)I"⟩) prog_10_method_13_code 3 (some .int)) ∈ tw_tbl := tw_mem (List.mem_append_right _ (List.mem_of_getElem? (i := 819) (by decide +kernel))) rfl
theorem mw_820 : (Cond.methodLink "StoryMachine$Engine" 246 (⟨"StoryMachine$Tree", "propertyValue", "(II)I"⟩)) ∈ tw_tbl := tw_mem (List.mem_append_right _ (List.mem_of_getElem? (i := 820) (by decide +kernel))) rfl
theorem mw_821 : (Cond.instanceMethod (⟨"StoryMachine$Tree", "propertyValue", "(II)I"⟩)) ∈ tw_tbl := tw_mem (List.mem_append_right _ (List.mem_of_getElem? (i := 821) (by decide +kernel))) rfl
theorem mw_822 : (Cond.selects "StoryMachine$Tree" (⟨"StoryMachine$Tree", "propertyValue", "(II)I"⟩) (⟨"StoryMachine$Tree", "propertyValue", "(II)I"⟩)) ∈ tw_tbl := tw_mem (List.mem_append_right _ (List.mem_of_getElem? (i := 822) (by decide +kernel))) rfl
theorem mw_823 : (Cond.code (⟨"StoryMachine$Tree", "propertyValue", "(II)I"⟩) prog_10_method_17_code 5 (some .int)) ∈ tw_tbl := tw_mem (List.mem_append_right _ (List.mem_of_getElem? (i := 823) (by decide +kernel))) rfl
theorem mw_824 : (Cond.methodLink "StoryMachine$Tree" 46 (⟨"StoryMachine$Tree", "propertyPlace", "(II)I"⟩)) ∈ tw_tbl := tw_mem (List.mem_append_right _ (List.mem_of_getElem? (i := 824) (by decide +kernel))) rfl
theorem mw_825 : (Cond.instanceMethod (⟨"StoryMachine$Tree", "propertyPlace", "(II)I"⟩)) ∈ tw_tbl := tw_mem (List.mem_append_right _ (List.mem_of_getElem? (i := 825) (by decide +kernel))) rfl
theorem mw_826 : (Cond.selects "StoryMachine$Tree" (⟨"StoryMachine$Tree", "propertyPlace", "(II)I"⟩) (⟨"StoryMachine$Tree", "propertyPlace", "(II)I"⟩)) ∈ tw_tbl := tw_mem (List.mem_append_right _ (List.mem_of_getElem? (i := 826) (by decide +kernel))) rfl
theorem mw_827 : (Cond.code (⟨"StoryMachine$Tree", "propertyPlace", "(II)I"⟩) prog_10_method_14_code 6 (some .int)) ∈ tw_tbl := tw_mem (List.mem_append_right _ (List.mem_of_getElem? (i := 827) (by decide +kernel))) rfl
theorem mw_828 : (Cond.methodLink "StoryMachine$Tree" 49 (⟨"StoryMachine$Tree", "defaultOf", "(I)I"⟩)) ∈ tw_tbl := tw_mem (List.mem_append_right _ (List.mem_of_getElem? (i := 828) (by decide +kernel))) rfl
theorem mw_830 : (Cond.instanceMethod (⟨"StoryMachine$Tree", "defaultOf", "(I)I"⟩)) ∈ tw_tbl := tw_mem (List.mem_append_right _ (List.mem_of_getElem? (i := 830) (by decide +kernel))) rfl
theorem mw_831 : (Cond.code (⟨"StoryMachine$Tree", "defaultOf", "(I)I"⟩) prog_10_method_18_code 2 (some .int)) ∈ tw_tbl := tw_mem (List.mem_append_right _ (List.mem_of_getElem? (i := 831) (by decide +kernel))) rfl
theorem mw_832 : (Cond.methodLink "StoryMachine$Tree" 52 (⟨"StoryMachine$Tree", "propertyLength", "(I)I"⟩)) ∈ tw_tbl := tw_mem (List.mem_append_right _ (List.mem_of_getElem? (i := 832) (by decide +kernel))) rfl
theorem mw_833 : (Cond.methodLink "StoryMachine$Engine" 249 (⟨"StoryMachine$Tree", "propertyPlace", "(II)I"⟩)) ∈ tw_tbl := tw_mem (List.mem_append_right _ (List.mem_of_getElem? (i := 833) (by decide +kernel))) rfl
theorem mw_834 : (Cond.methodLink "StoryMachine$Engine" 252 (⟨"StoryMachine$Tree", "propertyBehind", "(II)I"⟩)) ∈ tw_tbl := tw_mem (List.mem_append_right _ (List.mem_of_getElem? (i := 834) (by decide +kernel))) rfl
theorem mw_835 : (Cond.instanceMethod (⟨"StoryMachine$Tree", "propertyBehind", "(II)I"⟩)) ∈ tw_tbl := tw_mem (List.mem_append_right _ (List.mem_of_getElem? (i := 835) (by decide +kernel))) rfl
theorem mw_836 : (Cond.selects "StoryMachine$Tree" (⟨"StoryMachine$Tree", "propertyBehind", "(II)I"⟩) (⟨"StoryMachine$Tree", "propertyBehind", "(II)I"⟩)) ∈ tw_tbl := tw_mem (List.mem_append_right _ (List.mem_of_getElem? (i := 836) (by decide +kernel))) rfl
theorem mw_837 : (Cond.code (⟨"StoryMachine$Tree", "propertyBehind", "(II)I"⟩) prog_10_method_20_code 4 (some .int)) ∈ tw_tbl := tw_mem (List.mem_append_right _ (List.mem_of_getElem? (i := 837) (by decide +kernel))) rfl
theorem mw_838 : (Cond.methodLink "StoryMachine$Engine" 255 (⟨"StoryMachine$Engine", "divisor", "(I)I"⟩)) ∈ tw_tbl := tw_mem (List.mem_append_right _ (List.mem_of_getElem? (i := 838) (by decide +kernel))) rfl
theorem mw_839 : (Cond.static (⟨"StoryMachine$Engine", "divisor", "(I)I"⟩)) ∈ tw_tbl := tw_mem (List.mem_append_right _ (List.mem_of_getElem? (i := 839) (by decide +kernel))) rfl
theorem mw_840 : (Cond.code (⟨"StoryMachine$Engine", "divisor", "(I)I"⟩) prog_4_method_12_code 1 (some .int)) ∈ tw_tbl := tw_mem (List.mem_append_right _ (List.mem_of_getElem? (i := 840) (by decide +kernel))) rfl
theorem mw_841 : (Cond.instantiable "java/lang/ArithmeticException" 6) ∈ tw_tbl := tw_mem (List.mem_append_right _ (List.mem_of_getElem? (i := 841) (by decide +kernel))) rfl
theorem mw_842 : (Cond.castable "java/lang/ArithmeticException" "java/lang/ArithmeticException") ∈ tw_tbl := tw_mem (List.mem_append_right _ (List.mem_of_getElem? (i := 842) (by decide +kernel))) rfl
theorem mw_843 : (Cond.selects "java/lang/ArithmeticException" (⟨"java/lang/Throwable", "fillInStackTrace", "(I)Ljava/lang/Throwable;"⟩) (⟨"java/lang/Throwable", "fillInStackTrace", "(I)Ljava/lang/Throwable;"⟩)) ∈ tw_tbl := tw_mem (List.mem_append_right _ (List.mem_of_getElem? (i := 843) (by decide +kernel))) rfl
theorem mw_844 : (Cond.lays "java/lang/ArithmeticException" "java/lang/Throwable" "cause" "Ljava/lang/Throwable;") ∈ tw_tbl := tw_mem (List.mem_append_right _ (List.mem_of_getElem? (i := 844) (by decide +kernel))) rfl
theorem mw_845 : (Cond.lays "java/lang/ArithmeticException" "java/lang/Throwable" "stackTrace" "[Ljava/lang/StackTraceElement;") ∈ tw_tbl := tw_mem (List.mem_append_right _ (List.mem_of_getElem? (i := 845) (by decide +kernel))) rfl
theorem mw_846 : (Cond.lays "java/lang/ArithmeticException" "java/lang/Throwable" "suppressedExceptions" "Ljava/util/List;") ∈ tw_tbl := tw_mem (List.mem_append_right _ (List.mem_of_getElem? (i := 846) (by decide +kernel))) rfl
theorem mw_847 : (Cond.lays "java/lang/ArithmeticException" "java/lang/Throwable" "detailMessage" "Ljava/lang/String;") ∈ tw_tbl := tw_mem (List.mem_append_right _ (List.mem_of_getElem? (i := 847) (by decide +kernel))) rfl
theorem mw_848 : (Cond.lays "java/lang/ArithmeticException" "java/lang/Throwable" "backtrace" "Ljava/lang/Object;") ∈ tw_tbl := tw_mem (List.mem_append_right _ (List.mem_of_getElem? (i := 848) (by decide +kernel))) rfl
theorem mw_849 : (Cond.methodLink "StoryMachine$Engine" 258 (⟨"java/lang/ArithmeticException", "<init>", "()V"⟩)) ∈ tw_tbl := tw_mem (List.mem_append_right _ (List.mem_of_getElem? (i := 849) (by decide +kernel))) rfl
theorem mw_850 : (Cond.instanceMethod (⟨"java/lang/ArithmeticException", "<init>", "()V"⟩)) ∈ tw_tbl := tw_mem (List.mem_append_right _ (List.mem_of_getElem? (i := 850) (by decide +kernel))) rfl
theorem mw_851 : (Cond.code (⟨"java/lang/ArithmeticException", "<init>", "()V"⟩) prog_14_method_1_code 1 none) ∈ tw_tbl := tw_mem (List.mem_append_right _ (List.mem_of_getElem? (i := 851) (by decide +kernel))) rfl
theorem mw_852 : (Cond.methodLink "java/lang/ArithmeticException" 1 (⟨"java/lang/RuntimeException", "<init>", "()V"⟩)) ∈ tw_tbl := tw_mem (List.mem_append_right _ (List.mem_of_getElem? (i := 852) (by decide +kernel))) rfl
theorem mw_856 : (Cond.methodLink "StoryMachine$Engine" 221 (⟨"StoryMachine$Tree", "setAttribute", "(IIZ)V"⟩)) ∈ tw_tbl := tw_mem (List.mem_append_right _ (List.mem_of_getElem? (i := 856) (by decide +kernel))) rfl
theorem mw_857 : (Cond.instanceMethod (⟨"StoryMachine$Tree", "setAttribute", "(IIZ)V"⟩)) ∈ tw_tbl := tw_mem (List.mem_append_right _ (List.mem_of_getElem? (i := 857) (by decide +kernel))) rfl
theorem mw_858 : (Cond.selects "StoryMachine$Tree" (⟨"StoryMachine$Tree", "setAttribute", "(IIZ)V"⟩) (⟨"StoryMachine$Tree", "setAttribute", "(IIZ)V"⟩)) ∈ tw_tbl := tw_mem (List.mem_append_right _ (List.mem_of_getElem? (i := 858) (by decide +kernel))) rfl
theorem mw_859 : (Cond.code (⟨"StoryMachine$Tree", "setAttribute", "(IIZ)V"⟩) prog_10_method_8_code 7 none) ∈ tw_tbl := tw_mem (List.mem_append_right _ (List.mem_of_getElem? (i := 859) (by decide +kernel))) rfl
theorem mw_860 : (Cond.methodLink "StoryMachine$Engine" 224 (⟨"StoryMachine$Tree", "putInto", "(II)V"⟩)) ∈ tw_tbl := tw_mem (List.mem_append_right _ (List.mem_of_getElem? (i := 860) (by decide +kernel))) rfl
theorem mw_861 : (Cond.instanceMethod (⟨"StoryMachine$Tree", "putInto", "(II)V"⟩)) ∈ tw_tbl := tw_mem (List.mem_append_right _ (List.mem_of_getElem? (i := 861) (by decide +kernel))) rfl
theorem mw_862 : (Cond.selects "StoryMachine$Tree" (⟨"StoryMachine$Tree", "putInto", "(II)V"⟩) (⟨"StoryMachine$Tree", "putInto", "(II)V"⟩)) ∈ tw_tbl := tw_mem (List.mem_append_right _ (List.mem_of_getElem? (i := 862) (by decide +kernel))) rfl
theorem mw_863 : (Cond.code (⟨"StoryMachine$Tree", "putInto", "(II)V"⟩) prog_10_method_11_code 5 none) ∈ tw_tbl := tw_mem (List.mem_append_right _ (List.mem_of_getElem? (i := 863) (by decide +kernel))) rfl
theorem mw_864 : (Cond.methodLink "StoryMachine$Tree" 39 (⟨"StoryMachine$Tree", "takeFromParent", "(I)V"⟩)) ∈ tw_tbl := tw_mem (List.mem_append_right _ (List.mem_of_getElem? (i := 864) (by decide +kernel))) rfl
theorem mw_865 : (Cond.methodLink "StoryMachine$Engine" 130 (⟨"StoryMachine$Engine", "doMany", "(III)V"⟩)) ∈ tw_tbl := tw_mem (List.mem_append_right _ (List.mem_of_getElem? (i := 865) (by decide +kernel))) rfl
theorem mw_867 : (Cond.instanceMethod (⟨"StoryMachine$Engine", "doMany", "(III)V"⟩)) ∈ tw_tbl := tw_mem (List.mem_append_right _ (List.mem_of_getElem? (i := 867) (by decide +kernel))) rfl
theorem mw_868 : (Cond.code (⟨"StoryMachine$Engine", "doMany", "(III)V"⟩) prog_4_method_13_code 4 none) ∈ tw_tbl := tw_mem (List.mem_append_right _ (List.mem_of_getElem? (i := 868) (by decide +kernel))) rfl
theorem mw_869 : (Cond.methodLink "StoryMachine$Engine" 259 (⟨"StoryMachine$Engine", "call", "(I)V"⟩)) ∈ tw_tbl := tw_mem (List.mem_append_right _ (List.mem_of_getElem? (i := 869) (by decide +kernel))) rfl
theorem mw_871 : (Cond.instanceMethod (⟨"StoryMachine$Engine", "call", "(I)V"⟩)) ∈ tw_tbl := tw_mem (List.mem_append_right _ (List.mem_of_getElem? (i := 871) (by decide +kernel))) rfl
theorem mw_872 : (Cond.code (⟨"StoryMachine$Engine", "call", "(I)V"⟩) prog_4_method_15_code 6 none) ∈ tw_tbl := tw_mem (List.mem_append_right _ (List.mem_of_getElem? (i := 872) (by decide +kernel))) rfl
theorem mw_873 : (Cond.methodLink "StoryMachine$Engine" 289 (⟨"StoryMachine$Routines", "demandRoom", "()V"⟩)) ∈ tw_tbl := tw_mem (List.mem_append_right _ (List.mem_of_getElem? (i := 873) (by decide +kernel))) rfl
theorem mw_874 : (Cond.instanceMethod (⟨"StoryMachine$Routines", "demandRoom", "()V"⟩)) ∈ tw_tbl := tw_mem (List.mem_append_right _ (List.mem_of_getElem? (i := 874) (by decide +kernel))) rfl
theorem mw_875 : (Cond.selects "StoryMachine$Routines" (⟨"StoryMachine$Routines", "demandRoom", "()V"⟩) (⟨"StoryMachine$Routines", "demandRoom", "()V"⟩)) ∈ tw_tbl := tw_mem (List.mem_append_right _ (List.mem_of_getElem? (i := 875) (by decide +kernel))) rfl
theorem mw_876 : (Cond.code (⟨"StoryMachine$Routines", "demandRoom", "()V"⟩) prog_9_method_10_code 1 none) ∈ tw_tbl := tw_mem (List.mem_append_right _ (List.mem_of_getElem? (i := 876) (by decide +kernel))) rfl
theorem mw_877 : (Cond.methodLink "StoryMachine$Engine" 292 (⟨"java/lang/IllegalArgumentException", "<init>", "()V"⟩)) ∈ tw_tbl := tw_mem (List.mem_append_right _ (List.mem_of_getElem? (i := 877) (by decide +kernel))) rfl
theorem mw_878 : (Cond.methodLink "StoryMachine$Engine" 293 (⟨"StoryMachine$Routines", "open", "([IIII)V"⟩)) ∈ tw_tbl := tw_mem (List.mem_append_right _ (List.mem_of_getElem? (i := 878) (by decide +kernel))) rfl
theorem mw_879 : (Cond.instanceMethod (⟨"StoryMachine$Routines", "open", "([IIII)V"⟩)) ∈ tw_tbl := tw_mem (List.mem_append_right _ (List.mem_of_getElem? (i := 879) (by decide +kernel))) rfl
theorem mw_880 : (Cond.selects "StoryMachine$Routines" (⟨"StoryMachine$Routines", "open", "([IIII)V"⟩) (⟨"StoryMachine$Routines", "open", "([IIII)V"⟩)) ∈ tw_tbl := tw_mem (List.mem_append_right _ (List.mem_of_getElem? (i := 880) (by decide +kernel))) rfl
theorem mw_881 : (Cond.code (⟨"StoryMachine$Routines", "open", "([IIII)V"⟩) prog_9_method_11_code 5 none) ∈ tw_tbl := tw_mem (List.mem_append_right _ (List.mem_of_getElem? (i := 881) (by decide +kernel))) rfl
theorem mw_882 : (Cond.methodLink "StoryMachine$Routines" 46 (⟨"StoryMachine$Routines", "demandRoom", "()V"⟩)) ∈ tw_tbl := tw_mem (List.mem_append_right _ (List.mem_of_getElem? (i := 882) (by decide +kernel))) rfl
theorem mw_883 : (Cond.methodLink "StoryMachine$Engine" 262 (⟨"StoryMachine$Memory", "writeWord", "(II)V"⟩)) ∈ tw_tbl := tw_mem (List.mem_append_right _ (List.mem_of_getElem? (i := 883) (by decide +kernel))) rfl
theorem mw_884 : (Cond.methodLink "StoryMachine$Engine" 265 (⟨"StoryMachine$Memory", "writeByte", "(II)V"⟩)) ∈ tw_tbl := tw_mem (List.mem_append_right _ (List.mem_of_getElem? (i := 884) (by decide +kernel))) rfl
theorem mw_885 : (Cond.methodLink "StoryMachine$Engine" 268 (⟨"StoryMachine$Tree", "setProperty", "(III)V"⟩)) ∈ tw_tbl := tw_mem (List.mem_append_right _ (List.mem_of_getElem? (i := 885) (by decide +kernel))) rfl
theorem mw_886 : (Cond.instanceMethod (⟨"StoryMachine$Tree", "setProperty", "(III)V"⟩)) ∈ tw_tbl := tw_mem (List.mem_append_right _ (List.mem_of_getElem? (i := 886) (by decide +kernel))) rfl
theorem mw_887 : (Cond.selects "StoryMachine$Tree" (⟨"StoryMachine$Tree", "setProperty", "(III)V"⟩) (⟨"StoryMachine$Tree", "setProperty", "(III)V"⟩)) ∈ tw_tbl := tw_mem (List.mem_append_right _ (List.mem_of_getElem? (i := 887) (by decide +kernel))) rfl
theorem mw_888 : (Cond.code (⟨"StoryMachine$Tree", "setProperty", "(III)V"⟩) prog_10_method_19_code 6 none) ∈ tw_tbl := tw_mem (List.mem_append_right _ (List.mem_of_getElem? (i := 888) (by decide +kernel))) rfl
theorem mw_889 : (Cond.methodLink "StoryMachine$Tree" 55 (⟨"StoryMachine$Memory", "writeWord", "(II)V"⟩)) ∈ tw_tbl := tw_mem (List.mem_append_right _ (List.mem_of_getElem? (i := 889) (by decide +kernel))) rfl
theorem mw_890 : (Cond.methodLink "StoryMachine$Engine" 271 (⟨"StoryMachine$Engine", "readLine", "(II)V"⟩)) ∈ tw_tbl := tw_mem (List.mem_append_right _ (List.mem_of_getElem? (i := 890) (by decide +kernel))) rfl
theorem mw_892 : (Cond.instanceMethod (⟨"StoryMachine$Engine", "readLine", "(II)V"⟩)) ∈ tw_tbl := tw_mem (List.mem_append_right _ (List.mem_of_getElem? (i := 892) (by decide +kernel))) rfl
theorem mw_893 : (Cond.code (⟨"StoryMachine$Engine", "readLine", "(II)V"⟩) prog_4_method_19_code 8 none) ∈ tw_tbl := tw_mem (List.mem_append_right _ (List.mem_of_getElem? (i := 893) (by decide +kernel))) rfl
theorem mw_894 : (Cond.methodLink "StoryMachine$Engine" 310 (⟨"java/lang/Math", "min", "(II)I"⟩)) ∈ tw_tbl := tw_mem (List.mem_append_right _ (List.mem_of_getElem? (i := 894) (by decide +kernel))) rfl
theorem mw_895 : (Cond.static (⟨"java/lang/Math", "min", "(II)I"⟩)) ∈ tw_tbl := tw_mem (List.mem_append_right _ (List.mem_of_getElem? (i := 895) (by decide +kernel))) rfl
theorem mw_896 : (Cond.code (⟨"java/lang/Math", "min", "(II)I"⟩) prog_20_method_69_code 2 (some .int)) ∈ tw_tbl := tw_mem (List.mem_append_right _ (List.mem_of_getElem? (i := 896) (by decide +kernel))) rfl
theorem mw_897 : (Cond.methodLink "StoryMachine$Engine" 318 (⟨"StoryMachine$Dictionary", "split", "([II)V"⟩)) ∈ tw_tbl := tw_mem (List.mem_append_right _ (List.mem_of_getElem? (i := 897) (by decide +kernel))) rfl
theorem mw_898 : (Cond.instanceMethod (⟨"StoryMachine$Dictionary", "split", "([II)V"⟩)) ∈ tw_tbl := tw_mem (List.mem_append_right _ (List.mem_of_getElem? (i := 898) (by decide +kernel))) rfl
theorem mw_899 : (Cond.selects "StoryMachine$Dictionary" (⟨"StoryMachine$Dictionary", "split", "([II)V"⟩) (⟨"StoryMachine$Dictionary", "split", "([II)V"⟩)) ∈ tw_tbl := tw_mem (List.mem_append_right _ (List.mem_of_getElem? (i := 899) (by decide +kernel))) rfl
theorem mw_900 : (Cond.code (⟨"StoryMachine$Dictionary", "split", "([II)V"⟩) prog_3_method_2_code 6 none) ∈ tw_tbl := tw_mem (List.mem_append_right _ (List.mem_of_getElem? (i := 900) (by decide +kernel))) rfl
theorem mw_901 : (Cond.methodLink "StoryMachine$Dictionary" 29 (⟨"StoryMachine$Dictionary", "isSeparator", "(I)Z"⟩)) ∈ tw_tbl := tw_mem (List.mem_append_right _ (List.mem_of_getElem? (i := 901) (by decide +kernel))) rfl
theorem mw_903 : (Cond.instanceMethod (⟨"StoryMachine$Dictionary", "isSeparator", "(I)Z"⟩)) ∈ tw_tbl := tw_mem (List.mem_append_right _ (List.mem_of_getElem? (i := 903) (by decide +kernel))) rfl
theorem mw_904 : (Cond.code (⟨"StoryMachine$Dictionary", "isSeparator", "(I)Z"⟩) prog_3_method_4_code 5 (some .boolean)) ∈ tw_tbl := tw_mem (List.mem_append_right _ (List.mem_of_getElem? (i := 904) (by decide +kernel))) rfl
theorem mw_905 : (Cond.methodLink "StoryMachine$Dictionary" 39 (⟨"StoryMachine$Memory", "wordAt", "(I)I"⟩)) ∈ tw_tbl := tw_mem (List.mem_append_right _ (List.mem_of_getElem? (i := 905) (by decide +kernel))) rfl
theorem mw_906 : (Cond.methodLink "StoryMachine$Dictionary" 43 (⟨"StoryMachine$Memory", "byteAt", "(I)I"⟩)) ∈ tw_tbl := tw_mem (List.mem_append_right _ (List.mem_of_getElem? (i := 906) (by decide +kernel))) rfl
theorem mw_907 : (Cond.methodLink "StoryMachine$Dictionary" 33 (⟨"StoryMachine$Dictionary", "addWord", "(II)V"⟩)) ∈ tw_tbl := tw_mem (List.mem_append_right _ (List.mem_of_getElem? (i := 907) (by decide +kernel))) rfl
theorem mw_909 : (Cond.instanceMethod (⟨"StoryMachine$Dictionary", "addWord", "(II)V"⟩)) ∈ tw_tbl := tw_mem (List.mem_append_right _ (List.mem_of_getElem? (i := 909) (by decide +kernel))) rfl
theorem mw_910 : (Cond.code (⟨"StoryMachine$Dictionary", "addWord", "(II)V"⟩) prog_3_method_3_code 3 none) ∈ tw_tbl := tw_mem (List.mem_append_right _ (List.mem_of_getElem? (i := 910) (by decide +kernel))) rfl
theorem mw_911 : (Cond.methodLink "StoryMachine$Engine" 325 (⟨"StoryMachine$Dictionary", "entryOf", "([II)I"⟩)) ∈ tw_tbl := tw_mem (List.mem_append_right _ (List.mem_of_getElem? (i := 911) (by decide +kernel))) rfl
theorem mw_912 : (Cond.instanceMethod (⟨"StoryMachine$Dictionary", "entryOf", "([II)I"⟩)) ∈ tw_tbl := tw_mem (List.mem_append_right _ (List.mem_of_getElem? (i := 912) (by decide +kernel))) rfl
theorem mw_913 : (Cond.selects "StoryMachine$Dictionary" (⟨"StoryMachine$Dictionary", "entryOf", "([II)I"⟩) (⟨"StoryMachine$Dictionary", "entryOf", "([II)I"⟩)) ∈ tw_tbl := tw_mem (List.mem_append_right _ (List.mem_of_getElem? (i := 913) (by decide +kernel))) rfl
theorem mw_914 : (Cond.code (⟨"StoryMachine$Dictionary", "entryOf", "([II)I"⟩) prog_3_method_5_code 12 (some .int)) ∈ tw_tbl := tw_mem (List.mem_append_right _ (List.mem_of_getElem? (i := 914) (by decide +kernel))) rfl
theorem mw_915 : (Cond.methodLink "StoryMachine$Dictionary" 46 (⟨"StoryMachine$Dictionary", "pack", "([III)V"⟩)) ∈ tw_tbl := tw_mem (List.mem_append_right _ (List.mem_of_getElem? (i := 915) (by decide +kernel))) rfl
theorem mw_917 : (Cond.instanceMethod (⟨"StoryMachine$Dictionary", "pack", "([III)V"⟩)) ∈ tw_tbl := tw_mem (List.mem_append_right _ (List.mem_of_getElem? (i := 917) (by decide +kernel))) rfl
theorem mw_918 : (Cond.code (⟨"StoryMachine$Dictionary", "pack", "([III)V"⟩) prog_3_method_6_code 5 none) ∈ tw_tbl := tw_mem (List.mem_append_right _ (List.mem_of_getElem? (i := 918) (by decide +kernel))) rfl
theorem mw_919 : (Cond.methodLink "StoryMachine$Dictionary" 60 (⟨"StoryMachine$Dictionary", "addCharacter", "(I)V"⟩)) ∈ tw_tbl := tw_mem (List.mem_append_right _ (List.mem_of_getElem? (i := 919) (by decide +kernel))) rfl
theorem mw_921 : (Cond.instanceMethod (⟨"StoryMachine$Dictionary", "addCharacter", "(I)V"⟩)) ∈ tw_tbl := tw_mem (List.mem_append_right _ (List.mem_of_getElem? (i := 921) (by decide +kernel))) rfl
theorem mw_922 : (Cond.code (⟨"StoryMachine$Dictionary", "addCharacter", "(I)V"⟩) prog_3_method_7_code 3 none) ∈ tw_tbl := tw_mem (List.mem_append_right _ (List.mem_of_getElem? (i := 922) (by decide +kernel))) rfl
theorem mw_924 : (Cond.methodLink "StoryMachine$Dictionary" 68 (⟨"java/lang/String", "indexOf", "(I)I"⟩)) ∈ tw_tbl := tw_mem (List.mem_append_right _ (List.mem_of_getElem? (i := 924) (by decide +kernel))) rfl
theorem mw_925 : (Cond.instanceMethod (⟨"java/lang/String", "indexOf", "(I)I"⟩)) ∈ tw_tbl := tw_mem (List.mem_append_right _ (List.mem_of_getElem? (i := 925) (by decide +kernel))) rfl
theorem mw_926 : (Cond.selects "java/lang/String" (⟨"java/lang/String", "indexOf", "(I)I"⟩) (⟨"java/lang/String", "indexOf", "(I)I"⟩)) ∈ tw_tbl := tw_mem (List.mem_append_right _ (List.mem_of_getElem? (i := 926) (by decide +kernel))) rfl
theorem mw_927 : (Cond.code (⟨"java/lang/String", "indexOf", "(I)I"⟩) prog_22_method_79_code 2 (some .int)) ∈ tw_tbl := tw_mem (List.mem_append_right _ (List.mem_of_getElem? (i := 927) (by decide +kernel))) rfl
theorem mw_928 : (Cond.methodLink "java/lang/String" 633 (⟨"java/lang/String", "indexOf", "(II)I"⟩)) ∈ tw_tbl := tw_mem (List.mem_append_right _ (List.mem_of_getElem? (i := 928) (by decide +kernel))) rfl
theorem mw_929 : (Cond.instanceMethod (⟨"java/lang/String", "indexOf", "(II)I"⟩)) ∈ tw_tbl := tw_mem (List.mem_append_right _ (List.mem_of_getElem? (i := 929) (by decide +kernel))) rfl
theorem mw_930 : (Cond.selects "java/lang/String" (⟨"java/lang/String", "indexOf", "(II)I"⟩) (⟨"java/lang/String", "indexOf", "(II)I"⟩)) ∈ tw_tbl := tw_mem (List.mem_append_right _ (List.mem_of_getElem? (i := 930) (by decide +kernel))) rfl
theorem mw_931 : (Cond.code (⟨"java/lang/String", "indexOf", "(II)I"⟩) prog_22_method_80_code 3 (some .int)) ∈ tw_tbl := tw_mem (List.mem_append_right _ (List.mem_of_getElem? (i := 931) (by decide +kernel))) rfl
theorem mw_932 : (Cond.methodLink "java/lang/String" 505 (⟨"java/lang/String", "length", "()I"⟩)) ∈ tw_tbl := tw_mem (List.mem_append_right _ (List.mem_of_getElem? (i := 932) (by decide +kernel))) rfl
theorem mw_933 : (Cond.instanceMethod (⟨"java/lang/String", "length", "()I"⟩)) ∈ tw_tbl := tw_mem (List.mem_append_right _ (List.mem_of_getElem? (i := 933) (by decide +kernel))) rfl
theorem mw_934 : (Cond.selects "java/lang/String" (⟨"java/lang/String", "length", "()I"⟩) (⟨"java/lang/String", "length", "()I"⟩)) ∈ tw_tbl := tw_mem (List.mem_append_right _ (List.mem_of_getElem? (i := 934) (by decide +kernel))) rfl
theorem mw_935 : (Cond.code (⟨"java/lang/String", "length", "()I"⟩) prog_22_method_54_code 1 (some .int)) ∈ tw_tbl := tw_mem (List.mem_append_right _ (List.mem_of_getElem? (i := 935) (by decide +kernel))) rfl
theorem mw_936 : (Cond.methodLink "java/lang/String" 335 (⟨"java/lang/String", "coder", "()B"⟩)) ∈ tw_tbl := tw_mem (List.mem_append_right _ (List.mem_of_getElem? (i := 936) (by decide +kernel))) rfl
theorem mw_937 : (Cond.instanceMethod (⟨"java/lang/String", "coder", "()B"⟩)) ∈ tw_tbl := tw_mem (List.mem_append_right _ (List.mem_of_getElem? (i := 937) (by decide +kernel))) rfl
theorem mw_938 : (Cond.selects "java/lang/String" (⟨"java/lang/String", "coder", "()B"⟩) (⟨"java/lang/String", "coder", "()B"⟩)) ∈ tw_tbl := tw_mem (List.mem_append_right _ (List.mem_of_getElem? (i := 938) (by decide +kernel))) rfl
theorem mw_939 : (Cond.code (⟨"java/lang/String", "coder", "()B"⟩) prog_22_method_152_code 1 (some .byte)) ∈ tw_tbl := tw_mem (List.mem_append_right _ (List.mem_of_getElem? (i := 939) (by decide +kernel))) rfl
theorem mw_940 : (Cond.methodLink "java/lang/String" 637 (⟨"java/lang/StringLatin1", "indexOf", "([BIII)I"⟩)) ∈ tw_tbl := tw_mem (List.mem_append_right _ (List.mem_of_getElem? (i := 940) (by decide +kernel))) rfl
theorem mw_941 : (Cond.static (⟨"java/lang/StringLatin1", "indexOf", "([BIII)I"⟩)) ∈ tw_tbl := tw_mem (List.mem_append_right _ (List.mem_of_getElem? (i := 941) (by decide +kernel))) rfl
theorem mw_942 : (Cond.code (⟨"java/lang/StringLatin1", "indexOf", "([BIII)I"⟩) prog_23_method_22_code 4 (some .int)) ∈ tw_tbl := tw_mem (List.mem_append_right _ (List.mem_of_getElem? (i := 942) (by decide +kernel))) rfl
theorem mw_943 : (Cond.methodLink "java/lang/StringLatin1" 88 (⟨"java/lang/StringLatin1", "canEncode", "(I)Z"⟩)) ∈ tw_tbl := tw_mem (List.mem_append_right _ (List.mem_of_getElem? (i := 943) (by decide +kernel))) rfl
theorem mw_944 : (Cond.static (⟨"java/lang/StringLatin1", "canEncode", "(I)Z"⟩)) ∈ tw_tbl := tw_mem (List.mem_append_right _ (List.mem_of_getElem? (i := 944) (by decide +kernel))) rfl
theorem mw_945 : (Cond.code (⟨"java/lang/StringLatin1", "canEncode", "(I)Z"⟩) prog_23_method_4_code 1 (some .boolean)) ∈ tw_tbl := tw_mem (List.mem_append_right _ (List.mem_of_getElem? (i := 945) (by decide +kernel))) rfl
theorem mw_946 : (Cond.methodLink "java/lang/StringLatin1" 92 (⟨"java/lang/Math", "max", "(II)I"⟩)) ∈ tw_tbl := tw_mem (List.mem_append_right _ (List.mem_of_getElem? (i := 946) (by decide +kernel))) rfl
theorem mw_947 : (Cond.static (⟨"java/lang/Math", "max", "(II)I"⟩)) ∈ tw_tbl := tw_mem (List.mem_append_right _ (List.mem_of_getElem? (i := 947) (by decide +kernel))) rfl
theorem mw_948 : (Cond.code (⟨"java/lang/Math", "max", "(II)I"⟩) prog_20_method_65_code 2 (some .int)) ∈ tw_tbl := tw_mem (List.mem_append_right _ (List.mem_of_getElem? (i := 948) (by decide +kernel))) rfl
theorem mw_949 : (Cond.methodLink "java/lang/StringLatin1" 38 (⟨"java/lang/Math", "min", "(II)I"⟩)) ∈ tw_tbl := tw_mem (List.mem_append_right _ (List.mem_of_getElem? (i := 949) (by decide +kernel))) rfl
theorem mw_950 : (Cond.methodLink "java/lang/StringLatin1" 95 (⟨"java/lang/StringLatin1", "indexOfChar", "([BIII)I"⟩)) ∈ tw_tbl := tw_mem (List.mem_append_right _ (List.mem_of_getElem? (i := 950) (by decide +kernel))) rfl
theorem mw_951 : (Cond.static (⟨"java/lang/StringLatin1", "indexOfChar", "([BIII)I"⟩)) ∈ tw_tbl := tw_mem (List.mem_append_right _ (List.mem_of_getElem? (i := 951) (by decide +kernel))) rfl
theorem mw_952 : (Cond.code (⟨"java/lang/StringLatin1", "indexOfChar", "([BIII)I"⟩) prog_23_method_23_code 6 (some .int)) ∈ tw_tbl := tw_mem (List.mem_append_right _ (List.mem_of_getElem? (i := 952) (by decide +kernel))) rfl
theorem mw_953 : (Cond.methodLink "java/lang/String" 640 (⟨"java/lang/StringUTF16", "indexOf", "([BIII)I"⟩)) ∈ tw_tbl := tw_mem (List.mem_append_right _ (List.mem_of_getElem? (i := 953) (by decide +kernel))) rfl
theorem mw_954 : (Cond.static (⟨"java/lang/StringUTF16", "indexOf", "([BIII)I"⟩)) ∈ tw_tbl := tw_mem (List.mem_append_right _ (List.mem_of_getElem? (i := 954) (by decide +kernel))) rfl
theorem mw_955 : (Cond.code (⟨"java/lang/StringUTF16", "indexOf", "([BIII)I"⟩) prog_24_method_40_code 4 (some .int)) ∈ tw_tbl := tw_mem (List.mem_append_right _ (List.mem_of_getElem? (i := 955) (by decide +kernel))) rfl
theorem mw_956 : (Cond.methodLink "java/lang/StringUTF16" 224 (⟨"java/lang/Math", "max", "(II)I"⟩)) ∈ tw_tbl := tw_mem (List.mem_append_right _ (List.mem_of_getElem? (i := 956) (by decide +kernel))) rfl
theorem mw_957 : (Cond.methodLink "java/lang/StringUTF16" 183 (⟨"java/lang/Math", "min", "(II)I"⟩)) ∈ tw_tbl := tw_mem (List.mem_append_right _ (List.mem_of_getElem? (i := 957) (by decide +kernel))) rfl
theorem mw_958 : (Cond.constant "java/lang/StringUTF16" 227 (65536 : Int32)) ∈ tw_tbl := tw_mem (List.mem_append_right _ (List.mem_of_getElem? (i := 958) (by decide +kernel))) rfl
theorem mw_959 : (Cond.methodLink "java/lang/StringUTF16" 228 (⟨"java/lang/StringUTF16", "indexOfChar", "([BIII)I"⟩)) ∈ tw_tbl := tw_mem (List.mem_append_right _ (List.mem_of_getElem? (i := 959) (by decide +kernel))) rfl
theorem mw_960 : (Cond.static (⟨"java/lang/StringUTF16", "indexOfChar", "([BIII)I"⟩)) ∈ tw_tbl := tw_mem (List.mem_append_right _ (List.mem_of_getElem? (i := 960) (by decide +kernel))) rfl
theorem mw_961 : (Cond.code (⟨"java/lang/StringUTF16", "indexOfChar", "([BIII)I"⟩) prog_24_method_47_code 4 (some .int)) ∈ tw_tbl := tw_mem (List.mem_append_right _ (List.mem_of_getElem? (i := 961) (by decide +kernel))) rfl
theorem mw_962 : (Cond.methodLink "java/lang/StringUTF16" 96 (⟨"java/lang/StringUTF16", "checkBoundsBeginEnd", "(II[B)V"⟩)) ∈ tw_tbl := tw_mem (List.mem_append_right _ (List.mem_of_getElem? (i := 962) (by decide +kernel))) rfl
theorem mw_963 : (Cond.static (⟨"java/lang/StringUTF16", "checkBoundsBeginEnd", "(II[B)V"⟩)) ∈ tw_tbl := tw_mem (List.mem_append_right _ (List.mem_of_getElem? (i := 963) (by decide +kernel))) rfl
theorem mw_964 : (Cond.code (⟨"java/lang/StringUTF16", "checkBoundsBeginEnd", "(II[B)V"⟩) prog_24_method_93_code 3 none) ∈ tw_tbl := tw_mem (List.mem_append_right _ (List.mem_of_getElem? (i := 964) (by decide +kernel))) rfl
theorem mw_965 : (Cond.methodLink "java/lang/StringUTF16" 241 (⟨"java/lang/String", "checkBoundsBeginEnd", "(III)V"⟩)) ∈ tw_tbl := tw_mem (List.mem_append_right _ (List.mem_of_getElem? (i := 965) (by decide +kernel))) rfl
theorem mw_966 : (Cond.static (⟨"java/lang/String", "checkBoundsBeginEnd", "(III)V"⟩)) ∈ tw_tbl := tw_mem (List.mem_append_right _ (List.mem_of_getElem? (i := 966) (by decide +kernel))) rfl
theorem mw_967 : (Cond.code (⟨"java/lang/String", "checkBoundsBeginEnd", "(III)V"⟩) prog_22_method_158_code 3 none) ∈ tw_tbl := tw_mem (List.mem_append_right _ (List.mem_of_getElem? (i := 967) (by decide +kernel))) rfl
theorem mw_968 : (Cond.methodLink "java/lang/String" 1062 (⟨"jdk/internal/util/Preconditions", "checkFromToIndex", "(IIILjava/util/function/BiFunction;)I"⟩)) ∈ tw_tbl := tw_mem (List.mem_append_right _ (List.mem_of_getElem? (i := 968) (by decide +kernel))) rfl
theorem mw_969 : (Cond.static (⟨"jdk/internal/util/Preconditions", "checkFromToIndex", "(IIILjava/util/function/BiFunction;)I"⟩)) ∈ tw_tbl := tw_mem (List.mem_append_right _ (List.mem_of_getElem? (i := 969) (by decide +kernel))) rfl
theorem mw_970 : (Cond.code (⟨"jdk/internal/util/Preconditions", "checkFromToIndex", "(IIILjava/util/function/BiFunction;)I"⟩) prog_28_method_12_code 4 (some .int)) ∈ tw_tbl := tw_mem (List.mem_append_right _ (List.mem_of_getElem? (i := 970) (by decide +kernel))) rfl
theorem mw_971 : (Cond.methodLink "java/lang/StringUTF16" 244 (⟨"java/lang/StringUTF16", "indexOfCharUnsafe", "([BIII)I"⟩)) ∈ tw_tbl := tw_mem (List.mem_append_right _ (List.mem_of_getElem? (i := 971) (by decide +kernel))) rfl
theorem mw_972 : (Cond.static (⟨"java/lang/StringUTF16", "indexOfCharUnsafe", "([BIII)I"⟩)) ∈ tw_tbl := tw_mem (List.mem_append_right _ (List.mem_of_getElem? (i := 972) (by decide +kernel))) rfl
theorem mw_973 : (Cond.code (⟨"java/lang/StringUTF16", "indexOfCharUnsafe", "([BIII)I"⟩) prog_24_method_48_code 5 (some .int)) ∈ tw_tbl := tw_mem (List.mem_append_right _ (List.mem_of_getElem? (i := 973) (by decide +kernel))) rfl
theorem mw_974 : (Cond.methodLink "java/lang/StringUTF16" 232 (⟨"java/lang/StringUTF16", "indexOfSupplementary", "([BIII)I"⟩)) ∈ tw_tbl := tw_mem (List.mem_append_right _ (List.mem_of_getElem? (i := 974) (by decide +kernel))) rfl
theorem mw_975 : (Cond.static (⟨"java/lang/StringUTF16", "indexOfSupplementary", "([BIII)I"⟩)) ∈ tw_tbl := tw_mem (List.mem_append_right _ (List.mem_of_getElem? (i := 975) (by decide +kernel))) rfl
theorem mw_976 : (Cond.code (⟨"java/lang/StringUTF16", "indexOfSupplementary", "([BIII)I"⟩) prog_24_method_49_code 7 (some .int)) ∈ tw_tbl := tw_mem (List.mem_append_right _ (List.mem_of_getElem? (i := 976) (by decide +kernel))) rfl
theorem mw_977 : (Cond.methodLink "java/lang/StringUTF16" 164 (⟨"java/lang/Character", "isValidCodePoint", "(I)Z"⟩)) ∈ tw_tbl := tw_mem (List.mem_append_right _ (List.mem_of_getElem? (i := 977) (by decide +kernel))) rfl
theorem mw_978 : (Cond.static (⟨"java/lang/Character", "isValidCodePoint", "(I)Z"⟩)) ∈ tw_tbl := tw_mem (List.mem_append_right _ (List.mem_of_getElem? (i := 978) (by decide +kernel))) rfl
theorem mw_979 : (Cond.code (⟨"java/lang/Character", "isValidCodePoint", "(I)Z"⟩) prog_15_method_11_code 2 (some .boolean)) ∈ tw_tbl := tw_mem (List.mem_append_right _ (List.mem_of_getElem? (i := 979) (by decide +kernel))) rfl
theorem mw_980 : (Cond.methodLink "java/lang/StringUTF16" 157 (⟨"java/lang/Character", "highSurrogate", "(I)C"⟩)) ∈ tw_tbl := tw_mem (List.mem_append_right _ (List.mem_of_getElem? (i := 980) (by decide +kernel))) rfl
theorem mw_981 : (Cond.static (⟨"java/lang/Character", "highSurrogate", "(I)C"⟩)) ∈ tw_tbl := tw_mem (List.mem_append_right _ (List.mem_of_getElem? (i := 981) (by decide +kernel))) rfl
theorem mw_982 : (Cond.code (⟨"java/lang/Character", "highSurrogate", "(I)C"⟩) prog_15_method_28_code 1 (some .char)) ∈ tw_tbl := tw_mem (List.mem_append_right _ (List.mem_of_getElem? (i := 982) (by decide +kernel))) rfl
theorem mw_983 : (Cond.constant "java/lang/Character" 110 (55232 : Int32)) ∈ tw_tbl := tw_mem (List.mem_append_right _ (List.mem_of_getElem? (i := 983) (by decide +kernel))) rfl
theorem mw_984 : (Cond.methodLink "java/lang/StringUTF16" 161 (⟨"java/lang/Character", "lowSurrogate", "(I)C"⟩)) ∈ tw_tbl := tw_mem (List.mem_append_right _ (List.mem_of_getElem? (i := 984) (by decide +kernel))) rfl
theorem mw_985 : (Cond.static (⟨"java/lang/Character", "lowSurrogate", "(I)C"⟩)) ∈ tw_tbl := tw_mem (List.mem_append_right _ (List.mem_of_getElem? (i := 985) (by decide +kernel))) rfl
theorem mw_986 : (Cond.code (⟨"java/lang/Character", "lowSurrogate", "(I)C"⟩) prog_15_method_29_code 1 (some .char)) ∈ tw_tbl := tw_mem (List.mem_append_right _ (List.mem_of_getElem? (i := 986) (by decide +kernel))) rfl
theorem mw_987 : (Cond.constant "java/lang/Character" 76 (56320 : Int32)) ∈ tw_tbl := tw_mem (List.mem_append_right _ (List.mem_of_getElem? (i := 987) (by decide +kernel))) rfl
theorem mw_988 : (Cond.methodLink "StoryMachine$Dictionary" 73 (⟨"StoryMachine$Dictionary", "addLetter", "(I)V"⟩)) ∈ tw_tbl := tw_mem (List.mem_append_right _ (List.mem_of_getElem? (i := 988) (by decide +kernel))) rfl
theorem mw_990 : (Cond.instanceMethod (⟨"StoryMachine$Dictionary", "addLetter", "(I)V"⟩)) ∈ tw_tbl := tw_mem (List.mem_append_right _ (List.mem_of_getElem? (i := 990) (by decide +kernel))) rfl
theorem mw_991 : (Cond.code (⟨"StoryMachine$Dictionary", "addLetter", "(I)V"⟩) prog_3_method_8_code 2 none) ∈ tw_tbl := tw_mem (List.mem_append_right _ (List.mem_of_getElem? (i := 991) (by decide +kernel))) rfl
theorem mw_992 : (Cond.methodLink "StoryMachine$Dictionary" 50 (⟨"StoryMachine$Dictionary", "packedWord", "(I)I"⟩)) ∈ tw_tbl := tw_mem (List.mem_append_right _ (List.mem_of_getElem? (i := 992) (by decide +kernel))) rfl
theorem mw_994 : (Cond.instanceMethod (⟨"StoryMachine$Dictionary", "packedWord", "(I)I"⟩)) ∈ tw_tbl := tw_mem (List.mem_append_right _ (List.mem_of_getElem? (i := 994) (by decide +kernel))) rfl
theorem mw_995 : (Cond.code (⟨"StoryMachine$Dictionary", "packedWord", "(I)I"⟩) prog_3_method_9_code 2 (some .int)) ∈ tw_tbl := tw_mem (List.mem_append_right _ (List.mem_of_getElem? (i := 995) (by decide +kernel))) rfl
theorem mw_996 : (Cond.constant "StoryMachine$Dictionary" 53 (32768 : Int32)) ∈ tw_tbl := tw_mem (List.mem_append_right _ (List.mem_of_getElem? (i := 996) (by decide +kernel))) rfl
theorem mw_997 : (Cond.classLink "StoryMachine$Dictionary" 54 "java/lang/IllegalArgumentException") ∈ tw_tbl := tw_mem (List.mem_append_right _ (List.mem_of_getElem? (i := 997) (by decide +kernel))) rfl
theorem mw_998 : (Cond.methodLink "StoryMachine$Dictionary" 56 (⟨"java/lang/IllegalArgumentException", "<init>", "()V"⟩)) ∈ tw_tbl := tw_mem (List.mem_append_right _ (List.mem_of_getElem? (i := 998) (by decide +kernel))) rfl
theorem mw_999 : (Cond.methodLink "StoryMachine$Engine" 274 (⟨"StoryMachine$Printer", "putNumber", "(I)V"⟩)) ∈ tw_tbl := tw_mem (List.mem_append_right _ (List.mem_of_getElem? (i := 999) (by decide +kernel))) rfl
theorem mw_1000 : (Cond.instanceMethod (⟨"StoryMachine$Printer", "putNumber", "(I)V"⟩)) ∈ tw_tbl := tw_mem (List.mem_append_right _ (List.mem_of_getElem? (i := 1000) (by decide +kernel))) rfl
theorem mw_1001 : (Cond.selects "StoryMachine$Printer" (⟨"StoryMachine$Printer", "putNumber", "(I)V"⟩) (⟨"StoryMachine$Printer", "putNumber", "(I)V"⟩)) ∈ tw_tbl := tw_mem (List.mem_append_right _ (List.mem_of_getElem? (i := 1001) (by decide +kernel))) rfl
theorem mw_1002 : (Cond.code (⟨"StoryMachine$Printer", "putNumber", "(I)V"⟩) prog_8_method_4_code 4 none) ∈ tw_tbl := tw_mem (List.mem_append_right _ (List.mem_of_getElem? (i := 1002) (by decide +kernel))) rfl
theorem mw_1003 : (Cond.methodLink "StoryMachine$Printer" 25 (⟨"java/lang/Math", "abs", "(I)I"⟩)) ∈ tw_tbl := tw_mem (List.mem_append_right _ (List.mem_of_getElem? (i := 1003) (by decide +kernel))) rfl
theorem mw_1004 : (Cond.static (⟨"java/lang/Math", "abs", "(I)I"⟩)) ∈ tw_tbl := tw_mem (List.mem_append_right _ (List.mem_of_getElem? (i := 1004) (by decide +kernel))) rfl
theorem mw_1005 : (Cond.code (⟨"java/lang/Math", "abs", "(I)I"⟩) prog_20_method_59_code 1 (some .int)) ∈ tw_tbl := tw_mem (List.mem_append_right _ (List.mem_of_getElem? (i := 1005) (by decide +kernel))) rfl
theorem mw_1006 : (Cond.methodLink "StoryMachine$Engine" 277 (⟨"StoryMachine$Engine", "randomNumber", "(I)I"⟩)) ∈ tw_tbl := tw_mem (List.mem_append_right _ (List.mem_of_getElem? (i := 1006) (by decide +kernel))) rfl
theorem mw_1008 : (Cond.instanceMethod (⟨"StoryMachine$Engine", "randomNumber", "(I)I"⟩)) ∈ tw_tbl := tw_mem (List.mem_append_right _ (List.mem_of_getElem? (i := 1008) (by decide +kernel))) rfl
theorem mw_1009 : (Cond.code (⟨"StoryMachine$Engine", "randomNumber", "(I)I"⟩) prog_4_method_18_code 2 (some .int)) ∈ tw_tbl := tw_mem (List.mem_append_right _ (List.mem_of_getElem? (i := 1009) (by decide +kernel))) rfl
theorem mw_1010 : (Cond.methodLink "StoryMachine$Engine" 280 (⟨"StoryMachine$Routines", "push", "(I)V"⟩)) ∈ tw_tbl := tw_mem (List.mem_append_right _ (List.mem_of_getElem? (i := 1010) (by decide +kernel))) rfl
theorem mw_1011 : (Cond.methodLink "StoryMachineLaw" 85 (⟨"StoryMachineLaw", "output", "(LStoryMachine;I[J)I"⟩)) ∈ tw_tbl := tw_mem (List.mem_append_right _ (List.mem_of_getElem? (i := 1011) (by decide +kernel))) rfl
theorem mw_1012 : (Cond.static (⟨"StoryMachineLaw", "output", "(LStoryMachine;I[J)I"⟩)) ∈ tw_tbl := tw_mem (List.mem_append_right _ (List.mem_of_getElem? (i := 1012) (by decide +kernel))) rfl
theorem mw_1013 : (Cond.codeWith (⟨"StoryMachineLaw", "output", "(LStoryMachine;I[J)I"⟩) method_8_code 4 (some .int) [(0, 9, 12, 34)]) ∈ tw_tbl := tw_mem (List.mem_append_right _ (List.mem_of_getElem? (i := 1013) (by decide +kernel))) rfl
theorem mw_1014 : (Cond.classLink "StoryMachineLaw" 34 "java/lang/IndexOutOfBoundsException") ∈ tw_tbl := tw_mem (List.mem_append_right _ (List.mem_of_getElem? (i := 1014) (by decide +kernel))) rfl
theorem mw_1015 : (Cond.methodLink "StoryMachineLaw" 31 (⟨"StoryMachine", "output", "(I)I"⟩)) ∈ tw_tbl := tw_mem (List.mem_append_right _ (List.mem_of_getElem? (i := 1015) (by decide +kernel))) rfl
theorem mw_1016 : (Cond.instanceMethod (⟨"StoryMachine", "output", "(I)I"⟩)) ∈ tw_tbl := tw_mem (List.mem_append_right _ (List.mem_of_getElem? (i := 1016) (by decide +kernel))) rfl
theorem mw_1017 : (Cond.selects "StoryMachine" (⟨"StoryMachine", "output", "(I)I"⟩) (⟨"StoryMachine", "output", "(I)I"⟩)) ∈ tw_tbl := tw_mem (List.mem_append_right _ (List.mem_of_getElem? (i := 1017) (by decide +kernel))) rfl
theorem mw_1018 : (Cond.code (⟨"StoryMachine", "output", "(I)I"⟩) prog_1_method_10_code 2 (some .int)) ∈ tw_tbl := tw_mem (List.mem_append_right _ (List.mem_of_getElem? (i := 1018) (by decide +kernel))) rfl
theorem mw_1019 : (Cond.classLink "StoryMachine" 97 "java/lang/IndexOutOfBoundsException") ∈ tw_tbl := tw_mem (List.mem_append_right _ (List.mem_of_getElem? (i := 1019) (by decide +kernel))) rfl
theorem mw_1020 : (Cond.instantiable "java/lang/IndexOutOfBoundsException" 6) ∈ tw_tbl := tw_mem (List.mem_append_right _ (List.mem_of_getElem? (i := 1020) (by decide +kernel))) rfl
theorem mw_1021 : (Cond.castable "java/lang/IndexOutOfBoundsException" "java/lang/IndexOutOfBoundsException") ∈ tw_tbl := tw_mem (List.mem_append_right _ (List.mem_of_getElem? (i := 1021) (by decide +kernel))) rfl
theorem mw_1022 : (Cond.selects "java/lang/IndexOutOfBoundsException" (⟨"java/lang/Throwable", "fillInStackTrace", "(I)Ljava/lang/Throwable;"⟩) (⟨"java/lang/Throwable", "fillInStackTrace", "(I)Ljava/lang/Throwable;"⟩)) ∈ tw_tbl := tw_mem (List.mem_append_right _ (List.mem_of_getElem? (i := 1022) (by decide +kernel))) rfl
theorem mw_1023 : (Cond.lays "java/lang/IndexOutOfBoundsException" "java/lang/Throwable" "cause" "Ljava/lang/Throwable;") ∈ tw_tbl := tw_mem (List.mem_append_right _ (List.mem_of_getElem? (i := 1023) (by decide +kernel))) rfl
theorem mw_1024 : (Cond.lays "java/lang/IndexOutOfBoundsException" "java/lang/Throwable" "stackTrace" "[Ljava/lang/StackTraceElement;") ∈ tw_tbl := tw_mem (List.mem_append_right _ (List.mem_of_getElem? (i := 1024) (by decide +kernel))) rfl
theorem mw_1025 : (Cond.lays "java/lang/IndexOutOfBoundsException" "java/lang/Throwable" "suppressedExceptions" "Ljava/util/List;") ∈ tw_tbl := tw_mem (List.mem_append_right _ (List.mem_of_getElem? (i := 1025) (by decide +kernel))) rfl
theorem mw_1026 : (Cond.lays "java/lang/IndexOutOfBoundsException" "java/lang/Throwable" "detailMessage" "Ljava/lang/String;") ∈ tw_tbl := tw_mem (List.mem_append_right _ (List.mem_of_getElem? (i := 1026) (by decide +kernel))) rfl
theorem mw_1027 : (Cond.lays "java/lang/IndexOutOfBoundsException" "java/lang/Throwable" "backtrace" "Ljava/lang/Object;") ∈ tw_tbl := tw_mem (List.mem_append_right _ (List.mem_of_getElem? (i := 1027) (by decide +kernel))) rfl
theorem mw_1028 : (Cond.methodLink "StoryMachine" 99 (⟨"java/lang/IndexOutOfBoundsException", "<init>", "()V"⟩)) ∈ tw_tbl := tw_mem (List.mem_append_right _ (List.mem_of_getElem? (i := 1028) (by decide +kernel))) rfl
theorem mw_1029 : (Cond.instanceMethod (⟨"java/lang/IndexOutOfBoundsException", "<init>", "()V"⟩)) ∈ tw_tbl := tw_mem (List.mem_append_right _ (List.mem_of_getElem? (i := 1029) (by decide +kernel))) rfl
theorem mw_1030 : (Cond.code (⟨"java/lang/IndexOutOfBoundsException", "<init>", "()V"⟩) prog_19_method_1_code 1 none) ∈ tw_tbl := tw_mem (List.mem_append_right _ (List.mem_of_getElem? (i := 1030) (by decide +kernel))) rfl
theorem mw_1031 : (Cond.methodLink "java/lang/IndexOutOfBoundsException" 1 (⟨"java/lang/RuntimeException", "<init>", "()V"⟩)) ∈ tw_tbl := tw_mem (List.mem_append_right _ (List.mem_of_getElem? (i := 1031) (by decide +kernel))) rfl
theorem mw_1034 : (Cond.methodLink "StoryMachine" 100 (⟨"StoryMachine$Printer", "latest", "(I)I"⟩)) ∈ tw_tbl := tw_mem (List.mem_append_right _ (List.mem_of_getElem? (i := 1034) (by decide +kernel))) rfl
theorem mw_1035 : (Cond.instanceMethod (⟨"StoryMachine$Printer", "latest", "(I)I"⟩)) ∈ tw_tbl := tw_mem (List.mem_append_right _ (List.mem_of_getElem? (i := 1035) (by decide +kernel))) rfl
theorem mw_1036 : (Cond.selects "StoryMachine$Printer" (⟨"StoryMachine$Printer", "latest", "(I)I"⟩) (⟨"StoryMachine$Printer", "latest", "(I)I"⟩)) ∈ tw_tbl := tw_mem (List.mem_append_right _ (List.mem_of_getElem? (i := 1036) (by decide +kernel))) rfl
theorem mw_1037 : (Cond.code (⟨"StoryMachine$Printer", "latest", "(I)I"⟩) prog_8_method_3_code 2 (some .int)) ∈ tw_tbl := tw_mem (List.mem_append_right _ (List.mem_of_getElem? (i := 1037) (by decide +kernel))) rfl
theorem mw_1038 : (Cond.methodLink "StoryMachineLaw" 88 (⟨"StoryMachineLaw", "stack", "(LStoryMachine;I[J)I"⟩)) ∈ tw_tbl := tw_mem (List.mem_append_right _ (List.mem_of_getElem? (i := 1038) (by decide +kernel))) rfl
theorem mw_1039 : (Cond.static (⟨"StoryMachineLaw", "stack", "(LStoryMachine;I[J)I"⟩)) ∈ tw_tbl := tw_mem (List.mem_append_right _ (List.mem_of_getElem? (i := 1039) (by decide +kernel))) rfl
theorem mw_1040 : (Cond.codeWith (⟨"StoryMachineLaw", "stack", "(LStoryMachine;I[J)I"⟩) method_9_code 4 (some .int) [(0, 9, 12, 34)]) ∈ tw_tbl := tw_mem (List.mem_append_right _ (List.mem_of_getElem? (i := 1040) (by decide +kernel))) rfl
theorem mw_1041 : (Cond.methodLink "StoryMachineLaw" 36 (⟨"StoryMachine", "stack", "(I)I"⟩)) ∈ tw_tbl := tw_mem (List.mem_append_right _ (List.mem_of_getElem? (i := 1041) (by decide +kernel))) rfl
theorem mw_1042 : (Cond.instanceMethod (⟨"StoryMachine", "stack", "(I)I"⟩)) ∈ tw_tbl := tw_mem (List.mem_append_right _ (List.mem_of_getElem? (i := 1042) (by decide +kernel))) rfl
theorem mw_1043 : (Cond.selects "StoryMachine" (⟨"StoryMachine", "stack", "(I)I"⟩) (⟨"StoryMachine", "stack", "(I)I"⟩)) ∈ tw_tbl := tw_mem (List.mem_append_right _ (List.mem_of_getElem? (i := 1043) (by decide +kernel))) rfl
theorem mw_1044 : (Cond.code (⟨"StoryMachine", "stack", "(I)I"⟩) prog_1_method_11_code 2 (some .int)) ∈ tw_tbl := tw_mem (List.mem_append_right _ (List.mem_of_getElem? (i := 1044) (by decide +kernel))) rfl
theorem mw_1045 : (Cond.methodLink "StoryMachineLaw" 91 (⟨"StoryMachineLaw", "local", "(LStoryMachine;I[J)I"⟩)) ∈ tw_tbl := tw_mem (List.mem_append_right _ (List.mem_of_getElem? (i := 1045) (by decide +kernel))) rfl
theorem mw_1046 : (Cond.static (⟨"StoryMachineLaw", "local", "(LStoryMachine;I[J)I"⟩)) ∈ tw_tbl := tw_mem (List.mem_append_right _ (List.mem_of_getElem? (i := 1046) (by decide +kernel))) rfl
theorem mw_1047 : (Cond.codeWith (⟨"StoryMachineLaw", "local", "(LStoryMachine;I[J)I"⟩) method_10_code 4 (some .int) [(0, 9, 12, 34)]) ∈ tw_tbl := tw_mem (List.mem_append_right _ (List.mem_of_getElem? (i := 1047) (by decide +kernel))) rfl
theorem mw_1048 : (Cond.methodLink "StoryMachineLaw" 39 (⟨"StoryMachine", "local", "(I)I"⟩)) ∈ tw_tbl := tw_mem (List.mem_append_right _ (List.mem_of_getElem? (i := 1048) (by decide +kernel))) rfl
theorem mw_1049 : (Cond.instanceMethod (⟨"StoryMachine", "local", "(I)I"⟩)) ∈ tw_tbl := tw_mem (List.mem_append_right _ (List.mem_of_getElem? (i := 1049) (by decide +kernel))) rfl
theorem mw_1050 : (Cond.selects "StoryMachine" (⟨"StoryMachine", "local", "(I)I"⟩) (⟨"StoryMachine", "local", "(I)I"⟩)) ∈ tw_tbl := tw_mem (List.mem_append_right _ (List.mem_of_getElem? (i := 1050) (by decide +kernel))) rfl
theorem mw_1051 : (Cond.code (⟨"StoryMachine", "local", "(I)I"⟩) prog_1_method_12_code 2 (some .int)) ∈ tw_tbl := tw_mem (List.mem_append_right _ (List.mem_of_getElem? (i := 1051) (by decide +kernel))) rfl
theorem mw_1052 : (Cond.methodLink "StoryMachine" 109 (⟨"StoryMachine$Routines", "localCount", "()I"⟩)) ∈ tw_tbl := tw_mem (List.mem_append_right _ (List.mem_of_getElem? (i := 1052) (by decide +kernel))) rfl
theorem mw_1053 : (Cond.instanceMethod (⟨"StoryMachine$Routines", "localCount", "()I"⟩)) ∈ tw_tbl := tw_mem (List.mem_append_right _ (List.mem_of_getElem? (i := 1053) (by decide +kernel))) rfl
theorem mw_1054 : (Cond.selects "StoryMachine$Routines" (⟨"StoryMachine$Routines", "localCount", "()I"⟩) (⟨"StoryMachine$Routines", "localCount", "()I"⟩)) ∈ tw_tbl := tw_mem (List.mem_append_right _ (List.mem_of_getElem? (i := 1054) (by decide +kernel))) rfl
theorem mw_1055 : (Cond.code (⟨"StoryMachine$Routines", "localCount", "()I"⟩) prog_9_method_7_code 1 (some .int)) ∈ tw_tbl := tw_mem (List.mem_append_right _ (List.mem_of_getElem? (i := 1055) (by decide +kernel))) rfl
theorem mw_1056 : (Cond.methodLink "StoryMachine" 112 (⟨"StoryMachine$Routines", "localValue", "(I)I"⟩)) ∈ tw_tbl := tw_mem (List.mem_append_right _ (List.mem_of_getElem? (i := 1056) (by decide +kernel))) rfl
theorem mw_1057 : (Cond.classLink "StoryMachineLaw" 43 "StoryMachineModel") ∈ tw_tbl := tw_mem (List.mem_append_right _ (List.mem_of_getElem? (i := 1057) (by decide +kernel))) rfl
theorem mw_1058 : (Cond.instantiable "StoryMachineModel" 51) ∈ tw_tbl := tw_mem (List.mem_append_right _ (List.mem_of_getElem? (i := 1058) (by decide +kernel))) rfl
theorem mw_1059 : (Cond.methodLink "StoryMachineLaw" 45 (⟨"StoryMachineModel", "<init>", "()V"⟩)) ∈ tw_tbl := tw_mem (List.mem_append_right _ (List.mem_of_getElem? (i := 1059) (by decide +kernel))) rfl
theorem mw_1060 : (Cond.instanceMethod (⟨"StoryMachineModel", "<init>", "()V"⟩)) ∈ tw_tbl := tw_mem (List.mem_append_right _ (List.mem_of_getElem? (i := 1060) (by decide +kernel))) rfl
theorem mw_1061 : (Cond.code (⟨"StoryMachineModel", "<init>", "()V"⟩) prog_13_method_1_code 1 none) ∈ tw_tbl := tw_mem (List.mem_append_right _ (List.mem_of_getElem? (i := 1061) (by decide +kernel))) rfl
theorem mw_1062 : (Cond.methodLink "StoryMachineModel" 1 (⟨"java/lang/Object", "<init>", "()V"⟩)) ∈ tw_tbl := tw_mem (List.mem_append_right _ (List.mem_of_getElem? (i := 1062) (by decide +kernel))) rfl
theorem mw_1063 : (Cond.fieldLink "StoryMachineModel" 73 "StoryMachineModel" "thrown" "I") ∈ tw_tbl := tw_mem (List.mem_append_right _ (List.mem_of_getElem? (i := 1063) (by decide +kernel))) rfl
theorem mw_1064 : (Cond.fieldLink "StoryMachineModel" 7 "StoryMachineModel" "memory" "[I") ∈ tw_tbl := tw_mem (List.mem_append_right _ (List.mem_of_getElem? (i := 1064) (by decide +kernel))) rfl
theorem mw_1065 : (Cond.fieldLink "StoryMachineModel" 94 "StoryMachineModel" "size" "I") ∈ tw_tbl := tw_mem (List.mem_append_right _ (List.mem_of_getElem? (i := 1065) (by decide +kernel))) rfl
theorem mw_1066 : (Cond.fieldLink "StoryMachineModel" 13 "StoryMachineModel" "words" "[I") ∈ tw_tbl := tw_mem (List.mem_append_right _ (List.mem_of_getElem? (i := 1066) (by decide +kernel))) rfl
theorem mw_1067 : (Cond.fieldLink "StoryMachineModel" 97 "StoryMachineModel" "depth" "I") ∈ tw_tbl := tw_mem (List.mem_append_right _ (List.mem_of_getElem? (i := 1067) (by decide +kernel))) rfl
theorem mw_1068 : (Cond.fieldLink "StoryMachineModel" 16 "StoryMachineModel" "many" "[I") ∈ tw_tbl := tw_mem (List.mem_append_right _ (List.mem_of_getElem? (i := 1068) (by decide +kernel))) rfl
theorem mw_1069 : (Cond.fieldLink "StoryMachineModel" 19 "StoryMachineModel" "bottom" "[I") ∈ tw_tbl := tw_mem (List.mem_append_right _ (List.mem_of_getElem? (i := 1069) (by decide +kernel))) rfl
theorem mw_1070 : (Cond.fieldLink "StoryMachineModel" 22 "StoryMachineModel" "back" "[I") ∈ tw_tbl := tw_mem (List.mem_append_right _ (List.mem_of_getElem? (i := 1070) (by decide +kernel))) rfl
theorem mw_1071 : (Cond.fieldLink "StoryMachineModel" 25 "StoryMachineModel" "gets" "[I") ∈ tw_tbl := tw_mem (List.mem_append_right _ (List.mem_of_getElem? (i := 1071) (by decide +kernel))) rfl
theorem mw_1072 : (Cond.fieldLink "StoryMachineModel" 28 "StoryMachineModel" "locals" "[I") ∈ tw_tbl := tw_mem (List.mem_append_right _ (List.mem_of_getElem? (i := 1072) (by decide +kernel))) rfl
theorem mw_1073 : (Cond.fieldLink "StoryMachineModel" 269 "StoryMachineModel" "saved" "Z") ∈ tw_tbl := tw_mem (List.mem_append_right _ (List.mem_of_getElem? (i := 1073) (by decide +kernel))) rfl
theorem mw_1074 : (Cond.fieldLink "StoryMachineModel" 31 "StoryMachineModel" "oldMemory" "[I") ∈ tw_tbl := tw_mem (List.mem_append_right _ (List.mem_of_getElem? (i := 1074) (by decide +kernel))) rfl
theorem mw_1075 : (Cond.fieldLink "StoryMachineModel" 276 "StoryMachineModel" "oldSize" "I") ∈ tw_tbl := tw_mem (List.mem_append_right _ (List.mem_of_getElem? (i := 1075) (by decide +kernel))) rfl
theorem mw_1076 : (Cond.fieldLink "StoryMachineModel" 34 "StoryMachineModel" "oldWords" "[I") ∈ tw_tbl := tw_mem (List.mem_append_right _ (List.mem_of_getElem? (i := 1076) (by decide +kernel))) rfl
theorem mw_1077 : (Cond.fieldLink "StoryMachineModel" 279 "StoryMachineModel" "oldDepth" "I") ∈ tw_tbl := tw_mem (List.mem_append_right _ (List.mem_of_getElem? (i := 1077) (by decide +kernel))) rfl
theorem mw_1078 : (Cond.fieldLink "StoryMachineModel" 37 "StoryMachineModel" "oldMany" "[I") ∈ tw_tbl := tw_mem (List.mem_append_right _ (List.mem_of_getElem? (i := 1078) (by decide +kernel))) rfl
theorem mw_1079 : (Cond.fieldLink "StoryMachineModel" 40 "StoryMachineModel" "oldBottom" "[I") ∈ tw_tbl := tw_mem (List.mem_append_right _ (List.mem_of_getElem? (i := 1079) (by decide +kernel))) rfl
theorem mw_1080 : (Cond.fieldLink "StoryMachineModel" 43 "StoryMachineModel" "oldBack" "[I") ∈ tw_tbl := tw_mem (List.mem_append_right _ (List.mem_of_getElem? (i := 1080) (by decide +kernel))) rfl
theorem mw_1081 : (Cond.fieldLink "StoryMachineModel" 46 "StoryMachineModel" "oldGets" "[I") ∈ tw_tbl := tw_mem (List.mem_append_right _ (List.mem_of_getElem? (i := 1081) (by decide +kernel))) rfl
theorem mw_1082 : (Cond.fieldLink "StoryMachineModel" 49 "StoryMachineModel" "oldLocals" "[I") ∈ tw_tbl := tw_mem (List.mem_append_right _ (List.mem_of_getElem? (i := 1082) (by decide +kernel))) rfl
theorem mw_1083 : (Cond.fieldLink "StoryMachineModel" 282 "StoryMachineModel" "oldBehind" "I") ∈ tw_tbl := tw_mem (List.mem_append_right _ (List.mem_of_getElem? (i := 1083) (by decide +kernel))) rfl
theorem mw_1084 : (Cond.fieldLink "StoryMachineModel" 285 "StoryMachineModel" "oldSense" "Z") ∈ tw_tbl := tw_mem (List.mem_append_right _ (List.mem_of_getElem? (i := 1084) (by decide +kernel))) rfl
theorem mw_1085 : (Cond.fieldLink "StoryMachineModel" 288 "StoryMachineModel" "oldOffset" "I") ∈ tw_tbl := tw_mem (List.mem_append_right _ (List.mem_of_getElem? (i := 1085) (by decide +kernel))) rfl
theorem mw_1086 : (Cond.fieldLink "StoryMachineModel" 377 "StoryMachineModel" "begun" "Z") ∈ tw_tbl := tw_mem (List.mem_append_right _ (List.mem_of_getElem? (i := 1086) (by decide +kernel))) rfl
theorem mw_1087 : (Cond.fieldLink "StoryMachineModel" 380 "StoryMachineModel" "state" "I") ∈ tw_tbl := tw_mem (List.mem_append_right _ (List.mem_of_getElem? (i := 1087) (by decide +kernel))) rfl
theorem mw_1088 : (Cond.fieldLink "StoryMachineModel" 77 "StoryMachineModel" "trouble" "I") ∈ tw_tbl := tw_mem (List.mem_append_right _ (List.mem_of_getElem? (i := 1088) (by decide +kernel))) rfl
theorem mw_1089 : (Cond.fieldLink "StoryMachineModel" 266 "StoryMachineModel" "ends" "Z") ∈ tw_tbl := tw_mem (List.mem_append_right _ (List.mem_of_getElem? (i := 1089) (by decide +kernel))) rfl
theorem mw_1090 : (Cond.fieldLink "StoryMachineModel" 346 "StoryMachineModel" "pc" "I") ∈ tw_tbl := tw_mem (List.mem_append_right _ (List.mem_of_getElem? (i := 1090) (by decide +kernel))) rfl
theorem mw_1091 : (Cond.fieldLink "StoryMachineModel" 175 "StoryMachineModel" "next" "I") ∈ tw_tbl := tw_mem (List.mem_append_right _ (List.mem_of_getElem? (i := 1091) (by decide +kernel))) rfl
theorem mw_1092 : (Cond.fieldLink "StoryMachineModel" 374 "StoryMachineModel" "done" "I") ∈ tw_tbl := tw_mem (List.mem_append_right _ (List.mem_of_getElem? (i := 1092) (by decide +kernel))) rfl
theorem mw_1093 : (Cond.fieldLink "StoryMachineModel" 309 "StoryMachineModel" "chance" "I") ∈ tw_tbl := tw_mem (List.mem_append_right _ (List.mem_of_getElem? (i := 1093) (by decide +kernel))) rfl
theorem mw_1094 : (Cond.fieldLink "StoryMachineModel" 120 "StoryMachineModel" "shown" "I") ∈ tw_tbl := tw_mem (List.mem_append_right _ (List.mem_of_getElem? (i := 1094) (by decide +kernel))) rfl
theorem mw_1095 : (Cond.fieldLink "StoryMachineModel" 52 "StoryMachineModel" "latest" "[I") ∈ tw_tbl := tw_mem (List.mem_append_right _ (List.mem_of_getElem? (i := 1095) (by decide +kernel))) rfl
theorem mw_1096 : (Cond.fieldLink "StoryMachineModel" 312 "StoryMachineModel" "entered" "Z") ∈ tw_tbl := tw_mem (List.mem_append_right _ (List.mem_of_getElem? (i := 1096) (by decide +kernel))) rfl
theorem mw_1097 : (Cond.fieldLink "StoryMachineModel" 391 "StoryMachineModel" "typedSize" "I") ∈ tw_tbl := tw_mem (List.mem_append_right _ (List.mem_of_getElem? (i := 1097) (by decide +kernel))) rfl
theorem mw_1098 : (Cond.fieldLink "StoryMachineModel" 55 "StoryMachineModel" "typed" "[I") ∈ tw_tbl := tw_mem (List.mem_append_right _ (List.mem_of_getElem? (i := 1098) (by decide +kernel))) rfl
theorem mw_1099 : (Cond.fieldLink "StoryMachineModel" 315 "StoryMachineModel" "lineSize" "I") ∈ tw_tbl := tw_mem (List.mem_append_right _ (List.mem_of_getElem? (i := 1099) (by decide +kernel))) rfl
theorem mw_1100 : (Cond.fieldLink "StoryMachineModel" 58 "StoryMachineModel" "line" "[I") ∈ tw_tbl := tw_mem (List.mem_append_right _ (List.mem_of_getElem? (i := 1100) (by decide +kernel))) rfl
theorem mw_1101 : (Cond.fieldLink "StoryMachineModel" 191 "StoryMachineModel" "count" "I") ∈ tw_tbl := tw_mem (List.mem_append_right _ (List.mem_of_getElem? (i := 1101) (by decide +kernel))) rfl
theorem mw_1102 : (Cond.fieldLink "StoryMachineModel" 61 "StoryMachineModel" "numbers" "[I") ∈ tw_tbl := tw_mem (List.mem_append_right _ (List.mem_of_getElem? (i := 1102) (by decide +kernel))) rfl
theorem mw_1103 : (Cond.fieldLink "StoryMachineModel" 114 "StoryMachineModel" "result" "I") ∈ tw_tbl := tw_mem (List.mem_append_right _ (List.mem_of_getElem? (i := 1103) (by decide +kernel))) rfl
theorem mw_1104 : (Cond.fieldLink "StoryMachineModel" 203 "StoryMachineModel" "sense" "Z") ∈ tw_tbl := tw_mem (List.mem_append_right _ (List.mem_of_getElem? (i := 1104) (by decide +kernel))) rfl
theorem mw_1105 : (Cond.fieldLink "StoryMachineModel" 207 "StoryMachineModel" "offset" "I") ∈ tw_tbl := tw_mem (List.mem_append_right _ (List.mem_of_getElem? (i := 1105) (by decide +kernel))) rfl
theorem mw_1106 : (Cond.fieldLink "StoryMachineModel" 210 "StoryMachineModel" "behind" "I") ∈ tw_tbl := tw_mem (List.mem_append_right _ (List.mem_of_getElem? (i := 1106) (by decide +kernel))) rfl
theorem mw_1107 : (Cond.fieldLink "StoryMachineModel" 132 "StoryMachineModel" "alphabet" "I") ∈ tw_tbl := tw_mem (List.mem_append_right _ (List.mem_of_getElem? (i := 1107) (by decide +kernel))) rfl
theorem mw_1108 : (Cond.fieldLink "StoryMachineModel" 126 "StoryMachineModel" "pending" "I") ∈ tw_tbl := tw_mem (List.mem_append_right _ (List.mem_of_getElem? (i := 1108) (by decide +kernel))) rfl
theorem mw_1109 : (Cond.fieldLink "StoryMachineModel" 129 "StoryMachineModel" "high" "I") ∈ tw_tbl := tw_mem (List.mem_append_right _ (List.mem_of_getElem? (i := 1109) (by decide +kernel))) rfl
theorem mw_1110 : (Cond.fieldLink "StoryMachineModel" 337 "StoryMachineModel" "lettered" "I") ∈ tw_tbl := tw_mem (List.mem_append_right _ (List.mem_of_getElem? (i := 1110) (by decide +kernel))) rfl
theorem mw_1111 : (Cond.fieldLink "StoryMachineModel" 64 "StoryMachineModel" "letters" "[I") ∈ tw_tbl := tw_mem (List.mem_append_right _ (List.mem_of_getElem? (i := 1111) (by decide +kernel))) rfl
theorem mw_1112 : (Cond.fieldLink "StoryMachineModel" 67 "StoryMachineModel" "starts" "[I") ∈ tw_tbl := tw_mem (List.mem_append_right _ (List.mem_of_getElem? (i := 1112) (by decide +kernel))) rfl
theorem mw_1113 : (Cond.fieldLink "StoryMachineModel" 70 "StoryMachineModel" "lengths" "[I") ∈ tw_tbl := tw_mem (List.mem_append_right _ (List.mem_of_getElem? (i := 1113) (by decide +kernel))) rfl
theorem mw_1114 : (Cond.lays "StoryMachineModel" "StoryMachineModel" "thrown" "I") ∈ tw_tbl := tw_mem (List.mem_append_right _ (List.mem_of_getElem? (i := 1114) (by decide +kernel))) rfl
theorem mw_1116 : (Cond.laysFinal "StoryMachineModel" "StoryMachineModel" "memory" "[I") ∈ tw_tbl := tw_mem (List.mem_append_right _ (List.mem_of_getElem? (i := 1116) (by decide +kernel))) rfl
theorem mw_1118 : (Cond.lays "StoryMachineModel" "StoryMachineModel" "size" "I") ∈ tw_tbl := tw_mem (List.mem_append_right _ (List.mem_of_getElem? (i := 1118) (by decide +kernel))) rfl
theorem mw_1120 : (Cond.laysFinal "StoryMachineModel" "StoryMachineModel" "words" "[I") ∈ tw_tbl := tw_mem (List.mem_append_right _ (List.mem_of_getElem? (i := 1120) (by decide +kernel))) rfl
theorem mw_1122 : (Cond.lays "StoryMachineModel" "StoryMachineModel" "depth" "I") ∈ tw_tbl := tw_mem (List.mem_append_right _ (List.mem_of_getElem? (i := 1122) (by decide +kernel))) rfl
theorem mw_1124 : (Cond.laysFinal "StoryMachineModel" "StoryMachineModel" "many" "[I") ∈ tw_tbl := tw_mem (List.mem_append_right _ (List.mem_of_getElem? (i := 1124) (by decide +kernel))) rfl
theorem mw_1126 : (Cond.laysFinal "StoryMachineModel" "StoryMachineModel" "bottom" "[I") ∈ tw_tbl := tw_mem (List.mem_append_right _ (List.mem_of_getElem? (i := 1126) (by decide +kernel))) rfl
theorem mw_1128 : (Cond.laysFinal "StoryMachineModel" "StoryMachineModel" "back" "[I") ∈ tw_tbl := tw_mem (List.mem_append_right _ (List.mem_of_getElem? (i := 1128) (by decide +kernel))) rfl
theorem mw_1130 : (Cond.laysFinal "StoryMachineModel" "StoryMachineModel" "gets" "[I") ∈ tw_tbl := tw_mem (List.mem_append_right _ (List.mem_of_getElem? (i := 1130) (by decide +kernel))) rfl
theorem mw_1132 : (Cond.laysFinal "StoryMachineModel" "StoryMachineModel" "locals" "[I") ∈ tw_tbl := tw_mem (List.mem_append_right _ (List.mem_of_getElem? (i := 1132) (by decide +kernel))) rfl
theorem mw_1134 : (Cond.lays "StoryMachineModel" "StoryMachineModel" "saved" "Z") ∈ tw_tbl := tw_mem (List.mem_append_right _ (List.mem_of_getElem? (i := 1134) (by decide +kernel))) rfl
theorem mw_1136 : (Cond.laysFinal "StoryMachineModel" "StoryMachineModel" "oldMemory" "[I") ∈ tw_tbl := tw_mem (List.mem_append_right _ (List.mem_of_getElem? (i := 1136) (by decide +kernel))) rfl
theorem mw_1138 : (Cond.lays "StoryMachineModel" "StoryMachineModel" "oldSize" "I") ∈ tw_tbl := tw_mem (List.mem_append_right _ (List.mem_of_getElem? (i := 1138) (by decide +kernel))) rfl
theorem mw_1140 : (Cond.laysFinal "StoryMachineModel" "StoryMachineModel" "oldWords" "[I") ∈ tw_tbl := tw_mem (List.mem_append_right _ (List.mem_of_getElem? (i := 1140) (by decide +kernel))) rfl
theorem mw_1142 : (Cond.lays "StoryMachineModel" "StoryMachineModel" "oldDepth" "I") ∈ tw_tbl := tw_mem (List.mem_append_right _ (List.mem_of_getElem? (i := 1142) (by decide +kernel))) rfl
theorem mw_1144 : (Cond.laysFinal "StoryMachineModel" "StoryMachineModel" "oldMany" "[I") ∈ tw_tbl := tw_mem (List.mem_append_right _ (List.mem_of_getElem? (i := 1144) (by decide +kernel))) rfl
theorem mw_1146 : (Cond.laysFinal "StoryMachineModel" "StoryMachineModel" "oldBottom" "[I") ∈ tw_tbl := tw_mem (List.mem_append_right _ (List.mem_of_getElem? (i := 1146) (by decide +kernel))) rfl
theorem mw_1148 : (Cond.laysFinal "StoryMachineModel" "StoryMachineModel" "oldBack" "[I") ∈ tw_tbl := tw_mem (List.mem_append_right _ (List.mem_of_getElem? (i := 1148) (by decide +kernel))) rfl
theorem mw_1150 : (Cond.laysFinal "StoryMachineModel" "StoryMachineModel" "oldGets" "[I") ∈ tw_tbl := tw_mem (List.mem_append_right _ (List.mem_of_getElem? (i := 1150) (by decide +kernel))) rfl
theorem mw_1152 : (Cond.laysFinal "StoryMachineModel" "StoryMachineModel" "oldLocals" "[I") ∈ tw_tbl := tw_mem (List.mem_append_right _ (List.mem_of_getElem? (i := 1152) (by decide +kernel))) rfl
theorem mw_1154 : (Cond.lays "StoryMachineModel" "StoryMachineModel" "oldBehind" "I") ∈ tw_tbl := tw_mem (List.mem_append_right _ (List.mem_of_getElem? (i := 1154) (by decide +kernel))) rfl
theorem mw_1156 : (Cond.lays "StoryMachineModel" "StoryMachineModel" "oldSense" "Z") ∈ tw_tbl := tw_mem (List.mem_append_right _ (List.mem_of_getElem? (i := 1156) (by decide +kernel))) rfl
theorem mw_1158 : (Cond.lays "StoryMachineModel" "StoryMachineModel" "oldOffset" "I") ∈ tw_tbl := tw_mem (List.mem_append_right _ (List.mem_of_getElem? (i := 1158) (by decide +kernel))) rfl
theorem mw_1160 : (Cond.lays "StoryMachineModel" "StoryMachineModel" "begun" "Z") ∈ tw_tbl := tw_mem (List.mem_append_right _ (List.mem_of_getElem? (i := 1160) (by decide +kernel))) rfl
theorem mw_1162 : (Cond.lays "StoryMachineModel" "StoryMachineModel" "state" "I") ∈ tw_tbl := tw_mem (List.mem_append_right _ (List.mem_of_getElem? (i := 1162) (by decide +kernel))) rfl
theorem mw_1164 : (Cond.lays "StoryMachineModel" "StoryMachineModel" "trouble" "I") ∈ tw_tbl := tw_mem (List.mem_append_right _ (List.mem_of_getElem? (i := 1164) (by decide +kernel))) rfl
theorem mw_1166 : (Cond.lays "StoryMachineModel" "StoryMachineModel" "ends" "Z") ∈ tw_tbl := tw_mem (List.mem_append_right _ (List.mem_of_getElem? (i := 1166) (by decide +kernel))) rfl
theorem mw_1168 : (Cond.lays "StoryMachineModel" "StoryMachineModel" "pc" "I") ∈ tw_tbl := tw_mem (List.mem_append_right _ (List.mem_of_getElem? (i := 1168) (by decide +kernel))) rfl
theorem mw_1170 : (Cond.lays "StoryMachineModel" "StoryMachineModel" "next" "I") ∈ tw_tbl := tw_mem (List.mem_append_right _ (List.mem_of_getElem? (i := 1170) (by decide +kernel))) rfl
theorem mw_1172 : (Cond.lays "StoryMachineModel" "StoryMachineModel" "done" "I") ∈ tw_tbl := tw_mem (List.mem_append_right _ (List.mem_of_getElem? (i := 1172) (by decide +kernel))) rfl
theorem mw_1174 : (Cond.lays "StoryMachineModel" "StoryMachineModel" "chance" "I") ∈ tw_tbl := tw_mem (List.mem_append_right _ (List.mem_of_getElem? (i := 1174) (by decide +kernel))) rfl
theorem mw_1176 : (Cond.lays "StoryMachineModel" "StoryMachineModel" "shown" "I") ∈ tw_tbl := tw_mem (List.mem_append_right _ (List.mem_of_getElem? (i := 1176) (by decide +kernel))) rfl
theorem mw_1178 : (Cond.laysFinal "StoryMachineModel" "StoryMachineModel" "latest" "[I") ∈ tw_tbl := tw_mem (List.mem_append_right _ (List.mem_of_getElem? (i := 1178) (by decide +kernel))) rfl
theorem mw_1180 : (Cond.lays "StoryMachineModel" "StoryMachineModel" "entered" "Z") ∈ tw_tbl := tw_mem (List.mem_append_right _ (List.mem_of_getElem? (i := 1180) (by decide +kernel))) rfl
theorem mw_1182 : (Cond.lays "StoryMachineModel" "StoryMachineModel" "typedSize" "I") ∈ tw_tbl := tw_mem (List.mem_append_right _ (List.mem_of_getElem? (i := 1182) (by decide +kernel))) rfl
theorem mw_1184 : (Cond.laysFinal "StoryMachineModel" "StoryMachineModel" "typed" "[I") ∈ tw_tbl := tw_mem (List.mem_append_right _ (List.mem_of_getElem? (i := 1184) (by decide +kernel))) rfl
theorem mw_1186 : (Cond.lays "StoryMachineModel" "StoryMachineModel" "lineSize" "I") ∈ tw_tbl := tw_mem (List.mem_append_right _ (List.mem_of_getElem? (i := 1186) (by decide +kernel))) rfl
theorem mw_1188 : (Cond.laysFinal "StoryMachineModel" "StoryMachineModel" "line" "[I") ∈ tw_tbl := tw_mem (List.mem_append_right _ (List.mem_of_getElem? (i := 1188) (by decide +kernel))) rfl
theorem mw_1190 : (Cond.lays "StoryMachineModel" "StoryMachineModel" "count" "I") ∈ tw_tbl := tw_mem (List.mem_append_right _ (List.mem_of_getElem? (i := 1190) (by decide +kernel))) rfl
theorem mw_1192 : (Cond.laysFinal "StoryMachineModel" "StoryMachineModel" "numbers" "[I") ∈ tw_tbl := tw_mem (List.mem_append_right _ (List.mem_of_getElem? (i := 1192) (by decide +kernel))) rfl
theorem mw_1194 : (Cond.lays "StoryMachineModel" "StoryMachineModel" "result" "I") ∈ tw_tbl := tw_mem (List.mem_append_right _ (List.mem_of_getElem? (i := 1194) (by decide +kernel))) rfl
theorem mw_1196 : (Cond.lays "StoryMachineModel" "StoryMachineModel" "sense" "Z") ∈ tw_tbl := tw_mem (List.mem_append_right _ (List.mem_of_getElem? (i := 1196) (by decide +kernel))) rfl
theorem mw_1198 : (Cond.lays "StoryMachineModel" "StoryMachineModel" "offset" "I") ∈ tw_tbl := tw_mem (List.mem_append_right _ (List.mem_of_getElem? (i := 1198) (by decide +kernel))) rfl
theorem mw_1200 : (Cond.lays "StoryMachineModel" "StoryMachineModel" "behind" "I") ∈ tw_tbl := tw_mem (List.mem_append_right _ (List.mem_of_getElem? (i := 1200) (by decide +kernel))) rfl
theorem mw_1202 : (Cond.lays "StoryMachineModel" "StoryMachineModel" "alphabet" "I") ∈ tw_tbl := tw_mem (List.mem_append_right _ (List.mem_of_getElem? (i := 1202) (by decide +kernel))) rfl
theorem mw_1204 : (Cond.lays "StoryMachineModel" "StoryMachineModel" "pending" "I") ∈ tw_tbl := tw_mem (List.mem_append_right _ (List.mem_of_getElem? (i := 1204) (by decide +kernel))) rfl
theorem mw_1206 : (Cond.lays "StoryMachineModel" "StoryMachineModel" "high" "I") ∈ tw_tbl := tw_mem (List.mem_append_right _ (List.mem_of_getElem? (i := 1206) (by decide +kernel))) rfl
theorem mw_1208 : (Cond.lays "StoryMachineModel" "StoryMachineModel" "lettered" "I") ∈ tw_tbl := tw_mem (List.mem_append_right _ (List.mem_of_getElem? (i := 1208) (by decide +kernel))) rfl
theorem mw_1210 : (Cond.laysFinal "StoryMachineModel" "StoryMachineModel" "letters" "[I") ∈ tw_tbl := tw_mem (List.mem_append_right _ (List.mem_of_getElem? (i := 1210) (by decide +kernel))) rfl
theorem mw_1212 : (Cond.laysFinal "StoryMachineModel" "StoryMachineModel" "starts" "[I") ∈ tw_tbl := tw_mem (List.mem_append_right _ (List.mem_of_getElem? (i := 1212) (by decide +kernel))) rfl
theorem mw_1214 : (Cond.laysFinal "StoryMachineModel" "StoryMachineModel" "lengths" "[I") ∈ tw_tbl := tw_mem (List.mem_append_right _ (List.mem_of_getElem? (i := 1214) (by decide +kernel))) rfl
theorem mw_1217 : (Cond.methodLink "StoryMachineLaw" 54 (⟨"StoryMachineModel", "thrown", "()I"⟩)) ∈ tw_tbl := tw_mem (List.mem_append_right _ (List.mem_of_getElem? (i := 1217) (by decide +kernel))) rfl
theorem mw_1218 : (Cond.instanceMethod (⟨"StoryMachineModel", "thrown", "()I"⟩)) ∈ tw_tbl := tw_mem (List.mem_append_right _ (List.mem_of_getElem? (i := 1218) (by decide +kernel))) rfl
theorem mw_1219 : (Cond.selects "StoryMachineModel" (⟨"StoryMachineModel", "thrown", "()I"⟩) (⟨"StoryMachineModel", "thrown", "()I"⟩)) ∈ tw_tbl := tw_mem (List.mem_append_right _ (List.mem_of_getElem? (i := 1219) (by decide +kernel))) rfl
theorem mw_1220 : (Cond.code (⟨"StoryMachineModel", "thrown", "()I"⟩) prog_13_method_2_code 1 (some .int)) ∈ tw_tbl := tw_mem (List.mem_append_right _ (List.mem_of_getElem? (i := 1220) (by decide +kernel))) rfl
theorem mw_1221 : (Cond.methodLink "StoryMachineLaw" 76 (⟨"StoryMachineModel", "run", "(I)I"⟩)) ∈ tw_tbl := tw_mem (List.mem_append_right _ (List.mem_of_getElem? (i := 1221) (by decide +kernel))) rfl
theorem mw_1222 : (Cond.instanceMethod (⟨"StoryMachineModel", "run", "(I)I"⟩)) ∈ tw_tbl := tw_mem (List.mem_append_right _ (List.mem_of_getElem? (i := 1222) (by decide +kernel))) rfl
theorem mw_1223 : (Cond.selects "StoryMachineModel" (⟨"StoryMachineModel", "run", "(I)I"⟩) (⟨"StoryMachineModel", "run", "(I)I"⟩)) ∈ tw_tbl := tw_mem (List.mem_append_right _ (List.mem_of_getElem? (i := 1223) (by decide +kernel))) rfl
theorem mw_1224 : (Cond.code (⟨"StoryMachineModel", "run", "(I)I"⟩) prog_13_method_72_code 3 (some .int)) ∈ tw_tbl := tw_mem (List.mem_append_right _ (List.mem_of_getElem? (i := 1224) (by decide +kernel))) rfl
theorem mw_1225 : (Cond.methodLink "StoryMachineModel" 383 (⟨"StoryMachineModel", "step", "()V"⟩)) ∈ tw_tbl := tw_mem (List.mem_append_right _ (List.mem_of_getElem? (i := 1225) (by decide +kernel))) rfl
theorem mw_1227 : (Cond.instanceMethod (⟨"StoryMachineModel", "step", "()V"⟩)) ∈ tw_tbl := tw_mem (List.mem_append_right _ (List.mem_of_getElem? (i := 1227) (by decide +kernel))) rfl
theorem mw_1228 : (Cond.code (⟨"StoryMachineModel", "step", "()V"⟩) prog_13_method_71_code 6 none) ∈ tw_tbl := tw_mem (List.mem_append_right _ (List.mem_of_getElem? (i := 1228) (by decide +kernel))) rfl
theorem mw_1229 : (Cond.methodLink "StoryMachineModel" 185 (⟨"StoryMachineModel", "code", "()I"⟩)) ∈ tw_tbl := tw_mem (List.mem_append_right _ (List.mem_of_getElem? (i := 1229) (by decide +kernel))) rfl
theorem mw_1231 : (Cond.instanceMethod (⟨"StoryMachineModel", "code", "()I"⟩)) ∈ tw_tbl := tw_mem (List.mem_append_right _ (List.mem_of_getElem? (i := 1231) (by decide +kernel))) rfl
theorem mw_1232 : (Cond.code (⟨"StoryMachineModel", "code", "()I"⟩) prog_13_method_35_code 1 (some .int)) ∈ tw_tbl := tw_mem (List.mem_append_right _ (List.mem_of_getElem? (i := 1232) (by decide +kernel))) rfl
theorem mw_1233 : (Cond.methodLink "StoryMachineModel" 86 (⟨"StoryMachineModel", "byteAt", "(I)I"⟩)) ∈ tw_tbl := tw_mem (List.mem_append_right _ (List.mem_of_getElem? (i := 1233) (by decide +kernel))) rfl
theorem mw_1235 : (Cond.instanceMethod (⟨"StoryMachineModel", "byteAt", "(I)I"⟩)) ∈ tw_tbl := tw_mem (List.mem_append_right _ (List.mem_of_getElem? (i := 1235) (by decide +kernel))) rfl
theorem mw_1236 : (Cond.code (⟨"StoryMachineModel", "byteAt", "(I)I"⟩) prog_13_method_5_code 2 (some .int)) ∈ tw_tbl := tw_mem (List.mem_append_right _ (List.mem_of_getElem? (i := 1236) (by decide +kernel))) rfl
theorem mw_1237 : (Cond.methodLink "StoryMachineModel" 82 (⟨"StoryMachineModel", "good", "(ZI)Z"⟩)) ∈ tw_tbl := tw_mem (List.mem_append_right _ (List.mem_of_getElem? (i := 1237) (by decide +kernel))) rfl
theorem mw_1239 : (Cond.instanceMethod (⟨"StoryMachineModel", "good", "(ZI)Z"⟩)) ∈ tw_tbl := tw_mem (List.mem_append_right _ (List.mem_of_getElem? (i := 1239) (by decide +kernel))) rfl
theorem mw_1240 : (Cond.code (⟨"StoryMachineModel", "good", "(ZI)Z"⟩) prog_13_method_3_code 3 (some .boolean)) ∈ tw_tbl := tw_mem (List.mem_append_right _ (List.mem_of_getElem? (i := 1240) (by decide +kernel))) rfl
theorem mw_1241 : (Cond.methodLink "StoryMachineModel" 349 (⟨"StoryMachineModel", "readNumbers", "(I)V"⟩)) ∈ tw_tbl := tw_mem (List.mem_append_right _ (List.mem_of_getElem? (i := 1241) (by decide +kernel))) rfl
theorem mw_1243 : (Cond.instanceMethod (⟨"StoryMachineModel", "readNumbers", "(I)V"⟩)) ∈ tw_tbl := tw_mem (List.mem_append_right _ (List.mem_of_getElem? (i := 1243) (by decide +kernel))) rfl
theorem mw_1244 : (Cond.code (⟨"StoryMachineModel", "readNumbers", "(I)V"⟩) prog_13_method_38_code 5 none) ∈ tw_tbl := tw_mem (List.mem_append_right _ (List.mem_of_getElem? (i := 1244) (by decide +kernel))) rfl
theorem mw_1245 : (Cond.methodLink "StoryMachineModel" 194 (⟨"StoryMachineModel", "number", "(I)V"⟩)) ∈ tw_tbl := tw_mem (List.mem_append_right _ (List.mem_of_getElem? (i := 1245) (by decide +kernel))) rfl
theorem mw_1247 : (Cond.instanceMethod (⟨"StoryMachineModel", "number", "(I)V"⟩)) ∈ tw_tbl := tw_mem (List.mem_append_right _ (List.mem_of_getElem? (i := 1247) (by decide +kernel))) rfl
theorem mw_1248 : (Cond.code (⟨"StoryMachineModel", "number", "(I)V"⟩) prog_13_method_37_code 3 none) ∈ tw_tbl := tw_mem (List.mem_append_right _ (List.mem_of_getElem? (i := 1248) (by decide +kernel))) rfl
theorem mw_1249 : (Cond.methodLink "StoryMachineModel" 100 (⟨"StoryMachineModel", "wordAt", "(I)I"⟩)) ∈ tw_tbl := tw_mem (List.mem_append_right _ (List.mem_of_getElem? (i := 1249) (by decide +kernel))) rfl
theorem mw_1251 : (Cond.instanceMethod (⟨"StoryMachineModel", "wordAt", "(I)I"⟩)) ∈ tw_tbl := tw_mem (List.mem_append_right _ (List.mem_of_getElem? (i := 1251) (by decide +kernel))) rfl
theorem mw_1252 : (Cond.code (⟨"StoryMachineModel", "wordAt", "(I)I"⟩) prog_13_method_6_code 4 (some .int)) ∈ tw_tbl := tw_mem (List.mem_append_right _ (List.mem_of_getElem? (i := 1252) (by decide +kernel))) rfl
theorem mw_1253 : (Cond.methodLink "StoryMachineModel" 188 (⟨"StoryMachineModel", "readVariable", "(I)I"⟩)) ∈ tw_tbl := tw_mem (List.mem_append_right _ (List.mem_of_getElem? (i := 1253) (by decide +kernel))) rfl
theorem mw_1255 : (Cond.instanceMethod (⟨"StoryMachineModel", "readVariable", "(I)I"⟩)) ∈ tw_tbl := tw_mem (List.mem_append_right _ (List.mem_of_getElem? (i := 1255) (by decide +kernel))) rfl
theorem mw_1256 : (Cond.code (⟨"StoryMachineModel", "readVariable", "(I)I"⟩) prog_13_method_36_code 2 (some .int)) ∈ tw_tbl := tw_mem (List.mem_append_right _ (List.mem_of_getElem? (i := 1256) (by decide +kernel))) rfl
theorem mw_1257 : (Cond.methodLink "StoryMachineModel" 178 (⟨"StoryMachineModel", "pop", "()I"⟩)) ∈ tw_tbl := tw_mem (List.mem_append_right _ (List.mem_of_getElem? (i := 1257) (by decide +kernel))) rfl
theorem mw_1259 : (Cond.instanceMethod (⟨"StoryMachineModel", "pop", "()I"⟩)) ∈ tw_tbl := tw_mem (List.mem_append_right _ (List.mem_of_getElem? (i := 1259) (by decide +kernel))) rfl
theorem mw_1260 : (Cond.code (⟨"StoryMachineModel", "pop", "()I"⟩) prog_13_method_11_code 1 (some .int)) ∈ tw_tbl := tw_mem (List.mem_append_right _ (List.mem_of_getElem? (i := 1260) (by decide +kernel))) rfl
theorem mw_1261 : (Cond.methodLink "StoryMachineModel" 182 (⟨"StoryMachineModel", "peekVariable", "(I)I"⟩)) ∈ tw_tbl := tw_mem (List.mem_append_right _ (List.mem_of_getElem? (i := 1261) (by decide +kernel))) rfl
theorem mw_1263 : (Cond.instanceMethod (⟨"StoryMachineModel", "peekVariable", "(I)I"⟩)) ∈ tw_tbl := tw_mem (List.mem_append_right _ (List.mem_of_getElem? (i := 1263) (by decide +kernel))) rfl
theorem mw_1264 : (Cond.code (⟨"StoryMachineModel", "peekVariable", "(I)I"⟩) prog_13_method_12_code 2 (some .int)) ∈ tw_tbl := tw_mem (List.mem_append_right _ (List.mem_of_getElem? (i := 1264) (by decide +kernel))) rfl
theorem mw_1265 : (Cond.methodLink "StoryMachineModel" 352 (⟨"StoryMachineModel", "listOf", "(I)I"⟩)) ∈ tw_tbl := tw_mem (List.mem_append_right _ (List.mem_of_getElem? (i := 1265) (by decide +kernel))) rfl
theorem mw_1266 : (Cond.static (⟨"StoryMachineModel", "listOf", "(I)I"⟩)) ∈ tw_tbl := tw_mem (List.mem_append_right _ (List.mem_of_getElem? (i := 1266) (by decide +kernel))) rfl
theorem mw_1267 : (Cond.code (⟨"StoryMachineModel", "listOf", "(I)I"⟩) prog_13_method_39_code 1 (some .int)) ∈ tw_tbl := tw_mem (List.mem_append_right _ (List.mem_of_getElem? (i := 1267) (by decide +kernel))) rfl
theorem mw_1268 : (Cond.methodLink "StoryMachineModel" 355 (⟨"StoryMachineModel", "least", "(II)I"⟩)) ∈ tw_tbl := tw_mem (List.mem_append_right _ (List.mem_of_getElem? (i := 1268) (by decide +kernel))) rfl
theorem mw_1269 : (Cond.static (⟨"StoryMachineModel", "least", "(II)I"⟩)) ∈ tw_tbl := tw_mem (List.mem_append_right _ (List.mem_of_getElem? (i := 1269) (by decide +kernel))) rfl
theorem mw_1270 : (Cond.code (⟨"StoryMachineModel", "least", "(II)I"⟩) prog_13_method_40_code 2 (some .int)) ∈ tw_tbl := tw_mem (List.mem_append_right _ (List.mem_of_getElem? (i := 1270) (by decide +kernel))) rfl
theorem mw_1271 : (Cond.methodLink "StoryMachineModel" 358 (⟨"StoryMachineModel", "readRest", "(II)V"⟩)) ∈ tw_tbl := tw_mem (List.mem_append_right _ (List.mem_of_getElem? (i := 1271) (by decide +kernel))) rfl
theorem mw_1273 : (Cond.instanceMethod (⟨"StoryMachineModel", "readRest", "(II)V"⟩)) ∈ tw_tbl := tw_mem (List.mem_append_right _ (List.mem_of_getElem? (i := 1273) (by decide +kernel))) rfl
theorem mw_1274 : (Cond.code (⟨"StoryMachineModel", "readRest", "(II)V"⟩) prog_13_method_43_code 5 none) ∈ tw_tbl := tw_mem (List.mem_append_right _ (List.mem_of_getElem? (i := 1274) (by decide +kernel))) rfl
theorem mw_1275 : (Cond.methodLink "StoryMachineModel" 197 (⟨"StoryMachineModel", "gives", "(II)Z"⟩)) ∈ tw_tbl := tw_mem (List.mem_append_right _ (List.mem_of_getElem? (i := 1275) (by decide +kernel))) rfl
theorem mw_1276 : (Cond.static (⟨"StoryMachineModel", "gives", "(II)Z"⟩)) ∈ tw_tbl := tw_mem (List.mem_append_right _ (List.mem_of_getElem? (i := 1276) (by decide +kernel))) rfl
theorem mw_1277 : (Cond.code (⟨"StoryMachineModel", "gives", "(II)Z"⟩) prog_13_method_41_code 2 (some .boolean)) ∈ tw_tbl := tw_mem (List.mem_append_right _ (List.mem_of_getElem? (i := 1277) (by decide +kernel))) rfl
theorem mw_1278 : (Cond.methodLink "StoryMachineModel" 200 (⟨"StoryMachineModel", "asks", "(II)Z"⟩)) ∈ tw_tbl := tw_mem (List.mem_append_right _ (List.mem_of_getElem? (i := 1278) (by decide +kernel))) rfl
theorem mw_1279 : (Cond.static (⟨"StoryMachineModel", "asks", "(II)Z"⟩)) ∈ tw_tbl := tw_mem (List.mem_append_right _ (List.mem_of_getElem? (i := 1279) (by decide +kernel))) rfl
theorem mw_1280 : (Cond.code (⟨"StoryMachineModel", "asks", "(II)Z"⟩) prog_13_method_42_code 2 (some .boolean)) ∈ tw_tbl := tw_mem (List.mem_append_right _ (List.mem_of_getElem? (i := 1280) (by decide +kernel))) rfl
theorem mw_1281 : (Cond.methodLink "StoryMachineModel" 361 (⟨"StoryMachineModel", "second", "(III)V"⟩)) ∈ tw_tbl := tw_mem (List.mem_append_right _ (List.mem_of_getElem? (i := 1281) (by decide +kernel))) rfl
theorem mw_1283 : (Cond.instanceMethod (⟨"StoryMachineModel", "second", "(III)V"⟩)) ∈ tw_tbl := tw_mem (List.mem_append_right _ (List.mem_of_getElem? (i := 1283) (by decide +kernel))) rfl
theorem mw_1284 : (Cond.code (⟨"StoryMachineModel", "second", "(III)V"⟩) prog_13_method_48_code 6 none) ∈ tw_tbl := tw_mem (List.mem_append_right _ (List.mem_of_getElem? (i := 1284) (by decide +kernel))) rfl
theorem mw_1285 : (Cond.methodLink "StoryMachineModel" 222 (⟨"StoryMachineModel", "branch", "(Z)V"⟩)) ∈ tw_tbl := tw_mem (List.mem_append_right _ (List.mem_of_getElem? (i := 1285) (by decide +kernel))) rfl
theorem mw_1287 : (Cond.instanceMethod (⟨"StoryMachineModel", "branch", "(Z)V"⟩)) ∈ tw_tbl := tw_mem (List.mem_append_right _ (List.mem_of_getElem? (i := 1287) (by decide +kernel))) rfl
theorem mw_1288 : (Cond.code (⟨"StoryMachineModel", "branch", "(Z)V"⟩) prog_13_method_45_code 2 none) ∈ tw_tbl := tw_mem (List.mem_append_right _ (List.mem_of_getElem? (i := 1288) (by decide +kernel))) rfl
theorem mw_1289 : (Cond.methodLink "StoryMachineModel" 213 (⟨"StoryMachineModel", "leave", "(I)V"⟩)) ∈ tw_tbl := tw_mem (List.mem_append_right _ (List.mem_of_getElem? (i := 1289) (by decide +kernel))) rfl
theorem mw_1291 : (Cond.instanceMethod (⟨"StoryMachineModel", "leave", "(I)V"⟩)) ∈ tw_tbl := tw_mem (List.mem_append_right _ (List.mem_of_getElem? (i := 1291) (by decide +kernel))) rfl
theorem mw_1292 : (Cond.code (⟨"StoryMachineModel", "leave", "(I)V"⟩) prog_13_method_44_code 3 none) ∈ tw_tbl := tw_mem (List.mem_append_right _ (List.mem_of_getElem? (i := 1292) (by decide +kernel))) rfl
theorem mw_1293 : (Cond.methodLink "StoryMachineModel" 117 (⟨"StoryMachineModel", "write", "(II)V"⟩)) ∈ tw_tbl := tw_mem (List.mem_append_right _ (List.mem_of_getElem? (i := 1293) (by decide +kernel))) rfl
theorem mw_1295 : (Cond.instanceMethod (⟨"StoryMachineModel", "write", "(II)V"⟩)) ∈ tw_tbl := tw_mem (List.mem_append_right _ (List.mem_of_getElem? (i := 1295) (by decide +kernel))) rfl
theorem mw_1296 : (Cond.code (⟨"StoryMachineModel", "write", "(II)V"⟩) prog_13_method_14_code 3 none) ∈ tw_tbl := tw_mem (List.mem_append_right _ (List.mem_of_getElem? (i := 1296) (by decide +kernel))) rfl
theorem mw_1297 : (Cond.methodLink "StoryMachineModel" 107 (⟨"StoryMachineModel", "push", "(I)V"⟩)) ∈ tw_tbl := tw_mem (List.mem_append_right _ (List.mem_of_getElem? (i := 1297) (by decide +kernel))) rfl
theorem mw_1299 : (Cond.instanceMethod (⟨"StoryMachineModel", "push", "(I)V"⟩)) ∈ tw_tbl := tw_mem (List.mem_append_right _ (List.mem_of_getElem? (i := 1299) (by decide +kernel))) rfl
theorem mw_1300 : (Cond.code (⟨"StoryMachineModel", "push", "(I)V"⟩) prog_13_method_10_code 2 none) ∈ tw_tbl := tw_mem (List.mem_append_right _ (List.mem_of_getElem? (i := 1300) (by decide +kernel))) rfl
theorem mw_1301 : (Cond.constant "StoryMachineModel" 80 (65535 : Int32)) ∈ tw_tbl := tw_mem (List.mem_append_right _ (List.mem_of_getElem? (i := 1301) (by decide +kernel))) rfl
theorem mw_1302 : (Cond.methodLink "StoryMachineModel" 111 (⟨"StoryMachineModel", "replace", "(II)V"⟩)) ∈ tw_tbl := tw_mem (List.mem_append_right _ (List.mem_of_getElem? (i := 1302) (by decide +kernel))) rfl
theorem mw_1304 : (Cond.instanceMethod (⟨"StoryMachineModel", "replace", "(II)V"⟩)) ∈ tw_tbl := tw_mem (List.mem_append_right _ (List.mem_of_getElem? (i := 1304) (by decide +kernel))) rfl
theorem mw_1305 : (Cond.code (⟨"StoryMachineModel", "replace", "(II)V"⟩) prog_13_method_13_code 3 none) ∈ tw_tbl := tw_mem (List.mem_append_right _ (List.mem_of_getElem? (i := 1305) (by decide +kernel))) rfl
theorem mw_1306 : (Cond.methodLink "StoryMachineModel" 103 (⟨"StoryMachineModel", "setWord", "(II)V"⟩)) ∈ tw_tbl := tw_mem (List.mem_append_right _ (List.mem_of_getElem? (i := 1306) (by decide +kernel))) rfl
theorem mw_1308 : (Cond.instanceMethod (⟨"StoryMachineModel", "setWord", "(II)V"⟩)) ∈ tw_tbl := tw_mem (List.mem_append_right _ (List.mem_of_getElem? (i := 1308) (by decide +kernel))) rfl
theorem mw_1309 : (Cond.code (⟨"StoryMachineModel", "setWord", "(II)V"⟩) prog_13_method_9_code 3 none) ∈ tw_tbl := tw_mem (List.mem_append_right _ (List.mem_of_getElem? (i := 1309) (by decide +kernel))) rfl
theorem mw_1310 : (Cond.methodLink "StoryMachineModel" 90 (⟨"StoryMachineModel", "own", "(I)Z"⟩)) ∈ tw_tbl := tw_mem (List.mem_append_right _ (List.mem_of_getElem? (i := 1310) (by decide +kernel))) rfl
theorem mw_1312 : (Cond.instanceMethod (⟨"StoryMachineModel", "own", "(I)Z"⟩)) ∈ tw_tbl := tw_mem (List.mem_append_right _ (List.mem_of_getElem? (i := 1312) (by decide +kernel))) rfl
theorem mw_1313 : (Cond.code (⟨"StoryMachineModel", "own", "(I)Z"⟩) prog_13_method_7_code 2 (some .boolean)) ∈ tw_tbl := tw_mem (List.mem_append_right _ (List.mem_of_getElem? (i := 1313) (by decide +kernel))) rfl
theorem mw_1314 : (Cond.methodLink "StoryMachineModel" 219 (⟨"StoryMachineModel", "signed", "(I)I"⟩)) ∈ tw_tbl := tw_mem (List.mem_append_right _ (List.mem_of_getElem? (i := 1314) (by decide +kernel))) rfl
theorem mw_1315 : (Cond.static (⟨"StoryMachineModel", "signed", "(I)I"⟩)) ∈ tw_tbl := tw_mem (List.mem_append_right _ (List.mem_of_getElem? (i := 1315) (by decide +kernel))) rfl
theorem mw_1316 : (Cond.code (⟨"StoryMachineModel", "signed", "(I)I"⟩) prog_13_method_4_code 2 (some .int)) ∈ tw_tbl := tw_mem (List.mem_append_right _ (List.mem_of_getElem? (i := 1316) (by decide +kernel))) rfl
theorem mw_1317 : (Cond.constant "StoryMachineModel" 81 (65536 : Int32)) ∈ tw_tbl := tw_mem (List.mem_append_right _ (List.mem_of_getElem? (i := 1317) (by decide +kernel))) rfl
theorem mw_1318 : (Cond.methodLink "StoryMachineModel" 226 (⟨"StoryMachineModel", "change", "(II)I"⟩)) ∈ tw_tbl := tw_mem (List.mem_append_right _ (List.mem_of_getElem? (i := 1318) (by decide +kernel))) rfl
theorem mw_1320 : (Cond.instanceMethod (⟨"StoryMachineModel", "change", "(II)I"⟩)) ∈ tw_tbl := tw_mem (List.mem_append_right _ (List.mem_of_getElem? (i := 1320) (by decide +kernel))) rfl
theorem mw_1321 : (Cond.code (⟨"StoryMachineModel", "change", "(II)I"⟩) prog_13_method_47_code 4 (some .int)) ∈ tw_tbl := tw_mem (List.mem_append_right _ (List.mem_of_getElem? (i := 1321) (by decide +kernel))) rfl
theorem mw_1322 : (Cond.methodLink "StoryMachineModel" 152 (⟨"StoryMachineModel", "of", "(II)I"⟩)) ∈ tw_tbl := tw_mem (List.mem_append_right _ (List.mem_of_getElem? (i := 1322) (by decide +kernel))) rfl
theorem mw_1324 : (Cond.instanceMethod (⟨"StoryMachineModel", "of", "(II)I"⟩)) ∈ tw_tbl := tw_mem (List.mem_append_right _ (List.mem_of_getElem? (i := 1324) (by decide +kernel))) rfl
theorem mw_1325 : (Cond.code (⟨"StoryMachineModel", "of", "(II)I"⟩) prog_13_method_22_code 4 (some .int)) ∈ tw_tbl := tw_mem (List.mem_append_right _ (List.mem_of_getElem? (i := 1325) (by decide +kernel))) rfl
theorem mw_1326 : (Cond.methodLink "StoryMachineModel" 142 (⟨"StoryMachineModel", "objectAt", "(I)I"⟩)) ∈ tw_tbl := tw_mem (List.mem_append_right _ (List.mem_of_getElem? (i := 1326) (by decide +kernel))) rfl
theorem mw_1328 : (Cond.instanceMethod (⟨"StoryMachineModel", "objectAt", "(I)I"⟩)) ∈ tw_tbl := tw_mem (List.mem_append_right _ (List.mem_of_getElem? (i := 1328) (by decide +kernel))) rfl
theorem mw_1329 : (Cond.code (⟨"StoryMachineModel", "objectAt", "(I)I"⟩) prog_13_method_21_code 2 (some .int)) ∈ tw_tbl := tw_mem (List.mem_append_right _ (List.mem_of_getElem? (i := 1329) (by decide +kernel))) rfl
theorem mw_1330 : (Cond.methodLink "StoryMachineModel" 216 (⟨"StoryMachineModel", "give", "(I)V"⟩)) ∈ tw_tbl := tw_mem (List.mem_append_right _ (List.mem_of_getElem? (i := 1330) (by decide +kernel))) rfl
theorem mw_1332 : (Cond.instanceMethod (⟨"StoryMachineModel", "give", "(I)V"⟩)) ∈ tw_tbl := tw_mem (List.mem_append_right _ (List.mem_of_getElem? (i := 1332) (by decide +kernel))) rfl
theorem mw_1333 : (Cond.code (⟨"StoryMachineModel", "give", "(I)V"⟩) prog_13_method_15_code 2 none) ∈ tw_tbl := tw_mem (List.mem_append_right _ (List.mem_of_getElem? (i := 1333) (by decide +kernel))) rfl
theorem mw_1334 : (Cond.methodLink "StoryMachineModel" 148 (⟨"StoryMachineModel", "has", "(II)Z"⟩)) ∈ tw_tbl := tw_mem (List.mem_append_right _ (List.mem_of_getElem? (i := 1334) (by decide +kernel))) rfl
theorem mw_1336 : (Cond.instanceMethod (⟨"StoryMachineModel", "has", "(II)Z"⟩)) ∈ tw_tbl := tw_mem (List.mem_append_right _ (List.mem_of_getElem? (i := 1336) (by decide +kernel))) rfl
theorem mw_1337 : (Cond.code (⟨"StoryMachineModel", "has", "(II)Z"⟩) prog_13_method_24_code 4 (some .boolean)) ∈ tw_tbl := tw_mem (List.mem_append_right _ (List.mem_of_getElem? (i := 1337) (by decide +kernel))) rfl
theorem mw_1338 : (Cond.methodLink "StoryMachineModel" 229 (⟨"StoryMachineModel", "insert", "(II)V"⟩)) ∈ tw_tbl := tw_mem (List.mem_append_right _ (List.mem_of_getElem? (i := 1338) (by decide +kernel))) rfl
theorem mw_1340 : (Cond.instanceMethod (⟨"StoryMachineModel", "insert", "(II)V"⟩)) ∈ tw_tbl := tw_mem (List.mem_append_right _ (List.mem_of_getElem? (i := 1340) (by decide +kernel))) rfl
theorem mw_1341 : (Cond.code (⟨"StoryMachineModel", "insert", "(II)V"⟩) prog_13_method_27_code 3 none) ∈ tw_tbl := tw_mem (List.mem_append_right _ (List.mem_of_getElem? (i := 1341) (by decide +kernel))) rfl
theorem mw_1342 : (Cond.methodLink "StoryMachineModel" 160 (⟨"StoryMachineModel", "take", "(I)V"⟩)) ∈ tw_tbl := tw_mem (List.mem_append_right _ (List.mem_of_getElem? (i := 1342) (by decide +kernel))) rfl
theorem mw_1344 : (Cond.instanceMethod (⟨"StoryMachineModel", "take", "(I)V"⟩)) ∈ tw_tbl := tw_mem (List.mem_append_right _ (List.mem_of_getElem? (i := 1344) (by decide +kernel))) rfl
theorem mw_1345 : (Cond.code (⟨"StoryMachineModel", "take", "(I)V"⟩) prog_13_method_26_code 6 none) ∈ tw_tbl := tw_mem (List.mem_append_right _ (List.mem_of_getElem? (i := 1345) (by decide +kernel))) rfl
theorem mw_1346 : (Cond.methodLink "StoryMachineModel" 156 (⟨"StoryMachineModel", "setOf", "(III)V"⟩)) ∈ tw_tbl := tw_mem (List.mem_append_right _ (List.mem_of_getElem? (i := 1346) (by decide +kernel))) rfl
theorem mw_1348 : (Cond.instanceMethod (⟨"StoryMachineModel", "setOf", "(III)V"⟩)) ∈ tw_tbl := tw_mem (List.mem_append_right _ (List.mem_of_getElem? (i := 1348) (by decide +kernel))) rfl
theorem mw_1349 : (Cond.code (⟨"StoryMachineModel", "setOf", "(III)V"⟩) prog_13_method_23_code 5 none) ∈ tw_tbl := tw_mem (List.mem_append_right _ (List.mem_of_getElem? (i := 1349) (by decide +kernel))) rfl
theorem mw_1350 : (Cond.methodLink "StoryMachineModel" 145 (⟨"StoryMachineModel", "setByte", "(II)V"⟩)) ∈ tw_tbl := tw_mem (List.mem_append_right _ (List.mem_of_getElem? (i := 1350) (by decide +kernel))) rfl
theorem mw_1352 : (Cond.instanceMethod (⟨"StoryMachineModel", "setByte", "(II)V"⟩)) ∈ tw_tbl := tw_mem (List.mem_append_right _ (List.mem_of_getElem? (i := 1352) (by decide +kernel))) rfl
theorem mw_1353 : (Cond.code (⟨"StoryMachineModel", "setByte", "(II)V"⟩) prog_13_method_8_code 3 none) ∈ tw_tbl := tw_mem (List.mem_append_right _ (List.mem_of_getElem? (i := 1353) (by decide +kernel))) rfl
theorem mw_1354 : (Cond.methodLink "StoryMachineModel" 232 (⟨"StoryMachineModel", "mark", "(IIZ)V"⟩)) ∈ tw_tbl := tw_mem (List.mem_append_right _ (List.mem_of_getElem? (i := 1354) (by decide +kernel))) rfl
theorem mw_1356 : (Cond.instanceMethod (⟨"StoryMachineModel", "mark", "(IIZ)V"⟩)) ∈ tw_tbl := tw_mem (List.mem_append_right _ (List.mem_of_getElem? (i := 1356) (by decide +kernel))) rfl
theorem mw_1357 : (Cond.code (⟨"StoryMachineModel", "mark", "(IIZ)V"⟩) prog_13_method_25_code 8 none) ∈ tw_tbl := tw_mem (List.mem_append_right _ (List.mem_of_getElem? (i := 1357) (by decide +kernel))) rfl
theorem mw_1358 : (Cond.methodLink "StoryMachineModel" 236 (⟨"StoryMachineModel", "reckon", "(III)V"⟩)) ∈ tw_tbl := tw_mem (List.mem_append_right _ (List.mem_of_getElem? (i := 1358) (by decide +kernel))) rfl
theorem mw_1360 : (Cond.instanceMethod (⟨"StoryMachineModel", "reckon", "(III)V"⟩)) ∈ tw_tbl := tw_mem (List.mem_append_right _ (List.mem_of_getElem? (i := 1360) (by decide +kernel))) rfl
theorem mw_1361 : (Cond.code (⟨"StoryMachineModel", "reckon", "(III)V"⟩) prog_13_method_49_code 5 none) ∈ tw_tbl := tw_mem (List.mem_append_right _ (List.mem_of_getElem? (i := 1361) (by decide +kernel))) rfl
theorem mw_1362 : (Cond.methodLink "StoryMachineModel" 239 (⟨"StoryMachineModel", "property", "(II)I"⟩)) ∈ tw_tbl := tw_mem (List.mem_append_right _ (List.mem_of_getElem? (i := 1362) (by decide +kernel))) rfl
theorem mw_1364 : (Cond.instanceMethod (⟨"StoryMachineModel", "property", "(II)I"⟩)) ∈ tw_tbl := tw_mem (List.mem_append_right _ (List.mem_of_getElem? (i := 1364) (by decide +kernel))) rfl
theorem mw_1365 : (Cond.code (⟨"StoryMachineModel", "property", "(II)I"⟩) prog_13_method_32_code 5 (some .int)) ∈ tw_tbl := tw_mem (List.mem_append_right _ (List.mem_of_getElem? (i := 1365) (by decide +kernel))) rfl
theorem mw_1366 : (Cond.methodLink "StoryMachineModel" 169 (⟨"StoryMachineModel", "bytesOf", "(II)I"⟩)) ∈ tw_tbl := tw_mem (List.mem_append_right _ (List.mem_of_getElem? (i := 1366) (by decide +kernel))) rfl
theorem mw_1368 : (Cond.instanceMethod (⟨"StoryMachineModel", "bytesOf", "(II)I"⟩)) ∈ tw_tbl := tw_mem (List.mem_append_right _ (List.mem_of_getElem? (i := 1368) (by decide +kernel))) rfl
theorem mw_1369 : (Cond.code (⟨"StoryMachineModel", "bytesOf", "(II)I"⟩) prog_13_method_30_code 4 (some .int)) ∈ tw_tbl := tw_mem (List.mem_append_right _ (List.mem_of_getElem? (i := 1369) (by decide +kernel))) rfl
theorem mw_1370 : (Cond.methodLink "StoryMachineModel" 166 (⟨"StoryMachineModel", "sizeAt", "(II)I"⟩)) ∈ tw_tbl := tw_mem (List.mem_append_right _ (List.mem_of_getElem? (i := 1370) (by decide +kernel))) rfl
theorem mw_1372 : (Cond.instanceMethod (⟨"StoryMachineModel", "sizeAt", "(II)I"⟩)) ∈ tw_tbl := tw_mem (List.mem_append_right _ (List.mem_of_getElem? (i := 1372) (by decide +kernel))) rfl
theorem mw_1373 : (Cond.code (⟨"StoryMachineModel", "sizeAt", "(II)I"⟩) prog_13_method_29_code 5 (some .int)) ∈ tw_tbl := tw_mem (List.mem_append_right _ (List.mem_of_getElem? (i := 1373) (by decide +kernel))) rfl
theorem mw_1374 : (Cond.methodLink "StoryMachineModel" 163 (⟨"StoryMachineModel", "firstProperty", "(I)I"⟩)) ∈ tw_tbl := tw_mem (List.mem_append_right _ (List.mem_of_getElem? (i := 1374) (by decide +kernel))) rfl
theorem mw_1376 : (Cond.instanceMethod (⟨"StoryMachineModel", "firstProperty", "(I)I"⟩)) ∈ tw_tbl := tw_mem (List.mem_append_right _ (List.mem_of_getElem? (i := 1376) (by decide +kernel))) rfl
theorem mw_1377 : (Cond.code (⟨"StoryMachineModel", "firstProperty", "(I)I"⟩) prog_13_method_28_code 3 (some .int)) ∈ tw_tbl := tw_mem (List.mem_append_right _ (List.mem_of_getElem? (i := 1377) (by decide +kernel))) rfl
theorem mw_1378 : (Cond.methodLink "StoryMachineModel" 172 (⟨"StoryMachineModel", "lengthAt", "(I)I"⟩)) ∈ tw_tbl := tw_mem (List.mem_append_right _ (List.mem_of_getElem? (i := 1378) (by decide +kernel))) rfl
theorem mw_1380 : (Cond.instanceMethod (⟨"StoryMachineModel", "lengthAt", "(I)I"⟩)) ∈ tw_tbl := tw_mem (List.mem_append_right _ (List.mem_of_getElem? (i := 1380) (by decide +kernel))) rfl
theorem mw_1381 : (Cond.code (⟨"StoryMachineModel", "lengthAt", "(I)I"⟩) prog_13_method_31_code 2 (some .int)) ∈ tw_tbl := tw_mem (List.mem_append_right _ (List.mem_of_getElem? (i := 1381) (by decide +kernel))) rfl
theorem mw_1382 : (Cond.methodLink "StoryMachineModel" 242 (⟨"StoryMachineModel", "propertyBehind", "(II)I"⟩)) ∈ tw_tbl := tw_mem (List.mem_append_right _ (List.mem_of_getElem? (i := 1382) (by decide +kernel))) rfl
theorem mw_1384 : (Cond.instanceMethod (⟨"StoryMachineModel", "propertyBehind", "(II)I"⟩)) ∈ tw_tbl := tw_mem (List.mem_append_right _ (List.mem_of_getElem? (i := 1384) (by decide +kernel))) rfl
theorem mw_1385 : (Cond.code (⟨"StoryMachineModel", "propertyBehind", "(II)I"⟩) prog_13_method_34_code 4 (some .int)) ∈ tw_tbl := tw_mem (List.mem_append_right _ (List.mem_of_getElem? (i := 1385) (by decide +kernel))) rfl
theorem mw_1386 : (Cond.methodLink "StoryMachineModel" 364 (⟨"StoryMachineModel", "first", "(II)V"⟩)) ∈ tw_tbl := tw_mem (List.mem_append_right _ (List.mem_of_getElem? (i := 1386) (by decide +kernel))) rfl
theorem mw_1388 : (Cond.instanceMethod (⟨"StoryMachineModel", "first", "(II)V"⟩)) ∈ tw_tbl := tw_mem (List.mem_append_right _ (List.mem_of_getElem? (i := 1388) (by decide +kernel))) rfl
theorem mw_1389 : (Cond.code (⟨"StoryMachineModel", "first", "(II)V"⟩) prog_13_method_50_code 3 none) ∈ tw_tbl := tw_mem (List.mem_append_right _ (List.mem_of_getElem? (i := 1389) (by decide +kernel))) rfl
theorem mw_1390 : (Cond.methodLink "StoryMachineModel" 245 (⟨"StoryMachineModel", "giveAndAsk", "(I)V"⟩)) ∈ tw_tbl := tw_mem (List.mem_append_right _ (List.mem_of_getElem? (i := 1390) (by decide +kernel))) rfl
theorem mw_1392 : (Cond.instanceMethod (⟨"StoryMachineModel", "giveAndAsk", "(I)V"⟩)) ∈ tw_tbl := tw_mem (List.mem_append_right _ (List.mem_of_getElem? (i := 1392) (by decide +kernel))) rfl
theorem mw_1393 : (Cond.code (⟨"StoryMachineModel", "giveAndAsk", "(I)V"⟩) prog_13_method_52_code 2 none) ∈ tw_tbl := tw_mem (List.mem_append_right _ (List.mem_of_getElem? (i := 1393) (by decide +kernel))) rfl
theorem mw_1394 : (Cond.methodLink "StoryMachineModel" 248 (⟨"StoryMachineModel", "giveIf", "(I)V"⟩)) ∈ tw_tbl := tw_mem (List.mem_append_right _ (List.mem_of_getElem? (i := 1394) (by decide +kernel))) rfl
theorem mw_1396 : (Cond.instanceMethod (⟨"StoryMachineModel", "giveIf", "(I)V"⟩)) ∈ tw_tbl := tw_mem (List.mem_append_right _ (List.mem_of_getElem? (i := 1396) (by decide +kernel))) rfl
theorem mw_1397 : (Cond.code (⟨"StoryMachineModel", "giveIf", "(I)V"⟩) prog_13_method_51_code 2 none) ∈ tw_tbl := tw_mem (List.mem_append_right _ (List.mem_of_getElem? (i := 1397) (by decide +kernel))) rfl
theorem mw_1398 : (Cond.methodLink "StoryMachineModel" 251 (⟨"StoryMachineModel", "showText", "(I)I"⟩)) ∈ tw_tbl := tw_mem (List.mem_append_right _ (List.mem_of_getElem? (i := 1398) (by decide +kernel))) rfl
theorem mw_1400 : (Cond.instanceMethod (⟨"StoryMachineModel", "showText", "(I)I"⟩)) ∈ tw_tbl := tw_mem (List.mem_append_right _ (List.mem_of_getElem? (i := 1400) (by decide +kernel))) rfl
theorem mw_1401 : (Cond.code (⟨"StoryMachineModel", "showText", "(I)I"⟩) prog_13_method_20_code 5 (some .int)) ∈ tw_tbl := tw_mem (List.mem_append_right _ (List.mem_of_getElem? (i := 1401) (by decide +kernel))) rfl
theorem mw_1402 : (Cond.constant "StoryMachineModel" 138 (32768 : Int32)) ∈ tw_tbl := tw_mem (List.mem_append_right _ (List.mem_of_getElem? (i := 1402) (by decide +kernel))) rfl
theorem mw_1403 : (Cond.methodLink "StoryMachineModel" 139 (⟨"StoryMachineModel", "letter", "(I)V"⟩)) ∈ tw_tbl := tw_mem (List.mem_append_right _ (List.mem_of_getElem? (i := 1403) (by decide +kernel))) rfl
theorem mw_1405 : (Cond.instanceMethod (⟨"StoryMachineModel", "letter", "(I)V"⟩)) ∈ tw_tbl := tw_mem (List.mem_append_right _ (List.mem_of_getElem? (i := 1405) (by decide +kernel))) rfl
theorem mw_1406 : (Cond.code (⟨"StoryMachineModel", "letter", "(I)V"⟩) prog_13_method_19_code 3 none) ∈ tw_tbl := tw_mem (List.mem_append_right _ (List.mem_of_getElem? (i := 1406) (by decide +kernel))) rfl
theorem mw_1407 : (Cond.methodLink "StoryMachineModel" 123 (⟨"StoryMachineModel", "show", "(I)V"⟩)) ∈ tw_tbl := tw_mem (List.mem_append_right _ (List.mem_of_getElem? (i := 1407) (by decide +kernel))) rfl
theorem mw_1409 : (Cond.instanceMethod (⟨"StoryMachineModel", "show", "(I)V"⟩)) ∈ tw_tbl := tw_mem (List.mem_append_right _ (List.mem_of_getElem? (i := 1409) (by decide +kernel))) rfl
theorem mw_1410 : (Cond.code (⟨"StoryMachineModel", "show", "(I)V"⟩) prog_13_method_16_code 2 none) ∈ tw_tbl := tw_mem (List.mem_append_right _ (List.mem_of_getElem? (i := 1410) (by decide +kernel))) rfl
theorem mw_1411 : (Cond.methodLink "StoryMachineModel" 135 (⟨"StoryMachineModel", "sign", "(I)I"⟩)) ∈ tw_tbl := tw_mem (List.mem_append_right _ (List.mem_of_getElem? (i := 1411) (by decide +kernel))) rfl
theorem mw_1412 : (Cond.static (⟨"StoryMachineModel", "sign", "(I)I"⟩)) ∈ tw_tbl := tw_mem (List.mem_append_right _ (List.mem_of_getElem? (i := 1412) (by decide +kernel))) rfl
theorem mw_1413 : (Cond.code (⟨"StoryMachineModel", "sign", "(I)I"⟩) prog_13_method_18_code 1 (some .int)) ∈ tw_tbl := tw_mem (List.mem_append_right _ (List.mem_of_getElem? (i := 1413) (by decide +kernel))) rfl
theorem mw_1414 : (Cond.methodLink "StoryMachineModel" 254 (⟨"StoryMachineModel", "showName", "(I)V"⟩)) ∈ tw_tbl := tw_mem (List.mem_append_right _ (List.mem_of_getElem? (i := 1414) (by decide +kernel))) rfl
theorem mw_1416 : (Cond.instanceMethod (⟨"StoryMachineModel", "showName", "(I)V"⟩)) ∈ tw_tbl := tw_mem (List.mem_append_right _ (List.mem_of_getElem? (i := 1416) (by decide +kernel))) rfl
theorem mw_1417 : (Cond.code (⟨"StoryMachineModel", "showName", "(I)V"⟩) prog_13_method_53_code 3 none) ∈ tw_tbl := tw_mem (List.mem_append_right _ (List.mem_of_getElem? (i := 1417) (by decide +kernel))) rfl
theorem mw_1418 : (Cond.methodLink "StoryMachineModel" 367 (⟨"StoryMachineModel", "none", "(I)V"⟩)) ∈ tw_tbl := tw_mem (List.mem_append_right _ (List.mem_of_getElem? (i := 1418) (by decide +kernel))) rfl
theorem mw_1420 : (Cond.instanceMethod (⟨"StoryMachineModel", "none", "(I)V"⟩)) ∈ tw_tbl := tw_mem (List.mem_append_right _ (List.mem_of_getElem? (i := 1420) (by decide +kernel))) rfl
theorem mw_1421 : (Cond.code (⟨"StoryMachineModel", "none", "(I)V"⟩) prog_13_method_54_code 2 none) ∈ tw_tbl := tw_mem (List.mem_append_right _ (List.mem_of_getElem? (i := 1421) (by decide +kernel))) rfl
theorem mw_1422 : (Cond.methodLink "StoryMachineModel" 257 (⟨"StoryMachineModel", "save", "()V"⟩)) ∈ tw_tbl := tw_mem (List.mem_append_right _ (List.mem_of_getElem? (i := 1422) (by decide +kernel))) rfl
theorem mw_1424 : (Cond.instanceMethod (⟨"StoryMachineModel", "save", "()V"⟩)) ∈ tw_tbl := tw_mem (List.mem_append_right _ (List.mem_of_getElem? (i := 1424) (by decide +kernel))) rfl
theorem mw_1425 : (Cond.code (⟨"StoryMachineModel", "save", "()V"⟩) prog_13_method_57_code 1 none) ∈ tw_tbl := tw_mem (List.mem_append_right _ (List.mem_of_getElem? (i := 1425) (by decide +kernel))) rfl
theorem mw_1426 : (Cond.methodLink "StoryMachineModel" 272 (⟨"StoryMachineModel", "copy", "([I[II)V"⟩)) ∈ tw_tbl := tw_mem (List.mem_append_right _ (List.mem_of_getElem? (i := 1426) (by decide +kernel))) rfl
theorem mw_1427 : (Cond.static (⟨"StoryMachineModel", "copy", "([I[II)V"⟩)) ∈ tw_tbl := tw_mem (List.mem_append_right _ (List.mem_of_getElem? (i := 1427) (by decide +kernel))) rfl
theorem mw_1428 : (Cond.code (⟨"StoryMachineModel", "copy", "([I[II)V"⟩) prog_13_method_56_code 4 none) ∈ tw_tbl := tw_mem (List.mem_append_right _ (List.mem_of_getElem? (i := 1428) (by decide +kernel))) rfl
theorem mw_1429 : (Cond.methodLink "StoryMachineModel" 260 (⟨"StoryMachineModel", "restore", "()V"⟩)) ∈ tw_tbl := tw_mem (List.mem_append_right _ (List.mem_of_getElem? (i := 1429) (by decide +kernel))) rfl
theorem mw_1431 : (Cond.instanceMethod (⟨"StoryMachineModel", "restore", "()V"⟩)) ∈ tw_tbl := tw_mem (List.mem_append_right _ (List.mem_of_getElem? (i := 1431) (by decide +kernel))) rfl
theorem mw_1432 : (Cond.code (⟨"StoryMachineModel", "restore", "()V"⟩) prog_13_method_58_code 1 none) ∈ tw_tbl := tw_mem (List.mem_append_right _ (List.mem_of_getElem? (i := 1432) (by decide +kernel))) rfl
theorem mw_1433 : (Cond.methodLink "StoryMachineModel" 263 (⟨"StoryMachineModel", "leaveWith", "(I)V"⟩)) ∈ tw_tbl := tw_mem (List.mem_append_right _ (List.mem_of_getElem? (i := 1433) (by decide +kernel))) rfl
theorem mw_1435 : (Cond.instanceMethod (⟨"StoryMachineModel", "leaveWith", "(I)V"⟩)) ∈ tw_tbl := tw_mem (List.mem_append_right _ (List.mem_of_getElem? (i := 1435) (by decide +kernel))) rfl
theorem mw_1436 : (Cond.code (⟨"StoryMachineModel", "leaveWith", "(I)V"⟩) prog_13_method_55_code 2 none) ∈ tw_tbl := tw_mem (List.mem_append_right _ (List.mem_of_getElem? (i := 1436) (by decide +kernel))) rfl
theorem mw_1437 : (Cond.methodLink "StoryMachineModel" 370 (⟨"StoryMachineModel", "manyList", "(IIII)V"⟩)) ∈ tw_tbl := tw_mem (List.mem_append_right _ (List.mem_of_getElem? (i := 1437) (by decide +kernel))) rfl
theorem mw_1439 : (Cond.instanceMethod (⟨"StoryMachineModel", "manyList", "(IIII)V"⟩)) ∈ tw_tbl := tw_mem (List.mem_append_right _ (List.mem_of_getElem? (i := 1439) (by decide +kernel))) rfl
theorem mw_1440 : (Cond.code (⟨"StoryMachineModel", "manyList", "(IIII)V"⟩) prog_13_method_59_code 5 none) ∈ tw_tbl := tw_mem (List.mem_append_right _ (List.mem_of_getElem? (i := 1440) (by decide +kernel))) rfl
theorem mw_1441 : (Cond.methodLink "StoryMachineModel" 291 (⟨"StoryMachineModel", "call", "()V"⟩)) ∈ tw_tbl := tw_mem (List.mem_append_right _ (List.mem_of_getElem? (i := 1441) (by decide +kernel))) rfl
theorem mw_1443 : (Cond.instanceMethod (⟨"StoryMachineModel", "call", "()V"⟩)) ∈ tw_tbl := tw_mem (List.mem_append_right _ (List.mem_of_getElem? (i := 1443) (by decide +kernel))) rfl
theorem mw_1444 : (Cond.code (⟨"StoryMachineModel", "call", "()V"⟩) prog_13_method_46_code 5 none) ∈ tw_tbl := tw_mem (List.mem_append_right _ (List.mem_of_getElem? (i := 1444) (by decide +kernel))) rfl
theorem mw_1445 : (Cond.methodLink "StoryMachineModel" 294 (⟨"StoryMachineModel", "setProperty", "(III)V"⟩)) ∈ tw_tbl := tw_mem (List.mem_append_right _ (List.mem_of_getElem? (i := 1445) (by decide +kernel))) rfl
theorem mw_1447 : (Cond.instanceMethod (⟨"StoryMachineModel", "setProperty", "(III)V"⟩)) ∈ tw_tbl := tw_mem (List.mem_append_right _ (List.mem_of_getElem? (i := 1447) (by decide +kernel))) rfl
theorem mw_1448 : (Cond.code (⟨"StoryMachineModel", "setProperty", "(III)V"⟩) prog_13_method_33_code 6 none) ∈ tw_tbl := tw_mem (List.mem_append_right _ (List.mem_of_getElem? (i := 1448) (by decide +kernel))) rfl
theorem mw_1449 : (Cond.methodLink "StoryMachineModel" 297 (⟨"StoryMachineModel", "readLine", "(II)V"⟩)) ∈ tw_tbl := tw_mem (List.mem_append_right _ (List.mem_of_getElem? (i := 1449) (by decide +kernel))) rfl
theorem mw_1451 : (Cond.instanceMethod (⟨"StoryMachineModel", "readLine", "(II)V"⟩)) ∈ tw_tbl := tw_mem (List.mem_append_right _ (List.mem_of_getElem? (i := 1451) (by decide +kernel))) rfl
theorem mw_1452 : (Cond.code (⟨"StoryMachineModel", "readLine", "(II)V"⟩) prog_13_method_62_code 8 none) ∈ tw_tbl := tw_mem (List.mem_append_right _ (List.mem_of_getElem? (i := 1452) (by decide +kernel))) rfl
theorem mw_1453 : (Cond.methodLink "StoryMachineModel" 318 (⟨"StoryMachineModel", "findWords", "(II)I"⟩)) ∈ tw_tbl := tw_mem (List.mem_append_right _ (List.mem_of_getElem? (i := 1453) (by decide +kernel))) rfl
theorem mw_1455 : (Cond.instanceMethod (⟨"StoryMachineModel", "findWords", "(II)I"⟩)) ∈ tw_tbl := tw_mem (List.mem_append_right _ (List.mem_of_getElem? (i := 1455) (by decide +kernel))) rfl
theorem mw_1456 : (Cond.code (⟨"StoryMachineModel", "findWords", "(II)I"⟩) prog_13_method_66_code 5 (some .int)) ∈ tw_tbl := tw_mem (List.mem_append_right _ (List.mem_of_getElem? (i := 1456) (by decide +kernel))) rfl
theorem mw_1457 : (Cond.methodLink "StoryMachineModel" 327 (⟨"StoryMachineModel", "begins", "(II)Z"⟩)) ∈ tw_tbl := tw_mem (List.mem_append_right _ (List.mem_of_getElem? (i := 1457) (by decide +kernel))) rfl
theorem mw_1459 : (Cond.instanceMethod (⟨"StoryMachineModel", "begins", "(II)Z"⟩)) ∈ tw_tbl := tw_mem (List.mem_append_right _ (List.mem_of_getElem? (i := 1459) (by decide +kernel))) rfl
theorem mw_1460 : (Cond.code (⟨"StoryMachineModel", "begins", "(II)Z"⟩) prog_13_method_64_code 4 (some .boolean)) ∈ tw_tbl := tw_mem (List.mem_append_right _ (List.mem_of_getElem? (i := 1460) (by decide +kernel))) rfl
theorem mw_1461 : (Cond.methodLink "StoryMachineModel" 324 (⟨"StoryMachineModel", "separates", "(I)Z"⟩)) ∈ tw_tbl := tw_mem (List.mem_append_right _ (List.mem_of_getElem? (i := 1461) (by decide +kernel))) rfl
theorem mw_1463 : (Cond.instanceMethod (⟨"StoryMachineModel", "separates", "(I)Z"⟩)) ∈ tw_tbl := tw_mem (List.mem_append_right _ (List.mem_of_getElem? (i := 1463) (by decide +kernel))) rfl
theorem mw_1464 : (Cond.code (⟨"StoryMachineModel", "separates", "(I)Z"⟩) prog_13_method_63_code 6 (some .boolean)) ∈ tw_tbl := tw_mem (List.mem_append_right _ (List.mem_of_getElem? (i := 1464) (by decide +kernel))) rfl
theorem mw_1465 : (Cond.methodLink "StoryMachineModel" 330 (⟨"StoryMachineModel", "lengthFrom", "(III)I"⟩)) ∈ tw_tbl := tw_mem (List.mem_append_right _ (List.mem_of_getElem? (i := 1465) (by decide +kernel))) rfl
theorem mw_1467 : (Cond.instanceMethod (⟨"StoryMachineModel", "lengthFrom", "(III)I"⟩)) ∈ tw_tbl := tw_mem (List.mem_append_right _ (List.mem_of_getElem? (i := 1467) (by decide +kernel))) rfl
theorem mw_1468 : (Cond.code (⟨"StoryMachineModel", "lengthFrom", "(III)I"⟩) prog_13_method_65_code 5 (some .int)) ∈ tw_tbl := tw_mem (List.mem_append_right _ (List.mem_of_getElem? (i := 1468) (by decide +kernel))) rfl
theorem mw_1469 : (Cond.methodLink "StoryMachineModel" 321 (⟨"StoryMachineModel", "parse", "(III)V"⟩)) ∈ tw_tbl := tw_mem (List.mem_append_right _ (List.mem_of_getElem? (i := 1469) (by decide +kernel))) rfl
theorem mw_1471 : (Cond.instanceMethod (⟨"StoryMachineModel", "parse", "(III)V"⟩)) ∈ tw_tbl := tw_mem (List.mem_append_right _ (List.mem_of_getElem? (i := 1471) (by decide +kernel))) rfl
theorem mw_1472 : (Cond.code (⟨"StoryMachineModel", "parse", "(III)V"⟩) prog_13_method_67_code 7 none) ∈ tw_tbl := tw_mem (List.mem_append_right _ (List.mem_of_getElem? (i := 1472) (by decide +kernel))) rfl
theorem mw_1473 : (Cond.methodLink "StoryMachineModel" 334 (⟨"StoryMachineModel", "entry", "(II)I"⟩)) ∈ tw_tbl := tw_mem (List.mem_append_right _ (List.mem_of_getElem? (i := 1473) (by decide +kernel))) rfl
theorem mw_1475 : (Cond.instanceMethod (⟨"StoryMachineModel", "entry", "(II)I"⟩)) ∈ tw_tbl := tw_mem (List.mem_append_right _ (List.mem_of_getElem? (i := 1475) (by decide +kernel))) rfl
theorem mw_1476 : (Cond.code (⟨"StoryMachineModel", "entry", "(II)I"⟩) prog_13_method_70_code 11 (some .int)) ∈ tw_tbl := tw_mem (List.mem_append_right _ (List.mem_of_getElem? (i := 1476) (by decide +kernel))) rfl
theorem mw_1477 : (Cond.methodLink "StoryMachineModel" 343 (⟨"StoryMachineModel", "addCharacter", "(I)V"⟩)) ∈ tw_tbl := tw_mem (List.mem_append_right _ (List.mem_of_getElem? (i := 1477) (by decide +kernel))) rfl
theorem mw_1479 : (Cond.instanceMethod (⟨"StoryMachineModel", "addCharacter", "(I)V"⟩)) ∈ tw_tbl := tw_mem (List.mem_append_right _ (List.mem_of_getElem? (i := 1479) (by decide +kernel))) rfl
theorem mw_1480 : (Cond.code (⟨"StoryMachineModel", "addCharacter", "(I)V"⟩) prog_13_method_69_code 3 none) ∈ tw_tbl := tw_mem (List.mem_append_right _ (List.mem_of_getElem? (i := 1480) (by decide +kernel))) rfl
theorem mw_1481 : (Cond.methodLink "StoryMachineModel" 340 (⟨"StoryMachineModel", "addLetter", "(I)V"⟩)) ∈ tw_tbl := tw_mem (List.mem_append_right _ (List.mem_of_getElem? (i := 1481) (by decide +kernel))) rfl
theorem mw_1483 : (Cond.instanceMethod (⟨"StoryMachineModel", "addLetter", "(I)V"⟩)) ∈ tw_tbl := tw_mem (List.mem_append_right _ (List.mem_of_getElem? (i := 1483) (by decide +kernel))) rfl
theorem mw_1484 : (Cond.code (⟨"StoryMachineModel", "addLetter", "(I)V"⟩) prog_13_method_68_code 2 none) ∈ tw_tbl := tw_mem (List.mem_append_right _ (List.mem_of_getElem? (i := 1484) (by decide +kernel))) rfl
theorem mw_1485 : (Cond.methodLink "StoryMachineModel" 300 (⟨"StoryMachineModel", "showNumber", "(I)V"⟩)) ∈ tw_tbl := tw_mem (List.mem_append_right _ (List.mem_of_getElem? (i := 1485) (by decide +kernel))) rfl
theorem mw_1487 : (Cond.instanceMethod (⟨"StoryMachineModel", "showNumber", "(I)V"⟩)) ∈ tw_tbl := tw_mem (List.mem_append_right _ (List.mem_of_getElem? (i := 1487) (by decide +kernel))) rfl
theorem mw_1488 : (Cond.code (⟨"StoryMachineModel", "showNumber", "(I)V"⟩) prog_13_method_17_code 4 none) ∈ tw_tbl := tw_mem (List.mem_append_right _ (List.mem_of_getElem? (i := 1488) (by decide +kernel))) rfl
theorem mw_1489 : (Cond.methodLink "StoryMachineModel" 303 (⟨"StoryMachineModel", "draw", "(I)V"⟩)) ∈ tw_tbl := tw_mem (List.mem_append_right _ (List.mem_of_getElem? (i := 1489) (by decide +kernel))) rfl
theorem mw_1491 : (Cond.instanceMethod (⟨"StoryMachineModel", "draw", "(I)V"⟩)) ∈ tw_tbl := tw_mem (List.mem_append_right _ (List.mem_of_getElem? (i := 1491) (by decide +kernel))) rfl
theorem mw_1492 : (Cond.code (⟨"StoryMachineModel", "draw", "(I)V"⟩) prog_13_method_61_code 2 none) ∈ tw_tbl := tw_mem (List.mem_append_right _ (List.mem_of_getElem? (i := 1492) (by decide +kernel))) rfl
theorem mw_1493 : (Cond.methodLink "StoryMachineModel" 306 (⟨"StoryMachineModel", "replaceIf", "(II)V"⟩)) ∈ tw_tbl := tw_mem (List.mem_append_right _ (List.mem_of_getElem? (i := 1493) (by decide +kernel))) rfl
theorem mw_1495 : (Cond.instanceMethod (⟨"StoryMachineModel", "replaceIf", "(II)V"⟩)) ∈ tw_tbl := tw_mem (List.mem_append_right _ (List.mem_of_getElem? (i := 1495) (by decide +kernel))) rfl
theorem mw_1496 : (Cond.code (⟨"StoryMachineModel", "replaceIf", "(II)V"⟩) prog_13_method_60_code 3 none) ∈ tw_tbl := tw_mem (List.mem_append_right _ (List.mem_of_getElem? (i := 1496) (by decide +kernel))) rfl
theorem mw_1497 : (Cond.methodLink "StoryMachineLaw" 53 (⟨"StoryMachineModel", "poke", "(IJI)V"⟩)) ∈ tw_tbl := tw_mem (List.mem_append_right _ (List.mem_of_getElem? (i := 1497) (by decide +kernel))) rfl
theorem mw_1498 : (Cond.instanceMethod (⟨"StoryMachineModel", "poke", "(IJI)V"⟩)) ∈ tw_tbl := tw_mem (List.mem_append_right _ (List.mem_of_getElem? (i := 1498) (by decide +kernel))) rfl
theorem mw_1499 : (Cond.selects "StoryMachineModel" (⟨"StoryMachineModel", "poke", "(IJI)V"⟩) (⟨"StoryMachineModel", "poke", "(IJI)V"⟩)) ∈ tw_tbl := tw_mem (List.mem_append_right _ (List.mem_of_getElem? (i := 1499) (by decide +kernel))) rfl
theorem mw_1500 : (Cond.code (⟨"StoryMachineModel", "poke", "(IJI)V"⟩) prog_13_method_74_code 6 none) ∈ tw_tbl := tw_mem (List.mem_append_right _ (List.mem_of_getElem? (i := 1500) (by decide +kernel))) rfl
theorem mw_1501 : (Cond.methodLink "StoryMachineModel" 386 (⟨"StoryMachineModel", "isFew", "(I)Z"⟩)) ∈ tw_tbl := tw_mem (List.mem_append_right _ (List.mem_of_getElem? (i := 1501) (by decide +kernel))) rfl
theorem mw_1502 : (Cond.static (⟨"StoryMachineModel", "isFew", "(I)Z"⟩)) ∈ tw_tbl := tw_mem (List.mem_append_right _ (List.mem_of_getElem? (i := 1502) (by decide +kernel))) rfl
theorem mw_1503 : (Cond.code (⟨"StoryMachineModel", "isFew", "(I)Z"⟩) prog_13_method_73_code 1 (some .boolean)) ∈ tw_tbl := tw_mem (List.mem_append_right _ (List.mem_of_getElem? (i := 1503) (by decide +kernel))) rfl
theorem mw_1504 : (Cond.constantLong "StoryMachineModel" 389 (255 : Int64)) ∈ tw_tbl := tw_mem (List.mem_append_right _ (List.mem_of_getElem? (i := 1504) (by decide +kernel))) rfl
theorem mw_1505 : (Cond.methodLink "StoryMachineLaw" 61 (⟨"StoryMachineModel", "peek", "(I)I"⟩)) ∈ tw_tbl := tw_mem (List.mem_append_right _ (List.mem_of_getElem? (i := 1505) (by decide +kernel))) rfl
theorem mw_1506 : (Cond.instanceMethod (⟨"StoryMachineModel", "peek", "(I)I"⟩)) ∈ tw_tbl := tw_mem (List.mem_append_right _ (List.mem_of_getElem? (i := 1506) (by decide +kernel))) rfl
theorem mw_1507 : (Cond.selects "StoryMachineModel" (⟨"StoryMachineModel", "peek", "(I)I"⟩) (⟨"StoryMachineModel", "peek", "(I)I"⟩)) ∈ tw_tbl := tw_mem (List.mem_append_right _ (List.mem_of_getElem? (i := 1507) (by decide +kernel))) rfl
theorem mw_1508 : (Cond.code (⟨"StoryMachineModel", "peek", "(I)I"⟩) prog_13_method_75_code 2 (some .int)) ∈ tw_tbl := tw_mem (List.mem_append_right _ (List.mem_of_getElem? (i := 1508) (by decide +kernel))) rfl
theorem mw_1509 : (Cond.methodLink "StoryMachineLaw" 65 (⟨"StoryMachineModel", "begin", "()V"⟩)) ∈ tw_tbl := tw_mem (List.mem_append_right _ (List.mem_of_getElem? (i := 1509) (by decide +kernel))) rfl
theorem mw_1510 : (Cond.instanceMethod (⟨"StoryMachineModel", "begin", "()V"⟩)) ∈ tw_tbl := tw_mem (List.mem_append_right _ (List.mem_of_getElem? (i := 1510) (by decide +kernel))) rfl
theorem mw_1511 : (Cond.selects "StoryMachineModel" (⟨"StoryMachineModel", "begin", "()V"⟩) (⟨"StoryMachineModel", "begin", "()V"⟩)) ∈ tw_tbl := tw_mem (List.mem_append_right _ (List.mem_of_getElem? (i := 1511) (by decide +kernel))) rfl
theorem mw_1512 : (Cond.code (⟨"StoryMachineModel", "begin", "()V"⟩) prog_13_method_76_code 2 none) ∈ tw_tbl := tw_mem (List.mem_append_right _ (List.mem_of_getElem? (i := 1512) (by decide +kernel))) rfl
theorem mw_1513 : (Cond.methodLink "StoryMachineLaw" 69 (⟨"StoryMachineModel", "type", "(JI)V"⟩)) ∈ tw_tbl := tw_mem (List.mem_append_right _ (List.mem_of_getElem? (i := 1513) (by decide +kernel))) rfl
theorem mw_1514 : (Cond.instanceMethod (⟨"StoryMachineModel", "type", "(JI)V"⟩)) ∈ tw_tbl := tw_mem (List.mem_append_right _ (List.mem_of_getElem? (i := 1514) (by decide +kernel))) rfl
theorem mw_1515 : (Cond.selects "StoryMachineModel" (⟨"StoryMachineModel", "type", "(JI)V"⟩) (⟨"StoryMachineModel", "type", "(JI)V"⟩)) ∈ tw_tbl := tw_mem (List.mem_append_right _ (List.mem_of_getElem? (i := 1515) (by decide +kernel))) rfl
theorem mw_1516 : (Cond.code (⟨"StoryMachineModel", "type", "(JI)V"⟩) prog_13_method_77_code 8 none) ∈ tw_tbl := tw_mem (List.mem_append_right _ (List.mem_of_getElem? (i := 1516) (by decide +kernel))) rfl
theorem mw_1517 : (Cond.constantLong "StoryMachineModel" 394 (32 : Int64)) ∈ tw_tbl := tw_mem (List.mem_append_right _ (List.mem_of_getElem? (i := 1517) (by decide +kernel))) rfl
theorem mw_1518 : (Cond.constantLong "StoryMachineModel" 396 (126 : Int64)) ∈ tw_tbl := tw_mem (List.mem_append_right _ (List.mem_of_getElem? (i := 1518) (by decide +kernel))) rfl
theorem mw_1519 : (Cond.methodLink "StoryMachineLaw" 73 (⟨"StoryMachineModel", "enter", "()V"⟩)) ∈ tw_tbl := tw_mem (List.mem_append_right _ (List.mem_of_getElem? (i := 1519) (by decide +kernel))) rfl
theorem mw_1520 : (Cond.instanceMethod (⟨"StoryMachineModel", "enter", "()V"⟩)) ∈ tw_tbl := tw_mem (List.mem_append_right _ (List.mem_of_getElem? (i := 1520) (by decide +kernel))) rfl
theorem mw_1521 : (Cond.selects "StoryMachineModel" (⟨"StoryMachineModel", "enter", "()V"⟩) (⟨"StoryMachineModel", "enter", "()V"⟩)) ∈ tw_tbl := tw_mem (List.mem_append_right _ (List.mem_of_getElem? (i := 1521) (by decide +kernel))) rfl
theorem mw_1522 : (Cond.code (⟨"StoryMachineModel", "enter", "()V"⟩) prog_13_method_78_code 1 none) ∈ tw_tbl := tw_mem (List.mem_append_right _ (List.mem_of_getElem? (i := 1522) (by decide +kernel))) rfl
theorem mw_1523 : (Cond.methodLink "StoryMachineLaw" 80 (⟨"StoryMachineModel", "steps", "()I"⟩)) ∈ tw_tbl := tw_mem (List.mem_append_right _ (List.mem_of_getElem? (i := 1523) (by decide +kernel))) rfl
theorem mw_1524 : (Cond.instanceMethod (⟨"StoryMachineModel", "steps", "()I"⟩)) ∈ tw_tbl := tw_mem (List.mem_append_right _ (List.mem_of_getElem? (i := 1524) (by decide +kernel))) rfl
theorem mw_1525 : (Cond.selects "StoryMachineModel" (⟨"StoryMachineModel", "steps", "()I"⟩) (⟨"StoryMachineModel", "steps", "()I"⟩)) ∈ tw_tbl := tw_mem (List.mem_append_right _ (List.mem_of_getElem? (i := 1525) (by decide +kernel))) rfl
theorem mw_1526 : (Cond.code (⟨"StoryMachineModel", "steps", "()I"⟩) prog_13_method_79_code 1 (some .int)) ∈ tw_tbl := tw_mem (List.mem_append_right _ (List.mem_of_getElem? (i := 1526) (by decide +kernel))) rfl
theorem mw_1527 : (Cond.methodLink "StoryMachineLaw" 84 (⟨"StoryMachineModel", "place", "()I"⟩)) ∈ tw_tbl := tw_mem (List.mem_append_right _ (List.mem_of_getElem? (i := 1527) (by decide +kernel))) rfl
theorem mw_1528 : (Cond.instanceMethod (⟨"StoryMachineModel", "place", "()I"⟩)) ∈ tw_tbl := tw_mem (List.mem_append_right _ (List.mem_of_getElem? (i := 1528) (by decide +kernel))) rfl
theorem mw_1529 : (Cond.selects "StoryMachineModel" (⟨"StoryMachineModel", "place", "()I"⟩) (⟨"StoryMachineModel", "place", "()I"⟩)) ∈ tw_tbl := tw_mem (List.mem_append_right _ (List.mem_of_getElem? (i := 1529) (by decide +kernel))) rfl
theorem mw_1530 : (Cond.code (⟨"StoryMachineModel", "place", "()I"⟩) prog_13_method_80_code 1 (some .int)) ∈ tw_tbl := tw_mem (List.mem_append_right _ (List.mem_of_getElem? (i := 1530) (by decide +kernel))) rfl
theorem mw_1531 : (Cond.methodLink "StoryMachineLaw" 87 (⟨"StoryMachineModel", "output", "(I)I"⟩)) ∈ tw_tbl := tw_mem (List.mem_append_right _ (List.mem_of_getElem? (i := 1531) (by decide +kernel))) rfl
theorem mw_1532 : (Cond.instanceMethod (⟨"StoryMachineModel", "output", "(I)I"⟩)) ∈ tw_tbl := tw_mem (List.mem_append_right _ (List.mem_of_getElem? (i := 1532) (by decide +kernel))) rfl
theorem mw_1533 : (Cond.selects "StoryMachineModel" (⟨"StoryMachineModel", "output", "(I)I"⟩) (⟨"StoryMachineModel", "output", "(I)I"⟩)) ∈ tw_tbl := tw_mem (List.mem_append_right _ (List.mem_of_getElem? (i := 1533) (by decide +kernel))) rfl
theorem mw_1534 : (Cond.code (⟨"StoryMachineModel", "output", "(I)I"⟩) prog_13_method_81_code 2 (some .int)) ∈ tw_tbl := tw_mem (List.mem_append_right _ (List.mem_of_getElem? (i := 1534) (by decide +kernel))) rfl
theorem mw_1535 : (Cond.methodLink "StoryMachineLaw" 90 (⟨"StoryMachineModel", "stack", "(I)I"⟩)) ∈ tw_tbl := tw_mem (List.mem_append_right _ (List.mem_of_getElem? (i := 1535) (by decide +kernel))) rfl
theorem mw_1536 : (Cond.instanceMethod (⟨"StoryMachineModel", "stack", "(I)I"⟩)) ∈ tw_tbl := tw_mem (List.mem_append_right _ (List.mem_of_getElem? (i := 1536) (by decide +kernel))) rfl
theorem mw_1537 : (Cond.selects "StoryMachineModel" (⟨"StoryMachineModel", "stack", "(I)I"⟩) (⟨"StoryMachineModel", "stack", "(I)I"⟩)) ∈ tw_tbl := tw_mem (List.mem_append_right _ (List.mem_of_getElem? (i := 1537) (by decide +kernel))) rfl
theorem mw_1538 : (Cond.code (⟨"StoryMachineModel", "stack", "(I)I"⟩) prog_13_method_82_code 2 (some .int)) ∈ tw_tbl := tw_mem (List.mem_append_right _ (List.mem_of_getElem? (i := 1538) (by decide +kernel))) rfl
theorem mw_1539 : (Cond.methodLink "StoryMachineLaw" 93 (⟨"StoryMachineModel", "local", "(I)I"⟩)) ∈ tw_tbl := tw_mem (List.mem_append_right _ (List.mem_of_getElem? (i := 1539) (by decide +kernel))) rfl
theorem mw_1540 : (Cond.instanceMethod (⟨"StoryMachineModel", "local", "(I)I"⟩)) ∈ tw_tbl := tw_mem (List.mem_append_right _ (List.mem_of_getElem? (i := 1540) (by decide +kernel))) rfl
theorem mw_1541 : (Cond.selects "StoryMachineModel" (⟨"StoryMachineModel", "local", "(I)I"⟩) (⟨"StoryMachineModel", "local", "(I)I"⟩)) ∈ tw_tbl := tw_mem (List.mem_append_right _ (List.mem_of_getElem? (i := 1541) (by decide +kernel))) rfl
theorem mw_1542 : (Cond.code (⟨"StoryMachineModel", "local", "(I)I"⟩) prog_13_method_83_code 2 (some .int)) ∈ tw_tbl := tw_mem (List.mem_append_right _ (List.mem_of_getElem? (i := 1542) (by decide +kernel))) rfl
theorem mw_1543 : (Cond.methodLink "StoryMachineLaw" 97 (⟨"StoryMachineModel", "routines", "()I"⟩)) ∈ tw_tbl := tw_mem (List.mem_append_right _ (List.mem_of_getElem? (i := 1543) (by decide +kernel))) rfl
theorem mw_1544 : (Cond.instanceMethod (⟨"StoryMachineModel", "routines", "()I"⟩)) ∈ tw_tbl := tw_mem (List.mem_append_right _ (List.mem_of_getElem? (i := 1544) (by decide +kernel))) rfl
theorem mw_1545 : (Cond.selects "StoryMachineModel" (⟨"StoryMachineModel", "routines", "()I"⟩) (⟨"StoryMachineModel", "routines", "()I"⟩)) ∈ tw_tbl := tw_mem (List.mem_append_right _ (List.mem_of_getElem? (i := 1545) (by decide +kernel))) rfl
theorem mw_1546 : (Cond.code (⟨"StoryMachineModel", "routines", "()I"⟩) prog_13_method_84_code 1 (some .int)) ∈ tw_tbl := tw_mem (List.mem_append_right _ (List.mem_of_getElem? (i := 1546) (by decide +kernel))) rfl
theorem mw_1547 : (Cond.constantLong "StoryMachineLaw" 46 (4294967295 : Int64)) ∈ tw_tbl := tw_mem (List.mem_append_right _ (List.mem_of_getElem? (i := 1547) (by decide +kernel))) rfl
theorem mw_1548 : (Cond.arrayClass .long) ∈ tw_tbl := tw_mem (List.mem_append_right _ (List.mem_of_getElem? (i := 1548) (by decide +kernel))) rfl
theorem mw_1550 : (Cond.fieldLink "java/lang/String" 15 "java/lang/String" "coder" "B") ∈ tw_tbl := tw_mem (List.mem_append_right _ (List.mem_of_getElem? (i := 1550) (by decide +kernel))) rfl
theorem mw_1551 : (Cond.fieldLink "java/lang/String" 9 "java/lang/String" "value" "[B") ∈ tw_tbl := tw_mem (List.mem_append_right _ (List.mem_of_getElem? (i := 1551) (by decide +kernel))) rfl
theorem ms_Di_addCharacter : (Cond.selects "StoryMachine$Dictionary" (⟨"StoryMachine$Dictionary", "addCharacter", "(I)V"⟩) (⟨"StoryMachine$Dictionary", "addCharacter", "(I)V"⟩)) ∈ tw_tbl := tw_mem (List.mem_append_left _ (by decide +kernel)) rfl
theorem ms_Di_addLetter : (Cond.selects "StoryMachine$Dictionary" (⟨"StoryMachine$Dictionary", "addLetter", "(I)V"⟩) (⟨"StoryMachine$Dictionary", "addLetter", "(I)V"⟩)) ∈ tw_tbl := tw_mem (List.mem_append_left _ (by decide +kernel)) rfl
theorem ms_Di_addWord : (Cond.selects "StoryMachine$Dictionary" (⟨"StoryMachine$Dictionary", "addWord", "(II)V"⟩) (⟨"StoryMachine$Dictionary", "addWord", "(II)V"⟩)) ∈ tw_tbl := tw_mem (List.mem_append_left _ (by decide +kernel)) rfl
theorem ms_Di_isSeparator : (Cond.selects "StoryMachine$Dictionary" (⟨"StoryMachine$Dictionary", "isSeparator", "(I)Z"⟩) (⟨"StoryMachine$Dictionary", "isSeparator", "(I)Z"⟩)) ∈ tw_tbl := tw_mem (List.mem_append_left _ (by decide +kernel)) rfl
theorem ms_Di_pack : (Cond.selects "StoryMachine$Dictionary" (⟨"StoryMachine$Dictionary", "pack", "([III)V"⟩) (⟨"StoryMachine$Dictionary", "pack", "([III)V"⟩)) ∈ tw_tbl := tw_mem (List.mem_append_left _ (by decide +kernel)) rfl
theorem ms_Di_packedWord : (Cond.selects "StoryMachine$Dictionary" (⟨"StoryMachine$Dictionary", "packedWord", "(I)I"⟩) (⟨"StoryMachine$Dictionary", "packedWord", "(I)I"⟩)) ∈ tw_tbl := tw_mem (List.mem_append_left _ (by decide +kernel)) rfl
theorem ms_En_branch : (Cond.selects "StoryMachine$Engine" (⟨"StoryMachine$Engine", "branch", "(Z)V"⟩) (⟨"StoryMachine$Engine", "branch", "(Z)V"⟩)) ∈ tw_tbl := tw_mem (List.mem_append_left _ (by decide +kernel)) rfl
theorem ms_En_call : (Cond.selects "StoryMachine$Engine" (⟨"StoryMachine$Engine", "call", "(I)V"⟩) (⟨"StoryMachine$Engine", "call", "(I)V"⟩)) ∈ tw_tbl := tw_mem (List.mem_append_left _ (by decide +kernel)) rfl
theorem ms_En_changedBy : (Cond.selects "StoryMachine$Engine" (⟨"StoryMachine$Engine", "changedBy", "(II)I"⟩) (⟨"StoryMachine$Engine", "changedBy", "(II)I"⟩)) ∈ tw_tbl := tw_mem (List.mem_append_left _ (by decide +kernel)) rfl
theorem ms_En_doFirst : (Cond.selects "StoryMachine$Engine" (⟨"StoryMachine$Engine", "doFirst", "(I)V"⟩) (⟨"StoryMachine$Engine", "doFirst", "(I)V"⟩)) ∈ tw_tbl := tw_mem (List.mem_append_left _ (by decide +kernel)) rfl
theorem ms_En_doMany : (Cond.selects "StoryMachine$Engine" (⟨"StoryMachine$Engine", "doMany", "(III)V"⟩) (⟨"StoryMachine$Engine", "doMany", "(III)V"⟩)) ∈ tw_tbl := tw_mem (List.mem_append_left _ (by decide +kernel)) rfl
theorem ms_En_doNone : (Cond.selects "StoryMachine$Engine" (⟨"StoryMachine$Engine", "doNone", "()V"⟩) (⟨"StoryMachine$Engine", "doNone", "()V"⟩)) ∈ tw_tbl := tw_mem (List.mem_append_left _ (by decide +kernel)) rfl
theorem ms_En_doSecond : (Cond.selects "StoryMachine$Engine" (⟨"StoryMachine$Engine", "doSecond", "(II)V"⟩) (⟨"StoryMachine$Engine", "doSecond", "(II)V"⟩)) ∈ tw_tbl := tw_mem (List.mem_append_left _ (by decide +kernel)) rfl
theorem ms_En_firstValue : (Cond.selects "StoryMachine$Engine" (⟨"StoryMachine$Engine", "firstValue", "(I)I"⟩) (⟨"StoryMachine$Engine", "firstValue", "(I)I"⟩)) ∈ tw_tbl := tw_mem (List.mem_append_left _ (by decide +kernel)) rfl
theorem ms_En_isAmongOthers : (Cond.selects "StoryMachine$Engine" (⟨"StoryMachine$Engine", "isAmongOthers", "(I)Z"⟩) (⟨"StoryMachine$Engine", "isAmongOthers", "(I)Z"⟩)) ∈ tw_tbl := tw_mem (List.mem_append_left _ (by decide +kernel)) rfl
theorem ms_En_putName : (Cond.selects "StoryMachine$Engine" (⟨"StoryMachine$Engine", "putName", "(I)V"⟩) (⟨"StoryMachine$Engine", "putName", "(I)V"⟩)) ∈ tw_tbl := tw_mem (List.mem_append_left _ (by decide +kernel)) rfl
theorem ms_En_randomNumber : (Cond.selects "StoryMachine$Engine" (⟨"StoryMachine$Engine", "randomNumber", "(I)I"⟩) (⟨"StoryMachine$Engine", "randomNumber", "(I)I"⟩)) ∈ tw_tbl := tw_mem (List.mem_append_left _ (by decide +kernel)) rfl
theorem ms_En_readLine : (Cond.selects "StoryMachine$Engine" (⟨"StoryMachine$Engine", "readLine", "(II)V"⟩) (⟨"StoryMachine$Engine", "readLine", "(II)V"⟩)) ∈ tw_tbl := tw_mem (List.mem_append_left _ (by decide +kernel)) rfl
theorem ms_En_returnWith : (Cond.selects "StoryMachine$Engine" (⟨"StoryMachine$Engine", "returnWith", "(I)V"⟩) (⟨"StoryMachine$Engine", "returnWith", "(I)V"⟩)) ∈ tw_tbl := tw_mem (List.mem_append_left _ (by decide +kernel)) rfl
theorem ms_En_secondAsks : (Cond.selects "StoryMachine$Engine" (⟨"StoryMachine$Engine", "secondAsks", "(II)Z"⟩) (⟨"StoryMachine$Engine", "secondAsks", "(II)Z"⟩)) ∈ tw_tbl := tw_mem (List.mem_append_left _ (by decide +kernel)) rfl
theorem ms_En_secondValue : (Cond.selects "StoryMachine$Engine" (⟨"StoryMachine$Engine", "secondValue", "(II)I"⟩) (⟨"StoryMachine$Engine", "secondValue", "(II)I"⟩)) ∈ tw_tbl := tw_mem (List.mem_append_left _ (by decide +kernel)) rfl
theorem ms_In_decodeHead : (Cond.selects "StoryMachine$Instruction" (⟨"StoryMachine$Instruction", "decodeHead", "()I"⟩) (⟨"StoryMachine$Instruction", "decodeHead", "()I"⟩)) ∈ tw_tbl := tw_mem (List.mem_append_left _ (by decide +kernel)) rfl
theorem ms_In_formOf : (Cond.selects "StoryMachine$Instruction" (⟨"StoryMachine$Instruction", "formOf", "()I"⟩) (⟨"StoryMachine$Instruction", "formOf", "()I"⟩)) ∈ tw_tbl := tw_mem (List.mem_append_left _ (by decide +kernel)) rfl
theorem ms_In_needed : (Cond.selects "StoryMachine$Instruction" (⟨"StoryMachine$Instruction", "needed", "()I"⟩) (⟨"StoryMachine$Instruction", "needed", "()I"⟩)) ∈ tw_tbl := tw_mem (List.mem_append_left _ (by decide +kernel)) rfl
theorem ms_In_nextByte : (Cond.selects "StoryMachine$Instruction" (⟨"StoryMachine$Instruction", "nextByte", "()I"⟩) (⟨"StoryMachine$Instruction", "nextByte", "()I"⟩)) ∈ tw_tbl := tw_mem (List.mem_append_left _ (by decide +kernel)) rfl
theorem ms_In_readBranch : (Cond.selects "StoryMachine$Instruction" (⟨"StoryMachine$Instruction", "readBranch", "()V"⟩) (⟨"StoryMachine$Instruction", "readBranch", "()V"⟩)) ∈ tw_tbl := tw_mem (List.mem_append_left _ (by decide +kernel)) rfl
theorem ms_In_readNumber : (Cond.selects "StoryMachine$Instruction" (⟨"StoryMachine$Instruction", "readNumber", "(I)I"⟩) (⟨"StoryMachine$Instruction", "readNumber", "(I)I"⟩)) ∈ tw_tbl := tw_mem (List.mem_append_left _ (by decide +kernel)) rfl
theorem ms_In_readNumbers : (Cond.selects "StoryMachine$Instruction" (⟨"StoryMachine$Instruction", "readNumbers", "(I)V"⟩) (⟨"StoryMachine$Instruction", "readNumbers", "(I)V"⟩)) ∈ tw_tbl := tw_mem (List.mem_append_left _ (by decide +kernel)) rfl
theorem ms_Me_mayWrite : (Cond.selects "StoryMachine$Memory" (⟨"StoryMachine$Memory", "mayWrite", "(II)Z"⟩) (⟨"StoryMachine$Memory", "mayWrite", "(II)Z"⟩)) ∈ tw_tbl := tw_mem (List.mem_append_left _ (by decide +kernel)) rfl
theorem ms_Mo_addCharacter : (Cond.selects "StoryMachineModel" (⟨"StoryMachineModel", "addCharacter", "(I)V"⟩) (⟨"StoryMachineModel", "addCharacter", "(I)V"⟩)) ∈ tw_tbl := tw_mem (List.mem_append_left _ (by decide +kernel)) rfl
theorem ms_Mo_addLetter : (Cond.selects "StoryMachineModel" (⟨"StoryMachineModel", "addLetter", "(I)V"⟩) (⟨"StoryMachineModel", "addLetter", "(I)V"⟩)) ∈ tw_tbl := tw_mem (List.mem_append_left _ (by decide +kernel)) rfl
theorem ms_Mo_begins : (Cond.selects "StoryMachineModel" (⟨"StoryMachineModel", "begins", "(II)Z"⟩) (⟨"StoryMachineModel", "begins", "(II)Z"⟩)) ∈ tw_tbl := tw_mem (List.mem_append_left _ (by decide +kernel)) rfl
theorem ms_Mo_branch : (Cond.selects "StoryMachineModel" (⟨"StoryMachineModel", "branch", "(Z)V"⟩) (⟨"StoryMachineModel", "branch", "(Z)V"⟩)) ∈ tw_tbl := tw_mem (List.mem_append_left _ (by decide +kernel)) rfl
theorem ms_Mo_byteAt : (Cond.selects "StoryMachineModel" (⟨"StoryMachineModel", "byteAt", "(I)I"⟩) (⟨"StoryMachineModel", "byteAt", "(I)I"⟩)) ∈ tw_tbl := tw_mem (List.mem_append_left _ (by decide +kernel)) rfl
theorem ms_Mo_bytesOf : (Cond.selects "StoryMachineModel" (⟨"StoryMachineModel", "bytesOf", "(II)I"⟩) (⟨"StoryMachineModel", "bytesOf", "(II)I"⟩)) ∈ tw_tbl := tw_mem (List.mem_append_left _ (by decide +kernel)) rfl
theorem ms_Mo_call : (Cond.selects "StoryMachineModel" (⟨"StoryMachineModel", "call", "()V"⟩) (⟨"StoryMachineModel", "call", "()V"⟩)) ∈ tw_tbl := tw_mem (List.mem_append_left _ (by decide +kernel)) rfl
theorem ms_Mo_change : (Cond.selects "StoryMachineModel" (⟨"StoryMachineModel", "change", "(II)I"⟩) (⟨"StoryMachineModel", "change", "(II)I"⟩)) ∈ tw_tbl := tw_mem (List.mem_append_left _ (by decide +kernel)) rfl
theorem ms_Mo_code : (Cond.selects "StoryMachineModel" (⟨"StoryMachineModel", "code", "()I"⟩) (⟨"StoryMachineModel", "code", "()I"⟩)) ∈ tw_tbl := tw_mem (List.mem_append_left _ (by decide +kernel)) rfl
theorem ms_Mo_draw : (Cond.selects "StoryMachineModel" (⟨"StoryMachineModel", "draw", "(I)V"⟩) (⟨"StoryMachineModel", "draw", "(I)V"⟩)) ∈ tw_tbl := tw_mem (List.mem_append_left _ (by decide +kernel)) rfl
theorem ms_Mo_entry : (Cond.selects "StoryMachineModel" (⟨"StoryMachineModel", "entry", "(II)I"⟩) (⟨"StoryMachineModel", "entry", "(II)I"⟩)) ∈ tw_tbl := tw_mem (List.mem_append_left _ (by decide +kernel)) rfl
theorem ms_Mo_findWords : (Cond.selects "StoryMachineModel" (⟨"StoryMachineModel", "findWords", "(II)I"⟩) (⟨"StoryMachineModel", "findWords", "(II)I"⟩)) ∈ tw_tbl := tw_mem (List.mem_append_left _ (by decide +kernel)) rfl
theorem ms_Mo_first : (Cond.selects "StoryMachineModel" (⟨"StoryMachineModel", "first", "(II)V"⟩) (⟨"StoryMachineModel", "first", "(II)V"⟩)) ∈ tw_tbl := tw_mem (List.mem_append_left _ (by decide +kernel)) rfl
theorem ms_Mo_firstProperty : (Cond.selects "StoryMachineModel" (⟨"StoryMachineModel", "firstProperty", "(I)I"⟩) (⟨"StoryMachineModel", "firstProperty", "(I)I"⟩)) ∈ tw_tbl := tw_mem (List.mem_append_left _ (by decide +kernel)) rfl
theorem ms_Mo_give : (Cond.selects "StoryMachineModel" (⟨"StoryMachineModel", "give", "(I)V"⟩) (⟨"StoryMachineModel", "give", "(I)V"⟩)) ∈ tw_tbl := tw_mem (List.mem_append_left _ (by decide +kernel)) rfl
theorem ms_Mo_giveAndAsk : (Cond.selects "StoryMachineModel" (⟨"StoryMachineModel", "giveAndAsk", "(I)V"⟩) (⟨"StoryMachineModel", "giveAndAsk", "(I)V"⟩)) ∈ tw_tbl := tw_mem (List.mem_append_left _ (by decide +kernel)) rfl
theorem ms_Mo_giveIf : (Cond.selects "StoryMachineModel" (⟨"StoryMachineModel", "giveIf", "(I)V"⟩) (⟨"StoryMachineModel", "giveIf", "(I)V"⟩)) ∈ tw_tbl := tw_mem (List.mem_append_left _ (by decide +kernel)) rfl
theorem ms_Mo_good : (Cond.selects "StoryMachineModel" (⟨"StoryMachineModel", "good", "(ZI)Z"⟩) (⟨"StoryMachineModel", "good", "(ZI)Z"⟩)) ∈ tw_tbl := tw_mem (List.mem_append_left _ (by decide +kernel)) rfl
theorem ms_Mo_has : (Cond.selects "StoryMachineModel" (⟨"StoryMachineModel", "has", "(II)Z"⟩) (⟨"StoryMachineModel", "has", "(II)Z"⟩)) ∈ tw_tbl := tw_mem (List.mem_append_left _ (by decide +kernel)) rfl
theorem ms_Mo_insert : (Cond.selects "StoryMachineModel" (⟨"StoryMachineModel", "insert", "(II)V"⟩) (⟨"StoryMachineModel", "insert", "(II)V"⟩)) ∈ tw_tbl := tw_mem (List.mem_append_left _ (by decide +kernel)) rfl
theorem ms_Mo_leave : (Cond.selects "StoryMachineModel" (⟨"StoryMachineModel", "leave", "(I)V"⟩) (⟨"StoryMachineModel", "leave", "(I)V"⟩)) ∈ tw_tbl := tw_mem (List.mem_append_left _ (by decide +kernel)) rfl
theorem ms_Mo_leaveWith : (Cond.selects "StoryMachineModel" (⟨"StoryMachineModel", "leaveWith", "(I)V"⟩) (⟨"StoryMachineModel", "leaveWith", "(I)V"⟩)) ∈ tw_tbl := tw_mem (List.mem_append_left _ (by decide +kernel)) rfl
theorem ms_Mo_lengthAt : (Cond.selects "StoryMachineModel" (⟨"StoryMachineModel", "lengthAt", "(I)I"⟩) (⟨"StoryMachineModel", "lengthAt", "(I)I"⟩)) ∈ tw_tbl := tw_mem (List.mem_append_left _ (by decide +kernel)) rfl
theorem ms_Mo_lengthFrom : (Cond.selects "StoryMachineModel" (⟨"StoryMachineModel", "lengthFrom", "(III)I"⟩) (⟨"StoryMachineModel", "lengthFrom", "(III)I"⟩)) ∈ tw_tbl := tw_mem (List.mem_append_left _ (by decide +kernel)) rfl
theorem ms_Mo_letter : (Cond.selects "StoryMachineModel" (⟨"StoryMachineModel", "letter", "(I)V"⟩) (⟨"StoryMachineModel", "letter", "(I)V"⟩)) ∈ tw_tbl := tw_mem (List.mem_append_left _ (by decide +kernel)) rfl
theorem ms_Mo_manyList : (Cond.selects "StoryMachineModel" (⟨"StoryMachineModel", "manyList", "(IIII)V"⟩) (⟨"StoryMachineModel", "manyList", "(IIII)V"⟩)) ∈ tw_tbl := tw_mem (List.mem_append_left _ (by decide +kernel)) rfl
theorem ms_Mo_mark : (Cond.selects "StoryMachineModel" (⟨"StoryMachineModel", "mark", "(IIZ)V"⟩) (⟨"StoryMachineModel", "mark", "(IIZ)V"⟩)) ∈ tw_tbl := tw_mem (List.mem_append_left _ (by decide +kernel)) rfl
theorem ms_Mo_none : (Cond.selects "StoryMachineModel" (⟨"StoryMachineModel", "none", "(I)V"⟩) (⟨"StoryMachineModel", "none", "(I)V"⟩)) ∈ tw_tbl := tw_mem (List.mem_append_left _ (by decide +kernel)) rfl
theorem ms_Mo_number : (Cond.selects "StoryMachineModel" (⟨"StoryMachineModel", "number", "(I)V"⟩) (⟨"StoryMachineModel", "number", "(I)V"⟩)) ∈ tw_tbl := tw_mem (List.mem_append_left _ (by decide +kernel)) rfl
theorem ms_Mo_objectAt : (Cond.selects "StoryMachineModel" (⟨"StoryMachineModel", "objectAt", "(I)I"⟩) (⟨"StoryMachineModel", "objectAt", "(I)I"⟩)) ∈ tw_tbl := tw_mem (List.mem_append_left _ (by decide +kernel)) rfl
theorem ms_Mo_of : (Cond.selects "StoryMachineModel" (⟨"StoryMachineModel", "of", "(II)I"⟩) (⟨"StoryMachineModel", "of", "(II)I"⟩)) ∈ tw_tbl := tw_mem (List.mem_append_left _ (by decide +kernel)) rfl
theorem ms_Mo_own : (Cond.selects "StoryMachineModel" (⟨"StoryMachineModel", "own", "(I)Z"⟩) (⟨"StoryMachineModel", "own", "(I)Z"⟩)) ∈ tw_tbl := tw_mem (List.mem_append_left _ (by decide +kernel)) rfl
theorem ms_Mo_parse : (Cond.selects "StoryMachineModel" (⟨"StoryMachineModel", "parse", "(III)V"⟩) (⟨"StoryMachineModel", "parse", "(III)V"⟩)) ∈ tw_tbl := tw_mem (List.mem_append_left _ (by decide +kernel)) rfl
theorem ms_Mo_peekVariable : (Cond.selects "StoryMachineModel" (⟨"StoryMachineModel", "peekVariable", "(I)I"⟩) (⟨"StoryMachineModel", "peekVariable", "(I)I"⟩)) ∈ tw_tbl := tw_mem (List.mem_append_left _ (by decide +kernel)) rfl
theorem ms_Mo_pop : (Cond.selects "StoryMachineModel" (⟨"StoryMachineModel", "pop", "()I"⟩) (⟨"StoryMachineModel", "pop", "()I"⟩)) ∈ tw_tbl := tw_mem (List.mem_append_left _ (by decide +kernel)) rfl
theorem ms_Mo_property : (Cond.selects "StoryMachineModel" (⟨"StoryMachineModel", "property", "(II)I"⟩) (⟨"StoryMachineModel", "property", "(II)I"⟩)) ∈ tw_tbl := tw_mem (List.mem_append_left _ (by decide +kernel)) rfl
theorem ms_Mo_propertyBehind : (Cond.selects "StoryMachineModel" (⟨"StoryMachineModel", "propertyBehind", "(II)I"⟩) (⟨"StoryMachineModel", "propertyBehind", "(II)I"⟩)) ∈ tw_tbl := tw_mem (List.mem_append_left _ (by decide +kernel)) rfl
theorem ms_Mo_push : (Cond.selects "StoryMachineModel" (⟨"StoryMachineModel", "push", "(I)V"⟩) (⟨"StoryMachineModel", "push", "(I)V"⟩)) ∈ tw_tbl := tw_mem (List.mem_append_left _ (by decide +kernel)) rfl
theorem ms_Mo_readLine : (Cond.selects "StoryMachineModel" (⟨"StoryMachineModel", "readLine", "(II)V"⟩) (⟨"StoryMachineModel", "readLine", "(II)V"⟩)) ∈ tw_tbl := tw_mem (List.mem_append_left _ (by decide +kernel)) rfl
theorem ms_Mo_readNumbers : (Cond.selects "StoryMachineModel" (⟨"StoryMachineModel", "readNumbers", "(I)V"⟩) (⟨"StoryMachineModel", "readNumbers", "(I)V"⟩)) ∈ tw_tbl := tw_mem (List.mem_append_left _ (by decide +kernel)) rfl
theorem ms_Mo_readRest : (Cond.selects "StoryMachineModel" (⟨"StoryMachineModel", "readRest", "(II)V"⟩) (⟨"StoryMachineModel", "readRest", "(II)V"⟩)) ∈ tw_tbl := tw_mem (List.mem_append_left _ (by decide +kernel)) rfl
theorem ms_Mo_readVariable : (Cond.selects "StoryMachineModel" (⟨"StoryMachineModel", "readVariable", "(I)I"⟩) (⟨"StoryMachineModel", "readVariable", "(I)I"⟩)) ∈ tw_tbl := tw_mem (List.mem_append_left _ (by decide +kernel)) rfl
theorem ms_Mo_reckon : (Cond.selects "StoryMachineModel" (⟨"StoryMachineModel", "reckon", "(III)V"⟩) (⟨"StoryMachineModel", "reckon", "(III)V"⟩)) ∈ tw_tbl := tw_mem (List.mem_append_left _ (by decide +kernel)) rfl
theorem ms_Mo_replace : (Cond.selects "StoryMachineModel" (⟨"StoryMachineModel", "replace", "(II)V"⟩) (⟨"StoryMachineModel", "replace", "(II)V"⟩)) ∈ tw_tbl := tw_mem (List.mem_append_left _ (by decide +kernel)) rfl
theorem ms_Mo_replaceIf : (Cond.selects "StoryMachineModel" (⟨"StoryMachineModel", "replaceIf", "(II)V"⟩) (⟨"StoryMachineModel", "replaceIf", "(II)V"⟩)) ∈ tw_tbl := tw_mem (List.mem_append_left _ (by decide +kernel)) rfl
theorem ms_Mo_restore : (Cond.selects "StoryMachineModel" (⟨"StoryMachineModel", "restore", "()V"⟩) (⟨"StoryMachineModel", "restore", "()V"⟩)) ∈ tw_tbl := tw_mem (List.mem_append_left _ (by decide +kernel)) rfl
theorem ms_Mo_save : (Cond.selects "StoryMachineModel" (⟨"StoryMachineModel", "save", "()V"⟩) (⟨"StoryMachineModel", "save", "()V"⟩)) ∈ tw_tbl := tw_mem (List.mem_append_left _ (by decide +kernel)) rfl
theorem ms_Mo_second : (Cond.selects "StoryMachineModel" (⟨"StoryMachineModel", "second", "(III)V"⟩) (⟨"StoryMachineModel", "second", "(III)V"⟩)) ∈ tw_tbl := tw_mem (List.mem_append_left _ (by decide +kernel)) rfl
theorem ms_Mo_separates : (Cond.selects "StoryMachineModel" (⟨"StoryMachineModel", "separates", "(I)Z"⟩) (⟨"StoryMachineModel", "separates", "(I)Z"⟩)) ∈ tw_tbl := tw_mem (List.mem_append_left _ (by decide +kernel)) rfl
theorem ms_Mo_setByte : (Cond.selects "StoryMachineModel" (⟨"StoryMachineModel", "setByte", "(II)V"⟩) (⟨"StoryMachineModel", "setByte", "(II)V"⟩)) ∈ tw_tbl := tw_mem (List.mem_append_left _ (by decide +kernel)) rfl
theorem ms_Mo_setOf : (Cond.selects "StoryMachineModel" (⟨"StoryMachineModel", "setOf", "(III)V"⟩) (⟨"StoryMachineModel", "setOf", "(III)V"⟩)) ∈ tw_tbl := tw_mem (List.mem_append_left _ (by decide +kernel)) rfl
theorem ms_Mo_setProperty : (Cond.selects "StoryMachineModel" (⟨"StoryMachineModel", "setProperty", "(III)V"⟩) (⟨"StoryMachineModel", "setProperty", "(III)V"⟩)) ∈ tw_tbl := tw_mem (List.mem_append_left _ (by decide +kernel)) rfl
theorem ms_Mo_setWord : (Cond.selects "StoryMachineModel" (⟨"StoryMachineModel", "setWord", "(II)V"⟩) (⟨"StoryMachineModel", "setWord", "(II)V"⟩)) ∈ tw_tbl := tw_mem (List.mem_append_left _ (by decide +kernel)) rfl
theorem ms_Mo_show : (Cond.selects "StoryMachineModel" (⟨"StoryMachineModel", "show", "(I)V"⟩) (⟨"StoryMachineModel", "show", "(I)V"⟩)) ∈ tw_tbl := tw_mem (List.mem_append_left _ (by decide +kernel)) rfl
theorem ms_Mo_showName : (Cond.selects "StoryMachineModel" (⟨"StoryMachineModel", "showName", "(I)V"⟩) (⟨"StoryMachineModel", "showName", "(I)V"⟩)) ∈ tw_tbl := tw_mem (List.mem_append_left _ (by decide +kernel)) rfl
theorem ms_Mo_showNumber : (Cond.selects "StoryMachineModel" (⟨"StoryMachineModel", "showNumber", "(I)V"⟩) (⟨"StoryMachineModel", "showNumber", "(I)V"⟩)) ∈ tw_tbl := tw_mem (List.mem_append_left _ (by decide +kernel)) rfl
theorem ms_Mo_showText : (Cond.selects "StoryMachineModel" (⟨"StoryMachineModel", "showText", "(I)I"⟩) (⟨"StoryMachineModel", "showText", "(I)I"⟩)) ∈ tw_tbl := tw_mem (List.mem_append_left _ (by decide +kernel)) rfl
theorem ms_Mo_sizeAt : (Cond.selects "StoryMachineModel" (⟨"StoryMachineModel", "sizeAt", "(II)I"⟩) (⟨"StoryMachineModel", "sizeAt", "(II)I"⟩)) ∈ tw_tbl := tw_mem (List.mem_append_left _ (by decide +kernel)) rfl
theorem ms_Mo_step : (Cond.selects "StoryMachineModel" (⟨"StoryMachineModel", "step", "()V"⟩) (⟨"StoryMachineModel", "step", "()V"⟩)) ∈ tw_tbl := tw_mem (List.mem_append_left _ (by decide +kernel)) rfl
theorem ms_Mo_take : (Cond.selects "StoryMachineModel" (⟨"StoryMachineModel", "take", "(I)V"⟩) (⟨"StoryMachineModel", "take", "(I)V"⟩)) ∈ tw_tbl := tw_mem (List.mem_append_left _ (by decide +kernel)) rfl
theorem ms_Mo_wordAt : (Cond.selects "StoryMachineModel" (⟨"StoryMachineModel", "wordAt", "(I)I"⟩) (⟨"StoryMachineModel", "wordAt", "(I)I"⟩)) ∈ tw_tbl := tw_mem (List.mem_append_left _ (by decide +kernel)) rfl
theorem ms_Mo_write : (Cond.selects "StoryMachineModel" (⟨"StoryMachineModel", "write", "(II)V"⟩) (⟨"StoryMachineModel", "write", "(II)V"⟩)) ∈ tw_tbl := tw_mem (List.mem_append_left _ (by decide +kernel)) rfl
theorem ms_Pr_putLetter : (Cond.selects "StoryMachine$Printer" (⟨"StoryMachine$Printer", "putLetter", "(I)V"⟩) (⟨"StoryMachine$Printer", "putLetter", "(I)V"⟩)) ∈ tw_tbl := tw_mem (List.mem_append_left _ (by decide +kernel)) rfl
theorem ms_Pr_putOf : (Cond.selects "StoryMachine$Printer" (⟨"StoryMachine$Printer", "putOf", "(II)V"⟩) (⟨"StoryMachine$Printer", "putOf", "(II)V"⟩)) ∈ tw_tbl := tw_mem (List.mem_append_left _ (by decide +kernel)) rfl
theorem ms_Tr_attributePlace : (Cond.selects "StoryMachine$Tree" (⟨"StoryMachine$Tree", "attributePlace", "(II)I"⟩) (⟨"StoryMachine$Tree", "attributePlace", "(II)I"⟩)) ∈ tw_tbl := tw_mem (List.mem_append_left _ (by decide +kernel)) rfl
theorem ms_Tr_defaultOf : (Cond.selects "StoryMachine$Tree" (⟨"StoryMachine$Tree", "defaultOf", "(I)I"⟩) (⟨"StoryMachine$Tree", "defaultOf", "(I)I"⟩)) ∈ tw_tbl := tw_mem (List.mem_append_left _ (by decide +kernel)) rfl
theorem ms_Tr_linkTo : (Cond.selects "StoryMachine$Tree" (⟨"StoryMachine$Tree", "linkTo", "(II)I"⟩) (⟨"StoryMachine$Tree", "linkTo", "(II)I"⟩)) ∈ tw_tbl := tw_mem (List.mem_append_left _ (by decide +kernel)) rfl
theorem ms_Tr_placeOf : (Cond.selects "StoryMachine$Tree" (⟨"StoryMachine$Tree", "placeOf", "(I)I"⟩) (⟨"StoryMachine$Tree", "placeOf", "(I)I"⟩)) ∈ tw_tbl := tw_mem (List.mem_append_left _ (by decide +kernel)) rfl
theorem ms_Va_globalPlace : (Cond.selects "StoryMachine$Variables" (⟨"StoryMachine$Variables", "globalPlace", "(I)I"⟩) (⟨"StoryMachine$Variables", "globalPlace", "(I)I"⟩)) ∈ tw_tbl := tw_mem (List.mem_append_left _ (by decide +kernel)) rfl
def T_SM : u_T := fun k => match k with
  | 0 => ("StoryMachine", "memory", "LStoryMachine$Memory;", true)
  | 1 => ("StoryMachine", "line", "LStoryMachine$Line;", true)
  | 2 => ("StoryMachine", "routines", "LStoryMachine$Routines;", true)
  | 3 => ("StoryMachine", "printer", "LStoryMachine$Printer;", true)
  | _ => ("StoryMachine", "engine", "LStoryMachine$Engine;", true)
def t_SM : Nat → FieldType := fun k => match k with
  | 0 => .object "StoryMachine$Memory"
  | 1 => .object "StoryMachine$Line"
  | 2 => .object "StoryMachine$Routines"
  | 3 => .object "StoryMachine$Printer"
  | _ => .object "StoryMachine$Engine"
set_option maxRecDepth 20000 in
theorem nm_SM : ∀ a, a < 5 → ∀ b, b < 5 → a ≠ b → (T_SM a).2.1 ≠ (T_SM b).2.1 := by decide +kernel
theorem tk_SM : ∀ k, k < 5 → parseFieldDescriptor (T_SM k).2.2.1 = some (t_SM k) := by decide +kernel
theorem in_SM : ∀ w ∈ u_ws "StoryMachine" T_SM 5, w ∈ tw_tbl := by
  show ∀ w ∈ [Cond.laysFinal "StoryMachine" "StoryMachine" "memory" "LStoryMachine$Memory;", Cond.laysFinal "StoryMachine" "StoryMachine" "line" "LStoryMachine$Line;", Cond.laysFinal "StoryMachine" "StoryMachine" "routines" "LStoryMachine$Routines;", Cond.laysFinal "StoryMachine" "StoryMachine" "printer" "LStoryMachine$Printer;", Cond.laysFinal "StoryMachine" "StoryMachine" "engine" "LStoryMachine$Engine;"], w ∈ tw_tbl
  exact List.forall_mem_cons.mpr ⟨mw_315, List.forall_mem_cons.mpr ⟨mw_317, List.forall_mem_cons.mpr ⟨mw_319, List.forall_mem_cons.mpr ⟨mw_321, List.forall_mem_cons.mpr ⟨mw_323, (fun _ h => by cases h)⟩⟩⟩⟩⟩
def T_Me : u_T := fun k => match k with
  | _ => ("StoryMachine$Memory", "bytes", "[I", true)
def t_Me : Nat → FieldType := fun k => match k with
  | _ => .array .int
set_option maxRecDepth 20000 in
theorem nm_Me : ∀ a, a < 1 → ∀ b, b < 1 → a ≠ b → (T_Me a).2.1 ≠ (T_Me b).2.1 := by decide +kernel
theorem tk_Me : ∀ k, k < 1 → parseFieldDescriptor (T_Me k).2.2.1 = some (t_Me k) := by decide +kernel
theorem in_Me : ∀ w ∈ u_ws "StoryMachine$Memory" T_Me 1, w ∈ tw_tbl := by
  show ∀ w ∈ [Cond.laysFinal "StoryMachine$Memory" "StoryMachine$Memory" "bytes" "[I"], w ∈ tw_tbl
  exact List.forall_mem_cons.mpr ⟨mw_44, (fun _ h => by cases h)⟩
def T_Li : u_T := fun k => match k with
  | 0 => ("StoryMachine$Line", "typed", "[I", true)
  | 1 => ("StoryMachine$Line", "typedLength", "I", false)
  | 2 => ("StoryMachine$Line", "entered", "[I", true)
  | 3 => ("StoryMachine$Line", "enteredLength", "I", false)
  | _ => ("StoryMachine$Line", "isEntered", "Z", false)
def t_Li : Nat → FieldType := fun k => match k with
  | 0 => .array .int
  | 1 => .int
  | 2 => .array .int
  | 3 => .int
  | _ => .boolean
set_option maxRecDepth 20000 in
theorem nm_Li : ∀ a, a < 5 → ∀ b, b < 5 → a ≠ b → (T_Li a).2.1 ≠ (T_Li b).2.1 := by decide +kernel
theorem tk_Li : ∀ k, k < 5 → parseFieldDescriptor (T_Li k).2.2.1 = some (t_Li k) := by decide +kernel
theorem in_Li : ∀ w ∈ u_ws "StoryMachine$Line" T_Li 5, w ∈ tw_tbl := by
  show ∀ w ∈ [Cond.laysFinal "StoryMachine$Line" "StoryMachine$Line" "typed" "[I", Cond.lays "StoryMachine$Line" "StoryMachine$Line" "typedLength" "I", Cond.laysFinal "StoryMachine$Line" "StoryMachine$Line" "entered" "[I", Cond.lays "StoryMachine$Line" "StoryMachine$Line" "enteredLength" "I", Cond.lays "StoryMachine$Line" "StoryMachine$Line" "isEntered" "Z"], w ∈ tw_tbl
  exact List.forall_mem_cons.mpr ⟨mw_63, List.forall_mem_cons.mpr ⟨mw_65, List.forall_mem_cons.mpr ⟨mw_67, List.forall_mem_cons.mpr ⟨mw_69, List.forall_mem_cons.mpr ⟨mw_71, (fun _ h => by cases h)⟩⟩⟩⟩⟩
def T_Ro : u_T := fun k => match k with
  | 0 => ("StoryMachine$Routines", "words", "[I", true)
  | 1 => ("StoryMachine$Routines", "height", "I", false)
  | 2 => ("StoryMachine$Routines", "depth", "I", false)
  | 3 => ("StoryMachine$Routines", "floors", "[I", true)
  | 4 => ("StoryMachine$Routines", "behinds", "[I", true)
  | 5 => ("StoryMachine$Routines", "results", "[I", true)
  | 6 => ("StoryMachine$Routines", "localCounts", "[I", true)
  | _ => ("StoryMachine$Routines", "locals", "[I", true)
def t_Ro : Nat → FieldType := fun k => match k with
  | 0 => .array .int
  | 1 => .int
  | 2 => .int
  | 3 => .array .int
  | 4 => .array .int
  | 5 => .array .int
  | 6 => .array .int
  | _ => .array .int
set_option maxRecDepth 20000 in
theorem nm_Ro : ∀ a, a < 8 → ∀ b, b < 8 → a ≠ b → (T_Ro a).2.1 ≠ (T_Ro b).2.1 := by decide +kernel
theorem tk_Ro : ∀ k, k < 8 → parseFieldDescriptor (T_Ro k).2.2.1 = some (t_Ro k) := by decide +kernel
theorem in_Ro : ∀ w ∈ u_ws "StoryMachine$Routines" T_Ro 8, w ∈ tw_tbl := by
  show ∀ w ∈ [Cond.laysFinal "StoryMachine$Routines" "StoryMachine$Routines" "words" "[I", Cond.lays "StoryMachine$Routines" "StoryMachine$Routines" "height" "I", Cond.lays "StoryMachine$Routines" "StoryMachine$Routines" "depth" "I", Cond.laysFinal "StoryMachine$Routines" "StoryMachine$Routines" "floors" "[I", Cond.laysFinal "StoryMachine$Routines" "StoryMachine$Routines" "behinds" "[I", Cond.laysFinal "StoryMachine$Routines" "StoryMachine$Routines" "results" "[I", Cond.laysFinal "StoryMachine$Routines" "StoryMachine$Routines" "localCounts" "[I", Cond.laysFinal "StoryMachine$Routines" "StoryMachine$Routines" "locals" "[I"], w ∈ tw_tbl
  exact List.forall_mem_cons.mpr ⟨mw_91, List.forall_mem_cons.mpr ⟨mw_93, List.forall_mem_cons.mpr ⟨mw_95, List.forall_mem_cons.mpr ⟨mw_97, List.forall_mem_cons.mpr ⟨mw_99, List.forall_mem_cons.mpr ⟨mw_101, List.forall_mem_cons.mpr ⟨mw_103, List.forall_mem_cons.mpr ⟨mw_105, (fun _ h => by cases h)⟩⟩⟩⟩⟩⟩⟩⟩
def T_Pr : u_T := fun k => match k with
  | 0 => ("StoryMachine$Printer", "memory", "LStoryMachine$Memory;", true)
  | 1 => ("StoryMachine$Printer", "kept", "[I", true)
  | 2 => ("StoryMachine$Printer", "count", "I", false)
  | 3 => ("StoryMachine$Printer", "mode", "I", false)
  | _ => ("StoryMachine$Printer", "half", "I", false)
def t_Pr : Nat → FieldType := fun k => match k with
  | 0 => .object "StoryMachine$Memory"
  | 1 => .array .int
  | 2 => .int
  | 3 => .int
  | _ => .int
set_option maxRecDepth 20000 in
theorem nm_Pr : ∀ a, a < 5 → ∀ b, b < 5 → a ≠ b → (T_Pr a).2.1 ≠ (T_Pr b).2.1 := by decide +kernel
theorem tk_Pr : ∀ k, k < 5 → parseFieldDescriptor (T_Pr k).2.2.1 = some (t_Pr k) := by decide +kernel
theorem in_Pr : ∀ w ∈ u_ws "StoryMachine$Printer" T_Pr 5, w ∈ tw_tbl := by
  show ∀ w ∈ [Cond.laysFinal "StoryMachine$Printer" "StoryMachine$Printer" "memory" "LStoryMachine$Memory;", Cond.laysFinal "StoryMachine$Printer" "StoryMachine$Printer" "kept" "[I", Cond.lays "StoryMachine$Printer" "StoryMachine$Printer" "count" "I", Cond.lays "StoryMachine$Printer" "StoryMachine$Printer" "mode" "I", Cond.lays "StoryMachine$Printer" "StoryMachine$Printer" "half" "I"], w ∈ tw_tbl
  exact List.forall_mem_cons.mpr ⟨mw_121, List.forall_mem_cons.mpr ⟨mw_123, List.forall_mem_cons.mpr ⟨mw_125, List.forall_mem_cons.mpr ⟨mw_127, List.forall_mem_cons.mpr ⟨mw_129, (fun _ h => by cases h)⟩⟩⟩⟩⟩
def T_En : u_T := fun k => match k with
  | 0 => ("StoryMachine$Engine", "memory", "LStoryMachine$Memory;", true)
  | 1 => ("StoryMachine$Engine", "line", "LStoryMachine$Line;", true)
  | 2 => ("StoryMachine$Engine", "routines", "LStoryMachine$Routines;", true)
  | 3 => ("StoryMachine$Engine", "printer", "LStoryMachine$Printer;", true)
  | 4 => ("StoryMachine$Engine", "variables", "LStoryMachine$Variables;", true)
  | 5 => ("StoryMachine$Engine", "tree", "LStoryMachine$Tree;", true)
  | 6 => ("StoryMachine$Engine", "dictionary", "LStoryMachine$Dictionary;", true)
  | 7 => ("StoryMachine$Engine", "instruction", "LStoryMachine$Instruction;", true)
  | 8 => ("StoryMachine$Engine", "aside", "LStoryMachine$Aside;", true)
  | 9 => ("StoryMachine$Engine", "newLocals", "[I", true)
  | 10 => ("StoryMachine$Engine", "canGoOn", "Z", false)
  | 11 => ("StoryMachine$Engine", "current", "I", false)
  | 12 => ("StoryMachine$Engine", "stepsDone", "I", false)
  | 13 => ("StoryMachine$Engine", "next", "I", false)
  | _ => ("StoryMachine$Engine", "random", "I", false)
def t_En : Nat → FieldType := fun k => match k with
  | 0 => .object "StoryMachine$Memory"
  | 1 => .object "StoryMachine$Line"
  | 2 => .object "StoryMachine$Routines"
  | 3 => .object "StoryMachine$Printer"
  | 4 => .object "StoryMachine$Variables"
  | 5 => .object "StoryMachine$Tree"
  | 6 => .object "StoryMachine$Dictionary"
  | 7 => .object "StoryMachine$Instruction"
  | 8 => .object "StoryMachine$Aside"
  | 9 => .array .int
  | 10 => .boolean
  | 11 => .int
  | 12 => .int
  | 13 => .int
  | _ => .int
set_option maxRecDepth 20000 in
theorem nm_En : ∀ a, a < 15 → ∀ b, b < 15 → a ≠ b → (T_En a).2.1 ≠ (T_En b).2.1 := by decide +kernel
theorem tk_En : ∀ k, k < 15 → parseFieldDescriptor (T_En k).2.2.1 = some (t_En k) := by decide +kernel
theorem in_En : ∀ w ∈ u_ws "StoryMachine$Engine" T_En 15, w ∈ tw_tbl := by
  show ∀ w ∈ [Cond.laysFinal "StoryMachine$Engine" "StoryMachine$Engine" "memory" "LStoryMachine$Memory;", Cond.laysFinal "StoryMachine$Engine" "StoryMachine$Engine" "line" "LStoryMachine$Line;", Cond.laysFinal "StoryMachine$Engine" "StoryMachine$Engine" "routines" "LStoryMachine$Routines;", Cond.laysFinal "StoryMachine$Engine" "StoryMachine$Engine" "printer" "LStoryMachine$Printer;", Cond.laysFinal "StoryMachine$Engine" "StoryMachine$Engine" "variables" "LStoryMachine$Variables;", Cond.laysFinal "StoryMachine$Engine" "StoryMachine$Engine" "tree" "LStoryMachine$Tree;", Cond.laysFinal "StoryMachine$Engine" "StoryMachine$Engine" "dictionary" "LStoryMachine$Dictionary;", Cond.laysFinal "StoryMachine$Engine" "StoryMachine$Engine" "instruction" "LStoryMachine$Instruction;", Cond.laysFinal "StoryMachine$Engine" "StoryMachine$Engine" "aside" "LStoryMachine$Aside;", Cond.laysFinal "StoryMachine$Engine" "StoryMachine$Engine" "newLocals" "[I", Cond.lays "StoryMachine$Engine" "StoryMachine$Engine" "canGoOn" "Z", Cond.lays "StoryMachine$Engine" "StoryMachine$Engine" "current" "I", Cond.lays "StoryMachine$Engine" "StoryMachine$Engine" "stepsDone" "I", Cond.lays "StoryMachine$Engine" "StoryMachine$Engine" "next" "I", Cond.lays "StoryMachine$Engine" "StoryMachine$Engine" "random" "I"], w ∈ tw_tbl
  exact List.forall_mem_cons.mpr ⟨mw_279, List.forall_mem_cons.mpr ⟨mw_281, List.forall_mem_cons.mpr ⟨mw_283, List.forall_mem_cons.mpr ⟨mw_285, List.forall_mem_cons.mpr ⟨mw_287, List.forall_mem_cons.mpr ⟨mw_289, List.forall_mem_cons.mpr ⟨mw_291, List.forall_mem_cons.mpr ⟨mw_293, List.forall_mem_cons.mpr ⟨mw_295, List.forall_mem_cons.mpr ⟨mw_297, List.forall_mem_cons.mpr ⟨mw_299, List.forall_mem_cons.mpr ⟨mw_301, List.forall_mem_cons.mpr ⟨mw_303, List.forall_mem_cons.mpr ⟨mw_305, List.forall_mem_cons.mpr ⟨mw_307, (fun _ h => by cases h)⟩⟩⟩⟩⟩⟩⟩⟩⟩⟩⟩⟩⟩⟩⟩
def T_Va : u_T := fun k => match k with
  | 0 => ("StoryMachine$Variables", "memory", "LStoryMachine$Memory;", true)
  | _ => ("StoryMachine$Variables", "routines", "LStoryMachine$Routines;", true)
def t_Va : Nat → FieldType := fun k => match k with
  | 0 => .object "StoryMachine$Memory"
  | _ => .object "StoryMachine$Routines"
set_option maxRecDepth 20000 in
theorem nm_Va : ∀ a, a < 2 → ∀ b, b < 2 → a ≠ b → (T_Va a).2.1 ≠ (T_Va b).2.1 := by decide +kernel
theorem tk_Va : ∀ k, k < 2 → parseFieldDescriptor (T_Va k).2.2.1 = some (t_Va k) := by decide +kernel
theorem in_Va : ∀ w ∈ u_ws "StoryMachine$Variables" T_Va 2, w ∈ tw_tbl := by
  show ∀ w ∈ [Cond.laysFinal "StoryMachine$Variables" "StoryMachine$Variables" "memory" "LStoryMachine$Memory;", Cond.laysFinal "StoryMachine$Variables" "StoryMachine$Variables" "routines" "LStoryMachine$Routines;"], w ∈ tw_tbl
  exact List.forall_mem_cons.mpr ⟨mw_170, List.forall_mem_cons.mpr ⟨mw_172, (fun _ h => by cases h)⟩⟩
def T_Tr : u_T := fun k => match k with
  | _ => ("StoryMachine$Tree", "memory", "LStoryMachine$Memory;", true)
def t_Tr : Nat → FieldType := fun k => match k with
  | _ => .object "StoryMachine$Memory"
set_option maxRecDepth 20000 in
theorem nm_Tr : ∀ a, a < 1 → ∀ b, b < 1 → a ≠ b → (T_Tr a).2.1 ≠ (T_Tr b).2.1 := by decide +kernel
theorem tk_Tr : ∀ k, k < 1 → parseFieldDescriptor (T_Tr k).2.2.1 = some (t_Tr k) := by decide +kernel
theorem in_Tr : ∀ w ∈ u_ws "StoryMachine$Tree" T_Tr 1, w ∈ tw_tbl := by
  show ∀ w ∈ [Cond.laysFinal "StoryMachine$Tree" "StoryMachine$Tree" "memory" "LStoryMachine$Memory;"], w ∈ tw_tbl
  exact List.forall_mem_cons.mpr ⟨mw_182, (fun _ h => by cases h)⟩
def T_Di : u_T := fun k => match k with
  | 0 => ("StoryMachine$Dictionary", "memory", "LStoryMachine$Memory;", true)
  | 1 => ("StoryMachine$Dictionary", "starts", "[I", true)
  | 2 => ("StoryMachine$Dictionary", "lengths", "[I", true)
  | 3 => ("StoryMachine$Dictionary", "words", "I", false)
  | 4 => ("StoryMachine$Dictionary", "letters", "[I", true)
  | _ => ("StoryMachine$Dictionary", "letterCount", "I", false)
def t_Di : Nat → FieldType := fun k => match k with
  | 0 => .object "StoryMachine$Memory"
  | 1 => .array .int
  | 2 => .array .int
  | 3 => .int
  | 4 => .array .int
  | _ => .int
set_option maxRecDepth 20000 in
theorem nm_Di : ∀ a, a < 6 → ∀ b, b < 6 → a ≠ b → (T_Di a).2.1 ≠ (T_Di b).2.1 := by decide +kernel
theorem tk_Di : ∀ k, k < 6 → parseFieldDescriptor (T_Di k).2.2.1 = some (t_Di k) := by decide +kernel
theorem in_Di : ∀ w ∈ u_ws "StoryMachine$Dictionary" T_Di 6, w ∈ tw_tbl := by
  show ∀ w ∈ [Cond.laysFinal "StoryMachine$Dictionary" "StoryMachine$Dictionary" "memory" "LStoryMachine$Memory;", Cond.laysFinal "StoryMachine$Dictionary" "StoryMachine$Dictionary" "starts" "[I", Cond.laysFinal "StoryMachine$Dictionary" "StoryMachine$Dictionary" "lengths" "[I", Cond.lays "StoryMachine$Dictionary" "StoryMachine$Dictionary" "words" "I", Cond.laysFinal "StoryMachine$Dictionary" "StoryMachine$Dictionary" "letters" "[I", Cond.lays "StoryMachine$Dictionary" "StoryMachine$Dictionary" "letterCount" "I"], w ∈ tw_tbl
  exact List.forall_mem_cons.mpr ⟨mw_200, List.forall_mem_cons.mpr ⟨mw_202, List.forall_mem_cons.mpr ⟨mw_204, List.forall_mem_cons.mpr ⟨mw_206, List.forall_mem_cons.mpr ⟨mw_208, List.forall_mem_cons.mpr ⟨mw_210, (fun _ h => by cases h)⟩⟩⟩⟩⟩⟩
def T_In : u_T := fun k => match k with
  | 0 => ("StoryMachine$Instruction", "memory", "LStoryMachine$Memory;", true)
  | 1 => ("StoryMachine$Instruction", "variables", "LStoryMachine$Variables;", true)
  | 2 => ("StoryMachine$Instruction", "numbers", "[I", true)
  | 3 => ("StoryMachine$Instruction", "count", "I", false)
  | 4 => ("StoryMachine$Instruction", "list", "I", false)
  | 5 => ("StoryMachine$Instruction", "operation", "I", false)
  | 6 => ("StoryMachine$Instruction", "behind", "I", false)
  | 7 => ("StoryMachine$Instruction", "result", "I", false)
  | 8 => ("StoryMachine$Instruction", "branchesWhen", "Z", false)
  | 9 => ("StoryMachine$Instruction", "offset", "I", false)
  | _ => ("StoryMachine$Instruction", "form", "I", false)
def t_In : Nat → FieldType := fun k => match k with
  | 0 => .object "StoryMachine$Memory"
  | 1 => .object "StoryMachine$Variables"
  | 2 => .array .int
  | 3 => .int
  | 4 => .int
  | 5 => .int
  | 6 => .int
  | 7 => .int
  | 8 => .boolean
  | 9 => .int
  | _ => .int
set_option maxRecDepth 20000 in
theorem nm_In : ∀ a, a < 11 → ∀ b, b < 11 → a ≠ b → (T_In a).2.1 ≠ (T_In b).2.1 := by decide +kernel
theorem tk_In : ∀ k, k < 11 → parseFieldDescriptor (T_In k).2.2.1 = some (t_In k) := by decide +kernel
theorem in_In : ∀ w ∈ u_ws "StoryMachine$Instruction" T_In 11, w ∈ tw_tbl := by
  show ∀ w ∈ [Cond.laysFinal "StoryMachine$Instruction" "StoryMachine$Instruction" "memory" "LStoryMachine$Memory;", Cond.laysFinal "StoryMachine$Instruction" "StoryMachine$Instruction" "variables" "LStoryMachine$Variables;", Cond.laysFinal "StoryMachine$Instruction" "StoryMachine$Instruction" "numbers" "[I", Cond.lays "StoryMachine$Instruction" "StoryMachine$Instruction" "count" "I", Cond.lays "StoryMachine$Instruction" "StoryMachine$Instruction" "list" "I", Cond.lays "StoryMachine$Instruction" "StoryMachine$Instruction" "operation" "I", Cond.lays "StoryMachine$Instruction" "StoryMachine$Instruction" "behind" "I", Cond.lays "StoryMachine$Instruction" "StoryMachine$Instruction" "result" "I", Cond.lays "StoryMachine$Instruction" "StoryMachine$Instruction" "branchesWhen" "Z", Cond.lays "StoryMachine$Instruction" "StoryMachine$Instruction" "offset" "I", Cond.lays "StoryMachine$Instruction" "StoryMachine$Instruction" "form" "I"], w ∈ tw_tbl
  exact List.forall_mem_cons.mpr ⟨mw_238, List.forall_mem_cons.mpr ⟨mw_240, List.forall_mem_cons.mpr ⟨mw_242, List.forall_mem_cons.mpr ⟨mw_244, List.forall_mem_cons.mpr ⟨mw_246, List.forall_mem_cons.mpr ⟨mw_248, List.forall_mem_cons.mpr ⟨mw_250, List.forall_mem_cons.mpr ⟨mw_252, List.forall_mem_cons.mpr ⟨mw_254, List.forall_mem_cons.mpr ⟨mw_256, List.forall_mem_cons.mpr ⟨mw_258, (fun _ h => by cases h)⟩⟩⟩⟩⟩⟩⟩⟩⟩⟩⟩
def T_As : u_T := fun k => match k with
  | 0 => ("StoryMachine$Aside", "isThere", "Z", false)
  | 1 => ("StoryMachine$Aside", "memory", "LStoryMachine$Memory;", true)
  | 2 => ("StoryMachine$Aside", "routines", "LStoryMachine$Routines;", true)
  | _ => ("StoryMachine$Aside", "next", "I", false)
def t_As : Nat → FieldType := fun k => match k with
  | 0 => .boolean
  | 1 => .object "StoryMachine$Memory"
  | 2 => .object "StoryMachine$Routines"
  | _ => .int
set_option maxRecDepth 20000 in
theorem nm_As : ∀ a, a < 4 → ∀ b, b < 4 → a ≠ b → (T_As a).2.1 ≠ (T_As b).2.1 := by decide +kernel
theorem tk_As : ∀ k, k < 4 → parseFieldDescriptor (T_As k).2.2.1 = some (t_As k) := by decide +kernel
theorem in_As : ∀ w ∈ u_ws "StoryMachine$Aside" T_As 4, w ∈ tw_tbl := by
  show ∀ w ∈ [Cond.lays "StoryMachine$Aside" "StoryMachine$Aside" "isThere" "Z", Cond.laysFinal "StoryMachine$Aside" "StoryMachine$Aside" "memory" "LStoryMachine$Memory;", Cond.laysFinal "StoryMachine$Aside" "StoryMachine$Aside" "routines" "LStoryMachine$Routines;", Cond.lays "StoryMachine$Aside" "StoryMachine$Aside" "next" "I"], w ∈ tw_tbl
  exact List.forall_mem_cons.mpr ⟨mw_153, List.forall_mem_cons.mpr ⟨mw_155, List.forall_mem_cons.mpr ⟨mw_157, List.forall_mem_cons.mpr ⟨mw_159, (fun _ h => by cases h)⟩⟩⟩⟩
def T_Mo : u_T := fun k => match k with
  | 0 => ("StoryMachineModel", "thrown", "I", false)
  | 1 => ("StoryMachineModel", "memory", "[I", true)
  | 2 => ("StoryMachineModel", "size", "I", false)
  | 3 => ("StoryMachineModel", "words", "[I", true)
  | 4 => ("StoryMachineModel", "depth", "I", false)
  | 5 => ("StoryMachineModel", "many", "[I", true)
  | 6 => ("StoryMachineModel", "bottom", "[I", true)
  | 7 => ("StoryMachineModel", "back", "[I", true)
  | 8 => ("StoryMachineModel", "gets", "[I", true)
  | 9 => ("StoryMachineModel", "locals", "[I", true)
  | 10 => ("StoryMachineModel", "saved", "Z", false)
  | 11 => ("StoryMachineModel", "oldMemory", "[I", true)
  | 12 => ("StoryMachineModel", "oldSize", "I", false)
  | 13 => ("StoryMachineModel", "oldWords", "[I", true)
  | 14 => ("StoryMachineModel", "oldDepth", "I", false)
  | 15 => ("StoryMachineModel", "oldMany", "[I", true)
  | 16 => ("StoryMachineModel", "oldBottom", "[I", true)
  | 17 => ("StoryMachineModel", "oldBack", "[I", true)
  | 18 => ("StoryMachineModel", "oldGets", "[I", true)
  | 19 => ("StoryMachineModel", "oldLocals", "[I", true)
  | 20 => ("StoryMachineModel", "oldBehind", "I", false)
  | 21 => ("StoryMachineModel", "oldSense", "Z", false)
  | 22 => ("StoryMachineModel", "oldOffset", "I", false)
  | 23 => ("StoryMachineModel", "begun", "Z", false)
  | 24 => ("StoryMachineModel", "state", "I", false)
  | 25 => ("StoryMachineModel", "trouble", "I", false)
  | 26 => ("StoryMachineModel", "ends", "Z", false)
  | 27 => ("StoryMachineModel", "pc", "I", false)
  | 28 => ("StoryMachineModel", "next", "I", false)
  | 29 => ("StoryMachineModel", "done", "I", false)
  | 30 => ("StoryMachineModel", "chance", "I", false)
  | 31 => ("StoryMachineModel", "shown", "I", false)
  | 32 => ("StoryMachineModel", "latest", "[I", true)
  | 33 => ("StoryMachineModel", "entered", "Z", false)
  | 34 => ("StoryMachineModel", "typedSize", "I", false)
  | 35 => ("StoryMachineModel", "typed", "[I", true)
  | 36 => ("StoryMachineModel", "lineSize", "I", false)
  | 37 => ("StoryMachineModel", "line", "[I", true)
  | 38 => ("StoryMachineModel", "count", "I", false)
  | 39 => ("StoryMachineModel", "numbers", "[I", true)
  | 40 => ("StoryMachineModel", "result", "I", false)
  | 41 => ("StoryMachineModel", "sense", "Z", false)
  | 42 => ("StoryMachineModel", "offset", "I", false)
  | 43 => ("StoryMachineModel", "behind", "I", false)
  | 44 => ("StoryMachineModel", "alphabet", "I", false)
  | 45 => ("StoryMachineModel", "pending", "I", false)
  | 46 => ("StoryMachineModel", "high", "I", false)
  | 47 => ("StoryMachineModel", "lettered", "I", false)
  | 48 => ("StoryMachineModel", "letters", "[I", true)
  | 49 => ("StoryMachineModel", "starts", "[I", true)
  | _ => ("StoryMachineModel", "lengths", "[I", true)
def t_Mo : Nat → FieldType := fun k => match k with
  | 0 => .int
  | 1 => .array .int
  | 2 => .int
  | 3 => .array .int
  | 4 => .int
  | 5 => .array .int
  | 6 => .array .int
  | 7 => .array .int
  | 8 => .array .int
  | 9 => .array .int
  | 10 => .boolean
  | 11 => .array .int
  | 12 => .int
  | 13 => .array .int
  | 14 => .int
  | 15 => .array .int
  | 16 => .array .int
  | 17 => .array .int
  | 18 => .array .int
  | 19 => .array .int
  | 20 => .int
  | 21 => .boolean
  | 22 => .int
  | 23 => .boolean
  | 24 => .int
  | 25 => .int
  | 26 => .boolean
  | 27 => .int
  | 28 => .int
  | 29 => .int
  | 30 => .int
  | 31 => .int
  | 32 => .array .int
  | 33 => .boolean
  | 34 => .int
  | 35 => .array .int
  | 36 => .int
  | 37 => .array .int
  | 38 => .int
  | 39 => .array .int
  | 40 => .int
  | 41 => .boolean
  | 42 => .int
  | 43 => .int
  | 44 => .int
  | 45 => .int
  | 46 => .int
  | 47 => .int
  | 48 => .array .int
  | 49 => .array .int
  | _ => .array .int
set_option maxRecDepth 20000 in
theorem nm_Mo : ∀ a, a < 51 → ∀ b, b < 51 → a ≠ b → (T_Mo a).2.1 ≠ (T_Mo b).2.1 := by decide +kernel
theorem tk_Mo : ∀ k, k < 51 → parseFieldDescriptor (T_Mo k).2.2.1 = some (t_Mo k) := by decide +kernel
theorem in_Mo : ∀ w ∈ u_ws "StoryMachineModel" T_Mo 51, w ∈ tw_tbl := by
  show ∀ w ∈ [Cond.lays "StoryMachineModel" "StoryMachineModel" "thrown" "I", Cond.laysFinal "StoryMachineModel" "StoryMachineModel" "memory" "[I", Cond.lays "StoryMachineModel" "StoryMachineModel" "size" "I", Cond.laysFinal "StoryMachineModel" "StoryMachineModel" "words" "[I", Cond.lays "StoryMachineModel" "StoryMachineModel" "depth" "I", Cond.laysFinal "StoryMachineModel" "StoryMachineModel" "many" "[I", Cond.laysFinal "StoryMachineModel" "StoryMachineModel" "bottom" "[I", Cond.laysFinal "StoryMachineModel" "StoryMachineModel" "back" "[I", Cond.laysFinal "StoryMachineModel" "StoryMachineModel" "gets" "[I", Cond.laysFinal "StoryMachineModel" "StoryMachineModel" "locals" "[I", Cond.lays "StoryMachineModel" "StoryMachineModel" "saved" "Z", Cond.laysFinal "StoryMachineModel" "StoryMachineModel" "oldMemory" "[I", Cond.lays "StoryMachineModel" "StoryMachineModel" "oldSize" "I", Cond.laysFinal "StoryMachineModel" "StoryMachineModel" "oldWords" "[I", Cond.lays "StoryMachineModel" "StoryMachineModel" "oldDepth" "I", Cond.laysFinal "StoryMachineModel" "StoryMachineModel" "oldMany" "[I", Cond.laysFinal "StoryMachineModel" "StoryMachineModel" "oldBottom" "[I", Cond.laysFinal "StoryMachineModel" "StoryMachineModel" "oldBack" "[I", Cond.laysFinal "StoryMachineModel" "StoryMachineModel" "oldGets" "[I", Cond.laysFinal "StoryMachineModel" "StoryMachineModel" "oldLocals" "[I", Cond.lays "StoryMachineModel" "StoryMachineModel" "oldBehind" "I", Cond.lays "StoryMachineModel" "StoryMachineModel" "oldSense" "Z", Cond.lays "StoryMachineModel" "StoryMachineModel" "oldOffset" "I", Cond.lays "StoryMachineModel" "StoryMachineModel" "begun" "Z", Cond.lays "StoryMachineModel" "StoryMachineModel" "state" "I", Cond.lays "StoryMachineModel" "StoryMachineModel" "trouble" "I", Cond.lays "StoryMachineModel" "StoryMachineModel" "ends" "Z", Cond.lays "StoryMachineModel" "StoryMachineModel" "pc" "I", Cond.lays "StoryMachineModel" "StoryMachineModel" "next" "I", Cond.lays "StoryMachineModel" "StoryMachineModel" "done" "I", Cond.lays "StoryMachineModel" "StoryMachineModel" "chance" "I", Cond.lays "StoryMachineModel" "StoryMachineModel" "shown" "I", Cond.laysFinal "StoryMachineModel" "StoryMachineModel" "latest" "[I", Cond.lays "StoryMachineModel" "StoryMachineModel" "entered" "Z", Cond.lays "StoryMachineModel" "StoryMachineModel" "typedSize" "I", Cond.laysFinal "StoryMachineModel" "StoryMachineModel" "typed" "[I", Cond.lays "StoryMachineModel" "StoryMachineModel" "lineSize" "I", Cond.laysFinal "StoryMachineModel" "StoryMachineModel" "line" "[I", Cond.lays "StoryMachineModel" "StoryMachineModel" "count" "I", Cond.laysFinal "StoryMachineModel" "StoryMachineModel" "numbers" "[I", Cond.lays "StoryMachineModel" "StoryMachineModel" "result" "I", Cond.lays "StoryMachineModel" "StoryMachineModel" "sense" "Z", Cond.lays "StoryMachineModel" "StoryMachineModel" "offset" "I", Cond.lays "StoryMachineModel" "StoryMachineModel" "behind" "I", Cond.lays "StoryMachineModel" "StoryMachineModel" "alphabet" "I", Cond.lays "StoryMachineModel" "StoryMachineModel" "pending" "I", Cond.lays "StoryMachineModel" "StoryMachineModel" "high" "I", Cond.lays "StoryMachineModel" "StoryMachineModel" "lettered" "I", Cond.laysFinal "StoryMachineModel" "StoryMachineModel" "letters" "[I", Cond.laysFinal "StoryMachineModel" "StoryMachineModel" "starts" "[I", Cond.laysFinal "StoryMachineModel" "StoryMachineModel" "lengths" "[I"], w ∈ tw_tbl
  exact List.forall_mem_cons.mpr ⟨mw_1114, List.forall_mem_cons.mpr ⟨mw_1116, List.forall_mem_cons.mpr ⟨mw_1118, List.forall_mem_cons.mpr ⟨mw_1120, List.forall_mem_cons.mpr ⟨mw_1122, List.forall_mem_cons.mpr ⟨mw_1124, List.forall_mem_cons.mpr ⟨mw_1126, List.forall_mem_cons.mpr ⟨mw_1128, List.forall_mem_cons.mpr ⟨mw_1130, List.forall_mem_cons.mpr ⟨mw_1132, List.forall_mem_cons.mpr ⟨mw_1134, List.forall_mem_cons.mpr ⟨mw_1136, List.forall_mem_cons.mpr ⟨mw_1138, List.forall_mem_cons.mpr ⟨mw_1140, List.forall_mem_cons.mpr ⟨mw_1142, List.forall_mem_cons.mpr ⟨mw_1144, List.forall_mem_cons.mpr ⟨mw_1146, List.forall_mem_cons.mpr ⟨mw_1148, List.forall_mem_cons.mpr ⟨mw_1150, List.forall_mem_cons.mpr ⟨mw_1152, List.forall_mem_cons.mpr ⟨mw_1154, List.forall_mem_cons.mpr ⟨mw_1156, List.forall_mem_cons.mpr ⟨mw_1158, List.forall_mem_cons.mpr ⟨mw_1160, List.forall_mem_cons.mpr ⟨mw_1162, List.forall_mem_cons.mpr ⟨mw_1164, List.forall_mem_cons.mpr ⟨mw_1166, List.forall_mem_cons.mpr ⟨mw_1168, List.forall_mem_cons.mpr ⟨mw_1170, List.forall_mem_cons.mpr ⟨mw_1172, List.forall_mem_cons.mpr ⟨mw_1174, List.forall_mem_cons.mpr ⟨mw_1176, List.forall_mem_cons.mpr ⟨mw_1178, List.forall_mem_cons.mpr ⟨mw_1180, List.forall_mem_cons.mpr ⟨mw_1182, List.forall_mem_cons.mpr ⟨mw_1184, List.forall_mem_cons.mpr ⟨mw_1186, List.forall_mem_cons.mpr ⟨mw_1188, List.forall_mem_cons.mpr ⟨mw_1190, List.forall_mem_cons.mpr ⟨mw_1192, List.forall_mem_cons.mpr ⟨mw_1194, List.forall_mem_cons.mpr ⟨mw_1196, List.forall_mem_cons.mpr ⟨mw_1198, List.forall_mem_cons.mpr ⟨mw_1200, List.forall_mem_cons.mpr ⟨mw_1202, List.forall_mem_cons.mpr ⟨mw_1204, List.forall_mem_cons.mpr ⟨mw_1206, List.forall_mem_cons.mpr ⟨mw_1208, List.forall_mem_cons.mpr ⟨mw_1210, List.forall_mem_cons.mpr ⟨mw_1212, List.forall_mem_cons.mpr ⟨mw_1214, (fun _ h => by cases h)⟩⟩⟩⟩⟩⟩⟩⟩⟩⟩⟩⟩⟩⟩⟩⟩⟩⟩⟩⟩⟩⟩⟩⟩⟩⟩⟩⟩⟩⟩⟩⟩⟩⟩⟩⟩⟩⟩⟩⟩⟩⟩⟩⟩⟩⟩⟩⟩⟩⟩⟩
abbrev vcl : List vw_C := [("StoryMachine", T_SM, 5), ("StoryMachine$Memory", T_Me, 1), ("StoryMachine$Line", T_Li, 5), ("StoryMachine$Routines", T_Ro, 8), ("StoryMachine$Printer", T_Pr, 5), ("StoryMachine$Engine", T_En, 15), ("StoryMachine$Variables", T_Va, 2), ("StoryMachine$Tree", T_Tr, 1), ("StoryMachine$Dictionary", T_Di, 6), ("StoryMachine$Instruction", T_In, 11), ("StoryMachine$Aside", T_As, 4), ("StoryMachineModel", T_Mo, 51)]
