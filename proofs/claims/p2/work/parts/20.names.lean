/-! Names, field tables, words by their places; written by wip/tools/gen.py. -/
theorem mw_2 : (Cond.initialized "StoryMachine$Memory") ∈ tw_tbl := tw_mem (List.mem_append_right _ (List.mem_of_getElem? (i := 2) (by decide +kernel))) rfl
theorem mw_4 : (Cond.initialized "StoryMachine$Routines") ∈ tw_tbl := tw_mem (List.mem_append_right _ (List.mem_of_getElem? (i := 4) (by decide +kernel))) rfl
theorem mw_5 : (Cond.initialized "StoryMachine$Printer") ∈ tw_tbl := tw_mem (List.mem_append_right _ (List.mem_of_getElem? (i := 5) (by decide +kernel))) rfl
theorem mw_8 : (Cond.initialized "StoryMachine$Variables") ∈ tw_tbl := tw_mem (List.mem_append_right _ (List.mem_of_getElem? (i := 8) (by decide +kernel))) rfl
theorem mw_9 : (Cond.initialized "StoryMachine$Tree") ∈ tw_tbl := tw_mem (List.mem_append_right _ (List.mem_of_getElem? (i := 9) (by decide +kernel))) rfl
theorem mw_13 : (Cond.initialized "java/lang/Throwable") ∈ tw_tbl := tw_mem (List.mem_append_right _ (List.mem_of_getElem? (i := 13) (by decide +kernel))) rfl
theorem mw_16 : (Cond.initialized "java/lang/IllegalArgumentException") ∈ tw_tbl := tw_mem (List.mem_append_right _ (List.mem_of_getElem? (i := 16) (by decide +kernel))) rfl
theorem mw_17 : (Cond.initialized "java/lang/IllegalStateException") ∈ tw_tbl := tw_mem (List.mem_append_right _ (List.mem_of_getElem? (i := 17) (by decide +kernel))) rfl
theorem mw_23 : (Cond.initialized "java/lang/System") ∈ tw_tbl := tw_mem (List.mem_append_right _ (List.mem_of_getElem? (i := 23) (by decide +kernel))) rfl
theorem mw_25 : (Cond.initialized "java/lang/Math") ∈ tw_tbl := tw_mem (List.mem_append_right _ (List.mem_of_getElem? (i := 25) (by decide +kernel))) rfl
theorem mw_34 : (Cond.instanceMethod (⟨"java/lang/Object", "<init>", "()V"⟩)) ∈ tw_tbl := tw_mem (List.mem_append_right _ (List.mem_of_getElem? (i := 34) (by decide +kernel))) rfl
theorem mw_35 : (Cond.code (⟨"java/lang/Object", "<init>", "()V"⟩) object_method_1_code 1 none) ∈ tw_tbl := tw_mem (List.mem_append_right _ (List.mem_of_getElem? (i := 35) (by decide +kernel))) rfl
theorem mw_42 : (Cond.fieldLink "StoryMachine$Memory" 9 "StoryMachine$Memory" "bytes" "[I") ∈ tw_tbl := tw_mem (List.mem_append_right _ (List.mem_of_getElem? (i := 42) (by decide +kernel))) rfl
theorem mw_44 : (Cond.laysFinal "StoryMachine$Memory" "StoryMachine$Memory" "bytes" "[I") ∈ tw_tbl := tw_mem (List.mem_append_right _ (List.mem_of_getElem? (i := 44) (by decide +kernel))) rfl
theorem mw_54 : (Cond.fieldLink "StoryMachine$Line" 9 "StoryMachine$Line" "typed" "[I") ∈ tw_tbl := tw_mem (List.mem_append_right _ (List.mem_of_getElem? (i := 54) (by decide +kernel))) rfl
theorem mw_55 : (Cond.fieldLink "StoryMachine$Line" 16 "StoryMachine$Line" "typedLength" "I") ∈ tw_tbl := tw_mem (List.mem_append_right _ (List.mem_of_getElem? (i := 55) (by decide +kernel))) rfl
theorem mw_57 : (Cond.fieldLink "StoryMachine$Line" 13 "StoryMachine$Line" "entered" "[I") ∈ tw_tbl := tw_mem (List.mem_append_right _ (List.mem_of_getElem? (i := 57) (by decide +kernel))) rfl
theorem mw_59 : (Cond.fieldLink "StoryMachine$Line" 24 "StoryMachine$Line" "enteredLength" "I") ∈ tw_tbl := tw_mem (List.mem_append_right _ (List.mem_of_getElem? (i := 59) (by decide +kernel))) rfl
theorem mw_61 : (Cond.fieldLink "StoryMachine$Line" 20 "StoryMachine$Line" "isEntered" "Z") ∈ tw_tbl := tw_mem (List.mem_append_right _ (List.mem_of_getElem? (i := 61) (by decide +kernel))) rfl
theorem mw_63 : (Cond.laysFinal "StoryMachine$Line" "StoryMachine$Line" "typed" "[I") ∈ tw_tbl := tw_mem (List.mem_append_right _ (List.mem_of_getElem? (i := 63) (by decide +kernel))) rfl
theorem mw_65 : (Cond.lays "StoryMachine$Line" "StoryMachine$Line" "typedLength" "I") ∈ tw_tbl := tw_mem (List.mem_append_right _ (List.mem_of_getElem? (i := 65) (by decide +kernel))) rfl
theorem mw_67 : (Cond.laysFinal "StoryMachine$Line" "StoryMachine$Line" "entered" "[I") ∈ tw_tbl := tw_mem (List.mem_append_right _ (List.mem_of_getElem? (i := 67) (by decide +kernel))) rfl
theorem mw_69 : (Cond.lays "StoryMachine$Line" "StoryMachine$Line" "enteredLength" "I") ∈ tw_tbl := tw_mem (List.mem_append_right _ (List.mem_of_getElem? (i := 69) (by decide +kernel))) rfl
theorem mw_71 : (Cond.lays "StoryMachine$Line" "StoryMachine$Line" "isEntered" "Z") ∈ tw_tbl := tw_mem (List.mem_append_right _ (List.mem_of_getElem? (i := 71) (by decide +kernel))) rfl
theorem mw_80 : (Cond.fieldLink "StoryMachine$Routines" 9 "StoryMachine$Routines" "words" "[I") ∈ tw_tbl := tw_mem (List.mem_append_right _ (List.mem_of_getElem? (i := 80) (by decide +kernel))) rfl
theorem mw_82 : (Cond.fieldLink "StoryMachine$Routines" 28 "StoryMachine$Routines" "height" "I") ∈ tw_tbl := tw_mem (List.mem_append_right _ (List.mem_of_getElem? (i := 82) (by decide +kernel))) rfl
theorem mw_84 : (Cond.fieldLink "StoryMachine$Routines" 32 "StoryMachine$Routines" "depth" "I") ∈ tw_tbl := tw_mem (List.mem_append_right _ (List.mem_of_getElem? (i := 84) (by decide +kernel))) rfl
theorem mw_86 : (Cond.fieldLink "StoryMachine$Routines" 13 "StoryMachine$Routines" "floors" "[I") ∈ tw_tbl := tw_mem (List.mem_append_right _ (List.mem_of_getElem? (i := 86) (by decide +kernel))) rfl
theorem mw_87 : (Cond.fieldLink "StoryMachine$Routines" 16 "StoryMachine$Routines" "behinds" "[I") ∈ tw_tbl := tw_mem (List.mem_append_right _ (List.mem_of_getElem? (i := 87) (by decide +kernel))) rfl
theorem mw_88 : (Cond.fieldLink "StoryMachine$Routines" 19 "StoryMachine$Routines" "results" "[I") ∈ tw_tbl := tw_mem (List.mem_append_right _ (List.mem_of_getElem? (i := 88) (by decide +kernel))) rfl
theorem mw_89 : (Cond.fieldLink "StoryMachine$Routines" 22 "StoryMachine$Routines" "localCounts" "[I") ∈ tw_tbl := tw_mem (List.mem_append_right _ (List.mem_of_getElem? (i := 89) (by decide +kernel))) rfl
theorem mw_90 : (Cond.fieldLink "StoryMachine$Routines" 25 "StoryMachine$Routines" "locals" "[I") ∈ tw_tbl := tw_mem (List.mem_append_right _ (List.mem_of_getElem? (i := 90) (by decide +kernel))) rfl
theorem mw_91 : (Cond.laysFinal "StoryMachine$Routines" "StoryMachine$Routines" "words" "[I") ∈ tw_tbl := tw_mem (List.mem_append_right _ (List.mem_of_getElem? (i := 91) (by decide +kernel))) rfl
theorem mw_93 : (Cond.lays "StoryMachine$Routines" "StoryMachine$Routines" "height" "I") ∈ tw_tbl := tw_mem (List.mem_append_right _ (List.mem_of_getElem? (i := 93) (by decide +kernel))) rfl
theorem mw_95 : (Cond.lays "StoryMachine$Routines" "StoryMachine$Routines" "depth" "I") ∈ tw_tbl := tw_mem (List.mem_append_right _ (List.mem_of_getElem? (i := 95) (by decide +kernel))) rfl
theorem mw_97 : (Cond.laysFinal "StoryMachine$Routines" "StoryMachine$Routines" "floors" "[I") ∈ tw_tbl := tw_mem (List.mem_append_right _ (List.mem_of_getElem? (i := 97) (by decide +kernel))) rfl
theorem mw_99 : (Cond.laysFinal "StoryMachine$Routines" "StoryMachine$Routines" "behinds" "[I") ∈ tw_tbl := tw_mem (List.mem_append_right _ (List.mem_of_getElem? (i := 99) (by decide +kernel))) rfl
theorem mw_101 : (Cond.laysFinal "StoryMachine$Routines" "StoryMachine$Routines" "results" "[I") ∈ tw_tbl := tw_mem (List.mem_append_right _ (List.mem_of_getElem? (i := 101) (by decide +kernel))) rfl
theorem mw_103 : (Cond.laysFinal "StoryMachine$Routines" "StoryMachine$Routines" "localCounts" "[I") ∈ tw_tbl := tw_mem (List.mem_append_right _ (List.mem_of_getElem? (i := 103) (by decide +kernel))) rfl
theorem mw_105 : (Cond.laysFinal "StoryMachine$Routines" "StoryMachine$Routines" "locals" "[I") ∈ tw_tbl := tw_mem (List.mem_append_right _ (List.mem_of_getElem? (i := 105) (by decide +kernel))) rfl
theorem mw_115 : (Cond.fieldLink "StoryMachine$Printer" 9 "StoryMachine$Printer" "kept" "[I") ∈ tw_tbl := tw_mem (List.mem_append_right _ (List.mem_of_getElem? (i := 115) (by decide +kernel))) rfl
theorem mw_116 : (Cond.fieldLink "StoryMachine$Printer" 17 "StoryMachine$Printer" "count" "I") ∈ tw_tbl := tw_mem (List.mem_append_right _ (List.mem_of_getElem? (i := 116) (by decide +kernel))) rfl
theorem mw_121 : (Cond.laysFinal "StoryMachine$Printer" "StoryMachine$Printer" "memory" "LStoryMachine$Memory;") ∈ tw_tbl := tw_mem (List.mem_append_right _ (List.mem_of_getElem? (i := 121) (by decide +kernel))) rfl
theorem mw_123 : (Cond.laysFinal "StoryMachine$Printer" "StoryMachine$Printer" "kept" "[I") ∈ tw_tbl := tw_mem (List.mem_append_right _ (List.mem_of_getElem? (i := 123) (by decide +kernel))) rfl
theorem mw_125 : (Cond.lays "StoryMachine$Printer" "StoryMachine$Printer" "count" "I") ∈ tw_tbl := tw_mem (List.mem_append_right _ (List.mem_of_getElem? (i := 125) (by decide +kernel))) rfl
theorem mw_127 : (Cond.lays "StoryMachine$Printer" "StoryMachine$Printer" "mode" "I") ∈ tw_tbl := tw_mem (List.mem_append_right _ (List.mem_of_getElem? (i := 127) (by decide +kernel))) rfl
theorem mw_129 : (Cond.lays "StoryMachine$Printer" "StoryMachine$Printer" "half" "I") ∈ tw_tbl := tw_mem (List.mem_append_right _ (List.mem_of_getElem? (i := 129) (by decide +kernel))) rfl
theorem mw_148 : (Cond.fieldLink "StoryMachine$Aside" 34 "StoryMachine$Aside" "isThere" "Z") ∈ tw_tbl := tw_mem (List.mem_append_right _ (List.mem_of_getElem? (i := 148) (by decide +kernel))) rfl
theorem mw_150 : (Cond.fieldLink "StoryMachine$Aside" 10 "StoryMachine$Aside" "memory" "LStoryMachine$Memory;") ∈ tw_tbl := tw_mem (List.mem_append_right _ (List.mem_of_getElem? (i := 150) (by decide +kernel))) rfl
theorem mw_151 : (Cond.fieldLink "StoryMachine$Aside" 19 "StoryMachine$Aside" "routines" "LStoryMachine$Routines;") ∈ tw_tbl := tw_mem (List.mem_append_right _ (List.mem_of_getElem? (i := 151) (by decide +kernel))) rfl
theorem mw_152 : (Cond.fieldLink "StoryMachine$Aside" 30 "StoryMachine$Aside" "next" "I") ∈ tw_tbl := tw_mem (List.mem_append_right _ (List.mem_of_getElem? (i := 152) (by decide +kernel))) rfl
theorem mw_153 : (Cond.lays "StoryMachine$Aside" "StoryMachine$Aside" "isThere" "Z") ∈ tw_tbl := tw_mem (List.mem_append_right _ (List.mem_of_getElem? (i := 153) (by decide +kernel))) rfl
theorem mw_155 : (Cond.laysFinal "StoryMachine$Aside" "StoryMachine$Aside" "memory" "LStoryMachine$Memory;") ∈ tw_tbl := tw_mem (List.mem_append_right _ (List.mem_of_getElem? (i := 155) (by decide +kernel))) rfl
theorem mw_157 : (Cond.laysFinal "StoryMachine$Aside" "StoryMachine$Aside" "routines" "LStoryMachine$Routines;") ∈ tw_tbl := tw_mem (List.mem_append_right _ (List.mem_of_getElem? (i := 157) (by decide +kernel))) rfl
theorem mw_159 : (Cond.lays "StoryMachine$Aside" "StoryMachine$Aside" "next" "I") ∈ tw_tbl := tw_mem (List.mem_append_right _ (List.mem_of_getElem? (i := 159) (by decide +kernel))) rfl
theorem mw_168 : (Cond.fieldLink "StoryMachine$Variables" 7 "StoryMachine$Variables" "memory" "LStoryMachine$Memory;") ∈ tw_tbl := tw_mem (List.mem_append_right _ (List.mem_of_getElem? (i := 168) (by decide +kernel))) rfl
theorem mw_169 : (Cond.fieldLink "StoryMachine$Variables" 13 "StoryMachine$Variables" "routines" "LStoryMachine$Routines;") ∈ tw_tbl := tw_mem (List.mem_append_right _ (List.mem_of_getElem? (i := 169) (by decide +kernel))) rfl
theorem mw_170 : (Cond.laysFinal "StoryMachine$Variables" "StoryMachine$Variables" "memory" "LStoryMachine$Memory;") ∈ tw_tbl := tw_mem (List.mem_append_right _ (List.mem_of_getElem? (i := 170) (by decide +kernel))) rfl
theorem mw_172 : (Cond.laysFinal "StoryMachine$Variables" "StoryMachine$Variables" "routines" "LStoryMachine$Routines;") ∈ tw_tbl := tw_mem (List.mem_append_right _ (List.mem_of_getElem? (i := 172) (by decide +kernel))) rfl
theorem mw_181 : (Cond.fieldLink "StoryMachine$Tree" 7 "StoryMachine$Tree" "memory" "LStoryMachine$Memory;") ∈ tw_tbl := tw_mem (List.mem_append_right _ (List.mem_of_getElem? (i := 181) (by decide +kernel))) rfl
theorem mw_182 : (Cond.laysFinal "StoryMachine$Tree" "StoryMachine$Tree" "memory" "LStoryMachine$Memory;") ∈ tw_tbl := tw_mem (List.mem_append_right _ (List.mem_of_getElem? (i := 182) (by decide +kernel))) rfl
theorem mw_191 : (Cond.fieldLink "StoryMachine$Dictionary" 21 "StoryMachine$Dictionary" "memory" "LStoryMachine$Memory;") ∈ tw_tbl := tw_mem (List.mem_append_right _ (List.mem_of_getElem? (i := 191) (by decide +kernel))) rfl
theorem mw_198 : (Cond.fieldLink "StoryMachine$Dictionary" 18 "StoryMachine$Dictionary" "letters" "[I") ∈ tw_tbl := tw_mem (List.mem_append_right _ (List.mem_of_getElem? (i := 198) (by decide +kernel))) rfl
theorem mw_199 : (Cond.fieldLink "StoryMachine$Dictionary" 57 "StoryMachine$Dictionary" "letterCount" "I") ∈ tw_tbl := tw_mem (List.mem_append_right _ (List.mem_of_getElem? (i := 199) (by decide +kernel))) rfl
theorem mw_200 : (Cond.laysFinal "StoryMachine$Dictionary" "StoryMachine$Dictionary" "memory" "LStoryMachine$Memory;") ∈ tw_tbl := tw_mem (List.mem_append_right _ (List.mem_of_getElem? (i := 200) (by decide +kernel))) rfl
theorem mw_202 : (Cond.laysFinal "StoryMachine$Dictionary" "StoryMachine$Dictionary" "starts" "[I") ∈ tw_tbl := tw_mem (List.mem_append_right _ (List.mem_of_getElem? (i := 202) (by decide +kernel))) rfl
theorem mw_204 : (Cond.laysFinal "StoryMachine$Dictionary" "StoryMachine$Dictionary" "lengths" "[I") ∈ tw_tbl := tw_mem (List.mem_append_right _ (List.mem_of_getElem? (i := 204) (by decide +kernel))) rfl
theorem mw_206 : (Cond.lays "StoryMachine$Dictionary" "StoryMachine$Dictionary" "words" "I") ∈ tw_tbl := tw_mem (List.mem_append_right _ (List.mem_of_getElem? (i := 206) (by decide +kernel))) rfl
theorem mw_208 : (Cond.laysFinal "StoryMachine$Dictionary" "StoryMachine$Dictionary" "letters" "[I") ∈ tw_tbl := tw_mem (List.mem_append_right _ (List.mem_of_getElem? (i := 208) (by decide +kernel))) rfl
theorem mw_210 : (Cond.lays "StoryMachine$Dictionary" "StoryMachine$Dictionary" "letterCount" "I") ∈ tw_tbl := tw_mem (List.mem_append_right _ (List.mem_of_getElem? (i := 210) (by decide +kernel))) rfl
theorem mw_238 : (Cond.laysFinal "StoryMachine$Instruction" "StoryMachine$Instruction" "memory" "LStoryMachine$Memory;") ∈ tw_tbl := tw_mem (List.mem_append_right _ (List.mem_of_getElem? (i := 238) (by decide +kernel))) rfl
theorem mw_240 : (Cond.laysFinal "StoryMachine$Instruction" "StoryMachine$Instruction" "variables" "LStoryMachine$Variables;") ∈ tw_tbl := tw_mem (List.mem_append_right _ (List.mem_of_getElem? (i := 240) (by decide +kernel))) rfl
theorem mw_242 : (Cond.laysFinal "StoryMachine$Instruction" "StoryMachine$Instruction" "numbers" "[I") ∈ tw_tbl := tw_mem (List.mem_append_right _ (List.mem_of_getElem? (i := 242) (by decide +kernel))) rfl
theorem mw_244 : (Cond.lays "StoryMachine$Instruction" "StoryMachine$Instruction" "count" "I") ∈ tw_tbl := tw_mem (List.mem_append_right _ (List.mem_of_getElem? (i := 244) (by decide +kernel))) rfl
theorem mw_246 : (Cond.lays "StoryMachine$Instruction" "StoryMachine$Instruction" "list" "I") ∈ tw_tbl := tw_mem (List.mem_append_right _ (List.mem_of_getElem? (i := 246) (by decide +kernel))) rfl
theorem mw_248 : (Cond.lays "StoryMachine$Instruction" "StoryMachine$Instruction" "operation" "I") ∈ tw_tbl := tw_mem (List.mem_append_right _ (List.mem_of_getElem? (i := 248) (by decide +kernel))) rfl
theorem mw_250 : (Cond.lays "StoryMachine$Instruction" "StoryMachine$Instruction" "behind" "I") ∈ tw_tbl := tw_mem (List.mem_append_right _ (List.mem_of_getElem? (i := 250) (by decide +kernel))) rfl
theorem mw_252 : (Cond.lays "StoryMachine$Instruction" "StoryMachine$Instruction" "result" "I") ∈ tw_tbl := tw_mem (List.mem_append_right _ (List.mem_of_getElem? (i := 252) (by decide +kernel))) rfl
theorem mw_254 : (Cond.lays "StoryMachine$Instruction" "StoryMachine$Instruction" "branchesWhen" "Z") ∈ tw_tbl := tw_mem (List.mem_append_right _ (List.mem_of_getElem? (i := 254) (by decide +kernel))) rfl
theorem mw_256 : (Cond.lays "StoryMachine$Instruction" "StoryMachine$Instruction" "offset" "I") ∈ tw_tbl := tw_mem (List.mem_append_right _ (List.mem_of_getElem? (i := 256) (by decide +kernel))) rfl
theorem mw_258 : (Cond.lays "StoryMachine$Instruction" "StoryMachine$Instruction" "form" "I") ∈ tw_tbl := tw_mem (List.mem_append_right _ (List.mem_of_getElem? (i := 258) (by decide +kernel))) rfl
theorem mw_279 : (Cond.laysFinal "StoryMachine$Engine" "StoryMachine$Engine" "memory" "LStoryMachine$Memory;") ∈ tw_tbl := tw_mem (List.mem_append_right _ (List.mem_of_getElem? (i := 279) (by decide +kernel))) rfl
theorem mw_281 : (Cond.laysFinal "StoryMachine$Engine" "StoryMachine$Engine" "line" "LStoryMachine$Line;") ∈ tw_tbl := tw_mem (List.mem_append_right _ (List.mem_of_getElem? (i := 281) (by decide +kernel))) rfl
theorem mw_283 : (Cond.laysFinal "StoryMachine$Engine" "StoryMachine$Engine" "routines" "LStoryMachine$Routines;") ∈ tw_tbl := tw_mem (List.mem_append_right _ (List.mem_of_getElem? (i := 283) (by decide +kernel))) rfl
theorem mw_285 : (Cond.laysFinal "StoryMachine$Engine" "StoryMachine$Engine" "printer" "LStoryMachine$Printer;") ∈ tw_tbl := tw_mem (List.mem_append_right _ (List.mem_of_getElem? (i := 285) (by decide +kernel))) rfl
theorem mw_287 : (Cond.laysFinal "StoryMachine$Engine" "StoryMachine$Engine" "variables" "LStoryMachine$Variables;") ∈ tw_tbl := tw_mem (List.mem_append_right _ (List.mem_of_getElem? (i := 287) (by decide +kernel))) rfl
theorem mw_289 : (Cond.laysFinal "StoryMachine$Engine" "StoryMachine$Engine" "tree" "LStoryMachine$Tree;") ∈ tw_tbl := tw_mem (List.mem_append_right _ (List.mem_of_getElem? (i := 289) (by decide +kernel))) rfl
theorem mw_291 : (Cond.laysFinal "StoryMachine$Engine" "StoryMachine$Engine" "dictionary" "LStoryMachine$Dictionary;") ∈ tw_tbl := tw_mem (List.mem_append_right _ (List.mem_of_getElem? (i := 291) (by decide +kernel))) rfl
theorem mw_293 : (Cond.laysFinal "StoryMachine$Engine" "StoryMachine$Engine" "instruction" "LStoryMachine$Instruction;") ∈ tw_tbl := tw_mem (List.mem_append_right _ (List.mem_of_getElem? (i := 293) (by decide +kernel))) rfl
theorem mw_295 : (Cond.laysFinal "StoryMachine$Engine" "StoryMachine$Engine" "aside" "LStoryMachine$Aside;") ∈ tw_tbl := tw_mem (List.mem_append_right _ (List.mem_of_getElem? (i := 295) (by decide +kernel))) rfl
theorem mw_297 : (Cond.laysFinal "StoryMachine$Engine" "StoryMachine$Engine" "newLocals" "[I") ∈ tw_tbl := tw_mem (List.mem_append_right _ (List.mem_of_getElem? (i := 297) (by decide +kernel))) rfl
theorem mw_299 : (Cond.lays "StoryMachine$Engine" "StoryMachine$Engine" "canGoOn" "Z") ∈ tw_tbl := tw_mem (List.mem_append_right _ (List.mem_of_getElem? (i := 299) (by decide +kernel))) rfl
theorem mw_301 : (Cond.lays "StoryMachine$Engine" "StoryMachine$Engine" "current" "I") ∈ tw_tbl := tw_mem (List.mem_append_right _ (List.mem_of_getElem? (i := 301) (by decide +kernel))) rfl
theorem mw_303 : (Cond.lays "StoryMachine$Engine" "StoryMachine$Engine" "stepsDone" "I") ∈ tw_tbl := tw_mem (List.mem_append_right _ (List.mem_of_getElem? (i := 303) (by decide +kernel))) rfl
theorem mw_305 : (Cond.lays "StoryMachine$Engine" "StoryMachine$Engine" "next" "I") ∈ tw_tbl := tw_mem (List.mem_append_right _ (List.mem_of_getElem? (i := 305) (by decide +kernel))) rfl
theorem mw_307 : (Cond.lays "StoryMachine$Engine" "StoryMachine$Engine" "random" "I") ∈ tw_tbl := tw_mem (List.mem_append_right _ (List.mem_of_getElem? (i := 307) (by decide +kernel))) rfl
theorem mw_315 : (Cond.laysFinal "StoryMachine" "StoryMachine" "memory" "LStoryMachine$Memory;") ∈ tw_tbl := tw_mem (List.mem_append_right _ (List.mem_of_getElem? (i := 315) (by decide +kernel))) rfl
theorem mw_317 : (Cond.laysFinal "StoryMachine" "StoryMachine" "line" "LStoryMachine$Line;") ∈ tw_tbl := tw_mem (List.mem_append_right _ (List.mem_of_getElem? (i := 317) (by decide +kernel))) rfl
theorem mw_319 : (Cond.laysFinal "StoryMachine" "StoryMachine" "routines" "LStoryMachine$Routines;") ∈ tw_tbl := tw_mem (List.mem_append_right _ (List.mem_of_getElem? (i := 319) (by decide +kernel))) rfl
theorem mw_321 : (Cond.laysFinal "StoryMachine" "StoryMachine" "printer" "LStoryMachine$Printer;") ∈ tw_tbl := tw_mem (List.mem_append_right _ (List.mem_of_getElem? (i := 321) (by decide +kernel))) rfl
theorem mw_323 : (Cond.laysFinal "StoryMachine" "StoryMachine" "engine" "LStoryMachine$Engine;") ∈ tw_tbl := tw_mem (List.mem_append_right _ (List.mem_of_getElem? (i := 323) (by decide +kernel))) rfl
theorem mw_333 : (Cond.code (⟨"StoryMachine$Line", "finish", "()V"⟩) prog_6_method_4_code 4 none) ∈ tw_tbl := tw_mem (List.mem_append_right _ (List.mem_of_getElem? (i := 333) (by decide +kernel))) rfl
theorem mw_355 : (Cond.instantiable "java/lang/IllegalArgumentException" 6) ∈ tw_tbl := tw_mem (List.mem_append_right _ (List.mem_of_getElem? (i := 355) (by decide +kernel))) rfl
theorem mw_356 : (Cond.castable "java/lang/IllegalArgumentException" "java/lang/IllegalArgumentException") ∈ tw_tbl := tw_mem (List.mem_append_right _ (List.mem_of_getElem? (i := 356) (by decide +kernel))) rfl
theorem mw_357 : (Cond.declares (⟨"java/lang/RuntimeException", "<init>", "()V"⟩)) ∈ tw_tbl := tw_mem (List.mem_append_right _ (List.mem_of_getElem? (i := 357) (by decide +kernel))) rfl
theorem mw_359 : (Cond.declares (⟨"java/lang/Exception", "<init>", "()V"⟩)) ∈ tw_tbl := tw_mem (List.mem_append_right _ (List.mem_of_getElem? (i := 359) (by decide +kernel))) rfl
theorem mw_361 : (Cond.declares (⟨"java/lang/Throwable", "<init>", "()V"⟩)) ∈ tw_tbl := tw_mem (List.mem_append_right _ (List.mem_of_getElem? (i := 361) (by decide +kernel))) rfl
theorem mw_363 : (Cond.selects "java/lang/IllegalArgumentException" (⟨"java/lang/Throwable", "fillInStackTrace", "(I)Ljava/lang/Throwable;"⟩) (⟨"java/lang/Throwable", "fillInStackTrace", "(I)Ljava/lang/Throwable;"⟩)) ∈ tw_tbl := tw_mem (List.mem_append_right _ (List.mem_of_getElem? (i := 363) (by decide +kernel))) rfl
theorem mw_364 : (Cond.selects "java/lang/IllegalArgumentException" (⟨"java/lang/Throwable", "fillInStackTrace", "()Ljava/lang/Throwable;"⟩) (⟨"java/lang/Throwable", "fillInStackTrace", "()Ljava/lang/Throwable;"⟩)) ∈ tw_tbl := tw_mem (List.mem_append_right _ (List.mem_of_getElem? (i := 364) (by decide +kernel))) rfl
theorem mw_365 : (Cond.lays "java/lang/IllegalArgumentException" "java/lang/Throwable" "cause" "Ljava/lang/Throwable;") ∈ tw_tbl := tw_mem (List.mem_append_right _ (List.mem_of_getElem? (i := 365) (by decide +kernel))) rfl
theorem mw_366 : (Cond.lays "java/lang/Throwable" "java/lang/Throwable" "cause" "Ljava/lang/Throwable;") ∈ tw_tbl := tw_mem (List.mem_append_right _ (List.mem_of_getElem? (i := 366) (by decide +kernel))) rfl
theorem mw_367 : (Cond.lays "java/lang/IllegalArgumentException" "java/lang/Throwable" "stackTrace" "[Ljava/lang/StackTraceElement;") ∈ tw_tbl := tw_mem (List.mem_append_right _ (List.mem_of_getElem? (i := 367) (by decide +kernel))) rfl
theorem mw_368 : (Cond.lays "java/lang/Throwable" "java/lang/Throwable" "stackTrace" "[Ljava/lang/StackTraceElement;") ∈ tw_tbl := tw_mem (List.mem_append_right _ (List.mem_of_getElem? (i := 368) (by decide +kernel))) rfl
theorem mw_369 : (Cond.lays "java/lang/IllegalArgumentException" "java/lang/Throwable" "suppressedExceptions" "Ljava/util/List;") ∈ tw_tbl := tw_mem (List.mem_append_right _ (List.mem_of_getElem? (i := 369) (by decide +kernel))) rfl
theorem mw_370 : (Cond.lays "java/lang/Throwable" "java/lang/Throwable" "suppressedExceptions" "Ljava/util/List;") ∈ tw_tbl := tw_mem (List.mem_append_right _ (List.mem_of_getElem? (i := 370) (by decide +kernel))) rfl
theorem mw_371 : (Cond.lays "java/lang/IllegalArgumentException" "java/lang/Throwable" "detailMessage" "Ljava/lang/String;") ∈ tw_tbl := tw_mem (List.mem_append_right _ (List.mem_of_getElem? (i := 371) (by decide +kernel))) rfl
theorem mw_372 : (Cond.lays "java/lang/Throwable" "java/lang/Throwable" "detailMessage" "Ljava/lang/String;") ∈ tw_tbl := tw_mem (List.mem_append_right _ (List.mem_of_getElem? (i := 372) (by decide +kernel))) rfl
theorem mw_373 : (Cond.lays "java/lang/IllegalArgumentException" "java/lang/Throwable" "backtrace" "Ljava/lang/Object;") ∈ tw_tbl := tw_mem (List.mem_append_right _ (List.mem_of_getElem? (i := 373) (by decide +kernel))) rfl
theorem mw_374 : (Cond.lays "java/lang/Throwable" "java/lang/Throwable" "backtrace" "Ljava/lang/Object;") ∈ tw_tbl := tw_mem (List.mem_append_right _ (List.mem_of_getElem? (i := 374) (by decide +kernel))) rfl
theorem mw_375 : (Cond.fieldLink "java/lang/Throwable" 198 "java/lang/Throwable" "backtrace" "Ljava/lang/Object;") ∈ tw_tbl := tw_mem (List.mem_append_right _ (List.mem_of_getElem? (i := 375) (by decide +kernel))) rfl
theorem mw_376 : (Cond.superclass "java/lang/Throwable" "java/lang/Object") ∈ tw_tbl := tw_mem (List.mem_append_right _ (List.mem_of_getElem? (i := 376) (by decide +kernel))) rfl
theorem mw_377 : (Cond.instanceMethod (⟨"java/lang/Throwable", "<init>", "()V"⟩)) ∈ tw_tbl := tw_mem (List.mem_append_right _ (List.mem_of_getElem? (i := 377) (by decide +kernel))) rfl
theorem mw_378 : (Cond.code (⟨"java/lang/Throwable", "<init>", "()V"⟩) prog_26_method_1_code 1 none) ∈ tw_tbl := tw_mem (List.mem_append_right _ (List.mem_of_getElem? (i := 378) (by decide +kernel))) rfl
theorem mw_379 : (Cond.methodLink "java/lang/Throwable" 1 (⟨"java/lang/Object", "<init>", "()V"⟩)) ∈ tw_tbl := tw_mem (List.mem_append_right _ (List.mem_of_getElem? (i := 379) (by decide +kernel))) rfl
theorem mw_380 : (Cond.fieldLink "java/lang/Throwable" 13 "java/lang/Throwable" "UNASSIGNED_STACK" "[Ljava/lang/StackTraceElement;") ∈ tw_tbl := tw_mem (List.mem_append_right _ (List.mem_of_getElem? (i := 380) (by decide +kernel))) rfl
theorem mw_382 : (Cond.fieldLink "java/lang/Throwable" 20 "java/lang/Throwable" "SUPPRESSED_SENTINEL" "Ljava/util/List;") ∈ tw_tbl := tw_mem (List.mem_append_right _ (List.mem_of_getElem? (i := 382) (by decide +kernel))) rfl
theorem mw_384 : (Cond.methodLink "java/lang/Throwable" 27 (⟨"java/lang/Throwable", "fillInStackTrace", "()Ljava/lang/Throwable;"⟩)) ∈ tw_tbl := tw_mem (List.mem_append_right _ (List.mem_of_getElem? (i := 384) (by decide +kernel))) rfl
theorem mw_385 : (Cond.instanceMethod (⟨"java/lang/Throwable", "fillInStackTrace", "()Ljava/lang/Throwable;"⟩)) ∈ tw_tbl := tw_mem (List.mem_append_right _ (List.mem_of_getElem? (i := 385) (by decide +kernel))) rfl
theorem mw_388 : (Cond.selects "java/lang/IllegalStateException" (⟨"java/lang/Throwable", "fillInStackTrace", "()Ljava/lang/Throwable;"⟩) (⟨"java/lang/Throwable", "fillInStackTrace", "()Ljava/lang/Throwable;"⟩)) ∈ tw_tbl := tw_mem (List.mem_append_right _ (List.mem_of_getElem? (i := 388) (by decide +kernel))) rfl
theorem mw_391 : (Cond.codeSync (⟨"java/lang/Throwable", "fillInStackTrace", "()Ljava/lang/Throwable;"⟩) prog_26_method_18_code 1 (some (.object "java/lang/Throwable"))) ∈ tw_tbl := tw_mem (List.mem_append_right _ (List.mem_of_getElem? (i := 391) (by decide +kernel))) rfl
theorem mw_392 : (Cond.methodLink "java/lang/Throwable" 202 (⟨"java/lang/Throwable", "fillInStackTrace", "(I)Ljava/lang/Throwable;"⟩)) ∈ tw_tbl := tw_mem (List.mem_append_right _ (List.mem_of_getElem? (i := 392) (by decide +kernel))) rfl
theorem mw_394 : (Cond.instanceMethod (⟨"java/lang/Throwable", "fillInStackTrace", "(I)Ljava/lang/Throwable;"⟩)) ∈ tw_tbl := tw_mem (List.mem_append_right _ (List.mem_of_getElem? (i := 394) (by decide +kernel))) rfl
theorem mw_396 : (Cond.native (⟨"java/lang/Throwable", "fillInStackTrace", "(I)Ljava/lang/Throwable;"⟩)) ∈ tw_tbl := tw_mem (List.mem_append_right _ (List.mem_of_getElem? (i := 396) (by decide +kernel))) rfl
theorem mw_398 : (Cond.instanceMethod (⟨"java/lang/IllegalArgumentException", "<init>", "()V"⟩)) ∈ tw_tbl := tw_mem (List.mem_append_right _ (List.mem_of_getElem? (i := 398) (by decide +kernel))) rfl
theorem mw_399 : (Cond.code (⟨"java/lang/IllegalArgumentException", "<init>", "()V"⟩) prog_17_method_1_code 1 none) ∈ tw_tbl := tw_mem (List.mem_append_right _ (List.mem_of_getElem? (i := 399) (by decide +kernel))) rfl
theorem mw_400 : (Cond.methodLink "java/lang/IllegalArgumentException" 1 (⟨"java/lang/RuntimeException", "<init>", "()V"⟩)) ∈ tw_tbl := tw_mem (List.mem_append_right _ (List.mem_of_getElem? (i := 400) (by decide +kernel))) rfl
theorem mw_401 : (Cond.instanceMethod (⟨"java/lang/RuntimeException", "<init>", "()V"⟩)) ∈ tw_tbl := tw_mem (List.mem_append_right _ (List.mem_of_getElem? (i := 401) (by decide +kernel))) rfl
theorem mw_402 : (Cond.code (⟨"java/lang/RuntimeException", "<init>", "()V"⟩) prog_21_method_1_code 1 none) ∈ tw_tbl := tw_mem (List.mem_append_right _ (List.mem_of_getElem? (i := 402) (by decide +kernel))) rfl
theorem mw_403 : (Cond.methodLink "java/lang/RuntimeException" 1 (⟨"java/lang/Exception", "<init>", "()V"⟩)) ∈ tw_tbl := tw_mem (List.mem_append_right _ (List.mem_of_getElem? (i := 403) (by decide +kernel))) rfl
theorem mw_404 : (Cond.instanceMethod (⟨"java/lang/Exception", "<init>", "()V"⟩)) ∈ tw_tbl := tw_mem (List.mem_append_right _ (List.mem_of_getElem? (i := 404) (by decide +kernel))) rfl
theorem mw_405 : (Cond.code (⟨"java/lang/Exception", "<init>", "()V"⟩) prog_16_method_1_code 1 none) ∈ tw_tbl := tw_mem (List.mem_append_right _ (List.mem_of_getElem? (i := 405) (by decide +kernel))) rfl
theorem mw_406 : (Cond.methodLink "java/lang/Exception" 1 (⟨"java/lang/Throwable", "<init>", "()V"⟩)) ∈ tw_tbl := tw_mem (List.mem_append_right _ (List.mem_of_getElem? (i := 406) (by decide +kernel))) rfl
theorem mw_408 : (Cond.fieldLink "java/lang/Throwable" 7 "java/lang/Throwable" "cause" "Ljava/lang/Throwable;") ∈ tw_tbl := tw_mem (List.mem_append_right _ (List.mem_of_getElem? (i := 408) (by decide +kernel))) rfl
theorem mw_409 : (Cond.fieldLink "java/lang/Throwable" 17 "java/lang/Throwable" "stackTrace" "[Ljava/lang/StackTraceElement;") ∈ tw_tbl := tw_mem (List.mem_append_right _ (List.mem_of_getElem? (i := 409) (by decide +kernel))) rfl
theorem mw_410 : (Cond.fieldLink "java/lang/Throwable" 24 "java/lang/Throwable" "suppressedExceptions" "Ljava/util/List;") ∈ tw_tbl := tw_mem (List.mem_append_right _ (List.mem_of_getElem? (i := 410) (by decide +kernel))) rfl
theorem mw_438 : (Cond.instanceMethod (⟨"StoryMachine$Memory", "wordAt", "(I)I"⟩)) ∈ tw_tbl := tw_mem (List.mem_append_right _ (List.mem_of_getElem? (i := 438) (by decide +kernel))) rfl
theorem mw_439 : (Cond.selects "StoryMachine$Memory" (⟨"StoryMachine$Memory", "wordAt", "(I)I"⟩) (⟨"StoryMachine$Memory", "wordAt", "(I)I"⟩)) ∈ tw_tbl := tw_mem (List.mem_append_right _ (List.mem_of_getElem? (i := 439) (by decide +kernel))) rfl
theorem mw_440 : (Cond.code (⟨"StoryMachine$Memory", "wordAt", "(I)I"⟩) prog_7_method_3_code 2 (some .int)) ∈ tw_tbl := tw_mem (List.mem_append_right _ (List.mem_of_getElem? (i := 440) (by decide +kernel))) rfl
theorem mw_441 : (Cond.classLink "StoryMachine$Memory" 13 "java/lang/IllegalArgumentException") ∈ tw_tbl := tw_mem (List.mem_append_right _ (List.mem_of_getElem? (i := 441) (by decide +kernel))) rfl
theorem mw_442 : (Cond.methodLink "StoryMachine$Memory" 15 (⟨"java/lang/IllegalArgumentException", "<init>", "()V"⟩)) ∈ tw_tbl := tw_mem (List.mem_append_right _ (List.mem_of_getElem? (i := 442) (by decide +kernel))) rfl
theorem mw_444 : (Cond.instantiable "java/lang/IllegalStateException" 6) ∈ tw_tbl := tw_mem (List.mem_append_right _ (List.mem_of_getElem? (i := 444) (by decide +kernel))) rfl
theorem mw_445 : (Cond.castable "java/lang/IllegalStateException" "java/lang/IllegalStateException") ∈ tw_tbl := tw_mem (List.mem_append_right _ (List.mem_of_getElem? (i := 445) (by decide +kernel))) rfl
theorem mw_446 : (Cond.selects "java/lang/IllegalStateException" (⟨"java/lang/Throwable", "fillInStackTrace", "(I)Ljava/lang/Throwable;"⟩) (⟨"java/lang/Throwable", "fillInStackTrace", "(I)Ljava/lang/Throwable;"⟩)) ∈ tw_tbl := tw_mem (List.mem_append_right _ (List.mem_of_getElem? (i := 446) (by decide +kernel))) rfl
theorem mw_447 : (Cond.lays "java/lang/IllegalStateException" "java/lang/Throwable" "cause" "Ljava/lang/Throwable;") ∈ tw_tbl := tw_mem (List.mem_append_right _ (List.mem_of_getElem? (i := 447) (by decide +kernel))) rfl
theorem mw_448 : (Cond.lays "java/lang/IllegalStateException" "java/lang/Throwable" "stackTrace" "[Ljava/lang/StackTraceElement;") ∈ tw_tbl := tw_mem (List.mem_append_right _ (List.mem_of_getElem? (i := 448) (by decide +kernel))) rfl
theorem mw_449 : (Cond.lays "java/lang/IllegalStateException" "java/lang/Throwable" "suppressedExceptions" "Ljava/util/List;") ∈ tw_tbl := tw_mem (List.mem_append_right _ (List.mem_of_getElem? (i := 449) (by decide +kernel))) rfl
theorem mw_450 : (Cond.lays "java/lang/IllegalStateException" "java/lang/Throwable" "detailMessage" "Ljava/lang/String;") ∈ tw_tbl := tw_mem (List.mem_append_right _ (List.mem_of_getElem? (i := 450) (by decide +kernel))) rfl
theorem mw_451 : (Cond.lays "java/lang/IllegalStateException" "java/lang/Throwable" "backtrace" "Ljava/lang/Object;") ∈ tw_tbl := tw_mem (List.mem_append_right _ (List.mem_of_getElem? (i := 451) (by decide +kernel))) rfl
theorem mw_453 : (Cond.instanceMethod (⟨"java/lang/IllegalStateException", "<init>", "()V"⟩)) ∈ tw_tbl := tw_mem (List.mem_append_right _ (List.mem_of_getElem? (i := 453) (by decide +kernel))) rfl
theorem mw_454 : (Cond.code (⟨"java/lang/IllegalStateException", "<init>", "()V"⟩) prog_18_method_1_code 1 none) ∈ tw_tbl := tw_mem (List.mem_append_right _ (List.mem_of_getElem? (i := 454) (by decide +kernel))) rfl
theorem mw_455 : (Cond.methodLink "java/lang/IllegalStateException" 1 (⟨"java/lang/RuntimeException", "<init>", "()V"⟩)) ∈ tw_tbl := tw_mem (List.mem_append_right _ (List.mem_of_getElem? (i := 455) (by decide +kernel))) rfl
theorem mw_465 : (Cond.code (⟨"StoryMachine$Routines", "clear", "()V"⟩) prog_9_method_2_code 1 none) ∈ tw_tbl := tw_mem (List.mem_append_right _ (List.mem_of_getElem? (i := 465) (by decide +kernel))) rfl
theorem mw_469 : (Cond.code (⟨"StoryMachine$Line", "clear", "()V"⟩) prog_6_method_2_code 1 none) ∈ tw_tbl := tw_mem (List.mem_append_right _ (List.mem_of_getElem? (i := 469) (by decide +kernel))) rfl
theorem mw_480 : (Cond.code (⟨"StoryMachine$Line", "add", "(I)V"⟩) prog_6_method_3_code 2 none) ∈ tw_tbl := tw_mem (List.mem_append_right _ (List.mem_of_getElem? (i := 480) (by decide +kernel))) rfl
theorem mw_509 : (Cond.instanceMethod (⟨"StoryMachine$Memory", "byteAt", "(I)I"⟩)) ∈ tw_tbl := tw_mem (List.mem_append_right _ (List.mem_of_getElem? (i := 509) (by decide +kernel))) rfl
theorem mw_510 : (Cond.selects "StoryMachine$Memory" (⟨"StoryMachine$Memory", "byteAt", "(I)I"⟩) (⟨"StoryMachine$Memory", "byteAt", "(I)I"⟩)) ∈ tw_tbl := tw_mem (List.mem_append_right _ (List.mem_of_getElem? (i := 510) (by decide +kernel))) rfl
theorem mw_511 : (Cond.code (⟨"StoryMachine$Memory", "byteAt", "(I)I"⟩) prog_7_method_2_code 2 (some .int)) ∈ tw_tbl := tw_mem (List.mem_append_right _ (List.mem_of_getElem? (i := 511) (by decide +kernel))) rfl
theorem mw_538 : (Cond.code (⟨"StoryMachine$Variables", "read", "(IZ)I"⟩) prog_11_method_2_code 3 (some .int)) ∈ tw_tbl := tw_mem (List.mem_append_right _ (List.mem_of_getElem? (i := 538) (by decide +kernel))) rfl
theorem mw_539 : (Cond.methodLink "StoryMachine$Variables" 17 (⟨"StoryMachine$Routines", "top", "()I"⟩)) ∈ tw_tbl := tw_mem (List.mem_append_right _ (List.mem_of_getElem? (i := 539) (by decide +kernel))) rfl
theorem mw_540 : (Cond.instanceMethod (⟨"StoryMachine$Routines", "top", "()I"⟩)) ∈ tw_tbl := tw_mem (List.mem_append_right _ (List.mem_of_getElem? (i := 540) (by decide +kernel))) rfl
theorem mw_541 : (Cond.selects "StoryMachine$Routines" (⟨"StoryMachine$Routines", "top", "()I"⟩) (⟨"StoryMachine$Routines", "top", "()I"⟩)) ∈ tw_tbl := tw_mem (List.mem_append_right _ (List.mem_of_getElem? (i := 541) (by decide +kernel))) rfl
theorem mw_542 : (Cond.code (⟨"StoryMachine$Routines", "top", "()I"⟩) prog_9_method_5_code 1 (some .int)) ∈ tw_tbl := tw_mem (List.mem_append_right _ (List.mem_of_getElem? (i := 542) (by decide +kernel))) rfl
theorem mw_543 : (Cond.classLink "StoryMachine$Routines" 35 "java/lang/IllegalStateException") ∈ tw_tbl := tw_mem (List.mem_append_right _ (List.mem_of_getElem? (i := 543) (by decide +kernel))) rfl
theorem mw_544 : (Cond.methodLink "StoryMachine$Routines" 37 (⟨"java/lang/IllegalStateException", "<init>", "()V"⟩)) ∈ tw_tbl := tw_mem (List.mem_append_right _ (List.mem_of_getElem? (i := 544) (by decide +kernel))) rfl
theorem mw_545 : (Cond.methodLink "StoryMachine$Variables" 23 (⟨"StoryMachine$Routines", "pop", "()I"⟩)) ∈ tw_tbl := tw_mem (List.mem_append_right _ (List.mem_of_getElem? (i := 545) (by decide +kernel))) rfl
theorem mw_546 : (Cond.instanceMethod (⟨"StoryMachine$Routines", "pop", "()I"⟩)) ∈ tw_tbl := tw_mem (List.mem_append_right _ (List.mem_of_getElem? (i := 546) (by decide +kernel))) rfl
theorem mw_547 : (Cond.selects "StoryMachine$Routines" (⟨"StoryMachine$Routines", "pop", "()I"⟩) (⟨"StoryMachine$Routines", "pop", "()I"⟩)) ∈ tw_tbl := tw_mem (List.mem_append_right _ (List.mem_of_getElem? (i := 547) (by decide +kernel))) rfl
theorem mw_548 : (Cond.code (⟨"StoryMachine$Routines", "pop", "()I"⟩) prog_9_method_4_code 2 (some .int)) ∈ tw_tbl := tw_mem (List.mem_append_right _ (List.mem_of_getElem? (i := 548) (by decide +kernel))) rfl
theorem mw_549 : (Cond.methodLink "StoryMachine$Routines" 39 (⟨"StoryMachine$Routines", "top", "()I"⟩)) ∈ tw_tbl := tw_mem (List.mem_append_right _ (List.mem_of_getElem? (i := 549) (by decide +kernel))) rfl
theorem mw_550 : (Cond.methodLink "StoryMachine$Variables" 26 (⟨"StoryMachine$Routines", "localValue", "(I)I"⟩)) ∈ tw_tbl := tw_mem (List.mem_append_right _ (List.mem_of_getElem? (i := 550) (by decide +kernel))) rfl
theorem mw_551 : (Cond.instanceMethod (⟨"StoryMachine$Routines", "localValue", "(I)I"⟩)) ∈ tw_tbl := tw_mem (List.mem_append_right _ (List.mem_of_getElem? (i := 551) (by decide +kernel))) rfl
theorem mw_552 : (Cond.selects "StoryMachine$Routines" (⟨"StoryMachine$Routines", "localValue", "(I)I"⟩) (⟨"StoryMachine$Routines", "localValue", "(I)I"⟩)) ∈ tw_tbl := tw_mem (List.mem_append_right _ (List.mem_of_getElem? (i := 552) (by decide +kernel))) rfl
theorem mw_553 : (Cond.code (⟨"StoryMachine$Routines", "localValue", "(I)I"⟩) prog_9_method_8_code 2 (some .int)) ∈ tw_tbl := tw_mem (List.mem_append_right _ (List.mem_of_getElem? (i := 553) (by decide +kernel))) rfl
theorem mw_554 : (Cond.classLink "StoryMachine$Routines" 43 "java/lang/IllegalArgumentException") ∈ tw_tbl := tw_mem (List.mem_append_right _ (List.mem_of_getElem? (i := 554) (by decide +kernel))) rfl
theorem mw_555 : (Cond.methodLink "StoryMachine$Routines" 45 (⟨"java/lang/IllegalArgumentException", "<init>", "()V"⟩)) ∈ tw_tbl := tw_mem (List.mem_append_right _ (List.mem_of_getElem? (i := 555) (by decide +kernel))) rfl
theorem mw_556 : (Cond.methodLink "StoryMachine$Variables" 30 (⟨"StoryMachine$Variables", "globalPlace", "(I)I"⟩)) ∈ tw_tbl := tw_mem (List.mem_append_right _ (List.mem_of_getElem? (i := 556) (by decide +kernel))) rfl
theorem mw_558 : (Cond.instanceMethod (⟨"StoryMachine$Variables", "globalPlace", "(I)I"⟩)) ∈ tw_tbl := tw_mem (List.mem_append_right _ (List.mem_of_getElem? (i := 558) (by decide +kernel))) rfl
theorem mw_559 : (Cond.code (⟨"StoryMachine$Variables", "globalPlace", "(I)I"⟩) prog_11_method_4_code 2 (some .int)) ∈ tw_tbl := tw_mem (List.mem_append_right _ (List.mem_of_getElem? (i := 559) (by decide +kernel))) rfl
theorem mw_560 : (Cond.classLink "StoryMachine$Variables" 52 "java/lang/IllegalArgumentException") ∈ tw_tbl := tw_mem (List.mem_append_right _ (List.mem_of_getElem? (i := 560) (by decide +kernel))) rfl
theorem mw_561 : (Cond.methodLink "StoryMachine$Variables" 54 (⟨"java/lang/IllegalArgumentException", "<init>", "()V"⟩)) ∈ tw_tbl := tw_mem (List.mem_append_right _ (List.mem_of_getElem? (i := 561) (by decide +kernel))) rfl
theorem mw_562 : (Cond.methodLink "StoryMachine$Variables" 33 (⟨"StoryMachine$Memory", "wordAt", "(I)I"⟩)) ∈ tw_tbl := tw_mem (List.mem_append_right _ (List.mem_of_getElem? (i := 562) (by decide +kernel))) rfl
theorem mw_607 : (Cond.code (⟨"StoryMachine$Routines", "result", "()I"⟩) prog_9_method_13_code 1 (some .int)) ∈ tw_tbl := tw_mem (List.mem_append_right _ (List.mem_of_getElem? (i := 607) (by decide +kernel))) rfl
theorem mw_611 : (Cond.code (⟨"StoryMachine$Routines", "behind", "()I"⟩) prog_9_method_12_code 1 (some .int)) ∈ tw_tbl := tw_mem (List.mem_append_right _ (List.mem_of_getElem? (i := 611) (by decide +kernel))) rfl
theorem mw_615 : (Cond.code (⟨"StoryMachine$Routines", "close", "()V"⟩) prog_9_method_14_code 1 none) ∈ tw_tbl := tw_mem (List.mem_append_right _ (List.mem_of_getElem? (i := 615) (by decide +kernel))) rfl
theorem mw_619 : (Cond.code (⟨"StoryMachine$Variables", "write", "(IIZ)V"⟩) prog_11_method_3_code 4 none) ∈ tw_tbl := tw_mem (List.mem_append_right _ (List.mem_of_getElem? (i := 619) (by decide +kernel))) rfl
theorem mw_620 : (Cond.methodLink "StoryMachine$Variables" 38 (⟨"StoryMachine$Routines", "replaceTop", "(I)V"⟩)) ∈ tw_tbl := tw_mem (List.mem_append_right _ (List.mem_of_getElem? (i := 620) (by decide +kernel))) rfl
theorem mw_621 : (Cond.instanceMethod (⟨"StoryMachine$Routines", "replaceTop", "(I)V"⟩)) ∈ tw_tbl := tw_mem (List.mem_append_right _ (List.mem_of_getElem? (i := 621) (by decide +kernel))) rfl
theorem mw_622 : (Cond.selects "StoryMachine$Routines" (⟨"StoryMachine$Routines", "replaceTop", "(I)V"⟩) (⟨"StoryMachine$Routines", "replaceTop", "(I)V"⟩)) ∈ tw_tbl := tw_mem (List.mem_append_right _ (List.mem_of_getElem? (i := 622) (by decide +kernel))) rfl
theorem mw_623 : (Cond.code (⟨"StoryMachine$Routines", "replaceTop", "(I)V"⟩) prog_9_method_6_code 2 none) ∈ tw_tbl := tw_mem (List.mem_append_right _ (List.mem_of_getElem? (i := 623) (by decide +kernel))) rfl
theorem mw_624 : (Cond.constant "StoryMachine$Routines" 38 (65535 : Int32)) ∈ tw_tbl := tw_mem (List.mem_append_right _ (List.mem_of_getElem? (i := 624) (by decide +kernel))) rfl
theorem mw_625 : (Cond.methodLink "StoryMachine$Variables" 42 (⟨"StoryMachine$Routines", "push", "(I)V"⟩)) ∈ tw_tbl := tw_mem (List.mem_append_right _ (List.mem_of_getElem? (i := 625) (by decide +kernel))) rfl
theorem mw_626 : (Cond.instanceMethod (⟨"StoryMachine$Routines", "push", "(I)V"⟩)) ∈ tw_tbl := tw_mem (List.mem_append_right _ (List.mem_of_getElem? (i := 626) (by decide +kernel))) rfl
theorem mw_627 : (Cond.selects "StoryMachine$Routines" (⟨"StoryMachine$Routines", "push", "(I)V"⟩) (⟨"StoryMachine$Routines", "push", "(I)V"⟩)) ∈ tw_tbl := tw_mem (List.mem_append_right _ (List.mem_of_getElem? (i := 627) (by decide +kernel))) rfl
theorem mw_628 : (Cond.code (⟨"StoryMachine$Routines", "push", "(I)V"⟩) prog_9_method_3_code 2 none) ∈ tw_tbl := tw_mem (List.mem_append_right _ (List.mem_of_getElem? (i := 628) (by decide +kernel))) rfl
theorem mw_629 : (Cond.methodLink "StoryMachine$Variables" 45 (⟨"StoryMachine$Routines", "setLocal", "(II)V"⟩)) ∈ tw_tbl := tw_mem (List.mem_append_right _ (List.mem_of_getElem? (i := 629) (by decide +kernel))) rfl
theorem mw_630 : (Cond.instanceMethod (⟨"StoryMachine$Routines", "setLocal", "(II)V"⟩)) ∈ tw_tbl := tw_mem (List.mem_append_right _ (List.mem_of_getElem? (i := 630) (by decide +kernel))) rfl
theorem mw_631 : (Cond.selects "StoryMachine$Routines" (⟨"StoryMachine$Routines", "setLocal", "(II)V"⟩) (⟨"StoryMachine$Routines", "setLocal", "(II)V"⟩)) ∈ tw_tbl := tw_mem (List.mem_append_right _ (List.mem_of_getElem? (i := 631) (by decide +kernel))) rfl
theorem mw_632 : (Cond.code (⟨"StoryMachine$Routines", "setLocal", "(II)V"⟩) prog_9_method_9_code 3 none) ∈ tw_tbl := tw_mem (List.mem_append_right _ (List.mem_of_getElem? (i := 632) (by decide +kernel))) rfl
theorem mw_633 : (Cond.methodLink "StoryMachine$Variables" 49 (⟨"StoryMachine$Memory", "writeWord", "(II)V"⟩)) ∈ tw_tbl := tw_mem (List.mem_append_right _ (List.mem_of_getElem? (i := 633) (by decide +kernel))) rfl
theorem mw_634 : (Cond.instanceMethod (⟨"StoryMachine$Memory", "writeWord", "(II)V"⟩)) ∈ tw_tbl := tw_mem (List.mem_append_right _ (List.mem_of_getElem? (i := 634) (by decide +kernel))) rfl
theorem mw_635 : (Cond.selects "StoryMachine$Memory" (⟨"StoryMachine$Memory", "writeWord", "(II)V"⟩) (⟨"StoryMachine$Memory", "writeWord", "(II)V"⟩)) ∈ tw_tbl := tw_mem (List.mem_append_right _ (List.mem_of_getElem? (i := 635) (by decide +kernel))) rfl
theorem mw_636 : (Cond.code (⟨"StoryMachine$Memory", "writeWord", "(II)V"⟩) prog_7_method_5_code 3 none) ∈ tw_tbl := tw_mem (List.mem_append_right _ (List.mem_of_getElem? (i := 636) (by decide +kernel))) rfl
theorem mw_637 : (Cond.methodLink "StoryMachine$Memory" 16 (⟨"StoryMachine$Memory", "mayWrite", "(II)Z"⟩)) ∈ tw_tbl := tw_mem (List.mem_append_right _ (List.mem_of_getElem? (i := 637) (by decide +kernel))) rfl
theorem mw_639 : (Cond.instanceMethod (⟨"StoryMachine$Memory", "mayWrite", "(II)Z"⟩)) ∈ tw_tbl := tw_mem (List.mem_append_right _ (List.mem_of_getElem? (i := 639) (by decide +kernel))) rfl
theorem mw_640 : (Cond.code (⟨"StoryMachine$Memory", "mayWrite", "(II)Z"⟩) prog_7_method_6_code 4 (some .boolean)) ∈ tw_tbl := tw_mem (List.mem_append_right _ (List.mem_of_getElem? (i := 640) (by decide +kernel))) rfl
theorem mw_650 : (Cond.methodLink "StoryMachine$Printer" 21 (⟨"StoryMachine$Printer", "put", "(I)V"⟩)) ∈ tw_tbl := tw_mem (List.mem_append_right _ (List.mem_of_getElem? (i := 650) (by decide +kernel))) rfl
theorem mw_651 : (Cond.instanceMethod (⟨"StoryMachine$Printer", "put", "(I)V"⟩)) ∈ tw_tbl := tw_mem (List.mem_append_right _ (List.mem_of_getElem? (i := 651) (by decide +kernel))) rfl
theorem mw_652 : (Cond.selects "StoryMachine$Printer" (⟨"StoryMachine$Printer", "put", "(I)V"⟩) (⟨"StoryMachine$Printer", "put", "(I)V"⟩)) ∈ tw_tbl := tw_mem (List.mem_append_right _ (List.mem_of_getElem? (i := 652) (by decide +kernel))) rfl
theorem mw_653 : (Cond.code (⟨"StoryMachine$Printer", "put", "(I)V"⟩) prog_8_method_2_code 2 none) ∈ tw_tbl := tw_mem (List.mem_append_right _ (List.mem_of_getElem? (i := 653) (by decide +kernel))) rfl
theorem mw_710 : (Cond.code (⟨"StoryMachine$Aside", "keep", "(LStoryMachine$Memory;LStoryMachine$Routines;I)V"⟩) prog_2_method_2_code 4 none) ∈ tw_tbl := tw_mem (List.mem_append_right _ (List.mem_of_getElem? (i := 710) (by decide +kernel))) rfl
theorem mw_711 : (Cond.methodLink "StoryMachine$Aside" 23 (⟨"StoryMachine$Memory", "copyFrom", "(LStoryMachine$Memory;)V"⟩)) ∈ tw_tbl := tw_mem (List.mem_append_right _ (List.mem_of_getElem? (i := 711) (by decide +kernel))) rfl
theorem mw_712 : (Cond.instanceMethod (⟨"StoryMachine$Memory", "copyFrom", "(LStoryMachine$Memory;)V"⟩)) ∈ tw_tbl := tw_mem (List.mem_append_right _ (List.mem_of_getElem? (i := 712) (by decide +kernel))) rfl
theorem mw_713 : (Cond.selects "StoryMachine$Memory" (⟨"StoryMachine$Memory", "copyFrom", "(LStoryMachine$Memory;)V"⟩) (⟨"StoryMachine$Memory", "copyFrom", "(LStoryMachine$Memory;)V"⟩)) ∈ tw_tbl := tw_mem (List.mem_append_right _ (List.mem_of_getElem? (i := 713) (by decide +kernel))) rfl
theorem mw_714 : (Cond.code (⟨"StoryMachine$Memory", "copyFrom", "(LStoryMachine$Memory;)V"⟩) prog_7_method_7_code 2 none) ∈ tw_tbl := tw_mem (List.mem_append_right _ (List.mem_of_getElem? (i := 714) (by decide +kernel))) rfl
theorem mw_715 : (Cond.methodLink "StoryMachine$Memory" 20 (⟨"java/lang/System", "arraycopy", "(Ljava/lang/Object;ILjava/lang/Object;II)V"⟩)) ∈ tw_tbl := tw_mem (List.mem_append_right _ (List.mem_of_getElem? (i := 715) (by decide +kernel))) rfl
theorem mw_716 : (Cond.static (⟨"java/lang/System", "arraycopy", "(Ljava/lang/Object;ILjava/lang/Object;II)V"⟩)) ∈ tw_tbl := tw_mem (List.mem_append_right _ (List.mem_of_getElem? (i := 716) (by decide +kernel))) rfl
theorem mw_717 : (Cond.native (⟨"java/lang/System", "arraycopy", "(Ljava/lang/Object;ILjava/lang/Object;II)V"⟩)) ∈ tw_tbl := tw_mem (List.mem_append_right _ (List.mem_of_getElem? (i := 717) (by decide +kernel))) rfl
theorem mw_718 : (Cond.methodLink "StoryMachine$Aside" 27 (⟨"StoryMachine$Routines", "copyFrom", "(LStoryMachine$Routines;)V"⟩)) ∈ tw_tbl := tw_mem (List.mem_append_right _ (List.mem_of_getElem? (i := 718) (by decide +kernel))) rfl
theorem mw_719 : (Cond.instanceMethod (⟨"StoryMachine$Routines", "copyFrom", "(LStoryMachine$Routines;)V"⟩)) ∈ tw_tbl := tw_mem (List.mem_append_right _ (List.mem_of_getElem? (i := 719) (by decide +kernel))) rfl
theorem mw_720 : (Cond.selects "StoryMachine$Routines" (⟨"StoryMachine$Routines", "copyFrom", "(LStoryMachine$Routines;)V"⟩) (⟨"StoryMachine$Routines", "copyFrom", "(LStoryMachine$Routines;)V"⟩)) ∈ tw_tbl := tw_mem (List.mem_append_right _ (List.mem_of_getElem? (i := 720) (by decide +kernel))) rfl
theorem mw_721 : (Cond.code (⟨"StoryMachine$Routines", "copyFrom", "(LStoryMachine$Routines;)V"⟩) prog_9_method_15_code 2 none) ∈ tw_tbl := tw_mem (List.mem_append_right _ (List.mem_of_getElem? (i := 721) (by decide +kernel))) rfl
theorem mw_722 : (Cond.methodLink "StoryMachine$Routines" 49 (⟨"java/lang/System", "arraycopy", "(Ljava/lang/Object;ILjava/lang/Object;II)V"⟩)) ∈ tw_tbl := tw_mem (List.mem_append_right _ (List.mem_of_getElem? (i := 722) (by decide +kernel))) rfl
theorem mw_726 : (Cond.code (⟨"StoryMachine$Aside", "bringBack", "(LStoryMachine$Memory;LStoryMachine$Routines;)I"⟩) prog_2_method_3_code 3 (some .int)) ∈ tw_tbl := tw_mem (List.mem_append_right _ (List.mem_of_getElem? (i := 726) (by decide +kernel))) rfl
theorem mw_740 : (Cond.code (⟨"StoryMachine$Tree", "sibling", "(I)I"⟩) prog_10_method_4_code 2 (some .int)) ∈ tw_tbl := tw_mem (List.mem_append_right _ (List.mem_of_getElem? (i := 740) (by decide +kernel))) rfl
theorem mw_741 : (Cond.methodLink "StoryMachine$Tree" 22 (⟨"StoryMachine$Tree", "placeOf", "(I)I"⟩)) ∈ tw_tbl := tw_mem (List.mem_append_right _ (List.mem_of_getElem? (i := 741) (by decide +kernel))) rfl
theorem mw_743 : (Cond.instanceMethod (⟨"StoryMachine$Tree", "placeOf", "(I)I"⟩)) ∈ tw_tbl := tw_mem (List.mem_append_right _ (List.mem_of_getElem? (i := 743) (by decide +kernel))) rfl
theorem mw_744 : (Cond.code (⟨"StoryMachine$Tree", "placeOf", "(I)I"⟩) prog_10_method_2_code 2 (some .int)) ∈ tw_tbl := tw_mem (List.mem_append_right _ (List.mem_of_getElem? (i := 744) (by decide +kernel))) rfl
theorem mw_745 : (Cond.classLink "StoryMachine$Tree" 13 "java/lang/IllegalArgumentException") ∈ tw_tbl := tw_mem (List.mem_append_right _ (List.mem_of_getElem? (i := 745) (by decide +kernel))) rfl
theorem mw_746 : (Cond.methodLink "StoryMachine$Tree" 15 (⟨"java/lang/IllegalArgumentException", "<init>", "()V"⟩)) ∈ tw_tbl := tw_mem (List.mem_append_right _ (List.mem_of_getElem? (i := 746) (by decide +kernel))) rfl
theorem mw_747 : (Cond.methodLink "StoryMachine$Tree" 18 (⟨"StoryMachine$Memory", "wordAt", "(I)I"⟩)) ∈ tw_tbl := tw_mem (List.mem_append_right _ (List.mem_of_getElem? (i := 747) (by decide +kernel))) rfl
theorem mw_748 : (Cond.methodLink "StoryMachine$Tree" 25 (⟨"StoryMachine$Memory", "byteAt", "(I)I"⟩)) ∈ tw_tbl := tw_mem (List.mem_append_right _ (List.mem_of_getElem? (i := 748) (by decide +kernel))) rfl
theorem mw_752 : (Cond.code (⟨"StoryMachine$Tree", "child", "(I)I"⟩) prog_10_method_5_code 2 (some .int)) ∈ tw_tbl := tw_mem (List.mem_append_right _ (List.mem_of_getElem? (i := 752) (by decide +kernel))) rfl
theorem mw_756 : (Cond.code (⟨"StoryMachine$Tree", "parent", "(I)I"⟩) prog_10_method_3_code 2 (some .int)) ∈ tw_tbl := tw_mem (List.mem_append_right _ (List.mem_of_getElem? (i := 756) (by decide +kernel))) rfl
theorem mw_758 : (Cond.instanceMethod (⟨"StoryMachine$Tree", "propertyLength", "(I)I"⟩)) ∈ tw_tbl := tw_mem (List.mem_append_right _ (List.mem_of_getElem? (i := 758) (by decide +kernel))) rfl
theorem mw_759 : (Cond.selects "StoryMachine$Tree" (⟨"StoryMachine$Tree", "propertyLength", "(I)I"⟩) (⟨"StoryMachine$Tree", "propertyLength", "(I)I"⟩)) ∈ tw_tbl := tw_mem (List.mem_append_right _ (List.mem_of_getElem? (i := 759) (by decide +kernel))) rfl
theorem mw_760 : (Cond.code (⟨"StoryMachine$Tree", "propertyLength", "(I)I"⟩) prog_10_method_16_code 2 (some .int)) ∈ tw_tbl := tw_mem (List.mem_append_right _ (List.mem_of_getElem? (i := 760) (by decide +kernel))) rfl
theorem mw_761 : (Cond.methodLink "StoryMachine$Tree" 43 (⟨"StoryMachine$Tree", "lengthIn", "(I)I"⟩)) ∈ tw_tbl := tw_mem (List.mem_append_right _ (List.mem_of_getElem? (i := 761) (by decide +kernel))) rfl
theorem mw_762 : (Cond.static (⟨"StoryMachine$Tree", "lengthIn", "(I)I"⟩)) ∈ tw_tbl := tw_mem (List.mem_append_right _ (List.mem_of_getElem? (i := 762) (by decide +kernel))) rfl
theorem mw_763 : (Cond.code (⟨"StoryMachine$Tree", "lengthIn", "(I)I"⟩) prog_10_method_15_code 1 (some .int)) ∈ tw_tbl := tw_mem (List.mem_append_right _ (List.mem_of_getElem? (i := 763) (by decide +kernel))) rfl
theorem mw_771 : (Cond.instanceMethod (⟨"StoryMachine$Tree", "takeFromParent", "(I)V"⟩)) ∈ tw_tbl := tw_mem (List.mem_append_right _ (List.mem_of_getElem? (i := 771) (by decide +kernel))) rfl
theorem mw_772 : (Cond.selects "StoryMachine$Tree" (⟨"StoryMachine$Tree", "takeFromParent", "(I)V"⟩) (⟨"StoryMachine$Tree", "takeFromParent", "(I)V"⟩)) ∈ tw_tbl := tw_mem (List.mem_append_right _ (List.mem_of_getElem? (i := 772) (by decide +kernel))) rfl
theorem mw_773 : (Cond.code (⟨"StoryMachine$Tree", "takeFromParent", "(I)V"⟩) prog_10_method_9_code 5 none) ∈ tw_tbl := tw_mem (List.mem_append_right _ (List.mem_of_getElem? (i := 773) (by decide +kernel))) rfl
theorem mw_774 : (Cond.methodLink "StoryMachine$Tree" 36 (⟨"StoryMachine$Tree", "linkTo", "(II)I"⟩)) ∈ tw_tbl := tw_mem (List.mem_append_right _ (List.mem_of_getElem? (i := 774) (by decide +kernel))) rfl
theorem mw_776 : (Cond.instanceMethod (⟨"StoryMachine$Tree", "linkTo", "(II)I"⟩)) ∈ tw_tbl := tw_mem (List.mem_append_right _ (List.mem_of_getElem? (i := 776) (by decide +kernel))) rfl
theorem mw_777 : (Cond.code (⟨"StoryMachine$Tree", "linkTo", "(II)I"⟩) prog_10_method_10_code 6 (some .int)) ∈ tw_tbl := tw_mem (List.mem_append_right _ (List.mem_of_getElem? (i := 777) (by decide +kernel))) rfl
theorem mw_778 : (Cond.methodLink "StoryMachine$Tree" 32 (⟨"StoryMachine$Memory", "writeByte", "(II)V"⟩)) ∈ tw_tbl := tw_mem (List.mem_append_right _ (List.mem_of_getElem? (i := 778) (by decide +kernel))) rfl
theorem mw_779 : (Cond.instanceMethod (⟨"StoryMachine$Memory", "writeByte", "(II)V"⟩)) ∈ tw_tbl := tw_mem (List.mem_append_right _ (List.mem_of_getElem? (i := 779) (by decide +kernel))) rfl
theorem mw_780 : (Cond.selects "StoryMachine$Memory" (⟨"StoryMachine$Memory", "writeByte", "(II)V"⟩) (⟨"StoryMachine$Memory", "writeByte", "(II)V"⟩)) ∈ tw_tbl := tw_mem (List.mem_append_right _ (List.mem_of_getElem? (i := 780) (by decide +kernel))) rfl
theorem mw_781 : (Cond.code (⟨"StoryMachine$Memory", "writeByte", "(II)V"⟩) prog_7_method_4_code 3 none) ∈ tw_tbl := tw_mem (List.mem_append_right _ (List.mem_of_getElem? (i := 781) (by decide +kernel))) rfl
theorem mw_789 : (Cond.code (⟨"StoryMachine$Tree", "namePlace", "(I)I"⟩) prog_10_method_12_code 2 (some .int)) ∈ tw_tbl := tw_mem (List.mem_append_right _ (List.mem_of_getElem? (i := 789) (by decide +kernel))) rfl
theorem mw_806 : (Cond.code (⟨"StoryMachine$Tree", "hasAttribute", "(II)Z"⟩) prog_10_method_7_code 4 (some .boolean)) ∈ tw_tbl := tw_mem (List.mem_append_right _ (List.mem_of_getElem? (i := 806) (by decide +kernel))) rfl
theorem mw_807 : (Cond.methodLink "StoryMachine$Tree" 28 (⟨"StoryMachine$Tree", "attributePlace", "(II)I"⟩)) ∈ tw_tbl := tw_mem (List.mem_append_right _ (List.mem_of_getElem? (i := 807) (by decide +kernel))) rfl
theorem mw_809 : (Cond.instanceMethod (⟨"StoryMachine$Tree", "attributePlace", "(II)I"⟩)) ∈ tw_tbl := tw_mem (List.mem_append_right _ (List.mem_of_getElem? (i := 809) (by decide +kernel))) rfl
theorem mw_810 : (Cond.code (⟨"StoryMachine$Tree", "attributePlace", "(II)I"⟩) prog_10_method_6_code 4 (some .int)) ∈ tw_tbl := tw_mem (List.mem_append_right _ (List.mem_of_getElem? (i := 810) (by decide +kernel))) rfl
theorem mw_819 : (Cond.code (⟨"StoryMachine$Tree", "properties", "(I)I"⟩) prog_10_method_13_code 3 (some .int)) ∈ tw_tbl := tw_mem (List.mem_append_right _ (List.mem_of_getElem? (i := 819) (by decide +kernel))) rfl
theorem mw_823 : (Cond.code (⟨"StoryMachine$Tree", "propertyValue", "(II)I"⟩) prog_10_method_17_code 5 (some .int)) ∈ tw_tbl := tw_mem (List.mem_append_right _ (List.mem_of_getElem? (i := 823) (by decide +kernel))) rfl
theorem mw_824 : (Cond.methodLink "StoryMachine$Tree" 46 (⟨"StoryMachine$Tree", "propertyPlace", "(II)I"⟩)) ∈ tw_tbl := tw_mem (List.mem_append_right _ (List.mem_of_getElem? (i := 824) (by decide +kernel))) rfl
theorem mw_825 : (Cond.instanceMethod (⟨"StoryMachine$Tree", "propertyPlace", "(II)I"⟩)) ∈ tw_tbl := tw_mem (List.mem_append_right _ (List.mem_of_getElem? (i := 825) (by decide +kernel))) rfl
theorem mw_826 : (Cond.selects "StoryMachine$Tree" (⟨"StoryMachine$Tree", "propertyPlace", "(II)I"⟩) (⟨"StoryMachine$Tree", "propertyPlace", "(II)I"⟩)) ∈ tw_tbl := tw_mem (List.mem_append_right _ (List.mem_of_getElem? (i := 826) (by decide +kernel))) rfl
theorem mw_827 : (Cond.code (⟨"StoryMachine$Tree", "propertyPlace", "(II)I"⟩) prog_10_method_14_code 6 (some .int)) ∈ tw_tbl := tw_mem (List.mem_append_right _ (List.mem_of_getElem? (i := 827) (by decide +kernel))) rfl
theorem mw_828 : (Cond.methodLink "StoryMachine$Tree" 49 (⟨"StoryMachine$Tree", "defaultOf", "(I)I"⟩)) ∈ tw_tbl := tw_mem (List.mem_append_right _ (List.mem_of_getElem? (i := 828) (by decide +kernel))) rfl
theorem mw_830 : (Cond.instanceMethod (⟨"StoryMachine$Tree", "defaultOf", "(I)I"⟩)) ∈ tw_tbl := tw_mem (List.mem_append_right _ (List.mem_of_getElem? (i := 830) (by decide +kernel))) rfl
theorem mw_831 : (Cond.code (⟨"StoryMachine$Tree", "defaultOf", "(I)I"⟩) prog_10_method_18_code 2 (some .int)) ∈ tw_tbl := tw_mem (List.mem_append_right _ (List.mem_of_getElem? (i := 831) (by decide +kernel))) rfl
theorem mw_832 : (Cond.methodLink "StoryMachine$Tree" 52 (⟨"StoryMachine$Tree", "propertyLength", "(I)I"⟩)) ∈ tw_tbl := tw_mem (List.mem_append_right _ (List.mem_of_getElem? (i := 832) (by decide +kernel))) rfl
theorem mw_837 : (Cond.code (⟨"StoryMachine$Tree", "propertyBehind", "(II)I"⟩) prog_10_method_20_code 4 (some .int)) ∈ tw_tbl := tw_mem (List.mem_append_right _ (List.mem_of_getElem? (i := 837) (by decide +kernel))) rfl
theorem mw_859 : (Cond.code (⟨"StoryMachine$Tree", "setAttribute", "(IIZ)V"⟩) prog_10_method_8_code 7 none) ∈ tw_tbl := tw_mem (List.mem_append_right _ (List.mem_of_getElem? (i := 859) (by decide +kernel))) rfl
theorem mw_863 : (Cond.code (⟨"StoryMachine$Tree", "putInto", "(II)V"⟩) prog_10_method_11_code 5 none) ∈ tw_tbl := tw_mem (List.mem_append_right _ (List.mem_of_getElem? (i := 863) (by decide +kernel))) rfl
theorem mw_864 : (Cond.methodLink "StoryMachine$Tree" 39 (⟨"StoryMachine$Tree", "takeFromParent", "(I)V"⟩)) ∈ tw_tbl := tw_mem (List.mem_append_right _ (List.mem_of_getElem? (i := 864) (by decide +kernel))) rfl
theorem mw_874 : (Cond.instanceMethod (⟨"StoryMachine$Routines", "demandRoom", "()V"⟩)) ∈ tw_tbl := tw_mem (List.mem_append_right _ (List.mem_of_getElem? (i := 874) (by decide +kernel))) rfl
theorem mw_875 : (Cond.selects "StoryMachine$Routines" (⟨"StoryMachine$Routines", "demandRoom", "()V"⟩) (⟨"StoryMachine$Routines", "demandRoom", "()V"⟩)) ∈ tw_tbl := tw_mem (List.mem_append_right _ (List.mem_of_getElem? (i := 875) (by decide +kernel))) rfl
theorem mw_876 : (Cond.code (⟨"StoryMachine$Routines", "demandRoom", "()V"⟩) prog_9_method_10_code 1 none) ∈ tw_tbl := tw_mem (List.mem_append_right _ (List.mem_of_getElem? (i := 876) (by decide +kernel))) rfl
theorem mw_881 : (Cond.code (⟨"StoryMachine$Routines", "open", "([IIII)V"⟩) prog_9_method_11_code 5 none) ∈ tw_tbl := tw_mem (List.mem_append_right _ (List.mem_of_getElem? (i := 881) (by decide +kernel))) rfl
theorem mw_882 : (Cond.methodLink "StoryMachine$Routines" 46 (⟨"StoryMachine$Routines", "demandRoom", "()V"⟩)) ∈ tw_tbl := tw_mem (List.mem_append_right _ (List.mem_of_getElem? (i := 882) (by decide +kernel))) rfl
theorem mw_888 : (Cond.code (⟨"StoryMachine$Tree", "setProperty", "(III)V"⟩) prog_10_method_19_code 6 none) ∈ tw_tbl := tw_mem (List.mem_append_right _ (List.mem_of_getElem? (i := 888) (by decide +kernel))) rfl
theorem mw_889 : (Cond.methodLink "StoryMachine$Tree" 55 (⟨"StoryMachine$Memory", "writeWord", "(II)V"⟩)) ∈ tw_tbl := tw_mem (List.mem_append_right _ (List.mem_of_getElem? (i := 889) (by decide +kernel))) rfl
theorem mw_904 : (Cond.code (⟨"StoryMachine$Dictionary", "isSeparator", "(I)Z"⟩) prog_3_method_4_code 5 (some .boolean)) ∈ tw_tbl := tw_mem (List.mem_append_right _ (List.mem_of_getElem? (i := 904) (by decide +kernel))) rfl
theorem mw_905 : (Cond.methodLink "StoryMachine$Dictionary" 39 (⟨"StoryMachine$Memory", "wordAt", "(I)I"⟩)) ∈ tw_tbl := tw_mem (List.mem_append_right _ (List.mem_of_getElem? (i := 905) (by decide +kernel))) rfl
theorem mw_906 : (Cond.methodLink "StoryMachine$Dictionary" 43 (⟨"StoryMachine$Memory", "byteAt", "(I)I"⟩)) ∈ tw_tbl := tw_mem (List.mem_append_right _ (List.mem_of_getElem? (i := 906) (by decide +kernel))) rfl
theorem mw_991 : (Cond.code (⟨"StoryMachine$Dictionary", "addLetter", "(I)V"⟩) prog_3_method_8_code 2 none) ∈ tw_tbl := tw_mem (List.mem_append_right _ (List.mem_of_getElem? (i := 991) (by decide +kernel))) rfl
theorem mw_995 : (Cond.code (⟨"StoryMachine$Dictionary", "packedWord", "(I)I"⟩) prog_3_method_9_code 2 (some .int)) ∈ tw_tbl := tw_mem (List.mem_append_right _ (List.mem_of_getElem? (i := 995) (by decide +kernel))) rfl
theorem mw_1002 : (Cond.code (⟨"StoryMachine$Printer", "putNumber", "(I)V"⟩) prog_8_method_4_code 4 none) ∈ tw_tbl := tw_mem (List.mem_append_right _ (List.mem_of_getElem? (i := 1002) (by decide +kernel))) rfl
theorem mw_1003 : (Cond.methodLink "StoryMachine$Printer" 25 (⟨"java/lang/Math", "abs", "(I)I"⟩)) ∈ tw_tbl := tw_mem (List.mem_append_right _ (List.mem_of_getElem? (i := 1003) (by decide +kernel))) rfl
theorem mw_1004 : (Cond.static (⟨"java/lang/Math", "abs", "(I)I"⟩)) ∈ tw_tbl := tw_mem (List.mem_append_right _ (List.mem_of_getElem? (i := 1004) (by decide +kernel))) rfl
theorem mw_1005 : (Cond.code (⟨"java/lang/Math", "abs", "(I)I"⟩) prog_20_method_59_code 1 (some .int)) ∈ tw_tbl := tw_mem (List.mem_append_right _ (List.mem_of_getElem? (i := 1005) (by decide +kernel))) rfl
theorem mw_1037 : (Cond.code (⟨"StoryMachine$Printer", "latest", "(I)I"⟩) prog_8_method_3_code 2 (some .int)) ∈ tw_tbl := tw_mem (List.mem_append_right _ (List.mem_of_getElem? (i := 1037) (by decide +kernel))) rfl
theorem mw_1055 : (Cond.code (⟨"StoryMachine$Routines", "localCount", "()I"⟩) prog_9_method_7_code 1 (some .int)) ∈ tw_tbl := tw_mem (List.mem_append_right _ (List.mem_of_getElem? (i := 1055) (by decide +kernel))) rfl
theorem mw_1114 : (Cond.lays "StoryMachineModel" "StoryMachineModel" "thrown" "I") ∈ tw_tbl := tw_mem (List.mem_append_right _ (List.mem_of_getElem? (i := 1114) (by decide +kernel))) rfl
theorem mw_1116 : (Cond.laysFinal "StoryMachineModel" "StoryMachineModel" "memory" "[I") ∈ tw_tbl := tw_mem (List.mem_append_right _ (List.mem_of_getElem? (i := 1116) (by decide +kernel))) rfl
theorem mw_1118 : (Cond.lays "StoryMachineModel" "StoryMachineModel" "size" "I") ∈ tw_tbl := tw_mem (List.mem_append_right _ (List.mem_of_getElem? (i := 1118) (by decide +kernel))) rfl
theorem mw_1120 : (Cond.laysFinal "StoryMachineModel" "StoryMachineModel" "words" "[I") ∈ tw_tbl := tw_mem (List.mem_append_right _ (List.mem_of_getElem? (i := 1120) (by decide +kernel))) rfl
theorem mw_1122 : (Cond.lays "StoryMachineModel" "StoryMachineModel" "depth" "I") ∈ tw_tbl := tw_mem (List.mem_append_right _ (List.mem_of_getElem? (i := 1122) (by decide +kernel))) rfl
theorem mw_1124 : (Cond.laysFinal "StoryMachineModel" "StoryMachineModel" "many" "[I") ∈ tw_tbl := tw_mem (List.mem_append_right _ (List.mem_of_getElem? (i := 1124) (by decide +kernel))) rfl
theorem mw_1126 : (Cond.laysFinal "StoryMachineModel" "StoryMachineModel" "bottom" "[I") ∈ tw_tbl := tw_mem (List.mem_append_right _ (List.mem_of_getElem? (i := 1126) (by decide +kernel))) rfl
theorem mw_1128 : (Cond.laysFinal "StoryMachineModel" "StoryMachineModel" "back" "[I") ∈ tw_tbl := tw_mem (List.mem_append_right _ (List.mem_of_getElem? (i := 1128) (by decide +kernel))) rfl
theorem mw_1130 : (Cond.laysFinal "StoryMachineModel" "StoryMachineModel" "gets" "[I") ∈ tw_tbl := tw_mem (List.mem_append_right _ (List.mem_of_getElem? (i := 1130) (by decide +kernel))) rfl
theorem mw_1132 : (Cond.laysFinal "StoryMachineModel" "StoryMachineModel" "locals" "[I") ∈ tw_tbl := tw_mem (List.mem_append_right _ (List.mem_of_getElem? (i := 1132) (by decide +kernel))) rfl
theorem mw_1134 : (Cond.lays "StoryMachineModel" "StoryMachineModel" "saved" "Z") ∈ tw_tbl := tw_mem (List.mem_append_right _ (List.mem_of_getElem? (i := 1134) (by decide +kernel))) rfl
theorem mw_1136 : (Cond.laysFinal "StoryMachineModel" "StoryMachineModel" "oldMemory" "[I") ∈ tw_tbl := tw_mem (List.mem_append_right _ (List.mem_of_getElem? (i := 1136) (by decide +kernel))) rfl
theorem mw_1138 : (Cond.lays "StoryMachineModel" "StoryMachineModel" "oldSize" "I") ∈ tw_tbl := tw_mem (List.mem_append_right _ (List.mem_of_getElem? (i := 1138) (by decide +kernel))) rfl
theorem mw_1140 : (Cond.laysFinal "StoryMachineModel" "StoryMachineModel" "oldWords" "[I") ∈ tw_tbl := tw_mem (List.mem_append_right _ (List.mem_of_getElem? (i := 1140) (by decide +kernel))) rfl
theorem mw_1142 : (Cond.lays "StoryMachineModel" "StoryMachineModel" "oldDepth" "I") ∈ tw_tbl := tw_mem (List.mem_append_right _ (List.mem_of_getElem? (i := 1142) (by decide +kernel))) rfl
theorem mw_1144 : (Cond.laysFinal "StoryMachineModel" "StoryMachineModel" "oldMany" "[I") ∈ tw_tbl := tw_mem (List.mem_append_right _ (List.mem_of_getElem? (i := 1144) (by decide +kernel))) rfl
theorem mw_1146 : (Cond.laysFinal "StoryMachineModel" "StoryMachineModel" "oldBottom" "[I") ∈ tw_tbl := tw_mem (List.mem_append_right _ (List.mem_of_getElem? (i := 1146) (by decide +kernel))) rfl
theorem mw_1148 : (Cond.laysFinal "StoryMachineModel" "StoryMachineModel" "oldBack" "[I") ∈ tw_tbl := tw_mem (List.mem_append_right _ (List.mem_of_getElem? (i := 1148) (by decide +kernel))) rfl
theorem mw_1150 : (Cond.laysFinal "StoryMachineModel" "StoryMachineModel" "oldGets" "[I") ∈ tw_tbl := tw_mem (List.mem_append_right _ (List.mem_of_getElem? (i := 1150) (by decide +kernel))) rfl
theorem mw_1152 : (Cond.laysFinal "StoryMachineModel" "StoryMachineModel" "oldLocals" "[I") ∈ tw_tbl := tw_mem (List.mem_append_right _ (List.mem_of_getElem? (i := 1152) (by decide +kernel))) rfl
theorem mw_1154 : (Cond.lays "StoryMachineModel" "StoryMachineModel" "oldBehind" "I") ∈ tw_tbl := tw_mem (List.mem_append_right _ (List.mem_of_getElem? (i := 1154) (by decide +kernel))) rfl
theorem mw_1156 : (Cond.lays "StoryMachineModel" "StoryMachineModel" "oldSense" "Z") ∈ tw_tbl := tw_mem (List.mem_append_right _ (List.mem_of_getElem? (i := 1156) (by decide +kernel))) rfl
theorem mw_1158 : (Cond.lays "StoryMachineModel" "StoryMachineModel" "oldOffset" "I") ∈ tw_tbl := tw_mem (List.mem_append_right _ (List.mem_of_getElem? (i := 1158) (by decide +kernel))) rfl
theorem mw_1160 : (Cond.lays "StoryMachineModel" "StoryMachineModel" "begun" "Z") ∈ tw_tbl := tw_mem (List.mem_append_right _ (List.mem_of_getElem? (i := 1160) (by decide +kernel))) rfl
theorem mw_1162 : (Cond.lays "StoryMachineModel" "StoryMachineModel" "state" "I") ∈ tw_tbl := tw_mem (List.mem_append_right _ (List.mem_of_getElem? (i := 1162) (by decide +kernel))) rfl
theorem mw_1164 : (Cond.lays "StoryMachineModel" "StoryMachineModel" "trouble" "I") ∈ tw_tbl := tw_mem (List.mem_append_right _ (List.mem_of_getElem? (i := 1164) (by decide +kernel))) rfl
theorem mw_1166 : (Cond.lays "StoryMachineModel" "StoryMachineModel" "ends" "Z") ∈ tw_tbl := tw_mem (List.mem_append_right _ (List.mem_of_getElem? (i := 1166) (by decide +kernel))) rfl
theorem mw_1168 : (Cond.lays "StoryMachineModel" "StoryMachineModel" "pc" "I") ∈ tw_tbl := tw_mem (List.mem_append_right _ (List.mem_of_getElem? (i := 1168) (by decide +kernel))) rfl
theorem mw_1170 : (Cond.lays "StoryMachineModel" "StoryMachineModel" "next" "I") ∈ tw_tbl := tw_mem (List.mem_append_right _ (List.mem_of_getElem? (i := 1170) (by decide +kernel))) rfl
theorem mw_1172 : (Cond.lays "StoryMachineModel" "StoryMachineModel" "done" "I") ∈ tw_tbl := tw_mem (List.mem_append_right _ (List.mem_of_getElem? (i := 1172) (by decide +kernel))) rfl
theorem mw_1174 : (Cond.lays "StoryMachineModel" "StoryMachineModel" "chance" "I") ∈ tw_tbl := tw_mem (List.mem_append_right _ (List.mem_of_getElem? (i := 1174) (by decide +kernel))) rfl
theorem mw_1176 : (Cond.lays "StoryMachineModel" "StoryMachineModel" "shown" "I") ∈ tw_tbl := tw_mem (List.mem_append_right _ (List.mem_of_getElem? (i := 1176) (by decide +kernel))) rfl
theorem mw_1178 : (Cond.laysFinal "StoryMachineModel" "StoryMachineModel" "latest" "[I") ∈ tw_tbl := tw_mem (List.mem_append_right _ (List.mem_of_getElem? (i := 1178) (by decide +kernel))) rfl
theorem mw_1180 : (Cond.lays "StoryMachineModel" "StoryMachineModel" "entered" "Z") ∈ tw_tbl := tw_mem (List.mem_append_right _ (List.mem_of_getElem? (i := 1180) (by decide +kernel))) rfl
theorem mw_1182 : (Cond.lays "StoryMachineModel" "StoryMachineModel" "typedSize" "I") ∈ tw_tbl := tw_mem (List.mem_append_right _ (List.mem_of_getElem? (i := 1182) (by decide +kernel))) rfl
theorem mw_1184 : (Cond.laysFinal "StoryMachineModel" "StoryMachineModel" "typed" "[I") ∈ tw_tbl := tw_mem (List.mem_append_right _ (List.mem_of_getElem? (i := 1184) (by decide +kernel))) rfl
theorem mw_1186 : (Cond.lays "StoryMachineModel" "StoryMachineModel" "lineSize" "I") ∈ tw_tbl := tw_mem (List.mem_append_right _ (List.mem_of_getElem? (i := 1186) (by decide +kernel))) rfl
theorem mw_1188 : (Cond.laysFinal "StoryMachineModel" "StoryMachineModel" "line" "[I") ∈ tw_tbl := tw_mem (List.mem_append_right _ (List.mem_of_getElem? (i := 1188) (by decide +kernel))) rfl
theorem mw_1190 : (Cond.lays "StoryMachineModel" "StoryMachineModel" "count" "I") ∈ tw_tbl := tw_mem (List.mem_append_right _ (List.mem_of_getElem? (i := 1190) (by decide +kernel))) rfl
theorem mw_1192 : (Cond.laysFinal "StoryMachineModel" "StoryMachineModel" "numbers" "[I") ∈ tw_tbl := tw_mem (List.mem_append_right _ (List.mem_of_getElem? (i := 1192) (by decide +kernel))) rfl
theorem mw_1194 : (Cond.lays "StoryMachineModel" "StoryMachineModel" "result" "I") ∈ tw_tbl := tw_mem (List.mem_append_right _ (List.mem_of_getElem? (i := 1194) (by decide +kernel))) rfl
theorem mw_1196 : (Cond.lays "StoryMachineModel" "StoryMachineModel" "sense" "Z") ∈ tw_tbl := tw_mem (List.mem_append_right _ (List.mem_of_getElem? (i := 1196) (by decide +kernel))) rfl
theorem mw_1198 : (Cond.lays "StoryMachineModel" "StoryMachineModel" "offset" "I") ∈ tw_tbl := tw_mem (List.mem_append_right _ (List.mem_of_getElem? (i := 1198) (by decide +kernel))) rfl
theorem mw_1200 : (Cond.lays "StoryMachineModel" "StoryMachineModel" "behind" "I") ∈ tw_tbl := tw_mem (List.mem_append_right _ (List.mem_of_getElem? (i := 1200) (by decide +kernel))) rfl
theorem mw_1202 : (Cond.lays "StoryMachineModel" "StoryMachineModel" "alphabet" "I") ∈ tw_tbl := tw_mem (List.mem_append_right _ (List.mem_of_getElem? (i := 1202) (by decide +kernel))) rfl
theorem mw_1204 : (Cond.lays "StoryMachineModel" "StoryMachineModel" "pending" "I") ∈ tw_tbl := tw_mem (List.mem_append_right _ (List.mem_of_getElem? (i := 1204) (by decide +kernel))) rfl
theorem mw_1206 : (Cond.lays "StoryMachineModel" "StoryMachineModel" "high" "I") ∈ tw_tbl := tw_mem (List.mem_append_right _ (List.mem_of_getElem? (i := 1206) (by decide +kernel))) rfl
theorem mw_1208 : (Cond.lays "StoryMachineModel" "StoryMachineModel" "lettered" "I") ∈ tw_tbl := tw_mem (List.mem_append_right _ (List.mem_of_getElem? (i := 1208) (by decide +kernel))) rfl
theorem mw_1210 : (Cond.laysFinal "StoryMachineModel" "StoryMachineModel" "letters" "[I") ∈ tw_tbl := tw_mem (List.mem_append_right _ (List.mem_of_getElem? (i := 1210) (by decide +kernel))) rfl
theorem mw_1212 : (Cond.laysFinal "StoryMachineModel" "StoryMachineModel" "starts" "[I") ∈ tw_tbl := tw_mem (List.mem_append_right _ (List.mem_of_getElem? (i := 1212) (by decide +kernel))) rfl
theorem mw_1214 : (Cond.laysFinal "StoryMachineModel" "StoryMachineModel" "lengths" "[I") ∈ tw_tbl := tw_mem (List.mem_append_right _ (List.mem_of_getElem? (i := 1214) (by decide +kernel))) rfl
theorem ms_Me_mayWrite : (Cond.selects "StoryMachine$Memory" (⟨"StoryMachine$Memory", "mayWrite", "(II)Z"⟩) (⟨"StoryMachine$Memory", "mayWrite", "(II)Z"⟩)) ∈ tw_tbl := tw_mem (List.mem_append_left _ (by decide +kernel)) rfl
theorem ms_Tr_attributePlace : (Cond.selects "StoryMachine$Tree" (⟨"StoryMachine$Tree", "attributePlace", "(II)I"⟩) (⟨"StoryMachine$Tree", "attributePlace", "(II)I"⟩)) ∈ tw_tbl := tw_mem (List.mem_append_left _ (by decide +kernel)) rfl
theorem ms_Tr_defaultOf : (Cond.selects "StoryMachine$Tree" (⟨"StoryMachine$Tree", "defaultOf", "(I)I"⟩) (⟨"StoryMachine$Tree", "defaultOf", "(I)I"⟩)) ∈ tw_tbl := tw_mem (List.mem_append_left _ (by decide +kernel)) rfl
theorem ms_Tr_linkTo : (Cond.selects "StoryMachine$Tree" (⟨"StoryMachine$Tree", "linkTo", "(II)I"⟩) (⟨"StoryMachine$Tree", "linkTo", "(II)I"⟩)) ∈ tw_tbl := tw_mem (List.mem_append_left _ (by decide +kernel)) rfl
theorem ms_Tr_placeOf : (Cond.selects "StoryMachine$Tree" (⟨"StoryMachine$Tree", "placeOf", "(I)I"⟩) (⟨"StoryMachine$Tree", "placeOf", "(I)I"⟩)) ∈ tw_tbl := tw_mem (List.mem_append_left _ (by decide +kernel)) rfl
theorem ms_Va_globalPlace : (Cond.selects "StoryMachine$Variables" (⟨"StoryMachine$Variables", "globalPlace", "(I)I"⟩) (⟨"StoryMachine$Variables", "globalPlace", "(I)I"⟩)) ∈ tw_tbl := tw_mem (List.mem_append_left _ (by decide +kernel)) rfl
def T_SM : u_T := fun k => match k with
  | 0 => ("StoryMachine", "memory", "LStoryMachine$Memory;", true)
  | 1 => ("StoryMachine", "line", "LStoryMachine$Line;", true)
  | 2 => ("StoryMachine", "routines", "LStoryMachine$Routines;", true)
  | 3 => ("StoryMachine", "printer", "LStoryMachine$Printer;", true)
  | _ => ("StoryMachine", "engine", "LStoryMachine$Engine;", true)
def t_SM : Nat → FieldType := fun k => match k with
  | 0 => .object "StoryMachine$Memory"
  | 1 => .object "StoryMachine$Line"
  | 2 => .object "StoryMachine$Routines"
  | 3 => .object "StoryMachine$Printer"
  | _ => .object "StoryMachine$Engine"
set_option maxRecDepth 20000 in
theorem nm_SM : ∀ a, a < 5 → ∀ b, b < 5 → a ≠ b → (T_SM a).2.1 ≠ (T_SM b).2.1 := by decide +kernel
theorem tk_SM : ∀ k, k < 5 → parseFieldDescriptor (T_SM k).2.2.1 = some (t_SM k) := by decide +kernel
theorem in_SM : ∀ w ∈ u_ws "StoryMachine" T_SM 5, w ∈ tw_tbl := by
  show ∀ w ∈ [Cond.laysFinal "StoryMachine" "StoryMachine" "memory" "LStoryMachine$Memory;", Cond.laysFinal "StoryMachine" "StoryMachine" "line" "LStoryMachine$Line;", Cond.laysFinal "StoryMachine" "StoryMachine" "routines" "LStoryMachine$Routines;", Cond.laysFinal "StoryMachine" "StoryMachine" "printer" "LStoryMachine$Printer;", Cond.laysFinal "StoryMachine" "StoryMachine" "engine" "LStoryMachine$Engine;"], w ∈ tw_tbl
  exact List.forall_mem_cons.mpr ⟨mw_315, List.forall_mem_cons.mpr ⟨mw_317, List.forall_mem_cons.mpr ⟨mw_319, List.forall_mem_cons.mpr ⟨mw_321, List.forall_mem_cons.mpr ⟨mw_323, (fun _ h => by cases h)⟩⟩⟩⟩⟩
def T_Me : u_T := fun k => match k with
  | _ => ("StoryMachine$Memory", "bytes", "[I", true)
def t_Me : Nat → FieldType := fun k => match k with
  | _ => .array .int
set_option maxRecDepth 20000 in
theorem nm_Me : ∀ a, a < 1 → ∀ b, b < 1 → a ≠ b → (T_Me a).2.1 ≠ (T_Me b).2.1 := by decide +kernel
theorem tk_Me : ∀ k, k < 1 → parseFieldDescriptor (T_Me k).2.2.1 = some (t_Me k) := by decide +kernel
theorem in_Me : ∀ w ∈ u_ws "StoryMachine$Memory" T_Me 1, w ∈ tw_tbl := by
  show ∀ w ∈ [Cond.laysFinal "StoryMachine$Memory" "StoryMachine$Memory" "bytes" "[I"], w ∈ tw_tbl
  exact List.forall_mem_cons.mpr ⟨mw_44, (fun _ h => by cases h)⟩
def T_Li : u_T := fun k => match k with
  | 0 => ("StoryMachine$Line", "typed", "[I", true)
  | 1 => ("StoryMachine$Line", "typedLength", "I", false)
  | 2 => ("StoryMachine$Line", "entered", "[I", true)
  | 3 => ("StoryMachine$Line", "enteredLength", "I", false)
  | _ => ("StoryMachine$Line", "isEntered", "Z", false)
def t_Li : Nat → FieldType := fun k => match k with
  | 0 => .array .int
  | 1 => .int
  | 2 => .array .int
  | 3 => .int
  | _ => .boolean
set_option maxRecDepth 20000 in
theorem nm_Li : ∀ a, a < 5 → ∀ b, b < 5 → a ≠ b → (T_Li a).2.1 ≠ (T_Li b).2.1 := by decide +kernel
theorem tk_Li : ∀ k, k < 5 → parseFieldDescriptor (T_Li k).2.2.1 = some (t_Li k) := by decide +kernel
theorem in_Li : ∀ w ∈ u_ws "StoryMachine$Line" T_Li 5, w ∈ tw_tbl := by
  show ∀ w ∈ [Cond.laysFinal "StoryMachine$Line" "StoryMachine$Line" "typed" "[I", Cond.lays "StoryMachine$Line" "StoryMachine$Line" "typedLength" "I", Cond.laysFinal "StoryMachine$Line" "StoryMachine$Line" "entered" "[I", Cond.lays "StoryMachine$Line" "StoryMachine$Line" "enteredLength" "I", Cond.lays "StoryMachine$Line" "StoryMachine$Line" "isEntered" "Z"], w ∈ tw_tbl
  exact List.forall_mem_cons.mpr ⟨mw_63, List.forall_mem_cons.mpr ⟨mw_65, List.forall_mem_cons.mpr ⟨mw_67, List.forall_mem_cons.mpr ⟨mw_69, List.forall_mem_cons.mpr ⟨mw_71, (fun _ h => by cases h)⟩⟩⟩⟩⟩
def T_Ro : u_T := fun k => match k with
  | 0 => ("StoryMachine$Routines", "words", "[I", true)
  | 1 => ("StoryMachine$Routines", "height", "I", false)
  | 2 => ("StoryMachine$Routines", "depth", "I", false)
  | 3 => ("StoryMachine$Routines", "floors", "[I", true)
  | 4 => ("StoryMachine$Routines", "behinds", "[I", true)
  | 5 => ("StoryMachine$Routines", "results", "[I", true)
  | 6 => ("StoryMachine$Routines", "localCounts", "[I", true)
  | _ => ("StoryMachine$Routines", "locals", "[I", true)
def t_Ro : Nat → FieldType := fun k => match k with
  | 0 => .array .int
  | 1 => .int
  | 2 => .int
  | 3 => .array .int
  | 4 => .array .int
  | 5 => .array .int
  | 6 => .array .int
  | _ => .array .int
set_option maxRecDepth 20000 in
theorem nm_Ro : ∀ a, a < 8 → ∀ b, b < 8 → a ≠ b → (T_Ro a).2.1 ≠ (T_Ro b).2.1 := by decide +kernel
theorem tk_Ro : ∀ k, k < 8 → parseFieldDescriptor (T_Ro k).2.2.1 = some (t_Ro k) := by decide +kernel
theorem in_Ro : ∀ w ∈ u_ws "StoryMachine$Routines" T_Ro 8, w ∈ tw_tbl := by
  show ∀ w ∈ [Cond.laysFinal "StoryMachine$Routines" "StoryMachine$Routines" "words" "[I", Cond.lays "StoryMachine$Routines" "StoryMachine$Routines" "height" "I", Cond.lays "StoryMachine$Routines" "StoryMachine$Routines" "depth" "I", Cond.laysFinal "StoryMachine$Routines" "StoryMachine$Routines" "floors" "[I", Cond.laysFinal "StoryMachine$Routines" "StoryMachine$Routines" "behinds" "[I", Cond.laysFinal "StoryMachine$Routines" "StoryMachine$Routines" "results" "[I", Cond.laysFinal "StoryMachine$Routines" "StoryMachine$Routines" "localCounts" "[I", Cond.laysFinal "StoryMachine$Routines" "StoryMachine$Routines" "locals" "[I"], w ∈ tw_tbl
  exact List.forall_mem_cons.mpr ⟨mw_91, List.forall_mem_cons.mpr ⟨mw_93, List.forall_mem_cons.mpr ⟨mw_95, List.forall_mem_cons.mpr ⟨mw_97, List.forall_mem_cons.mpr ⟨mw_99, List.forall_mem_cons.mpr ⟨mw_101, List.forall_mem_cons.mpr ⟨mw_103, List.forall_mem_cons.mpr ⟨mw_105, (fun _ h => by cases h)⟩⟩⟩⟩⟩⟩⟩⟩
def T_Pr : u_T := fun k => match k with
  | 0 => ("StoryMachine$Printer", "memory", "LStoryMachine$Memory;", true)
  | 1 => ("StoryMachine$Printer", "kept", "[I", true)
  | 2 => ("StoryMachine$Printer", "count", "I", false)
  | 3 => ("StoryMachine$Printer", "mode", "I", false)
  | _ => ("StoryMachine$Printer", "half", "I", false)
def t_Pr : Nat → FieldType := fun k => match k with
  | 0 => .object "StoryMachine$Memory"
  | 1 => .array .int
  | 2 => .int
  | 3 => .int
  | _ => .int
set_option maxRecDepth 20000 in
theorem nm_Pr : ∀ a, a < 5 → ∀ b, b < 5 → a ≠ b → (T_Pr a).2.1 ≠ (T_Pr b).2.1 := by decide +kernel
theorem tk_Pr : ∀ k, k < 5 → parseFieldDescriptor (T_Pr k).2.2.1 = some (t_Pr k) := by decide +kernel
theorem in_Pr : ∀ w ∈ u_ws "StoryMachine$Printer" T_Pr 5, w ∈ tw_tbl := by
  show ∀ w ∈ [Cond.laysFinal "StoryMachine$Printer" "StoryMachine$Printer" "memory" "LStoryMachine$Memory;", Cond.laysFinal "StoryMachine$Printer" "StoryMachine$Printer" "kept" "[I", Cond.lays "StoryMachine$Printer" "StoryMachine$Printer" "count" "I", Cond.lays "StoryMachine$Printer" "StoryMachine$Printer" "mode" "I", Cond.lays "StoryMachine$Printer" "StoryMachine$Printer" "half" "I"], w ∈ tw_tbl
  exact List.forall_mem_cons.mpr ⟨mw_121, List.forall_mem_cons.mpr ⟨mw_123, List.forall_mem_cons.mpr ⟨mw_125, List.forall_mem_cons.mpr ⟨mw_127, List.forall_mem_cons.mpr ⟨mw_129, (fun _ h => by cases h)⟩⟩⟩⟩⟩
def T_En : u_T := fun k => match k with
  | 0 => ("StoryMachine$Engine", "memory", "LStoryMachine$Memory;", true)
  | 1 => ("StoryMachine$Engine", "line", "LStoryMachine$Line;", true)
  | 2 => ("StoryMachine$Engine", "routines", "LStoryMachine$Routines;", true)
  | 3 => ("StoryMachine$Engine", "printer", "LStoryMachine$Printer;", true)
  | 4 => ("StoryMachine$Engine", "variables", "LStoryMachine$Variables;", true)
  | 5 => ("StoryMachine$Engine", "tree", "LStoryMachine$Tree;", true)
  | 6 => ("StoryMachine$Engine", "dictionary", "LStoryMachine$Dictionary;", true)
  | 7 => ("StoryMachine$Engine", "instruction", "LStoryMachine$Instruction;", true)
  | 8 => ("StoryMachine$Engine", "aside", "LStoryMachine$Aside;", true)
  | 9 => ("StoryMachine$Engine", "newLocals", "[I", true)
  | 10 => ("StoryMachine$Engine", "canGoOn", "Z", false)
  | 11 => ("StoryMachine$Engine", "current", "I", false)
  | 12 => ("StoryMachine$Engine", "stepsDone", "I", false)
  | 13 => ("StoryMachine$Engine", "next", "I", false)
  | _ => ("StoryMachine$Engine", "random", "I", false)
def t_En : Nat → FieldType := fun k => match k with
  | 0 => .object "StoryMachine$Memory"
  | 1 => .object "StoryMachine$Line"
  | 2 => .object "StoryMachine$Routines"
  | 3 => .object "StoryMachine$Printer"
  | 4 => .object "StoryMachine$Variables"
  | 5 => .object "StoryMachine$Tree"
  | 6 => .object "StoryMachine$Dictionary"
  | 7 => .object "StoryMachine$Instruction"
  | 8 => .object "StoryMachine$Aside"
  | 9 => .array .int
  | 10 => .boolean
  | 11 => .int
  | 12 => .int
  | 13 => .int
  | _ => .int
set_option maxRecDepth 20000 in
theorem nm_En : ∀ a, a < 15 → ∀ b, b < 15 → a ≠ b → (T_En a).2.1 ≠ (T_En b).2.1 := by decide +kernel
theorem tk_En : ∀ k, k < 15 → parseFieldDescriptor (T_En k).2.2.1 = some (t_En k) := by decide +kernel
theorem in_En : ∀ w ∈ u_ws "StoryMachine$Engine" T_En 15, w ∈ tw_tbl := by
  show ∀ w ∈ [Cond.laysFinal "StoryMachine$Engine" "StoryMachine$Engine" "memory" "LStoryMachine$Memory;", Cond.laysFinal "StoryMachine$Engine" "StoryMachine$Engine" "line" "LStoryMachine$Line;", Cond.laysFinal "StoryMachine$Engine" "StoryMachine$Engine" "routines" "LStoryMachine$Routines;", Cond.laysFinal "StoryMachine$Engine" "StoryMachine$Engine" "printer" "LStoryMachine$Printer;", Cond.laysFinal "StoryMachine$Engine" "StoryMachine$Engine" "variables" "LStoryMachine$Variables;", Cond.laysFinal "StoryMachine$Engine" "StoryMachine$Engine" "tree" "LStoryMachine$Tree;", Cond.laysFinal "StoryMachine$Engine" "StoryMachine$Engine" "dictionary" "LStoryMachine$Dictionary;", Cond.laysFinal "StoryMachine$Engine" "StoryMachine$Engine" "instruction" "LStoryMachine$Instruction;", Cond.laysFinal "StoryMachine$Engine" "StoryMachine$Engine" "aside" "LStoryMachine$Aside;", Cond.laysFinal "StoryMachine$Engine" "StoryMachine$Engine" "newLocals" "[I", Cond.lays "StoryMachine$Engine" "StoryMachine$Engine" "canGoOn" "Z", Cond.lays "StoryMachine$Engine" "StoryMachine$Engine" "current" "I", Cond.lays "StoryMachine$Engine" "StoryMachine$Engine" "stepsDone" "I", Cond.lays "StoryMachine$Engine" "StoryMachine$Engine" "next" "I", Cond.lays "StoryMachine$Engine" "StoryMachine$Engine" "random" "I"], w ∈ tw_tbl
  exact List.forall_mem_cons.mpr ⟨mw_279, List.forall_mem_cons.mpr ⟨mw_281, List.forall_mem_cons.mpr ⟨mw_283, List.forall_mem_cons.mpr ⟨mw_285, List.forall_mem_cons.mpr ⟨mw_287, List.forall_mem_cons.mpr ⟨mw_289, List.forall_mem_cons.mpr ⟨mw_291, List.forall_mem_cons.mpr ⟨mw_293, List.forall_mem_cons.mpr ⟨mw_295, List.forall_mem_cons.mpr ⟨mw_297, List.forall_mem_cons.mpr ⟨mw_299, List.forall_mem_cons.mpr ⟨mw_301, List.forall_mem_cons.mpr ⟨mw_303, List.forall_mem_cons.mpr ⟨mw_305, List.forall_mem_cons.mpr ⟨mw_307, (fun _ h => by cases h)⟩⟩⟩⟩⟩⟩⟩⟩⟩⟩⟩⟩⟩⟩⟩
def T_Va : u_T := fun k => match k with
  | 0 => ("StoryMachine$Variables", "memory", "LStoryMachine$Memory;", true)
  | _ => ("StoryMachine$Variables", "routines", "LStoryMachine$Routines;", true)
def t_Va : Nat → FieldType := fun k => match k with
  | 0 => .object "StoryMachine$Memory"
  | _ => .object "StoryMachine$Routines"
set_option maxRecDepth 20000 in
theorem nm_Va : ∀ a, a < 2 → ∀ b, b < 2 → a ≠ b → (T_Va a).2.1 ≠ (T_Va b).2.1 := by decide +kernel
theorem tk_Va : ∀ k, k < 2 → parseFieldDescriptor (T_Va k).2.2.1 = some (t_Va k) := by decide +kernel
theorem in_Va : ∀ w ∈ u_ws "StoryMachine$Variables" T_Va 2, w ∈ tw_tbl := by
  show ∀ w ∈ [Cond.laysFinal "StoryMachine$Variables" "StoryMachine$Variables" "memory" "LStoryMachine$Memory;", Cond.laysFinal "StoryMachine$Variables" "StoryMachine$Variables" "routines" "LStoryMachine$Routines;"], w ∈ tw_tbl
  exact List.forall_mem_cons.mpr ⟨mw_170, List.forall_mem_cons.mpr ⟨mw_172, (fun _ h => by cases h)⟩⟩
def T_Tr : u_T := fun k => match k with
  | _ => ("StoryMachine$Tree", "memory", "LStoryMachine$Memory;", true)
def t_Tr : Nat → FieldType := fun k => match k with
  | _ => .object "StoryMachine$Memory"
set_option maxRecDepth 20000 in
theorem nm_Tr : ∀ a, a < 1 → ∀ b, b < 1 → a ≠ b → (T_Tr a).2.1 ≠ (T_Tr b).2.1 := by decide +kernel
theorem tk_Tr : ∀ k, k < 1 → parseFieldDescriptor (T_Tr k).2.2.1 = some (t_Tr k) := by decide +kernel
theorem in_Tr : ∀ w ∈ u_ws "StoryMachine$Tree" T_Tr 1, w ∈ tw_tbl := by
  show ∀ w ∈ [Cond.laysFinal "StoryMachine$Tree" "StoryMachine$Tree" "memory" "LStoryMachine$Memory;"], w ∈ tw_tbl
  exact List.forall_mem_cons.mpr ⟨mw_182, (fun _ h => by cases h)⟩
def T_Di : u_T := fun k => match k with
  | 0 => ("StoryMachine$Dictionary", "memory", "LStoryMachine$Memory;", true)
  | 1 => ("StoryMachine$Dictionary", "starts", "[I", true)
  | 2 => ("StoryMachine$Dictionary", "lengths", "[I", true)
  | 3 => ("StoryMachine$Dictionary", "words", "I", false)
  | 4 => ("StoryMachine$Dictionary", "letters", "[I", true)
  | _ => ("StoryMachine$Dictionary", "letterCount", "I", false)
def t_Di : Nat → FieldType := fun k => match k with
  | 0 => .object "StoryMachine$Memory"
  | 1 => .array .int
  | 2 => .array .int
  | 3 => .int
  | 4 => .array .int
  | _ => .int
set_option maxRecDepth 20000 in
theorem nm_Di : ∀ a, a < 6 → ∀ b, b < 6 → a ≠ b → (T_Di a).2.1 ≠ (T_Di b).2.1 := by decide +kernel
theorem tk_Di : ∀ k, k < 6 → parseFieldDescriptor (T_Di k).2.2.1 = some (t_Di k) := by decide +kernel
theorem in_Di : ∀ w ∈ u_ws "StoryMachine$Dictionary" T_Di 6, w ∈ tw_tbl := by
  show ∀ w ∈ [Cond.laysFinal "StoryMachine$Dictionary" "StoryMachine$Dictionary" "memory" "LStoryMachine$Memory;", Cond.laysFinal "StoryMachine$Dictionary" "StoryMachine$Dictionary" "starts" "[I", Cond.laysFinal "StoryMachine$Dictionary" "StoryMachine$Dictionary" "lengths" "[I", Cond.lays "StoryMachine$Dictionary" "StoryMachine$Dictionary" "words" "I", Cond.laysFinal "StoryMachine$Dictionary" "StoryMachine$Dictionary" "letters" "[I", Cond.lays "StoryMachine$Dictionary" "StoryMachine$Dictionary" "letterCount" "I"], w ∈ tw_tbl
  exact List.forall_mem_cons.mpr ⟨mw_200, List.forall_mem_cons.mpr ⟨mw_202, List.forall_mem_cons.mpr ⟨mw_204, List.forall_mem_cons.mpr ⟨mw_206, List.forall_mem_cons.mpr ⟨mw_208, List.forall_mem_cons.mpr ⟨mw_210, (fun _ h => by cases h)⟩⟩⟩⟩⟩⟩
def T_In : u_T := fun k => match k with
  | 0 => ("StoryMachine$Instruction", "memory", "LStoryMachine$Memory;", true)
  | 1 => ("StoryMachine$Instruction", "variables", "LStoryMachine$Variables;", true)
  | 2 => ("StoryMachine$Instruction", "numbers", "[I", true)
  | 3 => ("StoryMachine$Instruction", "count", "I", false)
  | 4 => ("StoryMachine$Instruction", "list", "I", false)
  | 5 => ("StoryMachine$Instruction", "operation", "I", false)
  | 6 => ("StoryMachine$Instruction", "behind", "I", false)
  | 7 => ("StoryMachine$Instruction", "result", "I", false)
  | 8 => ("StoryMachine$Instruction", "branchesWhen", "Z", false)
  | 9 => ("StoryMachine$Instruction", "offset", "I", false)
  | _ => ("StoryMachine$Instruction", "form", "I", false)
def t_In : Nat → FieldType := fun k => match k with
  | 0 => .object "StoryMachine$Memory"
  | 1 => .object "StoryMachine$Variables"
  | 2 => .array .int
  | 3 => .int
  | 4 => .int
  | 5 => .int
  | 6 => .int
  | 7 => .int
  | 8 => .boolean
  | 9 => .int
  | _ => .int
set_option maxRecDepth 20000 in
theorem nm_In : ∀ a, a < 11 → ∀ b, b < 11 → a ≠ b → (T_In a).2.1 ≠ (T_In b).2.1 := by decide +kernel
theorem tk_In : ∀ k, k < 11 → parseFieldDescriptor (T_In k).2.2.1 = some (t_In k) := by decide +kernel
theorem in_In : ∀ w ∈ u_ws "StoryMachine$Instruction" T_In 11, w ∈ tw_tbl := by
  show ∀ w ∈ [Cond.laysFinal "StoryMachine$Instruction" "StoryMachine$Instruction" "memory" "LStoryMachine$Memory;", Cond.laysFinal "StoryMachine$Instruction" "StoryMachine$Instruction" "variables" "LStoryMachine$Variables;", Cond.laysFinal "StoryMachine$Instruction" "StoryMachine$Instruction" "numbers" "[I", Cond.lays "StoryMachine$Instruction" "StoryMachine$Instruction" "count" "I", Cond.lays "StoryMachine$Instruction" "StoryMachine$Instruction" "list" "I", Cond.lays "StoryMachine$Instruction" "StoryMachine$Instruction" "operation" "I", Cond.lays "StoryMachine$Instruction" "StoryMachine$Instruction" "behind" "I", Cond.lays "StoryMachine$Instruction" "StoryMachine$Instruction" "result" "I", Cond.lays "StoryMachine$Instruction" "StoryMachine$Instruction" "branchesWhen" "Z", Cond.lays "StoryMachine$Instruction" "StoryMachine$Instruction" "offset" "I", Cond.lays "StoryMachine$Instruction" "StoryMachine$Instruction" "form" "I"], w ∈ tw_tbl
  exact List.forall_mem_cons.mpr ⟨mw_238, List.forall_mem_cons.mpr ⟨mw_240, List.forall_mem_cons.mpr ⟨mw_242, List.forall_mem_cons.mpr ⟨mw_244, List.forall_mem_cons.mpr ⟨mw_246, List.forall_mem_cons.mpr ⟨mw_248, List.forall_mem_cons.mpr ⟨mw_250, List.forall_mem_cons.mpr ⟨mw_252, List.forall_mem_cons.mpr ⟨mw_254, List.forall_mem_cons.mpr ⟨mw_256, List.forall_mem_cons.mpr ⟨mw_258, (fun _ h => by cases h)⟩⟩⟩⟩⟩⟩⟩⟩⟩⟩⟩
def T_As : u_T := fun k => match k with
  | 0 => ("StoryMachine$Aside", "isThere", "Z", false)
  | 1 => ("StoryMachine$Aside", "memory", "LStoryMachine$Memory;", true)
  | 2 => ("StoryMachine$Aside", "routines", "LStoryMachine$Routines;", true)
  | _ => ("StoryMachine$Aside", "next", "I", false)
def t_As : Nat → FieldType := fun k => match k with
  | 0 => .boolean
  | 1 => .object "StoryMachine$Memory"
  | 2 => .object "StoryMachine$Routines"
  | _ => .int
set_option maxRecDepth 20000 in
theorem nm_As : ∀ a, a < 4 → ∀ b, b < 4 → a ≠ b → (T_As a).2.1 ≠ (T_As b).2.1 := by decide +kernel
theorem tk_As : ∀ k, k < 4 → parseFieldDescriptor (T_As k).2.2.1 = some (t_As k) := by decide +kernel
theorem in_As : ∀ w ∈ u_ws "StoryMachine$Aside" T_As 4, w ∈ tw_tbl := by
  show ∀ w ∈ [Cond.lays "StoryMachine$Aside" "StoryMachine$Aside" "isThere" "Z", Cond.laysFinal "StoryMachine$Aside" "StoryMachine$Aside" "memory" "LStoryMachine$Memory;", Cond.laysFinal "StoryMachine$Aside" "StoryMachine$Aside" "routines" "LStoryMachine$Routines;", Cond.lays "StoryMachine$Aside" "StoryMachine$Aside" "next" "I"], w ∈ tw_tbl
  exact List.forall_mem_cons.mpr ⟨mw_153, List.forall_mem_cons.mpr ⟨mw_155, List.forall_mem_cons.mpr ⟨mw_157, List.forall_mem_cons.mpr ⟨mw_159, (fun _ h => by cases h)⟩⟩⟩⟩
def T_Mo : u_T := fun k => match k with
  | 0 => ("StoryMachineModel", "thrown", "I", false)
  | 1 => ("StoryMachineModel", "memory", "[I", true)
  | 2 => ("StoryMachineModel", "size", "I", false)
  | 3 => ("StoryMachineModel", "words", "[I", true)
  | 4 => ("StoryMachineModel", "depth", "I", false)
  | 5 => ("StoryMachineModel", "many", "[I", true)
  | 6 => ("StoryMachineModel", "bottom", "[I", true)
  | 7 => ("StoryMachineModel", "back", "[I", true)
  | 8 => ("StoryMachineModel", "gets", "[I", true)
  | 9 => ("StoryMachineModel", "locals", "[I", true)
  | 10 => ("StoryMachineModel", "saved", "Z", false)
  | 11 => ("StoryMachineModel", "oldMemory", "[I", true)
  | 12 => ("StoryMachineModel", "oldSize", "I", false)
  | 13 => ("StoryMachineModel", "oldWords", "[I", true)
  | 14 => ("StoryMachineModel", "oldDepth", "I", false)
  | 15 => ("StoryMachineModel", "oldMany", "[I", true)
  | 16 => ("StoryMachineModel", "oldBottom", "[I", true)
  | 17 => ("StoryMachineModel", "oldBack", "[I", true)
  | 18 => ("StoryMachineModel", "oldGets", "[I", true)
  | 19 => ("StoryMachineModel", "oldLocals", "[I", true)
  | 20 => ("StoryMachineModel", "oldBehind", "I", false)
  | 21 => ("StoryMachineModel", "oldSense", "Z", false)
  | 22 => ("StoryMachineModel", "oldOffset", "I", false)
  | 23 => ("StoryMachineModel", "begun", "Z", false)
  | 24 => ("StoryMachineModel", "state", "I", false)
  | 25 => ("StoryMachineModel", "trouble", "I", false)
  | 26 => ("StoryMachineModel", "ends", "Z", false)
  | 27 => ("StoryMachineModel", "pc", "I", false)
  | 28 => ("StoryMachineModel", "next", "I", false)
  | 29 => ("StoryMachineModel", "done", "I", false)
  | 30 => ("StoryMachineModel", "chance", "I", false)
  | 31 => ("StoryMachineModel", "shown", "I", false)
  | 32 => ("StoryMachineModel", "latest", "[I", true)
  | 33 => ("StoryMachineModel", "entered", "Z", false)
  | 34 => ("StoryMachineModel", "typedSize", "I", false)
  | 35 => ("StoryMachineModel", "typed", "[I", true)
  | 36 => ("StoryMachineModel", "lineSize", "I", false)
  | 37 => ("StoryMachineModel", "line", "[I", true)
  | 38 => ("StoryMachineModel", "count", "I", false)
  | 39 => ("StoryMachineModel", "numbers", "[I", true)
  | 40 => ("StoryMachineModel", "result", "I", false)
  | 41 => ("StoryMachineModel", "sense", "Z", false)
  | 42 => ("StoryMachineModel", "offset", "I", false)
  | 43 => ("StoryMachineModel", "behind", "I", false)
  | 44 => ("StoryMachineModel", "alphabet", "I", false)
  | 45 => ("StoryMachineModel", "pending", "I", false)
  | 46 => ("StoryMachineModel", "high", "I", false)
  | 47 => ("StoryMachineModel", "lettered", "I", false)
  | 48 => ("StoryMachineModel", "letters", "[I", true)
  | 49 => ("StoryMachineModel", "starts", "[I", true)
  | _ => ("StoryMachineModel", "lengths", "[I", true)
def t_Mo : Nat → FieldType := fun k => match k with
  | 0 => .int
  | 1 => .array .int
  | 2 => .int
  | 3 => .array .int
  | 4 => .int
  | 5 => .array .int
  | 6 => .array .int
  | 7 => .array .int
  | 8 => .array .int
  | 9 => .array .int
  | 10 => .boolean
  | 11 => .array .int
  | 12 => .int
  | 13 => .array .int
  | 14 => .int
  | 15 => .array .int
  | 16 => .array .int
  | 17 => .array .int
  | 18 => .array .int
  | 19 => .array .int
  | 20 => .int
  | 21 => .boolean
  | 22 => .int
  | 23 => .boolean
  | 24 => .int
  | 25 => .int
  | 26 => .boolean
  | 27 => .int
  | 28 => .int
  | 29 => .int
  | 30 => .int
  | 31 => .int
  | 32 => .array .int
  | 33 => .boolean
  | 34 => .int
  | 35 => .array .int
  | 36 => .int
  | 37 => .array .int
  | 38 => .int
  | 39 => .array .int
  | 40 => .int
  | 41 => .boolean
  | 42 => .int
  | 43 => .int
  | 44 => .int
  | 45 => .int
  | 46 => .int
  | 47 => .int
  | 48 => .array .int
  | 49 => .array .int
  | _ => .array .int
set_option maxRecDepth 20000 in
theorem nm_Mo : ∀ a, a < 51 → ∀ b, b < 51 → a ≠ b → (T_Mo a).2.1 ≠ (T_Mo b).2.1 := by decide +kernel
theorem tk_Mo : ∀ k, k < 51 → parseFieldDescriptor (T_Mo k).2.2.1 = some (t_Mo k) := by decide +kernel
theorem in_Mo : ∀ w ∈ u_ws "StoryMachineModel" T_Mo 51, w ∈ tw_tbl := by
  show ∀ w ∈ [Cond.lays "StoryMachineModel" "StoryMachineModel" "thrown" "I", Cond.laysFinal "StoryMachineModel" "StoryMachineModel" "memory" "[I", Cond.lays "StoryMachineModel" "StoryMachineModel" "size" "I", Cond.laysFinal "StoryMachineModel" "StoryMachineModel" "words" "[I", Cond.lays "StoryMachineModel" "StoryMachineModel" "depth" "I", Cond.laysFinal "StoryMachineModel" "StoryMachineModel" "many" "[I", Cond.laysFinal "StoryMachineModel" "StoryMachineModel" "bottom" "[I", Cond.laysFinal "StoryMachineModel" "StoryMachineModel" "back" "[I", Cond.laysFinal "StoryMachineModel" "StoryMachineModel" "gets" "[I", Cond.laysFinal "StoryMachineModel" "StoryMachineModel" "locals" "[I", Cond.lays "StoryMachineModel" "StoryMachineModel" "saved" "Z", Cond.laysFinal "StoryMachineModel" "StoryMachineModel" "oldMemory" "[I", Cond.lays "StoryMachineModel" "StoryMachineModel" "oldSize" "I", Cond.laysFinal "StoryMachineModel" "StoryMachineModel" "oldWords" "[I", Cond.lays "StoryMachineModel" "StoryMachineModel" "oldDepth" "I", Cond.laysFinal "StoryMachineModel" "StoryMachineModel" "oldMany" "[I", Cond.laysFinal "StoryMachineModel" "StoryMachineModel" "oldBottom" "[I", Cond.laysFinal "StoryMachineModel" "StoryMachineModel" "oldBack" "[I", Cond.laysFinal "StoryMachineModel" "StoryMachineModel" "oldGets" "[I", Cond.laysFinal "StoryMachineModel" "StoryMachineModel" "oldLocals" "[I", Cond.lays "StoryMachineModel" "StoryMachineModel" "oldBehind" "I", Cond.lays "StoryMachineModel" "StoryMachineModel" "oldSense" "Z", Cond.lays "StoryMachineModel" "StoryMachineModel" "oldOffset" "I", Cond.lays "StoryMachineModel" "StoryMachineModel" "begun" "Z", Cond.lays "StoryMachineModel" "StoryMachineModel" "state" "I", Cond.lays "StoryMachineModel" "StoryMachineModel" "trouble" "I", Cond.lays "StoryMachineModel" "StoryMachineModel" "ends" "Z", Cond.lays "StoryMachineModel" "StoryMachineModel" "pc" "I", Cond.lays "StoryMachineModel" "StoryMachineModel" "next" "I", Cond.lays "StoryMachineModel" "StoryMachineModel" "done" "I", Cond.lays "StoryMachineModel" "StoryMachineModel" "chance" "I", Cond.lays "StoryMachineModel" "StoryMachineModel" "shown" "I", Cond.laysFinal "StoryMachineModel" "StoryMachineModel" "latest" "[I", Cond.lays "StoryMachineModel" "StoryMachineModel" "entered" "Z", Cond.lays "StoryMachineModel" "StoryMachineModel" "typedSize" "I", Cond.laysFinal "StoryMachineModel" "StoryMachineModel" "typed" "[I", Cond.lays "StoryMachineModel" "StoryMachineModel" "lineSize" "I", Cond.laysFinal "StoryMachineModel" "StoryMachineModel" "line" "[I", Cond.lays "StoryMachineModel" "StoryMachineModel" "count" "I", Cond.laysFinal "StoryMachineModel" "StoryMachineModel" "numbers" "[I", Cond.lays "StoryMachineModel" "StoryMachineModel" "result" "I", Cond.lays "StoryMachineModel" "StoryMachineModel" "sense" "Z", Cond.lays "StoryMachineModel" "StoryMachineModel" "offset" "I", Cond.lays "StoryMachineModel" "StoryMachineModel" "behind" "I", Cond.lays "StoryMachineModel" "StoryMachineModel" "alphabet" "I", Cond.lays "StoryMachineModel" "StoryMachineModel" "pending" "I", Cond.lays "StoryMachineModel" "StoryMachineModel" "high" "I", Cond.lays "StoryMachineModel" "StoryMachineModel" "lettered" "I", Cond.laysFinal "StoryMachineModel" "StoryMachineModel" "letters" "[I", Cond.laysFinal "StoryMachineModel" "StoryMachineModel" "starts" "[I", Cond.laysFinal "StoryMachineModel" "StoryMachineModel" "lengths" "[I"], w ∈ tw_tbl
  exact List.forall_mem_cons.mpr ⟨mw_1114, List.forall_mem_cons.mpr ⟨mw_1116, List.forall_mem_cons.mpr ⟨mw_1118, List.forall_mem_cons.mpr ⟨mw_1120, List.forall_mem_cons.mpr ⟨mw_1122, List.forall_mem_cons.mpr ⟨mw_1124, List.forall_mem_cons.mpr ⟨mw_1126, List.forall_mem_cons.mpr ⟨mw_1128, List.forall_mem_cons.mpr ⟨mw_1130, List.forall_mem_cons.mpr ⟨mw_1132, List.forall_mem_cons.mpr ⟨mw_1134, List.forall_mem_cons.mpr ⟨mw_1136, List.forall_mem_cons.mpr ⟨mw_1138, List.forall_mem_cons.mpr ⟨mw_1140, List.forall_mem_cons.mpr ⟨mw_1142, List.forall_mem_cons.mpr ⟨mw_1144, List.forall_mem_cons.mpr ⟨mw_1146, List.forall_mem_cons.mpr ⟨mw_1148, List.forall_mem_cons.mpr ⟨mw_1150, List.forall_mem_cons.mpr ⟨mw_1152, List.forall_mem_cons.mpr ⟨mw_1154, List.forall_mem_cons.mpr ⟨mw_1156, List.forall_mem_cons.mpr ⟨mw_1158, List.forall_mem_cons.mpr ⟨mw_1160, List.forall_mem_cons.mpr ⟨mw_1162, List.forall_mem_cons.mpr ⟨mw_1164, List.forall_mem_cons.mpr ⟨mw_1166, List.forall_mem_cons.mpr ⟨mw_1168, List.forall_mem_cons.mpr ⟨mw_1170, List.forall_mem_cons.mpr ⟨mw_1172, List.forall_mem_cons.mpr ⟨mw_1174, List.forall_mem_cons.mpr ⟨mw_1176, List.forall_mem_cons.mpr ⟨mw_1178, List.forall_mem_cons.mpr ⟨mw_1180, List.forall_mem_cons.mpr ⟨mw_1182, List.forall_mem_cons.mpr ⟨mw_1184, List.forall_mem_cons.mpr ⟨mw_1186, List.forall_mem_cons.mpr ⟨mw_1188, List.forall_mem_cons.mpr ⟨mw_1190, List.forall_mem_cons.mpr ⟨mw_1192, List.forall_mem_cons.mpr ⟨mw_1194, List.forall_mem_cons.mpr ⟨mw_1196, List.forall_mem_cons.mpr ⟨mw_1198, List.forall_mem_cons.mpr ⟨mw_1200, List.forall_mem_cons.mpr ⟨mw_1202, List.forall_mem_cons.mpr ⟨mw_1204, List.forall_mem_cons.mpr ⟨mw_1206, List.forall_mem_cons.mpr ⟨mw_1208, List.forall_mem_cons.mpr ⟨mw_1210, List.forall_mem_cons.mpr ⟨mw_1212, List.forall_mem_cons.mpr ⟨mw_1214, (fun _ h => by cases h)⟩⟩⟩⟩⟩⟩⟩⟩⟩⟩⟩⟩⟩⟩⟩⟩⟩⟩⟩⟩⟩⟩⟩⟩⟩⟩⟩⟩⟩⟩⟩⟩⟩⟩⟩⟩⟩⟩⟩⟩⟩⟩⟩⟩⟩⟩⟩⟩⟩⟩⟩
abbrev vcl : List vw_C := [("StoryMachine", T_SM, 5), ("StoryMachine$Memory", T_Me, 1), ("StoryMachine$Line", T_Li, 5), ("StoryMachine$Routines", T_Ro, 8), ("StoryMachine$Printer", T_Pr, 5), ("StoryMachine$Engine", T_En, 15), ("StoryMachine$Variables", T_Va, 2), ("StoryMachine$Tree", T_Tr, 1), ("StoryMachine$Dictionary", T_Di, 6), ("StoryMachine$Instruction", T_In, 11), ("StoryMachine$Aside", T_As, 4), ("StoryMachineModel", T_Mo, 51)]
