/-! More words by their places. -/
theorem mw_0 : (Cond.initialized "StoryMachineLaw") ∈ tw_tbl := tw_mem (List.mem_append_right _ (List.mem_of_getElem? (i := 0) (by decide +kernel))) rfl
theorem mw_28 : (Cond.classLink "StoryMachineLaw" 8 "StoryMachine") ∈ tw_tbl := tw_mem (List.mem_append_right _ (List.mem_of_getElem? (i := 28) (by decide +kernel))) rfl
theorem mw_29 : (Cond.instantiable "StoryMachine" 5) ∈ tw_tbl := tw_mem (List.mem_append_right _ (List.mem_of_getElem? (i := 29) (by decide +kernel))) rfl
theorem mw_30 : (Cond.methodLink "StoryMachineLaw" 42 (⟨"StoryMachine", "<init>", "()V"⟩)) ∈ tw_tbl := tw_mem (List.mem_append_right _ (List.mem_of_getElem? (i := 30) (by decide +kernel))) rfl
theorem mw_31 : (Cond.instanceMethod (⟨"StoryMachine", "<init>", "()V"⟩)) ∈ tw_tbl := tw_mem (List.mem_append_right _ (List.mem_of_getElem? (i := 31) (by decide +kernel))) rfl
theorem mw_56 : (Cond.fieldLink "StoryMachine" 70 "StoryMachine$Line" "typedLength" "I") ∈ tw_tbl := tw_mem (List.mem_append_right _ (List.mem_of_getElem? (i := 56) (by decide +kernel))) rfl
theorem mw_326 : (Cond.methodLink "StoryMachineLaw" 70 (⟨"StoryMachine", "enter", "()V"⟩)) ∈ tw_tbl := tw_mem (List.mem_append_right _ (List.mem_of_getElem? (i := 326) (by decide +kernel))) rfl
theorem mw_327 : (Cond.instanceMethod (⟨"StoryMachine", "enter", "()V"⟩)) ∈ tw_tbl := tw_mem (List.mem_append_right _ (List.mem_of_getElem? (i := 327) (by decide +kernel))) rfl
theorem mw_328 : (Cond.selects "StoryMachine" (⟨"StoryMachine", "enter", "()V"⟩) (⟨"StoryMachine", "enter", "()V"⟩)) ∈ tw_tbl := tw_mem (List.mem_append_right _ (List.mem_of_getElem? (i := 328) (by decide +kernel))) rfl
theorem mw_334 : (Cond.methodLink "StoryMachineLaw" 77 (⟨"StoryMachine", "steps", "()I"⟩)) ∈ tw_tbl := tw_mem (List.mem_append_right _ (List.mem_of_getElem? (i := 334) (by decide +kernel))) rfl
theorem mw_335 : (Cond.instanceMethod (⟨"StoryMachine", "steps", "()I"⟩)) ∈ tw_tbl := tw_mem (List.mem_append_right _ (List.mem_of_getElem? (i := 335) (by decide +kernel))) rfl
theorem mw_336 : (Cond.selects "StoryMachine" (⟨"StoryMachine", "steps", "()I"⟩) (⟨"StoryMachine", "steps", "()I"⟩)) ∈ tw_tbl := tw_mem (List.mem_append_right _ (List.mem_of_getElem? (i := 336) (by decide +kernel))) rfl
theorem mw_338 : (Cond.methodLink "StoryMachineLaw" 81 (⟨"StoryMachine", "place", "()I"⟩)) ∈ tw_tbl := tw_mem (List.mem_append_right _ (List.mem_of_getElem? (i := 338) (by decide +kernel))) rfl
theorem mw_339 : (Cond.instanceMethod (⟨"StoryMachine", "place", "()I"⟩)) ∈ tw_tbl := tw_mem (List.mem_append_right _ (List.mem_of_getElem? (i := 339) (by decide +kernel))) rfl
theorem mw_340 : (Cond.selects "StoryMachine" (⟨"StoryMachine", "place", "()I"⟩) (⟨"StoryMachine", "place", "()I"⟩)) ∈ tw_tbl := tw_mem (List.mem_append_right _ (List.mem_of_getElem? (i := 340) (by decide +kernel))) rfl
theorem mw_342 : (Cond.methodLink "StoryMachineLaw" 94 (⟨"StoryMachine", "routines", "()I"⟩)) ∈ tw_tbl := tw_mem (List.mem_append_right _ (List.mem_of_getElem? (i := 342) (by decide +kernel))) rfl
theorem mw_343 : (Cond.instanceMethod (⟨"StoryMachine", "routines", "()I"⟩)) ∈ tw_tbl := tw_mem (List.mem_append_right _ (List.mem_of_getElem? (i := 343) (by decide +kernel))) rfl
theorem mw_344 : (Cond.selects "StoryMachine" (⟨"StoryMachine", "routines", "()I"⟩) (⟨"StoryMachine", "routines", "()I"⟩)) ∈ tw_tbl := tw_mem (List.mem_append_right _ (List.mem_of_getElem? (i := 344) (by decide +kernel))) rfl
theorem mw_346 : (Cond.methodLink "StoryMachineLaw" 48 (⟨"StoryMachineLaw", "poke", "(LStoryMachine;IJI)I"⟩)) ∈ tw_tbl := tw_mem (List.mem_append_right _ (List.mem_of_getElem? (i := 346) (by decide +kernel))) rfl
theorem mw_347 : (Cond.static (⟨"StoryMachineLaw", "poke", "(LStoryMachine;IJI)I"⟩)) ∈ tw_tbl := tw_mem (List.mem_append_right _ (List.mem_of_getElem? (i := 347) (by decide +kernel))) rfl
theorem mw_348 : (Cond.codeWith (⟨"StoryMachineLaw", "poke", "(LStoryMachine;IJI)I"⟩) method_3_code 6 (some .int) [(0, 8, 11, 13)]) ∈ tw_tbl := tw_mem (List.mem_append_right _ (List.mem_of_getElem? (i := 348) (by decide +kernel))) rfl
theorem mw_349 : (Cond.classLink "StoryMachineLaw" 13 "java/lang/IllegalArgumentException") ∈ tw_tbl := tw_mem (List.mem_append_right _ (List.mem_of_getElem? (i := 349) (by decide +kernel))) rfl
theorem mw_350 : (Cond.methodLink "StoryMachineLaw" 7 (⟨"StoryMachine", "poke", "(IJI)V"⟩)) ∈ tw_tbl := tw_mem (List.mem_append_right _ (List.mem_of_getElem? (i := 350) (by decide +kernel))) rfl
theorem mw_351 : (Cond.instanceMethod (⟨"StoryMachine", "poke", "(IJI)V"⟩)) ∈ tw_tbl := tw_mem (List.mem_append_right _ (List.mem_of_getElem? (i := 351) (by decide +kernel))) rfl
theorem mw_352 : (Cond.selects "StoryMachine" (⟨"StoryMachine", "poke", "(IJI)V"⟩) (⟨"StoryMachine", "poke", "(IJI)V"⟩)) ∈ tw_tbl := tw_mem (List.mem_append_right _ (List.mem_of_getElem? (i := 352) (by decide +kernel))) rfl
theorem mw_422 : (Cond.methodLink "StoryMachineLaw" 58 (⟨"StoryMachineLaw", "peek", "(LStoryMachine;I[J)I"⟩)) ∈ tw_tbl := tw_mem (List.mem_append_right _ (List.mem_of_getElem? (i := 422) (by decide +kernel))) rfl
theorem mw_423 : (Cond.static (⟨"StoryMachineLaw", "peek", "(LStoryMachine;I[J)I"⟩)) ∈ tw_tbl := tw_mem (List.mem_append_right _ (List.mem_of_getElem? (i := 423) (by decide +kernel))) rfl
theorem mw_424 : (Cond.codeWith (⟨"StoryMachineLaw", "peek", "(LStoryMachine;I[J)I"⟩) method_4_code 4 (some .int) [(0, 9, 12, 13)]) ∈ tw_tbl := tw_mem (List.mem_append_right _ (List.mem_of_getElem? (i := 424) (by decide +kernel))) rfl
theorem mw_425 : (Cond.methodLink "StoryMachineLaw" 15 (⟨"StoryMachine", "peek", "(I)I"⟩)) ∈ tw_tbl := tw_mem (List.mem_append_right _ (List.mem_of_getElem? (i := 425) (by decide +kernel))) rfl
theorem mw_426 : (Cond.instanceMethod (⟨"StoryMachine", "peek", "(I)I"⟩)) ∈ tw_tbl := tw_mem (List.mem_append_right _ (List.mem_of_getElem? (i := 426) (by decide +kernel))) rfl
theorem mw_427 : (Cond.selects "StoryMachine" (⟨"StoryMachine", "peek", "(I)I"⟩) (⟨"StoryMachine", "peek", "(I)I"⟩)) ∈ tw_tbl := tw_mem (List.mem_append_right _ (List.mem_of_getElem? (i := 427) (by decide +kernel))) rfl
theorem mw_429 : (Cond.methodLink "StoryMachineLaw" 62 (⟨"StoryMachineLaw", "begin", "(LStoryMachine;)I"⟩)) ∈ tw_tbl := tw_mem (List.mem_append_right _ (List.mem_of_getElem? (i := 429) (by decide +kernel))) rfl
theorem mw_430 : (Cond.static (⟨"StoryMachineLaw", "begin", "(LStoryMachine;)I"⟩)) ∈ tw_tbl := tw_mem (List.mem_append_right _ (List.mem_of_getElem? (i := 430) (by decide +kernel))) rfl
theorem mw_431 : (Cond.codeWith (⟨"StoryMachineLaw", "begin", "(LStoryMachine;)I"⟩) method_5_code 2 (some .int) [(0, 4, 7, 22)]) ∈ tw_tbl := tw_mem (List.mem_append_right _ (List.mem_of_getElem? (i := 431) (by decide +kernel))) rfl
theorem mw_432 : (Cond.classLink "StoryMachineLaw" 22 "java/lang/IllegalStateException") ∈ tw_tbl := tw_mem (List.mem_append_right _ (List.mem_of_getElem? (i := 432) (by decide +kernel))) rfl
theorem mw_433 : (Cond.methodLink "StoryMachineLaw" 19 (⟨"StoryMachine", "begin", "()V"⟩)) ∈ tw_tbl := tw_mem (List.mem_append_right _ (List.mem_of_getElem? (i := 433) (by decide +kernel))) rfl
theorem mw_434 : (Cond.instanceMethod (⟨"StoryMachine", "begin", "()V"⟩)) ∈ tw_tbl := tw_mem (List.mem_append_right _ (List.mem_of_getElem? (i := 434) (by decide +kernel))) rfl
theorem mw_435 : (Cond.selects "StoryMachine" (⟨"StoryMachine", "begin", "()V"⟩) (⟨"StoryMachine", "begin", "()V"⟩)) ∈ tw_tbl := tw_mem (List.mem_append_right _ (List.mem_of_getElem? (i := 435) (by decide +kernel))) rfl
theorem mw_470 : (Cond.methodLink "StoryMachineLaw" 66 (⟨"StoryMachineLaw", "type", "(LStoryMachine;JI)I"⟩)) ∈ tw_tbl := tw_mem (List.mem_append_right _ (List.mem_of_getElem? (i := 470) (by decide +kernel))) rfl
theorem mw_471 : (Cond.static (⟨"StoryMachineLaw", "type", "(LStoryMachine;JI)I"⟩)) ∈ tw_tbl := tw_mem (List.mem_append_right _ (List.mem_of_getElem? (i := 471) (by decide +kernel))) rfl
theorem mw_472 : (Cond.codeWith (⟨"StoryMachineLaw", "type", "(LStoryMachine;JI)I"⟩) method_6_code 5 (some .int) [(0, 6, 9, 13), (0, 6, 13, 22)]) ∈ tw_tbl := tw_mem (List.mem_append_right _ (List.mem_of_getElem? (i := 472) (by decide +kernel))) rfl
theorem mw_473 : (Cond.methodLink "StoryMachineLaw" 24 (⟨"StoryMachine", "type", "(JI)V"⟩)) ∈ tw_tbl := tw_mem (List.mem_append_right _ (List.mem_of_getElem? (i := 473) (by decide +kernel))) rfl
theorem mw_474 : (Cond.instanceMethod (⟨"StoryMachine", "type", "(JI)V"⟩)) ∈ tw_tbl := tw_mem (List.mem_append_right _ (List.mem_of_getElem? (i := 474) (by decide +kernel))) rfl
theorem mw_475 : (Cond.selects "StoryMachine" (⟨"StoryMachine", "type", "(JI)V"⟩) (⟨"StoryMachine", "type", "(JI)V"⟩)) ∈ tw_tbl := tw_mem (List.mem_append_right _ (List.mem_of_getElem? (i := 475) (by decide +kernel))) rfl
theorem mw_476 : (Cond.code (⟨"StoryMachine", "type", "(JI)V"⟩) prog_1_method_5_code 6 none) ∈ tw_tbl := tw_mem (List.mem_append_right _ (List.mem_of_getElem? (i := 476) (by decide +kernel))) rfl
theorem mw_477 : (Cond.methodLink "StoryMachine" 74 (⟨"StoryMachine$Line", "add", "(I)V"⟩)) ∈ tw_tbl := tw_mem (List.mem_append_right _ (List.mem_of_getElem? (i := 477) (by decide +kernel))) rfl
theorem mw_478 : (Cond.instanceMethod (⟨"StoryMachine$Line", "add", "(I)V"⟩)) ∈ tw_tbl := tw_mem (List.mem_append_right _ (List.mem_of_getElem? (i := 478) (by decide +kernel))) rfl
theorem mw_479 : (Cond.selects "StoryMachine$Line" (⟨"StoryMachine$Line", "add", "(I)V"⟩) (⟨"StoryMachine$Line", "add", "(I)V"⟩)) ∈ tw_tbl := tw_mem (List.mem_append_right _ (List.mem_of_getElem? (i := 479) (by decide +kernel))) rfl
theorem mw_480 : (Cond.code (⟨"StoryMachine$Line", "add", "(I)V"⟩) prog_6_method_3_code 2 none) ∈ tw_tbl := tw_mem (List.mem_append_right _ (List.mem_of_getElem? (i := 480) (by decide +kernel))) rfl
theorem mw_481 : (Cond.methodLink "StoryMachineLaw" 74 (⟨"StoryMachineLaw", "run", "(LStoryMachine;I[J)I"⟩)) ∈ tw_tbl := tw_mem (List.mem_append_right _ (List.mem_of_getElem? (i := 481) (by decide +kernel))) rfl
theorem mw_482 : (Cond.static (⟨"StoryMachineLaw", "run", "(LStoryMachine;I[J)I"⟩)) ∈ tw_tbl := tw_mem (List.mem_append_right _ (List.mem_of_getElem? (i := 482) (by decide +kernel))) rfl
theorem mw_483 : (Cond.codeWith (⟨"StoryMachineLaw", "run", "(LStoryMachine;I[J)I"⟩) method_7_code 4 (some .int) [(0, 9, 12, 13), (0, 9, 15, 22)]) ∈ tw_tbl := tw_mem (List.mem_append_right _ (List.mem_of_getElem? (i := 483) (by decide +kernel))) rfl
theorem mw_484 : (Cond.methodLink "StoryMachineLaw" 28 (⟨"StoryMachine", "run", "(I)I"⟩)) ∈ tw_tbl := tw_mem (List.mem_append_right _ (List.mem_of_getElem? (i := 484) (by decide +kernel))) rfl
theorem mw_485 : (Cond.instanceMethod (⟨"StoryMachine", "run", "(I)I"⟩)) ∈ tw_tbl := tw_mem (List.mem_append_right _ (List.mem_of_getElem? (i := 485) (by decide +kernel))) rfl
theorem mw_486 : (Cond.selects "StoryMachine" (⟨"StoryMachine", "run", "(I)I"⟩) (⟨"StoryMachine", "run", "(I)I"⟩)) ∈ tw_tbl := tw_mem (List.mem_append_right _ (List.mem_of_getElem? (i := 486) (by decide +kernel))) rfl
theorem mw_1011 : (Cond.methodLink "StoryMachineLaw" 85 (⟨"StoryMachineLaw", "output", "(LStoryMachine;I[J)I"⟩)) ∈ tw_tbl := tw_mem (List.mem_append_right _ (List.mem_of_getElem? (i := 1011) (by decide +kernel))) rfl
theorem mw_1012 : (Cond.static (⟨"StoryMachineLaw", "output", "(LStoryMachine;I[J)I"⟩)) ∈ tw_tbl := tw_mem (List.mem_append_right _ (List.mem_of_getElem? (i := 1012) (by decide +kernel))) rfl
theorem mw_1013 : (Cond.codeWith (⟨"StoryMachineLaw", "output", "(LStoryMachine;I[J)I"⟩) method_8_code 4 (some .int) [(0, 9, 12, 34)]) ∈ tw_tbl := tw_mem (List.mem_append_right _ (List.mem_of_getElem? (i := 1013) (by decide +kernel))) rfl
theorem mw_1014 : (Cond.classLink "StoryMachineLaw" 34 "java/lang/IndexOutOfBoundsException") ∈ tw_tbl := tw_mem (List.mem_append_right _ (List.mem_of_getElem? (i := 1014) (by decide +kernel))) rfl
theorem mw_1015 : (Cond.methodLink "StoryMachineLaw" 31 (⟨"StoryMachine", "output", "(I)I"⟩)) ∈ tw_tbl := tw_mem (List.mem_append_right _ (List.mem_of_getElem? (i := 1015) (by decide +kernel))) rfl
theorem mw_1016 : (Cond.instanceMethod (⟨"StoryMachine", "output", "(I)I"⟩)) ∈ tw_tbl := tw_mem (List.mem_append_right _ (List.mem_of_getElem? (i := 1016) (by decide +kernel))) rfl
theorem mw_1017 : (Cond.selects "StoryMachine" (⟨"StoryMachine", "output", "(I)I"⟩) (⟨"StoryMachine", "output", "(I)I"⟩)) ∈ tw_tbl := tw_mem (List.mem_append_right _ (List.mem_of_getElem? (i := 1017) (by decide +kernel))) rfl
theorem mw_1038 : (Cond.methodLink "StoryMachineLaw" 88 (⟨"StoryMachineLaw", "stack", "(LStoryMachine;I[J)I"⟩)) ∈ tw_tbl := tw_mem (List.mem_append_right _ (List.mem_of_getElem? (i := 1038) (by decide +kernel))) rfl
theorem mw_1039 : (Cond.static (⟨"StoryMachineLaw", "stack", "(LStoryMachine;I[J)I"⟩)) ∈ tw_tbl := tw_mem (List.mem_append_right _ (List.mem_of_getElem? (i := 1039) (by decide +kernel))) rfl
theorem mw_1040 : (Cond.codeWith (⟨"StoryMachineLaw", "stack", "(LStoryMachine;I[J)I"⟩) method_9_code 4 (some .int) [(0, 9, 12, 34)]) ∈ tw_tbl := tw_mem (List.mem_append_right _ (List.mem_of_getElem? (i := 1040) (by decide +kernel))) rfl
theorem mw_1041 : (Cond.methodLink "StoryMachineLaw" 36 (⟨"StoryMachine", "stack", "(I)I"⟩)) ∈ tw_tbl := tw_mem (List.mem_append_right _ (List.mem_of_getElem? (i := 1041) (by decide +kernel))) rfl
theorem mw_1042 : (Cond.instanceMethod (⟨"StoryMachine", "stack", "(I)I"⟩)) ∈ tw_tbl := tw_mem (List.mem_append_right _ (List.mem_of_getElem? (i := 1042) (by decide +kernel))) rfl
theorem mw_1043 : (Cond.selects "StoryMachine" (⟨"StoryMachine", "stack", "(I)I"⟩) (⟨"StoryMachine", "stack", "(I)I"⟩)) ∈ tw_tbl := tw_mem (List.mem_append_right _ (List.mem_of_getElem? (i := 1043) (by decide +kernel))) rfl
theorem mw_1045 : (Cond.methodLink "StoryMachineLaw" 91 (⟨"StoryMachineLaw", "local", "(LStoryMachine;I[J)I"⟩)) ∈ tw_tbl := tw_mem (List.mem_append_right _ (List.mem_of_getElem? (i := 1045) (by decide +kernel))) rfl
theorem mw_1046 : (Cond.static (⟨"StoryMachineLaw", "local", "(LStoryMachine;I[J)I"⟩)) ∈ tw_tbl := tw_mem (List.mem_append_right _ (List.mem_of_getElem? (i := 1046) (by decide +kernel))) rfl
theorem mw_1047 : (Cond.codeWith (⟨"StoryMachineLaw", "local", "(LStoryMachine;I[J)I"⟩) method_10_code 4 (some .int) [(0, 9, 12, 34)]) ∈ tw_tbl := tw_mem (List.mem_append_right _ (List.mem_of_getElem? (i := 1047) (by decide +kernel))) rfl
theorem mw_1048 : (Cond.methodLink "StoryMachineLaw" 39 (⟨"StoryMachine", "local", "(I)I"⟩)) ∈ tw_tbl := tw_mem (List.mem_append_right _ (List.mem_of_getElem? (i := 1048) (by decide +kernel))) rfl
theorem mw_1049 : (Cond.instanceMethod (⟨"StoryMachine", "local", "(I)I"⟩)) ∈ tw_tbl := tw_mem (List.mem_append_right _ (List.mem_of_getElem? (i := 1049) (by decide +kernel))) rfl
theorem mw_1050 : (Cond.selects "StoryMachine" (⟨"StoryMachine", "local", "(I)I"⟩) (⟨"StoryMachine", "local", "(I)I"⟩)) ∈ tw_tbl := tw_mem (List.mem_append_right _ (List.mem_of_getElem? (i := 1050) (by decide +kernel))) rfl
theorem mw_1057 : (Cond.classLink "StoryMachineLaw" 43 "StoryMachineModel") ∈ tw_tbl := tw_mem (List.mem_append_right _ (List.mem_of_getElem? (i := 1057) (by decide +kernel))) rfl
theorem mw_1058 : (Cond.instantiable "StoryMachineModel" 51) ∈ tw_tbl := tw_mem (List.mem_append_right _ (List.mem_of_getElem? (i := 1058) (by decide +kernel))) rfl
theorem mw_1059 : (Cond.methodLink "StoryMachineLaw" 45 (⟨"StoryMachineModel", "<init>", "()V"⟩)) ∈ tw_tbl := tw_mem (List.mem_append_right _ (List.mem_of_getElem? (i := 1059) (by decide +kernel))) rfl
theorem mw_1060 : (Cond.instanceMethod (⟨"StoryMachineModel", "<init>", "()V"⟩)) ∈ tw_tbl := tw_mem (List.mem_append_right _ (List.mem_of_getElem? (i := 1060) (by decide +kernel))) rfl
theorem mw_1217 : (Cond.methodLink "StoryMachineLaw" 54 (⟨"StoryMachineModel", "thrown", "()I"⟩)) ∈ tw_tbl := tw_mem (List.mem_append_right _ (List.mem_of_getElem? (i := 1217) (by decide +kernel))) rfl
theorem mw_1218 : (Cond.instanceMethod (⟨"StoryMachineModel", "thrown", "()I"⟩)) ∈ tw_tbl := tw_mem (List.mem_append_right _ (List.mem_of_getElem? (i := 1218) (by decide +kernel))) rfl
theorem mw_1219 : (Cond.selects "StoryMachineModel" (⟨"StoryMachineModel", "thrown", "()I"⟩) (⟨"StoryMachineModel", "thrown", "()I"⟩)) ∈ tw_tbl := tw_mem (List.mem_append_right _ (List.mem_of_getElem? (i := 1219) (by decide +kernel))) rfl
theorem mw_1221 : (Cond.methodLink "StoryMachineLaw" 76 (⟨"StoryMachineModel", "run", "(I)I"⟩)) ∈ tw_tbl := tw_mem (List.mem_append_right _ (List.mem_of_getElem? (i := 1221) (by decide +kernel))) rfl
theorem mw_1222 : (Cond.instanceMethod (⟨"StoryMachineModel", "run", "(I)I"⟩)) ∈ tw_tbl := tw_mem (List.mem_append_right _ (List.mem_of_getElem? (i := 1222) (by decide +kernel))) rfl
theorem mw_1223 : (Cond.selects "StoryMachineModel" (⟨"StoryMachineModel", "run", "(I)I"⟩) (⟨"StoryMachineModel", "run", "(I)I"⟩)) ∈ tw_tbl := tw_mem (List.mem_append_right _ (List.mem_of_getElem? (i := 1223) (by decide +kernel))) rfl
theorem mw_1497 : (Cond.methodLink "StoryMachineLaw" 53 (⟨"StoryMachineModel", "poke", "(IJI)V"⟩)) ∈ tw_tbl := tw_mem (List.mem_append_right _ (List.mem_of_getElem? (i := 1497) (by decide +kernel))) rfl
theorem mw_1498 : (Cond.instanceMethod (⟨"StoryMachineModel", "poke", "(IJI)V"⟩)) ∈ tw_tbl := tw_mem (List.mem_append_right _ (List.mem_of_getElem? (i := 1498) (by decide +kernel))) rfl
theorem mw_1499 : (Cond.selects "StoryMachineModel" (⟨"StoryMachineModel", "poke", "(IJI)V"⟩) (⟨"StoryMachineModel", "poke", "(IJI)V"⟩)) ∈ tw_tbl := tw_mem (List.mem_append_right _ (List.mem_of_getElem? (i := 1499) (by decide +kernel))) rfl
theorem mw_1500 : (Cond.code (⟨"StoryMachineModel", "poke", "(IJI)V"⟩) prog_13_method_74_code 6 none) ∈ tw_tbl := tw_mem (List.mem_append_right _ (List.mem_of_getElem? (i := 1500) (by decide +kernel))) rfl
theorem mw_1501 : (Cond.methodLink "StoryMachineModel" 386 (⟨"StoryMachineModel", "isFew", "(I)Z"⟩)) ∈ tw_tbl := tw_mem (List.mem_append_right _ (List.mem_of_getElem? (i := 1501) (by decide +kernel))) rfl
theorem mw_1502 : (Cond.static (⟨"StoryMachineModel", "isFew", "(I)Z"⟩)) ∈ tw_tbl := tw_mem (List.mem_append_right _ (List.mem_of_getElem? (i := 1502) (by decide +kernel))) rfl
theorem mw_1503 : (Cond.code (⟨"StoryMachineModel", "isFew", "(I)Z"⟩) prog_13_method_73_code 1 (some .boolean)) ∈ tw_tbl := tw_mem (List.mem_append_right _ (List.mem_of_getElem? (i := 1503) (by decide +kernel))) rfl
theorem mw_1504 : (Cond.constantLong "StoryMachineModel" 389 (255 : Int64)) ∈ tw_tbl := tw_mem (List.mem_append_right _ (List.mem_of_getElem? (i := 1504) (by decide +kernel))) rfl
theorem mw_1505 : (Cond.methodLink "StoryMachineLaw" 61 (⟨"StoryMachineModel", "peek", "(I)I"⟩)) ∈ tw_tbl := tw_mem (List.mem_append_right _ (List.mem_of_getElem? (i := 1505) (by decide +kernel))) rfl
theorem mw_1506 : (Cond.instanceMethod (⟨"StoryMachineModel", "peek", "(I)I"⟩)) ∈ tw_tbl := tw_mem (List.mem_append_right _ (List.mem_of_getElem? (i := 1506) (by decide +kernel))) rfl
theorem mw_1507 : (Cond.selects "StoryMachineModel" (⟨"StoryMachineModel", "peek", "(I)I"⟩) (⟨"StoryMachineModel", "peek", "(I)I"⟩)) ∈ tw_tbl := tw_mem (List.mem_append_right _ (List.mem_of_getElem? (i := 1507) (by decide +kernel))) rfl
theorem mw_1509 : (Cond.methodLink "StoryMachineLaw" 65 (⟨"StoryMachineModel", "begin", "()V"⟩)) ∈ tw_tbl := tw_mem (List.mem_append_right _ (List.mem_of_getElem? (i := 1509) (by decide +kernel))) rfl
theorem mw_1510 : (Cond.instanceMethod (⟨"StoryMachineModel", "begin", "()V"⟩)) ∈ tw_tbl := tw_mem (List.mem_append_right _ (List.mem_of_getElem? (i := 1510) (by decide +kernel))) rfl
theorem mw_1511 : (Cond.selects "StoryMachineModel" (⟨"StoryMachineModel", "begin", "()V"⟩) (⟨"StoryMachineModel", "begin", "()V"⟩)) ∈ tw_tbl := tw_mem (List.mem_append_right _ (List.mem_of_getElem? (i := 1511) (by decide +kernel))) rfl
theorem mw_1513 : (Cond.methodLink "StoryMachineLaw" 69 (⟨"StoryMachineModel", "type", "(JI)V"⟩)) ∈ tw_tbl := tw_mem (List.mem_append_right _ (List.mem_of_getElem? (i := 1513) (by decide +kernel))) rfl
theorem mw_1514 : (Cond.instanceMethod (⟨"StoryMachineModel", "type", "(JI)V"⟩)) ∈ tw_tbl := tw_mem (List.mem_append_right _ (List.mem_of_getElem? (i := 1514) (by decide +kernel))) rfl
theorem mw_1515 : (Cond.selects "StoryMachineModel" (⟨"StoryMachineModel", "type", "(JI)V"⟩) (⟨"StoryMachineModel", "type", "(JI)V"⟩)) ∈ tw_tbl := tw_mem (List.mem_append_right _ (List.mem_of_getElem? (i := 1515) (by decide +kernel))) rfl
theorem mw_1516 : (Cond.code (⟨"StoryMachineModel", "type", "(JI)V"⟩) prog_13_method_77_code 8 none) ∈ tw_tbl := tw_mem (List.mem_append_right _ (List.mem_of_getElem? (i := 1516) (by decide +kernel))) rfl
theorem mw_1517 : (Cond.constantLong "StoryMachineModel" 394 (32 : Int64)) ∈ tw_tbl := tw_mem (List.mem_append_right _ (List.mem_of_getElem? (i := 1517) (by decide +kernel))) rfl
theorem mw_1518 : (Cond.constantLong "StoryMachineModel" 396 (126 : Int64)) ∈ tw_tbl := tw_mem (List.mem_append_right _ (List.mem_of_getElem? (i := 1518) (by decide +kernel))) rfl
theorem mw_1519 : (Cond.methodLink "StoryMachineLaw" 73 (⟨"StoryMachineModel", "enter", "()V"⟩)) ∈ tw_tbl := tw_mem (List.mem_append_right _ (List.mem_of_getElem? (i := 1519) (by decide +kernel))) rfl
theorem mw_1520 : (Cond.instanceMethod (⟨"StoryMachineModel", "enter", "()V"⟩)) ∈ tw_tbl := tw_mem (List.mem_append_right _ (List.mem_of_getElem? (i := 1520) (by decide +kernel))) rfl
theorem mw_1521 : (Cond.selects "StoryMachineModel" (⟨"StoryMachineModel", "enter", "()V"⟩) (⟨"StoryMachineModel", "enter", "()V"⟩)) ∈ tw_tbl := tw_mem (List.mem_append_right _ (List.mem_of_getElem? (i := 1521) (by decide +kernel))) rfl
theorem mw_1523 : (Cond.methodLink "StoryMachineLaw" 80 (⟨"StoryMachineModel", "steps", "()I"⟩)) ∈ tw_tbl := tw_mem (List.mem_append_right _ (List.mem_of_getElem? (i := 1523) (by decide +kernel))) rfl
theorem mw_1524 : (Cond.instanceMethod (⟨"StoryMachineModel", "steps", "()I"⟩)) ∈ tw_tbl := tw_mem (List.mem_append_right _ (List.mem_of_getElem? (i := 1524) (by decide +kernel))) rfl
theorem mw_1525 : (Cond.selects "StoryMachineModel" (⟨"StoryMachineModel", "steps", "()I"⟩) (⟨"StoryMachineModel", "steps", "()I"⟩)) ∈ tw_tbl := tw_mem (List.mem_append_right _ (List.mem_of_getElem? (i := 1525) (by decide +kernel))) rfl
theorem mw_1527 : (Cond.methodLink "StoryMachineLaw" 84 (⟨"StoryMachineModel", "place", "()I"⟩)) ∈ tw_tbl := tw_mem (List.mem_append_right _ (List.mem_of_getElem? (i := 1527) (by decide +kernel))) rfl
theorem mw_1528 : (Cond.instanceMethod (⟨"StoryMachineModel", "place", "()I"⟩)) ∈ tw_tbl := tw_mem (List.mem_append_right _ (List.mem_of_getElem? (i := 1528) (by decide +kernel))) rfl
theorem mw_1529 : (Cond.selects "StoryMachineModel" (⟨"StoryMachineModel", "place", "()I"⟩) (⟨"StoryMachineModel", "place", "()I"⟩)) ∈ tw_tbl := tw_mem (List.mem_append_right _ (List.mem_of_getElem? (i := 1529) (by decide +kernel))) rfl
theorem mw_1531 : (Cond.methodLink "StoryMachineLaw" 87 (⟨"StoryMachineModel", "output", "(I)I"⟩)) ∈ tw_tbl := tw_mem (List.mem_append_right _ (List.mem_of_getElem? (i := 1531) (by decide +kernel))) rfl
theorem mw_1532 : (Cond.instanceMethod (⟨"StoryMachineModel", "output", "(I)I"⟩)) ∈ tw_tbl := tw_mem (List.mem_append_right _ (List.mem_of_getElem? (i := 1532) (by decide +kernel))) rfl
theorem mw_1533 : (Cond.selects "StoryMachineModel" (⟨"StoryMachineModel", "output", "(I)I"⟩) (⟨"StoryMachineModel", "output", "(I)I"⟩)) ∈ tw_tbl := tw_mem (List.mem_append_right _ (List.mem_of_getElem? (i := 1533) (by decide +kernel))) rfl
theorem mw_1535 : (Cond.methodLink "StoryMachineLaw" 90 (⟨"StoryMachineModel", "stack", "(I)I"⟩)) ∈ tw_tbl := tw_mem (List.mem_append_right _ (List.mem_of_getElem? (i := 1535) (by decide +kernel))) rfl
theorem mw_1536 : (Cond.instanceMethod (⟨"StoryMachineModel", "stack", "(I)I"⟩)) ∈ tw_tbl := tw_mem (List.mem_append_right _ (List.mem_of_getElem? (i := 1536) (by decide +kernel))) rfl
theorem mw_1537 : (Cond.selects "StoryMachineModel" (⟨"StoryMachineModel", "stack", "(I)I"⟩) (⟨"StoryMachineModel", "stack", "(I)I"⟩)) ∈ tw_tbl := tw_mem (List.mem_append_right _ (List.mem_of_getElem? (i := 1537) (by decide +kernel))) rfl
theorem mw_1539 : (Cond.methodLink "StoryMachineLaw" 93 (⟨"StoryMachineModel", "local", "(I)I"⟩)) ∈ tw_tbl := tw_mem (List.mem_append_right _ (List.mem_of_getElem? (i := 1539) (by decide +kernel))) rfl
theorem mw_1540 : (Cond.instanceMethod (⟨"StoryMachineModel", "local", "(I)I"⟩)) ∈ tw_tbl := tw_mem (List.mem_append_right _ (List.mem_of_getElem? (i := 1540) (by decide +kernel))) rfl
theorem mw_1541 : (Cond.selects "StoryMachineModel" (⟨"StoryMachineModel", "local", "(I)I"⟩) (⟨"StoryMachineModel", "local", "(I)I"⟩)) ∈ tw_tbl := tw_mem (List.mem_append_right _ (List.mem_of_getElem? (i := 1541) (by decide +kernel))) rfl
theorem mw_1543 : (Cond.methodLink "StoryMachineLaw" 97 (⟨"StoryMachineModel", "routines", "()I"⟩)) ∈ tw_tbl := tw_mem (List.mem_append_right _ (List.mem_of_getElem? (i := 1543) (by decide +kernel))) rfl
theorem mw_1544 : (Cond.instanceMethod (⟨"StoryMachineModel", "routines", "()I"⟩)) ∈ tw_tbl := tw_mem (List.mem_append_right _ (List.mem_of_getElem? (i := 1544) (by decide +kernel))) rfl
theorem mw_1545 : (Cond.selects "StoryMachineModel" (⟨"StoryMachineModel", "routines", "()I"⟩) (⟨"StoryMachineModel", "routines", "()I"⟩)) ∈ tw_tbl := tw_mem (List.mem_append_right _ (List.mem_of_getElem? (i := 1545) (by decide +kernel))) rfl
theorem mw_1547 : (Cond.constantLong "StoryMachineLaw" 46 (4294967295 : Int64)) ∈ tw_tbl := tw_mem (List.mem_append_right _ (List.mem_of_getElem? (i := 1547) (by decide +kernel))) rfl
theorem mw_1548 : (Cond.arrayClass .long) ∈ tw_tbl := tw_mem (List.mem_append_right _ (List.mem_of_getElem? (i := 1548) (by decide +kernel))) rfl
theorem d_La_poke_0 : decode method_3_code 0 = .ok (.aload_n 0, 1) := by decide +kernel
theorem d_La_poke_1 : decode method_3_code 1 = .ok (.iload_n 1, 1) := by decide +kernel
theorem d_La_poke_2 : decode method_3_code 2 = .ok (.lload_n 2, 1) := by decide +kernel
theorem d_La_poke_3 : decode method_3_code 3 = .ok (.iload 4, 2) := by decide +kernel
theorem d_La_poke_5 : decode method_3_code 5 = .ok (.invokevirtual 7, 3) := by decide +kernel
theorem d_La_poke_8 : decode method_3_code 8 = .ok (.goto 7, 3) := by decide +kernel
theorem d_La_poke_11 : decode method_3_code 11 = .ok (.astore 5, 2) := by decide +kernel
theorem d_La_poke_13 : decode method_3_code 13 = .ok (.iconst 1, 1) := by decide +kernel
theorem d_La_poke_14 : decode method_3_code 14 = .ok (.ireturn, 1) := by decide +kernel
theorem d_La_poke_15 : decode method_3_code 15 = .ok (.iconst 0, 1) := by decide +kernel
theorem d_La_poke_16 : decode method_3_code 16 = .ok (.ireturn, 1) := by decide +kernel
theorem d_La_peek_0 : decode method_4_code 0 = .ok (.aload_n 2, 1) := by decide +kernel
theorem d_La_peek_1 : decode method_4_code 1 = .ok (.iconst 0, 1) := by decide +kernel
theorem d_La_peek_2 : decode method_4_code 2 = .ok (.aload_n 0, 1) := by decide +kernel
theorem d_La_peek_3 : decode method_4_code 3 = .ok (.iload_n 1, 1) := by decide +kernel
theorem d_La_peek_4 : decode method_4_code 4 = .ok (.invokevirtual 15, 3) := by decide +kernel
theorem d_La_peek_7 : decode method_4_code 7 = .ok (.i2l, 1) := by decide +kernel
theorem d_La_peek_8 : decode method_4_code 8 = .ok (.lastore, 1) := by decide +kernel
theorem d_La_peek_9 : decode method_4_code 9 = .ok (.goto 6, 3) := by decide +kernel
theorem d_La_peek_12 : decode method_4_code 12 = .ok (.astore_n 3, 1) := by decide +kernel
theorem d_La_peek_13 : decode method_4_code 13 = .ok (.iconst 1, 1) := by decide +kernel
theorem d_La_peek_14 : decode method_4_code 14 = .ok (.ireturn, 1) := by decide +kernel
theorem d_La_peek_15 : decode method_4_code 15 = .ok (.iconst 0, 1) := by decide +kernel
theorem d_La_peek_16 : decode method_4_code 16 = .ok (.ireturn, 1) := by decide +kernel
theorem d_La_run_0 : decode method_7_code 0 = .ok (.aload_n 2, 1) := by decide +kernel
theorem d_La_run_1 : decode method_7_code 1 = .ok (.iconst 0, 1) := by decide +kernel
theorem d_La_run_2 : decode method_7_code 2 = .ok (.aload_n 0, 1) := by decide +kernel
theorem d_La_run_3 : decode method_7_code 3 = .ok (.iload_n 1, 1) := by decide +kernel
theorem d_La_run_4 : decode method_7_code 4 = .ok (.invokevirtual 28, 3) := by decide +kernel
theorem d_La_run_7 : decode method_7_code 7 = .ok (.i2l, 1) := by decide +kernel
theorem d_La_run_8 : decode method_7_code 8 = .ok (.lastore, 1) := by decide +kernel
theorem d_La_run_9 : decode method_7_code 9 = .ok (.goto 9, 3) := by decide +kernel
theorem d_La_run_12 : decode method_7_code 12 = .ok (.astore_n 3, 1) := by decide +kernel
theorem d_La_run_13 : decode method_7_code 13 = .ok (.iconst 1, 1) := by decide +kernel
theorem d_La_run_14 : decode method_7_code 14 = .ok (.ireturn, 1) := by decide +kernel
theorem d_La_run_15 : decode method_7_code 15 = .ok (.astore_n 3, 1) := by decide +kernel
theorem d_La_run_16 : decode method_7_code 16 = .ok (.iconst 2, 1) := by decide +kernel
theorem d_La_run_17 : decode method_7_code 17 = .ok (.ireturn, 1) := by decide +kernel
theorem d_La_run_18 : decode method_7_code 18 = .ok (.iconst 0, 1) := by decide +kernel
theorem d_La_run_19 : decode method_7_code 19 = .ok (.ireturn, 1) := by decide +kernel
theorem d_La_output_0 : decode method_8_code 0 = .ok (.aload_n 2, 1) := by decide +kernel
theorem d_La_output_1 : decode method_8_code 1 = .ok (.iconst 0, 1) := by decide +kernel
theorem d_La_output_2 : decode method_8_code 2 = .ok (.aload_n 0, 1) := by decide +kernel
theorem d_La_output_3 : decode method_8_code 3 = .ok (.iload_n 1, 1) := by decide +kernel
theorem d_La_output_4 : decode method_8_code 4 = .ok (.invokevirtual 31, 3) := by decide +kernel
theorem d_La_output_7 : decode method_8_code 7 = .ok (.i2l, 1) := by decide +kernel
theorem d_La_output_8 : decode method_8_code 8 = .ok (.lastore, 1) := by decide +kernel
theorem d_La_output_9 : decode method_8_code 9 = .ok (.goto 6, 3) := by decide +kernel
theorem d_La_output_12 : decode method_8_code 12 = .ok (.astore_n 3, 1) := by decide +kernel
theorem d_La_output_13 : decode method_8_code 13 = .ok (.iconst 1, 1) := by decide +kernel
theorem d_La_output_14 : decode method_8_code 14 = .ok (.ireturn, 1) := by decide +kernel
theorem d_La_output_15 : decode method_8_code 15 = .ok (.iconst 0, 1) := by decide +kernel
theorem d_La_output_16 : decode method_8_code 16 = .ok (.ireturn, 1) := by decide +kernel
theorem d_La_stack_0 : decode method_9_code 0 = .ok (.aload_n 2, 1) := by decide +kernel
theorem d_La_stack_1 : decode method_9_code 1 = .ok (.iconst 0, 1) := by decide +kernel
theorem d_La_stack_2 : decode method_9_code 2 = .ok (.aload_n 0, 1) := by decide +kernel
theorem d_La_stack_3 : decode method_9_code 3 = .ok (.iload_n 1, 1) := by decide +kernel
theorem d_La_stack_4 : decode method_9_code 4 = .ok (.invokevirtual 36, 3) := by decide +kernel
theorem d_La_stack_7 : decode method_9_code 7 = .ok (.i2l, 1) := by decide +kernel
theorem d_La_stack_8 : decode method_9_code 8 = .ok (.lastore, 1) := by decide +kernel
theorem d_La_stack_9 : decode method_9_code 9 = .ok (.goto 6, 3) := by decide +kernel
theorem d_La_stack_12 : decode method_9_code 12 = .ok (.astore_n 3, 1) := by decide +kernel
theorem d_La_stack_13 : decode method_9_code 13 = .ok (.iconst 1, 1) := by decide +kernel
theorem d_La_stack_14 : decode method_9_code 14 = .ok (.ireturn, 1) := by decide +kernel
theorem d_La_stack_15 : decode method_9_code 15 = .ok (.iconst 0, 1) := by decide +kernel
theorem d_La_stack_16 : decode method_9_code 16 = .ok (.ireturn, 1) := by decide +kernel
theorem d_La_local_0 : decode method_10_code 0 = .ok (.aload_n 2, 1) := by decide +kernel
theorem d_La_local_1 : decode method_10_code 1 = .ok (.iconst 0, 1) := by decide +kernel
theorem d_La_local_2 : decode method_10_code 2 = .ok (.aload_n 0, 1) := by decide +kernel
theorem d_La_local_3 : decode method_10_code 3 = .ok (.iload_n 1, 1) := by decide +kernel
theorem d_La_local_4 : decode method_10_code 4 = .ok (.invokevirtual 39, 3) := by decide +kernel
theorem d_La_local_7 : decode method_10_code 7 = .ok (.i2l, 1) := by decide +kernel
theorem d_La_local_8 : decode method_10_code 8 = .ok (.lastore, 1) := by decide +kernel
theorem d_La_local_9 : decode method_10_code 9 = .ok (.goto 6, 3) := by decide +kernel
theorem d_La_local_12 : decode method_10_code 12 = .ok (.astore_n 3, 1) := by decide +kernel
theorem d_La_local_13 : decode method_10_code 13 = .ok (.iconst 1, 1) := by decide +kernel
theorem d_La_local_14 : decode method_10_code 14 = .ok (.ireturn, 1) := by decide +kernel
theorem d_La_local_15 : decode method_10_code 15 = .ok (.iconst 0, 1) := by decide +kernel
theorem d_La_local_16 : decode method_10_code 16 = .ok (.ireturn, 1) := by decide +kernel
theorem d_La_begin_0 : decode method_5_code 0 = .ok (.aload_n 0, 1) := by decide +kernel
theorem d_La_begin_1 : decode method_5_code 1 = .ok (.invokevirtual 19, 3) := by decide +kernel
theorem d_La_begin_4 : decode method_5_code 4 = .ok (.goto 6, 3) := by decide +kernel
theorem d_La_begin_7 : decode method_5_code 7 = .ok (.astore_n 1, 1) := by decide +kernel
theorem d_La_begin_8 : decode method_5_code 8 = .ok (.iconst 1, 1) := by decide +kernel
theorem d_La_begin_9 : decode method_5_code 9 = .ok (.ireturn, 1) := by decide +kernel
theorem d_La_begin_10 : decode method_5_code 10 = .ok (.iconst 0, 1) := by decide +kernel
theorem d_La_begin_11 : decode method_5_code 11 = .ok (.ireturn, 1) := by decide +kernel
theorem d_Mo_isFew_0 : decode prog_13_method_73_code 0 = .ok (.iload_n 0, 1) := by decide +kernel
theorem d_Mo_isFew_1 : decode prog_13_method_73_code 1 = .ok (.iconst 1, 1) := by decide +kernel
theorem d_Mo_isFew_2 : decode prog_13_method_73_code 2 = .ok (.if_icmp .lt 13, 3) := by decide +kernel
theorem d_Mo_isFew_5 : decode prog_13_method_73_code 5 = .ok (.iload_n 0, 1) := by decide +kernel
theorem d_Mo_isFew_6 : decode prog_13_method_73_code 6 = .ok (.bipush 8, 2) := by decide +kernel
theorem d_Mo_isFew_8 : decode prog_13_method_73_code 8 = .ok (.if_icmp .gt 7, 3) := by decide +kernel
theorem d_Mo_isFew_11 : decode prog_13_method_73_code 11 = .ok (.iconst 1, 1) := by decide +kernel
theorem d_Mo_isFew_12 : decode prog_13_method_73_code 12 = .ok (.goto 4, 3) := by decide +kernel
theorem d_Mo_isFew_15 : decode prog_13_method_73_code 15 = .ok (.iconst 0, 1) := by decide +kernel
theorem d_Mo_isFew_16 : decode prog_13_method_73_code 16 = .ok (.ireturn, 1) := by decide +kernel
theorem d_Mo_poke_0 : decode prog_13_method_74_code 0 = .ok (.aload_n 0, 1) := by decide +kernel
theorem d_Mo_poke_1 : decode prog_13_method_74_code 1 = .ok (.iload 4, 2) := by decide +kernel
theorem d_Mo_poke_3 : decode prog_13_method_74_code 3 = .ok (.invokestatic 386, 3) := by decide +kernel
theorem d_Mo_poke_6 : decode prog_13_method_74_code 6 = .ok (.ifCond .eq 17, 3) := by decide +kernel
theorem d_Mo_poke_9 : decode prog_13_method_74_code 9 = .ok (.iload_n 1, 1) := by decide +kernel
theorem d_Mo_poke_10 : decode prog_13_method_74_code 10 = .ok (.ifCond .lt 13, 3) := by decide +kernel
theorem d_Mo_poke_13 : decode prog_13_method_74_code 13 = .ok (.iload_n 1, 1) := by decide +kernel
theorem d_Mo_poke_14 : decode prog_13_method_74_code 14 = .ok (.sipush 512, 3) := by decide +kernel
theorem d_Mo_poke_17 : decode prog_13_method_74_code 17 = .ok (.iload 4, 2) := by decide +kernel
theorem d_Mo_poke_19 : decode prog_13_method_74_code 19 = .ok (.isub, 1) := by decide +kernel
theorem d_Mo_poke_20 : decode prog_13_method_74_code 20 = .ok (.if_icmp .le 7, 3) := by decide +kernel
theorem d_Mo_poke_23 : decode prog_13_method_74_code 23 = .ok (.iconst 1, 1) := by decide +kernel
theorem d_Mo_poke_24 : decode prog_13_method_74_code 24 = .ok (.goto 4, 3) := by decide +kernel
theorem d_Mo_poke_27 : decode prog_13_method_74_code 27 = .ok (.iconst 0, 1) := by decide +kernel
theorem d_Mo_poke_28 : decode prog_13_method_74_code 28 = .ok (.putfield 73, 3) := by decide +kernel
theorem d_Mo_poke_31 : decode prog_13_method_74_code 31 = .ok (.iconst 0, 1) := by decide +kernel
theorem d_Mo_poke_32 : decode prog_13_method_74_code 32 = .ok (.istore 5, 2) := by decide +kernel
theorem d_Mo_poke_34 : decode prog_13_method_74_code 34 = .ok (.iload 5, 2) := by decide +kernel
theorem d_Mo_poke_36 : decode prog_13_method_74_code 36 = .ok (.iload 4, 2) := by decide +kernel
theorem d_Mo_poke_38 : decode prog_13_method_74_code 38 = .ok (.if_icmp .ge 42, 3) := by decide +kernel
theorem d_Mo_poke_41 : decode prog_13_method_74_code 41 = .ok (.aload_n 0, 1) := by decide +kernel
theorem d_Mo_poke_42 : decode prog_13_method_74_code 42 = .ok (.getfield 73, 3) := by decide +kernel
theorem d_Mo_poke_45 : decode prog_13_method_74_code 45 = .ok (.ifCond .ne 35, 3) := by decide +kernel
theorem d_Mo_poke_48 : decode prog_13_method_74_code 48 = .ok (.aload_n 0, 1) := by decide +kernel
theorem d_Mo_poke_49 : decode prog_13_method_74_code 49 = .ok (.getfield 7, 3) := by decide +kernel
theorem d_Mo_poke_52 : decode prog_13_method_74_code 52 = .ok (.iload_n 1, 1) := by decide +kernel
theorem d_Mo_poke_53 : decode prog_13_method_74_code 53 = .ok (.iload 5, 2) := by decide +kernel
theorem d_Mo_poke_55 : decode prog_13_method_74_code 55 = .ok (.iadd, 1) := by decide +kernel
theorem d_Mo_poke_56 : decode prog_13_method_74_code 56 = .ok (.lload_n 2, 1) := by decide +kernel
theorem d_Mo_poke_57 : decode prog_13_method_74_code 57 = .ok (.bipush 8, 2) := by decide +kernel
theorem d_Mo_poke_59 : decode prog_13_method_74_code 59 = .ok (.iload 4, 2) := by decide +kernel
theorem d_Mo_poke_61 : decode prog_13_method_74_code 61 = .ok (.iconst 1, 1) := by decide +kernel
theorem d_Mo_poke_62 : decode prog_13_method_74_code 62 = .ok (.isub, 1) := by decide +kernel
theorem d_Mo_poke_63 : decode prog_13_method_74_code 63 = .ok (.iload 5, 2) := by decide +kernel
theorem d_Mo_poke_65 : decode prog_13_method_74_code 65 = .ok (.isub, 1) := by decide +kernel
theorem d_Mo_poke_66 : decode prog_13_method_74_code 66 = .ok (.imul, 1) := by decide +kernel
theorem d_Mo_poke_67 : decode prog_13_method_74_code 67 = .ok (.lshr, 1) := by decide +kernel
theorem d_Mo_poke_68 : decode prog_13_method_74_code 68 = .ok (.ldc2_w 389, 3) := by decide +kernel
theorem d_Mo_poke_71 : decode prog_13_method_74_code 71 = .ok (.land, 1) := by decide +kernel
theorem d_Mo_poke_72 : decode prog_13_method_74_code 72 = .ok (.l2i, 1) := by decide +kernel
theorem d_Mo_poke_73 : decode prog_13_method_74_code 73 = .ok (.iastore, 1) := by decide +kernel
theorem d_Mo_poke_74 : decode prog_13_method_74_code 74 = .ok (.iinc 5 1, 3) := by decide +kernel
theorem d_Mo_poke_77 : decode prog_13_method_74_code 77 = .ok (.goto (-43), 3) := by decide +kernel
theorem d_Mo_poke_80 : decode prog_13_method_74_code 80 = .ok (.return_, 1) := by decide +kernel
theorem d_Li_add_0 : decode prog_6_method_3_code 0 = .ok (.aload_n 0, 1) := by decide +kernel
theorem d_Li_add_1 : decode prog_6_method_3_code 1 = .ok (.getfield 16, 3) := by decide +kernel
theorem d_Li_add_4 : decode prog_6_method_3_code 4 = .ok (.bipush 24, 2) := by decide +kernel
theorem d_Li_add_6 : decode prog_6_method_3_code 6 = .ok (.if_icmp .ge 23, 3) := by decide +kernel
theorem d_Li_add_9 : decode prog_6_method_3_code 9 = .ok (.aload_n 0, 1) := by decide +kernel
theorem d_Li_add_10 : decode prog_6_method_3_code 10 = .ok (.getfield 9, 3) := by decide +kernel
theorem d_Li_add_13 : decode prog_6_method_3_code 13 = .ok (.aload_n 0, 1) := by decide +kernel
theorem d_Li_add_14 : decode prog_6_method_3_code 14 = .ok (.getfield 16, 3) := by decide +kernel
theorem d_Li_add_17 : decode prog_6_method_3_code 17 = .ok (.iload_n 1, 1) := by decide +kernel
theorem d_Li_add_18 : decode prog_6_method_3_code 18 = .ok (.iastore, 1) := by decide +kernel
theorem d_Li_add_19 : decode prog_6_method_3_code 19 = .ok (.aload_n 0, 1) := by decide +kernel
theorem d_Li_add_20 : decode prog_6_method_3_code 20 = .ok (.dup, 1) := by decide +kernel
theorem d_Li_add_21 : decode prog_6_method_3_code 21 = .ok (.getfield 16, 3) := by decide +kernel
theorem d_Li_add_24 : decode prog_6_method_3_code 24 = .ok (.iconst 1, 1) := by decide +kernel
theorem d_Li_add_25 : decode prog_6_method_3_code 25 = .ok (.iadd, 1) := by decide +kernel
theorem d_Li_add_26 : decode prog_6_method_3_code 26 = .ok (.putfield 16, 3) := by decide +kernel
theorem d_Li_add_29 : decode prog_6_method_3_code 29 = .ok (.return_, 1) := by decide +kernel
theorem d_SM_type_0 : decode prog_1_method_5_code 0 = .ok (.iload_n 3, 1) := by decide +kernel
theorem d_SM_type_1 : decode prog_1_method_5_code 1 = .ok (.iconst 1, 1) := by decide +kernel
theorem d_SM_type_2 : decode prog_1_method_5_code 2 = .ok (.if_icmp .lt 9, 3) := by decide +kernel
theorem d_SM_type_5 : decode prog_1_method_5_code 5 = .ok (.iload_n 3, 1) := by decide +kernel
theorem d_SM_type_6 : decode prog_1_method_5_code 6 = .ok (.bipush 8, 2) := by decide +kernel
theorem d_SM_type_8 : decode prog_1_method_5_code 8 = .ok (.if_icmp .le 11, 3) := by decide +kernel
theorem d_SM_type_11 : decode prog_1_method_5_code 11 = .ok (.new 48, 3) := by decide +kernel
theorem d_SM_type_14 : decode prog_1_method_5_code 14 = .ok (.dup, 1) := by decide +kernel
theorem d_SM_type_15 : decode prog_1_method_5_code 15 = .ok (.invokespecial 50, 3) := by decide +kernel
theorem d_SM_type_18 : decode prog_1_method_5_code 18 = .ok (.athrow, 1) := by decide +kernel
theorem d_SM_type_19 : decode prog_1_method_5_code 19 = .ok (.iconst 0, 1) := by decide +kernel
theorem d_SM_type_20 : decode prog_1_method_5_code 20 = .ok (.istore 4, 2) := by decide +kernel
theorem d_SM_type_22 : decode prog_1_method_5_code 22 = .ok (.iload 4, 2) := by decide +kernel
theorem d_SM_type_24 : decode prog_1_method_5_code 24 = .ok (.iload_n 3, 1) := by decide +kernel
theorem d_SM_type_25 : decode prog_1_method_5_code 25 = .ok (.if_icmp .ge 40, 3) := by decide +kernel
theorem d_SM_type_28 : decode prog_1_method_5_code 28 = .ok (.lload_n 1, 1) := by decide +kernel
theorem d_SM_type_29 : decode prog_1_method_5_code 29 = .ok (.iload_n 3, 1) := by decide +kernel
theorem d_SM_type_30 : decode prog_1_method_5_code 30 = .ok (.iload 4, 2) := by decide +kernel
theorem d_SM_type_32 : decode prog_1_method_5_code 32 = .ok (.invokestatic 55, 3) := by decide +kernel
theorem d_SM_type_35 : decode prog_1_method_5_code 35 = .ok (.istore 5, 2) := by decide +kernel
theorem d_SM_type_37 : decode prog_1_method_5_code 37 = .ok (.iload 5, 2) := by decide +kernel
theorem d_SM_type_39 : decode prog_1_method_5_code 39 = .ok (.bipush 32, 2) := by decide +kernel
theorem d_SM_type_41 : decode prog_1_method_5_code 41 = .ok (.if_icmp .lt 10, 3) := by decide +kernel
theorem d_SM_type_44 : decode prog_1_method_5_code 44 = .ok (.iload 5, 2) := by decide +kernel
theorem d_SM_type_46 : decode prog_1_method_5_code 46 = .ok (.bipush 126, 2) := by decide +kernel
theorem d_SM_type_48 : decode prog_1_method_5_code 48 = .ok (.if_icmp .le 11, 3) := by decide +kernel
theorem d_SM_type_51 : decode prog_1_method_5_code 51 = .ok (.new 48, 3) := by decide +kernel
theorem d_SM_type_54 : decode prog_1_method_5_code 54 = .ok (.dup, 1) := by decide +kernel
theorem d_SM_type_55 : decode prog_1_method_5_code 55 = .ok (.invokespecial 50, 3) := by decide +kernel
theorem d_SM_type_58 : decode prog_1_method_5_code 58 = .ok (.athrow, 1) := by decide +kernel
theorem d_SM_type_59 : decode prog_1_method_5_code 59 = .ok (.iinc 4 1, 3) := by decide +kernel
theorem d_SM_type_62 : decode prog_1_method_5_code 62 = .ok (.goto (-40), 3) := by decide +kernel
theorem d_SM_type_65 : decode prog_1_method_5_code 65 = .ok (.aload_n 0, 1) := by decide +kernel
theorem d_SM_type_66 : decode prog_1_method_5_code 66 = .ok (.getfield 27, 3) := by decide +kernel
theorem d_SM_type_69 : decode prog_1_method_5_code 69 = .ok (.getfield 70, 3) := by decide +kernel
theorem d_SM_type_72 : decode prog_1_method_5_code 72 = .ok (.iload_n 3, 1) := by decide +kernel
theorem d_SM_type_73 : decode prog_1_method_5_code 73 = .ok (.iadd, 1) := by decide +kernel
theorem d_SM_type_74 : decode prog_1_method_5_code 74 = .ok (.bipush 24, 2) := by decide +kernel
theorem d_SM_type_76 : decode prog_1_method_5_code 76 = .ok (.if_icmp .le 11, 3) := by decide +kernel
theorem d_SM_type_79 : decode prog_1_method_5_code 79 = .ok (.new 63, 3) := by decide +kernel
theorem d_SM_type_82 : decode prog_1_method_5_code 82 = .ok (.dup, 1) := by decide +kernel
theorem d_SM_type_83 : decode prog_1_method_5_code 83 = .ok (.invokespecial 65, 3) := by decide +kernel
theorem d_SM_type_86 : decode prog_1_method_5_code 86 = .ok (.athrow, 1) := by decide +kernel
theorem d_SM_type_87 : decode prog_1_method_5_code 87 = .ok (.iconst 0, 1) := by decide +kernel
theorem d_SM_type_88 : decode prog_1_method_5_code 88 = .ok (.istore 4, 2) := by decide +kernel
theorem d_SM_type_90 : decode prog_1_method_5_code 90 = .ok (.iload 4, 2) := by decide +kernel
theorem d_SM_type_92 : decode prog_1_method_5_code 92 = .ok (.iload_n 3, 1) := by decide +kernel
theorem d_SM_type_93 : decode prog_1_method_5_code 93 = .ok (.if_icmp .ge 23, 3) := by decide +kernel
theorem d_SM_type_96 : decode prog_1_method_5_code 96 = .ok (.aload_n 0, 1) := by decide +kernel
theorem d_SM_type_97 : decode prog_1_method_5_code 97 = .ok (.getfield 27, 3) := by decide +kernel
theorem d_SM_type_100 : decode prog_1_method_5_code 100 = .ok (.lload_n 1, 1) := by decide +kernel
theorem d_SM_type_101 : decode prog_1_method_5_code 101 = .ok (.iload_n 3, 1) := by decide +kernel
theorem d_SM_type_102 : decode prog_1_method_5_code 102 = .ok (.iload 4, 2) := by decide +kernel
theorem d_SM_type_104 : decode prog_1_method_5_code 104 = .ok (.invokestatic 55, 3) := by decide +kernel
theorem d_SM_type_107 : decode prog_1_method_5_code 107 = .ok (.invokevirtual 74, 3) := by decide +kernel
theorem d_SM_type_110 : decode prog_1_method_5_code 110 = .ok (.iinc 4 1, 3) := by decide +kernel
theorem d_SM_type_113 : decode prog_1_method_5_code 113 = .ok (.goto (-23), 3) := by decide +kernel
theorem d_SM_type_116 : decode prog_1_method_5_code 116 = .ok (.return_, 1) := by decide +kernel
theorem d_Mo_type_0 : decode prog_13_method_77_code 0 = .ok (.iload_n 3, 1) := by decide +kernel
theorem d_Mo_type_1 : decode prog_13_method_77_code 1 = .ok (.invokestatic 386, 3) := by decide +kernel
theorem d_Mo_type_4 : decode prog_13_method_77_code 4 = .ok (.istore 4, 2) := by decide +kernel
theorem d_Mo_type_6 : decode prog_13_method_77_code 6 = .ok (.iconst 0, 1) := by decide +kernel
theorem d_Mo_type_7 : decode prog_13_method_77_code 7 = .ok (.istore 5, 2) := by decide +kernel
theorem d_Mo_type_9 : decode prog_13_method_77_code 9 = .ok (.iload 5, 2) := by decide +kernel
theorem d_Mo_type_11 : decode prog_13_method_77_code 11 = .ok (.iload_n 3, 1) := by decide +kernel
theorem d_Mo_type_12 : decode prog_13_method_77_code 12 = .ok (.if_icmp .ge 52, 3) := by decide +kernel
theorem d_Mo_type_15 : decode prog_13_method_77_code 15 = .ok (.iload 4, 2) := by decide +kernel
theorem d_Mo_type_17 : decode prog_13_method_77_code 17 = .ok (.ifCond .eq 47, 3) := by decide +kernel
theorem d_Mo_type_20 : decode prog_13_method_77_code 20 = .ok (.lload_n 1, 1) := by decide +kernel
theorem d_Mo_type_21 : decode prog_13_method_77_code 21 = .ok (.bipush 8, 2) := by decide +kernel
theorem d_Mo_type_23 : decode prog_13_method_77_code 23 = .ok (.iload 5, 2) := by decide +kernel
theorem d_Mo_type_25 : decode prog_13_method_77_code 25 = .ok (.imul, 1) := by decide +kernel
theorem d_Mo_type_26 : decode prog_13_method_77_code 26 = .ok (.lshr, 1) := by decide +kernel
theorem d_Mo_type_27 : decode prog_13_method_77_code 27 = .ok (.ldc2_w 389, 3) := by decide +kernel
theorem d_Mo_type_30 : decode prog_13_method_77_code 30 = .ok (.land, 1) := by decide +kernel
theorem d_Mo_type_31 : decode prog_13_method_77_code 31 = .ok (.lstore 6, 2) := by decide +kernel
theorem d_Mo_type_33 : decode prog_13_method_77_code 33 = .ok (.lload 6, 2) := by decide +kernel
theorem d_Mo_type_35 : decode prog_13_method_77_code 35 = .ok (.ldc2_w 394, 3) := by decide +kernel
theorem d_Mo_type_38 : decode prog_13_method_77_code 38 = .ok (.lcmp, 1) := by decide +kernel
theorem d_Mo_type_39 : decode prog_13_method_77_code 39 = .ok (.ifCond .lt 16, 3) := by decide +kernel
theorem d_Mo_type_42 : decode prog_13_method_77_code 42 = .ok (.lload 6, 2) := by decide +kernel
theorem d_Mo_type_44 : decode prog_13_method_77_code 44 = .ok (.ldc2_w 396, 3) := by decide +kernel
theorem d_Mo_type_47 : decode prog_13_method_77_code 47 = .ok (.lcmp, 1) := by decide +kernel
theorem d_Mo_type_48 : decode prog_13_method_77_code 48 = .ok (.ifCond .gt 7, 3) := by decide +kernel
theorem d_Mo_type_51 : decode prog_13_method_77_code 51 = .ok (.iconst 1, 1) := by decide +kernel
theorem d_Mo_type_52 : decode prog_13_method_77_code 52 = .ok (.goto 4, 3) := by decide +kernel
theorem d_Mo_type_55 : decode prog_13_method_77_code 55 = .ok (.iconst 0, 1) := by decide +kernel
theorem d_Mo_type_56 : decode prog_13_method_77_code 56 = .ok (.istore 4, 2) := by decide +kernel
theorem d_Mo_type_58 : decode prog_13_method_77_code 58 = .ok (.iinc 5 1, 3) := by decide +kernel
theorem d_Mo_type_61 : decode prog_13_method_77_code 61 = .ok (.goto (-52), 3) := by decide +kernel
theorem d_Mo_type_64 : decode prog_13_method_77_code 64 = .ok (.aload_n 0, 1) := by decide +kernel
theorem d_Mo_type_65 : decode prog_13_method_77_code 65 = .ok (.iload 4, 2) := by decide +kernel
theorem d_Mo_type_67 : decode prog_13_method_77_code 67 = .ok (.ifCond .ne 7, 3) := by decide +kernel
theorem d_Mo_type_70 : decode prog_13_method_77_code 70 = .ok (.iconst 1, 1) := by decide +kernel
theorem d_Mo_type_71 : decode prog_13_method_77_code 71 = .ok (.goto 19, 3) := by decide +kernel
theorem d_Mo_type_74 : decode prog_13_method_77_code 74 = .ok (.aload_n 0, 1) := by decide +kernel
theorem d_Mo_type_75 : decode prog_13_method_77_code 75 = .ok (.getfield 391, 3) := by decide +kernel
theorem d_Mo_type_78 : decode prog_13_method_77_code 78 = .ok (.iload_n 3, 1) := by decide +kernel
theorem d_Mo_type_79 : decode prog_13_method_77_code 79 = .ok (.iadd, 1) := by decide +kernel
theorem d_Mo_type_80 : decode prog_13_method_77_code 80 = .ok (.bipush 24, 2) := by decide +kernel
theorem d_Mo_type_82 : decode prog_13_method_77_code 82 = .ok (.if_icmp .le 7, 3) := by decide +kernel
theorem d_Mo_type_85 : decode prog_13_method_77_code 85 = .ok (.iconst 2, 1) := by decide +kernel
theorem d_Mo_type_86 : decode prog_13_method_77_code 86 = .ok (.goto 4, 3) := by decide +kernel
theorem d_Mo_type_89 : decode prog_13_method_77_code 89 = .ok (.iconst 0, 1) := by decide +kernel
theorem d_Mo_type_90 : decode prog_13_method_77_code 90 = .ok (.putfield 73, 3) := by decide +kernel
theorem d_Mo_type_93 : decode prog_13_method_77_code 93 = .ok (.iload_n 3, 1) := by decide +kernel
theorem d_Mo_type_94 : decode prog_13_method_77_code 94 = .ok (.iconst 1, 1) := by decide +kernel
theorem d_Mo_type_95 : decode prog_13_method_77_code 95 = .ok (.isub, 1) := by decide +kernel
theorem d_Mo_type_96 : decode prog_13_method_77_code 96 = .ok (.istore 5, 2) := by decide +kernel
theorem d_Mo_type_98 : decode prog_13_method_77_code 98 = .ok (.iload 5, 2) := by decide +kernel
theorem d_Mo_type_100 : decode prog_13_method_77_code 100 = .ok (.ifCond .lt 47, 3) := by decide +kernel
theorem d_Mo_type_103 : decode prog_13_method_77_code 103 = .ok (.aload_n 0, 1) := by decide +kernel
theorem d_Mo_type_104 : decode prog_13_method_77_code 104 = .ok (.getfield 73, 3) := by decide +kernel
theorem d_Mo_type_107 : decode prog_13_method_77_code 107 = .ok (.ifCond .ne 40, 3) := by decide +kernel
theorem d_Mo_type_110 : decode prog_13_method_77_code 110 = .ok (.aload_n 0, 1) := by decide +kernel
theorem d_Mo_type_111 : decode prog_13_method_77_code 111 = .ok (.getfield 55, 3) := by decide +kernel
theorem d_Mo_type_114 : decode prog_13_method_77_code 114 = .ok (.aload_n 0, 1) := by decide +kernel
theorem d_Mo_type_115 : decode prog_13_method_77_code 115 = .ok (.getfield 391, 3) := by decide +kernel
theorem d_Mo_type_118 : decode prog_13_method_77_code 118 = .ok (.lload_n 1, 1) := by decide +kernel
theorem d_Mo_type_119 : decode prog_13_method_77_code 119 = .ok (.bipush 8, 2) := by decide +kernel
theorem d_Mo_type_121 : decode prog_13_method_77_code 121 = .ok (.iload 5, 2) := by decide +kernel
theorem d_Mo_type_123 : decode prog_13_method_77_code 123 = .ok (.imul, 1) := by decide +kernel
theorem d_Mo_type_124 : decode prog_13_method_77_code 124 = .ok (.lshr, 1) := by decide +kernel
theorem d_Mo_type_125 : decode prog_13_method_77_code 125 = .ok (.ldc2_w 389, 3) := by decide +kernel
theorem d_Mo_type_128 : decode prog_13_method_77_code 128 = .ok (.land, 1) := by decide +kernel
theorem d_Mo_type_129 : decode prog_13_method_77_code 129 = .ok (.l2i, 1) := by decide +kernel
theorem d_Mo_type_130 : decode prog_13_method_77_code 130 = .ok (.iastore, 1) := by decide +kernel
theorem d_Mo_type_131 : decode prog_13_method_77_code 131 = .ok (.aload_n 0, 1) := by decide +kernel
theorem d_Mo_type_132 : decode prog_13_method_77_code 132 = .ok (.dup, 1) := by decide +kernel
theorem d_Mo_type_133 : decode prog_13_method_77_code 133 = .ok (.getfield 391, 3) := by decide +kernel
theorem d_Mo_type_136 : decode prog_13_method_77_code 136 = .ok (.iconst 1, 1) := by decide +kernel
theorem d_Mo_type_137 : decode prog_13_method_77_code 137 = .ok (.iadd, 1) := by decide +kernel
theorem d_Mo_type_138 : decode prog_13_method_77_code 138 = .ok (.putfield 391, 3) := by decide +kernel
theorem d_Mo_type_141 : decode prog_13_method_77_code 141 = .ok (.iinc 5 (-1), 3) := by decide +kernel
theorem d_Mo_type_144 : decode prog_13_method_77_code 144 = .ok (.goto (-46), 3) := by decide +kernel
theorem d_Mo_type_147 : decode prog_13_method_77_code 147 = .ok (.return_, 1) := by decide +kernel
theorem d_La_type_0 : decode method_6_code 0 = .ok (.aload_n 0, 1) := by decide +kernel
theorem d_La_type_1 : decode method_6_code 1 = .ok (.lload_n 1, 1) := by decide +kernel
theorem d_La_type_2 : decode method_6_code 2 = .ok (.iload_n 3, 1) := by decide +kernel
theorem d_La_type_3 : decode method_6_code 3 = .ok (.invokevirtual 24, 3) := by decide +kernel
theorem d_La_type_6 : decode method_6_code 6 = .ok (.goto 11, 3) := by decide +kernel
theorem d_La_type_9 : decode method_6_code 9 = .ok (.astore 4, 2) := by decide +kernel
theorem d_La_type_11 : decode method_6_code 11 = .ok (.iconst 1, 1) := by decide +kernel
theorem d_La_type_12 : decode method_6_code 12 = .ok (.ireturn, 1) := by decide +kernel
theorem d_La_type_13 : decode method_6_code 13 = .ok (.astore 4, 2) := by decide +kernel
theorem d_La_type_15 : decode method_6_code 15 = .ok (.iconst 2, 1) := by decide +kernel
theorem d_La_type_16 : decode method_6_code 16 = .ok (.ireturn, 1) := by decide +kernel
theorem d_La_type_17 : decode method_6_code 17 = .ok (.iconst 0, 1) := by decide +kernel
theorem d_La_type_18 : decode method_6_code 18 = .ok (.ireturn, 1) := by decide +kernel
theorem d_La_law_0 : decode code 0 = .ok (.new 8, 3) := by decide +kernel
theorem d_La_law_3 : decode code 3 = .ok (.dup, 1) := by decide +kernel
theorem d_La_law_4 : decode code 4 = .ok (.invokespecial 42, 3) := by decide +kernel
theorem d_La_law_7 : decode code 7 = .ok (.astore_n 1, 1) := by decide +kernel
theorem d_La_law_8 : decode code 8 = .ok (.new 43, 3) := by decide +kernel
theorem d_La_law_11 : decode code 11 = .ok (.dup, 1) := by decide +kernel
theorem d_La_law_12 : decode code 12 = .ok (.invokespecial 45, 3) := by decide +kernel
theorem d_La_law_15 : decode code 15 = .ok (.astore_n 2, 1) := by decide +kernel
theorem d_La_law_16 : decode code 16 = .ok (.iconst 1, 1) := by decide +kernel
theorem d_La_law_17 : decode code 17 = .ok (.newarray .long, 2) := by decide +kernel
theorem d_La_law_19 : decode code 19 = .ok (.astore_n 3, 1) := by decide +kernel
theorem d_La_law_20 : decode code 20 = .ok (.iconst 0, 1) := by decide +kernel
theorem d_La_law_21 : decode code 21 = .ok (.istore 4, 2) := by decide +kernel
theorem d_La_law_23 : decode code 23 = .ok (.iload 4, 2) := by decide +kernel
theorem d_La_law_25 : decode code 25 = .ok (.aload_n 0, 1) := by decide +kernel
theorem d_La_law_26 : decode code 26 = .ok (.arraylength, 1) := by decide +kernel
theorem d_La_law_27 : decode code 27 = .ok (.iconst 5, 1) := by decide +kernel
theorem d_La_law_28 : decode code 28 = .ok (.isub, 1) := by decide +kernel
theorem d_La_law_29 : decode code 29 = .ok (.if_icmp .gt 603, 3) := by decide +kernel
theorem d_La_law_32 : decode code 32 = .ok (.aload_n 0, 1) := by decide +kernel
theorem d_La_law_33 : decode code 33 = .ok (.iload 4, 2) := by decide +kernel
theorem d_La_law_35 : decode code 35 = .ok (.iaload, 1) := by decide +kernel
theorem d_La_law_36 : decode code 36 = .ok (.bipush 15, 2) := by decide +kernel
theorem d_La_law_38 : decode code 38 = .ok (.iand, 1) := by decide +kernel
theorem d_La_law_39 : decode code 39 = .ok (.tableswitch 587 0 11 #[61, 153, 209, 233, 313, 324, 380, 393, 406, 462, 518, 574], 61) := by decide +kernel
theorem d_La_law_100 : decode code 100 = .ok (.aload_n 1, 1) := by decide +kernel
theorem d_La_law_101 : decode code 101 = .ok (.aload_n 0, 1) := by decide +kernel
theorem d_La_law_102 : decode code 102 = .ok (.iload 4, 2) := by decide +kernel
theorem d_La_law_104 : decode code 104 = .ok (.iconst 1, 1) := by decide +kernel
theorem d_La_law_105 : decode code 105 = .ok (.iadd, 1) := by decide +kernel
theorem d_La_law_106 : decode code 106 = .ok (.iaload, 1) := by decide +kernel
theorem d_La_law_107 : decode code 107 = .ok (.aload_n 0, 1) := by decide +kernel
theorem d_La_law_108 : decode code 108 = .ok (.iload 4, 2) := by decide +kernel
theorem d_La_law_110 : decode code 110 = .ok (.iconst 2, 1) := by decide +kernel
theorem d_La_law_111 : decode code 111 = .ok (.iadd, 1) := by decide +kernel
theorem d_La_law_112 : decode code 112 = .ok (.iaload, 1) := by decide +kernel
theorem d_La_law_113 : decode code 113 = .ok (.i2l, 1) := by decide +kernel
theorem d_La_law_114 : decode code 114 = .ok (.bipush 32, 2) := by decide +kernel
theorem d_La_law_116 : decode code 116 = .ok (.lshl, 1) := by decide +kernel
theorem d_La_law_117 : decode code 117 = .ok (.aload_n 0, 1) := by decide +kernel
theorem d_La_law_118 : decode code 118 = .ok (.iload 4, 2) := by decide +kernel
theorem d_La_law_120 : decode code 120 = .ok (.iconst 3, 1) := by decide +kernel
theorem d_La_law_121 : decode code 121 = .ok (.iadd, 1) := by decide +kernel
theorem d_La_law_122 : decode code 122 = .ok (.iaload, 1) := by decide +kernel
theorem d_La_law_123 : decode code 123 = .ok (.i2l, 1) := by decide +kernel
theorem d_La_law_124 : decode code 124 = .ok (.ldc2_w 46, 3) := by decide +kernel
theorem d_La_law_127 : decode code 127 = .ok (.land, 1) := by decide +kernel
theorem d_La_law_128 : decode code 128 = .ok (.lor, 1) := by decide +kernel
theorem d_La_law_129 : decode code 129 = .ok (.aload_n 0, 1) := by decide +kernel
theorem d_La_law_130 : decode code 130 = .ok (.iload 4, 2) := by decide +kernel
theorem d_La_law_132 : decode code 132 = .ok (.iconst 4, 1) := by decide +kernel
theorem d_La_law_133 : decode code 133 = .ok (.iadd, 1) := by decide +kernel
theorem d_La_law_134 : decode code 134 = .ok (.iaload, 1) := by decide +kernel
theorem d_La_law_135 : decode code 135 = .ok (.invokestatic 48, 3) := by decide +kernel
theorem d_La_law_138 : decode code 138 = .ok (.istore 5, 2) := by decide +kernel
theorem d_La_law_140 : decode code 140 = .ok (.aload_n 2, 1) := by decide +kernel
theorem d_La_law_141 : decode code 141 = .ok (.aload_n 0, 1) := by decide +kernel
theorem d_La_law_142 : decode code 142 = .ok (.iload 4, 2) := by decide +kernel
theorem d_La_law_144 : decode code 144 = .ok (.iconst 1, 1) := by decide +kernel
theorem d_La_law_145 : decode code 145 = .ok (.iadd, 1) := by decide +kernel
theorem d_La_law_146 : decode code 146 = .ok (.iaload, 1) := by decide +kernel
theorem d_La_law_147 : decode code 147 = .ok (.aload_n 0, 1) := by decide +kernel
theorem d_La_law_148 : decode code 148 = .ok (.iload 4, 2) := by decide +kernel
theorem d_La_law_150 : decode code 150 = .ok (.iconst 2, 1) := by decide +kernel
theorem d_La_law_151 : decode code 151 = .ok (.iadd, 1) := by decide +kernel
theorem d_La_law_152 : decode code 152 = .ok (.iaload, 1) := by decide +kernel
theorem d_La_law_153 : decode code 153 = .ok (.i2l, 1) := by decide +kernel
theorem d_La_law_154 : decode code 154 = .ok (.bipush 32, 2) := by decide +kernel
theorem d_La_law_156 : decode code 156 = .ok (.lshl, 1) := by decide +kernel
theorem d_La_law_157 : decode code 157 = .ok (.aload_n 0, 1) := by decide +kernel
theorem d_La_law_158 : decode code 158 = .ok (.iload 4, 2) := by decide +kernel
theorem d_La_law_160 : decode code 160 = .ok (.iconst 3, 1) := by decide +kernel
theorem d_La_law_161 : decode code 161 = .ok (.iadd, 1) := by decide +kernel
theorem d_La_law_162 : decode code 162 = .ok (.iaload, 1) := by decide +kernel
theorem d_La_law_163 : decode code 163 = .ok (.i2l, 1) := by decide +kernel
theorem d_La_law_164 : decode code 164 = .ok (.ldc2_w 46, 3) := by decide +kernel
theorem d_La_law_167 : decode code 167 = .ok (.land, 1) := by decide +kernel
theorem d_La_law_168 : decode code 168 = .ok (.lor, 1) := by decide +kernel
theorem d_La_law_169 : decode code 169 = .ok (.aload_n 0, 1) := by decide +kernel
theorem d_La_law_170 : decode code 170 = .ok (.iload 4, 2) := by decide +kernel
theorem d_La_law_172 : decode code 172 = .ok (.iconst 4, 1) := by decide +kernel
theorem d_La_law_173 : decode code 173 = .ok (.iadd, 1) := by decide +kernel
theorem d_La_law_174 : decode code 174 = .ok (.iaload, 1) := by decide +kernel
theorem d_La_law_175 : decode code 175 = .ok (.invokevirtual 53, 3) := by decide +kernel
theorem d_La_law_178 : decode code 178 = .ok (.aload_n 2, 1) := by decide +kernel
theorem d_La_law_179 : decode code 179 = .ok (.invokevirtual 54, 3) := by decide +kernel
theorem d_La_law_182 : decode code 182 = .ok (.iload 5, 2) := by decide +kernel
theorem d_La_law_184 : decode code 184 = .ok (.if_icmp .eq 5, 3) := by decide +kernel
theorem d_La_law_187 : decode code 187 = .ok (.iconst 0, 1) := by decide +kernel
theorem d_La_law_188 : decode code 188 = .ok (.ireturn, 1) := by decide +kernel
theorem d_La_law_189 : decode code 189 = .ok (.goto 437, 3) := by decide +kernel
theorem d_La_law_192 : decode code 192 = .ok (.aload_n 1, 1) := by decide +kernel
theorem d_La_law_193 : decode code 193 = .ok (.aload_n 0, 1) := by decide +kernel
theorem d_La_law_194 : decode code 194 = .ok (.iload 4, 2) := by decide +kernel
theorem d_La_law_196 : decode code 196 = .ok (.iconst 1, 1) := by decide +kernel
theorem d_La_law_197 : decode code 197 = .ok (.iadd, 1) := by decide +kernel
theorem d_La_law_198 : decode code 198 = .ok (.iaload, 1) := by decide +kernel
theorem d_La_law_199 : decode code 199 = .ok (.aload_n 3, 1) := by decide +kernel
theorem d_La_law_200 : decode code 200 = .ok (.invokestatic 58, 3) := by decide +kernel
theorem d_La_law_203 : decode code 203 = .ok (.istore 5, 2) := by decide +kernel
theorem d_La_law_205 : decode code 205 = .ok (.aload_n 2, 1) := by decide +kernel
theorem d_La_law_206 : decode code 206 = .ok (.aload_n 0, 1) := by decide +kernel
theorem d_La_law_207 : decode code 207 = .ok (.iload 4, 2) := by decide +kernel
theorem d_La_law_209 : decode code 209 = .ok (.iconst 1, 1) := by decide +kernel
theorem d_La_law_210 : decode code 210 = .ok (.iadd, 1) := by decide +kernel
theorem d_La_law_211 : decode code 211 = .ok (.iaload, 1) := by decide +kernel
theorem d_La_law_212 : decode code 212 = .ok (.invokevirtual 61, 3) := by decide +kernel
theorem d_La_law_215 : decode code 215 = .ok (.istore 6, 2) := by decide +kernel
theorem d_La_law_217 : decode code 217 = .ok (.aload_n 2, 1) := by decide +kernel
theorem d_La_law_218 : decode code 218 = .ok (.invokevirtual 54, 3) := by decide +kernel
theorem d_La_law_221 : decode code 221 = .ok (.iload 5, 2) := by decide +kernel
theorem d_La_law_223 : decode code 223 = .ok (.if_icmp .eq 5, 3) := by decide +kernel
theorem d_La_law_226 : decode code 226 = .ok (.iconst 0, 1) := by decide +kernel
theorem d_La_law_227 : decode code 227 = .ok (.ireturn, 1) := by decide +kernel
theorem d_La_law_228 : decode code 228 = .ok (.iload 5, 2) := by decide +kernel
theorem d_La_law_230 : decode code 230 = .ok (.ifCond .ne 15, 3) := by decide +kernel
theorem d_La_law_233 : decode code 233 = .ok (.aload_n 3, 1) := by decide +kernel
theorem d_La_law_234 : decode code 234 = .ok (.iconst 0, 1) := by decide +kernel
theorem d_La_law_235 : decode code 235 = .ok (.laload, 1) := by decide +kernel
theorem d_La_law_236 : decode code 236 = .ok (.iload 6, 2) := by decide +kernel
theorem d_La_law_238 : decode code 238 = .ok (.i2l, 1) := by decide +kernel
theorem d_La_law_239 : decode code 239 = .ok (.lcmp, 1) := by decide +kernel
theorem d_La_law_240 : decode code 240 = .ok (.ifCond .eq 5, 3) := by decide +kernel
theorem d_La_law_243 : decode code 243 = .ok (.iconst 0, 1) := by decide +kernel
theorem d_La_law_244 : decode code 244 = .ok (.ireturn, 1) := by decide +kernel
theorem d_La_law_245 : decode code 245 = .ok (.goto 381, 3) := by decide +kernel
theorem d_La_law_248 : decode code 248 = .ok (.aload_n 1, 1) := by decide +kernel
theorem d_La_law_249 : decode code 249 = .ok (.invokestatic 62, 3) := by decide +kernel
theorem d_La_law_252 : decode code 252 = .ok (.istore 5, 2) := by decide +kernel
theorem d_La_law_254 : decode code 254 = .ok (.aload_n 2, 1) := by decide +kernel
theorem d_La_law_255 : decode code 255 = .ok (.invokevirtual 65, 3) := by decide +kernel
theorem d_La_law_258 : decode code 258 = .ok (.aload_n 2, 1) := by decide +kernel
theorem d_La_law_259 : decode code 259 = .ok (.invokevirtual 54, 3) := by decide +kernel
theorem d_La_law_262 : decode code 262 = .ok (.iload 5, 2) := by decide +kernel
theorem d_La_law_264 : decode code 264 = .ok (.if_icmp .eq 5, 3) := by decide +kernel
theorem d_La_law_267 : decode code 267 = .ok (.iconst 0, 1) := by decide +kernel
theorem d_La_law_268 : decode code 268 = .ok (.ireturn, 1) := by decide +kernel
theorem d_La_law_269 : decode code 269 = .ok (.goto 357, 3) := by decide +kernel
theorem d_La_law_272 : decode code 272 = .ok (.aload_n 1, 1) := by decide +kernel
theorem d_La_law_273 : decode code 273 = .ok (.aload_n 0, 1) := by decide +kernel
theorem d_La_law_274 : decode code 274 = .ok (.iload 4, 2) := by decide +kernel
theorem d_La_law_276 : decode code 276 = .ok (.iconst 1, 1) := by decide +kernel
theorem d_La_law_277 : decode code 277 = .ok (.iadd, 1) := by decide +kernel
theorem d_La_law_278 : decode code 278 = .ok (.iaload, 1) := by decide +kernel
theorem d_La_law_279 : decode code 279 = .ok (.i2l, 1) := by decide +kernel
theorem d_La_law_280 : decode code 280 = .ok (.bipush 32, 2) := by decide +kernel
theorem d_La_law_282 : decode code 282 = .ok (.lshl, 1) := by decide +kernel
theorem d_La_law_283 : decode code 283 = .ok (.aload_n 0, 1) := by decide +kernel
theorem d_La_law_284 : decode code 284 = .ok (.iload 4, 2) := by decide +kernel
theorem d_La_law_286 : decode code 286 = .ok (.iconst 2, 1) := by decide +kernel
theorem d_La_law_287 : decode code 287 = .ok (.iadd, 1) := by decide +kernel
theorem d_La_law_288 : decode code 288 = .ok (.iaload, 1) := by decide +kernel
theorem d_La_law_289 : decode code 289 = .ok (.i2l, 1) := by decide +kernel
theorem d_La_law_290 : decode code 290 = .ok (.ldc2_w 46, 3) := by decide +kernel
theorem d_La_law_293 : decode code 293 = .ok (.land, 1) := by decide +kernel
theorem d_La_law_294 : decode code 294 = .ok (.lor, 1) := by decide +kernel
theorem d_La_law_295 : decode code 295 = .ok (.aload_n 0, 1) := by decide +kernel
theorem d_La_law_296 : decode code 296 = .ok (.iload 4, 2) := by decide +kernel
theorem d_La_law_298 : decode code 298 = .ok (.iconst 3, 1) := by decide +kernel
theorem d_La_law_299 : decode code 299 = .ok (.iadd, 1) := by decide +kernel
theorem d_La_law_300 : decode code 300 = .ok (.iaload, 1) := by decide +kernel
theorem d_La_law_301 : decode code 301 = .ok (.invokestatic 66, 3) := by decide +kernel
theorem d_La_law_304 : decode code 304 = .ok (.istore 5, 2) := by decide +kernel
theorem d_La_law_306 : decode code 306 = .ok (.aload_n 2, 1) := by decide +kernel
theorem d_La_law_307 : decode code 307 = .ok (.aload_n 0, 1) := by decide +kernel
theorem d_La_law_308 : decode code 308 = .ok (.iload 4, 2) := by decide +kernel
theorem d_La_law_310 : decode code 310 = .ok (.iconst 1, 1) := by decide +kernel
theorem d_La_law_311 : decode code 311 = .ok (.iadd, 1) := by decide +kernel
theorem d_La_law_312 : decode code 312 = .ok (.iaload, 1) := by decide +kernel
theorem d_La_law_313 : decode code 313 = .ok (.i2l, 1) := by decide +kernel
theorem d_La_law_314 : decode code 314 = .ok (.bipush 32, 2) := by decide +kernel
theorem d_La_law_316 : decode code 316 = .ok (.lshl, 1) := by decide +kernel
theorem d_La_law_317 : decode code 317 = .ok (.aload_n 0, 1) := by decide +kernel
theorem d_La_law_318 : decode code 318 = .ok (.iload 4, 2) := by decide +kernel
theorem d_La_law_320 : decode code 320 = .ok (.iconst 2, 1) := by decide +kernel
theorem d_La_law_321 : decode code 321 = .ok (.iadd, 1) := by decide +kernel
theorem d_La_law_322 : decode code 322 = .ok (.iaload, 1) := by decide +kernel
theorem d_La_law_323 : decode code 323 = .ok (.i2l, 1) := by decide +kernel
theorem d_La_law_324 : decode code 324 = .ok (.ldc2_w 46, 3) := by decide +kernel
theorem d_La_law_327 : decode code 327 = .ok (.land, 1) := by decide +kernel
theorem d_La_law_328 : decode code 328 = .ok (.lor, 1) := by decide +kernel
theorem d_La_law_329 : decode code 329 = .ok (.aload_n 0, 1) := by decide +kernel
theorem d_La_law_330 : decode code 330 = .ok (.iload 4, 2) := by decide +kernel
theorem d_La_law_332 : decode code 332 = .ok (.iconst 3, 1) := by decide +kernel
theorem d_La_law_333 : decode code 333 = .ok (.iadd, 1) := by decide +kernel
theorem d_La_law_334 : decode code 334 = .ok (.iaload, 1) := by decide +kernel
theorem d_La_law_335 : decode code 335 = .ok (.invokevirtual 69, 3) := by decide +kernel
theorem d_La_law_338 : decode code 338 = .ok (.aload_n 2, 1) := by decide +kernel
theorem d_La_law_339 : decode code 339 = .ok (.invokevirtual 54, 3) := by decide +kernel
theorem d_La_law_342 : decode code 342 = .ok (.iload 5, 2) := by decide +kernel
theorem d_La_law_344 : decode code 344 = .ok (.if_icmp .eq 5, 3) := by decide +kernel
theorem d_La_law_347 : decode code 347 = .ok (.iconst 0, 1) := by decide +kernel
theorem d_La_law_348 : decode code 348 = .ok (.ireturn, 1) := by decide +kernel
theorem d_La_law_349 : decode code 349 = .ok (.goto 277, 3) := by decide +kernel
theorem d_La_law_352 : decode code 352 = .ok (.aload_n 1, 1) := by decide +kernel
theorem d_La_law_353 : decode code 353 = .ok (.invokevirtual 70, 3) := by decide +kernel
theorem d_La_law_356 : decode code 356 = .ok (.aload_n 2, 1) := by decide +kernel
theorem d_La_law_357 : decode code 357 = .ok (.invokevirtual 73, 3) := by decide +kernel
theorem d_La_law_360 : decode code 360 = .ok (.goto 266, 3) := by decide +kernel
theorem d_La_law_363 : decode code 363 = .ok (.aload_n 1, 1) := by decide +kernel
theorem d_La_law_364 : decode code 364 = .ok (.aload_n 0, 1) := by decide +kernel
theorem d_La_law_365 : decode code 365 = .ok (.iload 4, 2) := by decide +kernel
theorem d_La_law_367 : decode code 367 = .ok (.iconst 1, 1) := by decide +kernel
theorem d_La_law_368 : decode code 368 = .ok (.iadd, 1) := by decide +kernel
theorem d_La_law_369 : decode code 369 = .ok (.iaload, 1) := by decide +kernel
theorem d_La_law_370 : decode code 370 = .ok (.aload_n 3, 1) := by decide +kernel
theorem d_La_law_371 : decode code 371 = .ok (.invokestatic 74, 3) := by decide +kernel
theorem d_La_law_374 : decode code 374 = .ok (.istore 5, 2) := by decide +kernel
theorem d_La_law_376 : decode code 376 = .ok (.aload_n 2, 1) := by decide +kernel
theorem d_La_law_377 : decode code 377 = .ok (.aload_n 0, 1) := by decide +kernel
theorem d_La_law_378 : decode code 378 = .ok (.iload 4, 2) := by decide +kernel
theorem d_La_law_380 : decode code 380 = .ok (.iconst 1, 1) := by decide +kernel
theorem d_La_law_381 : decode code 381 = .ok (.iadd, 1) := by decide +kernel
theorem d_La_law_382 : decode code 382 = .ok (.iaload, 1) := by decide +kernel
theorem d_La_law_383 : decode code 383 = .ok (.invokevirtual 76, 3) := by decide +kernel
theorem d_La_law_386 : decode code 386 = .ok (.istore 6, 2) := by decide +kernel
theorem d_La_law_388 : decode code 388 = .ok (.aload_n 2, 1) := by decide +kernel
theorem d_La_law_389 : decode code 389 = .ok (.invokevirtual 54, 3) := by decide +kernel
theorem d_La_law_392 : decode code 392 = .ok (.iload 5, 2) := by decide +kernel
theorem d_La_law_394 : decode code 394 = .ok (.if_icmp .eq 5, 3) := by decide +kernel
theorem d_La_law_397 : decode code 397 = .ok (.iconst 0, 1) := by decide +kernel
theorem d_La_law_398 : decode code 398 = .ok (.ireturn, 1) := by decide +kernel
theorem d_La_law_399 : decode code 399 = .ok (.iload 5, 2) := by decide +kernel
theorem d_La_law_401 : decode code 401 = .ok (.ifCond .ne 15, 3) := by decide +kernel
theorem d_La_law_404 : decode code 404 = .ok (.aload_n 3, 1) := by decide +kernel
theorem d_La_law_405 : decode code 405 = .ok (.iconst 0, 1) := by decide +kernel
theorem d_La_law_406 : decode code 406 = .ok (.laload, 1) := by decide +kernel
theorem d_La_law_407 : decode code 407 = .ok (.iload 6, 2) := by decide +kernel
theorem d_La_law_409 : decode code 409 = .ok (.i2l, 1) := by decide +kernel
theorem d_La_law_410 : decode code 410 = .ok (.lcmp, 1) := by decide +kernel
theorem d_La_law_411 : decode code 411 = .ok (.ifCond .eq 5, 3) := by decide +kernel
theorem d_La_law_414 : decode code 414 = .ok (.iconst 0, 1) := by decide +kernel
theorem d_La_law_415 : decode code 415 = .ok (.ireturn, 1) := by decide +kernel
theorem d_La_law_416 : decode code 416 = .ok (.goto 210, 3) := by decide +kernel
theorem d_La_law_419 : decode code 419 = .ok (.aload_n 1, 1) := by decide +kernel
theorem d_La_law_420 : decode code 420 = .ok (.invokevirtual 77, 3) := by decide +kernel
theorem d_La_law_423 : decode code 423 = .ok (.aload_n 2, 1) := by decide +kernel
theorem d_La_law_424 : decode code 424 = .ok (.invokevirtual 80, 3) := by decide +kernel
theorem d_La_law_427 : decode code 427 = .ok (.if_icmp .eq 199, 3) := by decide +kernel
theorem d_La_law_430 : decode code 430 = .ok (.iconst 0, 1) := by decide +kernel
theorem d_La_law_431 : decode code 431 = .ok (.ireturn, 1) := by decide +kernel
theorem d_La_law_432 : decode code 432 = .ok (.aload_n 1, 1) := by decide +kernel
theorem d_La_law_433 : decode code 433 = .ok (.invokevirtual 81, 3) := by decide +kernel
theorem d_La_law_436 : decode code 436 = .ok (.aload_n 2, 1) := by decide +kernel
theorem d_La_law_437 : decode code 437 = .ok (.invokevirtual 84, 3) := by decide +kernel
theorem d_La_law_440 : decode code 440 = .ok (.if_icmp .eq 186, 3) := by decide +kernel
theorem d_La_law_443 : decode code 443 = .ok (.iconst 0, 1) := by decide +kernel
theorem d_La_law_444 : decode code 444 = .ok (.ireturn, 1) := by decide +kernel
theorem d_La_law_445 : decode code 445 = .ok (.aload_n 1, 1) := by decide +kernel
theorem d_La_law_446 : decode code 446 = .ok (.aload_n 0, 1) := by decide +kernel
theorem d_La_law_447 : decode code 447 = .ok (.iload 4, 2) := by decide +kernel
theorem d_La_law_449 : decode code 449 = .ok (.iconst 1, 1) := by decide +kernel
theorem d_La_law_450 : decode code 450 = .ok (.iadd, 1) := by decide +kernel
theorem d_La_law_451 : decode code 451 = .ok (.iaload, 1) := by decide +kernel
theorem d_La_law_452 : decode code 452 = .ok (.aload_n 3, 1) := by decide +kernel
theorem d_La_law_453 : decode code 453 = .ok (.invokestatic 85, 3) := by decide +kernel
theorem d_La_law_456 : decode code 456 = .ok (.istore 5, 2) := by decide +kernel
theorem d_La_law_458 : decode code 458 = .ok (.aload_n 2, 1) := by decide +kernel
theorem d_La_law_459 : decode code 459 = .ok (.aload_n 0, 1) := by decide +kernel
theorem d_La_law_460 : decode code 460 = .ok (.iload 4, 2) := by decide +kernel
theorem d_La_law_462 : decode code 462 = .ok (.iconst 1, 1) := by decide +kernel
theorem d_La_law_463 : decode code 463 = .ok (.iadd, 1) := by decide +kernel
theorem d_La_law_464 : decode code 464 = .ok (.iaload, 1) := by decide +kernel
theorem d_La_law_465 : decode code 465 = .ok (.invokevirtual 87, 3) := by decide +kernel
theorem d_La_law_468 : decode code 468 = .ok (.istore 6, 2) := by decide +kernel
theorem d_La_law_470 : decode code 470 = .ok (.aload_n 2, 1) := by decide +kernel
theorem d_La_law_471 : decode code 471 = .ok (.invokevirtual 54, 3) := by decide +kernel
theorem d_La_law_474 : decode code 474 = .ok (.iload 5, 2) := by decide +kernel
theorem d_La_law_476 : decode code 476 = .ok (.if_icmp .eq 5, 3) := by decide +kernel
theorem d_La_law_479 : decode code 479 = .ok (.iconst 0, 1) := by decide +kernel
theorem d_La_law_480 : decode code 480 = .ok (.ireturn, 1) := by decide +kernel
theorem d_La_law_481 : decode code 481 = .ok (.iload 5, 2) := by decide +kernel
theorem d_La_law_483 : decode code 483 = .ok (.ifCond .ne 15, 3) := by decide +kernel
theorem d_La_law_486 : decode code 486 = .ok (.aload_n 3, 1) := by decide +kernel
theorem d_La_law_487 : decode code 487 = .ok (.iconst 0, 1) := by decide +kernel
theorem d_La_law_488 : decode code 488 = .ok (.laload, 1) := by decide +kernel
theorem d_La_law_489 : decode code 489 = .ok (.iload 6, 2) := by decide +kernel
theorem d_La_law_491 : decode code 491 = .ok (.i2l, 1) := by decide +kernel
theorem d_La_law_492 : decode code 492 = .ok (.lcmp, 1) := by decide +kernel
theorem d_La_law_493 : decode code 493 = .ok (.ifCond .eq 5, 3) := by decide +kernel
theorem d_La_law_496 : decode code 496 = .ok (.iconst 0, 1) := by decide +kernel
theorem d_La_law_497 : decode code 497 = .ok (.ireturn, 1) := by decide +kernel
theorem d_La_law_498 : decode code 498 = .ok (.goto 128, 3) := by decide +kernel
theorem d_La_law_501 : decode code 501 = .ok (.aload_n 1, 1) := by decide +kernel
theorem d_La_law_502 : decode code 502 = .ok (.aload_n 0, 1) := by decide +kernel
theorem d_La_law_503 : decode code 503 = .ok (.iload 4, 2) := by decide +kernel
theorem d_La_law_505 : decode code 505 = .ok (.iconst 1, 1) := by decide +kernel
theorem d_La_law_506 : decode code 506 = .ok (.iadd, 1) := by decide +kernel
theorem d_La_law_507 : decode code 507 = .ok (.iaload, 1) := by decide +kernel
theorem d_La_law_508 : decode code 508 = .ok (.aload_n 3, 1) := by decide +kernel
theorem d_La_law_509 : decode code 509 = .ok (.invokestatic 88, 3) := by decide +kernel
theorem d_La_law_512 : decode code 512 = .ok (.istore 5, 2) := by decide +kernel
theorem d_La_law_514 : decode code 514 = .ok (.aload_n 2, 1) := by decide +kernel
theorem d_La_law_515 : decode code 515 = .ok (.aload_n 0, 1) := by decide +kernel
theorem d_La_law_516 : decode code 516 = .ok (.iload 4, 2) := by decide +kernel
theorem d_La_law_518 : decode code 518 = .ok (.iconst 1, 1) := by decide +kernel
theorem d_La_law_519 : decode code 519 = .ok (.iadd, 1) := by decide +kernel
theorem d_La_law_520 : decode code 520 = .ok (.iaload, 1) := by decide +kernel
theorem d_La_law_521 : decode code 521 = .ok (.invokevirtual 90, 3) := by decide +kernel
theorem d_La_law_524 : decode code 524 = .ok (.istore 6, 2) := by decide +kernel
theorem d_La_law_526 : decode code 526 = .ok (.aload_n 2, 1) := by decide +kernel
theorem d_La_law_527 : decode code 527 = .ok (.invokevirtual 54, 3) := by decide +kernel
theorem d_La_law_530 : decode code 530 = .ok (.iload 5, 2) := by decide +kernel
theorem d_La_law_532 : decode code 532 = .ok (.if_icmp .eq 5, 3) := by decide +kernel
theorem d_La_law_535 : decode code 535 = .ok (.iconst 0, 1) := by decide +kernel
theorem d_La_law_536 : decode code 536 = .ok (.ireturn, 1) := by decide +kernel
theorem d_La_law_537 : decode code 537 = .ok (.iload 5, 2) := by decide +kernel
theorem d_La_law_539 : decode code 539 = .ok (.ifCond .ne 15, 3) := by decide +kernel
theorem d_La_law_542 : decode code 542 = .ok (.aload_n 3, 1) := by decide +kernel
theorem d_La_law_543 : decode code 543 = .ok (.iconst 0, 1) := by decide +kernel
theorem d_La_law_544 : decode code 544 = .ok (.laload, 1) := by decide +kernel
theorem d_La_law_545 : decode code 545 = .ok (.iload 6, 2) := by decide +kernel
theorem d_La_law_547 : decode code 547 = .ok (.i2l, 1) := by decide +kernel
theorem d_La_law_548 : decode code 548 = .ok (.lcmp, 1) := by decide +kernel
theorem d_La_law_549 : decode code 549 = .ok (.ifCond .eq 5, 3) := by decide +kernel
theorem d_La_law_552 : decode code 552 = .ok (.iconst 0, 1) := by decide +kernel
theorem d_La_law_553 : decode code 553 = .ok (.ireturn, 1) := by decide +kernel
theorem d_La_law_554 : decode code 554 = .ok (.goto 72, 3) := by decide +kernel
theorem d_La_law_557 : decode code 557 = .ok (.aload_n 1, 1) := by decide +kernel
theorem d_La_law_558 : decode code 558 = .ok (.aload_n 0, 1) := by decide +kernel
theorem d_La_law_559 : decode code 559 = .ok (.iload 4, 2) := by decide +kernel
theorem d_La_law_561 : decode code 561 = .ok (.iconst 1, 1) := by decide +kernel
theorem d_La_law_562 : decode code 562 = .ok (.iadd, 1) := by decide +kernel
theorem d_La_law_563 : decode code 563 = .ok (.iaload, 1) := by decide +kernel
theorem d_La_law_564 : decode code 564 = .ok (.aload_n 3, 1) := by decide +kernel
theorem d_La_law_565 : decode code 565 = .ok (.invokestatic 91, 3) := by decide +kernel
theorem d_La_law_568 : decode code 568 = .ok (.istore 5, 2) := by decide +kernel
theorem d_La_law_570 : decode code 570 = .ok (.aload_n 2, 1) := by decide +kernel
theorem d_La_law_571 : decode code 571 = .ok (.aload_n 0, 1) := by decide +kernel
theorem d_La_law_572 : decode code 572 = .ok (.iload 4, 2) := by decide +kernel
theorem d_La_law_574 : decode code 574 = .ok (.iconst 1, 1) := by decide +kernel
theorem d_La_law_575 : decode code 575 = .ok (.iadd, 1) := by decide +kernel
theorem d_La_law_576 : decode code 576 = .ok (.iaload, 1) := by decide +kernel
theorem d_La_law_577 : decode code 577 = .ok (.invokevirtual 93, 3) := by decide +kernel
theorem d_La_law_580 : decode code 580 = .ok (.istore 6, 2) := by decide +kernel
theorem d_La_law_582 : decode code 582 = .ok (.aload_n 2, 1) := by decide +kernel
theorem d_La_law_583 : decode code 583 = .ok (.invokevirtual 54, 3) := by decide +kernel
theorem d_La_law_586 : decode code 586 = .ok (.iload 5, 2) := by decide +kernel
theorem d_La_law_588 : decode code 588 = .ok (.if_icmp .eq 5, 3) := by decide +kernel
theorem d_La_law_591 : decode code 591 = .ok (.iconst 0, 1) := by decide +kernel
theorem d_La_law_592 : decode code 592 = .ok (.ireturn, 1) := by decide +kernel
theorem d_La_law_593 : decode code 593 = .ok (.iload 5, 2) := by decide +kernel
theorem d_La_law_595 : decode code 595 = .ok (.ifCond .ne 15, 3) := by decide +kernel
theorem d_La_law_598 : decode code 598 = .ok (.aload_n 3, 1) := by decide +kernel
theorem d_La_law_599 : decode code 599 = .ok (.iconst 0, 1) := by decide +kernel
theorem d_La_law_600 : decode code 600 = .ok (.laload, 1) := by decide +kernel
theorem d_La_law_601 : decode code 601 = .ok (.iload 6, 2) := by decide +kernel
theorem d_La_law_603 : decode code 603 = .ok (.i2l, 1) := by decide +kernel
theorem d_La_law_604 : decode code 604 = .ok (.lcmp, 1) := by decide +kernel
theorem d_La_law_605 : decode code 605 = .ok (.ifCond .eq 5, 3) := by decide +kernel
theorem d_La_law_608 : decode code 608 = .ok (.iconst 0, 1) := by decide +kernel
theorem d_La_law_609 : decode code 609 = .ok (.ireturn, 1) := by decide +kernel
theorem d_La_law_610 : decode code 610 = .ok (.goto 16, 3) := by decide +kernel
theorem d_La_law_613 : decode code 613 = .ok (.aload_n 1, 1) := by decide +kernel
theorem d_La_law_614 : decode code 614 = .ok (.invokevirtual 94, 3) := by decide +kernel
theorem d_La_law_617 : decode code 617 = .ok (.aload_n 2, 1) := by decide +kernel
theorem d_La_law_618 : decode code 618 = .ok (.invokevirtual 97, 3) := by decide +kernel
theorem d_La_law_621 : decode code 621 = .ok (.if_icmp .eq 5, 3) := by decide +kernel
theorem d_La_law_624 : decode code 624 = .ok (.iconst 0, 1) := by decide +kernel
theorem d_La_law_625 : decode code 625 = .ok (.ireturn, 1) := by decide +kernel
theorem d_La_law_626 : decode code 626 = .ok (.iinc 4 5, 3) := by decide +kernel
theorem d_La_law_629 : decode code 629 = .ok (.goto (-606), 3) := by decide +kernel
theorem d_La_law_632 : decode code 632 = .ok (.iconst 1, 1) := by decide +kernel
theorem d_La_law_633 : decode code 633 = .ok (.ireturn, 1) := by decide +kernel
