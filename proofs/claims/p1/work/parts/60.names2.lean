/-! More words by their places. -/
theorem mw_56 : (Cond.fieldLink "StoryMachine" 70 "StoryMachine$Line" "typedLength" "I") ∈ tw_tbl := tw_mem (List.mem_append_right _ (List.mem_of_getElem? (i := 56) (by decide +kernel))) rfl
theorem mw_348 : (Cond.codeWith (⟨"StoryMachineLaw", "poke", "(LStoryMachine;IJI)I"⟩) method_3_code 6 (some .int) [(0, 8, 11, 13)]) ∈ tw_tbl := tw_mem (List.mem_append_right _ (List.mem_of_getElem? (i := 348) (by decide +kernel))) rfl
theorem mw_349 : (Cond.classLink "StoryMachineLaw" 13 "java/lang/IllegalArgumentException") ∈ tw_tbl := tw_mem (List.mem_append_right _ (List.mem_of_getElem? (i := 349) (by decide +kernel))) rfl
theorem mw_350 : (Cond.methodLink "StoryMachineLaw" 7 (⟨"StoryMachine", "poke", "(IJI)V"⟩)) ∈ tw_tbl := tw_mem (List.mem_append_right _ (List.mem_of_getElem? (i := 350) (by decide +kernel))) rfl
theorem mw_351 : (Cond.instanceMethod (⟨"StoryMachine", "poke", "(IJI)V"⟩)) ∈ tw_tbl := tw_mem (List.mem_append_right _ (List.mem_of_getElem? (i := 351) (by decide +kernel))) rfl
theorem mw_352 : (Cond.selects "StoryMachine" (⟨"StoryMachine", "poke", "(IJI)V"⟩) (⟨"StoryMachine", "poke", "(IJI)V"⟩)) ∈ tw_tbl := tw_mem (List.mem_append_right _ (List.mem_of_getElem? (i := 352) (by decide +kernel))) rfl
theorem mw_424 : (Cond.codeWith (⟨"StoryMachineLaw", "peek", "(LStoryMachine;I[J)I"⟩) method_4_code 4 (some .int) [(0, 9, 12, 13)]) ∈ tw_tbl := tw_mem (List.mem_append_right _ (List.mem_of_getElem? (i := 424) (by decide +kernel))) rfl
theorem mw_425 : (Cond.methodLink "StoryMachineLaw" 15 (⟨"StoryMachine", "peek", "(I)I"⟩)) ∈ tw_tbl := tw_mem (List.mem_append_right _ (List.mem_of_getElem? (i := 425) (by decide +kernel))) rfl
theorem mw_426 : (Cond.instanceMethod (⟨"StoryMachine", "peek", "(I)I"⟩)) ∈ tw_tbl := tw_mem (List.mem_append_right _ (List.mem_of_getElem? (i := 426) (by decide +kernel))) rfl
theorem mw_427 : (Cond.selects "StoryMachine" (⟨"StoryMachine", "peek", "(I)I"⟩) (⟨"StoryMachine", "peek", "(I)I"⟩)) ∈ tw_tbl := tw_mem (List.mem_append_right _ (List.mem_of_getElem? (i := 427) (by decide +kernel))) rfl
theorem mw_431 : (Cond.codeWith (⟨"StoryMachineLaw", "begin", "(LStoryMachine;)I"⟩) method_5_code 2 (some .int) [(0, 4, 7, 22)]) ∈ tw_tbl := tw_mem (List.mem_append_right _ (List.mem_of_getElem? (i := 431) (by decide +kernel))) rfl
theorem mw_432 : (Cond.classLink "StoryMachineLaw" 22 "java/lang/IllegalStateException") ∈ tw_tbl := tw_mem (List.mem_append_right _ (List.mem_of_getElem? (i := 432) (by decide +kernel))) rfl
theorem mw_433 : (Cond.methodLink "StoryMachineLaw" 19 (⟨"StoryMachine", "begin", "()V"⟩)) ∈ tw_tbl := tw_mem (List.mem_append_right _ (List.mem_of_getElem? (i := 433) (by decide +kernel))) rfl
theorem mw_434 : (Cond.instanceMethod (⟨"StoryMachine", "begin", "()V"⟩)) ∈ tw_tbl := tw_mem (List.mem_append_right _ (List.mem_of_getElem? (i := 434) (by decide +kernel))) rfl
theorem mw_435 : (Cond.selects "StoryMachine" (⟨"StoryMachine", "begin", "()V"⟩) (⟨"StoryMachine", "begin", "()V"⟩)) ∈ tw_tbl := tw_mem (List.mem_append_right _ (List.mem_of_getElem? (i := 435) (by decide +kernel))) rfl
theorem mw_472 : (Cond.codeWith (⟨"StoryMachineLaw", "type", "(LStoryMachine;JI)I"⟩) method_6_code 5 (some .int) [(0, 6, 9, 13), (0, 6, 13, 22)]) ∈ tw_tbl := tw_mem (List.mem_append_right _ (List.mem_of_getElem? (i := 472) (by decide +kernel))) rfl
theorem mw_473 : (Cond.methodLink "StoryMachineLaw" 24 (⟨"StoryMachine", "type", "(JI)V"⟩)) ∈ tw_tbl := tw_mem (List.mem_append_right _ (List.mem_of_getElem? (i := 473) (by decide +kernel))) rfl
theorem mw_474 : (Cond.instanceMethod (⟨"StoryMachine", "type", "(JI)V"⟩)) ∈ tw_tbl := tw_mem (List.mem_append_right _ (List.mem_of_getElem? (i := 474) (by decide +kernel))) rfl
theorem mw_475 : (Cond.selects "StoryMachine" (⟨"StoryMachine", "type", "(JI)V"⟩) (⟨"StoryMachine", "type", "(JI)V"⟩)) ∈ tw_tbl := tw_mem (List.mem_append_right _ (List.mem_of_getElem? (i := 475) (by decide +kernel))) rfl
theorem mw_476 : (Cond.code (⟨"StoryMachine", "type", "(JI)V"⟩) prog_1_method_5_code 6 none) ∈ tw_tbl := tw_mem (List.mem_append_right _ (List.mem_of_getElem? (i := 476) (by decide +kernel))) rfl
theorem mw_477 : (Cond.methodLink "StoryMachine" 74 (⟨"StoryMachine$Line", "add", "(I)V"⟩)) ∈ tw_tbl := tw_mem (List.mem_append_right _ (List.mem_of_getElem? (i := 477) (by decide +kernel))) rfl
theorem mw_478 : (Cond.instanceMethod (⟨"StoryMachine$Line", "add", "(I)V"⟩)) ∈ tw_tbl := tw_mem (List.mem_append_right _ (List.mem_of_getElem? (i := 478) (by decide +kernel))) rfl
theorem mw_479 : (Cond.selects "StoryMachine$Line" (⟨"StoryMachine$Line", "add", "(I)V"⟩) (⟨"StoryMachine$Line", "add", "(I)V"⟩)) ∈ tw_tbl := tw_mem (List.mem_append_right _ (List.mem_of_getElem? (i := 479) (by decide +kernel))) rfl
theorem mw_480 : (Cond.code (⟨"StoryMachine$Line", "add", "(I)V"⟩) prog_6_method_3_code 2 none) ∈ tw_tbl := tw_mem (List.mem_append_right _ (List.mem_of_getElem? (i := 480) (by decide +kernel))) rfl
theorem mw_483 : (Cond.codeWith (⟨"StoryMachineLaw", "run", "(LStoryMachine;I[J)I"⟩) method_7_code 4 (some .int) [(0, 9, 12, 13), (0, 9, 15, 22)]) ∈ tw_tbl := tw_mem (List.mem_append_right _ (List.mem_of_getElem? (i := 483) (by decide +kernel))) rfl
theorem mw_484 : (Cond.methodLink "StoryMachineLaw" 28 (⟨"StoryMachine", "run", "(I)I"⟩)) ∈ tw_tbl := tw_mem (List.mem_append_right _ (List.mem_of_getElem? (i := 484) (by decide +kernel))) rfl
theorem mw_485 : (Cond.instanceMethod (⟨"StoryMachine", "run", "(I)I"⟩)) ∈ tw_tbl := tw_mem (List.mem_append_right _ (List.mem_of_getElem? (i := 485) (by decide +kernel))) rfl
theorem mw_486 : (Cond.selects "StoryMachine" (⟨"StoryMachine", "run", "(I)I"⟩) (⟨"StoryMachine", "run", "(I)I"⟩)) ∈ tw_tbl := tw_mem (List.mem_append_right _ (List.mem_of_getElem? (i := 486) (by decide +kernel))) rfl
theorem mw_1013 : (Cond.codeWith (⟨"StoryMachineLaw", "output", "(LStoryMachine;I[J)I"⟩) method_8_code 4 (some .int) [(0, 9, 12, 34)]) ∈ tw_tbl := tw_mem (List.mem_append_right _ (List.mem_of_getElem? (i := 1013) (by decide +kernel))) rfl
theorem mw_1014 : (Cond.classLink "StoryMachineLaw" 34 "java/lang/IndexOutOfBoundsException") ∈ tw_tbl := tw_mem (List.mem_append_right _ (List.mem_of_getElem? (i := 1014) (by decide +kernel))) rfl
theorem mw_1015 : (Cond.methodLink "StoryMachineLaw" 31 (⟨"StoryMachine", "output", "(I)I"⟩)) ∈ tw_tbl := tw_mem (List.mem_append_right _ (List.mem_of_getElem? (i := 1015) (by decide +kernel))) rfl
theorem mw_1016 : (Cond.instanceMethod (⟨"StoryMachine", "output", "(I)I"⟩)) ∈ tw_tbl := tw_mem (List.mem_append_right _ (List.mem_of_getElem? (i := 1016) (by decide +kernel))) rfl
theorem mw_1017 : (Cond.selects "StoryMachine" (⟨"StoryMachine", "output", "(I)I"⟩) (⟨"StoryMachine", "output", "(I)I"⟩)) ∈ tw_tbl := tw_mem (List.mem_append_right _ (List.mem_of_getElem? (i := 1017) (by decide +kernel))) rfl
theorem mw_1040 : (Cond.codeWith (⟨"StoryMachineLaw", "stack", "(LStoryMachine;I[J)I"⟩) method_9_code 4 (some .int) [(0, 9, 12, 34)]) ∈ tw_tbl := tw_mem (List.mem_append_right _ (List.mem_of_getElem? (i := 1040) (by decide +kernel))) rfl
theorem mw_1041 : (Cond.methodLink "StoryMachineLaw" 36 (⟨"StoryMachine", "stack", "(I)I"⟩)) ∈ tw_tbl := tw_mem (List.mem_append_right _ (List.mem_of_getElem? (i := 1041) (by decide +kernel))) rfl
theorem mw_1042 : (Cond.instanceMethod (⟨"StoryMachine", "stack", "(I)I"⟩)) ∈ tw_tbl := tw_mem (List.mem_append_right _ (List.mem_of_getElem? (i := 1042) (by decide +kernel))) rfl
theorem mw_1043 : (Cond.selects "StoryMachine" (⟨"StoryMachine", "stack", "(I)I"⟩) (⟨"StoryMachine", "stack", "(I)I"⟩)) ∈ tw_tbl := tw_mem (List.mem_append_right _ (List.mem_of_getElem? (i := 1043) (by decide +kernel))) rfl
theorem mw_1047 : (Cond.codeWith (⟨"StoryMachineLaw", "local", "(LStoryMachine;I[J)I"⟩) method_10_code 4 (some .int) [(0, 9, 12, 34)]) ∈ tw_tbl := tw_mem (List.mem_append_right _ (List.mem_of_getElem? (i := 1047) (by decide +kernel))) rfl
theorem mw_1048 : (Cond.methodLink "StoryMachineLaw" 39 (⟨"StoryMachine", "local", "(I)I"⟩)) ∈ tw_tbl := tw_mem (List.mem_append_right _ (List.mem_of_getElem? (i := 1048) (by decide +kernel))) rfl
theorem mw_1049 : (Cond.instanceMethod (⟨"StoryMachine", "local", "(I)I"⟩)) ∈ tw_tbl := tw_mem (List.mem_append_right _ (List.mem_of_getElem? (i := 1049) (by decide +kernel))) rfl
theorem mw_1050 : (Cond.selects "StoryMachine" (⟨"StoryMachine", "local", "(I)I"⟩) (⟨"StoryMachine", "local", "(I)I"⟩)) ∈ tw_tbl := tw_mem (List.mem_append_right _ (List.mem_of_getElem? (i := 1050) (by decide +kernel))) rfl
theorem mw_1500 : (Cond.code (⟨"StoryMachineModel", "poke", "(IJI)V"⟩) prog_13_method_74_code 6 none) ∈ tw_tbl := tw_mem (List.mem_append_right _ (List.mem_of_getElem? (i := 1500) (by decide +kernel))) rfl
theorem mw_1501 : (Cond.methodLink "StoryMachineModel" 386 (⟨"StoryMachineModel", "isFew", "(I)Z"⟩)) ∈ tw_tbl := tw_mem (List.mem_append_right _ (List.mem_of_getElem? (i := 1501) (by decide +kernel))) rfl
theorem mw_1502 : (Cond.static (⟨"StoryMachineModel", "isFew", "(I)Z"⟩)) ∈ tw_tbl := tw_mem (List.mem_append_right _ (List.mem_of_getElem? (i := 1502) (by decide +kernel))) rfl
theorem mw_1503 : (Cond.code (⟨"StoryMachineModel", "isFew", "(I)Z"⟩) prog_13_method_73_code 1 (some .boolean)) ∈ tw_tbl := tw_mem (List.mem_append_right _ (List.mem_of_getElem? (i := 1503) (by decide +kernel))) rfl
theorem mw_1504 : (Cond.constantLong "StoryMachineModel" 389 (255 : Int64)) ∈ tw_tbl := tw_mem (List.mem_append_right _ (List.mem_of_getElem? (i := 1504) (by decide +kernel))) rfl
theorem mw_1516 : (Cond.code (⟨"StoryMachineModel", "type", "(JI)V"⟩) prog_13_method_77_code 8 none) ∈ tw_tbl := tw_mem (List.mem_append_right _ (List.mem_of_getElem? (i := 1516) (by decide +kernel))) rfl
theorem mw_1517 : (Cond.constantLong "StoryMachineModel" 394 (32 : Int64)) ∈ tw_tbl := tw_mem (List.mem_append_right _ (List.mem_of_getElem? (i := 1517) (by decide +kernel))) rfl
theorem mw_1518 : (Cond.constantLong "StoryMachineModel" 396 (126 : Int64)) ∈ tw_tbl := tw_mem (List.mem_append_right _ (List.mem_of_getElem? (i := 1518) (by decide +kernel))) rfl
theorem d_La_poke_0 : decode method_3_code 0 = .ok (.aload_n 0, 1) := by decide +kernel
theorem d_La_poke_1 : decode method_3_code 1 = .ok (.iload_n 1, 1) := by decide +kernel
theorem d_La_poke_2 : decode method_3_code 2 = .ok (.lload_n 2, 1) := by decide +kernel
theorem d_La_poke_3 : decode method_3_code 3 = .ok (.iload 4, 2) := by decide +kernel
theorem d_La_poke_5 : decode method_3_code 5 = .ok (.invokevirtual 7, 3) := by decide +kernel
theorem d_La_poke_8 : decode method_3_code 8 = .ok (.goto 7, 3) := by decide +kernel
theorem d_La_poke_11 : decode method_3_code 11 = .ok (.astore 5, 2) := by decide +kernel
theorem d_La_poke_13 : decode method_3_code 13 = .ok (.iconst 1, 1) := by decide +kernel
theorem d_La_poke_14 : decode method_3_code 14 = .ok (.ireturn, 1) := by decide +kernel
theorem d_La_poke_15 : decode method_3_code 15 = .ok (.iconst 0, 1) := by decide +kernel
theorem d_La_poke_16 : decode method_3_code 16 = .ok (.ireturn, 1) := by decide +kernel
theorem d_La_peek_0 : decode method_4_code 0 = .ok (.aload_n 2, 1) := by decide +kernel
theorem d_La_peek_1 : decode method_4_code 1 = .ok (.iconst 0, 1) := by decide +kernel
theorem d_La_peek_2 : decode method_4_code 2 = .ok (.aload_n 0, 1) := by decide +kernel
theorem d_La_peek_3 : decode method_4_code 3 = .ok (.iload_n 1, 1) := by decide +kernel
theorem d_La_peek_4 : decode method_4_code 4 = .ok (.invokevirtual 15, 3) := by decide +kernel
theorem d_La_peek_7 : decode method_4_code 7 = .ok (.i2l, 1) := by decide +kernel
theorem d_La_peek_8 : decode method_4_code 8 = .ok (.lastore, 1) := by decide +kernel
theorem d_La_peek_9 : decode method_4_code 9 = .ok (.goto 6, 3) := by decide +kernel
theorem d_La_peek_12 : decode method_4_code 12 = .ok (.astore_n 3, 1) := by decide +kernel
theorem d_La_peek_13 : decode method_4_code 13 = .ok (.iconst 1, 1) := by decide +kernel
theorem d_La_peek_14 : decode method_4_code 14 = .ok (.ireturn, 1) := by decide +kernel
theorem d_La_peek_15 : decode method_4_code 15 = .ok (.iconst 0, 1) := by decide +kernel
theorem d_La_peek_16 : decode method_4_code 16 = .ok (.ireturn, 1) := by decide +kernel
theorem d_La_run_0 : decode method_7_code 0 = .ok (.aload_n 2, 1) := by decide +kernel
theorem d_La_run_1 : decode method_7_code 1 = .ok (.iconst 0, 1) := by decide +kernel
theorem d_La_run_2 : decode method_7_code 2 = .ok (.aload_n 0, 1) := by decide +kernel
theorem d_La_run_3 : decode method_7_code 3 = .ok (.iload_n 1, 1) := by decide +kernel
theorem d_La_run_4 : decode method_7_code 4 = .ok (.invokevirtual 28, 3) := by decide +kernel
theorem d_La_run_7 : decode method_7_code 7 = .ok (.i2l, 1) := by decide +kernel
theorem d_La_run_8 : decode method_7_code 8 = .ok (.lastore, 1) := by decide +kernel
theorem d_La_run_9 : decode method_7_code 9 = .ok (.goto 9, 3) := by decide +kernel
theorem d_La_run_12 : decode method_7_code 12 = .ok (.astore_n 3, 1) := by decide +kernel
theorem d_La_run_13 : decode method_7_code 13 = .ok (.iconst 1, 1) := by decide +kernel
theorem d_La_run_14 : decode method_7_code 14 = .ok (.ireturn, 1) := by decide +kernel
theorem d_La_run_15 : decode method_7_code 15 = .ok (.astore_n 3, 1) := by decide +kernel
theorem d_La_run_16 : decode method_7_code 16 = .ok (.iconst 2, 1) := by decide +kernel
theorem d_La_run_17 : decode method_7_code 17 = .ok (.ireturn, 1) := by decide +kernel
theorem d_La_run_18 : decode method_7_code 18 = .ok (.iconst 0, 1) := by decide +kernel
theorem d_La_run_19 : decode method_7_code 19 = .ok (.ireturn, 1) := by decide +kernel
theorem d_La_output_0 : decode method_8_code 0 = .ok (.aload_n 2, 1) := by decide +kernel
theorem d_La_output_1 : decode method_8_code 1 = .ok (.iconst 0, 1) := by decide +kernel
theorem d_La_output_2 : decode method_8_code 2 = .ok (.aload_n 0, 1) := by decide +kernel
theorem d_La_output_3 : decode method_8_code 3 = .ok (.iload_n 1, 1) := by decide +kernel
theorem d_La_output_4 : decode method_8_code 4 = .ok (.invokevirtual 31, 3) := by decide +kernel
theorem d_La_output_7 : decode method_8_code 7 = .ok (.i2l, 1) := by decide +kernel
theorem d_La_output_8 : decode method_8_code 8 = .ok (.lastore, 1) := by decide +kernel
theorem d_La_output_9 : decode method_8_code 9 = .ok (.goto 6, 3) := by decide +kernel
theorem d_La_output_12 : decode method_8_code 12 = .ok (.astore_n 3, 1) := by decide +kernel
theorem d_La_output_13 : decode method_8_code 13 = .ok (.iconst 1, 1) := by decide +kernel
theorem d_La_output_14 : decode method_8_code 14 = .ok (.ireturn, 1) := by decide +kernel
theorem d_La_output_15 : decode method_8_code 15 = .ok (.iconst 0, 1) := by decide +kernel
theorem d_La_output_16 : decode method_8_code 16 = .ok (.ireturn, 1) := by decide +kernel
theorem d_La_stack_0 : decode method_9_code 0 = .ok (.aload_n 2, 1) := by decide +kernel
theorem d_La_stack_1 : decode method_9_code 1 = .ok (.iconst 0, 1) := by decide +kernel
theorem d_La_stack_2 : decode method_9_code 2 = .ok (.aload_n 0, 1) := by decide +kernel
theorem d_La_stack_3 : decode method_9_code 3 = .ok (.iload_n 1, 1) := by decide +kernel
theorem d_La_stack_4 : decode method_9_code 4 = .ok (.invokevirtual 36, 3) := by decide +kernel
theorem d_La_stack_7 : decode method_9_code 7 = .ok (.i2l, 1) := by decide +kernel
theorem d_La_stack_8 : decode method_9_code 8 = .ok (.lastore, 1) := by decide +kernel
theorem d_La_stack_9 : decode method_9_code 9 = .ok (.goto 6, 3) := by decide +kernel
theorem d_La_stack_12 : decode method_9_code 12 = .ok (.astore_n 3, 1) := by decide +kernel
theorem d_La_stack_13 : decode method_9_code 13 = .ok (.iconst 1, 1) := by decide +kernel
theorem d_La_stack_14 : decode method_9_code 14 = .ok (.ireturn, 1) := by decide +kernel
theorem d_La_stack_15 : decode method_9_code 15 = .ok (.iconst 0, 1) := by decide +kernel
theorem d_La_stack_16 : decode method_9_code 16 = .ok (.ireturn, 1) := by decide +kernel
theorem d_La_local_0 : decode method_10_code 0 = .ok (.aload_n 2, 1) := by decide +kernel
theorem d_La_local_1 : decode method_10_code 1 = .ok (.iconst 0, 1) := by decide +kernel
theorem d_La_local_2 : decode method_10_code 2 = .ok (.aload_n 0, 1) := by decide +kernel
theorem d_La_local_3 : decode method_10_code 3 = .ok (.iload_n 1, 1) := by decide +kernel
theorem d_La_local_4 : decode method_10_code 4 = .ok (.invokevirtual 39, 3) := by decide +kernel
theorem d_La_local_7 : decode method_10_code 7 = .ok (.i2l, 1) := by decide +kernel
theorem d_La_local_8 : decode method_10_code 8 = .ok (.lastore, 1) := by decide +kernel
theorem d_La_local_9 : decode method_10_code 9 = .ok (.goto 6, 3) := by decide +kernel
theorem d_La_local_12 : decode method_10_code 12 = .ok (.astore_n 3, 1) := by decide +kernel
theorem d_La_local_13 : decode method_10_code 13 = .ok (.iconst 1, 1) := by decide +kernel
theorem d_La_local_14 : decode method_10_code 14 = .ok (.ireturn, 1) := by decide +kernel
theorem d_La_local_15 : decode method_10_code 15 = .ok (.iconst 0, 1) := by decide +kernel
theorem d_La_local_16 : decode method_10_code 16 = .ok (.ireturn, 1) := by decide +kernel
theorem d_La_begin_0 : decode method_5_code 0 = .ok (.aload_n 0, 1) := by decide +kernel
theorem d_La_begin_1 : decode method_5_code 1 = .ok (.invokevirtual 19, 3) := by decide +kernel
theorem d_La_begin_4 : decode method_5_code 4 = .ok (.goto 6, 3) := by decide +kernel
theorem d_La_begin_7 : decode method_5_code 7 = .ok (.astore_n 1, 1) := by decide +kernel
theorem d_La_begin_8 : decode method_5_code 8 = .ok (.iconst 1, 1) := by decide +kernel
theorem d_La_begin_9 : decode method_5_code 9 = .ok (.ireturn, 1) := by decide +kernel
theorem d_La_begin_10 : decode method_5_code 10 = .ok (.iconst 0, 1) := by decide +kernel
theorem d_La_begin_11 : decode method_5_code 11 = .ok (.ireturn, 1) := by decide +kernel
theorem d_Mo_isFew_0 : decode prog_13_method_73_code 0 = .ok (.iload_n 0, 1) := by decide +kernel
theorem d_Mo_isFew_1 : decode prog_13_method_73_code 1 = .ok (.iconst 1, 1) := by decide +kernel
theorem d_Mo_isFew_2 : decode prog_13_method_73_code 2 = .ok (.if_icmp .lt 13, 3) := by decide +kernel
theorem d_Mo_isFew_5 : decode prog_13_method_73_code 5 = .ok (.iload_n 0, 1) := by decide +kernel
theorem d_Mo_isFew_6 : decode prog_13_method_73_code 6 = .ok (.bipush 8, 2) := by decide +kernel
theorem d_Mo_isFew_8 : decode prog_13_method_73_code 8 = .ok (.if_icmp .gt 7, 3) := by decide +kernel
theorem d_Mo_isFew_11 : decode prog_13_method_73_code 11 = .ok (.iconst 1, 1) := by decide +kernel
theorem d_Mo_isFew_12 : decode prog_13_method_73_code 12 = .ok (.goto 4, 3) := by decide +kernel
theorem d_Mo_isFew_15 : decode prog_13_method_73_code 15 = .ok (.iconst 0, 1) := by decide +kernel
theorem d_Mo_isFew_16 : decode prog_13_method_73_code 16 = .ok (.ireturn, 1) := by decide +kernel
theorem d_Mo_poke_0 : decode prog_13_method_74_code 0 = .ok (.aload_n 0, 1) := by decide +kernel
theorem d_Mo_poke_1 : decode prog_13_method_74_code 1 = .ok (.iload 4, 2) := by decide +kernel
theorem d_Mo_poke_3 : decode prog_13_method_74_code 3 = .ok (.invokestatic 386, 3) := by decide +kernel
theorem d_Mo_poke_6 : decode prog_13_method_74_code 6 = .ok (.ifCond .eq 17, 3) := by decide +kernel
theorem d_Mo_poke_9 : decode prog_13_method_74_code 9 = .ok (.iload_n 1, 1) := by decide +kernel
theorem d_Mo_poke_10 : decode prog_13_method_74_code 10 = .ok (.ifCond .lt 13, 3) := by decide +kernel
theorem d_Mo_poke_13 : decode prog_13_method_74_code 13 = .ok (.iload_n 1, 1) := by decide +kernel
theorem d_Mo_poke_14 : decode prog_13_method_74_code 14 = .ok (.sipush 512, 3) := by decide +kernel
theorem d_Mo_poke_17 : decode prog_13_method_74_code 17 = .ok (.iload 4, 2) := by decide +kernel
theorem d_Mo_poke_19 : decode prog_13_method_74_code 19 = .ok (.isub, 1) := by decide +kernel
theorem d_Mo_poke_20 : decode prog_13_method_74_code 20 = .ok (.if_icmp .le 7, 3) := by decide +kernel
theorem d_Mo_poke_23 : decode prog_13_method_74_code 23 = .ok (.iconst 1, 1) := by decide +kernel
theorem d_Mo_poke_24 : decode prog_13_method_74_code 24 = .ok (.goto 4, 3) := by decide +kernel
theorem d_Mo_poke_27 : decode prog_13_method_74_code 27 = .ok (.iconst 0, 1) := by decide +kernel
theorem d_Mo_poke_28 : decode prog_13_method_74_code 28 = .ok (.putfield 73, 3) := by decide +kernel
theorem d_Mo_poke_31 : decode prog_13_method_74_code 31 = .ok (.iconst 0, 1) := by decide +kernel
theorem d_Mo_poke_32 : decode prog_13_method_74_code 32 = .ok (.istore 5, 2) := by decide +kernel
theorem d_Mo_poke_34 : decode prog_13_method_74_code 34 = .ok (.iload 5, 2) := by decide +kernel
theorem d_Mo_poke_36 : decode prog_13_method_74_code 36 = .ok (.iload 4, 2) := by decide +kernel
theorem d_Mo_poke_38 : decode prog_13_method_74_code 38 = .ok (.if_icmp .ge 42, 3) := by decide +kernel
theorem d_Mo_poke_41 : decode prog_13_method_74_code 41 = .ok (.aload_n 0, 1) := by decide +kernel
theorem d_Mo_poke_42 : decode prog_13_method_74_code 42 = .ok (.getfield 73, 3) := by decide +kernel
theorem d_Mo_poke_45 : decode prog_13_method_74_code 45 = .ok (.ifCond .ne 35, 3) := by decide +kernel
theorem d_Mo_poke_48 : decode prog_13_method_74_code 48 = .ok (.aload_n 0, 1) := by decide +kernel
theorem d_Mo_poke_49 : decode prog_13_method_74_code 49 = .ok (.getfield 7, 3) := by decide +kernel
theorem d_Mo_poke_52 : decode prog_13_method_74_code 52 = .ok (.iload_n 1, 1) := by decide +kernel
theorem d_Mo_poke_53 : decode prog_13_method_74_code 53 = .ok (.iload 5, 2) := by decide +kernel
theorem d_Mo_poke_55 : decode prog_13_method_74_code 55 = .ok (.iadd, 1) := by decide +kernel
theorem d_Mo_poke_56 : decode prog_13_method_74_code 56 = .ok (.lload_n 2, 1) := by decide +kernel
theorem d_Mo_poke_57 : decode prog_13_method_74_code 57 = .ok (.bipush 8, 2) := by decide +kernel
theorem d_Mo_poke_59 : decode prog_13_method_74_code 59 = .ok (.iload 4, 2) := by decide +kernel
theorem d_Mo_poke_61 : decode prog_13_method_74_code 61 = .ok (.iconst 1, 1) := by decide +kernel
theorem d_Mo_poke_62 : decode prog_13_method_74_code 62 = .ok (.isub, 1) := by decide +kernel
theorem d_Mo_poke_63 : decode prog_13_method_74_code 63 = .ok (.iload 5, 2) := by decide +kernel
theorem d_Mo_poke_65 : decode prog_13_method_74_code 65 = .ok (.isub, 1) := by decide +kernel
theorem d_Mo_poke_66 : decode prog_13_method_74_code 66 = .ok (.imul, 1) := by decide +kernel
theorem d_Mo_poke_67 : decode prog_13_method_74_code 67 = .ok (.lshr, 1) := by decide +kernel
theorem d_Mo_poke_68 : decode prog_13_method_74_code 68 = .ok (.ldc2_w 389, 3) := by decide +kernel
theorem d_Mo_poke_71 : decode prog_13_method_74_code 71 = .ok (.land, 1) := by decide +kernel
theorem d_Mo_poke_72 : decode prog_13_method_74_code 72 = .ok (.l2i, 1) := by decide +kernel
theorem d_Mo_poke_73 : decode prog_13_method_74_code 73 = .ok (.iastore, 1) := by decide +kernel
theorem d_Mo_poke_74 : decode prog_13_method_74_code 74 = .ok (.iinc 5 1, 3) := by decide +kernel
theorem d_Mo_poke_77 : decode prog_13_method_74_code 77 = .ok (.goto (-43), 3) := by decide +kernel
theorem d_Mo_poke_80 : decode prog_13_method_74_code 80 = .ok (.return_, 1) := by decide +kernel
theorem d_Li_add_0 : decode prog_6_method_3_code 0 = .ok (.aload_n 0, 1) := by decide +kernel
theorem d_Li_add_1 : decode prog_6_method_3_code 1 = .ok (.getfield 16, 3) := by decide +kernel
theorem d_Li_add_4 : decode prog_6_method_3_code 4 = .ok (.bipush 24, 2) := by decide +kernel
theorem d_Li_add_6 : decode prog_6_method_3_code 6 = .ok (.if_icmp .ge 23, 3) := by decide +kernel
theorem d_Li_add_9 : decode prog_6_method_3_code 9 = .ok (.aload_n 0, 1) := by decide +kernel
theorem d_Li_add_10 : decode prog_6_method_3_code 10 = .ok (.getfield 9, 3) := by decide +kernel
theorem d_Li_add_13 : decode prog_6_method_3_code 13 = .ok (.aload_n 0, 1) := by decide +kernel
theorem d_Li_add_14 : decode prog_6_method_3_code 14 = .ok (.getfield 16, 3) := by decide +kernel
theorem d_Li_add_17 : decode prog_6_method_3_code 17 = .ok (.iload_n 1, 1) := by decide +kernel
theorem d_Li_add_18 : decode prog_6_method_3_code 18 = .ok (.iastore, 1) := by decide +kernel
theorem d_Li_add_19 : decode prog_6_method_3_code 19 = .ok (.aload_n 0, 1) := by decide +kernel
theorem d_Li_add_20 : decode prog_6_method_3_code 20 = .ok (.dup, 1) := by decide +kernel
theorem d_Li_add_21 : decode prog_6_method_3_code 21 = .ok (.getfield 16, 3) := by decide +kernel
theorem d_Li_add_24 : decode prog_6_method_3_code 24 = .ok (.iconst 1, 1) := by decide +kernel
theorem d_Li_add_25 : decode prog_6_method_3_code 25 = .ok (.iadd, 1) := by decide +kernel
theorem d_Li_add_26 : decode prog_6_method_3_code 26 = .ok (.putfield 16, 3) := by decide +kernel
theorem d_Li_add_29 : decode prog_6_method_3_code 29 = .ok (.return_, 1) := by decide +kernel
theorem d_SM_type_0 : decode prog_1_method_5_code 0 = .ok (.iload_n 3, 1) := by decide +kernel
theorem d_SM_type_1 : decode prog_1_method_5_code 1 = .ok (.iconst 1, 1) := by decide +kernel
theorem d_SM_type_2 : decode prog_1_method_5_code 2 = .ok (.if_icmp .lt 9, 3) := by decide +kernel
theorem d_SM_type_5 : decode prog_1_method_5_code 5 = .ok (.iload_n 3, 1) := by decide +kernel
theorem d_SM_type_6 : decode prog_1_method_5_code 6 = .ok (.bipush 8, 2) := by decide +kernel
theorem d_SM_type_8 : decode prog_1_method_5_code 8 = .ok (.if_icmp .le 11, 3) := by decide +kernel
theorem d_SM_type_11 : decode prog_1_method_5_code 11 = .ok (.new 48, 3) := by decide +kernel
theorem d_SM_type_14 : decode prog_1_method_5_code 14 = .ok (.dup, 1) := by decide +kernel
theorem d_SM_type_15 : decode prog_1_method_5_code 15 = .ok (.invokespecial 50, 3) := by decide +kernel
theorem d_SM_type_18 : decode prog_1_method_5_code 18 = .ok (.athrow, 1) := by decide +kernel
theorem d_SM_type_19 : decode prog_1_method_5_code 19 = .ok (.iconst 0, 1) := by decide +kernel
theorem d_SM_type_20 : decode prog_1_method_5_code 20 = .ok (.istore 4, 2) := by decide +kernel
theorem d_SM_type_22 : decode prog_1_method_5_code 22 = .ok (.iload 4, 2) := by decide +kernel
theorem d_SM_type_24 : decode prog_1_method_5_code 24 = .ok (.iload_n 3, 1) := by decide +kernel
theorem d_SM_type_25 : decode prog_1_method_5_code 25 = .ok (.if_icmp .ge 40, 3) := by decide +kernel
theorem d_SM_type_28 : decode prog_1_method_5_code 28 = .ok (.lload_n 1, 1) := by decide +kernel
theorem d_SM_type_29 : decode prog_1_method_5_code 29 = .ok (.iload_n 3, 1) := by decide +kernel
theorem d_SM_type_30 : decode prog_1_method_5_code 30 = .ok (.iload 4, 2) := by decide +kernel
theorem d_SM_type_32 : decode prog_1_method_5_code 32 = .ok (.invokestatic 55, 3) := by decide +kernel
theorem d_SM_type_35 : decode prog_1_method_5_code 35 = .ok (.istore 5, 2) := by decide +kernel
theorem d_SM_type_37 : decode prog_1_method_5_code 37 = .ok (.iload 5, 2) := by decide +kernel
theorem d_SM_type_39 : decode prog_1_method_5_code 39 = .ok (.bipush 32, 2) := by decide +kernel
theorem d_SM_type_41 : decode prog_1_method_5_code 41 = .ok (.if_icmp .lt 10, 3) := by decide +kernel
theorem d_SM_type_44 : decode prog_1_method_5_code 44 = .ok (.iload 5, 2) := by decide +kernel
theorem d_SM_type_46 : decode prog_1_method_5_code 46 = .ok (.bipush 126, 2) := by decide +kernel
theorem d_SM_type_48 : decode prog_1_method_5_code 48 = .ok (.if_icmp .le 11, 3) := by decide +kernel
theorem d_SM_type_51 : decode prog_1_method_5_code 51 = .ok (.new 48, 3) := by decide +kernel
theorem d_SM_type_54 : decode prog_1_method_5_code 54 = .ok (.dup, 1) := by decide +kernel
theorem d_SM_type_55 : decode prog_1_method_5_code 55 = .ok (.invokespecial 50, 3) := by decide +kernel
theorem d_SM_type_58 : decode prog_1_method_5_code 58 = .ok (.athrow, 1) := by decide +kernel
theorem d_SM_type_59 : decode prog_1_method_5_code 59 = .ok (.iinc 4 1, 3) := by decide +kernel
theorem d_SM_type_62 : decode prog_1_method_5_code 62 = .ok (.goto (-40), 3) := by decide +kernel
theorem d_SM_type_65 : decode prog_1_method_5_code 65 = .ok (.aload_n 0, 1) := by decide +kernel
theorem d_SM_type_66 : decode prog_1_method_5_code 66 = .ok (.getfield 27, 3) := by decide +kernel
theorem d_SM_type_69 : decode prog_1_method_5_code 69 = .ok (.getfield 70, 3) := by decide +kernel
theorem d_SM_type_72 : decode prog_1_method_5_code 72 = .ok (.iload_n 3, 1) := by decide +kernel
theorem d_SM_type_73 : decode prog_1_method_5_code 73 = .ok (.iadd, 1) := by decide +kernel
theorem d_SM_type_74 : decode prog_1_method_5_code 74 = .ok (.bipush 24, 2) := by decide +kernel
theorem d_SM_type_76 : decode prog_1_method_5_code 76 = .ok (.if_icmp .le 11, 3) := by decide +kernel
theorem d_SM_type_79 : decode prog_1_method_5_code 79 = .ok (.new 63, 3) := by decide +kernel
theorem d_SM_type_82 : decode prog_1_method_5_code 82 = .ok (.dup, 1) := by decide +kernel
theorem d_SM_type_83 : decode prog_1_method_5_code 83 = .ok (.invokespecial 65, 3) := by decide +kernel
theorem d_SM_type_86 : decode prog_1_method_5_code 86 = .ok (.athrow, 1) := by decide +kernel
theorem d_SM_type_87 : decode prog_1_method_5_code 87 = .ok (.iconst 0, 1) := by decide +kernel
theorem d_SM_type_88 : decode prog_1_method_5_code 88 = .ok (.istore 4, 2) := by decide +kernel
theorem d_SM_type_90 : decode prog_1_method_5_code 90 = .ok (.iload 4, 2) := by decide +kernel
theorem d_SM_type_92 : decode prog_1_method_5_code 92 = .ok (.iload_n 3, 1) := by decide +kernel
theorem d_SM_type_93 : decode prog_1_method_5_code 93 = .ok (.if_icmp .ge 23, 3) := by decide +kernel
theorem d_SM_type_96 : decode prog_1_method_5_code 96 = .ok (.aload_n 0, 1) := by decide +kernel
theorem d_SM_type_97 : decode prog_1_method_5_code 97 = .ok (.getfield 27, 3) := by decide +kernel
theorem d_SM_type_100 : decode prog_1_method_5_code 100 = .ok (.lload_n 1, 1) := by decide +kernel
theorem d_SM_type_101 : decode prog_1_method_5_code 101 = .ok (.iload_n 3, 1) := by decide +kernel
theorem d_SM_type_102 : decode prog_1_method_5_code 102 = .ok (.iload 4, 2) := by decide +kernel
theorem d_SM_type_104 : decode prog_1_method_5_code 104 = .ok (.invokestatic 55, 3) := by decide +kernel
theorem d_SM_type_107 : decode prog_1_method_5_code 107 = .ok (.invokevirtual 74, 3) := by decide +kernel
theorem d_SM_type_110 : decode prog_1_method_5_code 110 = .ok (.iinc 4 1, 3) := by decide +kernel
theorem d_SM_type_113 : decode prog_1_method_5_code 113 = .ok (.goto (-23), 3) := by decide +kernel
theorem d_SM_type_116 : decode prog_1_method_5_code 116 = .ok (.return_, 1) := by decide +kernel
theorem d_Mo_type_0 : decode prog_13_method_77_code 0 = .ok (.iload_n 3, 1) := by decide +kernel
theorem d_Mo_type_1 : decode prog_13_method_77_code 1 = .ok (.invokestatic 386, 3) := by decide +kernel
theorem d_Mo_type_4 : decode prog_13_method_77_code 4 = .ok (.istore 4, 2) := by decide +kernel
theorem d_Mo_type_6 : decode prog_13_method_77_code 6 = .ok (.iconst 0, 1) := by decide +kernel
theorem d_Mo_type_7 : decode prog_13_method_77_code 7 = .ok (.istore 5, 2) := by decide +kernel
theorem d_Mo_type_9 : decode prog_13_method_77_code 9 = .ok (.iload 5, 2) := by decide +kernel
theorem d_Mo_type_11 : decode prog_13_method_77_code 11 = .ok (.iload_n 3, 1) := by decide +kernel
theorem d_Mo_type_12 : decode prog_13_method_77_code 12 = .ok (.if_icmp .ge 52, 3) := by decide +kernel
theorem d_Mo_type_15 : decode prog_13_method_77_code 15 = .ok (.iload 4, 2) := by decide +kernel
theorem d_Mo_type_17 : decode prog_13_method_77_code 17 = .ok (.ifCond .eq 47, 3) := by decide +kernel
theorem d_Mo_type_20 : decode prog_13_method_77_code 20 = .ok (.lload_n 1, 1) := by decide +kernel
theorem d_Mo_type_21 : decode prog_13_method_77_code 21 = .ok (.bipush 8, 2) := by decide +kernel
theorem d_Mo_type_23 : decode prog_13_method_77_code 23 = .ok (.iload 5, 2) := by decide +kernel
theorem d_Mo_type_25 : decode prog_13_method_77_code 25 = .ok (.imul, 1) := by decide +kernel
theorem d_Mo_type_26 : decode prog_13_method_77_code 26 = .ok (.lshr, 1) := by decide +kernel
theorem d_Mo_type_27 : decode prog_13_method_77_code 27 = .ok (.ldc2_w 389, 3) := by decide +kernel
theorem d_Mo_type_30 : decode prog_13_method_77_code 30 = .ok (.land, 1) := by decide +kernel
theorem d_Mo_type_31 : decode prog_13_method_77_code 31 = .ok (.lstore 6, 2) := by decide +kernel
theorem d_Mo_type_33 : decode prog_13_method_77_code 33 = .ok (.lload 6, 2) := by decide +kernel
theorem d_Mo_type_35 : decode prog_13_method_77_code 35 = .ok (.ldc2_w 394, 3) := by decide +kernel
theorem d_Mo_type_38 : decode prog_13_method_77_code 38 = .ok (.lcmp, 1) := by decide +kernel
theorem d_Mo_type_39 : decode prog_13_method_77_code 39 = .ok (.ifCond .lt 16, 3) := by decide +kernel
theorem d_Mo_type_42 : decode prog_13_method_77_code 42 = .ok (.lload 6, 2) := by decide +kernel
theorem d_Mo_type_44 : decode prog_13_method_77_code 44 = .ok (.ldc2_w 396, 3) := by decide +kernel
theorem d_Mo_type_47 : decode prog_13_method_77_code 47 = .ok (.lcmp, 1) := by decide +kernel
theorem d_Mo_type_48 : decode prog_13_method_77_code 48 = .ok (.ifCond .gt 7, 3) := by decide +kernel
theorem d_Mo_type_51 : decode prog_13_method_77_code 51 = .ok (.iconst 1, 1) := by decide +kernel
theorem d_Mo_type_52 : decode prog_13_method_77_code 52 = .ok (.goto 4, 3) := by decide +kernel
theorem d_Mo_type_55 : decode prog_13_method_77_code 55 = .ok (.iconst 0, 1) := by decide +kernel
theorem d_Mo_type_56 : decode prog_13_method_77_code 56 = .ok (.istore 4, 2) := by decide +kernel
theorem d_Mo_type_58 : decode prog_13_method_77_code 58 = .ok (.iinc 5 1, 3) := by decide +kernel
theorem d_Mo_type_61 : decode prog_13_method_77_code 61 = .ok (.goto (-52), 3) := by decide +kernel
theorem d_Mo_type_64 : decode prog_13_method_77_code 64 = .ok (.aload_n 0, 1) := by decide +kernel
theorem d_Mo_type_65 : decode prog_13_method_77_code 65 = .ok (.iload 4, 2) := by decide +kernel
theorem d_Mo_type_67 : decode prog_13_method_77_code 67 = .ok (.ifCond .ne 7, 3) := by decide +kernel
theorem d_Mo_type_70 : decode prog_13_method_77_code 70 = .ok (.iconst 1, 1) := by decide +kernel
theorem d_Mo_type_71 : decode prog_13_method_77_code 71 = .ok (.goto 19, 3) := by decide +kernel
theorem d_Mo_type_74 : decode prog_13_method_77_code 74 = .ok (.aload_n 0, 1) := by decide +kernel
theorem d_Mo_type_75 : decode prog_13_method_77_code 75 = .ok (.getfield 391, 3) := by decide +kernel
theorem d_Mo_type_78 : decode prog_13_method_77_code 78 = .ok (.iload_n 3, 1) := by decide +kernel
theorem d_Mo_type_79 : decode prog_13_method_77_code 79 = .ok (.iadd, 1) := by decide +kernel
theorem d_Mo_type_80 : decode prog_13_method_77_code 80 = .ok (.bipush 24, 2) := by decide +kernel
theorem d_Mo_type_82 : decode prog_13_method_77_code 82 = .ok (.if_icmp .le 7, 3) := by decide +kernel
theorem d_Mo_type_85 : decode prog_13_method_77_code 85 = .ok (.iconst 2, 1) := by decide +kernel
theorem d_Mo_type_86 : decode prog_13_method_77_code 86 = .ok (.goto 4, 3) := by decide +kernel
theorem d_Mo_type_89 : decode prog_13_method_77_code 89 = .ok (.iconst 0, 1) := by decide +kernel
theorem d_Mo_type_90 : decode prog_13_method_77_code 90 = .ok (.putfield 73, 3) := by decide +kernel
theorem d_Mo_type_93 : decode prog_13_method_77_code 93 = .ok (.iload_n 3, 1) := by decide +kernel
theorem d_Mo_type_94 : decode prog_13_method_77_code 94 = .ok (.iconst 1, 1) := by decide +kernel
theorem d_Mo_type_95 : decode prog_13_method_77_code 95 = .ok (.isub, 1) := by decide +kernel
theorem d_Mo_type_96 : decode prog_13_method_77_code 96 = .ok (.istore 5, 2) := by decide +kernel
theorem d_Mo_type_98 : decode prog_13_method_77_code 98 = .ok (.iload 5, 2) := by decide +kernel
theorem d_Mo_type_100 : decode prog_13_method_77_code 100 = .ok (.ifCond .lt 47, 3) := by decide +kernel
theorem d_Mo_type_103 : decode prog_13_method_77_code 103 = .ok (.aload_n 0, 1) := by decide +kernel
theorem d_Mo_type_104 : decode prog_13_method_77_code 104 = .ok (.getfield 73, 3) := by decide +kernel
theorem d_Mo_type_107 : decode prog_13_method_77_code 107 = .ok (.ifCond .ne 40, 3) := by decide +kernel
theorem d_Mo_type_110 : decode prog_13_method_77_code 110 = .ok (.aload_n 0, 1) := by decide +kernel
theorem d_Mo_type_111 : decode prog_13_method_77_code 111 = .ok (.getfield 55, 3) := by decide +kernel
theorem d_Mo_type_114 : decode prog_13_method_77_code 114 = .ok (.aload_n 0, 1) := by decide +kernel
theorem d_Mo_type_115 : decode prog_13_method_77_code 115 = .ok (.getfield 391, 3) := by decide +kernel
theorem d_Mo_type_118 : decode prog_13_method_77_code 118 = .ok (.lload_n 1, 1) := by decide +kernel
theorem d_Mo_type_119 : decode prog_13_method_77_code 119 = .ok (.bipush 8, 2) := by decide +kernel
theorem d_Mo_type_121 : decode prog_13_method_77_code 121 = .ok (.iload 5, 2) := by decide +kernel
theorem d_Mo_type_123 : decode prog_13_method_77_code 123 = .ok (.imul, 1) := by decide +kernel
theorem d_Mo_type_124 : decode prog_13_method_77_code 124 = .ok (.lshr, 1) := by decide +kernel
theorem d_Mo_type_125 : decode prog_13_method_77_code 125 = .ok (.ldc2_w 389, 3) := by decide +kernel
theorem d_Mo_type_128 : decode prog_13_method_77_code 128 = .ok (.land, 1) := by decide +kernel
theorem d_Mo_type_129 : decode prog_13_method_77_code 129 = .ok (.l2i, 1) := by decide +kernel
theorem d_Mo_type_130 : decode prog_13_method_77_code 130 = .ok (.iastore, 1) := by decide +kernel
theorem d_Mo_type_131 : decode prog_13_method_77_code 131 = .ok (.aload_n 0, 1) := by decide +kernel
theorem d_Mo_type_132 : decode prog_13_method_77_code 132 = .ok (.dup, 1) := by decide +kernel
theorem d_Mo_type_133 : decode prog_13_method_77_code 133 = .ok (.getfield 391, 3) := by decide +kernel
theorem d_Mo_type_136 : decode prog_13_method_77_code 136 = .ok (.iconst 1, 1) := by decide +kernel
theorem d_Mo_type_137 : decode prog_13_method_77_code 137 = .ok (.iadd, 1) := by decide +kernel
theorem d_Mo_type_138 : decode prog_13_method_77_code 138 = .ok (.putfield 391, 3) := by decide +kernel
theorem d_Mo_type_141 : decode prog_13_method_77_code 141 = .ok (.iinc 5 (-1), 3) := by decide +kernel
theorem d_Mo_type_144 : decode prog_13_method_77_code 144 = .ok (.goto (-46), 3) := by decide +kernel
theorem d_Mo_type_147 : decode prog_13_method_77_code 147 = .ok (.return_, 1) := by decide +kernel
theorem d_La_type_0 : decode method_6_code 0 = .ok (.aload_n 0, 1) := by decide +kernel
theorem d_La_type_1 : decode method_6_code 1 = .ok (.lload_n 1, 1) := by decide +kernel
theorem d_La_type_2 : decode method_6_code 2 = .ok (.iload_n 3, 1) := by decide +kernel
theorem d_La_type_3 : decode method_6_code 3 = .ok (.invokevirtual 24, 3) := by decide +kernel
theorem d_La_type_6 : decode method_6_code 6 = .ok (.goto 11, 3) := by decide +kernel
theorem d_La_type_9 : decode method_6_code 9 = .ok (.astore 4, 2) := by decide +kernel
theorem d_La_type_11 : decode method_6_code 11 = .ok (.iconst 1, 1) := by decide +kernel
theorem d_La_type_12 : decode method_6_code 12 = .ok (.ireturn, 1) := by decide +kernel
theorem d_La_type_13 : decode method_6_code 13 = .ok (.astore 4, 2) := by decide +kernel
theorem d_La_type_15 : decode method_6_code 15 = .ok (.iconst 2, 1) := by decide +kernel
theorem d_La_type_16 : decode method_6_code 16 = .ok (.ireturn, 1) := by decide +kernel
theorem d_La_type_17 : decode method_6_code 17 = .ok (.iconst 0, 1) := by decide +kernel
theorem d_La_type_18 : decode method_6_code 18 = .ok (.ireturn, 1) := by decide +kernel
