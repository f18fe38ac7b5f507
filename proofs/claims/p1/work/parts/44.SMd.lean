/-! Contracts; written by wip/tools/p1.py. -/
set_option maxHeartbeats 4000000 in
set_option maxRecDepth 100000 in
theorem c_SM_run (l : Launch) (hfl : l.flags = pinnedFlags ++ [noTraceFlag]) (dC : Nat → ClassId) (dI : Nat → Nat → Nat) (cI : ClassId) (h0 q1 q2 q3 q4 q5 e_memory e_line e_routines e_printer e_variables e_tree e_dictionary e_instruction e_aside e_newLocals : Nat) (p0 : Int32) (sz : Nat) : tx_Met l ⟨"StoryMachine", "run", "(I)I"⟩ tw_tbl ({ frames := 7, cells := 1, slots := 6, locals := 130 }) (tq_P (dC, dI) vcl [.ref h0, .int p0] sz [(h0, .inr (0, [.ref q1, .ref q2, .ref q3, .ref q4, .ref q5])), (q5, .inr (5, [.ref e_memory, .ref e_line, .ref e_routines, .ref e_printer, .ref e_variables, .ref e_tree, .ref e_dictionary, .ref e_instruction, .ref e_aside, .ref e_newLocals, .int 0, .int (-1), .int 0, .int 0, .int 0]))] [(cI, .int)]) (tq_Q (fun o t => ((p0 < 1 ∨ 300 < p0) → ∃ x, o = .threw x ∧ ta_Ex "java/lang/IllegalArgumentException" x t) ∧ (¬ (p0 < 1 ∨ 300 < p0) → ∃ x, o = .threw x ∧ ta_Ex "java/lang/IllegalStateException" x t)) (va_A [(h0, .inr (0, [.ref q1, .ref q2, .ref q3, .ref q4, .ref q5])), (q5, .inr (5, [.ref e_memory, .ref e_line, .ref e_routines, .ref e_printer, .ref e_variables, .ref e_tree, .ref e_dictionary, .ref e_instruction, .ref e_aside, .ref e_newLocals, .int 0, .int (-1), .int 0, .int 0, .int 0]))] sz)) 1 6 (va_A [(h0, .inr (0, [.ref q1, .ref q2, .ref q3, .ref q4, .ref q5])), (q5, .inr (5, [.ref e_memory, .ref e_line, .ref e_routines, .ref e_printer, .ref e_variables, .ref e_tree, .ref e_dictionary, .ref e_instruction, .ref e_aside, .ref e_newLocals, .int 0, .int (-1), .int 0, .int 0, .int 0]))] sz) := by
  refine tx_ofW (cc := prog_1_method_7_code) (maxL := 4) (ret := (some .int)) (by decide) (tx_isM mw_487) ?_
  intro p e s m args below meth c s₁ B hml hv
  obtain ⟨rfl, hsz, hP, hK, hD0, hst0⟩ := hv
  have hx := B.exec
  have hb := B.bytes
  have hr := B.returns
  have hts := atoms_spec (ws := tw_tbl) B.pre
  have hown : s.vm.findClass "StoryMachine" = some m.cls := findClass_of_methodNamed B.named
  have hlocks := B.notSynchronized
  subst hsz
  have hD := hD0.self (sz := s.heap.size)
  have hst := fun (H : Heap) (locs : List Loc) (hS : va_S (va_A [(h0, .inr (0, [.ref q1, .ref q2, .ref q3, .ref q4, .ref q5])), (q5, .inr (5, [.ref e_memory, .ref e_line, .ref e_routines, .ref e_printer, .ref e_variables, .ref e_tree, .ref e_dictionary, .ref e_instruction, .ref e_aside, .ref e_newLocals, .int 0, .int (-1), .int 0, .int 0, .int 0]))] s.heap.size) s.heap H locs) (U : State) (hU : U.heap = H) (hW : s.WarmedH U.vm) => ts_keep hW (fun q cell h1 h2 => by rw [hU]; exact ts_va hP hS q cell h1 h2) hst0
  generalize hAe : va_A [(h0, .inr (0, [.ref q1, .ref q2, .ref q3, .ref q4, .ref q5])), (q5, .inr (5, [.ref e_memory, .ref e_line, .ref e_routines, .ref e_printer, .ref e_variables, .ref e_tree, .ref e_dictionary, .ref e_instruction, .ref e_aside, .ref e_newLocals, .int 0, .int (-1), .int 0, .int 0, .int 0]))] s.heap.size = A at hD hst ⊢
  have hA : ∀ q : Nat, s.heap.size ≤ q → A q := fun q h => by rw [← hAe]; exact Or.inr h
  have hS : va_S A s.heap s.heap [] := va_S.rf
  have hP : va_P (dC, dI) vcl [(h0, .inr (0, [.ref q1, .ref q2, .ref q3, .ref q4, .ref q5])), (q5, .inr (5, [.ref e_memory, .ref e_line, .ref e_routines, .ref e_printer, .ref e_variables, .ref e_tree, .ref e_dictionary, .ref e_instruction, .ref e_aside, .ref e_newLocals, .int 0, .int (-1), .int 0, .int 0, .int 0]))] s.heap := hP
  have hl := lv_entry ([.ref h0, .int p0]) (n := 4) (Nat.le_of_ble_eq_true rfl)
  rw [lg_entry_eq]
  generalize (lg_sl ([.ref h0, .int p0]) ++ List.replicate (4 - (lg_sl ([.ref h0, .int p0])).length) Slot.unset).toArray = ls at hl ⊢
  have hl : lv_has ls 4 [(0, .ref h0), (1, .int p0)] := hl
  refine lv_iload_n hx hb d_SM_run_0 rfl (lv_at hl 1 rfl) ?_
  refine lv_iconst (v := 1) hx hb d_SM_run_1 (by decide) ?_
  refine lv_icmp_lt (tgt := 12) hx hb d_SM_run_2 (by decide) (fun hc2 => ?_) (fun hc2 => ?_)
  · refine W.widen (k := 0) (n := 0) (Nat.le_of_ble_eq_true rfl) (Nat.le_of_ble_eq_true rfl) ?_
    exact tth_SM_IllegalArgumentException hx hb hfl hown hts (hst _ _ hS) (by rw [hml]; exact hl.1) d_SM_run_12 d_SM_run_15 d_SM_run_16 d_SM_run_19 (tx_noH B (hts _ mw_487) _) (Nat.le_of_ble_eq_true rfl) (Nat.le_of_ble_eq_true rfl) (Nat.le_of_ble_eq_true rfl) (Nat.le_of_ble_eq_true rfl) (fun t ce hW hz hk hce hcl hvm => ⟨⟨fun _ => ⟨_, rfl, ce, hce, hcl, hvm⟩, fun h => absurd (Or.inl hc2) h⟩, ta_thrown hS hz hk⟩) hS.2.2 hlocks
  · refine lv_iload_n hx hb d_SM_run_5 rfl (lv_at hl 1 rfl) ?_
    refine lv_sipush (v := 300) hx hb d_SM_run_6 (by decide) ?_
    refine lv_icmp_le (tgt := 20) hx hb d_SM_run_9 (by decide) (fun hc9 => ?_) (fun hc9 => ?_)
    · refine lv_aload_n hx hb d_SM_run_20 rfl (lv_at hl 0 rfl) ?_
      refine va_get (D := (dC, dI)) (ci := 0) (v := .ref q5) (C := "StoryMachine") (T := T_SM) (N := 5) hx hb hts in_SM hown hK hP 0 rfl rfl 4 (by decide) (hts _ mw_314) (fun _ h9 => h9) rfl d_SM_run_21 ?_
      refine va_get (D := (dC, dI)) (ci := 5) (v := .int 0) (C := "StoryMachine$Engine") (T := T_En) (N := 15) hx hb hts in_En hown hK hP 1 rfl rfl 10 (by decide) (hts _ mw_272) (fun _ h9 => h9) rfl d_SM_run_24 ?_
      refine lv_if_ne (tgt := 38) hx hb d_SM_run_27 (by decide) (fun h => absurd h (by decide)) (fun _ => ?_)
      refine W.widen (k := 0) (n := 0) (Nat.le_of_ble_eq_true rfl) (Nat.le_of_ble_eq_true rfl) ?_
      exact tth_SM_IllegalStateException hx hb hfl hown hts (hst _ _ hS) (by rw [hml]; exact hl.1) d_SM_run_30 d_SM_run_33 d_SM_run_34 d_SM_run_37 (tx_noH B (hts _ mw_487) _) (Nat.le_of_ble_eq_true rfl) (Nat.le_of_ble_eq_true rfl) (Nat.le_of_ble_eq_true rfl) (Nat.le_of_ble_eq_true rfl) (fun t ce hW hz hk hce hcl hvm => ⟨⟨fun h => absurd h (fun h => h.elim hc2 (fun h => (Int32.not_lt.mpr hc9) h)), fun _ => ⟨_, rfl, ce, hce, hcl, hvm⟩⟩, ta_thrown hS hz hk⟩) hS.2.2 hlocks
    · refine W.widen (k := 0) (n := 0) (Nat.le_of_ble_eq_true rfl) (Nat.le_of_ble_eq_true rfl) ?_
      exact tth_SM_IllegalArgumentException hx hb hfl hown hts (hst _ _ hS) (by rw [hml]; exact hl.1) d_SM_run_12 d_SM_run_15 d_SM_run_16 d_SM_run_19 (tx_noH B (hts _ mw_487) _) (Nat.le_of_ble_eq_true rfl) (Nat.le_of_ble_eq_true rfl) (Nat.le_of_ble_eq_true rfl) (Nat.le_of_ble_eq_true rfl) (fun t ce hW hz hk hce hcl hvm => ⟨⟨fun _ => ⟨_, rfl, ce, hce, hcl, hvm⟩, fun h => absurd (Or.inr ((Int32.not_le.mp hc9))) h⟩, ta_thrown hS hz hk⟩) hS.2.2 hlocks
set_option maxHeartbeats 4000000 in
set_option maxRecDepth 100000 in
theorem c_SM_steps (l : Launch) (hfl : l.flags = pinnedFlags ++ [noTraceFlag]) (dC : Nat → ClassId) (dI : Nat → Nat → Nat) (cI : ClassId) (h0 q1 q2 q3 q4 q5 e_memory e_line e_routines e_printer e_variables e_tree e_dictionary e_instruction e_aside e_newLocals : Nat) (sz : Nat) : tx_Met l ⟨"StoryMachine", "steps", "()I"⟩ tw_tbl ({ frames := 0, cells := 0, slots := 0, locals := 0 }) (tq_P (dC, dI) vcl [.ref h0] sz [(h0, .inr (0, [.ref q1, .ref q2, .ref q3, .ref q4, .ref q5])), (q5, .inr (5, [.ref e_memory, .ref e_line, .ref e_routines, .ref e_printer, .ref e_variables, .ref e_tree, .ref e_dictionary, .ref e_instruction, .ref e_aside, .ref e_newLocals, .int 0, .int (-1), .int 0, .int 0, .int 0]))] [(cI, .int)]) (tq_Q (fun o t => o = .returned (some (.int 0))) (va_A [(h0, .inr (0, [.ref q1, .ref q2, .ref q3, .ref q4, .ref q5])), (q5, .inr (5, [.ref e_memory, .ref e_line, .ref e_routines, .ref e_printer, .ref e_variables, .ref e_tree, .ref e_dictionary, .ref e_instruction, .ref e_aside, .ref e_newLocals, .int 0, .int (-1), .int 0, .int 0, .int 0]))] sz)) 0 0 (va_A [(h0, .inr (0, [.ref q1, .ref q2, .ref q3, .ref q4, .ref q5])), (q5, .inr (5, [.ref e_memory, .ref e_line, .ref e_routines, .ref e_printer, .ref e_variables, .ref e_tree, .ref e_dictionary, .ref e_instruction, .ref e_aside, .ref e_newLocals, .int 0, .int (-1), .int 0, .int 0, .int 0]))] sz) := by
  refine tx_ofW (cc := prog_1_method_8_code) (maxL := 1) (ret := (some .int)) (by decide) (tx_isM mw_337) ?_
  intro p e s m args below meth c s₁ B hml hv
  obtain ⟨rfl, hsz, hP, hK, hD0, hst0⟩ := hv
  have hx := B.exec
  have hb := B.bytes
  have hr := B.returns
  have hts := atoms_spec (ws := tw_tbl) B.pre
  have hown : s.vm.findClass "StoryMachine" = some m.cls := findClass_of_methodNamed B.named
  have hlocks := B.notSynchronized
  subst hsz
  have hD := hD0.self (sz := s.heap.size)
  have hst := fun (H : Heap) (locs : List Loc) (hS : va_S (va_A [(h0, .inr (0, [.ref q1, .ref q2, .ref q3, .ref q4, .ref q5])), (q5, .inr (5, [.ref e_memory, .ref e_line, .ref e_routines, .ref e_printer, .ref e_variables, .ref e_tree, .ref e_dictionary, .ref e_instruction, .ref e_aside, .ref e_newLocals, .int 0, .int (-1), .int 0, .int 0, .int 0]))] s.heap.size) s.heap H locs) (U : State) (hU : U.heap = H) (hW : s.WarmedH U.vm) => ts_keep hW (fun q cell h1 h2 => by rw [hU]; exact ts_va hP hS q cell h1 h2) hst0
  generalize hAe : va_A [(h0, .inr (0, [.ref q1, .ref q2, .ref q3, .ref q4, .ref q5])), (q5, .inr (5, [.ref e_memory, .ref e_line, .ref e_routines, .ref e_printer, .ref e_variables, .ref e_tree, .ref e_dictionary, .ref e_instruction, .ref e_aside, .ref e_newLocals, .int 0, .int (-1), .int 0, .int 0, .int 0]))] s.heap.size = A at hD hst ⊢
  have hA : ∀ q : Nat, s.heap.size ≤ q → A q := fun q h => by rw [← hAe]; exact Or.inr h
  have hS : va_S A s.heap s.heap [] := va_S.rf
  have hP : va_P (dC, dI) vcl [(h0, .inr (0, [.ref q1, .ref q2, .ref q3, .ref q4, .ref q5])), (q5, .inr (5, [.ref e_memory, .ref e_line, .ref e_routines, .ref e_printer, .ref e_variables, .ref e_tree, .ref e_dictionary, .ref e_instruction, .ref e_aside, .ref e_newLocals, .int 0, .int (-1), .int 0, .int 0, .int 0]))] s.heap := hP
  have hl := lv_entry ([.ref h0]) (n := 1) (Nat.le_of_ble_eq_true rfl)
  rw [lg_entry_eq]
  generalize (lg_sl ([.ref h0]) ++ List.replicate (1 - (lg_sl ([.ref h0])).length) Slot.unset).toArray = ls at hl ⊢
  have hl : lv_has ls 1 [(0, .ref h0)] := hl
  refine lv_aload_n hx hb d_SM_steps_0 rfl (lv_at hl 0 rfl) ?_
  refine va_get (D := (dC, dI)) (ci := 0) (v := .ref q5) (C := "StoryMachine") (T := T_SM) (N := 5) hx hb hts in_SM hown hK hP 0 rfl rfl 4 (by decide) (hts _ mw_314) (fun _ h9 => h9) rfl d_SM_steps_1 ?_
  refine va_get (D := (dC, dI)) (ci := 5) (v := .int 0) (C := "StoryMachine$Engine") (T := T_En) (N := 15) hx hb hts in_En hown hK hP 1 rfl rfl 12 (by decide) (hts _ mw_276) (fun _ h9 => h9) rfl d_SM_steps_4 ?_
  refine W.widen (k := 0) (n := 0) (Nat.le_of_ble_eq_true rfl) (Nat.le_of_ble_eq_true rfl) ?_
  exact tx_ret (W.iret (v := 0) hx hb hr (fun t ht hW => ⟨rfl, hS.F ht⟩) (hS.2.2) d_SM_steps_7)
set_option maxHeartbeats 4000000 in
set_option maxRecDepth 100000 in
theorem c_SM_place (l : Launch) (hfl : l.flags = pinnedFlags ++ [noTraceFlag]) (dC : Nat → ClassId) (dI : Nat → Nat → Nat) (cI : ClassId) (h0 q1 q2 q3 q4 q5 e_memory e_line e_routines e_printer e_variables e_tree e_dictionary e_instruction e_aside e_newLocals : Nat) (sz : Nat) : tx_Met l ⟨"StoryMachine", "place", "()I"⟩ tw_tbl ({ frames := 0, cells := 0, slots := 0, locals := 0 }) (tq_P (dC, dI) vcl [.ref h0] sz [(h0, .inr (0, [.ref q1, .ref q2, .ref q3, .ref q4, .ref q5])), (q5, .inr (5, [.ref e_memory, .ref e_line, .ref e_routines, .ref e_printer, .ref e_variables, .ref e_tree, .ref e_dictionary, .ref e_instruction, .ref e_aside, .ref e_newLocals, .int 0, .int (-1), .int 0, .int 0, .int 0]))] [(cI, .int)]) (tq_Q (fun o t => o = .returned (some (.int (-1)))) (va_A [(h0, .inr (0, [.ref q1, .ref q2, .ref q3, .ref q4, .ref q5])), (q5, .inr (5, [.ref e_memory, .ref e_line, .ref e_routines, .ref e_printer, .ref e_variables, .ref e_tree, .ref e_dictionary, .ref e_instruction, .ref e_aside, .ref e_newLocals, .int 0, .int (-1), .int 0, .int 0, .int 0]))] sz)) 0 0 (va_A [(h0, .inr (0, [.ref q1, .ref q2, .ref q3, .ref q4, .ref q5])), (q5, .inr (5, [.ref e_memory, .ref e_line, .ref e_routines, .ref e_printer, .ref e_variables, .ref e_tree, .ref e_dictionary, .ref e_instruction, .ref e_aside, .ref e_newLocals, .int 0, .int (-1), .int 0, .int 0, .int 0]))] sz) := by
  refine tx_ofW (cc := prog_1_method_9_code) (maxL := 1) (ret := (some .int)) (by decide) (tx_isM mw_341) ?_
  intro p e s m args below meth c s₁ B hml hv
  obtain ⟨rfl, hsz, hP, hK, hD0, hst0⟩ := hv
  have hx := B.exec
  have hb := B.bytes
  have hr := B.returns
  have hts := atoms_spec (ws := tw_tbl) B.pre
  have hown : s.vm.findClass "StoryMachine" = some m.cls := findClass_of_methodNamed B.named
  have hlocks := B.notSynchronized
  subst hsz
  have hD := hD0.self (sz := s.heap.size)
  have hst := fun (H : Heap) (locs : List Loc) (hS : va_S (va_A [(h0, .inr (0, [.ref q1, .ref q2, .ref q3, .ref q4, .ref q5])), (q5, .inr (5, [.ref e_memory, .ref e_line, .ref e_routines, .ref e_printer, .ref e_variables, .ref e_tree, .ref e_dictionary, .ref e_instruction, .ref e_aside, .ref e_newLocals, .int 0, .int (-1), .int 0, .int 0, .int 0]))] s.heap.size) s.heap H locs) (U : State) (hU : U.heap = H) (hW : s.WarmedH U.vm) => ts_keep hW (fun q cell h1 h2 => by rw [hU]; exact ts_va hP hS q cell h1 h2) hst0
  generalize hAe : va_A [(h0, .inr (0, [.ref q1, .ref q2, .ref q3, .ref q4, .ref q5])), (q5, .inr (5, [.ref e_memory, .ref e_line, .ref e_routines, .ref e_printer, .ref e_variables, .ref e_tree, .ref e_dictionary, .ref e_instruction, .ref e_aside, .ref e_newLocals, .int 0, .int (-1), .int 0, .int 0, .int 0]))] s.heap.size = A at hD hst ⊢
  have hA : ∀ q : Nat, s.heap.size ≤ q → A q := fun q h => by rw [← hAe]; exact Or.inr h
  have hS : va_S A s.heap s.heap [] := va_S.rf
  have hP : va_P (dC, dI) vcl [(h0, .inr (0, [.ref q1, .ref q2, .ref q3, .ref q4, .ref q5])), (q5, .inr (5, [.ref e_memory, .ref e_line, .ref e_routines, .ref e_printer, .ref e_variables, .ref e_tree, .ref e_dictionary, .ref e_instruction, .ref e_aside, .ref e_newLocals, .int 0, .int (-1), .int 0, .int 0, .int 0]))] s.heap := hP
  have hl := lv_entry ([.ref h0]) (n := 1) (Nat.le_of_ble_eq_true rfl)
  rw [lg_entry_eq]
  generalize (lg_sl ([.ref h0]) ++ List.replicate (1 - (lg_sl ([.ref h0])).length) Slot.unset).toArray = ls at hl ⊢
  have hl : lv_has ls 1 [(0, .ref h0)] := hl
  refine lv_aload_n hx hb d_SM_place_0 rfl (lv_at hl 0 rfl) ?_
  refine va_get (D := (dC, dI)) (ci := 0) (v := .ref q5) (C := "StoryMachine") (T := T_SM) (N := 5) hx hb hts in_SM hown hK hP 0 rfl rfl 4 (by decide) (hts _ mw_314) (fun _ h9 => h9) rfl d_SM_place_1 ?_
  refine va_get (D := (dC, dI)) (ci := 5) (v := .int (-1)) (C := "StoryMachine$Engine") (T := T_En) (N := 15) hx hb hts in_En hown hK hP 1 rfl rfl 11 (by decide) (hts _ mw_274) (fun _ h9 => h9) rfl d_SM_place_4 ?_
  refine W.widen (k := 0) (n := 0) (Nat.le_of_ble_eq_true rfl) (Nat.le_of_ble_eq_true rfl) ?_
  exact tx_ret (W.iret (v := (-1)) hx hb hr (fun t ht hW => ⟨rfl, hS.F ht⟩) (hS.2.2) d_SM_place_7)
set_option maxHeartbeats 4000000 in
set_option maxRecDepth 100000 in
theorem c_SM_routines (l : Launch) (hfl : l.flags = pinnedFlags ++ [noTraceFlag]) (dC : Nat → ClassId) (dI : Nat → Nat → Nat) (cI : ClassId) (h0 q1 q2 q3 q4 q5 r_words r_floors r_behinds r_results r_localCounts r_locals : Nat) (sz : Nat) : tx_Met l ⟨"StoryMachine", "routines", "()I"⟩ tw_tbl ({ frames := 0, cells := 0, slots := 0, locals := 0 }) (tq_P (dC, dI) vcl [.ref h0] sz [(h0, .inr (0, [.ref q1, .ref q2, .ref q3, .ref q4, .ref q5])), (q3, .inr (3, [.ref r_words, .int 0, .int 0, .ref r_floors, .ref r_behinds, .ref r_results, .ref r_localCounts, .ref r_locals]))] [(cI, .int)]) (tq_Q (fun o t => o = .returned (some (.int 0))) (va_A [(h0, .inr (0, [.ref q1, .ref q2, .ref q3, .ref q4, .ref q5])), (q3, .inr (3, [.ref r_words, .int 0, .int 0, .ref r_floors, .ref r_behinds, .ref r_results, .ref r_localCounts, .ref r_locals]))] sz)) 0 0 (va_A [(h0, .inr (0, [.ref q1, .ref q2, .ref q3, .ref q4, .ref q5])), (q3, .inr (3, [.ref r_words, .int 0, .int 0, .ref r_floors, .ref r_behinds, .ref r_results, .ref r_localCounts, .ref r_locals]))] sz) := by
  refine tx_ofW (cc := prog_1_method_13_code) (maxL := 1) (ret := (some .int)) (by decide) (tx_isM mw_345) ?_
  intro p e s m args below meth c s₁ B hml hv
  obtain ⟨rfl, hsz, hP, hK, hD0, hst0⟩ := hv
  have hx := B.exec
  have hb := B.bytes
  have hr := B.returns
  have hts := atoms_spec (ws := tw_tbl) B.pre
  have hown : s.vm.findClass "StoryMachine" = some m.cls := findClass_of_methodNamed B.named
  have hlocks := B.notSynchronized
  subst hsz
  have hD := hD0.self (sz := s.heap.size)
  have hst := fun (H : Heap) (locs : List Loc) (hS : va_S (va_A [(h0, .inr (0, [.ref q1, .ref q2, .ref q3, .ref q4, .ref q5])), (q3, .inr (3, [.ref r_words, .int 0, .int 0, .ref r_floors, .ref r_behinds, .ref r_results, .ref r_localCounts, .ref r_locals]))] s.heap.size) s.heap H locs) (U : State) (hU : U.heap = H) (hW : s.WarmedH U.vm) => ts_keep hW (fun q cell h1 h2 => by rw [hU]; exact ts_va hP hS q cell h1 h2) hst0
  generalize hAe : va_A [(h0, .inr (0, [.ref q1, .ref q2, .ref q3, .ref q4, .ref q5])), (q3, .inr (3, [.ref r_words, .int 0, .int 0, .ref r_floors, .ref r_behinds, .ref r_results, .ref r_localCounts, .ref r_locals]))] s.heap.size = A at hD hst ⊢
  have hA : ∀ q : Nat, s.heap.size ≤ q → A q := fun q h => by rw [← hAe]; exact Or.inr h
  have hS : va_S A s.heap s.heap [] := va_S.rf
  have hP : va_P (dC, dI) vcl [(h0, .inr (0, [.ref q1, .ref q2, .ref q3, .ref q4, .ref q5])), (q3, .inr (3, [.ref r_words, .int 0, .int 0, .ref r_floors, .ref r_behinds, .ref r_results, .ref r_localCounts, .ref r_locals]))] s.heap := hP
  have hl := lv_entry ([.ref h0]) (n := 1) (Nat.le_of_ble_eq_true rfl)
  rw [lg_entry_eq]
  generalize (lg_sl ([.ref h0]) ++ List.replicate (1 - (lg_sl ([.ref h0])).length) Slot.unset).toArray = ls at hl ⊢
  have hl : lv_has ls 1 [(0, .ref h0)] := hl
  refine lv_aload_n hx hb d_SM_routines_0 rfl (lv_at hl 0 rfl) ?_
  refine va_get (D := (dC, dI)) (ci := 0) (v := .ref q3) (C := "StoryMachine") (T := T_SM) (N := 5) hx hb hts in_SM hown hK hP 0 rfl rfl 2 (by decide) (hts _ mw_312) (fun _ h9 => h9) rfl d_SM_routines_1 ?_
  refine va_get (D := (dC, dI)) (ci := 3) (v := .int 0) (C := "StoryMachine$Routines") (T := T_Ro) (N := 8) hx hb hts in_Ro hown hK hP 1 rfl rfl 2 (by decide) (hts _ mw_85) (fun _ h9 => h9) rfl d_SM_routines_4 ?_
  refine W.widen (k := 0) (n := 0) (Nat.le_of_ble_eq_true rfl) (Nat.le_of_ble_eq_true rfl) ?_
  exact tx_ret (W.iret (v := 0) hx hb hr (fun t ht hW => ⟨rfl, hS.F ht⟩) (hS.2.2) d_SM_routines_7)
set_option maxHeartbeats 4000000 in
set_option maxRecDepth 100000 in
theorem c_SM_output (l : Launch) (hfl : l.flags = pinnedFlags ++ [noTraceFlag]) (dC : Nat → ClassId) (dI : Nat → Nat → Nat) (cI : ClassId) (h0 q1 q2 q3 q4 q5 p_memory p_kept : Nat) (p0 : Int32) (sz : Nat) : tx_Met l ⟨"StoryMachine", "output", "(I)I"⟩ tw_tbl ({ frames := 7, cells := 1, slots := 6, locals := 130 }) (tq_P (dC, dI) vcl [.ref h0, .int p0] sz [(h0, .inr (0, [.ref q1, .ref q2, .ref q3, .ref q4, .ref q5])), (q4, .inr (4, [.ref p_memory, .ref p_kept, .int 0, .int 0, .int 0]))] [(cI, .int)]) (tq_Q (fun o t => ((p0 < (-1) ∨ 64 ≤ p0 ∨ 0 ≤ p0) → ∃ x, o = .threw x ∧ ta_Ex "java/lang/IndexOutOfBoundsException" x t) ∧ (¬ (p0 < (-1) ∨ 64 ≤ p0 ∨ 0 ≤ p0) → o = .returned (some (.int 0)))) (va_A [(h0, .inr (0, [.ref q1, .ref q2, .ref q3, .ref q4, .ref q5])), (q4, .inr (4, [.ref p_memory, .ref p_kept, .int 0, .int 0, .int 0]))] sz)) 1 6 (va_A [(h0, .inr (0, [.ref q1, .ref q2, .ref q3, .ref q4, .ref q5])), (q4, .inr (4, [.ref p_memory, .ref p_kept, .int 0, .int 0, .int 0]))] sz) := by
  refine tx_ofW (cc := prog_1_method_10_code) (maxL := 2) (ret := (some .int)) (by decide) (tx_isM mw_1018) ?_
  intro p e s m args below meth c s₁ B hml hv
  obtain ⟨rfl, hsz, hP, hK, hD0, hst0⟩ := hv
  have hx := B.exec
  have hb := B.bytes
  have hr := B.returns
  have hts := atoms_spec (ws := tw_tbl) B.pre
  have hown : s.vm.findClass "StoryMachine" = some m.cls := findClass_of_methodNamed B.named
  have hlocks := B.notSynchronized
  subst hsz
  have hD := hD0.self (sz := s.heap.size)
  have hst := fun (H : Heap) (locs : List Loc) (hS : va_S (va_A [(h0, .inr (0, [.ref q1, .ref q2, .ref q3, .ref q4, .ref q5])), (q4, .inr (4, [.ref p_memory, .ref p_kept, .int 0, .int 0, .int 0]))] s.heap.size) s.heap H locs) (U : State) (hU : U.heap = H) (hW : s.WarmedH U.vm) => ts_keep hW (fun q cell h1 h2 => by rw [hU]; exact ts_va hP hS q cell h1 h2) hst0
  generalize hAe : va_A [(h0, .inr (0, [.ref q1, .ref q2, .ref q3, .ref q4, .ref q5])), (q4, .inr (4, [.ref p_memory, .ref p_kept, .int 0, .int 0, .int 0]))] s.heap.size = A at hD hst ⊢
  have hA : ∀ q : Nat, s.heap.size ≤ q → A q := fun q h => by rw [← hAe]; exact Or.inr h
  have hS : va_S A s.heap s.heap [] := va_S.rf
  have hP : va_P (dC, dI) vcl [(h0, .inr (0, [.ref q1, .ref q2, .ref q3, .ref q4, .ref q5])), (q4, .inr (4, [.ref p_memory, .ref p_kept, .int 0, .int 0, .int 0]))] s.heap := hP
  have hl := lv_entry ([.ref h0, .int p0]) (n := 2) (Nat.le_of_ble_eq_true rfl)
  rw [lg_entry_eq]
  generalize (lg_sl ([.ref h0, .int p0]) ++ List.replicate (2 - (lg_sl ([.ref h0, .int p0])).length) Slot.unset).toArray = ls at hl ⊢
  have hl : lv_has ls 2 [(0, .ref h0), (1, .int p0)] := hl
  refine lv_iload_n hx hb d_SM_output_0 rfl (lv_at hl 1 rfl) ?_
  refine lv_iconst (v := (-1)) hx hb d_SM_output_1 (by decide) ?_
  refine lv_icmp_lt (tgt := 22) hx hb d_SM_output_2 (by decide) (fun hc2 => ?_) (fun hc2 => ?_)
  · refine W.widen (k := 0) (n := 0) (Nat.le_of_ble_eq_true rfl) (Nat.le_of_ble_eq_true rfl) ?_
    exact tth_SM_IndexOutOfBoundsException hx hb hfl hown hts (hst _ _ hS) (by rw [hml]; exact hl.1) d_SM_output_22 d_SM_output_25 d_SM_output_26 d_SM_output_29 (tx_noH B (hts _ mw_1018) _) (Nat.le_of_ble_eq_true rfl) (Nat.le_of_ble_eq_true rfl) (Nat.le_of_ble_eq_true rfl) (Nat.le_of_ble_eq_true rfl) (fun t ce hW hz hk hce hcl hvm => ⟨⟨fun _ => ⟨_, rfl, ce, hce, hcl, hvm⟩, fun h => absurd (Or.inl hc2) h⟩, ta_thrown hS hz hk⟩) hS.2.2 hlocks
  · refine lv_iload_n hx hb d_SM_output_5 rfl (lv_at hl 1 rfl) ?_
    refine lv_bipush (v := 64) hx hb d_SM_output_6 (by decide) ?_
    refine lv_icmp_ge (tgt := 22) hx hb d_SM_output_8 (by decide) (fun hc8 => ?_) (fun hc8 => ?_)
    · refine W.widen (k := 0) (n := 0) (Nat.le_of_ble_eq_true rfl) (Nat.le_of_ble_eq_true rfl) ?_
      exact tth_SM_IndexOutOfBoundsException hx hb hfl hown hts (hst _ _ hS) (by rw [hml]; exact hl.1) d_SM_output_22 d_SM_output_25 d_SM_output_26 d_SM_output_29 (tx_noH B (hts _ mw_1018) _) (Nat.le_of_ble_eq_true rfl) (Nat.le_of_ble_eq_true rfl) (Nat.le_of_ble_eq_true rfl) (Nat.le_of_ble_eq_true rfl) (fun t ce hW hz hk hce hcl hvm => ⟨⟨fun _ => ⟨_, rfl, ce, hce, hcl, hvm⟩, fun h => absurd (Or.inr (Or.inl hc8)) h⟩, ta_thrown hS hz hk⟩) hS.2.2 hlocks
    · refine lv_iload_n hx hb d_SM_output_11 rfl (lv_at hl 1 rfl) ?_
      refine lv_aload_n hx hb d_SM_output_12 rfl (lv_at hl 0 rfl) ?_
      refine va_get (D := (dC, dI)) (ci := 0) (v := .ref q4) (C := "StoryMachine") (T := T_SM) (N := 5) hx hb hts in_SM hown hK hP 0 rfl rfl 3 (by decide) (hts _ mw_313) (fun _ h9 => h9) rfl d_SM_output_13 ?_
      refine va_get (D := (dC, dI)) (ci := 4) (v := .int 0) (C := "StoryMachine$Printer") (T := T_Pr) (N := 5) hx hb hts in_Pr hown hK hP 1 rfl rfl 2 (by decide) (hts _ mw_118) (fun _ h9 => h9) rfl d_SM_output_16 ?_
      refine lv_icmp_lt (tgt := 30) hx hb d_SM_output_19 (by decide) (fun hc19 => ?_) (fun hc19 => ?_)
      · refine lv_iload_n hx hb d_SM_output_30 rfl (lv_at hl 1 rfl) ?_
        refine lv_iconst (v := (-1)) hx hb d_SM_output_31 (by decide) ?_
        refine lv_icmp_ne (tgt := 45) hx hb d_SM_output_32 (by decide) (fun h => absurd (ti_m1 hc2 (Int32.not_le.mpr hc19)) h) (fun hc32 => ?_)
        refine lv_aload_n hx hb d_SM_output_35 rfl (lv_at hl 0 rfl) ?_
        refine va_get (D := (dC, dI)) (ci := 0) (v := .ref q4) (C := "StoryMachine") (T := T_SM) (N := 5) hx hb hts in_SM hown hK hP 0 rfl rfl 3 (by decide) (hts _ mw_313) (fun _ h9 => h9) rfl d_SM_output_36 ?_
        refine va_get (D := (dC, dI)) (ci := 4) (v := .int 0) (C := "StoryMachine$Printer") (T := T_Pr) (N := 5) hx hb hts in_Pr hown hK hP 1 rfl rfl 2 (by decide) (hts _ mw_118) (fun _ h9 => h9) rfl d_SM_output_39 ?_
        refine lv_goto (tgt := 53) hx hb d_SM_output_42 (by decide) ?_
        refine W.widen (k := 1) (n := 6) (Nat.le_of_ble_eq_true rfl) (Nat.le_of_ble_eq_true rfl) ?_
        exact tx_ret (W.iret (v := 0) hx hb hr (fun t ht hW => ⟨⟨fun h => absurd h (fun h => h.elim hc2 (fun h => h.elim hc8 (fun h => (Int32.not_le.mpr hc19) h))), fun _ => rfl⟩, hS.F ht⟩) (hS.2.2) d_SM_output_53)
      · refine W.widen (k := 0) (n := 0) (Nat.le_of_ble_eq_true rfl) (Nat.le_of_ble_eq_true rfl) ?_
        exact tth_SM_IndexOutOfBoundsException hx hb hfl hown hts (hst _ _ hS) (by rw [hml]; exact hl.1) d_SM_output_22 d_SM_output_25 d_SM_output_26 d_SM_output_29 (tx_noH B (hts _ mw_1018) _) (Nat.le_of_ble_eq_true rfl) (Nat.le_of_ble_eq_true rfl) (Nat.le_of_ble_eq_true rfl) (Nat.le_of_ble_eq_true rfl) (fun t ce hW hz hk hce hcl hvm => ⟨⟨fun _ => ⟨_, rfl, ce, hce, hcl, hvm⟩, fun h => absurd (Or.inr (Or.inr ((Int32.not_lt.mp hc19)))) h⟩, ta_thrown hS hz hk⟩) hS.2.2 hlocks
set_option maxHeartbeats 4000000 in
set_option maxRecDepth 100000 in
theorem c_SM_stack (l : Launch) (hfl : l.flags = pinnedFlags ++ [noTraceFlag]) (dC : Nat → ClassId) (dI : Nat → Nat → Nat) (cI : ClassId) (h0 q1 q2 q3 q4 q5 r_words r_floors r_behinds r_results r_localCounts r_locals : Nat) (p0 : Int32) (sz : Nat) : tx_Met l ⟨"StoryMachine", "stack", "(I)I"⟩ tw_tbl ({ frames := 7, cells := 1, slots := 6, locals := 130 }) (tq_P (dC, dI) vcl [.ref h0, .int p0] sz [(h0, .inr (0, [.ref q1, .ref q2, .ref q3, .ref q4, .ref q5])), (q3, .inr (3, [.ref r_words, .int 0, .int 0, .ref r_floors, .ref r_behinds, .ref r_results, .ref r_localCounts, .ref r_locals]))] [(cI, .int)]) (tq_Q (fun o t => ((p0 < (-1) ∨ 0 ≤ p0) → ∃ x, o = .threw x ∧ ta_Ex "java/lang/IndexOutOfBoundsException" x t) ∧ (¬ (p0 < (-1) ∨ 0 ≤ p0) → o = .returned (some (.int 0)))) (va_A [(h0, .inr (0, [.ref q1, .ref q2, .ref q3, .ref q4, .ref q5])), (q3, .inr (3, [.ref r_words, .int 0, .int 0, .ref r_floors, .ref r_behinds, .ref r_results, .ref r_localCounts, .ref r_locals]))] sz)) 1 6 (va_A [(h0, .inr (0, [.ref q1, .ref q2, .ref q3, .ref q4, .ref q5])), (q3, .inr (3, [.ref r_words, .int 0, .int 0, .ref r_floors, .ref r_behinds, .ref r_results, .ref r_localCounts, .ref r_locals]))] sz) := by
  refine tx_ofW (cc := prog_1_method_11_code) (maxL := 2) (ret := (some .int)) (by decide) (tx_isM mw_1044) ?_
  intro p e s m args below meth c s₁ B hml hv
  obtain ⟨rfl, hsz, hP, hK, hD0, hst0⟩ := hv
  have hx := B.exec
  have hb := B.bytes
  have hr := B.returns
  have hts := atoms_spec (ws := tw_tbl) B.pre
  have hown : s.vm.findClass "StoryMachine" = some m.cls := findClass_of_methodNamed B.named
  have hlocks := B.notSynchronized
  subst hsz
  have hD := hD0.self (sz := s.heap.size)
  have hst := fun (H : Heap) (locs : List Loc) (hS : va_S (va_A [(h0, .inr (0, [.ref q1, .ref q2, .ref q3, .ref q4, .ref q5])), (q3, .inr (3, [.ref r_words, .int 0, .int 0, .ref r_floors, .ref r_behinds, .ref r_results, .ref r_localCounts, .ref r_locals]))] s.heap.size) s.heap H locs) (U : State) (hU : U.heap = H) (hW : s.WarmedH U.vm) => ts_keep hW (fun q cell h1 h2 => by rw [hU]; exact ts_va hP hS q cell h1 h2) hst0
  generalize hAe : va_A [(h0, .inr (0, [.ref q1, .ref q2, .ref q3, .ref q4, .ref q5])), (q3, .inr (3, [.ref r_words, .int 0, .int 0, .ref r_floors, .ref r_behinds, .ref r_results, .ref r_localCounts, .ref r_locals]))] s.heap.size = A at hD hst ⊢
  have hA : ∀ q : Nat, s.heap.size ≤ q → A q := fun q h => by rw [← hAe]; exact Or.inr h
  have hS : va_S A s.heap s.heap [] := va_S.rf
  have hP : va_P (dC, dI) vcl [(h0, .inr (0, [.ref q1, .ref q2, .ref q3, .ref q4, .ref q5])), (q3, .inr (3, [.ref r_words, .int 0, .int 0, .ref r_floors, .ref r_behinds, .ref r_results, .ref r_localCounts, .ref r_locals]))] s.heap := hP
  have hl := lv_entry ([.ref h0, .int p0]) (n := 2) (Nat.le_of_ble_eq_true rfl)
  rw [lg_entry_eq]
  generalize (lg_sl ([.ref h0, .int p0]) ++ List.replicate (2 - (lg_sl ([.ref h0, .int p0])).length) Slot.unset).toArray = ls at hl ⊢
  have hl : lv_has ls 2 [(0, .ref h0), (1, .int p0)] := hl
  refine lv_iload_n hx hb d_SM_stack_0 rfl (lv_at hl 1 rfl) ?_
  refine lv_iconst (v := (-1)) hx hb d_SM_stack_1 (by decide) ?_
  refine lv_icmp_lt (tgt := 16) hx hb d_SM_stack_2 (by decide) (fun hc2 => ?_) (fun hc2 => ?_)
  · refine W.widen (k := 0) (n := 0) (Nat.le_of_ble_eq_true rfl) (Nat.le_of_ble_eq_true rfl) ?_
    exact tth_SM_IndexOutOfBoundsException hx hb hfl hown hts (hst _ _ hS) (by rw [hml]; exact hl.1) d_SM_stack_16 d_SM_stack_19 d_SM_stack_20 d_SM_stack_23 (tx_noH B (hts _ mw_1044) _) (Nat.le_of_ble_eq_true rfl) (Nat.le_of_ble_eq_true rfl) (Nat.le_of_ble_eq_true rfl) (Nat.le_of_ble_eq_true rfl) (fun t ce hW hz hk hce hcl hvm => ⟨⟨fun _ => ⟨_, rfl, ce, hce, hcl, hvm⟩, fun h => absurd (Or.inl hc2) h⟩, ta_thrown hS hz hk⟩) hS.2.2 hlocks
  · refine lv_iload_n hx hb d_SM_stack_5 rfl (lv_at hl 1 rfl) ?_
    refine lv_aload_n hx hb d_SM_stack_6 rfl (lv_at hl 0 rfl) ?_
    refine va_get (D := (dC, dI)) (ci := 0) (v := .ref q3) (C := "StoryMachine") (T := T_SM) (N := 5) hx hb hts in_SM hown hK hP 0 rfl rfl 2 (by decide) (hts _ mw_312) (fun _ h9 => h9) rfl d_SM_stack_7 ?_
    refine va_get (D := (dC, dI)) (ci := 3) (v := .int 0) (C := "StoryMachine$Routines") (T := T_Ro) (N := 8) hx hb hts in_Ro hown hK hP 1 rfl rfl 1 (by decide) (hts _ mw_83) (fun _ h9 => h9) rfl d_SM_stack_10 ?_
    refine lv_icmp_lt (tgt := 24) hx hb d_SM_stack_13 (by decide) (fun hc13 => ?_) (fun hc13 => ?_)
    · refine lv_iload_n hx hb d_SM_stack_24 rfl (lv_at hl 1 rfl) ?_
      refine lv_iconst (v := (-1)) hx hb d_SM_stack_25 (by decide) ?_
      refine lv_icmp_ne (tgt := 39) hx hb d_SM_stack_26 (by decide) (fun h => absurd (ti_m1 hc2 (Int32.not_le.mpr hc13)) h) (fun hc26 => ?_)
      refine lv_aload_n hx hb d_SM_stack_29 rfl (lv_at hl 0 rfl) ?_
      refine va_get (D := (dC, dI)) (ci := 0) (v := .ref q3) (C := "StoryMachine") (T := T_SM) (N := 5) hx hb hts in_SM hown hK hP 0 rfl rfl 2 (by decide) (hts _ mw_312) (fun _ h9 => h9) rfl d_SM_stack_30 ?_
      refine va_get (D := (dC, dI)) (ci := 3) (v := .int 0) (C := "StoryMachine$Routines") (T := T_Ro) (N := 8) hx hb hts in_Ro hown hK hP 1 rfl rfl 1 (by decide) (hts _ mw_83) (fun _ h9 => h9) rfl d_SM_stack_33 ?_
      refine lv_goto (tgt := 58) hx hb d_SM_stack_36 (by decide) ?_
      refine W.widen (k := 1) (n := 6) (Nat.le_of_ble_eq_true rfl) (Nat.le_of_ble_eq_true rfl) ?_
      exact tx_ret (W.iret (v := 0) hx hb hr (fun t ht hW => ⟨⟨fun h => absurd h (fun h => h.elim hc2 (fun h => (Int32.not_le.mpr hc13) h)), fun _ => rfl⟩, hS.F ht⟩) (hS.2.2) d_SM_stack_58)
    · refine W.widen (k := 0) (n := 0) (Nat.le_of_ble_eq_true rfl) (Nat.le_of_ble_eq_true rfl) ?_
      exact tth_SM_IndexOutOfBoundsException hx hb hfl hown hts (hst _ _ hS) (by rw [hml]; exact hl.1) d_SM_stack_16 d_SM_stack_19 d_SM_stack_20 d_SM_stack_23 (tx_noH B (hts _ mw_1044) _) (Nat.le_of_ble_eq_true rfl) (Nat.le_of_ble_eq_true rfl) (Nat.le_of_ble_eq_true rfl) (Nat.le_of_ble_eq_true rfl) (fun t ce hW hz hk hce hcl hvm => ⟨⟨fun _ => ⟨_, rfl, ce, hce, hcl, hvm⟩, fun h => absurd (Or.inr ((Int32.not_lt.mp hc13))) h⟩, ta_thrown hS hz hk⟩) hS.2.2 hlocks
set_option maxHeartbeats 4000000 in
set_option maxRecDepth 100000 in
theorem c_Ro_localCount (l : Launch) (hfl : l.flags = pinnedFlags ++ [noTraceFlag]) (dC : Nat → ClassId) (dI : Nat → Nat → Nat) (cI : ClassId) (h0 r_words r_floors r_behinds r_results r_localCounts r_locals : Nat) (sz : Nat) : tx_Met l ⟨"StoryMachine$Routines", "localCount", "()I"⟩ tw_tbl ({ frames := 0, cells := 0, slots := 0, locals := 0 }) (tq_P (dC, dI) vcl [.ref h0] sz [(h0, .inr (3, [.ref r_words, .int 0, .int 0, .ref r_floors, .ref r_behinds, .ref r_results, .ref r_localCounts, .ref r_locals])), (r_localCounts, .inl (cI, 11, .inl (fun _ => 0)))] [(cI, .int)]) (tq_Q (fun o t => o = .returned (some (.int 0))) (va_A [(h0, .inr (3, [.ref r_words, .int 0, .int 0, .ref r_floors, .ref r_behinds, .ref r_results, .ref r_localCounts, .ref r_locals])), (r_localCounts, .inl (cI, 11, .inl (fun _ => 0)))] sz)) 0 0 (va_A [(h0, .inr (3, [.ref r_words, .int 0, .int 0, .ref r_floors, .ref r_behinds, .ref r_results, .ref r_localCounts, .ref r_locals])), (r_localCounts, .inl (cI, 11, .inl (fun _ => 0)))] sz) := by
  refine tx_ofW (cc := prog_9_method_7_code) (maxL := 1) (ret := (some .int)) (by decide) (tx_isM mw_1055) ?_
  intro p e s m args below meth c s₁ B hml hv
  obtain ⟨rfl, hsz, hP, hK, hD0, hst0⟩ := hv
  have hx := B.exec
  have hb := B.bytes
  have hr := B.returns
  have hts := atoms_spec (ws := tw_tbl) B.pre
  have hown : s.vm.findClass "StoryMachine$Routines" = some m.cls := findClass_of_methodNamed B.named
  have hlocks := B.notSynchronized
  subst hsz
  have hD := hD0.self (sz := s.heap.size)
  have hst := fun (H : Heap) (locs : List Loc) (hS : va_S (va_A [(h0, .inr (3, [.ref r_words, .int 0, .int 0, .ref r_floors, .ref r_behinds, .ref r_results, .ref r_localCounts, .ref r_locals])), (r_localCounts, .inl (cI, 11, .inl (fun _ => 0)))] s.heap.size) s.heap H locs) (U : State) (hU : U.heap = H) (hW : s.WarmedH U.vm) => ts_keep hW (fun q cell h1 h2 => by rw [hU]; exact ts_va hP hS q cell h1 h2) hst0
  generalize hAe : va_A [(h0, .inr (3, [.ref r_words, .int 0, .int 0, .ref r_floors, .ref r_behinds, .ref r_results, .ref r_localCounts, .ref r_locals])), (r_localCounts, .inl (cI, 11, .inl (fun _ => 0)))] s.heap.size = A at hD hst ⊢
  have hA : ∀ q : Nat, s.heap.size ≤ q → A q := fun q h => by rw [← hAe]; exact Or.inr h
  have hS : va_S A s.heap s.heap [] := va_S.rf
  have hP : va_P (dC, dI) vcl [(h0, .inr (3, [.ref r_words, .int 0, .int 0, .ref r_floors, .ref r_behinds, .ref r_results, .ref r_localCounts, .ref r_locals])), (r_localCounts, .inl (cI, 11, .inl (fun _ => 0)))] s.heap := hP
  have hl := lv_entry ([.ref h0]) (n := 1) (Nat.le_of_ble_eq_true rfl)
  rw [lg_entry_eq]
  generalize (lg_sl ([.ref h0]) ++ List.replicate (1 - (lg_sl ([.ref h0])).length) Slot.unset).toArray = ls at hl ⊢
  have hl : lv_has ls 1 [(0, .ref h0)] := hl
  refine lv_aload_n hx hb d_Ro_localCount_0 rfl (lv_at hl 0 rfl) ?_
  refine va_get (D := (dC, dI)) (ci := 3) (v := .ref r_localCounts) (C := "StoryMachine$Routines") (T := T_Ro) (N := 8) hx hb hts in_Ro hown hK hP 0 rfl rfl 6 (by decide) (hts _ mw_89) (fun _ h9 => h9) rfl d_Ro_localCount_1 ?_
  refine lv_aload_n hx hb d_Ro_localCount_4 rfl (lv_at hl 0 rfl) ?_
  refine va_get (D := (dC, dI)) (ci := 3) (v := .int 0) (C := "StoryMachine$Routines") (T := T_Ro) (N := 8) hx hb hts in_Ro hown hK hP 0 rfl rfl 2 (by decide) (hts _ mw_84) (fun _ h9 => h9) rfl d_Ro_localCount_5 ?_
  refine va_iald hx hb hK hP 1 0 rfl rfl (show ¬ ((0 : Int32) < 0 ∨ 11 ≤ (0 : Int32).toNatClampNeg) by decide) d_Ro_localCount_8 ?_
  refine W.eq (g2 := F0 m 9 ls [.int 0]) rfl ?_
  refine W.widen (k := 0) (n := 0) (Nat.le_of_ble_eq_true rfl) (Nat.le_of_ble_eq_true rfl) ?_
  exact tx_ret (W.iret (v := 0) hx hb hr (fun t ht hW => ⟨rfl, hS.F ht⟩) (hS.2.2) d_Ro_localCount_9)
set_option maxHeartbeats 4000000 in
set_option maxRecDepth 100000 in
theorem c_SM_local (l : Launch) (hfl : l.flags = pinnedFlags ++ [noTraceFlag]) (dC : Nat → ClassId) (dI : Nat → Nat → Nat) (cI : ClassId) (h0 q1 q2 q3 q4 q5 r_words r_floors r_behinds r_results r_localCounts r_locals : Nat) (p0 : Int32) (sz : Nat) : tx_Met l ⟨"StoryMachine", "local", "(I)I"⟩ tw_tbl ({ frames := 7, cells := 1, slots := 6, locals := 130 }) (tq_P (dC, dI) vcl [.ref h0, .int p0] sz [(h0, .inr (0, [.ref q1, .ref q2, .ref q3, .ref q4, .ref q5])), (q3, .inr (3, [.ref r_words, .int 0, .int 0, .ref r_floors, .ref r_behinds, .ref r_results, .ref r_localCounts, .ref r_locals])), (r_localCounts, .inl (cI, 11, .inl (fun _ => 0)))] [(cI, .int)]) (tq_Q (fun o t => ((p0 < 0 ∨ 15 < p0) → ∃ x, o = .threw x ∧ ta_Ex "java/lang/IndexOutOfBoundsException" x t) ∧ (¬ (p0 < 0 ∨ 15 < p0) → o = .returned (some (.int 0)))) (va_A [(h0, .inr (0, [.ref q1, .ref q2, .ref q3, .ref q4, .ref q5])), (q3, .inr (3, [.ref r_words, .int 0, .int 0, .ref r_floors, .ref r_behinds, .ref r_results, .ref r_localCounts, .ref r_locals])), (r_localCounts, .inl (cI, 11, .inl (fun _ => 0)))] sz)) 1 6 (va_A [(h0, .inr (0, [.ref q1, .ref q2, .ref q3, .ref q4, .ref q5])), (q3, .inr (3, [.ref r_words, .int 0, .int 0, .ref r_floors, .ref r_behinds, .ref r_results, .ref r_localCounts, .ref r_locals])), (r_localCounts, .inl (cI, 11, .inl (fun _ => 0)))] sz) := by
  refine tx_ofW (cc := prog_1_method_12_code) (maxL := 2) (ret := (some .int)) (by decide) (tx_isM mw_1051) ?_
  intro p e s m args below meth c s₁ B hml hv
  obtain ⟨rfl, hsz, hP, hK, hD0, hst0⟩ := hv
  have hx := B.exec
  have hb := B.bytes
  have hr := B.returns
  have hts := atoms_spec (ws := tw_tbl) B.pre
  have hown : s.vm.findClass "StoryMachine" = some m.cls := findClass_of_methodNamed B.named
  have hlocks := B.notSynchronized
  subst hsz
  have hD := hD0.self (sz := s.heap.size)
  have hst := fun (H : Heap) (locs : List Loc) (hS : va_S (va_A [(h0, .inr (0, [.ref q1, .ref q2, .ref q3, .ref q4, .ref q5])), (q3, .inr (3, [.ref r_words, .int 0, .int 0, .ref r_floors, .ref r_behinds, .ref r_results, .ref r_localCounts, .ref r_locals])), (r_localCounts, .inl (cI, 11, .inl (fun _ => 0)))] s.heap.size) s.heap H locs) (U : State) (hU : U.heap = H) (hW : s.WarmedH U.vm) => ts_keep hW (fun q cell h1 h2 => by rw [hU]; exact ts_va hP hS q cell h1 h2) hst0
  generalize hAe : va_A [(h0, .inr (0, [.ref q1, .ref q2, .ref q3, .ref q4, .ref q5])), (q3, .inr (3, [.ref r_words, .int 0, .int 0, .ref r_floors, .ref r_behinds, .ref r_results, .ref r_localCounts, .ref r_locals])), (r_localCounts, .inl (cI, 11, .inl (fun _ => 0)))] s.heap.size = A at hD hst ⊢
  have hA : ∀ q : Nat, s.heap.size ≤ q → A q := fun q h => by rw [← hAe]; exact Or.inr h
  have hS : va_S A s.heap s.heap [] := va_S.rf
  have hP : va_P (dC, dI) vcl [(h0, .inr (0, [.ref q1, .ref q2, .ref q3, .ref q4, .ref q5])), (q3, .inr (3, [.ref r_words, .int 0, .int 0, .ref r_floors, .ref r_behinds, .ref r_results, .ref r_localCounts, .ref r_locals])), (r_localCounts, .inl (cI, 11, .inl (fun _ => 0)))] s.heap := hP
  have hl := lv_entry ([.ref h0, .int p0]) (n := 2) (Nat.le_of_ble_eq_true rfl)
  rw [lg_entry_eq]
  generalize (lg_sl ([.ref h0, .int p0]) ++ List.replicate (2 - (lg_sl ([.ref h0, .int p0])).length) Slot.unset).toArray = ls at hl ⊢
  have hl : lv_has ls 2 [(0, .ref h0), (1, .int p0)] := hl
  refine lv_iload_n hx hb d_SM_local_0 rfl (lv_at hl 1 rfl) ?_
  refine lv_if_lt (tgt := 10) hx hb d_SM_local_1 (by decide) (fun hc1 => ?_) (fun hc1 => ?_)
  · refine W.widen (k := 0) (n := 0) (Nat.le_of_ble_eq_true rfl) (Nat.le_of_ble_eq_true rfl) ?_
    exact tth_SM_IndexOutOfBoundsException hx hb hfl hown hts (hst _ _ hS) (by rw [hml]; exact hl.1) d_SM_local_10 d_SM_local_13 d_SM_local_14 d_SM_local_17 (tx_noH B (hts _ mw_1051) _) (Nat.le_of_ble_eq_true rfl) (Nat.le_of_ble_eq_true rfl) (Nat.le_of_ble_eq_true rfl) (Nat.le_of_ble_eq_true rfl) (fun t ce hW hz hk hce hcl hvm => ⟨⟨fun _ => ⟨_, rfl, ce, hce, hcl, hvm⟩, fun h => absurd (Or.inl hc1) h⟩, ta_thrown hS hz hk⟩) hS.2.2 hlocks
  · refine lv_iload_n hx hb d_SM_local_4 rfl (lv_at hl 1 rfl) ?_
    refine lv_bipush (v := 15) hx hb d_SM_local_5 (by decide) ?_
    refine lv_icmp_le (tgt := 18) hx hb d_SM_local_7 (by decide) (fun hc7 => ?_) (fun hc7 => ?_)
    · refine lv_iload_n hx hb d_SM_local_18 rfl (lv_at hl 1 rfl) ?_
      refine lv_if_ne (tgt := 30) hx hb d_SM_local_19 (by decide) (fun hc19 => ?_) (fun hc19 => ?_)
      · refine lv_iload_n hx hb d_SM_local_30 rfl (lv_at hl 1 rfl) ?_
        refine lv_aload_n hx hb d_SM_local_31 rfl (lv_at hl 0 rfl) ?_
        refine va_get (D := (dC, dI)) (ci := 0) (v := .ref q3) (C := "StoryMachine") (T := T_SM) (N := 5) hx hb hts in_SM hown hK hP 0 rfl rfl 2 (by decide) (hts _ mw_312) (fun _ h9 => h9) rfl d_SM_local_32 ?_
        have hPc := hP.sub (ws' := [(q3, .inr (3, [.ref r_words, .int 0, .int 0, .ref r_floors, .ref r_behinds, .ref r_results, .ref r_localCounts, .ref r_locals])), (r_localCounts, .inl (cI, 11, .inl (fun _ => 0)))]) [1, 2] rfl
        have hDc := hD.sub (ws' := [(q3, .inr (3, [.ref r_words, .int 0, .int 0, .ref r_floors, .ref r_behinds, .ref r_results, .ref r_localCounts, .ref r_locals])), (r_localCounts, .inl (cI, 11, .inl (fun _ => 0)))]) [1, 2] (by decide) rfl
        have hFc := va_free (wc := [(q3, .inr (3, [.ref r_words, .int 0, .int 0, .ref r_floors, .ref r_behinds, .ref r_results, .ref r_localCounts, .ref r_locals])), (r_localCounts, .inl (cI, 11, .inl (fun _ => 0)))]) hD hS hA [1, 2] rfl
        refine tx_callK (A1 := va_A [(q3, .inr (3, [.ref r_words, .int 0, .int 0, .ref r_floors, .ref r_behinds, .ref r_results, .ref r_localCounts, .ref r_locals])), (r_localCounts, .inl (cI, 11, .inl (fun _ => 0)))] s.heap.size) (tx_runV (C := "StoryMachine$Routines") (As := []) (rest := [.int p0]) ⟨hx, hb, hml, hown, hts⟩ (c_Ro_localCount l hfl dC dI cI q3 r_words r_floors r_behinds r_results r_localCounts r_locals s.heap.size) (tx_cb (n := 0) hts rfl rfl ⟨Nat.le_of_ble_eq_true rfl, Nat.le_of_ble_eq_true rfl⟩ (tx_code.of (hts _ mw_1055)) (hts _ mw_4) (by decide +kernel) (hts _ mw_1052)) (hts _ mw_1053) (hts _ mw_1054) ⟨tq_blind, ta_recv (q0 := 1) hts in_Ro hK hP rfl rfl, fun U hU hW => ⟨rfl, by rw [hU], by rw [hU]; exact hPc, va_K.moved hW.alike hK, hDc.weaken (fun _ _ _ _ => trivial), hst _ _ hS U hU hW⟩⟩ rfl rfl hl.1 rfl (lv_room (Nat.le_of_ble_eq_true rfl)) d_SM_local_35 ⟨Nat.le_of_ble_eq_true rfl, Nat.le_of_ble_eq_true rfl⟩) hS (fun q _ h => hFc q h) hFc (fun v t H35 locs ht hWt hpost hz1 hk1 hS => ?_) (fun x t H1 locs ht hWt hpost hz1 hk1 hS => by cases hpost)
        cases hpost
        have hP1 := ta_nilP (D := (dC, dI)) (cl := vcl) (H := t.heap)
        have hD1 := ta_nilD (A := va_A [(q3, .inr (3, [.ref r_words, .int 0, .int 0, .ref r_floors, .ref r_behinds, .ref r_results, .ref r_localCounts, .ref r_locals])), (r_localCounts, .inl (cI, 11, .inl (fun _ => 0)))] s.heap.size)
        rw [ht] at hP1
        obtain ⟨hP, hD⟩ := va_join (wr := [(h0, .inr (0, [.ref q1, .ref q2, .ref q3, .ref q4, .ref q5]))]) (w1 := []) hP hD [1, 2] [0] rfl rfl (by decide) (by decide) hk1 hFc hP1 hD1
        have hP : va_P (dC, dI) vcl [(h0, .inr (0, [.ref q1, .ref q2, .ref q3, .ref q4, .ref q5]))] H35 := hP
        have hD : va_D A [(h0, .inr (0, [.ref q1, .ref q2, .ref q3, .ref q4, .ref q5]))] := hD
        refine lv_icmp_gt (tgt := 52) hx hb d_SM_local_38 (by decide) (fun hc38 => ?_) (fun h => absurd (ti_pos hc1 hc19) h)
        refine lv_iconst (v := 0) hx hb d_SM_local_52 (by decide) ?_
        refine W.widen (k := 1) (n := 6) (Nat.le_of_ble_eq_true rfl) (Nat.le_of_ble_eq_true rfl) ?_
        exact tx_ret (W.iret (v := 0) hx hb hr (fun t ht hW => ⟨⟨fun h => absurd h (fun h => h.elim hc1 (fun h => (Int32.not_lt.mpr hc7) h)), fun _ => rfl⟩, hS.F ht⟩) (hS.2.2) d_SM_local_53)
      · refine lv_aload_n hx hb d_SM_local_22 rfl (lv_at hl 0 rfl) ?_
        refine va_get (D := (dC, dI)) (ci := 0) (v := .ref q3) (C := "StoryMachine") (T := T_SM) (N := 5) hx hb hts in_SM hown hK hP 0 rfl rfl 2 (by decide) (hts _ mw_312) (fun _ h9 => h9) rfl d_SM_local_23 ?_
        have hPc := hP.sub (ws' := [(q3, .inr (3, [.ref r_words, .int 0, .int 0, .ref r_floors, .ref r_behinds, .ref r_results, .ref r_localCounts, .ref r_locals])), (r_localCounts, .inl (cI, 11, .inl (fun _ => 0)))]) [1, 2] rfl
        have hDc := hD.sub (ws' := [(q3, .inr (3, [.ref r_words, .int 0, .int 0, .ref r_floors, .ref r_behinds, .ref r_results, .ref r_localCounts, .ref r_locals])), (r_localCounts, .inl (cI, 11, .inl (fun _ => 0)))]) [1, 2] (by decide) rfl
        have hFc := va_free (wc := [(q3, .inr (3, [.ref r_words, .int 0, .int 0, .ref r_floors, .ref r_behinds, .ref r_results, .ref r_localCounts, .ref r_locals])), (r_localCounts, .inl (cI, 11, .inl (fun _ => 0)))]) hD hS hA [1, 2] rfl
        refine tx_callK (A1 := va_A [(q3, .inr (3, [.ref r_words, .int 0, .int 0, .ref r_floors, .ref r_behinds, .ref r_results, .ref r_localCounts, .ref r_locals])), (r_localCounts, .inl (cI, 11, .inl (fun _ => 0)))] s.heap.size) (tx_runV (C := "StoryMachine$Routines") (As := []) (rest := []) ⟨hx, hb, hml, hown, hts⟩ (c_Ro_localCount l hfl dC dI cI q3 r_words r_floors r_behinds r_results r_localCounts r_locals s.heap.size) (tx_cb (n := 0) hts rfl rfl ⟨Nat.le_of_ble_eq_true rfl, Nat.le_of_ble_eq_true rfl⟩ (tx_code.of (hts _ mw_1055)) (hts _ mw_4) (by decide +kernel) (hts _ mw_1052)) (hts _ mw_1053) (hts _ mw_1054) ⟨tq_blind, ta_recv (q0 := 1) hts in_Ro hK hP rfl rfl, fun U hU hW => ⟨rfl, by rw [hU], by rw [hU]; exact hPc, va_K.moved hW.alike hK, hDc.weaken (fun _ _ _ _ => trivial), hst _ _ hS U hU hW⟩⟩ rfl rfl hl.1 rfl (lv_room (Nat.le_of_ble_eq_true rfl)) d_SM_local_26 ⟨Nat.le_of_ble_eq_true rfl, Nat.le_of_ble_eq_true rfl⟩) hS (fun q _ h => hFc q h) hFc (fun v t H26 locs ht hWt hpost hz1 hk1 hS => ?_) (fun x t H1 locs ht hWt hpost hz1 hk1 hS => by cases hpost)
        cases hpost
        have hP1 := ta_nilP (D := (dC, dI)) (cl := vcl) (H := t.heap)
        have hD1 := ta_nilD (A := va_A [(q3, .inr (3, [.ref r_words, .int 0, .int 0, .ref r_floors, .ref r_behinds, .ref r_results, .ref r_localCounts, .ref r_locals])), (r_localCounts, .inl (cI, 11, .inl (fun _ => 0)))] s.heap.size)
        rw [ht] at hP1
        obtain ⟨hP, hD⟩ := va_join (wr := [(h0, .inr (0, [.ref q1, .ref q2, .ref q3, .ref q4, .ref q5]))]) (w1 := []) hP hD [1, 2] [0] rfl rfl (by decide) (by decide) hk1 hFc hP1 hD1
        have hP : va_P (dC, dI) vcl [(h0, .inr (0, [.ref q1, .ref q2, .ref q3, .ref q4, .ref q5]))] H26 := hP
        have hD : va_D A [(h0, .inr (0, [.ref q1, .ref q2, .ref q3, .ref q4, .ref q5]))] := hD
        refine W.widen (k := 1) (n := 6) (Nat.le_of_ble_eq_true rfl) (Nat.le_of_ble_eq_true rfl) ?_
        exact tx_ret (W.iret (v := 0) hx hb hr (fun t ht hW => ⟨⟨fun h => absurd h (fun h => h.elim hc1 (fun h => (Int32.not_lt.mpr hc7) h)), fun _ => rfl⟩, hS.F ht⟩) (hS.2.2) d_SM_local_29)
    · refine W.widen (k := 0) (n := 0) (Nat.le_of_ble_eq_true rfl) (Nat.le_of_ble_eq_true rfl) ?_
      exact tth_SM_IndexOutOfBoundsException hx hb hfl hown hts (hst _ _ hS) (by rw [hml]; exact hl.1) d_SM_local_10 d_SM_local_13 d_SM_local_14 d_SM_local_17 (tx_noH B (hts _ mw_1051) _) (Nat.le_of_ble_eq_true rfl) (Nat.le_of_ble_eq_true rfl) (Nat.le_of_ble_eq_true rfl) (Nat.le_of_ble_eq_true rfl) (fun t ce hW hz hk hce hcl hvm => ⟨⟨fun _ => ⟨_, rfl, ce, hce, hcl, hvm⟩, fun h => absurd (Or.inr ((Int32.not_le.mp hc7))) h⟩, ta_thrown hS hz hk⟩) hS.2.2 hlocks
