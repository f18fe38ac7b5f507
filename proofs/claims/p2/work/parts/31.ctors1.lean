/-! Constructors; written by wip/tools/p2law.py. -/
set_option maxHeartbeats 4000000 in
set_option maxRecDepth 100000 in
theorem c_Me_init (l : Launch) (hfl : l.flags = pinnedFlags ++ [noTraceFlag]) (dC : Nat → ClassId) (dI : Nat → Nat → Nat) (cI : ClassId) (h0 : Nat) (sz : Nat) : tx_Met l ⟨"StoryMachine$Memory", "<init>", "()V"⟩ tw_tbl ({ frames := 1, cells := 1, slots := 512, locals := 40 }) (tq_P (dC, dI) vcl [.ref h0] sz [(h0, .inr (1, [.null]))] [(cI, .int)]) (tq_Q (fun o t => o = .returned none ∧ ∃ (q8 : Nat), va_P (dC, dI) vcl [(h0, .inr (1, [.ref q8])), (q8, .inl (cI, 512, .inl (fun _ => 0)))] t.heap ∧ va_K (dC, dI) vcl [(cI, .int)] t ∧ va_D (va_A [(h0, .inr (1, [.null]))] sz) [(h0, .inr (1, [.ref q8])), (q8, .inl (cI, 512, .inl (fun _ => 0)))]) (va_A [(h0, .inr (1, [.null]))] sz)) 1 512 (va_A [(h0, .inr (1, [.null]))] sz) := by
  refine tx_ofW (cc := prog_7_method_1_code) (maxL := 1) (ret := none) (by decide) (tx_isM mw_40) ?_
  intro p e s m args below meth c s₁ B hml hv
  obtain ⟨rfl, hsz, hP, hK, hD0, hst0⟩ := hv
  have hx := B.exec
  have hb := B.bytes
  have hr := B.returns
  have hts := atoms_spec (ws := tw_tbl) B.pre
  have hown : s.vm.findClass "StoryMachine$Memory" = some m.cls := findClass_of_methodNamed B.named
  have hlocks := B.notSynchronized
  have hin : meth.name = "<init>" := (name_of_methodNamed B.named B.method).1
  subst hsz
  have hD := hD0.self (sz := s.heap.size)
  have hst := fun (H : Heap) (locs : List Loc) (hS : va_S (va_A [(h0, .inr (1, [.null]))] s.heap.size) s.heap H locs) (U : State) (hU : U.heap = H) (hW : s.WarmedH U.vm) => ts_keep hW (fun q cell h1 h2 => by rw [hU]; exact ts_va hP hS q cell h1 h2) hst0
  generalize hAe : va_A [(h0, .inr (1, [.null]))] s.heap.size = A at hD hst ⊢
  have hA : ∀ q : Nat, s.heap.size ≤ q → A q := fun q h => by rw [← hAe]; exact Or.inr h
  have hS : va_S A s.heap s.heap [] := va_S.rf
  have hP : va_P (dC, dI) vcl [(h0, .inr (1, [.null]))] s.heap := hP
  have hl := lv_entry ([.ref h0]) (n := 1) (Nat.le_of_ble_eq_true rfl)
  rw [lg_entry_eq]
  generalize (lg_sl ([.ref h0]) ++ List.replicate (1 - (lg_sl ([.ref h0])).length) Slot.unset).toArray = ls at hl ⊢
  have hl : lv_has ls 1 [(0, .ref h0)] := hl
  refine lv_aload_n hx hb d_Me_init_0 rfl (lv_at hl 0 rfl) ?_
  refine W.objInit hx hb hown (hts _ mw_41) (hts _ mw_34) (hts _ mw_35) rfl (by rw [hml]; exact hl.1) rfl d_Me_init_1 (Nat.le_of_ble_eq_true rfl) (Nat.le_of_ble_eq_true rfl) ?_
  refine W.eq (g2 := F0 m 4 ls []) rfl ?_
  refine lv_aload_n hx hb d_Me_init_4 rfl (lv_at hl 0 rfl) ?_
  refine lv_sipush (v := 512) hx hb d_Me_init_5 (by decide) ?_
  refine ta_newI (N' := 512) hx hb (hts _ mw_47) hK 0 rfl hP hD hS hA (by decide) (by decide) (by decide) (Nat.le_of_ble_eq_true rfl) (Nat.le_of_ble_eq_true rfl) d_Me_init_8 (fun q8 H hP hD hS => ?_)
  have hP : va_P (dC, dI) vcl [(h0, .inr (1, [.null])), (q8, .inl (cI, 512, .inl (fun _ => 0)))] H := hP
  have hD : va_D A [(h0, .inr (1, [.null])), (q8, .inl (cI, 512, .inl (fun _ => 0)))] := hD
  refine va_putF (D := (dC, dI)) (ci := 1) (v := .ref q8) (ty := .array .int) (C := "StoryMachine$Memory") (T := T_Me) (N := 1) hx hb hts in_Me t_Me tk_Me nm_Me hown hK hP hD hS 0 rfl rfl 0 (by decide) (hts _ mw_42) (fun _ h9 => h9) rfl hin rfl (by decide +kernel) rfl rfl (Nat.le_of_ble_eq_true rfl) d_Me_init_10 (fun H locs hP hD hS => ?_)
  have hP : va_P (dC, dI) vcl [(h0, .inr (1, [.ref q8])), (q8, .inl (cI, 512, .inl (fun _ => 0)))] H := hP
  have hD : va_D A [(h0, .inr (1, [.ref q8])), (q8, .inl (cI, 512, .inl (fun _ => 0)))] := hD
  have hP9 := hP.sub (ws' := [(h0, .inr (1, [.ref q8])), (q8, .inl (cI, 512, .inl (fun _ => 0)))]) [0, 1] rfl
  have hD9 := hD.sub (ws' := [(h0, .inr (1, [.ref q8])), (q8, .inl (cI, 512, .inl (fun _ => 0)))]) [0, 1] (by decide) rfl
  refine W.widen (k := 1) (n := 512) (Nat.le_of_ble_eq_true rfl) (Nat.le_of_ble_eq_true rfl) ?_
  exact tx_ret (W.vret hx hb hr (fun t ht hW => ⟨⟨rfl, q8, by rw [ht]; exact hP9, va_K.moved hW.alike hK, hAe ▸ hD9⟩, hS.F ht⟩) (hS.2.2) d_Me_init_13)
set_option maxHeartbeats 4000000 in
set_option maxRecDepth 100000 in
theorem c_Li_init (l : Launch) (hfl : l.flags = pinnedFlags ++ [noTraceFlag]) (dC : Nat → ClassId) (dI : Nat → Nat → Nat) (cI : ClassId) (h0 : Nat) (sz : Nat) : tx_Met l ⟨"StoryMachine$Line", "<init>", "()V"⟩ tw_tbl ({ frames := 1, cells := 2, slots := 48, locals := 40 }) (tq_P (dC, dI) vcl [.ref h0] sz [(h0, .inr (2, [.null, .int 0, .null, .int 0, .int 0]))] [(cI, .int)]) (tq_Q (fun o t => o = .returned none ∧ ∃ (q7 q15 : Nat), va_P (dC, dI) vcl [(h0, .inr (2, [.ref q7, .int 0, .ref q15, .int 0, .int 0])), (q7, .inl (cI, 24, .inl (fun _ => 0))), (q15, .inl (cI, 24, .inl (fun _ => 0)))] t.heap ∧ va_K (dC, dI) vcl [(cI, .int)] t ∧ va_D (va_A [(h0, .inr (2, [.null, .int 0, .null, .int 0, .int 0]))] sz) [(h0, .inr (2, [.ref q7, .int 0, .ref q15, .int 0, .int 0])), (q7, .inl (cI, 24, .inl (fun _ => 0))), (q15, .inl (cI, 24, .inl (fun _ => 0)))]) (va_A [(h0, .inr (2, [.null, .int 0, .null, .int 0, .int 0]))] sz)) 2 48 (va_A [(h0, .inr (2, [.null, .int 0, .null, .int 0, .int 0]))] sz) := by
  refine tx_ofW (cc := prog_6_method_1_code) (maxL := 1) (ret := none) (by decide) (tx_isM mw_52) ?_
  intro p e s m args below meth c s₁ B hml hv
  obtain ⟨rfl, hsz, hP, hK, hD0, hst0⟩ := hv
  have hx := B.exec
  have hb := B.bytes
  have hr := B.returns
  have hts := atoms_spec (ws := tw_tbl) B.pre
  have hown : s.vm.findClass "StoryMachine$Line" = some m.cls := findClass_of_methodNamed B.named
  have hlocks := B.notSynchronized
  have hin : meth.name = "<init>" := (name_of_methodNamed B.named B.method).1
  subst hsz
  have hD := hD0.self (sz := s.heap.size)
  have hst := fun (H : Heap) (locs : List Loc) (hS : va_S (va_A [(h0, .inr (2, [.null, .int 0, .null, .int 0, .int 0]))] s.heap.size) s.heap H locs) (U : State) (hU : U.heap = H) (hW : s.WarmedH U.vm) => ts_keep hW (fun q cell h1 h2 => by rw [hU]; exact ts_va hP hS q cell h1 h2) hst0
  generalize hAe : va_A [(h0, .inr (2, [.null, .int 0, .null, .int 0, .int 0]))] s.heap.size = A at hD hst ⊢
  have hA : ∀ q : Nat, s.heap.size ≤ q → A q := fun q h => by rw [← hAe]; exact Or.inr h
  have hS : va_S A s.heap s.heap [] := va_S.rf
  have hP : va_P (dC, dI) vcl [(h0, .inr (2, [.null, .int 0, .null, .int 0, .int 0]))] s.heap := hP
  have hl := lv_entry ([.ref h0]) (n := 1) (Nat.le_of_ble_eq_true rfl)
  rw [lg_entry_eq]
  generalize (lg_sl ([.ref h0]) ++ List.replicate (1 - (lg_sl ([.ref h0])).length) Slot.unset).toArray = ls at hl ⊢
  have hl : lv_has ls 1 [(0, .ref h0)] := hl
  refine lv_aload_n hx hb d_Li_init_0 rfl (lv_at hl 0 rfl) ?_
  refine W.objInit hx hb hown (hts _ mw_53) (hts _ mw_34) (hts _ mw_35) rfl (by rw [hml]; exact hl.1) rfl d_Li_init_1 (Nat.le_of_ble_eq_true rfl) (Nat.le_of_ble_eq_true rfl) ?_
  refine W.eq (g2 := F0 m 4 ls []) rfl ?_
  refine lv_aload_n hx hb d_Li_init_4 rfl (lv_at hl 0 rfl) ?_
  refine lv_bipush (v := 24) hx hb d_Li_init_5 (by decide) ?_
  refine ta_newI (N' := 24) hx hb (hts _ mw_47) hK 0 rfl hP hD hS hA (by decide) (by decide) (by decide) (Nat.le_of_ble_eq_true rfl) (Nat.le_of_ble_eq_true rfl) d_Li_init_7 (fun q7 H hP hD hS => ?_)
  have hP : va_P (dC, dI) vcl [(h0, .inr (2, [.null, .int 0, .null, .int 0, .int 0])), (q7, .inl (cI, 24, .inl (fun _ => 0)))] H := hP
  have hD : va_D A [(h0, .inr (2, [.null, .int 0, .null, .int 0, .int 0])), (q7, .inl (cI, 24, .inl (fun _ => 0)))] := hD
  refine va_putF (D := (dC, dI)) (ci := 2) (v := .ref q7) (ty := .array .int) (C := "StoryMachine$Line") (T := T_Li) (N := 5) hx hb hts in_Li t_Li tk_Li nm_Li hown hK hP hD hS 0 rfl rfl 0 (by decide) (hts _ mw_54) (fun _ h9 => h9) rfl hin rfl (by decide +kernel) rfl rfl (Nat.le_of_ble_eq_true rfl) d_Li_init_9 (fun H locs hP hD hS => ?_)
  have hP : va_P (dC, dI) vcl [(h0, .inr (2, [.ref q7, .int 0, .null, .int 0, .int 0])), (q7, .inl (cI, 24, .inl (fun _ => 0)))] H := hP
  have hD : va_D A [(h0, .inr (2, [.ref q7, .int 0, .null, .int 0, .int 0])), (q7, .inl (cI, 24, .inl (fun _ => 0)))] := hD
  refine lv_aload_n hx hb d_Li_init_12 rfl (lv_at hl 0 rfl) ?_
  refine lv_bipush (v := 24) hx hb d_Li_init_13 (by decide) ?_
  refine ta_newI (N' := 24) hx hb (hts _ mw_47) hK 0 rfl hP hD hS hA (by decide) (by decide) (by decide) (Nat.le_of_ble_eq_true rfl) (Nat.le_of_ble_eq_true rfl) d_Li_init_15 (fun q15 H hP hD hS => ?_)
  have hP : va_P (dC, dI) vcl [(h0, .inr (2, [.ref q7, .int 0, .null, .int 0, .int 0])), (q7, .inl (cI, 24, .inl (fun _ => 0))), (q15, .inl (cI, 24, .inl (fun _ => 0)))] H := hP
  have hD : va_D A [(h0, .inr (2, [.ref q7, .int 0, .null, .int 0, .int 0])), (q7, .inl (cI, 24, .inl (fun _ => 0))), (q15, .inl (cI, 24, .inl (fun _ => 0)))] := hD
  refine va_putF (D := (dC, dI)) (ci := 2) (v := .ref q15) (ty := .array .int) (C := "StoryMachine$Line") (T := T_Li) (N := 5) hx hb hts in_Li t_Li tk_Li nm_Li hown hK hP hD hS 0 rfl rfl 2 (by decide) (hts _ mw_57) (fun _ h9 => h9) rfl hin rfl (by decide +kernel) rfl rfl (Nat.le_of_ble_eq_true rfl) d_Li_init_17 (fun H locs hP hD hS => ?_)
  have hP : va_P (dC, dI) vcl [(h0, .inr (2, [.ref q7, .int 0, .ref q15, .int 0, .int 0])), (q7, .inl (cI, 24, .inl (fun _ => 0))), (q15, .inl (cI, 24, .inl (fun _ => 0)))] H := hP
  have hD : va_D A [(h0, .inr (2, [.ref q7, .int 0, .ref q15, .int 0, .int 0])), (q7, .inl (cI, 24, .inl (fun _ => 0))), (q15, .inl (cI, 24, .inl (fun _ => 0)))] := hD
  have hP9 := hP.sub (ws' := [(h0, .inr (2, [.ref q7, .int 0, .ref q15, .int 0, .int 0])), (q7, .inl (cI, 24, .inl (fun _ => 0))), (q15, .inl (cI, 24, .inl (fun _ => 0)))]) [0, 1, 2] rfl
  have hD9 := hD.sub (ws' := [(h0, .inr (2, [.ref q7, .int 0, .ref q15, .int 0, .int 0])), (q7, .inl (cI, 24, .inl (fun _ => 0))), (q15, .inl (cI, 24, .inl (fun _ => 0)))]) [0, 1, 2] (by decide) rfl
  refine W.widen (k := 2) (n := 48) (Nat.le_of_ble_eq_true rfl) (Nat.le_of_ble_eq_true rfl) ?_
  exact tx_ret (W.vret hx hb hr (fun t ht hW => ⟨⟨rfl, q7, q15, by rw [ht]; exact hP9, va_K.moved hW.alike hK, hAe ▸ hD9⟩, hS.F ht⟩) (hS.2.2) d_Li_init_20)
set_option maxHeartbeats 4000000 in
set_option maxRecDepth 100000 in
theorem c_Ro_init (l : Launch) (hfl : l.flags = pinnedFlags ++ [noTraceFlag]) (dC : Nat → ClassId) (dI : Nat → Nat → Nat) (cI : ClassId) (h0 : Nat) (sz : Nat) : tx_Met l ⟨"StoryMachine$Routines", "<init>", "()V"⟩ tw_tbl ({ frames := 1, cells := 6, slots := 257, locals := 40 }) (tq_P (dC, dI) vcl [.ref h0] sz [(h0, .inr (3, [.null, .int 0, .int 0, .null, .null, .null, .null, .null]))] [(cI, .int)]) (tq_Q (fun o t => o = .returned none ∧ ∃ (q7 q15 q23 q31 q39 q48 : Nat), va_P (dC, dI) vcl [(h0, .inr (3, [.ref q7, .int 0, .int 0, .ref q15, .ref q23, .ref q31, .ref q39, .ref q48])), (q7, .inl (cI, 48, .inl (fun _ => 0))), (q15, .inl (cI, 11, .inl (fun _ => 0))), (q23, .inl (cI, 11, .inl (fun _ => 0))), (q31, .inl (cI, 11, .inl (fun _ => 0))), (q39, .inl (cI, 11, .inl (fun _ => 0))), (q48, .inl (cI, 165, .inl (fun _ => 0)))] t.heap ∧ va_K (dC, dI) vcl [(cI, .int)] t ∧ va_D (va_A [(h0, .inr (3, [.null, .int 0, .int 0, .null, .null, .null, .null, .null]))] sz) [(h0, .inr (3, [.ref q7, .int 0, .int 0, .ref q15, .ref q23, .ref q31, .ref q39, .ref q48])), (q7, .inl (cI, 48, .inl (fun _ => 0))), (q15, .inl (cI, 11, .inl (fun _ => 0))), (q23, .inl (cI, 11, .inl (fun _ => 0))), (q31, .inl (cI, 11, .inl (fun _ => 0))), (q39, .inl (cI, 11, .inl (fun _ => 0))), (q48, .inl (cI, 165, .inl (fun _ => 0)))]) (va_A [(h0, .inr (3, [.null, .int 0, .int 0, .null, .null, .null, .null, .null]))] sz)) 6 257 (va_A [(h0, .inr (3, [.null, .int 0, .int 0, .null, .null, .null, .null, .null]))] sz) := by
  refine tx_ofW (cc := prog_9_method_1_code) (maxL := 1) (ret := none) (by decide) (tx_isM mw_78) ?_
  intro p e s m args below meth c s₁ B hml hv
  obtain ⟨rfl, hsz, hP, hK, hD0, hst0⟩ := hv
  have hx := B.exec
  have hb := B.bytes
  have hr := B.returns
  have hts := atoms_spec (ws := tw_tbl) B.pre
  have hown : s.vm.findClass "StoryMachine$Routines" = some m.cls := findClass_of_methodNamed B.named
  have hlocks := B.notSynchronized
  have hin : meth.name = "<init>" := (name_of_methodNamed B.named B.method).1
  subst hsz
  have hD := hD0.self (sz := s.heap.size)
  have hst := fun (H : Heap) (locs : List Loc) (hS : va_S (va_A [(h0, .inr (3, [.null, .int 0, .int 0, .null, .null, .null, .null, .null]))] s.heap.size) s.heap H locs) (U : State) (hU : U.heap = H) (hW : s.WarmedH U.vm) => ts_keep hW (fun q cell h1 h2 => by rw [hU]; exact ts_va hP hS q cell h1 h2) hst0
  generalize hAe : va_A [(h0, .inr (3, [.null, .int 0, .int 0, .null, .null, .null, .null, .null]))] s.heap.size = A at hD hst ⊢
  have hA : ∀ q : Nat, s.heap.size ≤ q → A q := fun q h => by rw [← hAe]; exact Or.inr h
  have hS : va_S A s.heap s.heap [] := va_S.rf
  have hP : va_P (dC, dI) vcl [(h0, .inr (3, [.null, .int 0, .int 0, .null, .null, .null, .null, .null]))] s.heap := hP
  have hl := lv_entry ([.ref h0]) (n := 1) (Nat.le_of_ble_eq_true rfl)
  rw [lg_entry_eq]
  generalize (lg_sl ([.ref h0]) ++ List.replicate (1 - (lg_sl ([.ref h0])).length) Slot.unset).toArray = ls at hl ⊢
  have hl : lv_has ls 1 [(0, .ref h0)] := hl
  refine lv_aload_n hx hb d_Ro_init_0 rfl (lv_at hl 0 rfl) ?_
  refine W.objInit hx hb hown (hts _ mw_79) (hts _ mw_34) (hts _ mw_35) rfl (by rw [hml]; exact hl.1) rfl d_Ro_init_1 (Nat.le_of_ble_eq_true rfl) (Nat.le_of_ble_eq_true rfl) ?_
  refine W.eq (g2 := F0 m 4 ls []) rfl ?_
  refine lv_aload_n hx hb d_Ro_init_4 rfl (lv_at hl 0 rfl) ?_
  refine lv_bipush (v := 48) hx hb d_Ro_init_5 (by decide) ?_
  refine ta_newI (N' := 48) hx hb (hts _ mw_47) hK 0 rfl hP hD hS hA (by decide) (by decide) (by decide) (Nat.le_of_ble_eq_true rfl) (Nat.le_of_ble_eq_true rfl) d_Ro_init_7 (fun q7 H hP hD hS => ?_)
  have hP : va_P (dC, dI) vcl [(h0, .inr (3, [.null, .int 0, .int 0, .null, .null, .null, .null, .null])), (q7, .inl (cI, 48, .inl (fun _ => 0)))] H := hP
  have hD : va_D A [(h0, .inr (3, [.null, .int 0, .int 0, .null, .null, .null, .null, .null])), (q7, .inl (cI, 48, .inl (fun _ => 0)))] := hD
  refine va_putF (D := (dC, dI)) (ci := 3) (v := .ref q7) (ty := .array .int) (C := "StoryMachine$Routines") (T := T_Ro) (N := 8) hx hb hts in_Ro t_Ro tk_Ro nm_Ro hown hK hP hD hS 0 rfl rfl 0 (by decide) (hts _ mw_80) (fun _ h9 => h9) rfl hin rfl (by decide +kernel) rfl rfl (Nat.le_of_ble_eq_true rfl) d_Ro_init_9 (fun H locs hP hD hS => ?_)
  have hP : va_P (dC, dI) vcl [(h0, .inr (3, [.ref q7, .int 0, .int 0, .null, .null, .null, .null, .null])), (q7, .inl (cI, 48, .inl (fun _ => 0)))] H := hP
  have hD : va_D A [(h0, .inr (3, [.ref q7, .int 0, .int 0, .null, .null, .null, .null, .null])), (q7, .inl (cI, 48, .inl (fun _ => 0)))] := hD
  refine lv_aload_n hx hb d_Ro_init_12 rfl (lv_at hl 0 rfl) ?_
  refine lv_bipush (v := 11) hx hb d_Ro_init_13 (by decide) ?_
  refine ta_newI (N' := 11) hx hb (hts _ mw_47) hK 0 rfl hP hD hS hA (by decide) (by decide) (by decide) (Nat.le_of_ble_eq_true rfl) (Nat.le_of_ble_eq_true rfl) d_Ro_init_15 (fun q15 H hP hD hS => ?_)
  have hP : va_P (dC, dI) vcl [(h0, .inr (3, [.ref q7, .int 0, .int 0, .null, .null, .null, .null, .null])), (q7, .inl (cI, 48, .inl (fun _ => 0))), (q15, .inl (cI, 11, .inl (fun _ => 0)))] H := hP
  have hD : va_D A [(h0, .inr (3, [.ref q7, .int 0, .int 0, .null, .null, .null, .null, .null])), (q7, .inl (cI, 48, .inl (fun _ => 0))), (q15, .inl (cI, 11, .inl (fun _ => 0)))] := hD
  refine va_putF (D := (dC, dI)) (ci := 3) (v := .ref q15) (ty := .array .int) (C := "StoryMachine$Routines") (T := T_Ro) (N := 8) hx hb hts in_Ro t_Ro tk_Ro nm_Ro hown hK hP hD hS 0 rfl rfl 3 (by decide) (hts _ mw_86) (fun _ h9 => h9) rfl hin rfl (by decide +kernel) rfl rfl (Nat.le_of_ble_eq_true rfl) d_Ro_init_17 (fun H locs hP hD hS => ?_)
  have hP : va_P (dC, dI) vcl [(h0, .inr (3, [.ref q7, .int 0, .int 0, .ref q15, .null, .null, .null, .null])), (q7, .inl (cI, 48, .inl (fun _ => 0))), (q15, .inl (cI, 11, .inl (fun _ => 0)))] H := hP
  have hD : va_D A [(h0, .inr (3, [.ref q7, .int 0, .int 0, .ref q15, .null, .null, .null, .null])), (q7, .inl (cI, 48, .inl (fun _ => 0))), (q15, .inl (cI, 11, .inl (fun _ => 0)))] := hD
  refine lv_aload_n hx hb d_Ro_init_20 rfl (lv_at hl 0 rfl) ?_
  refine lv_bipush (v := 11) hx hb d_Ro_init_21 (by decide) ?_
  refine ta_newI (N' := 11) hx hb (hts _ mw_47) hK 0 rfl hP hD hS hA (by decide) (by decide) (by decide) (Nat.le_of_ble_eq_true rfl) (Nat.le_of_ble_eq_true rfl) d_Ro_init_23 (fun q23 H hP hD hS => ?_)
  have hP : va_P (dC, dI) vcl [(h0, .inr (3, [.ref q7, .int 0, .int 0, .ref q15, .null, .null, .null, .null])), (q7, .inl (cI, 48, .inl (fun _ => 0))), (q15, .inl (cI, 11, .inl (fun _ => 0))), (q23, .inl (cI, 11, .inl (fun _ => 0)))] H := hP
  have hD : va_D A [(h0, .inr (3, [.ref q7, .int 0, .int 0, .ref q15, .null, .null, .null, .null])), (q7, .inl (cI, 48, .inl (fun _ => 0))), (q15, .inl (cI, 11, .inl (fun _ => 0))), (q23, .inl (cI, 11, .inl (fun _ => 0)))] := hD
  refine va_putF (D := (dC, dI)) (ci := 3) (v := .ref q23) (ty := .array .int) (C := "StoryMachine$Routines") (T := T_Ro) (N := 8) hx hb hts in_Ro t_Ro tk_Ro nm_Ro hown hK hP hD hS 0 rfl rfl 4 (by decide) (hts _ mw_87) (fun _ h9 => h9) rfl hin rfl (by decide +kernel) rfl rfl (Nat.le_of_ble_eq_true rfl) d_Ro_init_25 (fun H locs hP hD hS => ?_)
  have hP : va_P (dC, dI) vcl [(h0, .inr (3, [.ref q7, .int 0, .int 0, .ref q15, .ref q23, .null, .null, .null])), (q7, .inl (cI, 48, .inl (fun _ => 0))), (q15, .inl (cI, 11, .inl (fun _ => 0))), (q23, .inl (cI, 11, .inl (fun _ => 0)))] H := hP
  have hD : va_D A [(h0, .inr (3, [.ref q7, .int 0, .int 0, .ref q15, .ref q23, .null, .null, .null])), (q7, .inl (cI, 48, .inl (fun _ => 0))), (q15, .inl (cI, 11, .inl (fun _ => 0))), (q23, .inl (cI, 11, .inl (fun _ => 0)))] := hD
  refine lv_aload_n hx hb d_Ro_init_28 rfl (lv_at hl 0 rfl) ?_
  refine lv_bipush (v := 11) hx hb d_Ro_init_29 (by decide) ?_
  refine ta_newI (N' := 11) hx hb (hts _ mw_47) hK 0 rfl hP hD hS hA (by decide) (by decide) (by decide) (Nat.le_of_ble_eq_true rfl) (Nat.le_of_ble_eq_true rfl) d_Ro_init_31 (fun q31 H hP hD hS => ?_)
  have hP : va_P (dC, dI) vcl [(h0, .inr (3, [.ref q7, .int 0, .int 0, .ref q15, .ref q23, .null, .null, .null])), (q7, .inl (cI, 48, .inl (fun _ => 0))), (q15, .inl (cI, 11, .inl (fun _ => 0))), (q23, .inl (cI, 11, .inl (fun _ => 0))), (q31, .inl (cI, 11, .inl (fun _ => 0)))] H := hP
  have hD : va_D A [(h0, .inr (3, [.ref q7, .int 0, .int 0, .ref q15, .ref q23, .null, .null, .null])), (q7, .inl (cI, 48, .inl (fun _ => 0))), (q15, .inl (cI, 11, .inl (fun _ => 0))), (q23, .inl (cI, 11, .inl (fun _ => 0))), (q31, .inl (cI, 11, .inl (fun _ => 0)))] := hD
  refine va_putF (D := (dC, dI)) (ci := 3) (v := .ref q31) (ty := .array .int) (C := "StoryMachine$Routines") (T := T_Ro) (N := 8) hx hb hts in_Ro t_Ro tk_Ro nm_Ro hown hK hP hD hS 0 rfl rfl 5 (by decide) (hts _ mw_88) (fun _ h9 => h9) rfl hin rfl (by decide +kernel) rfl rfl (Nat.le_of_ble_eq_true rfl) d_Ro_init_33 (fun H locs hP hD hS => ?_)
  have hP : va_P (dC, dI) vcl [(h0, .inr (3, [.ref q7, .int 0, .int 0, .ref q15, .ref q23, .ref q31, .null, .null])), (q7, .inl (cI, 48, .inl (fun _ => 0))), (q15, .inl (cI, 11, .inl (fun _ => 0))), (q23, .inl (cI, 11, .inl (fun _ => 0))), (q31, .inl (cI, 11, .inl (fun _ => 0)))] H := hP
  have hD : va_D A [(h0, .inr (3, [.ref q7, .int 0, .int 0, .ref q15, .ref q23, .ref q31, .null, .null])), (q7, .inl (cI, 48, .inl (fun _ => 0))), (q15, .inl (cI, 11, .inl (fun _ => 0))), (q23, .inl (cI, 11, .inl (fun _ => 0))), (q31, .inl (cI, 11, .inl (fun _ => 0)))] := hD
  refine lv_aload_n hx hb d_Ro_init_36 rfl (lv_at hl 0 rfl) ?_
  refine lv_bipush (v := 11) hx hb d_Ro_init_37 (by decide) ?_
  refine ta_newI (N' := 11) hx hb (hts _ mw_47) hK 0 rfl hP hD hS hA (by decide) (by decide) (by decide) (Nat.le_of_ble_eq_true rfl) (Nat.le_of_ble_eq_true rfl) d_Ro_init_39 (fun q39 H hP hD hS => ?_)
  have hP : va_P (dC, dI) vcl [(h0, .inr (3, [.ref q7, .int 0, .int 0, .ref q15, .ref q23, .ref q31, .null, .null])), (q7, .inl (cI, 48, .inl (fun _ => 0))), (q15, .inl (cI, 11, .inl (fun _ => 0))), (q23, .inl (cI, 11, .inl (fun _ => 0))), (q31, .inl (cI, 11, .inl (fun _ => 0))), (q39, .inl (cI, 11, .inl (fun _ => 0)))] H := hP
  have hD : va_D A [(h0, .inr (3, [.ref q7, .int 0, .int 0, .ref q15, .ref q23, .ref q31, .null, .null])), (q7, .inl (cI, 48, .inl (fun _ => 0))), (q15, .inl (cI, 11, .inl (fun _ => 0))), (q23, .inl (cI, 11, .inl (fun _ => 0))), (q31, .inl (cI, 11, .inl (fun _ => 0))), (q39, .inl (cI, 11, .inl (fun _ => 0)))] := hD
  refine va_putF (D := (dC, dI)) (ci := 3) (v := .ref q39) (ty := .array .int) (C := "StoryMachine$Routines") (T := T_Ro) (N := 8) hx hb hts in_Ro t_Ro tk_Ro nm_Ro hown hK hP hD hS 0 rfl rfl 6 (by decide) (hts _ mw_89) (fun _ h9 => h9) rfl hin rfl (by decide +kernel) rfl rfl (Nat.le_of_ble_eq_true rfl) d_Ro_init_41 (fun H locs hP hD hS => ?_)
  have hP : va_P (dC, dI) vcl [(h0, .inr (3, [.ref q7, .int 0, .int 0, .ref q15, .ref q23, .ref q31, .ref q39, .null])), (q7, .inl (cI, 48, .inl (fun _ => 0))), (q15, .inl (cI, 11, .inl (fun _ => 0))), (q23, .inl (cI, 11, .inl (fun _ => 0))), (q31, .inl (cI, 11, .inl (fun _ => 0))), (q39, .inl (cI, 11, .inl (fun _ => 0)))] H := hP
  have hD : va_D A [(h0, .inr (3, [.ref q7, .int 0, .int 0, .ref q15, .ref q23, .ref q31, .ref q39, .null])), (q7, .inl (cI, 48, .inl (fun _ => 0))), (q15, .inl (cI, 11, .inl (fun _ => 0))), (q23, .inl (cI, 11, .inl (fun _ => 0))), (q31, .inl (cI, 11, .inl (fun _ => 0))), (q39, .inl (cI, 11, .inl (fun _ => 0)))] := hD
  refine lv_aload_n hx hb d_Ro_init_44 rfl (lv_at hl 0 rfl) ?_
  refine lv_sipush (v := 165) hx hb d_Ro_init_45 (by decide) ?_
  refine ta_newI (N' := 165) hx hb (hts _ mw_47) hK 0 rfl hP hD hS hA (by decide) (by decide) (by decide) (Nat.le_of_ble_eq_true rfl) (Nat.le_of_ble_eq_true rfl) d_Ro_init_48 (fun q48 H hP hD hS => ?_)
  have hP : va_P (dC, dI) vcl [(h0, .inr (3, [.ref q7, .int 0, .int 0, .ref q15, .ref q23, .ref q31, .ref q39, .null])), (q7, .inl (cI, 48, .inl (fun _ => 0))), (q15, .inl (cI, 11, .inl (fun _ => 0))), (q23, .inl (cI, 11, .inl (fun _ => 0))), (q31, .inl (cI, 11, .inl (fun _ => 0))), (q39, .inl (cI, 11, .inl (fun _ => 0))), (q48, .inl (cI, 165, .inl (fun _ => 0)))] H := hP
  have hD : va_D A [(h0, .inr (3, [.ref q7, .int 0, .int 0, .ref q15, .ref q23, .ref q31, .ref q39, .null])), (q7, .inl (cI, 48, .inl (fun _ => 0))), (q15, .inl (cI, 11, .inl (fun _ => 0))), (q23, .inl (cI, 11, .inl (fun _ => 0))), (q31, .inl (cI, 11, .inl (fun _ => 0))), (q39, .inl (cI, 11, .inl (fun _ => 0))), (q48, .inl (cI, 165, .inl (fun _ => 0)))] := hD
  refine va_putF (D := (dC, dI)) (ci := 3) (v := .ref q48) (ty := .array .int) (C := "StoryMachine$Routines") (T := T_Ro) (N := 8) hx hb hts in_Ro t_Ro tk_Ro nm_Ro hown hK hP hD hS 0 rfl rfl 7 (by decide) (hts _ mw_90) (fun _ h9 => h9) rfl hin rfl (by decide +kernel) rfl rfl (Nat.le_of_ble_eq_true rfl) d_Ro_init_50 (fun H locs hP hD hS => ?_)
  have hP : va_P (dC, dI) vcl [(h0, .inr (3, [.ref q7, .int 0, .int 0, .ref q15, .ref q23, .ref q31, .ref q39, .ref q48])), (q7, .inl (cI, 48, .inl (fun _ => 0))), (q15, .inl (cI, 11, .inl (fun _ => 0))), (q23, .inl (cI, 11, .inl (fun _ => 0))), (q31, .inl (cI, 11, .inl (fun _ => 0))), (q39, .inl (cI, 11, .inl (fun _ => 0))), (q48, .inl (cI, 165, .inl (fun _ => 0)))] H := hP
  have hD : va_D A [(h0, .inr (3, [.ref q7, .int 0, .int 0, .ref q15, .ref q23, .ref q31, .ref q39, .ref q48])), (q7, .inl (cI, 48, .inl (fun _ => 0))), (q15, .inl (cI, 11, .inl (fun _ => 0))), (q23, .inl (cI, 11, .inl (fun _ => 0))), (q31, .inl (cI, 11, .inl (fun _ => 0))), (q39, .inl (cI, 11, .inl (fun _ => 0))), (q48, .inl (cI, 165, .inl (fun _ => 0)))] := hD
  have hP9 := hP.sub (ws' := [(h0, .inr (3, [.ref q7, .int 0, .int 0, .ref q15, .ref q23, .ref q31, .ref q39, .ref q48])), (q7, .inl (cI, 48, .inl (fun _ => 0))), (q15, .inl (cI, 11, .inl (fun _ => 0))), (q23, .inl (cI, 11, .inl (fun _ => 0))), (q31, .inl (cI, 11, .inl (fun _ => 0))), (q39, .inl (cI, 11, .inl (fun _ => 0))), (q48, .inl (cI, 165, .inl (fun _ => 0)))]) [0, 1, 2, 3, 4, 5, 6] rfl
  have hD9 := hD.sub (ws' := [(h0, .inr (3, [.ref q7, .int 0, .int 0, .ref q15, .ref q23, .ref q31, .ref q39, .ref q48])), (q7, .inl (cI, 48, .inl (fun _ => 0))), (q15, .inl (cI, 11, .inl (fun _ => 0))), (q23, .inl (cI, 11, .inl (fun _ => 0))), (q31, .inl (cI, 11, .inl (fun _ => 0))), (q39, .inl (cI, 11, .inl (fun _ => 0))), (q48, .inl (cI, 165, .inl (fun _ => 0)))]) [0, 1, 2, 3, 4, 5, 6] (by decide) rfl
  refine W.widen (k := 6) (n := 257) (Nat.le_of_ble_eq_true rfl) (Nat.le_of_ble_eq_true rfl) ?_
  exact tx_ret (W.vret hx hb hr (fun t ht hW => ⟨⟨rfl, q7, q15, q23, q31, q39, q48, by rw [ht]; exact hP9, va_K.moved hW.alike hK, hAe ▸ hD9⟩, hS.F ht⟩) (hS.2.2) d_Ro_init_53)
set_option maxHeartbeats 4000000 in
set_option maxRecDepth 100000 in
theorem c_Pr_init (l : Launch) (hfl : l.flags = pinnedFlags ++ [noTraceFlag]) (dC : Nat → ClassId) (dI : Nat → Nat → Nat) (cI : ClassId) (h0 a1 : Nat) (sz : Nat) : tx_Met l ⟨"StoryMachine$Printer", "<init>", "(LStoryMachine$Memory;)V"⟩ tw_tbl ({ frames := 1, cells := 1, slots := 64, locals := 40 }) (tq_P (dC, dI) vcl [.ref h0, .ref a1] sz [(h0, .inr (4, [.null, .null, .int 0, .int 0, .int 0]))] [(cI, .int)]) (tq_Q (fun o t => o = .returned none ∧ ∃ (q7 : Nat), va_P (dC, dI) vcl [(h0, .inr (4, [.ref a1, .ref q7, .int 0, .int 0, .int 0])), (q7, .inl (cI, 64, .inl (fun _ => 0)))] t.heap ∧ va_K (dC, dI) vcl [(cI, .int)] t ∧ va_D (va_A [(h0, .inr (4, [.null, .null, .int 0, .int 0, .int 0]))] sz) [(h0, .inr (4, [.ref a1, .ref q7, .int 0, .int 0, .int 0])), (q7, .inl (cI, 64, .inl (fun _ => 0)))]) (va_A [(h0, .inr (4, [.null, .null, .int 0, .int 0, .int 0]))] sz)) 1 64 (va_A [(h0, .inr (4, [.null, .null, .int 0, .int 0, .int 0]))] sz) := by
  refine tx_ofW (cc := prog_8_method_1_code) (maxL := 2) (ret := none) (by decide) (tx_isM mw_112) ?_
  intro p e s m args below meth c s₁ B hml hv
  obtain ⟨rfl, hsz, hP, hK, hD0, hst0⟩ := hv
  have hx := B.exec
  have hb := B.bytes
  have hr := B.returns
  have hts := atoms_spec (ws := tw_tbl) B.pre
  have hown : s.vm.findClass "StoryMachine$Printer" = some m.cls := findClass_of_methodNamed B.named
  have hlocks := B.notSynchronized
  have hin : meth.name = "<init>" := (name_of_methodNamed B.named B.method).1
  subst hsz
  have hD := hD0.self (sz := s.heap.size)
  have hst := fun (H : Heap) (locs : List Loc) (hS : va_S (va_A [(h0, .inr (4, [.null, .null, .int 0, .int 0, .int 0]))] s.heap.size) s.heap H locs) (U : State) (hU : U.heap = H) (hW : s.WarmedH U.vm) => ts_keep hW (fun q cell h1 h2 => by rw [hU]; exact ts_va hP hS q cell h1 h2) hst0
  generalize hAe : va_A [(h0, .inr (4, [.null, .null, .int 0, .int 0, .int 0]))] s.heap.size = A at hD hst ⊢
  have hA : ∀ q : Nat, s.heap.size ≤ q → A q := fun q h => by rw [← hAe]; exact Or.inr h
  have hS : va_S A s.heap s.heap [] := va_S.rf
  have hP : va_P (dC, dI) vcl [(h0, .inr (4, [.null, .null, .int 0, .int 0, .int 0]))] s.heap := hP
  have hl := lv_entry ([.ref h0, .ref a1]) (n := 2) (Nat.le_of_ble_eq_true rfl)
  rw [lg_entry_eq]
  generalize (lg_sl ([.ref h0, .ref a1]) ++ List.replicate (2 - (lg_sl ([.ref h0, .ref a1])).length) Slot.unset).toArray = ls at hl ⊢
  have hl : lv_has ls 2 [(0, .ref h0), (1, .ref a1)] := hl
  refine lv_aload_n hx hb d_Pr_init_0 rfl (lv_at hl 0 rfl) ?_
  refine W.objInit hx hb hown (hts _ mw_113) (hts _ mw_34) (hts _ mw_35) rfl (by rw [hml]; exact hl.1) rfl d_Pr_init_1 (Nat.le_of_ble_eq_true rfl) (Nat.le_of_ble_eq_true rfl) ?_
  refine W.eq (g2 := F0 m 4 ls []) rfl ?_
  refine lv_aload_n hx hb d_Pr_init_4 rfl (lv_at hl 0 rfl) ?_
  refine lv_bipush (v := 64) hx hb d_Pr_init_5 (by decide) ?_
  refine ta_newI (N' := 64) hx hb (hts _ mw_47) hK 0 rfl hP hD hS hA (by decide) (by decide) (by decide) (Nat.le_of_ble_eq_true rfl) (Nat.le_of_ble_eq_true rfl) d_Pr_init_7 (fun q7 H hP hD hS => ?_)
  have hP : va_P (dC, dI) vcl [(h0, .inr (4, [.null, .null, .int 0, .int 0, .int 0])), (q7, .inl (cI, 64, .inl (fun _ => 0)))] H := hP
  have hD : va_D A [(h0, .inr (4, [.null, .null, .int 0, .int 0, .int 0])), (q7, .inl (cI, 64, .inl (fun _ => 0)))] := hD
  refine va_putF (D := (dC, dI)) (ci := 4) (v := .ref q7) (ty := .array .int) (C := "StoryMachine$Printer") (T := T_Pr) (N := 5) hx hb hts in_Pr t_Pr tk_Pr nm_Pr hown hK hP hD hS 0 rfl rfl 1 (by decide) (hts _ mw_115) (fun _ h9 => h9) rfl hin rfl (by decide +kernel) rfl rfl (Nat.le_of_ble_eq_true rfl) d_Pr_init_9 (fun H locs hP hD hS => ?_)
  have hP : va_P (dC, dI) vcl [(h0, .inr (4, [.null, .ref q7, .int 0, .int 0, .int 0])), (q7, .inl (cI, 64, .inl (fun _ => 0)))] H := hP
  have hD : va_D A [(h0, .inr (4, [.null, .ref q7, .int 0, .int 0, .int 0])), (q7, .inl (cI, 64, .inl (fun _ => 0)))] := hD
  refine lv_aload_n hx hb d_Pr_init_12 rfl (lv_at hl 0 rfl) ?_
  refine lv_aload_n hx hb d_Pr_init_13 rfl (lv_at hl 1 rfl) ?_
  refine va_putF (D := (dC, dI)) (ci := 4) (v := .ref a1) (ty := .object "StoryMachine$Memory") (C := "StoryMachine$Printer") (T := T_Pr) (N := 5) hx hb hts in_Pr t_Pr tk_Pr nm_Pr hown hK hP hD hS 0 rfl rfl 0 (by decide) (hts _ mw_114) (fun _ h9 => h9) rfl hin rfl (by decide +kernel) rfl rfl (Nat.le_of_ble_eq_true rfl) d_Pr_init_14 (fun H locs hP hD hS => ?_)
  have hP : va_P (dC, dI) vcl [(h0, .inr (4, [.ref a1, .ref q7, .int 0, .int 0, .int 0])), (q7, .inl (cI, 64, .inl (fun _ => 0)))] H := hP
  have hD : va_D A [(h0, .inr (4, [.ref a1, .ref q7, .int 0, .int 0, .int 0])), (q7, .inl (cI, 64, .inl (fun _ => 0)))] := hD
  have hP9 := hP.sub (ws' := [(h0, .inr (4, [.ref a1, .ref q7, .int 0, .int 0, .int 0])), (q7, .inl (cI, 64, .inl (fun _ => 0)))]) [0, 1] rfl
  have hD9 := hD.sub (ws' := [(h0, .inr (4, [.ref a1, .ref q7, .int 0, .int 0, .int 0])), (q7, .inl (cI, 64, .inl (fun _ => 0)))]) [0, 1] (by decide) rfl
  refine W.widen (k := 1) (n := 64) (Nat.le_of_ble_eq_true rfl) (Nat.le_of_ble_eq_true rfl) ?_
  exact tx_ret (W.vret hx hb hr (fun t ht hW => ⟨⟨rfl, q7, by rw [ht]; exact hP9, va_K.moved hW.alike hK, hAe ▸ hD9⟩, hS.F ht⟩) (hS.2.2) d_Pr_init_17)
set_option maxHeartbeats 4000000 in
set_option maxRecDepth 100000 in
theorem c_Va_init (l : Launch) (hfl : l.flags = pinnedFlags ++ [noTraceFlag]) (dC : Nat → ClassId) (dI : Nat → Nat → Nat) (cI : ClassId) (h0 a1 a2 : Nat) (sz : Nat) : tx_Met l ⟨"StoryMachine$Variables", "<init>", "(LStoryMachine$Memory;LStoryMachine$Routines;)V"⟩ tw_tbl ({ frames := 1, cells := 0, slots := 0, locals := 40 }) (tq_P (dC, dI) vcl [.ref h0, .ref a1, .ref a2] sz [(h0, .inr (6, [.null, .null]))] [(cI, .int)]) (tq_Q (fun o t => o = .returned none ∧ va_P (dC, dI) vcl [(h0, .inr (6, [.ref a1, .ref a2]))] t.heap ∧ va_K (dC, dI) vcl [(cI, .int)] t ∧ va_D (va_A [(h0, .inr (6, [.null, .null]))] sz) [(h0, .inr (6, [.ref a1, .ref a2]))]) (va_A [(h0, .inr (6, [.null, .null]))] sz)) 0 0 (va_A [(h0, .inr (6, [.null, .null]))] sz) := by
  refine tx_ofW (cc := prog_11_method_1_code) (maxL := 3) (ret := none) (by decide) (tx_isM mw_166) ?_
  intro p e s m args below meth c s₁ B hml hv
  obtain ⟨rfl, hsz, hP, hK, hD0, hst0⟩ := hv
  have hx := B.exec
  have hb := B.bytes
  have hr := B.returns
  have hts := atoms_spec (ws := tw_tbl) B.pre
  have hown : s.vm.findClass "StoryMachine$Variables" = some m.cls := findClass_of_methodNamed B.named
  have hlocks := B.notSynchronized
  have hin : meth.name = "<init>" := (name_of_methodNamed B.named B.method).1
  subst hsz
  have hD := hD0.self (sz := s.heap.size)
  have hst := fun (H : Heap) (locs : List Loc) (hS : va_S (va_A [(h0, .inr (6, [.null, .null]))] s.heap.size) s.heap H locs) (U : State) (hU : U.heap = H) (hW : s.WarmedH U.vm) => ts_keep hW (fun q cell h1 h2 => by rw [hU]; exact ts_va hP hS q cell h1 h2) hst0
  generalize hAe : va_A [(h0, .inr (6, [.null, .null]))] s.heap.size = A at hD hst ⊢
  have hA : ∀ q : Nat, s.heap.size ≤ q → A q := fun q h => by rw [← hAe]; exact Or.inr h
  have hS : va_S A s.heap s.heap [] := va_S.rf
  have hP : va_P (dC, dI) vcl [(h0, .inr (6, [.null, .null]))] s.heap := hP
  have hl := lv_entry ([.ref h0, .ref a1, .ref a2]) (n := 3) (Nat.le_of_ble_eq_true rfl)
  rw [lg_entry_eq]
  generalize (lg_sl ([.ref h0, .ref a1, .ref a2]) ++ List.replicate (3 - (lg_sl ([.ref h0, .ref a1, .ref a2])).length) Slot.unset).toArray = ls at hl ⊢
  have hl : lv_has ls 3 [(0, .ref h0), (1, .ref a1), (2, .ref a2)] := hl
  refine lv_aload_n hx hb d_Va_init_0 rfl (lv_at hl 0 rfl) ?_
  refine W.objInit hx hb hown (hts _ mw_167) (hts _ mw_34) (hts _ mw_35) rfl (by rw [hml]; exact hl.1) rfl d_Va_init_1 (Nat.le_of_ble_eq_true rfl) (Nat.le_of_ble_eq_true rfl) ?_
  refine W.eq (g2 := F0 m 4 ls []) rfl ?_
  refine lv_aload_n hx hb d_Va_init_4 rfl (lv_at hl 0 rfl) ?_
  refine lv_aload_n hx hb d_Va_init_5 rfl (lv_at hl 1 rfl) ?_
  refine va_putF (D := (dC, dI)) (ci := 6) (v := .ref a1) (ty := .object "StoryMachine$Memory") (C := "StoryMachine$Variables") (T := T_Va) (N := 2) hx hb hts in_Va t_Va tk_Va nm_Va hown hK hP hD hS 0 rfl rfl 0 (by decide) (hts _ mw_168) (fun _ h9 => h9) rfl hin rfl (by decide +kernel) rfl rfl (Nat.le_of_ble_eq_true rfl) d_Va_init_6 (fun H locs hP hD hS => ?_)
  have hP : va_P (dC, dI) vcl [(h0, .inr (6, [.ref a1, .null]))] H := hP
  have hD : va_D A [(h0, .inr (6, [.ref a1, .null]))] := hD
  refine lv_aload_n hx hb d_Va_init_9 rfl (lv_at hl 0 rfl) ?_
  refine lv_aload_n hx hb d_Va_init_10 rfl (lv_at hl 2 rfl) ?_
  refine va_putF (D := (dC, dI)) (ci := 6) (v := .ref a2) (ty := .object "StoryMachine$Routines") (C := "StoryMachine$Variables") (T := T_Va) (N := 2) hx hb hts in_Va t_Va tk_Va nm_Va hown hK hP hD hS 0 rfl rfl 1 (by decide) (hts _ mw_169) (fun _ h9 => h9) rfl hin rfl (by decide +kernel) rfl rfl (Nat.le_of_ble_eq_true rfl) d_Va_init_11 (fun H locs hP hD hS => ?_)
  have hP : va_P (dC, dI) vcl [(h0, .inr (6, [.ref a1, .ref a2]))] H := hP
  have hD : va_D A [(h0, .inr (6, [.ref a1, .ref a2]))] := hD
  have hP9 := hP.sub (ws' := [(h0, .inr (6, [.ref a1, .ref a2]))]) [0] rfl
  have hD9 := hD.sub (ws' := [(h0, .inr (6, [.ref a1, .ref a2]))]) [0] (by decide) rfl
  refine W.widen (k := 0) (n := 0) (Nat.le_of_ble_eq_true rfl) (Nat.le_of_ble_eq_true rfl) ?_
  exact tx_ret (W.vret hx hb hr (fun t ht hW => ⟨⟨rfl, by rw [ht]; exact hP9, va_K.moved hW.alike hK, hAe ▸ hD9⟩, hS.F ht⟩) (hS.2.2) d_Va_init_14)
set_option maxHeartbeats 4000000 in
set_option maxRecDepth 100000 in
theorem c_Tr_init (l : Launch) (hfl : l.flags = pinnedFlags ++ [noTraceFlag]) (dC : Nat → ClassId) (dI : Nat → Nat → Nat) (cI : ClassId) (h0 a1 : Nat) (sz : Nat) : tx_Met l ⟨"StoryMachine$Tree", "<init>", "(LStoryMachine$Memory;)V"⟩ tw_tbl ({ frames := 1, cells := 0, slots := 0, locals := 40 }) (tq_P (dC, dI) vcl [.ref h0, .ref a1] sz [(h0, .inr (7, [.null]))] [(cI, .int)]) (tq_Q (fun o t => o = .returned none ∧ va_P (dC, dI) vcl [(h0, .inr (7, [.ref a1]))] t.heap ∧ va_K (dC, dI) vcl [(cI, .int)] t ∧ va_D (va_A [(h0, .inr (7, [.null]))] sz) [(h0, .inr (7, [.ref a1]))]) (va_A [(h0, .inr (7, [.null]))] sz)) 0 0 (va_A [(h0, .inr (7, [.null]))] sz) := by
  refine tx_ofW (cc := prog_10_method_1_code) (maxL := 2) (ret := none) (by decide) (tx_isM mw_179) ?_
  intro p e s m args below meth c s₁ B hml hv
  obtain ⟨rfl, hsz, hP, hK, hD0, hst0⟩ := hv
  have hx := B.exec
  have hb := B.bytes
  have hr := B.returns
  have hts := atoms_spec (ws := tw_tbl) B.pre
  have hown : s.vm.findClass "StoryMachine$Tree" = some m.cls := findClass_of_methodNamed B.named
  have hlocks := B.notSynchronized
  have hin : meth.name = "<init>" := (name_of_methodNamed B.named B.method).1
  subst hsz
  have hD := hD0.self (sz := s.heap.size)
  have hst := fun (H : Heap) (locs : List Loc) (hS : va_S (va_A [(h0, .inr (7, [.null]))] s.heap.size) s.heap H locs) (U : State) (hU : U.heap = H) (hW : s.WarmedH U.vm) => ts_keep hW (fun q cell h1 h2 => by rw [hU]; exact ts_va hP hS q cell h1 h2) hst0
  generalize hAe : va_A [(h0, .inr (7, [.null]))] s.heap.size = A at hD hst ⊢
  have hA : ∀ q : Nat, s.heap.size ≤ q → A q := fun q h => by rw [← hAe]; exact Or.inr h
  have hS : va_S A s.heap s.heap [] := va_S.rf
  have hP : va_P (dC, dI) vcl [(h0, .inr (7, [.null]))] s.heap := hP
  have hl := lv_entry ([.ref h0, .ref a1]) (n := 2) (Nat.le_of_ble_eq_true rfl)
  rw [lg_entry_eq]
  generalize (lg_sl ([.ref h0, .ref a1]) ++ List.replicate (2 - (lg_sl ([.ref h0, .ref a1])).length) Slot.unset).toArray = ls at hl ⊢
  have hl : lv_has ls 2 [(0, .ref h0), (1, .ref a1)] := hl
  refine lv_aload_n hx hb d_Tr_init_0 rfl (lv_at hl 0 rfl) ?_
  refine W.objInit hx hb hown (hts _ mw_180) (hts _ mw_34) (hts _ mw_35) rfl (by rw [hml]; exact hl.1) rfl d_Tr_init_1 (Nat.le_of_ble_eq_true rfl) (Nat.le_of_ble_eq_true rfl) ?_
  refine W.eq (g2 := F0 m 4 ls []) rfl ?_
  refine lv_aload_n hx hb d_Tr_init_4 rfl (lv_at hl 0 rfl) ?_
  refine lv_aload_n hx hb d_Tr_init_5 rfl (lv_at hl 1 rfl) ?_
  refine va_putF (D := (dC, dI)) (ci := 7) (v := .ref a1) (ty := .object "StoryMachine$Memory") (C := "StoryMachine$Tree") (T := T_Tr) (N := 1) hx hb hts in_Tr t_Tr tk_Tr nm_Tr hown hK hP hD hS 0 rfl rfl 0 (by decide) (hts _ mw_181) (fun _ h9 => h9) rfl hin rfl (by decide +kernel) rfl rfl (Nat.le_of_ble_eq_true rfl) d_Tr_init_6 (fun H locs hP hD hS => ?_)
  have hP : va_P (dC, dI) vcl [(h0, .inr (7, [.ref a1]))] H := hP
  have hD : va_D A [(h0, .inr (7, [.ref a1]))] := hD
  have hP9 := hP.sub (ws' := [(h0, .inr (7, [.ref a1]))]) [0] rfl
  have hD9 := hD.sub (ws' := [(h0, .inr (7, [.ref a1]))]) [0] (by decide) rfl
  refine W.widen (k := 0) (n := 0) (Nat.le_of_ble_eq_true rfl) (Nat.le_of_ble_eq_true rfl) ?_
  exact tx_ret (W.vret hx hb hr (fun t ht hW => ⟨⟨rfl, by rw [ht]; exact hP9, va_K.moved hW.alike hK, hAe ▸ hD9⟩, hS.F ht⟩) (hS.2.2) d_Tr_init_9)
set_option maxHeartbeats 4000000 in
set_option maxRecDepth 100000 in
theorem c_Di_init (l : Launch) (hfl : l.flags = pinnedFlags ++ [noTraceFlag]) (dC : Nat → ClassId) (dI : Nat → Nat → Nat) (cI : ClassId) (h0 a1 : Nat) (sz : Nat) : tx_Met l ⟨"StoryMachine$Dictionary", "<init>", "(LStoryMachine$Memory;)V"⟩ tw_tbl ({ frames := 1, cells := 3, slots := 54, locals := 40 }) (tq_P (dC, dI) vcl [.ref h0, .ref a1] sz [(h0, .inr (8, [.null, .null, .null, .int 0, .null, .int 0]))] [(cI, .int)]) (tq_Q (fun o t => o = .returned none ∧ ∃ (q7 q15 q23 : Nat), va_P (dC, dI) vcl [(h0, .inr (8, [.ref a1, .ref q7, .ref q15, .int 0, .ref q23, .int 0])), (q7, .inl (cI, 24, .inl (fun _ => 0))), (q15, .inl (cI, 24, .inl (fun _ => 0))), (q23, .inl (cI, 6, .inl (fun _ => 0)))] t.heap ∧ va_K (dC, dI) vcl [(cI, .int)] t ∧ va_D (va_A [(h0, .inr (8, [.null, .null, .null, .int 0, .null, .int 0]))] sz) [(h0, .inr (8, [.ref a1, .ref q7, .ref q15, .int 0, .ref q23, .int 0])), (q7, .inl (cI, 24, .inl (fun _ => 0))), (q15, .inl (cI, 24, .inl (fun _ => 0))), (q23, .inl (cI, 6, .inl (fun _ => 0)))]) (va_A [(h0, .inr (8, [.null, .null, .null, .int 0, .null, .int 0]))] sz)) 3 54 (va_A [(h0, .inr (8, [.null, .null, .null, .int 0, .null, .int 0]))] sz) := by
  refine tx_ofW (cc := prog_3_method_1_code) (maxL := 2) (ret := none) (by decide) (tx_isM mw_189) ?_
  intro p e s m args below meth c s₁ B hml hv
  obtain ⟨rfl, hsz, hP, hK, hD0, hst0⟩ := hv
  have hx := B.exec
  have hb := B.bytes
  have hr := B.returns
  have hts := atoms_spec (ws := tw_tbl) B.pre
  have hown : s.vm.findClass "StoryMachine$Dictionary" = some m.cls := findClass_of_methodNamed B.named
  have hlocks := B.notSynchronized
  have hin : meth.name = "<init>" := (name_of_methodNamed B.named B.method).1
  subst hsz
  have hD := hD0.self (sz := s.heap.size)
  have hst := fun (H : Heap) (locs : List Loc) (hS : va_S (va_A [(h0, .inr (8, [.null, .null, .null, .int 0, .null, .int 0]))] s.heap.size) s.heap H locs) (U : State) (hU : U.heap = H) (hW : s.WarmedH U.vm) => ts_keep hW (fun q cell h1 h2 => by rw [hU]; exact ts_va hP hS q cell h1 h2) hst0
  generalize hAe : va_A [(h0, .inr (8, [.null, .null, .null, .int 0, .null, .int 0]))] s.heap.size = A at hD hst ⊢
  have hA : ∀ q : Nat, s.heap.size ≤ q → A q := fun q h => by rw [← hAe]; exact Or.inr h
  have hS : va_S A s.heap s.heap [] := va_S.rf
  have hP : va_P (dC, dI) vcl [(h0, .inr (8, [.null, .null, .null, .int 0, .null, .int 0]))] s.heap := hP
  have hl := lv_entry ([.ref h0, .ref a1]) (n := 2) (Nat.le_of_ble_eq_true rfl)
  rw [lg_entry_eq]
  generalize (lg_sl ([.ref h0, .ref a1]) ++ List.replicate (2 - (lg_sl ([.ref h0, .ref a1])).length) Slot.unset).toArray = ls at hl ⊢
  have hl : lv_has ls 2 [(0, .ref h0), (1, .ref a1)] := hl
  refine lv_aload_n hx hb d_Di_init_0 rfl (lv_at hl 0 rfl) ?_
  refine W.objInit hx hb hown (hts _ mw_190) (hts _ mw_34) (hts _ mw_35) rfl (by rw [hml]; exact hl.1) rfl d_Di_init_1 (Nat.le_of_ble_eq_true rfl) (Nat.le_of_ble_eq_true rfl) ?_
  refine W.eq (g2 := F0 m 4 ls []) rfl ?_
  refine lv_aload_n hx hb d_Di_init_4 rfl (lv_at hl 0 rfl) ?_
  refine lv_bipush (v := 24) hx hb d_Di_init_5 (by decide) ?_
  refine ta_newI (N' := 24) hx hb (hts _ mw_47) hK 0 rfl hP hD hS hA (by decide) (by decide) (by decide) (Nat.le_of_ble_eq_true rfl) (Nat.le_of_ble_eq_true rfl) d_Di_init_7 (fun q7 H hP hD hS => ?_)
  have hP : va_P (dC, dI) vcl [(h0, .inr (8, [.null, .null, .null, .int 0, .null, .int 0])), (q7, .inl (cI, 24, .inl (fun _ => 0)))] H := hP
  have hD : va_D A [(h0, .inr (8, [.null, .null, .null, .int 0, .null, .int 0])), (q7, .inl (cI, 24, .inl (fun _ => 0)))] := hD
  refine va_putF (D := (dC, dI)) (ci := 8) (v := .ref q7) (ty := .array .int) (C := "StoryMachine$Dictionary") (T := T_Di) (N := 6) hx hb hts in_Di t_Di tk_Di nm_Di hown hK hP hD hS 0 rfl rfl 1 (by decide) (hts _ mw_192) (fun _ h9 => h9) rfl hin rfl (by decide +kernel) rfl rfl (Nat.le_of_ble_eq_true rfl) d_Di_init_9 (fun H locs hP hD hS => ?_)
  have hP : va_P (dC, dI) vcl [(h0, .inr (8, [.null, .ref q7, .null, .int 0, .null, .int 0])), (q7, .inl (cI, 24, .inl (fun _ => 0)))] H := hP
  have hD : va_D A [(h0, .inr (8, [.null, .ref q7, .null, .int 0, .null, .int 0])), (q7, .inl (cI, 24, .inl (fun _ => 0)))] := hD
  refine lv_aload_n hx hb d_Di_init_12 rfl (lv_at hl 0 rfl) ?_
  refine lv_bipush (v := 24) hx hb d_Di_init_13 (by decide) ?_
  refine ta_newI (N' := 24) hx hb (hts _ mw_47) hK 0 rfl hP hD hS hA (by decide) (by decide) (by decide) (Nat.le_of_ble_eq_true rfl) (Nat.le_of_ble_eq_true rfl) d_Di_init_15 (fun q15 H hP hD hS => ?_)
  have hP : va_P (dC, dI) vcl [(h0, .inr (8, [.null, .ref q7, .null, .int 0, .null, .int 0])), (q7, .inl (cI, 24, .inl (fun _ => 0))), (q15, .inl (cI, 24, .inl (fun _ => 0)))] H := hP
  have hD : va_D A [(h0, .inr (8, [.null, .ref q7, .null, .int 0, .null, .int 0])), (q7, .inl (cI, 24, .inl (fun _ => 0))), (q15, .inl (cI, 24, .inl (fun _ => 0)))] := hD
  refine va_putF (D := (dC, dI)) (ci := 8) (v := .ref q15) (ty := .array .int) (C := "StoryMachine$Dictionary") (T := T_Di) (N := 6) hx hb hts in_Di t_Di tk_Di nm_Di hown hK hP hD hS 0 rfl rfl 2 (by decide) (hts _ mw_194) (fun _ h9 => h9) rfl hin rfl (by decide +kernel) rfl rfl (Nat.le_of_ble_eq_true rfl) d_Di_init_17 (fun H locs hP hD hS => ?_)
  have hP : va_P (dC, dI) vcl [(h0, .inr (8, [.null, .ref q7, .ref q15, .int 0, .null, .int 0])), (q7, .inl (cI, 24, .inl (fun _ => 0))), (q15, .inl (cI, 24, .inl (fun _ => 0)))] H := hP
  have hD : va_D A [(h0, .inr (8, [.null, .ref q7, .ref q15, .int 0, .null, .int 0])), (q7, .inl (cI, 24, .inl (fun _ => 0))), (q15, .inl (cI, 24, .inl (fun _ => 0)))] := hD
  refine lv_aload_n hx hb d_Di_init_20 rfl (lv_at hl 0 rfl) ?_
  refine lv_bipush (v := 6) hx hb d_Di_init_21 (by decide) ?_
  refine ta_newI (N' := 6) hx hb (hts _ mw_47) hK 0 rfl hP hD hS hA (by decide) (by decide) (by decide) (Nat.le_of_ble_eq_true rfl) (Nat.le_of_ble_eq_true rfl) d_Di_init_23 (fun q23 H hP hD hS => ?_)
  have hP : va_P (dC, dI) vcl [(h0, .inr (8, [.null, .ref q7, .ref q15, .int 0, .null, .int 0])), (q7, .inl (cI, 24, .inl (fun _ => 0))), (q15, .inl (cI, 24, .inl (fun _ => 0))), (q23, .inl (cI, 6, .inl (fun _ => 0)))] H := hP
  have hD : va_D A [(h0, .inr (8, [.null, .ref q7, .ref q15, .int 0, .null, .int 0])), (q7, .inl (cI, 24, .inl (fun _ => 0))), (q15, .inl (cI, 24, .inl (fun _ => 0))), (q23, .inl (cI, 6, .inl (fun _ => 0)))] := hD
  refine va_putF (D := (dC, dI)) (ci := 8) (v := .ref q23) (ty := .array .int) (C := "StoryMachine$Dictionary") (T := T_Di) (N := 6) hx hb hts in_Di t_Di tk_Di nm_Di hown hK hP hD hS 0 rfl rfl 4 (by decide) (hts _ mw_198) (fun _ h9 => h9) rfl hin rfl (by decide +kernel) rfl rfl (Nat.le_of_ble_eq_true rfl) d_Di_init_25 (fun H locs hP hD hS => ?_)
  have hP : va_P (dC, dI) vcl [(h0, .inr (8, [.null, .ref q7, .ref q15, .int 0, .ref q23, .int 0])), (q7, .inl (cI, 24, .inl (fun _ => 0))), (q15, .inl (cI, 24, .inl (fun _ => 0))), (q23, .inl (cI, 6, .inl (fun _ => 0)))] H := hP
  have hD : va_D A [(h0, .inr (8, [.null, .ref q7, .ref q15, .int 0, .ref q23, .int 0])), (q7, .inl (cI, 24, .inl (fun _ => 0))), (q15, .inl (cI, 24, .inl (fun _ => 0))), (q23, .inl (cI, 6, .inl (fun _ => 0)))] := hD
  refine lv_aload_n hx hb d_Di_init_28 rfl (lv_at hl 0 rfl) ?_
  refine lv_aload_n hx hb d_Di_init_29 rfl (lv_at hl 1 rfl) ?_
  refine va_putF (D := (dC, dI)) (ci := 8) (v := .ref a1) (ty := .object "StoryMachine$Memory") (C := "StoryMachine$Dictionary") (T := T_Di) (N := 6) hx hb hts in_Di t_Di tk_Di nm_Di hown hK hP hD hS 0 rfl rfl 0 (by decide) (hts _ mw_191) (fun _ h9 => h9) rfl hin rfl (by decide +kernel) rfl rfl (Nat.le_of_ble_eq_true rfl) d_Di_init_30 (fun H locs hP hD hS => ?_)
  have hP : va_P (dC, dI) vcl [(h0, .inr (8, [.ref a1, .ref q7, .ref q15, .int 0, .ref q23, .int 0])), (q7, .inl (cI, 24, .inl (fun _ => 0))), (q15, .inl (cI, 24, .inl (fun _ => 0))), (q23, .inl (cI, 6, .inl (fun _ => 0)))] H := hP
  have hD : va_D A [(h0, .inr (8, [.ref a1, .ref q7, .ref q15, .int 0, .ref q23, .int 0])), (q7, .inl (cI, 24, .inl (fun _ => 0))), (q15, .inl (cI, 24, .inl (fun _ => 0))), (q23, .inl (cI, 6, .inl (fun _ => 0)))] := hD
  have hP9 := hP.sub (ws' := [(h0, .inr (8, [.ref a1, .ref q7, .ref q15, .int 0, .ref q23, .int 0])), (q7, .inl (cI, 24, .inl (fun _ => 0))), (q15, .inl (cI, 24, .inl (fun _ => 0))), (q23, .inl (cI, 6, .inl (fun _ => 0)))]) [0, 1, 2, 3] rfl
  have hD9 := hD.sub (ws' := [(h0, .inr (8, [.ref a1, .ref q7, .ref q15, .int 0, .ref q23, .int 0])), (q7, .inl (cI, 24, .inl (fun _ => 0))), (q15, .inl (cI, 24, .inl (fun _ => 0))), (q23, .inl (cI, 6, .inl (fun _ => 0)))]) [0, 1, 2, 3] (by decide) rfl
  refine W.widen (k := 3) (n := 54) (Nat.le_of_ble_eq_true rfl) (Nat.le_of_ble_eq_true rfl) ?_
  exact tx_ret (W.vret hx hb hr (fun t ht hW => ⟨⟨rfl, q7, q15, q23, by rw [ht]; exact hP9, va_K.moved hW.alike hK, hAe ▸ hD9⟩, hS.F ht⟩) (hS.2.2) d_Di_init_33)
set_option maxHeartbeats 4000000 in
set_option maxRecDepth 100000 in
theorem c_In_init (l : Launch) (hfl : l.flags = pinnedFlags ++ [noTraceFlag]) (dC : Nat → ClassId) (dI : Nat → Nat → Nat) (cI : ClassId) (h0 a1 a2 : Nat) (sz : Nat) : tx_Met l ⟨"StoryMachine$Instruction", "<init>", "(LStoryMachine$Memory;LStoryMachine$Variables;)V"⟩ tw_tbl ({ frames := 1, cells := 1, slots := 4, locals := 40 }) (tq_P (dC, dI) vcl [.ref h0, .ref a1, .ref a2] sz [(h0, .inr (9, [.null, .null, .null, .int 0, .int 0, .int 0, .int 0, .int 0, .int 0, .int 0, .int 0]))] [(cI, .int)]) (tq_Q (fun o t => o = .returned none ∧ ∃ (q6 : Nat), va_P (dC, dI) vcl [(h0, .inr (9, [.ref a1, .ref a2, .ref q6, .int 0, .int 0, .int 0, .int 0, .int 0, .int 0, .int 0, .int 0])), (q6, .inl (cI, 4, .inl (fun _ => 0)))] t.heap ∧ va_K (dC, dI) vcl [(cI, .int)] t ∧ va_D (va_A [(h0, .inr (9, [.null, .null, .null, .int 0, .int 0, .int 0, .int 0, .int 0, .int 0, .int 0, .int 0]))] sz) [(h0, .inr (9, [.ref a1, .ref a2, .ref q6, .int 0, .int 0, .int 0, .int 0, .int 0, .int 0, .int 0, .int 0])), (q6, .inl (cI, 4, .inl (fun _ => 0)))]) (va_A [(h0, .inr (9, [.null, .null, .null, .int 0, .int 0, .int 0, .int 0, .int 0, .int 0, .int 0, .int 0]))] sz)) 1 4 (va_A [(h0, .inr (9, [.null, .null, .null, .int 0, .int 0, .int 0, .int 0, .int 0, .int 0, .int 0, .int 0]))] sz) := by
  refine tx_ofW (cc := prog_5_method_1_code) (maxL := 3) (ret := none) (by decide) (tx_isM mw_217) ?_
  intro p e s m args below meth c s₁ B hml hv
  obtain ⟨rfl, hsz, hP, hK, hD0, hst0⟩ := hv
  have hx := B.exec
  have hb := B.bytes
  have hr := B.returns
  have hts := atoms_spec (ws := tw_tbl) B.pre
  have hown : s.vm.findClass "StoryMachine$Instruction" = some m.cls := findClass_of_methodNamed B.named
  have hlocks := B.notSynchronized
  have hin : meth.name = "<init>" := (name_of_methodNamed B.named B.method).1
  subst hsz
  have hD := hD0.self (sz := s.heap.size)
  have hst := fun (H : Heap) (locs : List Loc) (hS : va_S (va_A [(h0, .inr (9, [.null, .null, .null, .int 0, .int 0, .int 0, .int 0, .int 0, .int 0, .int 0, .int 0]))] s.heap.size) s.heap H locs) (U : State) (hU : U.heap = H) (hW : s.WarmedH U.vm) => ts_keep hW (fun q cell h1 h2 => by rw [hU]; exact ts_va hP hS q cell h1 h2) hst0
  generalize hAe : va_A [(h0, .inr (9, [.null, .null, .null, .int 0, .int 0, .int 0, .int 0, .int 0, .int 0, .int 0, .int 0]))] s.heap.size = A at hD hst ⊢
  have hA : ∀ q : Nat, s.heap.size ≤ q → A q := fun q h => by rw [← hAe]; exact Or.inr h
  have hS : va_S A s.heap s.heap [] := va_S.rf
  have hP : va_P (dC, dI) vcl [(h0, .inr (9, [.null, .null, .null, .int 0, .int 0, .int 0, .int 0, .int 0, .int 0, .int 0, .int 0]))] s.heap := hP
  have hl := lv_entry ([.ref h0, .ref a1, .ref a2]) (n := 3) (Nat.le_of_ble_eq_true rfl)
  rw [lg_entry_eq]
  generalize (lg_sl ([.ref h0, .ref a1, .ref a2]) ++ List.replicate (3 - (lg_sl ([.ref h0, .ref a1, .ref a2])).length) Slot.unset).toArray = ls at hl ⊢
  have hl : lv_has ls 3 [(0, .ref h0), (1, .ref a1), (2, .ref a2)] := hl
  refine lv_aload_n hx hb d_In_init_0 rfl (lv_at hl 0 rfl) ?_
  refine W.objInit hx hb hown (hts _ mw_218) (hts _ mw_34) (hts _ mw_35) rfl (by rw [hml]; exact hl.1) rfl d_In_init_1 (Nat.le_of_ble_eq_true rfl) (Nat.le_of_ble_eq_true rfl) ?_
  refine W.eq (g2 := F0 m 4 ls []) rfl ?_
  refine lv_aload_n hx hb d_In_init_4 rfl (lv_at hl 0 rfl) ?_
  refine lv_iconst (v := 4) hx hb d_In_init_5 (by decide) ?_
  refine ta_newI (N' := 4) hx hb (hts _ mw_47) hK 0 rfl hP hD hS hA (by decide) (by decide) (by decide) (Nat.le_of_ble_eq_true rfl) (Nat.le_of_ble_eq_true rfl) d_In_init_6 (fun q6 H hP hD hS => ?_)
  have hP : va_P (dC, dI) vcl [(h0, .inr (9, [.null, .null, .null, .int 0, .int 0, .int 0, .int 0, .int 0, .int 0, .int 0, .int 0])), (q6, .inl (cI, 4, .inl (fun _ => 0)))] H := hP
  have hD : va_D A [(h0, .inr (9, [.null, .null, .null, .int 0, .int 0, .int 0, .int 0, .int 0, .int 0, .int 0, .int 0])), (q6, .inl (cI, 4, .inl (fun _ => 0)))] := hD
  refine va_putF (D := (dC, dI)) (ci := 9) (v := .ref q6) (ty := .array .int) (C := "StoryMachine$Instruction") (T := T_In) (N := 11) hx hb hts in_In t_In tk_In nm_In hown hK hP hD hS 0 rfl rfl 2 (by decide) (hts _ mw_221) (fun _ h9 => h9) rfl hin rfl (by decide +kernel) rfl rfl (Nat.le_of_ble_eq_true rfl) d_In_init_8 (fun H locs hP hD hS => ?_)
  have hP : va_P (dC, dI) vcl [(h0, .inr (9, [.null, .null, .ref q6, .int 0, .int 0, .int 0, .int 0, .int 0, .int 0, .int 0, .int 0])), (q6, .inl (cI, 4, .inl (fun _ => 0)))] H := hP
  have hD : va_D A [(h0, .inr (9, [.null, .null, .ref q6, .int 0, .int 0, .int 0, .int 0, .int 0, .int 0, .int 0, .int 0])), (q6, .inl (cI, 4, .inl (fun _ => 0)))] := hD
  refine lv_aload_n hx hb d_In_init_11 rfl (lv_at hl 0 rfl) ?_
  refine lv_aload_n hx hb d_In_init_12 rfl (lv_at hl 1 rfl) ?_
  refine va_putF (D := (dC, dI)) (ci := 9) (v := .ref a1) (ty := .object "StoryMachine$Memory") (C := "StoryMachine$Instruction") (T := T_In) (N := 11) hx hb hts in_In t_In tk_In nm_In hown hK hP hD hS 0 rfl rfl 0 (by decide) (hts _ mw_219) (fun _ h9 => h9) rfl hin rfl (by decide +kernel) rfl rfl (Nat.le_of_ble_eq_true rfl) d_In_init_13 (fun H locs hP hD hS => ?_)
  have hP : va_P (dC, dI) vcl [(h0, .inr (9, [.ref a1, .null, .ref q6, .int 0, .int 0, .int 0, .int 0, .int 0, .int 0, .int 0, .int 0])), (q6, .inl (cI, 4, .inl (fun _ => 0)))] H := hP
  have hD : va_D A [(h0, .inr (9, [.ref a1, .null, .ref q6, .int 0, .int 0, .int 0, .int 0, .int 0, .int 0, .int 0, .int 0])), (q6, .inl (cI, 4, .inl (fun _ => 0)))] := hD
  refine lv_aload_n hx hb d_In_init_16 rfl (lv_at hl 0 rfl) ?_
  refine lv_aload_n hx hb d_In_init_17 rfl (lv_at hl 2 rfl) ?_
  refine va_putF (D := (dC, dI)) (ci := 9) (v := .ref a2) (ty := .object "StoryMachine$Variables") (C := "StoryMachine$Instruction") (T := T_In) (N := 11) hx hb hts in_In t_In tk_In nm_In hown hK hP hD hS 0 rfl rfl 1 (by decide) (hts _ mw_220) (fun _ h9 => h9) rfl hin rfl (by decide +kernel) rfl rfl (Nat.le_of_ble_eq_true rfl) d_In_init_18 (fun H locs hP hD hS => ?_)
  have hP : va_P (dC, dI) vcl [(h0, .inr (9, [.ref a1, .ref a2, .ref q6, .int 0, .int 0, .int 0, .int 0, .int 0, .int 0, .int 0, .int 0])), (q6, .inl (cI, 4, .inl (fun _ => 0)))] H := hP
  have hD : va_D A [(h0, .inr (9, [.ref a1, .ref a2, .ref q6, .int 0, .int 0, .int 0, .int 0, .int 0, .int 0, .int 0, .int 0])), (q6, .inl (cI, 4, .inl (fun _ => 0)))] := hD
  have hP9 := hP.sub (ws' := [(h0, .inr (9, [.ref a1, .ref a2, .ref q6, .int 0, .int 0, .int 0, .int 0, .int 0, .int 0, .int 0, .int 0])), (q6, .inl (cI, 4, .inl (fun _ => 0)))]) [0, 1] rfl
  have hD9 := hD.sub (ws' := [(h0, .inr (9, [.ref a1, .ref a2, .ref q6, .int 0, .int 0, .int 0, .int 0, .int 0, .int 0, .int 0, .int 0])), (q6, .inl (cI, 4, .inl (fun _ => 0)))]) [0, 1] (by decide) rfl
  refine W.widen (k := 1) (n := 4) (Nat.le_of_ble_eq_true rfl) (Nat.le_of_ble_eq_true rfl) ?_
  exact tx_ret (W.vret hx hb hr (fun t ht hW => ⟨⟨rfl, q6, by rw [ht]; exact hP9, va_K.moved hW.alike hK, hAe ▸ hD9⟩, hS.F ht⟩) (hS.2.2) d_In_init_21)
