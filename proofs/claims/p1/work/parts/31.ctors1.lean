/-! Contracts; written by wip/tools/p1.py. -/
set_option maxHeartbeats 4000000 in
set_option maxRecDepth 100000 in
theorem c_Me_init (l : Launch) (hfl : l.flags = pinnedFlags ++ [noTraceFlag]) (dC : Nat → ClassId) (dI : Nat → Nat → Nat) (cI : ClassId) (h0 : Nat) (sz : Nat) : tx_Met l ⟨"StoryMachine$Memory", "<init>", "()V"⟩ tw_tbl ({ frames := 1, cells := 1, slots := 512, locals := 40 }) (tq_P (dC, dI) vcl [.ref h0] sz [(h0, .inr (1, [.null]))] [(cI, .int)]) (tq_Q (fun o t => o = .returned none ∧ ∃ (q8 : Nat), va_P (dC, dI) vcl [(h0, .inr (1, [.ref q8])), (q8, .inl (cI, 512, .inl (fun _ => 0)))] t.heap ∧ va_K (dC, dI) vcl [(cI, .int)] t ∧ va_D (va_A [(h0, .inr (1, [.null]))] sz) [(h0, .inr (1, [.ref q8])), (q8, .inl (cI, 512, .inl (fun _ => 0)))]) (va_A [(h0, .inr (1, [.null]))] sz)) 1 512 (va_A [(h0, .inr (1, [.null]))] sz) := by
  refine tx_ofW (cc := prog_7_method_1_code) (maxL := 1) (ret := none) (by decide) (tx_isM mw_40) ?_
  intro p e s m args below meth c s₁ B hml hv
  obtain ⟨rfl, hsz, hP, hK, hD0, hst0⟩ := hv
  have hx := B.exec
  have hb := B.bytes
  have hr := B.returns
  have hts := atoms_spec (ws := tw_tbl) B.pre
  have hown : s.vm.findClass "StoryMachine$Memory" = some m.cls := findClass_of_methodNamed B.named
  have hlocks := B.notSynchronized
  have hin : meth.name = "<init>" := (name_of_methodNamed B.named B.method).1
  subst hsz
  have hD := hD0.self (sz := s.heap.size)
  have hst := fun (H : Heap) (locs : List Loc) (hS : va_S (va_A [(h0, .inr (1, [.null]))] s.heap.size) s.heap H locs) (U : State) (hU : U.heap = H) (hW : s.WarmedH U.vm) => ts_keep hW (fun q cell h1 h2 => by rw [hU]; exact ts_va hP hS q cell h1 h2) hst0
  generalize hAe : va_A [(h0, .inr (1, [.null]))] s.heap.size = A at hD hst ⊢
  have hA : ∀ q : Nat, s.heap.size ≤ q → A q := fun q h => by rw [← hAe]; exact Or.inr h
  have hS : va_S A s.heap s.heap [] := va_S.rf
  have hP : va_P (dC, dI) vcl [(h0, .inr (1, [.null]))] s.heap := hP
  have hl := lv_entry ([.ref h0]) (n := 1) (Nat.le_of_ble_eq_true rfl)
  rw [lg_entry_eq]
  generalize (lg_sl ([.ref h0]) ++ List.replicate (1 - (lg_sl ([.ref h0])).length) Slot.unset).toArray = ls at hl ⊢
  have hl : lv_has ls 1 [(0, .ref h0)] := hl
  refine lv_aload_n hx hb d_Me_init_0 rfl (lv_at hl 0 rfl) ?_
  refine W.objInit hx hb hown (hts _ mw_41) (hts _ mw_34) (hts _ mw_35) rfl (by rw [hml]; exact hl.1) rfl d_Me_init_1 (Nat.le_of_ble_eq_true rfl) (Nat.le_of_ble_eq_true rfl) ?_
  refine W.eq (g2 := F0 m 4 ls []) rfl ?_
  refine lv_aload_n hx hb d_Me_init_4 rfl (lv_at hl 0 rfl) ?_
  refine lv_sipush (v := 512) hx hb d_Me_init_5 (by decide) ?_
  refine ta_newI (N' := 512) hx hb (hts _ mw_47) hK 0 rfl hP hD hS hA (by decide) (by decide) (by decide) (Nat.le_of_ble_eq_true rfl) (Nat.le_of_ble_eq_true rfl) d_Me_init_8 (fun q8 H hP hD hS => ?_)
  have hP : va_P (dC, dI) vcl [(h0, .inr (1, [.null])), (q8, .inl (cI, 512, .inl (fun _ => 0)))] H := hP
  have hD : va_D A [(h0, .inr (1, [.null])), (q8, .inl (cI, 512, .inl (fun _ => 0)))] := hD
  refine va_putF (D := (dC, dI)) (ci := 1) (v := .ref q8) (ty := .array .int) (C := "StoryMachine$Memory") (T := T_Me) (N := 1) hx hb hts in_Me t_Me tk_Me nm_Me hown hK hP hD hS 0 rfl rfl 0 (by decide) (hts _ mw_42) (fun _ h9 => h9) rfl hin rfl (by decide +kernel) rfl rfl (Nat.le_of_ble_eq_true rfl) d_Me_init_10 (fun H locs hP hD hS => ?_)
  have hP : va_P (dC, dI) vcl [(h0, .inr (1, [.ref q8])), (q8, .inl (cI, 512, .inl (fun _ => 0)))] H := hP
  have hD : va_D A [(h0, .inr (1, [.ref q8])), (q8, .inl (cI, 512, .inl (fun _ => 0)))] := hD
  have hP9 := hP.sub (ws' := [(h0, .inr (1, [.ref q8])), (q8, .inl (cI, 512, .inl (fun _ => 0)))]) [0, 1] rfl
  have hD9 := hD.sub (ws' := [(h0, .inr (1, [.ref q8])), (q8, .inl (cI, 512, .inl (fun _ => 0)))]) [0, 1] (by decide) rfl
  refine W.widen (k := 1) (n := 512) (Nat.le_of_ble_eq_true rfl) (Nat.le_of_ble_eq_true rfl) ?_
  exact tx_ret (W.vret hx hb hr (fun t ht hW => ⟨⟨rfl, q8, by rw [ht]; exact hP9, va_K.moved hW.alike hK, hAe ▸ hD9⟩, hAe ▸ hS.F ht⟩) (hAe ▸ hS.2.2) d_Me_init_13)
set_option maxHeartbeats 4000000 in
set_option maxRecDepth 100000 in
theorem c_Li_init (l : Launch) (hfl : l.flags = pinnedFlags ++ [noTraceFlag]) (dC : Nat → ClassId) (dI : Nat → Nat → Nat) (cI : ClassId) (h0 : Nat) (sz : Nat) : tx_Met l ⟨"StoryMachine$Line", "<init>", "()V"⟩ tw_tbl ({ frames := 1, cells := 2, slots := 48, locals := 40 }) (tq_P (dC, dI) vcl [.ref h0] sz [(h0, .inr (2, [.null, .int 0, .null, .int 0, .int 0]))] [(cI, .int)]) (tq_Q (fun o t => o = .returned none ∧ ∃ (q7 q15 : Nat), va_P (dC, dI) vcl [(h0, .inr (2, [.ref q7, .int 0, .ref q15, .int 0, .int 0])), (q7, .inl (cI, 24, .inl (fun _ => 0))), (q15, .inl (cI, 24, .inl (fun _ => 0)))] t.heap ∧ va_K (dC, dI) vcl [(cI, .int)] t ∧ va_D (va_A [(h0, .inr (2, [.null, .int 0, .null, .int 0, .int 0]))] sz) [(h0, .inr (2, [.ref q7, .int 0, .ref q15, .int 0, .int 0])), (q7, .inl (cI, 24, .inl (fun _ => 0))), (q15, .inl (cI, 24, .inl (fun _ => 0)))]) (va_A [(h0, .inr (2, [.null, .int 0, .null, .int 0, .int 0]))] sz)) 2 48 (va_A [(h0, .inr (2, [.null, .int 0, .null, .int 0, .int 0]))] sz) := by
  refine tx_ofW (cc := prog_6_method_1_code) (maxL := 1) (ret := none) (by decide) (tx_isM mw_52) ?_
  intro p e s m args below meth c s₁ B hml hv
  obtain ⟨rfl, hsz, hP, hK, hD0, hst0⟩ := hv
  have hx := B.exec
  have hb := B.bytes
  have hr := B.returns
  have hts := atoms_spec (ws := tw_tbl) B.pre
  have hown : s.vm.findClass "StoryMachine$Line" = some m.cls := findClass_of_methodNamed B.named
  have hlocks := B.notSynchronized
  have hin : meth.name = "<init>" := (name_of_methodNamed B.named B.method).1
  subst hsz
  have hD := hD0.self (sz := s.heap.size)
  have hst := fun (H : Heap) (locs : List Loc) (hS : va_S (va_A [(h0, .inr (2, [.null, .int 0, .null, .int 0, .int 0]))] s.heap.size) s.heap H locs) (U : State) (hU : U.heap = H) (hW : s.WarmedH U.vm) => ts_keep hW (fun q cell h1 h2 => by rw [hU]; exact ts_va hP hS q cell h1 h2) hst0
  generalize hAe : va_A [(h0, .inr (2, [.null, .int 0, .null, .int 0, .int 0]))] s.heap.size = A at hD hst ⊢
  have hA : ∀ q : Nat, s.heap.size ≤ q → A q := fun q h => by rw [← hAe]; exact Or.inr h
  have hS : va_S A s.heap s.heap [] := va_S.rf
  have hP : va_P (dC, dI) vcl [(h0, .inr (2, [.null, .int 0, .null, .int 0, .int 0]))] s.heap := hP
  have hl := lv_entry ([.ref h0]) (n := 1) (Nat.le_of_ble_eq_true rfl)
  rw [lg_entry_eq]
  generalize (lg_sl ([.ref h0]) ++ List.replicate (1 - (lg_sl ([.ref h0])).length) Slot.unset).toArray = ls at hl ⊢
  have hl : lv_has ls 1 [(0, .ref h0)] := hl
  refine lv_aload_n hx hb d_Li_init_0 rfl (lv_at hl 0 rfl) ?_
  refine W.objInit hx hb hown (hts _ mw_53) (hts _ mw_34) (hts _ mw_35) rfl (by rw [hml]; exact hl.1) rfl d_Li_init_1 (Nat.le_of_ble_eq_true rfl) (Nat.le_of_ble_eq_true rfl) ?_
  refine W.eq (g2 := F0 m 4 ls []) rfl ?_
  refine lv_aload_n hx hb d_Li_init_4 rfl (lv_at hl 0 rfl) ?_
  refine lv_bipush (v := 24) hx hb d_Li_init_5 (by decide) ?_
  refine ta_newI (N' := 24) hx hb (hts _ mw_47) hK 0 rfl hP hD hS hA (by decide) (by decide) (by decide) (Nat.le_of_ble_eq_true rfl) (Nat.le_of_ble_eq_true rfl) d_Li_init_7 (fun q7 H hP hD hS => ?_)
  have hP : va_P (dC, dI) vcl [(h0, .inr (2, [.null, .int 0, .null, .int 0, .int 0])), (q7, .inl (cI, 24, .inl (fun _ => 0)))] H := hP
  have hD : va_D A [(h0, .inr (2, [.null, .int 0, .null, .int 0, .int 0])), (q7, .inl (cI, 24, .inl (fun _ => 0)))] := hD
  refine va_putF (D := (dC, dI)) (ci := 2) (v := .ref q7) (ty := .array .int) (C := "StoryMachine$Line") (T := T_Li) (N := 5) hx hb hts in_Li t_Li tk_Li nm_Li hown hK hP hD hS 0 rfl rfl 0 (by decide) (hts _ mw_54) (fun _ h9 => h9) rfl hin rfl (by decide +kernel) rfl rfl (Nat.le_of_ble_eq_true rfl) d_Li_init_9 (fun H locs hP hD hS => ?_)
  have hP : va_P (dC, dI) vcl [(h0, .inr (2, [.ref q7, .int 0, .null, .int 0, .int 0])), (q7, .inl (cI, 24, .inl (fun _ => 0)))] H := hP
  have hD : va_D A [(h0, .inr (2, [.ref q7, .int 0, .null, .int 0, .int 0])), (q7, .inl (cI, 24, .inl (fun _ => 0)))] := hD
  refine lv_aload_n hx hb d_Li_init_12 rfl (lv_at hl 0 rfl) ?_
  refine lv_bipush (v := 24) hx hb d_Li_init_13 (by decide) ?_
  refine ta_newI (N' := 24) hx hb (hts _ mw_47) hK 0 rfl hP hD hS hA (by decide) (by decide) (by decide) (Nat.le_of_ble_eq_true rfl) (Nat.le_of_ble_eq_true rfl) d_Li_init_15 (fun q15 H hP hD hS => ?_)
  have hP : va_P (dC, dI) vcl [(h0, .inr (2, [.ref q7, .int 0, .null, .int 0, .int 0])), (q7, .inl (cI, 24, .inl (fun _ => 0))), (q15, .inl (cI, 24, .inl (fun _ => 0)))] H := hP
  have hD : va_D A [(h0, .inr (2, [.ref q7, .int 0, .null, .int 0, .int 0])), (q7, .inl (cI, 24, .inl (fun _ => 0))), (q15, .inl (cI, 24, .inl (fun _ => 0)))] := hD
  refine va_putF (D := (dC, dI)) (ci := 2) (v := .ref q15) (ty := .array .int) (C := "StoryMachine$Line") (T := T_Li) (N := 5) hx hb hts in_Li t_Li tk_Li nm_Li hown hK hP hD hS 0 rfl rfl 2 (by decide) (hts _ mw_57) (fun _ h9 => h9) rfl hin rfl (by decide +kernel) rfl rfl (Nat.le_of_ble_eq_true rfl) d_Li_init_17 (fun H locs hP hD hS => ?_)
  have hP : va_P (dC, dI) vcl [(h0, .inr (2, [.ref q7, .int 0, .ref q15, .int 0, .int 0])), (q7, .inl (cI, 24, .inl (fun _ => 0))), (q15, .inl (cI, 24, .inl (fun _ => 0)))] H := hP
  have hD : va_D A [(h0, .inr (2, [.ref q7, .int 0, .ref q15, .int 0, .int 0])), (q7, .inl (cI, 24, .inl (fun _ => 0))), (q15, .inl (cI, 24, .inl (fun _ => 0)))] := hD
  have hP9 := hP.sub (ws' := [(h0, .inr (2, [.ref q7, .int 0, .ref q15, .int 0, .int 0])), (q7, .inl (cI, 24, .inl (fun _ => 0))), (q15, .inl (cI, 24, .inl (fun _ => 0)))]) [0, 1, 2] rfl
  have hD9 := hD.sub (ws' := [(h0, .inr (2, [.ref q7, .int 0, .ref q15, .int 0, .int 0])), (q7, .inl (cI, 24, .inl (fun _ => 0))), (q15, .inl (cI, 24, .inl (fun _ => 0)))]) [0, 1, 2] (by decide) rfl
  refine W.widen (k := 2) (n := 48) (Nat.le_of_ble_eq_true rfl) (Nat.le_of_ble_eq_true rfl) ?_
  exact tx_ret (W.vret hx hb hr (fun t ht hW => ⟨⟨rfl, q7, q15, by rw [ht]; exact hP9, va_K.moved hW.alike hK, hAe ▸ hD9⟩, hAe ▸ hS.F ht⟩) (hAe ▸ hS.2.2) d_Li_init_20)
