/-! Contracts; written by wip/tools/p1.py. -/
set_option maxHeartbeats 4000000 in
set_option maxRecDepth 100000 in
theorem c_SM_packed (l : Launch) (hfl : l.flags = pinnedFlags ++ [noTraceFlag]) (dC : Nat → ClassId) (dI : Nat → Nat → Nat) (cI : ClassId) (b : Int64) (n i : Int32) (sz : Nat) : tx_Met l ⟨"StoryMachine", "packed", "(JII)I"⟩ tw_tbl ({ frames := 0, cells := 0, slots := 0, locals := 0 }) (tq_P (dC, dI) vcl [.long b, .int n, .int i] sz [] [(cI, .int)]) (tq_Q (fun o t => ∃ r : Int32, o = .returned (some (.int r))) (va_A [] sz)) 0 0 (va_A [] sz) := by
  refine tx_ofW (cc := prog_1_method_14_code) (maxL := 4) (ret := (some .int)) (by decide) (tx_isM mw_421) ?_
  intro p e s m args below meth c s₁ B hml hv
  obtain ⟨rfl, hsz, hP, hK, hD0, hst0⟩ := hv
  have hx := B.exec
  have hb := B.bytes
  have hr := B.returns
  have hts := atoms_spec (ws := tw_tbl) B.pre
  have hown : s.vm.findClass "StoryMachine" = some m.cls := findClass_of_methodNamed B.named
  have hlocks := B.notSynchronized
  subst hsz
  have hD := hD0.self (sz := s.heap.size)
  have hst := fun (H : Heap) (locs : List Loc) (hS : va_S (va_A [] s.heap.size) s.heap H locs) (U : State) (hU : U.heap = H) (hW : s.WarmedH U.vm) => ts_keep hW (fun q cell h1 h2 => by rw [hU]; exact ts_va hP hS q cell h1 h2) hst0
  generalize hAe : va_A [] s.heap.size = A at hD hst ⊢
  have hA : ∀ q : Nat, s.heap.size ≤ q → A q := fun q h => by rw [← hAe]; exact Or.inr h
  have hS : va_S A s.heap s.heap [] := va_S.rf
  have hP : va_P (dC, dI) vcl [] s.heap := hP
  have hl := lv_entry ([.long b, .int n, .int i]) (n := 4) (Nat.le_of_ble_eq_true rfl)
  rw [lg_entry_eq]
  generalize (lg_sl ([.long b, .int n, .int i]) ++ List.replicate (4 - (lg_sl ([.long b, .int n, .int i])).length) Slot.unset).toArray = ls at hl ⊢
  have hl : lv_has ls 4 [(0, .long b), (2, .int n), (3, .int i)] := hl
  refine lv_lload_n hx hb d_SM_packed_0 rfl (lv_at hl 0 rfl) ?_
  refine lv_bipush (v := 8) hx hb d_SM_packed_1 (by decide) ?_
  refine lv_iload_n hx hb d_SM_packed_3 rfl (lv_at hl 1 rfl) ?_
  refine lv_iconst (v := 1) hx hb d_SM_packed_4 (by decide) ?_
  refine lv_isub hx hb d_SM_packed_5 ?_
  refine lv_iload_n hx hb d_SM_packed_6 rfl (lv_at hl 2 rfl) ?_
  refine lv_isub hx hb d_SM_packed_7 ?_
  refine lv_imul hx hb d_SM_packed_8 ?_
  refine lv_lshr hx hb d_SM_packed_9 rfl ?_
  refine lv_topl (fun v9 hv9 => ?_)
  refine lv_l2i hx hb d_SM_packed_10 rfl ?_
  refine lv_topi (fun v10 hv10 => ?_)
  refine lv_sipush (v := 255) hx hb d_SM_packed_11 (by decide) ?_
  refine lv_iand hx hb d_SM_packed_14 ?_
  refine W.widen (k := 0) (n := 0) (Nat.le_of_ble_eq_true rfl) (Nat.le_of_ble_eq_true rfl) ?_
  exact tx_ret (W.iret (v := v10 &&& 255) hx hb hr (fun t ht hW => ⟨⟨_, rfl⟩, hS.F ht⟩) (hS.2.2) d_SM_packed_15)
