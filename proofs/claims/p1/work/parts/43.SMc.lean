/-! Contracts; written by wip/tools/p1.py. -/
set_option maxHeartbeats 4000000 in
set_option maxRecDepth 100000 in
theorem c_SM_peek (l : Launch) (hfl : l.flags = pinnedFlags ++ [noTraceFlag]) (dC : Nat → ClassId) (dI : Nat → Nat → Nat) (cI : ClassId) (h0 q1 q2 q3 q4 q5 q6 : Nat) (p0 : Int32) (sz : Nat) : tx_Met l ⟨"StoryMachine", "peek", "(I)I"⟩ tw_tbl ({ frames := 7, cells := 1, slots := 6, locals := 130 }) (tq_P (dC, dI) vcl [.ref h0, .int p0] sz [(h0, .inr (0, [.ref q1, .ref q2, .ref q3, .ref q4, .ref q5])), (q1, .inr (1, [.ref q6])), (q6, .inl (cI, 512, .inl (fun _ => 0)))] [(cI, .int)]) (tq_Q (fun o t => ((p0 < 0 ∨ ¬ p0 < 512) → ∃ x, o = .threw x ∧ ta_Ex "java/lang/IllegalArgumentException" x t) ∧ (¬ (p0 < 0 ∨ ¬ p0 < 512) → o = .returned (some (.int 0)))) (va_A [(h0, .inr (0, [.ref q1, .ref q2, .ref q3, .ref q4, .ref q5])), (q1, .inr (1, [.ref q6])), (q6, .inl (cI, 512, .inl (fun _ => 0)))] sz)) 1 6 (va_A [(h0, .inr (0, [.ref q1, .ref q2, .ref q3, .ref q4, .ref q5])), (q1, .inr (1, [.ref q6])), (q6, .inl (cI, 512, .inl (fun _ => 0)))] sz) := by
  refine tx_ofW (cc := prog_1_method_3_code) (maxL := 2) (ret := (some .int)) (by decide) (tx_isM mw_428) ?_
  intro p e s m args below meth c s₁ B hml hv
  obtain ⟨rfl, hsz, hP, hK, hD0, hst0⟩ := hv
  have hx := B.exec
  have hb := B.bytes
  have hr := B.returns
  have hts := atoms_spec (ws := tw_tbl) B.pre
  have hown : s.vm.findClass "StoryMachine" = some m.cls := findClass_of_methodNamed B.named
  have hlocks := B.notSynchronized
  subst hsz
  have hD := hD0.self (sz := s.heap.size)
  have hst := fun (H : Heap) (locs : List Loc) (hS : va_S (va_A [(h0, .inr (0, [.ref q1, .ref q2, .ref q3, .ref q4, .ref q5])), (q1, .inr (1, [.ref q6])), (q6, .inl (cI, 512, .inl (fun _ => 0)))] s.heap.size) s.heap H locs) (U : State) (hU : U.heap = H) (hW : s.WarmedH U.vm) => ts_keep hW (fun q cell h1 h2 => by rw [hU]; exact ts_va hP hS q cell h1 h2) hst0
  generalize hAe : va_A [(h0, .inr (0, [.ref q1, .ref q2, .ref q3, .ref q4, .ref q5])), (q1, .inr (1, [.ref q6])), (q6, .inl (cI, 512, .inl (fun _ => 0)))] s.heap.size = A at hD hst ⊢
  have hA : ∀ q : Nat, s.heap.size ≤ q → A q := fun q h => by rw [← hAe]; exact Or.inr h
  have hS : va_S A s.heap s.heap [] := va_S.rf
  have hP : va_P (dC, dI) vcl [(h0, .inr (0, [.ref q1, .ref q2, .ref q3, .ref q4, .ref q5])), (q1, .inr (1, [.ref q6])), (q6, .inl (cI, 512, .inl (fun _ => 0)))] s.heap := hP
  have hl := lv_entry ([.ref h0, .int p0]) (n := 2) (Nat.le_of_ble_eq_true rfl)
  rw [lg_entry_eq]
  generalize (lg_sl ([.ref h0, .int p0]) ++ List.replicate (2 - (lg_sl ([.ref h0, .int p0])).length) Slot.unset).toArray = ls at hl ⊢
  have hl : lv_has ls 2 [(0, .ref h0), (1, .int p0)] := hl
  refine lv_iload_n hx hb d_SM_peek_0 rfl (lv_at hl 1 rfl) ?_
  refine lv_if_lt (tgt := 11) hx hb d_SM_peek_1 (by decide) (fun hc1 => ?_) (fun hc1 => ?_)
  · refine W.widen (k := 0) (n := 0) (Nat.le_of_ble_eq_true rfl) (Nat.le_of_ble_eq_true rfl) ?_
    exact tth_SM_IllegalArgumentException hx hb hfl hown hts (hst _ _ hS) (by rw [hml]; exact hl.1) d_SM_peek_11 d_SM_peek_14 d_SM_peek_15 d_SM_peek_18 (tx_noH B (hts _ mw_428) _) (Nat.le_of_ble_eq_true rfl) (Nat.le_of_ble_eq_true rfl) (Nat.le_of_ble_eq_true rfl) (Nat.le_of_ble_eq_true rfl) (fun t ce hW hz hk hce hcl hvm => ⟨⟨fun _ => ⟨_, rfl, ce, hce, hcl, hvm⟩, fun h => absurd (Or.inl hc1) h⟩, ta_thrown hS hz hk⟩) hS.2.2 hlocks
  · refine lv_iload_n hx hb d_SM_peek_4 rfl (lv_at hl 1 rfl) ?_
    refine lv_sipush (v := 512) hx hb d_SM_peek_5 (by decide) ?_
    refine lv_icmp_lt (tgt := 19) hx hb d_SM_peek_8 (by decide) (fun hc8 => ?_) (fun hc8 => ?_)
    · refine lv_aload_n hx hb d_SM_peek_19 rfl (lv_at hl 0 rfl) ?_
      refine va_get (D := (dC, dI)) (ci := 0) (v := .ref q1) (C := "StoryMachine") (T := T_SM) (N := 5) hx hb hts in_SM hown hK hP 0 rfl rfl 0 (by decide) (hts _ mw_310) (fun _ h9 => h9) rfl d_SM_peek_20 ?_
      refine va_get (D := (dC, dI)) (ci := 1) (v := .ref q6) (C := "StoryMachine$Memory") (T := T_Me) (N := 1) hx hb hts in_Me hown hK hP 1 rfl rfl 0 (by decide) (hts _ mw_43) (fun _ h9 => h9) rfl d_SM_peek_23 ?_
      refine lv_iload_n hx hb d_SM_peek_26 rfl (lv_at hl 1 rfl) ?_
      refine va_iald hx hb hK hP 2 0 rfl rfl (ti_rng hc1 hc8 (by decide)) d_SM_peek_27 ?_
      refine W.eq (g2 := F0 m 28 ls [.int 0]) rfl ?_
      refine W.widen (k := 1) (n := 6) (Nat.le_of_ble_eq_true rfl) (Nat.le_of_ble_eq_true rfl) ?_
      exact tx_ret (W.iret (v := 0) hx hb hr (fun t ht hW => ⟨⟨fun h => absurd h (fun h => h.elim hc1 (fun h => (fun z => z hc8) h)), fun _ => rfl⟩, hS.F ht⟩) (hS.2.2) d_SM_peek_28)
    · refine W.widen (k := 0) (n := 0) (Nat.le_of_ble_eq_true rfl) (Nat.le_of_ble_eq_true rfl) ?_
      exact tth_SM_IllegalArgumentException hx hb hfl hown hts (hst _ _ hS) (by rw [hml]; exact hl.1) d_SM_peek_11 d_SM_peek_14 d_SM_peek_15 d_SM_peek_18 (tx_noH B (hts _ mw_428) _) (Nat.le_of_ble_eq_true rfl) (Nat.le_of_ble_eq_true rfl) (Nat.le_of_ble_eq_true rfl) (Nat.le_of_ble_eq_true rfl) (fun t ce hW hz hk hce hcl hvm => ⟨⟨fun _ => ⟨_, rfl, ce, hce, hcl, hvm⟩, fun h => absurd (Or.inr (hc8)) h⟩, ta_thrown hS hz hk⟩) hS.2.2 hlocks
set_option maxHeartbeats 4000000 in
set_option maxRecDepth 100000 in
theorem c_Me_wordAt (l : Launch) (hfl : l.flags = pinnedFlags ++ [noTraceFlag]) (dC : Nat → ClassId) (dI : Nat → Nat → Nat) (cI : ClassId) (h0 q6 : Nat) (sz : Nat) : tx_Met l ⟨"StoryMachine$Memory", "wordAt", "(I)I"⟩ tw_tbl ({ frames := 7, cells := 0, slots := 0, locals := 130 }) (tq_P (dC, dI) vcl [.ref h0, .int 4] sz [(h0, .inr (1, [.ref q6])), (q6, .inl (cI, 512, .inl (fun _ => 0)))] [(cI, .int)]) (tq_Q (fun o t => o = .returned (some (.int 0))) (va_A [(h0, .inr (1, [.ref q6])), (q6, .inl (cI, 512, .inl (fun _ => 0)))] sz)) 0 0 (va_A [(h0, .inr (1, [.ref q6])), (q6, .inl (cI, 512, .inl (fun _ => 0)))] sz) := by
  refine tx_ofW (cc := prog_7_method_3_code) (maxL := 2) (ret := (some .int)) (by decide) (tx_isM mw_440) ?_
  intro p e s m args below meth c s₁ B hml hv
  obtain ⟨rfl, hsz, hP, hK, hD0, hst0⟩ := hv
  have hx := B.exec
  have hb := B.bytes
  have hr := B.returns
  have hts := atoms_spec (ws := tw_tbl) B.pre
  have hown : s.vm.findClass "StoryMachine$Memory" = some m.cls := findClass_of_methodNamed B.named
  have hlocks := B.notSynchronized
  subst hsz
  have hD := hD0.self (sz := s.heap.size)
  have hst := fun (H : Heap) (locs : List Loc) (hS : va_S (va_A [(h0, .inr (1, [.ref q6])), (q6, .inl (cI, 512, .inl (fun _ => 0)))] s.heap.size) s.heap H locs) (U : State) (hU : U.heap = H) (hW : s.WarmedH U.vm) => ts_keep hW (fun q cell h1 h2 => by rw [hU]; exact ts_va hP hS q cell h1 h2) hst0
  generalize hAe : va_A [(h0, .inr (1, [.ref q6])), (q6, .inl (cI, 512, .inl (fun _ => 0)))] s.heap.size = A at hD hst ⊢
  have hA : ∀ q : Nat, s.heap.size ≤ q → A q := fun q h => by rw [← hAe]; exact Or.inr h
  have hS : va_S A s.heap s.heap [] := va_S.rf
  have hP : va_P (dC, dI) vcl [(h0, .inr (1, [.ref q6])), (q6, .inl (cI, 512, .inl (fun _ => 0)))] s.heap := hP
  have hl := lv_entry ([.ref h0, .int 4]) (n := 2) (Nat.le_of_ble_eq_true rfl)
  rw [lg_entry_eq]
  generalize (lg_sl ([.ref h0, .int 4]) ++ List.replicate (2 - (lg_sl ([.ref h0, .int 4])).length) Slot.unset).toArray = ls at hl ⊢
  have hl : lv_has ls 2 [(0, .ref h0), (1, .int 4)] := hl
  refine lv_iload_n hx hb d_Me_wordAt_0 rfl (lv_at hl 1 rfl) ?_
  refine lv_if_lt (tgt := 11) hx hb d_Me_wordAt_1 (by decide) (fun h => absurd h (by decide)) (fun _ => ?_)
  refine lv_iload_n hx hb d_Me_wordAt_4 rfl (lv_at hl 1 rfl) ?_
  refine lv_sipush (v := 511) hx hb d_Me_wordAt_5 (by decide) ?_
  refine lv_icmp_lt (tgt := 19) hx hb d_Me_wordAt_8 (by decide) (fun _ => ?_) (fun h => absurd h (by decide))
  refine lv_sipush (v := 256) hx hb d_Me_wordAt_19 (by decide) ?_
  refine lv_aload_n hx hb d_Me_wordAt_22 rfl (lv_at hl 0 rfl) ?_
  refine va_get (D := (dC, dI)) (ci := 1) (v := .ref q6) (C := "StoryMachine$Memory") (T := T_Me) (N := 1) hx hb hts in_Me hown hK hP 0 rfl rfl 0 (by decide) (hts _ mw_42) (fun _ h9 => h9) rfl d_Me_wordAt_23 ?_
  refine lv_iload_n hx hb d_Me_wordAt_26 rfl (lv_at hl 1 rfl) ?_
  refine va_iald hx hb hK hP 1 0 rfl rfl (show ¬ ((4 : Int32) < 0 ∨ 512 ≤ (4 : Int32).toNatClampNeg) by decide) d_Me_wordAt_27 ?_
  refine W.eq (g2 := F0 m 28 ls [.int 0, .int 256]) rfl ?_
  refine lv_imul hx hb d_Me_wordAt_28 ?_
  refine W.eq (g2 := F0 m 29 ls [.int 0]) rfl ?_
  refine lv_aload_n hx hb d_Me_wordAt_29 rfl (lv_at hl 0 rfl) ?_
  refine va_get (D := (dC, dI)) (ci := 1) (v := .ref q6) (C := "StoryMachine$Memory") (T := T_Me) (N := 1) hx hb hts in_Me hown hK hP 0 rfl rfl 0 (by decide) (hts _ mw_42) (fun _ h9 => h9) rfl d_Me_wordAt_30 ?_
  refine lv_iload_n hx hb d_Me_wordAt_33 rfl (lv_at hl 1 rfl) ?_
  refine lv_iconst (v := 1) hx hb d_Me_wordAt_34 (by decide) ?_
  refine lv_iadd hx hb d_Me_wordAt_35 ?_
  refine W.eq (g2 := F0 m 36 ls [.int 5, .ref q6, .int 0]) rfl ?_
  refine va_iald hx hb hK hP 1 0 rfl rfl (show ¬ ((5 : Int32) < 0 ∨ 512 ≤ (5 : Int32).toNatClampNeg) by decide) d_Me_wordAt_36 ?_
  refine W.eq (g2 := F0 m 37 ls [.int 0, .int 0]) rfl ?_
  refine lv_iadd hx hb d_Me_wordAt_37 ?_
  refine W.eq (g2 := F0 m 38 ls [.int 0]) rfl ?_
  refine W.widen (k := 0) (n := 0) (Nat.le_of_ble_eq_true rfl) (Nat.le_of_ble_eq_true rfl) ?_
  exact tx_ret (W.iret (v := 0) hx hb hr (fun t ht hW => ⟨rfl, hS.F ht⟩) (hS.2.2) d_Me_wordAt_38)
set_option maxHeartbeats 4000000 in
set_option maxRecDepth 100000 in
theorem c_Ro_clear (l : Launch) (hfl : l.flags = pinnedFlags ++ [noTraceFlag]) (dC : Nat → ClassId) (dI : Nat → Nat → Nat) (cI : ClassId) (h0 r_words r_floors r_behinds r_results r_localCounts r_locals : Nat) (f g : Nat → Int32) (sz : Nat) : tx_Met l ⟨"StoryMachine$Routines", "clear", "()V"⟩ tw_tbl ({ frames := 1, cells := 0, slots := 0, locals := 40 }) (tq_P (dC, dI) vcl [.ref h0] sz [(h0, .inr (3, [.ref r_words, .int 0, .int 0, .ref r_floors, .ref r_behinds, .ref r_results, .ref r_localCounts, .ref r_locals])), (r_floors, .inl (cI, 11, .inl f)), (r_localCounts, .inl (cI, 11, .inl g))] [(cI, .int)]) (tq_Q (fun o t => o = .returned none) (va_A [(h0, .inr (3, [.ref r_words, .int 0, .int 0, .ref r_floors, .ref r_behinds, .ref r_results, .ref r_localCounts, .ref r_locals])), (r_floors, .inl (cI, 11, .inl f)), (r_localCounts, .inl (cI, 11, .inl g))] sz)) 0 0 (va_A [(h0, .inr (3, [.ref r_words, .int 0, .int 0, .ref r_floors, .ref r_behinds, .ref r_results, .ref r_localCounts, .ref r_locals])), (r_floors, .inl (cI, 11, .inl f)), (r_localCounts, .inl (cI, 11, .inl g))] sz) := by
  refine tx_ofW (cc := prog_9_method_2_code) (maxL := 1) (ret := none) (by decide) (tx_isM mw_465) ?_
  intro p e s m args below meth c s₁ B hml hv
  obtain ⟨rfl, hsz, hP, hK, hD0, hst0⟩ := hv
  have hx := B.exec
  have hb := B.bytes
  have hr := B.returns
  have hts := atoms_spec (ws := tw_tbl) B.pre
  have hown : s.vm.findClass "StoryMachine$Routines" = some m.cls := findClass_of_methodNamed B.named
  have hlocks := B.notSynchronized
  subst hsz
  have hD := hD0.self (sz := s.heap.size)
  have hst := fun (H : Heap) (locs : List Loc) (hS : va_S (va_A [(h0, .inr (3, [.ref r_words, .int 0, .int 0, .ref r_floors, .ref r_behinds, .ref r_results, .ref r_localCounts, .ref r_locals])), (r_floors, .inl (cI, 11, .inl f)), (r_localCounts, .inl (cI, 11, .inl g))] s.heap.size) s.heap H locs) (U : State) (hU : U.heap = H) (hW : s.WarmedH U.vm) => ts_keep hW (fun q cell h1 h2 => by rw [hU]; exact ts_va hP hS q cell h1 h2) hst0
  generalize hAe : va_A [(h0, .inr (3, [.ref r_words, .int 0, .int 0, .ref r_floors, .ref r_behinds, .ref r_results, .ref r_localCounts, .ref r_locals])), (r_floors, .inl (cI, 11, .inl f)), (r_localCounts, .inl (cI, 11, .inl g))] s.heap.size = A at hD hst ⊢
  have hA : ∀ q : Nat, s.heap.size ≤ q → A q := fun q h => by rw [← hAe]; exact Or.inr h
  have hS : va_S A s.heap s.heap [] := va_S.rf
  have hP : va_P (dC, dI) vcl [(h0, .inr (3, [.ref r_words, .int 0, .int 0, .ref r_floors, .ref r_behinds, .ref r_results, .ref r_localCounts, .ref r_locals])), (r_floors, .inl (cI, 11, .inl f)), (r_localCounts, .inl (cI, 11, .inl g))] s.heap := hP
  have hl := lv_entry ([.ref h0]) (n := 1) (Nat.le_of_ble_eq_true rfl)
  rw [lg_entry_eq]
  generalize (lg_sl ([.ref h0]) ++ List.replicate (1 - (lg_sl ([.ref h0])).length) Slot.unset).toArray = ls at hl ⊢
  have hl : lv_has ls 1 [(0, .ref h0)] := hl
  refine lv_aload_n hx hb d_Ro_clear_0 rfl (lv_at hl 0 rfl) ?_
  refine lv_iconst (v := 0) hx hb d_Ro_clear_1 (by decide) ?_
  refine va_put (D := (dC, dI)) (ci := 3) (v := .int 0) (ty := .int) (C := "StoryMachine$Routines") (T := T_Ro) (N := 8) hx hb hts in_Ro t_Ro tk_Ro nm_Ro hown hK hP hD hS 0 rfl rfl 1 (by decide) (hts _ mw_82) (fun _ h9 => h9) rfl (by decide +kernel) rfl rfl (Nat.le_of_ble_eq_true rfl) d_Ro_clear_2 (fun H locs hP hD hS => ?_)
  have hP : va_P (dC, dI) vcl [(h0, .inr (3, [.ref r_words, .int 0, .int 0, .ref r_floors, .ref r_behinds, .ref r_results, .ref r_localCounts, .ref r_locals])), (r_floors, .inl (cI, 11, .inl f)), (r_localCounts, .inl (cI, 11, .inl g))] H := hP
  have hD : va_D A [(h0, .inr (3, [.ref r_words, .int 0, .int 0, .ref r_floors, .ref r_behinds, .ref r_results, .ref r_localCounts, .ref r_locals])), (r_floors, .inl (cI, 11, .inl f)), (r_localCounts, .inl (cI, 11, .inl g))] := hD
  refine lv_aload_n hx hb d_Ro_clear_5 rfl (lv_at hl 0 rfl) ?_
  refine lv_iconst (v := 0) hx hb d_Ro_clear_6 (by decide) ?_
  refine va_put (D := (dC, dI)) (ci := 3) (v := .int 0) (ty := .int) (C := "StoryMachine$Routines") (T := T_Ro) (N := 8) hx hb hts in_Ro t_Ro tk_Ro nm_Ro hown hK hP hD hS 0 rfl rfl 2 (by decide) (hts _ mw_84) (fun _ h9 => h9) rfl (by decide +kernel) rfl rfl (Nat.le_of_ble_eq_true rfl) d_Ro_clear_7 (fun H locs hP hD hS => ?_)
  have hP : va_P (dC, dI) vcl [(h0, .inr (3, [.ref r_words, .int 0, .int 0, .ref r_floors, .ref r_behinds, .ref r_results, .ref r_localCounts, .ref r_locals])), (r_floors, .inl (cI, 11, .inl f)), (r_localCounts, .inl (cI, 11, .inl g))] H := hP
  have hD : va_D A [(h0, .inr (3, [.ref r_words, .int 0, .int 0, .ref r_floors, .ref r_behinds, .ref r_results, .ref r_localCounts, .ref r_locals])), (r_floors, .inl (cI, 11, .inl f)), (r_localCounts, .inl (cI, 11, .inl g))] := hD
  refine lv_aload_n hx hb d_Ro_clear_10 rfl (lv_at hl 0 rfl) ?_
  refine va_get (D := (dC, dI)) (ci := 3) (v := .ref r_floors) (C := "StoryMachine$Routines") (T := T_Ro) (N := 8) hx hb hts in_Ro hown hK hP 0 rfl rfl 3 (by decide) (hts _ mw_86) (fun _ h9 => h9) rfl d_Ro_clear_11 ?_
  refine lv_iconst (v := 0) hx hb d_Ro_clear_14 (by decide) ?_
  refine lv_iconst (v := 0) hx hb d_Ro_clear_15 (by decide) ?_
  refine va_iast hx hb hK hP hD hS 1 0 rfl rfl (show ¬ ((0 : Int32) < 0 ∨ 11 ≤ (0 : Int32).toNatClampNeg) by decide) d_Ro_clear_16 (fun H locs hP hD hS => ?_)
  obtain ⟨f1, hf1⟩ : ∃ z : Nat → Int32, z = upd (f) (Int32.toNatClampNeg (0)) (0) := ⟨_, rfl⟩
  rw [← hf1] at hP hD
  have hP : va_P (dC, dI) vcl [(h0, .inr (3, [.ref r_words, .int 0, .int 0, .ref r_floors, .ref r_behinds, .ref r_results, .ref r_localCounts, .ref r_locals])), (r_floors, .inl (cI, 11, .inl f1)), (r_localCounts, .inl (cI, 11, .inl g))] H := hP
  have hD : va_D A [(h0, .inr (3, [.ref r_words, .int 0, .int 0, .ref r_floors, .ref r_behinds, .ref r_results, .ref r_localCounts, .ref r_locals])), (r_floors, .inl (cI, 11, .inl f1)), (r_localCounts, .inl (cI, 11, .inl g))] := hD
  refine lv_aload_n hx hb d_Ro_clear_17 rfl (lv_at hl 0 rfl) ?_
  refine va_get (D := (dC, dI)) (ci := 3) (v := .ref r_localCounts) (C := "StoryMachine$Routines") (T := T_Ro) (N := 8) hx hb hts in_Ro hown hK hP 0 rfl rfl 6 (by decide) (hts _ mw_89) (fun _ h9 => h9) rfl d_Ro_clear_18 ?_
  refine lv_iconst (v := 0) hx hb d_Ro_clear_21 (by decide) ?_
  refine lv_iconst (v := 0) hx hb d_Ro_clear_22 (by decide) ?_
  refine va_iast hx hb hK hP hD hS 2 0 rfl rfl (show ¬ ((0 : Int32) < 0 ∨ 11 ≤ (0 : Int32).toNatClampNeg) by decide) d_Ro_clear_23 (fun H locs hP hD hS => ?_)
  obtain ⟨f2, hf2⟩ : ∃ z : Nat → Int32, z = upd (g) (Int32.toNatClampNeg (0)) (0) := ⟨_, rfl⟩
  rw [← hf2] at hP hD
  have hP : va_P (dC, dI) vcl [(h0, .inr (3, [.ref r_words, .int 0, .int 0, .ref r_floors, .ref r_behinds, .ref r_results, .ref r_localCounts, .ref r_locals])), (r_floors, .inl (cI, 11, .inl f1)), (r_localCounts, .inl (cI, 11, .inl f2))] H := hP
  have hD : va_D A [(h0, .inr (3, [.ref r_words, .int 0, .int 0, .ref r_floors, .ref r_behinds, .ref r_results, .ref r_localCounts, .ref r_locals])), (r_floors, .inl (cI, 11, .inl f1)), (r_localCounts, .inl (cI, 11, .inl f2))] := hD
  refine W.widen (k := 0) (n := 0) (Nat.le_of_ble_eq_true rfl) (Nat.le_of_ble_eq_true rfl) ?_
  exact tx_ret (W.vret hx hb hr (fun t ht hW => ⟨rfl, hS.F ht⟩) (hS.2.2) d_Ro_clear_24)
set_option maxHeartbeats 4000000 in
set_option maxRecDepth 100000 in
theorem c_Li_clear (l : Launch) (hfl : l.flags = pinnedFlags ++ [noTraceFlag]) (dC : Nat → ClassId) (dI : Nat → Nat → Nat) (cI : ClassId) (h0 l_typed l_entered : Nat) (sz : Nat) : tx_Met l ⟨"StoryMachine$Line", "clear", "()V"⟩ tw_tbl ({ frames := 1, cells := 0, slots := 0, locals := 40 }) (tq_P (dC, dI) vcl [.ref h0] sz [(h0, .inr (2, [.ref l_typed, .int 0, .ref l_entered, .int 0, .int 0]))] [(cI, .int)]) (tq_Q (fun o t => o = .returned none) (va_A [(h0, .inr (2, [.ref l_typed, .int 0, .ref l_entered, .int 0, .int 0]))] sz)) 0 0 (va_A [(h0, .inr (2, [.ref l_typed, .int 0, .ref l_entered, .int 0, .int 0]))] sz) := by
  refine tx_ofW (cc := prog_6_method_2_code) (maxL := 1) (ret := none) (by decide) (tx_isM mw_469) ?_
  intro p e s m args below meth c s₁ B hml hv
  obtain ⟨rfl, hsz, hP, hK, hD0, hst0⟩ := hv
  have hx := B.exec
  have hb := B.bytes
  have hr := B.returns
  have hts := atoms_spec (ws := tw_tbl) B.pre
  have hown : s.vm.findClass "StoryMachine$Line" = some m.cls := findClass_of_methodNamed B.named
  have hlocks := B.notSynchronized
  subst hsz
  have hD := hD0.self (sz := s.heap.size)
  have hst := fun (H : Heap) (locs : List Loc) (hS : va_S (va_A [(h0, .inr (2, [.ref l_typed, .int 0, .ref l_entered, .int 0, .int 0]))] s.heap.size) s.heap H locs) (U : State) (hU : U.heap = H) (hW : s.WarmedH U.vm) => ts_keep hW (fun q cell h1 h2 => by rw [hU]; exact ts_va hP hS q cell h1 h2) hst0
  generalize hAe : va_A [(h0, .inr (2, [.ref l_typed, .int 0, .ref l_entered, .int 0, .int 0]))] s.heap.size = A at hD hst ⊢
  have hA : ∀ q : Nat, s.heap.size ≤ q → A q := fun q h => by rw [← hAe]; exact Or.inr h
  have hS : va_S A s.heap s.heap [] := va_S.rf
  have hP : va_P (dC, dI) vcl [(h0, .inr (2, [.ref l_typed, .int 0, .ref l_entered, .int 0, .int 0]))] s.heap := hP
  have hl := lv_entry ([.ref h0]) (n := 1) (Nat.le_of_ble_eq_true rfl)
  rw [lg_entry_eq]
  generalize (lg_sl ([.ref h0]) ++ List.replicate (1 - (lg_sl ([.ref h0])).length) Slot.unset).toArray = ls at hl ⊢
  have hl : lv_has ls 1 [(0, .ref h0)] := hl
  refine lv_aload_n hx hb d_Li_clear_0 rfl (lv_at hl 0 rfl) ?_
  refine lv_iconst (v := 0) hx hb d_Li_clear_1 (by decide) ?_
  refine va_put (D := (dC, dI)) (ci := 2) (v := .int 0) (ty := .int) (C := "StoryMachine$Line") (T := T_Li) (N := 5) hx hb hts in_Li t_Li tk_Li nm_Li hown hK hP hD hS 0 rfl rfl 1 (by decide) (hts _ mw_55) (fun _ h9 => h9) rfl (by decide +kernel) rfl rfl (Nat.le_of_ble_eq_true rfl) d_Li_clear_2 (fun H locs hP hD hS => ?_)
  have hP : va_P (dC, dI) vcl [(h0, .inr (2, [.ref l_typed, .int 0, .ref l_entered, .int 0, .int 0]))] H := hP
  have hD : va_D A [(h0, .inr (2, [.ref l_typed, .int 0, .ref l_entered, .int 0, .int 0]))] := hD
  refine lv_aload_n hx hb d_Li_clear_5 rfl (lv_at hl 0 rfl) ?_
  refine lv_iconst (v := 0) hx hb d_Li_clear_6 (by decide) ?_
  refine va_put (D := (dC, dI)) (ci := 2) (v := .int 0) (ty := .boolean) (C := "StoryMachine$Line") (T := T_Li) (N := 5) hx hb hts in_Li t_Li tk_Li nm_Li hown hK hP hD hS 0 rfl rfl 4 (by decide) (hts _ mw_61) (fun _ h9 => h9) rfl (by decide +kernel) (by decide) rfl (Nat.le_of_ble_eq_true rfl) d_Li_clear_7 (fun H locs hP hD hS => ?_)
  have hP : va_P (dC, dI) vcl [(h0, .inr (2, [.ref l_typed, .int 0, .ref l_entered, .int 0, .int 0]))] H := hP
  have hD : va_D A [(h0, .inr (2, [.ref l_typed, .int 0, .ref l_entered, .int 0, .int 0]))] := hD
  refine W.widen (k := 0) (n := 0) (Nat.le_of_ble_eq_true rfl) (Nat.le_of_ble_eq_true rfl) ?_
  exact tx_ret (W.vret hx hb hr (fun t ht hW => ⟨rfl, hS.F ht⟩) (hS.2.2) d_Li_clear_10)
set_option maxHeartbeats 4000000 in
set_option maxRecDepth 100000 in
theorem c_En_startAt (l : Launch) (hfl : l.flags = pinnedFlags ++ [noTraceFlag]) (dC : Nat → ClassId) (dI : Nat → Nat → Nat) (cI : ClassId) (h0 e_memory e_line e_routines e_printer e_variables e_tree e_dictionary e_instruction e_aside e_newLocals p_memory p_kept s_memory s_routines r_words r_floors r_behinds r_results r_localCounts r_locals l_typed l_entered : Nat) (sz : Nat) : tx_Met l ⟨"StoryMachine$Engine", "startAt", "(I)V"⟩ tw_tbl ({ frames := 3, cells := 0, slots := 0, locals := 80 }) (tq_P (dC, dI) vcl [.ref h0, .int 0] sz [(h0, .inr (5, [.ref e_memory, .ref e_line, .ref e_routines, .ref e_printer, .ref e_variables, .ref e_tree, .ref e_dictionary, .ref e_instruction, .ref e_aside, .ref e_newLocals, .int 0, .int (-1), .int 0, .int 0, .int 0])), (e_printer, .inr (4, [.ref p_memory, .ref p_kept, .int 0, .int 0, .int 0])), (e_aside, .inr (10, [.int 0, .ref s_memory, .ref s_routines, .int 0])), (e_routines, .inr (3, [.ref r_words, .int 0, .int 0, .ref r_floors, .ref r_behinds, .ref r_results, .ref r_localCounts, .ref r_locals])), (r_floors, .inl (cI, 11, .inl (fun _ => 0))), (r_localCounts, .inl (cI, 11, .inl (fun _ => 0))), (e_line, .inr (2, [.ref l_typed, .int 0, .ref l_entered, .int 0, .int 0]))] [(cI, .int)]) (tq_Q (fun o t => o = .returned none) (va_A [(h0, .inr (5, [.ref e_memory, .ref e_line, .ref e_routines, .ref e_printer, .ref e_variables, .ref e_tree, .ref e_dictionary, .ref e_instruction, .ref e_aside, .ref e_newLocals, .int 0, .int (-1), .int 0, .int 0, .int 0])), (e_printer, .inr (4, [.ref p_memory, .ref p_kept, .int 0, .int 0, .int 0])), (e_aside, .inr (10, [.int 0, .ref s_memory, .ref s_routines, .int 0])), (e_routines, .inr (3, [.ref r_words, .int 0, .int 0, .ref r_floors, .ref r_behinds, .ref r_results, .ref r_localCounts, .ref r_locals])), (r_floors, .inl (cI, 11, .inl (fun _ => 0))), (r_localCounts, .inl (cI, 11, .inl (fun _ => 0))), (e_line, .inr (2, [.ref l_typed, .int 0, .ref l_entered, .int 0, .int 0]))] sz)) 0 0 (va_A [(h0, .inr (5, [.ref e_memory, .ref e_line, .ref e_routines, .ref e_printer, .ref e_variables, .ref e_tree, .ref e_dictionary, .ref e_instruction, .ref e_aside, .ref e_newLocals, .int 0, .int (-1), .int 0, .int 0, .int 0])), (e_printer, .inr (4, [.ref p_memory, .ref p_kept, .int 0, .int 0, .int 0])), (e_aside, .inr (10, [.int 0, .ref s_memory, .ref s_routines, .int 0])), (e_routines, .inr (3, [.ref r_words, .int 0, .int 0, .ref r_floors, .ref r_behinds, .ref r_results, .ref r_localCounts, .ref r_locals])), (r_floors, .inl (cI, 11, .inl (fun _ => 0))), (r_localCounts, .inl (cI, 11, .inl (fun _ => 0))), (e_line, .inr (2, [.ref l_typed, .int 0, .ref l_entered, .int 0, .int 0]))] sz) := by
  refine tx_ofW (cc := prog_4_method_2_code) (maxL := 2) (ret := none) (by decide) (tx_isM mw_461) ?_
  intro p e s m args below meth c s₁ B hml hv
  obtain ⟨rfl, hsz, hP, hK, hD0, hst0⟩ := hv
  have hx := B.exec
  have hb := B.bytes
  have hr := B.returns
  have hts := atoms_spec (ws := tw_tbl) B.pre
  have hown : s.vm.findClass "StoryMachine$Engine" = some m.cls := findClass_of_methodNamed B.named
  have hlocks := B.notSynchronized
  subst hsz
  have hD := hD0.self (sz := s.heap.size)
  have hst := fun (H : Heap) (locs : List Loc) (hS : va_S (va_A [(h0, .inr (5, [.ref e_memory, .ref e_line, .ref e_routines, .ref e_printer, .ref e_variables, .ref e_tree, .ref e_dictionary, .ref e_instruction, .ref e_aside, .ref e_newLocals, .int 0, .int (-1), .int 0, .int 0, .int 0])), (e_printer, .inr (4, [.ref p_memory, .ref p_kept, .int 0, .int 0, .int 0])), (e_aside, .inr (10, [.int 0, .ref s_memory, .ref s_routines, .int 0])), (e_routines, .inr (3, [.ref r_words, .int 0, .int 0, .ref r_floors, .ref r_behinds, .ref r_results, .ref r_localCounts, .ref r_locals])), (r_floors, .inl (cI, 11, .inl (fun _ => 0))), (r_localCounts, .inl (cI, 11, .inl (fun _ => 0))), (e_line, .inr (2, [.ref l_typed, .int 0, .ref l_entered, .int 0, .int 0]))] s.heap.size) s.heap H locs) (U : State) (hU : U.heap = H) (hW : s.WarmedH U.vm) => ts_keep hW (fun q cell h1 h2 => by rw [hU]; exact ts_va hP hS q cell h1 h2) hst0
  generalize hAe : va_A [(h0, .inr (5, [.ref e_memory, .ref e_line, .ref e_routines, .ref e_printer, .ref e_variables, .ref e_tree, .ref e_dictionary, .ref e_instruction, .ref e_aside, .ref e_newLocals, .int 0, .int (-1), .int 0, .int 0, .int 0])), (e_printer, .inr (4, [.ref p_memory, .ref p_kept, .int 0, .int 0, .int 0])), (e_aside, .inr (10, [.int 0, .ref s_memory, .ref s_routines, .int 0])), (e_routines, .inr (3, [.ref r_words, .int 0, .int 0, .ref r_floors, .ref r_behinds, .ref r_results, .ref r_localCounts, .ref r_locals])), (r_floors, .inl (cI, 11, .inl (fun _ => 0))), (r_localCounts, .inl (cI, 11, .inl (fun _ => 0))), (e_line, .inr (2, [.ref l_typed, .int 0, .ref l_entered, .int 0, .int 0]))] s.heap.size = A at hD hst ⊢
  have hA : ∀ q : Nat, s.heap.size ≤ q → A q := fun q h => by rw [← hAe]; exact Or.inr h
  have hS : va_S A s.heap s.heap [] := va_S.rf
  have hP : va_P (dC, dI) vcl [(h0, .inr (5, [.ref e_memory, .ref e_line, .ref e_routines, .ref e_printer, .ref e_variables, .ref e_tree, .ref e_dictionary, .ref e_instruction, .ref e_aside, .ref e_newLocals, .int 0, .int (-1), .int 0, .int 0, .int 0])), (e_printer, .inr (4, [.ref p_memory, .ref p_kept, .int 0, .int 0, .int 0])), (e_aside, .inr (10, [.int 0, .ref s_memory, .ref s_routines, .int 0])), (e_routines, .inr (3, [.ref r_words, .int 0, .int 0, .ref r_floors, .ref r_behinds, .ref r_results, .ref r_localCounts, .ref r_locals])), (r_floors, .inl (cI, 11, .inl (fun _ => 0))), (r_localCounts, .inl (cI, 11, .inl (fun _ => 0))), (e_line, .inr (2, [.ref l_typed, .int 0, .ref l_entered, .int 0, .int 0]))] s.heap := hP
  have hl := lv_entry ([.ref h0, .int 0]) (n := 2) (Nat.le_of_ble_eq_true rfl)
  rw [lg_entry_eq]
  generalize (lg_sl ([.ref h0, .int 0]) ++ List.replicate (2 - (lg_sl ([.ref h0, .int 0])).length) Slot.unset).toArray = ls at hl ⊢
  have hl : lv_has ls 2 [(0, .ref h0), (1, .int 0)] := hl
  refine lv_aload_n hx hb d_En_startAt_0 rfl (lv_at hl 0 rfl) ?_
  refine lv_iload_n hx hb d_En_startAt_1 rfl (lv_at hl 1 rfl) ?_
  refine va_put (D := (dC, dI)) (ci := 5) (v := .int 0) (ty := .int) (C := "StoryMachine$Engine") (T := T_En) (N := 15) hx hb hts in_En t_En tk_En nm_En hown hK hP hD hS 0 rfl rfl 11 (by decide) (hts _ mw_273) (fun _ h9 => h9) rfl (by decide +kernel) rfl rfl (Nat.le_of_ble_eq_true rfl) d_En_startAt_2 (fun H locs hP hD hS => ?_)
  have hP : va_P (dC, dI) vcl [(h0, .inr (5, [.ref e_memory, .ref e_line, .ref e_routines, .ref e_printer, .ref e_variables, .ref e_tree, .ref e_dictionary, .ref e_instruction, .ref e_aside, .ref e_newLocals, .int 0, .int 0, .int 0, .int 0, .int 0])), (e_printer, .inr (4, [.ref p_memory, .ref p_kept, .int 0, .int 0, .int 0])), (e_aside, .inr (10, [.int 0, .ref s_memory, .ref s_routines, .int 0])), (e_routines, .inr (3, [.ref r_words, .int 0, .int 0, .ref r_floors, .ref r_behinds, .ref r_results, .ref r_localCounts, .ref r_locals])), (r_floors, .inl (cI, 11, .inl (fun _ => 0))), (r_localCounts, .inl (cI, 11, .inl (fun _ => 0))), (e_line, .inr (2, [.ref l_typed, .int 0, .ref l_entered, .int 0, .int 0]))] H := hP
  have hD : va_D A [(h0, .inr (5, [.ref e_memory, .ref e_line, .ref e_routines, .ref e_printer, .ref e_variables, .ref e_tree, .ref e_dictionary, .ref e_instruction, .ref e_aside, .ref e_newLocals, .int 0, .int 0, .int 0, .int 0, .int 0])), (e_printer, .inr (4, [.ref p_memory, .ref p_kept, .int 0, .int 0, .int 0])), (e_aside, .inr (10, [.int 0, .ref s_memory, .ref s_routines, .int 0])), (e_routines, .inr (3, [.ref r_words, .int 0, .int 0, .ref r_floors, .ref r_behinds, .ref r_results, .ref r_localCounts, .ref r_locals])), (r_floors, .inl (cI, 11, .inl (fun _ => 0))), (r_localCounts, .inl (cI, 11, .inl (fun _ => 0))), (e_line, .inr (2, [.ref l_typed, .int 0, .ref l_entered, .int 0, .int 0]))] := hD
  refine lv_aload_n hx hb d_En_startAt_5 rfl (lv_at hl 0 rfl) ?_
  refine lv_iconst (v := 1) hx hb d_En_startAt_6 (by decide) ?_
  refine va_put (D := (dC, dI)) (ci := 5) (v := .int 1) (ty := .boolean) (C := "StoryMachine$Engine") (T := T_En) (N := 15) hx hb hts in_En t_En tk_En nm_En hown hK hP hD hS 0 rfl rfl 10 (by decide) (hts _ mw_271) (fun _ h9 => h9) rfl (by decide +kernel) (by decide) rfl (Nat.le_of_ble_eq_true rfl) d_En_startAt_7 (fun H locs hP hD hS => ?_)
  have hP : va_P (dC, dI) vcl [(h0, .inr (5, [.ref e_memory, .ref e_line, .ref e_routines, .ref e_printer, .ref e_variables, .ref e_tree, .ref e_dictionary, .ref e_instruction, .ref e_aside, .ref e_newLocals, .int 1, .int 0, .int 0, .int 0, .int 0])), (e_printer, .inr (4, [.ref p_memory, .ref p_kept, .int 0, .int 0, .int 0])), (e_aside, .inr (10, [.int 0, .ref s_memory, .ref s_routines, .int 0])), (e_routines, .inr (3, [.ref r_words, .int 0, .int 0, .ref r_floors, .ref r_behinds, .ref r_results, .ref r_localCounts, .ref r_locals])), (r_floors, .inl (cI, 11, .inl (fun _ => 0))), (r_localCounts, .inl (cI, 11, .inl (fun _ => 0))), (e_line, .inr (2, [.ref l_typed, .int 0, .ref l_entered, .int 0, .int 0]))] H := hP
  have hD : va_D A [(h0, .inr (5, [.ref e_memory, .ref e_line, .ref e_routines, .ref e_printer, .ref e_variables, .ref e_tree, .ref e_dictionary, .ref e_instruction, .ref e_aside, .ref e_newLocals, .int 1, .int 0, .int 0, .int 0, .int 0])), (e_printer, .inr (4, [.ref p_memory, .ref p_kept, .int 0, .int 0, .int 0])), (e_aside, .inr (10, [.int 0, .ref s_memory, .ref s_routines, .int 0])), (e_routines, .inr (3, [.ref r_words, .int 0, .int 0, .ref r_floors, .ref r_behinds, .ref r_results, .ref r_localCounts, .ref r_locals])), (r_floors, .inl (cI, 11, .inl (fun _ => 0))), (r_localCounts, .inl (cI, 11, .inl (fun _ => 0))), (e_line, .inr (2, [.ref l_typed, .int 0, .ref l_entered, .int 0, .int 0]))] := hD
  refine lv_aload_n hx hb d_En_startAt_10 rfl (lv_at hl 0 rfl) ?_
  refine lv_iconst (v := 0) hx hb d_En_startAt_11 (by decide) ?_
  refine va_put (D := (dC, dI)) (ci := 5) (v := .int 0) (ty := .int) (C := "StoryMachine$Engine") (T := T_En) (N := 15) hx hb hts in_En t_En tk_En nm_En hown hK hP hD hS 0 rfl rfl 12 (by decide) (hts _ mw_275) (fun _ h9 => h9) rfl (by decide +kernel) rfl rfl (Nat.le_of_ble_eq_true rfl) d_En_startAt_12 (fun H locs hP hD hS => ?_)
  have hP : va_P (dC, dI) vcl [(h0, .inr (5, [.ref e_memory, .ref e_line, .ref e_routines, .ref e_printer, .ref e_variables, .ref e_tree, .ref e_dictionary, .ref e_instruction, .ref e_aside, .ref e_newLocals, .int 1, .int 0, .int 0, .int 0, .int 0])), (e_printer, .inr (4, [.ref p_memory, .ref p_kept, .int 0, .int 0, .int 0])), (e_aside, .inr (10, [.int 0, .ref s_memory, .ref s_routines, .int 0])), (e_routines, .inr (3, [.ref r_words, .int 0, .int 0, .ref r_floors, .ref r_behinds, .ref r_results, .ref r_localCounts, .ref r_locals])), (r_floors, .inl (cI, 11, .inl (fun _ => 0))), (r_localCounts, .inl (cI, 11, .inl (fun _ => 0))), (e_line, .inr (2, [.ref l_typed, .int 0, .ref l_entered, .int 0, .int 0]))] H := hP
  have hD : va_D A [(h0, .inr (5, [.ref e_memory, .ref e_line, .ref e_routines, .ref e_printer, .ref e_variables, .ref e_tree, .ref e_dictionary, .ref e_instruction, .ref e_aside, .ref e_newLocals, .int 1, .int 0, .int 0, .int 0, .int 0])), (e_printer, .inr (4, [.ref p_memory, .ref p_kept, .int 0, .int 0, .int 0])), (e_aside, .inr (10, [.int 0, .ref s_memory, .ref s_routines, .int 0])), (e_routines, .inr (3, [.ref r_words, .int 0, .int 0, .ref r_floors, .ref r_behinds, .ref r_results, .ref r_localCounts, .ref r_locals])), (r_floors, .inl (cI, 11, .inl (fun _ => 0))), (r_localCounts, .inl (cI, 11, .inl (fun _ => 0))), (e_line, .inr (2, [.ref l_typed, .int 0, .ref l_entered, .int 0, .int 0]))] := hD
  refine lv_aload_n hx hb d_En_startAt_15 rfl (lv_at hl 0 rfl) ?_
  refine lv_iconst (v := 0) hx hb d_En_startAt_16 (by decide) ?_
  refine va_put (D := (dC, dI)) (ci := 5) (v := .int 0) (ty := .int) (C := "StoryMachine$Engine") (T := T_En) (N := 15) hx hb hts in_En t_En tk_En nm_En hown hK hP hD hS 0 rfl rfl 14 (by decide) (hts _ mw_278) (fun _ h9 => h9) rfl (by decide +kernel) rfl rfl (Nat.le_of_ble_eq_true rfl) d_En_startAt_17 (fun H locs hP hD hS => ?_)
  have hP : va_P (dC, dI) vcl [(h0, .inr (5, [.ref e_memory, .ref e_line, .ref e_routines, .ref e_printer, .ref e_variables, .ref e_tree, .ref e_dictionary, .ref e_instruction, .ref e_aside, .ref e_newLocals, .int 1, .int 0, .int 0, .int 0, .int 0])), (e_printer, .inr (4, [.ref p_memory, .ref p_kept, .int 0, .int 0, .int 0])), (e_aside, .inr (10, [.int 0, .ref s_memory, .ref s_routines, .int 0])), (e_routines, .inr (3, [.ref r_words, .int 0, .int 0, .ref r_floors, .ref r_behinds, .ref r_results, .ref r_localCounts, .ref r_locals])), (r_floors, .inl (cI, 11, .inl (fun _ => 0))), (r_localCounts, .inl (cI, 11, .inl (fun _ => 0))), (e_line, .inr (2, [.ref l_typed, .int 0, .ref l_entered, .int 0, .int 0]))] H := hP
  have hD : va_D A [(h0, .inr (5, [.ref e_memory, .ref e_line, .ref e_routines, .ref e_printer, .ref e_variables, .ref e_tree, .ref e_dictionary, .ref e_instruction, .ref e_aside, .ref e_newLocals, .int 1, .int 0, .int 0, .int 0, .int 0])), (e_printer, .inr (4, [.ref p_memory, .ref p_kept, .int 0, .int 0, .int 0])), (e_aside, .inr (10, [.int 0, .ref s_memory, .ref s_routines, .int 0])), (e_routines, .inr (3, [.ref r_words, .int 0, .int 0, .ref r_floors, .ref r_behinds, .ref r_results, .ref r_localCounts, .ref r_locals])), (r_floors, .inl (cI, 11, .inl (fun _ => 0))), (r_localCounts, .inl (cI, 11, .inl (fun _ => 0))), (e_line, .inr (2, [.ref l_typed, .int 0, .ref l_entered, .int 0, .int 0]))] := hD
  refine lv_aload_n hx hb d_En_startAt_20 rfl (lv_at hl 0 rfl) ?_
  refine va_get (D := (dC, dI)) (ci := 5) (v := .ref e_printer) (C := "StoryMachine$Engine") (T := T_En) (N := 15) hx hb hts in_En hown hK hP 0 rfl rfl 3 (by decide) (hts _ mw_264) (fun _ h9 => h9) rfl d_En_startAt_21 ?_
  refine lv_iconst (v := 0) hx hb d_En_startAt_24 (by decide) ?_
  refine va_put (D := (dC, dI)) (ci := 4) (v := .int 0) (ty := .int) (C := "StoryMachine$Printer") (T := T_Pr) (N := 5) hx hb hts in_Pr t_Pr tk_Pr nm_Pr hown hK hP hD hS 1 rfl rfl 2 (by decide) (hts _ mw_117) (fun _ h9 => h9) rfl (by decide +kernel) rfl rfl (Nat.le_of_ble_eq_true rfl) d_En_startAt_25 (fun H locs hP hD hS => ?_)
  have hP : va_P (dC, dI) vcl [(h0, .inr (5, [.ref e_memory, .ref e_line, .ref e_routines, .ref e_printer, .ref e_variables, .ref e_tree, .ref e_dictionary, .ref e_instruction, .ref e_aside, .ref e_newLocals, .int 1, .int 0, .int 0, .int 0, .int 0])), (e_printer, .inr (4, [.ref p_memory, .ref p_kept, .int 0, .int 0, .int 0])), (e_aside, .inr (10, [.int 0, .ref s_memory, .ref s_routines, .int 0])), (e_routines, .inr (3, [.ref r_words, .int 0, .int 0, .ref r_floors, .ref r_behinds, .ref r_results, .ref r_localCounts, .ref r_locals])), (r_floors, .inl (cI, 11, .inl (fun _ => 0))), (r_localCounts, .inl (cI, 11, .inl (fun _ => 0))), (e_line, .inr (2, [.ref l_typed, .int 0, .ref l_entered, .int 0, .int 0]))] H := hP
  have hD : va_D A [(h0, .inr (5, [.ref e_memory, .ref e_line, .ref e_routines, .ref e_printer, .ref e_variables, .ref e_tree, .ref e_dictionary, .ref e_instruction, .ref e_aside, .ref e_newLocals, .int 1, .int 0, .int 0, .int 0, .int 0])), (e_printer, .inr (4, [.ref p_memory, .ref p_kept, .int 0, .int 0, .int 0])), (e_aside, .inr (10, [.int 0, .ref s_memory, .ref s_routines, .int 0])), (e_routines, .inr (3, [.ref r_words, .int 0, .int 0, .ref r_floors, .ref r_behinds, .ref r_results, .ref r_localCounts, .ref r_locals])), (r_floors, .inl (cI, 11, .inl (fun _ => 0))), (r_localCounts, .inl (cI, 11, .inl (fun _ => 0))), (e_line, .inr (2, [.ref l_typed, .int 0, .ref l_entered, .int 0, .int 0]))] := hD
  refine lv_aload_n hx hb d_En_startAt_28 rfl (lv_at hl 0 rfl) ?_
  refine va_get (D := (dC, dI)) (ci := 5) (v := .ref e_aside) (C := "StoryMachine$Engine") (T := T_En) (N := 15) hx hb hts in_En hown hK hP 0 rfl rfl 8 (by decide) (hts _ mw_269) (fun _ h9 => h9) rfl d_En_startAt_29 ?_
  refine lv_iconst (v := 0) hx hb d_En_startAt_32 (by decide) ?_
  refine va_put (D := (dC, dI)) (ci := 10) (v := .int 0) (ty := .boolean) (C := "StoryMachine$Aside") (T := T_As) (N := 4) hx hb hts in_As t_As tk_As nm_As hown hK hP hD hS 2 rfl rfl 0 (by decide) (hts _ mw_149) (fun _ h9 => h9) rfl (by decide +kernel) (by decide) rfl (Nat.le_of_ble_eq_true rfl) d_En_startAt_33 (fun H locs hP hD hS => ?_)
  have hP : va_P (dC, dI) vcl [(h0, .inr (5, [.ref e_memory, .ref e_line, .ref e_routines, .ref e_printer, .ref e_variables, .ref e_tree, .ref e_dictionary, .ref e_instruction, .ref e_aside, .ref e_newLocals, .int 1, .int 0, .int 0, .int 0, .int 0])), (e_printer, .inr (4, [.ref p_memory, .ref p_kept, .int 0, .int 0, .int 0])), (e_aside, .inr (10, [.int 0, .ref s_memory, .ref s_routines, .int 0])), (e_routines, .inr (3, [.ref r_words, .int 0, .int 0, .ref r_floors, .ref r_behinds, .ref r_results, .ref r_localCounts, .ref r_locals])), (r_floors, .inl (cI, 11, .inl (fun _ => 0))), (r_localCounts, .inl (cI, 11, .inl (fun _ => 0))), (e_line, .inr (2, [.ref l_typed, .int 0, .ref l_entered, .int 0, .int 0]))] H := hP
  have hD : va_D A [(h0, .inr (5, [.ref e_memory, .ref e_line, .ref e_routines, .ref e_printer, .ref e_variables, .ref e_tree, .ref e_dictionary, .ref e_instruction, .ref e_aside, .ref e_newLocals, .int 1, .int 0, .int 0, .int 0, .int 0])), (e_printer, .inr (4, [.ref p_memory, .ref p_kept, .int 0, .int 0, .int 0])), (e_aside, .inr (10, [.int 0, .ref s_memory, .ref s_routines, .int 0])), (e_routines, .inr (3, [.ref r_words, .int 0, .int 0, .ref r_floors, .ref r_behinds, .ref r_results, .ref r_localCounts, .ref r_locals])), (r_floors, .inl (cI, 11, .inl (fun _ => 0))), (r_localCounts, .inl (cI, 11, .inl (fun _ => 0))), (e_line, .inr (2, [.ref l_typed, .int 0, .ref l_entered, .int 0, .int 0]))] := hD
  refine lv_aload_n hx hb d_En_startAt_36 rfl (lv_at hl 0 rfl) ?_
  refine va_get (D := (dC, dI)) (ci := 5) (v := .ref e_routines) (C := "StoryMachine$Engine") (T := T_En) (N := 15) hx hb hts in_En hown hK hP 0 rfl rfl 2 (by decide) (hts _ mw_263) (fun _ h9 => h9) rfl d_En_startAt_37 ?_
  have hPc := hP.sub (ws' := [(e_routines, .inr (3, [.ref r_words, .int 0, .int 0, .ref r_floors, .ref r_behinds, .ref r_results, .ref r_localCounts, .ref r_locals])), (r_floors, .inl (cI, 11, .inl (fun _ => 0))), (r_localCounts, .inl (cI, 11, .inl (fun _ => 0)))]) [3, 4, 5] rfl
  have hDc := hD.sub (ws' := [(e_routines, .inr (3, [.ref r_words, .int 0, .int 0, .ref r_floors, .ref r_behinds, .ref r_results, .ref r_localCounts, .ref r_locals])), (r_floors, .inl (cI, 11, .inl (fun _ => 0))), (r_localCounts, .inl (cI, 11, .inl (fun _ => 0)))]) [3, 4, 5] (by decide) rfl
  have hFc := va_free (wc := [(e_routines, .inr (3, [.ref r_words, .int 0, .int 0, .ref r_floors, .ref r_behinds, .ref r_results, .ref r_localCounts, .ref r_locals])), (r_floors, .inl (cI, 11, .inl (fun _ => 0))), (r_localCounts, .inl (cI, 11, .inl (fun _ => 0)))]) hD hS hA [3, 4, 5] rfl
  refine tx_callK (A1 := va_A [(e_routines, .inr (3, [.ref r_words, .int 0, .int 0, .ref r_floors, .ref r_behinds, .ref r_results, .ref r_localCounts, .ref r_locals])), (r_floors, .inl (cI, 11, .inl (fun _ => 0))), (r_localCounts, .inl (cI, 11, .inl (fun _ => 0)))] H.size) (tx_runV (C := "StoryMachine$Routines") (As := []) (rest := []) ⟨hx, hb, hml, hown, hts⟩ (c_Ro_clear l hfl dC dI cI e_routines r_words r_floors r_behinds r_results r_localCounts r_locals (fun _ => 0) (fun _ => 0) H.size) (tx_cb (n := 0) hts rfl rfl ⟨Nat.le_of_ble_eq_true rfl, Nat.le_of_ble_eq_true rfl⟩ (tx_code.of (hts _ mw_465)) (hts _ mw_4) (by decide +kernel) (hts _ mw_462)) (hts _ mw_463) (hts _ mw_464) ⟨tq_blind, ta_recv (q0 := 3) hts in_Ro hK hP rfl rfl, fun U hU hW => ⟨rfl, by rw [hU], by rw [hU]; exact hPc, va_K.moved hW.alike hK, hDc.weaken (fun _ _ _ _ => trivial), hst _ _ hS U hU hW⟩⟩ rfl rfl hl.1 rfl (lv_room (Nat.le_of_ble_eq_true rfl)) d_En_startAt_40 ⟨Nat.le_of_ble_eq_true rfl, Nat.le_of_ble_eq_true rfl⟩) hS (fun q _ h => hFc q h) hFc (fun v t H40 locs ht hWt hpost hz1 hk1 hS => ?_) (fun x t H1 locs ht hWt hpost hz1 hk1 hS => by cases hpost)
  cases hpost
  have hP1 := ta_nilP (D := (dC, dI)) (cl := vcl) (H := t.heap)
  have hD1 := ta_nilD (A := va_A [(e_routines, .inr (3, [.ref r_words, .int 0, .int 0, .ref r_floors, .ref r_behinds, .ref r_results, .ref r_localCounts, .ref r_locals])), (r_floors, .inl (cI, 11, .inl (fun _ => 0))), (r_localCounts, .inl (cI, 11, .inl (fun _ => 0)))] H.size)
  rw [ht] at hP1
  obtain ⟨hP, hD⟩ := va_join (wr := [(h0, .inr (5, [.ref e_memory, .ref e_line, .ref e_routines, .ref e_printer, .ref e_variables, .ref e_tree, .ref e_dictionary, .ref e_instruction, .ref e_aside, .ref e_newLocals, .int 1, .int 0, .int 0, .int 0, .int 0])), (e_printer, .inr (4, [.ref p_memory, .ref p_kept, .int 0, .int 0, .int 0])), (e_aside, .inr (10, [.int 0, .ref s_memory, .ref s_routines, .int 0])), (e_line, .inr (2, [.ref l_typed, .int 0, .ref l_entered, .int 0, .int 0]))]) (w1 := []) hP hD [3, 4, 5] [0, 1, 2, 6] rfl rfl (by decide) (by decide) hk1 hFc hP1 hD1
  have hP : va_P (dC, dI) vcl [(h0, .inr (5, [.ref e_memory, .ref e_line, .ref e_routines, .ref e_printer, .ref e_variables, .ref e_tree, .ref e_dictionary, .ref e_instruction, .ref e_aside, .ref e_newLocals, .int 1, .int 0, .int 0, .int 0, .int 0])), (e_printer, .inr (4, [.ref p_memory, .ref p_kept, .int 0, .int 0, .int 0])), (e_aside, .inr (10, [.int 0, .ref s_memory, .ref s_routines, .int 0])), (e_line, .inr (2, [.ref l_typed, .int 0, .ref l_entered, .int 0, .int 0]))] H40 := hP
  have hD : va_D A [(h0, .inr (5, [.ref e_memory, .ref e_line, .ref e_routines, .ref e_printer, .ref e_variables, .ref e_tree, .ref e_dictionary, .ref e_instruction, .ref e_aside, .ref e_newLocals, .int 1, .int 0, .int 0, .int 0, .int 0])), (e_printer, .inr (4, [.ref p_memory, .ref p_kept, .int 0, .int 0, .int 0])), (e_aside, .inr (10, [.int 0, .ref s_memory, .ref s_routines, .int 0])), (e_line, .inr (2, [.ref l_typed, .int 0, .ref l_entered, .int 0, .int 0]))] := hD
  refine lv_aload_n hx hb d_En_startAt_43 rfl (lv_at hl 0 rfl) ?_
  refine va_get (D := (dC, dI)) (ci := 5) (v := .ref e_line) (C := "StoryMachine$Engine") (T := T_En) (N := 15) hx hb hts in_En hown hK hP 0 rfl rfl 1 (by decide) (hts _ mw_262) (fun _ h9 => h9) rfl d_En_startAt_44 ?_
  have hPc := hP.sub (ws' := [(e_line, .inr (2, [.ref l_typed, .int 0, .ref l_entered, .int 0, .int 0]))]) [3] rfl
  have hDc := hD.sub (ws' := [(e_line, .inr (2, [.ref l_typed, .int 0, .ref l_entered, .int 0, .int 0]))]) [3] (by decide) rfl
  have hFc := va_free (wc := [(e_line, .inr (2, [.ref l_typed, .int 0, .ref l_entered, .int 0, .int 0]))]) hD hS hA [3] rfl
  refine tx_callK (A1 := va_A [(e_line, .inr (2, [.ref l_typed, .int 0, .ref l_entered, .int 0, .int 0]))] H40.size) (tx_runV (C := "StoryMachine$Line") (As := []) (rest := []) ⟨hx, hb, hml, hown, hts⟩ (c_Li_clear l hfl dC dI cI e_line l_typed l_entered H40.size) (tx_cb (n := 0) hts rfl rfl ⟨Nat.le_of_ble_eq_true rfl, Nat.le_of_ble_eq_true rfl⟩ (tx_code.of (hts _ mw_469)) (hts _ mw_3) (by decide +kernel) (hts _ mw_466)) (hts _ mw_467) (hts _ mw_468) ⟨tq_blind, ta_recv (q0 := 3) hts in_Li hK hP rfl rfl, fun U hU hW => ⟨rfl, by rw [hU], by rw [hU]; exact hPc, va_K.moved hW.alike hK, hDc.weaken (fun _ _ _ _ => trivial), hst _ _ hS U hU hW⟩⟩ rfl rfl hl.1 rfl (lv_room (Nat.le_of_ble_eq_true rfl)) d_En_startAt_47 ⟨Nat.le_of_ble_eq_true rfl, Nat.le_of_ble_eq_true rfl⟩) hS (fun q _ h => hFc q h) hFc (fun v t H47 locs ht hWt hpost hz1 hk1 hS => ?_) (fun x t H1 locs ht hWt hpost hz1 hk1 hS => by cases hpost)
  cases hpost
  have hP1 := ta_nilP (D := (dC, dI)) (cl := vcl) (H := t.heap)
  have hD1 := ta_nilD (A := va_A [(e_line, .inr (2, [.ref l_typed, .int 0, .ref l_entered, .int 0, .int 0]))] H40.size)
  rw [ht] at hP1
  obtain ⟨hP, hD⟩ := va_join (wr := [(h0, .inr (5, [.ref e_memory, .ref e_line, .ref e_routines, .ref e_printer, .ref e_variables, .ref e_tree, .ref e_dictionary, .ref e_instruction, .ref e_aside, .ref e_newLocals, .int 1, .int 0, .int 0, .int 0, .int 0])), (e_printer, .inr (4, [.ref p_memory, .ref p_kept, .int 0, .int 0, .int 0])), (e_aside, .inr (10, [.int 0, .ref s_memory, .ref s_routines, .int 0]))]) (w1 := []) hP hD [3] [0, 1, 2] rfl rfl (by decide) (by decide) hk1 hFc hP1 hD1
  have hP : va_P (dC, dI) vcl [(h0, .inr (5, [.ref e_memory, .ref e_line, .ref e_routines, .ref e_printer, .ref e_variables, .ref e_tree, .ref e_dictionary, .ref e_instruction, .ref e_aside, .ref e_newLocals, .int 1, .int 0, .int 0, .int 0, .int 0])), (e_printer, .inr (4, [.ref p_memory, .ref p_kept, .int 0, .int 0, .int 0])), (e_aside, .inr (10, [.int 0, .ref s_memory, .ref s_routines, .int 0]))] H47 := hP
  have hD : va_D A [(h0, .inr (5, [.ref e_memory, .ref e_line, .ref e_routines, .ref e_printer, .ref e_variables, .ref e_tree, .ref e_dictionary, .ref e_instruction, .ref e_aside, .ref e_newLocals, .int 1, .int 0, .int 0, .int 0, .int 0])), (e_printer, .inr (4, [.ref p_memory, .ref p_kept, .int 0, .int 0, .int 0])), (e_aside, .inr (10, [.int 0, .ref s_memory, .ref s_routines, .int 0]))] := hD
  refine W.widen (k := 0) (n := 0) (Nat.le_of_ble_eq_true rfl) (Nat.le_of_ble_eq_true rfl) ?_
  exact tx_ret (W.vret hx hb hr (fun t ht hW => ⟨rfl, hS.F ht⟩) (hS.2.2) d_En_startAt_50)
set_option maxHeartbeats 4000000 in
set_option maxRecDepth 100000 in
theorem c_SM_begin (l : Launch) (hfl : l.flags = pinnedFlags ++ [noTraceFlag]) (dC : Nat → ClassId) (dI : Nat → Nat → Nat) (cI : ClassId) (h0 q1 q2 q3 q4 q5 q6 e_memory e_line e_routines e_printer e_variables e_tree e_dictionary e_instruction e_aside e_newLocals p_memory p_kept s_memory s_routines r_words r_floors r_behinds r_results r_localCounts r_locals l_typed l_entered : Nat) (sz : Nat) : tx_Met l ⟨"StoryMachine", "begin", "()V"⟩ tw_tbl ({ frames := 8, cells := 0, slots := 0, locals := 160 }) (tq_P (dC, dI) vcl [.ref h0] sz [(h0, .inr (0, [.ref q1, .ref q2, .ref q3, .ref q4, .ref q5])), (q1, .inr (1, [.ref q6])), (q6, .inl (cI, 512, .inl (fun _ => 0))), (q5, .inr (5, [.ref e_memory, .ref e_line, .ref e_routines, .ref e_printer, .ref e_variables, .ref e_tree, .ref e_dictionary, .ref e_instruction, .ref e_aside, .ref e_newLocals, .int 0, .int (-1), .int 0, .int 0, .int 0])), (e_printer, .inr (4, [.ref p_memory, .ref p_kept, .int 0, .int 0, .int 0])), (e_aside, .inr (10, [.int 0, .ref s_memory, .ref s_routines, .int 0])), (e_routines, .inr (3, [.ref r_words, .int 0, .int 0, .ref r_floors, .ref r_behinds, .ref r_results, .ref r_localCounts, .ref r_locals])), (r_floors, .inl (cI, 11, .inl (fun _ => 0))), (r_localCounts, .inl (cI, 11, .inl (fun _ => 0))), (e_line, .inr (2, [.ref l_typed, .int 0, .ref l_entered, .int 0, .int 0]))] [(cI, .int)]) (tq_Q (fun o t => o = .returned none) (va_A [(h0, .inr (0, [.ref q1, .ref q2, .ref q3, .ref q4, .ref q5])), (q1, .inr (1, [.ref q6])), (q6, .inl (cI, 512, .inl (fun _ => 0))), (q5, .inr (5, [.ref e_memory, .ref e_line, .ref e_routines, .ref e_printer, .ref e_variables, .ref e_tree, .ref e_dictionary, .ref e_instruction, .ref e_aside, .ref e_newLocals, .int 0, .int (-1), .int 0, .int 0, .int 0])), (e_printer, .inr (4, [.ref p_memory, .ref p_kept, .int 0, .int 0, .int 0])), (e_aside, .inr (10, [.int 0, .ref s_memory, .ref s_routines, .int 0])), (e_routines, .inr (3, [.ref r_words, .int 0, .int 0, .ref r_floors, .ref r_behinds, .ref r_results, .ref r_localCounts, .ref r_locals])), (r_floors, .inl (cI, 11, .inl (fun _ => 0))), (r_localCounts, .inl (cI, 11, .inl (fun _ => 0))), (e_line, .inr (2, [.ref l_typed, .int 0, .ref l_entered, .int 0, .int 0]))] sz)) 0 0 (va_A [(h0, .inr (0, [.ref q1, .ref q2, .ref q3, .ref q4, .ref q5])), (q1, .inr (1, [.ref q6])), (q6, .inl (cI, 512, .inl (fun _ => 0))), (q5, .inr (5, [.ref e_memory, .ref e_line, .ref e_routines, .ref e_printer, .ref e_variables, .ref e_tree, .ref e_dictionary, .ref e_instruction, .ref e_aside, .ref e_newLocals, .int 0, .int (-1), .int 0, .int 0, .int 0])), (e_printer, .inr (4, [.ref p_memory, .ref p_kept, .int 0, .int 0, .int 0])), (e_aside, .inr (10, [.int 0, .ref s_memory, .ref s_routines, .int 0])), (e_routines, .inr (3, [.ref r_words, .int 0, .int 0, .ref r_floors, .ref r_behinds, .ref r_results, .ref r_localCounts, .ref r_locals])), (r_floors, .inl (cI, 11, .inl (fun _ => 0))), (r_localCounts, .inl (cI, 11, .inl (fun _ => 0))), (e_line, .inr (2, [.ref l_typed, .int 0, .ref l_entered, .int 0, .int 0]))] sz) := by
  refine tx_ofW (cc := prog_1_method_4_code) (maxL := 2) (ret := none) (by decide) (tx_isM mw_436) ?_
  intro p e s m args below meth c s₁ B hml hv
  obtain ⟨rfl, hsz, hP, hK, hD0, hst0⟩ := hv
  have hx := B.exec
  have hb := B.bytes
  have hr := B.returns
  have hts := atoms_spec (ws := tw_tbl) B.pre
  have hown : s.vm.findClass "StoryMachine" = some m.cls := findClass_of_methodNamed B.named
  have hlocks := B.notSynchronized
  subst hsz
  have hD := hD0.self (sz := s.heap.size)
  have hst := fun (H : Heap) (locs : List Loc) (hS : va_S (va_A [(h0, .inr (0, [.ref q1, .ref q2, .ref q3, .ref q4, .ref q5])), (q1, .inr (1, [.ref q6])), (q6, .inl (cI, 512, .inl (fun _ => 0))), (q5, .inr (5, [.ref e_memory, .ref e_line, .ref e_routines, .ref e_printer, .ref e_variables, .ref e_tree, .ref e_dictionary, .ref e_instruction, .ref e_aside, .ref e_newLocals, .int 0, .int (-1), .int 0, .int 0, .int 0])), (e_printer, .inr (4, [.ref p_memory, .ref p_kept, .int 0, .int 0, .int 0])), (e_aside, .inr (10, [.int 0, .ref s_memory, .ref s_routines, .int 0])), (e_routines, .inr (3, [.ref r_words, .int 0, .int 0, .ref r_floors, .ref r_behinds, .ref r_results, .ref r_localCounts, .ref r_locals])), (r_floors, .inl (cI, 11, .inl (fun _ => 0))), (r_localCounts, .inl (cI, 11, .inl (fun _ => 0))), (e_line, .inr (2, [.ref l_typed, .int 0, .ref l_entered, .int 0, .int 0]))] s.heap.size) s.heap H locs) (U : State) (hU : U.heap = H) (hW : s.WarmedH U.vm) => ts_keep hW (fun q cell h1 h2 => by rw [hU]; exact ts_va hP hS q cell h1 h2) hst0
  generalize hAe : va_A [(h0, .inr (0, [.ref q1, .ref q2, .ref q3, .ref q4, .ref q5])), (q1, .inr (1, [.ref q6])), (q6, .inl (cI, 512, .inl (fun _ => 0))), (q5, .inr (5, [.ref e_memory, .ref e_line, .ref e_routines, .ref e_printer, .ref e_variables, .ref e_tree, .ref e_dictionary, .ref e_instruction, .ref e_aside, .ref e_newLocals, .int 0, .int (-1), .int 0, .int 0, .int 0])), (e_printer, .inr (4, [.ref p_memory, .ref p_kept, .int 0, .int 0, .int 0])), (e_aside, .inr (10, [.int 0, .ref s_memory, .ref s_routines, .int 0])), (e_routines, .inr (3, [.ref r_words, .int 0, .int 0, .ref r_floors, .ref r_behinds, .ref r_results, .ref r_localCounts, .ref r_locals])), (r_floors, .inl (cI, 11, .inl (fun _ => 0))), (r_localCounts, .inl (cI, 11, .inl (fun _ => 0))), (e_line, .inr (2, [.ref l_typed, .int 0, .ref l_entered, .int 0, .int 0]))] s.heap.size = A at hD hst ⊢
  have hA : ∀ q : Nat, s.heap.size ≤ q → A q := fun q h => by rw [← hAe]; exact Or.inr h
  have hS : va_S A s.heap s.heap [] := va_S.rf
  have hP : va_P (dC, dI) vcl [(h0, .inr (0, [.ref q1, .ref q2, .ref q3, .ref q4, .ref q5])), (q1, .inr (1, [.ref q6])), (q6, .inl (cI, 512, .inl (fun _ => 0))), (q5, .inr (5, [.ref e_memory, .ref e_line, .ref e_routines, .ref e_printer, .ref e_variables, .ref e_tree, .ref e_dictionary, .ref e_instruction, .ref e_aside, .ref e_newLocals, .int 0, .int (-1), .int 0, .int 0, .int 0])), (e_printer, .inr (4, [.ref p_memory, .ref p_kept, .int 0, .int 0, .int 0])), (e_aside, .inr (10, [.int 0, .ref s_memory, .ref s_routines, .int 0])), (e_routines, .inr (3, [.ref r_words, .int 0, .int 0, .ref r_floors, .ref r_behinds, .ref r_results, .ref r_localCounts, .ref r_locals])), (r_floors, .inl (cI, 11, .inl (fun _ => 0))), (r_localCounts, .inl (cI, 11, .inl (fun _ => 0))), (e_line, .inr (2, [.ref l_typed, .int 0, .ref l_entered, .int 0, .int 0]))] s.heap := hP
  have hl := lv_entry ([.ref h0]) (n := 2) (Nat.le_of_ble_eq_true rfl)
  rw [lg_entry_eq]
  generalize (lg_sl ([.ref h0]) ++ List.replicate (2 - (lg_sl ([.ref h0])).length) Slot.unset).toArray = ls at hl ⊢
  have hl : lv_has ls 2 [(0, .ref h0)] := hl
  refine lv_aload_n hx hb d_SM_begin_0 rfl (lv_at hl 0 rfl) ?_
  refine va_get (D := (dC, dI)) (ci := 0) (v := .ref q1) (C := "StoryMachine") (T := T_SM) (N := 5) hx hb hts in_SM hown hK hP 0 rfl rfl 0 (by decide) (hts _ mw_310) (fun _ h9 => h9) rfl d_SM_begin_1 ?_
  refine lv_iconst (v := 4) hx hb d_SM_begin_4 (by decide) ?_
  have hPc := hP.sub (ws' := [(q1, .inr (1, [.ref q6])), (q6, .inl (cI, 512, .inl (fun _ => 0)))]) [1, 2] rfl
  have hDc := hD.sub (ws' := [(q1, .inr (1, [.ref q6])), (q6, .inl (cI, 512, .inl (fun _ => 0)))]) [1, 2] (by decide) rfl
  have hFc := va_free (wc := [(q1, .inr (1, [.ref q6])), (q6, .inl (cI, 512, .inl (fun _ => 0)))]) hD hS hA [1, 2] rfl
  refine tx_callK (A1 := va_A [(q1, .inr (1, [.ref q6])), (q6, .inl (cI, 512, .inl (fun _ => 0)))] s.heap.size) (tx_runV (C := "StoryMachine$Memory") (As := [.int 4]) (rest := []) ⟨hx, hb, hml, hown, hts⟩ (c_Me_wordAt l hfl dC dI cI q1 q6 s.heap.size) (tx_cb (n := 1) hts rfl rfl ⟨Nat.le_of_ble_eq_true rfl, Nat.le_of_ble_eq_true rfl⟩ (tx_code.of (hts _ mw_440)) (hts _ mw_2) (by decide +kernel) (hts _ mw_437)) (hts _ mw_438) (hts _ mw_439) ⟨tq_blind, ta_recv (q0 := 1) hts in_Me hK hP rfl rfl, fun U hU hW => ⟨rfl, by rw [hU], by rw [hU]; exact hPc, va_K.moved hW.alike hK, hDc.weaken (fun _ _ _ _ => trivial), hst _ _ hS U hU hW⟩⟩ rfl rfl hl.1 rfl (lv_room (Nat.le_of_ble_eq_true rfl)) d_SM_begin_5 ⟨Nat.le_of_ble_eq_true rfl, Nat.le_of_ble_eq_true rfl⟩) hS (fun q _ h => hFc q h) hFc (fun v t H5 locs ht hWt hpost hz1 hk1 hS => ?_) (fun x t H1 locs ht hWt hpost hz1 hk1 hS => by cases hpost)
  cases hpost
  have hP1 := ta_nilP (D := (dC, dI)) (cl := vcl) (H := t.heap)
  have hD1 := ta_nilD (A := va_A [(q1, .inr (1, [.ref q6])), (q6, .inl (cI, 512, .inl (fun _ => 0)))] s.heap.size)
  rw [ht] at hP1
  obtain ⟨hP, hD⟩ := va_join (wr := [(h0, .inr (0, [.ref q1, .ref q2, .ref q3, .ref q4, .ref q5])), (q5, .inr (5, [.ref e_memory, .ref e_line, .ref e_routines, .ref e_printer, .ref e_variables, .ref e_tree, .ref e_dictionary, .ref e_instruction, .ref e_aside, .ref e_newLocals, .int 0, .int (-1), .int 0, .int 0, .int 0])), (e_printer, .inr (4, [.ref p_memory, .ref p_kept, .int 0, .int 0, .int 0])), (e_aside, .inr (10, [.int 0, .ref s_memory, .ref s_routines, .int 0])), (e_routines, .inr (3, [.ref r_words, .int 0, .int 0, .ref r_floors, .ref r_behinds, .ref r_results, .ref r_localCounts, .ref r_locals])), (r_floors, .inl (cI, 11, .inl (fun _ => 0))), (r_localCounts, .inl (cI, 11, .inl (fun _ => 0))), (e_line, .inr (2, [.ref l_typed, .int 0, .ref l_entered, .int 0, .int 0]))]) (w1 := []) hP hD [1, 2] [0, 3, 4, 5, 6, 7, 8, 9] rfl rfl (by decide) (by decide) hk1 hFc hP1 hD1
  have hP : va_P (dC, dI) vcl [(h0, .inr (0, [.ref q1, .ref q2, .ref q3, .ref q4, .ref q5])), (q5, .inr (5, [.ref e_memory, .ref e_line, .ref e_routines, .ref e_printer, .ref e_variables, .ref e_tree, .ref e_dictionary, .ref e_instruction, .ref e_aside, .ref e_newLocals, .int 0, .int (-1), .int 0, .int 0, .int 0])), (e_printer, .inr (4, [.ref p_memory, .ref p_kept, .int 0, .int 0, .int 0])), (e_aside, .inr (10, [.int 0, .ref s_memory, .ref s_routines, .int 0])), (e_routines, .inr (3, [.ref r_words, .int 0, .int 0, .ref r_floors, .ref r_behinds, .ref r_results, .ref r_localCounts, .ref r_locals])), (r_floors, .inl (cI, 11, .inl (fun _ => 0))), (r_localCounts, .inl (cI, 11, .inl (fun _ => 0))), (e_line, .inr (2, [.ref l_typed, .int 0, .ref l_entered, .int 0, .int 0]))] H5 := hP
  have hD : va_D A [(h0, .inr (0, [.ref q1, .ref q2, .ref q3, .ref q4, .ref q5])), (q5, .inr (5, [.ref e_memory, .ref e_line, .ref e_routines, .ref e_printer, .ref e_variables, .ref e_tree, .ref e_dictionary, .ref e_instruction, .ref e_aside, .ref e_newLocals, .int 0, .int (-1), .int 0, .int 0, .int 0])), (e_printer, .inr (4, [.ref p_memory, .ref p_kept, .int 0, .int 0, .int 0])), (e_aside, .inr (10, [.int 0, .ref s_memory, .ref s_routines, .int 0])), (e_routines, .inr (3, [.ref r_words, .int 0, .int 0, .ref r_floors, .ref r_behinds, .ref r_results, .ref r_localCounts, .ref r_locals])), (r_floors, .inl (cI, 11, .inl (fun _ => 0))), (r_localCounts, .inl (cI, 11, .inl (fun _ => 0))), (e_line, .inr (2, [.ref l_typed, .int 0, .ref l_entered, .int 0, .int 0]))] := hD
  refine lv_istore_n (lv' := [(1, .int 0), (0, .ref h0)]) hx hb d_SM_begin_8 rfl hl (by decide) rfl (fun ls hl => ?_)
  refine lv_iload_n hx hb d_SM_begin_9 rfl (lv_at hl 0 rfl) ?_
  refine lv_sipush (v := 512) hx hb d_SM_begin_10 (by decide) ?_
  refine lv_icmp_lt (tgt := 24) hx hb d_SM_begin_13 (by decide) (fun _ => ?_) (fun h => absurd h (by decide))
  refine lv_aload_n hx hb d_SM_begin_24 rfl (lv_at hl 1 rfl) ?_
  refine va_get (D := (dC, dI)) (ci := 0) (v := .ref q5) (C := "StoryMachine") (T := T_SM) (N := 5) hx hb hts in_SM hown hK hP 0 rfl rfl 4 (by decide) (hts _ mw_314) (fun _ h9 => h9) rfl d_SM_begin_25 ?_
  refine lv_iload_n hx hb d_SM_begin_28 rfl (lv_at hl 0 rfl) ?_
  have hPc := hP.sub (ws' := [(q5, .inr (5, [.ref e_memory, .ref e_line, .ref e_routines, .ref e_printer, .ref e_variables, .ref e_tree, .ref e_dictionary, .ref e_instruction, .ref e_aside, .ref e_newLocals, .int 0, .int (-1), .int 0, .int 0, .int 0])), (e_printer, .inr (4, [.ref p_memory, .ref p_kept, .int 0, .int 0, .int 0])), (e_aside, .inr (10, [.int 0, .ref s_memory, .ref s_routines, .int 0])), (e_routines, .inr (3, [.ref r_words, .int 0, .int 0, .ref r_floors, .ref r_behinds, .ref r_results, .ref r_localCounts, .ref r_locals])), (r_floors, .inl (cI, 11, .inl (fun _ => 0))), (r_localCounts, .inl (cI, 11, .inl (fun _ => 0))), (e_line, .inr (2, [.ref l_typed, .int 0, .ref l_entered, .int 0, .int 0]))]) [1, 2, 3, 4, 5, 6, 7] rfl
  have hDc := hD.sub (ws' := [(q5, .inr (5, [.ref e_memory, .ref e_line, .ref e_routines, .ref e_printer, .ref e_variables, .ref e_tree, .ref e_dictionary, .ref e_instruction, .ref e_aside, .ref e_newLocals, .int 0, .int (-1), .int 0, .int 0, .int 0])), (e_printer, .inr (4, [.ref p_memory, .ref p_kept, .int 0, .int 0, .int 0])), (e_aside, .inr (10, [.int 0, .ref s_memory, .ref s_routines, .int 0])), (e_routines, .inr (3, [.ref r_words, .int 0, .int 0, .ref r_floors, .ref r_behinds, .ref r_results, .ref r_localCounts, .ref r_locals])), (r_floors, .inl (cI, 11, .inl (fun _ => 0))), (r_localCounts, .inl (cI, 11, .inl (fun _ => 0))), (e_line, .inr (2, [.ref l_typed, .int 0, .ref l_entered, .int 0, .int 0]))]) [1, 2, 3, 4, 5, 6, 7] (by decide) rfl
  have hFc := va_free (wc := [(q5, .inr (5, [.ref e_memory, .ref e_line, .ref e_routines, .ref e_printer, .ref e_variables, .ref e_tree, .ref e_dictionary, .ref e_instruction, .ref e_aside, .ref e_newLocals, .int 0, .int (-1), .int 0, .int 0, .int 0])), (e_printer, .inr (4, [.ref p_memory, .ref p_kept, .int 0, .int 0, .int 0])), (e_aside, .inr (10, [.int 0, .ref s_memory, .ref s_routines, .int 0])), (e_routines, .inr (3, [.ref r_words, .int 0, .int 0, .ref r_floors, .ref r_behinds, .ref r_results, .ref r_localCounts, .ref r_locals])), (r_floors, .inl (cI, 11, .inl (fun _ => 0))), (r_localCounts, .inl (cI, 11, .inl (fun _ => 0))), (e_line, .inr (2, [.ref l_typed, .int 0, .ref l_entered, .int 0, .int 0]))]) hD hS hA [1, 2, 3, 4, 5, 6, 7] rfl
  refine tx_callK (A1 := va_A [(q5, .inr (5, [.ref e_memory, .ref e_line, .ref e_routines, .ref e_printer, .ref e_variables, .ref e_tree, .ref e_dictionary, .ref e_instruction, .ref e_aside, .ref e_newLocals, .int 0, .int (-1), .int 0, .int 0, .int 0])), (e_printer, .inr (4, [.ref p_memory, .ref p_kept, .int 0, .int 0, .int 0])), (e_aside, .inr (10, [.int 0, .ref s_memory, .ref s_routines, .int 0])), (e_routines, .inr (3, [.ref r_words, .int 0, .int 0, .ref r_floors, .ref r_behinds, .ref r_results, .ref r_localCounts, .ref r_locals])), (r_floors, .inl (cI, 11, .inl (fun _ => 0))), (r_localCounts, .inl (cI, 11, .inl (fun _ => 0))), (e_line, .inr (2, [.ref l_typed, .int 0, .ref l_entered, .int 0, .int 0]))] H5.size) (tx_runV (C := "StoryMachine$Engine") (As := [.int 0]) (rest := []) ⟨hx, hb, hml, hown, hts⟩ (c_En_startAt l hfl dC dI cI q5 e_memory e_line e_routines e_printer e_variables e_tree e_dictionary e_instruction e_aside e_newLocals p_memory p_kept s_memory s_routines r_words r_floors r_behinds r_results r_localCounts r_locals l_typed l_entered H5.size) (tx_cb (n := 1) hts rfl rfl ⟨Nat.le_of_ble_eq_true rfl, Nat.le_of_ble_eq_true rfl⟩ (tx_code.of (hts _ mw_461)) (hts _ mw_6) (by decide +kernel) (hts _ mw_458)) (hts _ mw_459) (hts _ mw_460) ⟨tq_blind, ta_recv (q0 := 1) hts in_En hK hP rfl rfl, fun U hU hW => ⟨rfl, by rw [hU], by rw [hU]; exact hPc, va_K.moved hW.alike hK, hDc.weaken (fun _ _ _ _ => trivial), hst _ _ hS U hU hW⟩⟩ rfl rfl hl.1 rfl (lv_room (Nat.le_of_ble_eq_true rfl)) d_SM_begin_29 ⟨Nat.le_of_ble_eq_true rfl, Nat.le_of_ble_eq_true rfl⟩) hS (fun q _ h => hFc q h) hFc (fun v t H29 locs ht hWt hpost hz1 hk1 hS => ?_) (fun x t H1 locs ht hWt hpost hz1 hk1 hS => by cases hpost)
  cases hpost
  have hP1 := ta_nilP (D := (dC, dI)) (cl := vcl) (H := t.heap)
  have hD1 := ta_nilD (A := va_A [(q5, .inr (5, [.ref e_memory, .ref e_line, .ref e_routines, .ref e_printer, .ref e_variables, .ref e_tree, .ref e_dictionary, .ref e_instruction, .ref e_aside, .ref e_newLocals, .int 0, .int (-1), .int 0, .int 0, .int 0])), (e_printer, .inr (4, [.ref p_memory, .ref p_kept, .int 0, .int 0, .int 0])), (e_aside, .inr (10, [.int 0, .ref s_memory, .ref s_routines, .int 0])), (e_routines, .inr (3, [.ref r_words, .int 0, .int 0, .ref r_floors, .ref r_behinds, .ref r_results, .ref r_localCounts, .ref r_locals])), (r_floors, .inl (cI, 11, .inl (fun _ => 0))), (r_localCounts, .inl (cI, 11, .inl (fun _ => 0))), (e_line, .inr (2, [.ref l_typed, .int 0, .ref l_entered, .int 0, .int 0]))] H5.size)
  rw [ht] at hP1
  obtain ⟨hP, hD⟩ := va_join (wr := [(h0, .inr (0, [.ref q1, .ref q2, .ref q3, .ref q4, .ref q5]))]) (w1 := []) hP hD [1, 2, 3, 4, 5, 6, 7] [0] rfl rfl (by decide) (by decide) hk1 hFc hP1 hD1
  have hP : va_P (dC, dI) vcl [(h0, .inr (0, [.ref q1, .ref q2, .ref q3, .ref q4, .ref q5]))] H29 := hP
  have hD : va_D A [(h0, .inr (0, [.ref q1, .ref q2, .ref q3, .ref q4, .ref q5]))] := hD
  refine W.widen (k := 0) (n := 0) (Nat.le_of_ble_eq_true rfl) (Nat.le_of_ble_eq_true rfl) ?_
  exact tx_ret (W.vret hx hb hr (fun t ht hW => ⟨rfl, hS.F ht⟩) (hS.2.2) d_SM_begin_32)
