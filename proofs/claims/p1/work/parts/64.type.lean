/-! Contracts; written by wip/tools/p1.py. -/
set_option maxHeartbeats 4000000 in
set_option maxRecDepth 100000 in
theorem c_SM_packedV (l : Launch) (hfl : l.flags = pinnedFlags ++ [noTraceFlag]) (dC : Nat → ClassId) (dI : Nat → Nat → Nat) (cI : ClassId) (b : Int64) (n i : Int32) (sz : Nat) : tx_Met l ⟨"StoryMachine", "packed", "(JII)I"⟩ tw_tbl ({ frames := 0, cells := 0, slots := 0, locals := 0 }) (tq_P (dC, dI) vcl [.long b, .int n, .int i] sz [] [(cI, .int)]) (tq_Q (fun o t => o = .returned (some (.int (tp b n i)))) (va_A [] sz)) 0 0 (va_A [] sz) := by
  refine tx_ofW (cc := prog_1_method_14_code) (maxL := 4) (ret := (some .int)) (by decide) (tx_isM mw_421) ?_
  intro p e s m args below meth c s₁ B hml hv
  obtain ⟨rfl, hsz, hP, hK, hD0, hst0⟩ := hv
  have hx := B.exec
  have hb := B.bytes
  have hr := B.returns
  have hts := atoms_spec (ws := tw_tbl) B.pre
  have hown : s.vm.findClass "StoryMachine" = some m.cls := findClass_of_methodNamed B.named
  have hlocks := B.notSynchronized
  subst hsz
  have hD := hD0.self (sz := s.heap.size)
  have hst := fun (H : Heap) (locs : List Loc) (hS : va_S (va_A [] s.heap.size) s.heap H locs) (U : State) (hU : U.heap = H) (hW : s.WarmedH U.vm) => ts_keep hW (fun q cell h1 h2 => by rw [hU]; exact ts_va hP hS q cell h1 h2) hst0
  generalize hAe : va_A [] s.heap.size = A at hD hst ⊢
  have hA : ∀ q : Nat, s.heap.size ≤ q → A q := fun q h => by rw [← hAe]; exact Or.inr h
  have hS : va_S A s.heap s.heap [] := va_S.rf
  have hP : va_P (dC, dI) vcl [] s.heap := hP
  have hl := lv_entry ([.long b, .int n, .int i]) (n := 4) (Nat.le_of_ble_eq_true rfl)
  rw [lg_entry_eq]
  generalize (lg_sl ([.long b, .int n, .int i]) ++ List.replicate (4 - (lg_sl ([.long b, .int n, .int i])).length) Slot.unset).toArray = ls at hl ⊢
  have hl : lv_has ls 4 [(0, .long b), (2, .int n), (3, .int i)] := hl
  refine lv_lload_n hx hb d_SM_packed_0 rfl (lv_at hl 0 rfl) ?_
  refine lv_bipush (v := 8) hx hb d_SM_packed_1 (by decide) ?_
  refine lv_iload_n hx hb d_SM_packed_3 rfl (lv_at hl 1 rfl) ?_
  refine lv_iconst (v := 1) hx hb d_SM_packed_4 (by decide) ?_
  refine lv_isub hx hb d_SM_packed_5 ?_
  refine lv_iload_n hx hb d_SM_packed_6 rfl (lv_at hl 2 rfl) ?_
  refine lv_isub hx hb d_SM_packed_7 ?_
  refine lv_imul hx hb d_SM_packed_8 ?_
  refine lv_lshr hx hb d_SM_packed_9 rfl ?_
  refine lv_topl (fun v9 hv9 => ?_)
  refine lv_l2i hx hb d_SM_packed_10 rfl ?_
  refine lv_topi (fun v10 hv10 => ?_)
  refine lv_sipush (v := 255) hx hb d_SM_packed_11 (by decide) ?_
  refine lv_iand hx hb d_SM_packed_14 ?_
  refine W.widen (k := 0) (n := 0) (Nat.le_of_ble_eq_true rfl) (Nat.le_of_ble_eq_true rfl) ?_
  exact tx_ret (W.iret (v := v10 &&& 255) hx hb hr (fun t ht hW => ⟨by rw [hv10, hv9]; rfl, hS.F ht⟩) (hS.2.2) d_SM_packed_15)
set_option maxHeartbeats 4000000 in
set_option maxRecDepth 100000 in
theorem c_Li_add (l : Launch) (hfl : l.flags = pinnedFlags ++ [noTraceFlag]) (dC : Nat → ClassId) (dI : Nat → Nat → Nat) (cI : ClassId) (h0 l_typed l_entered j : Nat) (hj : j < 24) (f : Nat → Int32) (x : Int32) (sz : Nat) : tx_Met l ⟨"StoryMachine$Line", "add", "(I)V"⟩ tw_tbl ({ frames := 0, cells := 0, slots := 0, locals := 0 }) (tq_P (dC, dI) vcl [.ref h0, .int x] sz [(h0, .inr (2, [.ref l_typed, .int (nI j), .ref l_entered, .int 0, .int 0])), (l_typed, .inl (cI, 24, .inl f))] [(cI, .int)]) (tq_Q (fun o t => o = .returned none ∧ ∃ f9 : Nat → Int32, va_P (dC, dI) vcl [(h0, .inr (2, [.ref l_typed, .int (nI (j + 1)), .ref l_entered, .int 0, .int 0])), (l_typed, .inl (cI, 24, .inl f9))] t.heap ∧ va_D (va_A [(h0, .inr (2, [.ref l_typed, .int (nI j), .ref l_entered, .int 0, .int 0])), (l_typed, .inl (cI, 24, .inl f))] sz) [(h0, .inr (2, [.ref l_typed, .int (nI (j + 1)), .ref l_entered, .int 0, .int 0])), (l_typed, .inl (cI, 24, .inl f9))]) (va_A [(h0, .inr (2, [.ref l_typed, .int (nI j), .ref l_entered, .int 0, .int 0])), (l_typed, .inl (cI, 24, .inl f))] sz)) 0 0 (va_A [(h0, .inr (2, [.ref l_typed, .int (nI j), .ref l_entered, .int 0, .int 0])), (l_typed, .inl (cI, 24, .inl f))] sz) := by
  refine tx_ofW (cc := prog_6_method_3_code) (maxL := 2) (ret := none) (by decide) (tx_isM mw_480) ?_
  intro p e s m args below meth c s₁ B hml hv
  obtain ⟨rfl, hsz, hP, hK, hD0, hst0⟩ := hv
  have hx := B.exec
  have hb := B.bytes
  have hr := B.returns
  have hts := atoms_spec (ws := tw_tbl) B.pre
  have hown : s.vm.findClass "StoryMachine$Line" = some m.cls := findClass_of_methodNamed B.named
  have hlocks := B.notSynchronized
  subst hsz
  have hD := hD0.self (sz := s.heap.size)
  have hst := fun (H : Heap) (locs : List Loc) (hS : va_S (va_A [(h0, .inr (2, [.ref l_typed, .int (nI j), .ref l_entered, .int 0, .int 0])), (l_typed, .inl (cI, 24, .inl f))] s.heap.size) s.heap H locs) (U : State) (hU : U.heap = H) (hW : s.WarmedH U.vm) => ts_keep hW (fun q cell h1 h2 => by rw [hU]; exact ts_va hP hS q cell h1 h2) hst0
  generalize hAe : va_A [(h0, .inr (2, [.ref l_typed, .int (nI j), .ref l_entered, .int 0, .int 0])), (l_typed, .inl (cI, 24, .inl f))] s.heap.size = A at hD hst ⊢
  have hA : ∀ q : Nat, s.heap.size ≤ q → A q := fun q h => by rw [← hAe]; exact Or.inr h
  have hS : va_S A s.heap s.heap [] := va_S.rf
  have hP : va_P (dC, dI) vcl [(h0, .inr (2, [.ref l_typed, .int (nI j), .ref l_entered, .int 0, .int 0])), (l_typed, .inl (cI, 24, .inl f))] s.heap := hP
  have hl := lv_entry ([.ref h0, .int x]) (n := 2) (Nat.le_of_ble_eq_true rfl)
  rw [lg_entry_eq]
  generalize (lg_sl ([.ref h0, .int x]) ++ List.replicate (2 - (lg_sl ([.ref h0, .int x])).length) Slot.unset).toArray = ls at hl ⊢
  have hl : lv_has ls 2 [(0, .ref h0), (1, .int x)] := hl
  refine lv_aload_n hx hb d_Li_add_0 rfl (lv_at hl 0 rfl) ?_
  refine va_get (D := (dC, dI)) (ci := 2) (v := .int (nI j)) (C := "StoryMachine$Line") (T := T_Li) (N := 5) hx hb hts in_Li hown hK hP 0 rfl rfl 1 (by decide) (hts _ mw_55) (fun _ h9 => h9) rfl d_Li_add_1 ?_
  refine lv_bipush (v := 24) hx hb d_Li_add_4 (by decide) ?_
  refine lv_icmp_ge (tgt := 29) hx hb d_Li_add_6 (by decide) (fun h => absurd h (nI_ge (b := 24) hj (by decide))) (fun hc6 => ?_)
  refine lv_aload_n hx hb d_Li_add_9 rfl (lv_at hl 0 rfl) ?_
  refine va_get (D := (dC, dI)) (ci := 2) (v := .ref l_typed) (C := "StoryMachine$Line") (T := T_Li) (N := 5) hx hb hts in_Li hown hK hP 0 rfl rfl 0 (by decide) (hts _ mw_54) (fun _ h9 => h9) rfl d_Li_add_10 ?_
  refine lv_aload_n hx hb d_Li_add_13 rfl (lv_at hl 0 rfl) ?_
  refine va_get (D := (dC, dI)) (ci := 2) (v := .int (nI j)) (C := "StoryMachine$Line") (T := T_Li) (N := 5) hx hb hts in_Li hown hK hP 0 rfl rfl 1 (by decide) (hts _ mw_55) (fun _ h9 => h9) rfl d_Li_add_14 ?_
  refine lv_iload_n hx hb d_Li_add_17 rfl (lv_at hl 1 rfl) ?_
  refine va_iast hx hb hK hP hD hS 1 0 rfl rfl (vp_in_nI hj (by decide)) d_Li_add_18 (fun H locs hP hD hS => ?_)
  obtain ⟨f1, hf1⟩ : ∃ z : Nat → Int32, z = upd (f) (Int32.toNatClampNeg (nI j)) (x) := ⟨_, rfl⟩
  rw [← hf1] at hP hD
  have hP : va_P (dC, dI) vcl [(h0, .inr (2, [.ref l_typed, .int (nI j), .ref l_entered, .int 0, .int 0])), (l_typed, .inl (cI, 24, .inl f1))] H := hP
  have hD : va_D A [(h0, .inr (2, [.ref l_typed, .int (nI j), .ref l_entered, .int 0, .int 0])), (l_typed, .inl (cI, 24, .inl f1))] := hD
  refine lv_aload_n hx hb d_Li_add_19 rfl (lv_at hl 0 rfl) ?_
  refine lv_dup hx hb d_Li_add_20 rfl ?_
  refine va_get (D := (dC, dI)) (ci := 2) (v := .int (nI j)) (C := "StoryMachine$Line") (T := T_Li) (N := 5) hx hb hts in_Li hown hK hP 0 rfl rfl 1 (by decide) (hts _ mw_55) (fun _ h9 => h9) rfl d_Li_add_21 ?_
  refine lv_iconst (v := 1) hx hb d_Li_add_24 (by decide) ?_
  refine lv_iadd hx hb d_Li_add_25 ?_
  rw [nI_1]
  refine va_put (D := (dC, dI)) (ci := 2) (v := .int (nI (j + 1))) (ty := .int) (C := "StoryMachine$Line") (T := T_Li) (N := 5) hx hb hts in_Li t_Li tk_Li nm_Li hown hK hP hD hS 0 rfl rfl 1 (by decide) (hts _ mw_55) (fun _ h9 => h9) rfl (by decide +kernel) rfl rfl (Nat.le_of_ble_eq_true rfl) d_Li_add_26 (fun H locs hP hD hS => ?_)
  have hP : va_P (dC, dI) vcl [(h0, .inr (2, [.ref l_typed, .int (nI (j + 1)), .ref l_entered, .int 0, .int 0])), (l_typed, .inl (cI, 24, .inl f1))] H := hP
  have hD : va_D A [(h0, .inr (2, [.ref l_typed, .int (nI (j + 1)), .ref l_entered, .int 0, .int 0])), (l_typed, .inl (cI, 24, .inl f1))] := hD
  refine W.widen (k := 0) (n := 0) (Nat.le_of_ble_eq_true rfl) (Nat.le_of_ble_eq_true rfl) ?_
  exact tx_ret (W.vret hx hb hr (fun t ht hW => ⟨⟨rfl, f1, by rw [ht]; exact hP, hD⟩, hS.F ht⟩) (hS.2.2) d_Li_add_29)
set_option maxHeartbeats 4000000 in
set_option maxRecDepth 100000 in
theorem c_SM_type (l : Launch) (hfl : l.flags = pinnedFlags ++ [noTraceFlag]) (dC : Nat → ClassId) (dI : Nat → Nat → Nat) (cI : ClassId) (h0 q1 q2 q3 q4 q5 l_typed l_entered : Nat) (f : Nat → Int32) (b : Int64) (n : Int32) (sz : Nat) : tx_Met l ⟨"StoryMachine", "type", "(JI)V"⟩ tw_tbl ({ frames := 7, cells := 1, slots := 6, locals := 130 }) (tq_P (dC, dI) vcl [.ref h0, .long b, .int n] sz [(h0, .inr (0, [.ref q1, .ref q2, .ref q3, .ref q4, .ref q5])), (q2, .inr (2, [.ref l_typed, .int 0, .ref l_entered, .int 0, .int 0])), (l_typed, .inl (cI, 24, .inl f))] [(cI, .int)]) (tq_Q (fun o t => ((n < 1 ∨ 8 < n ∨ tyC b n) → ∃ x, o = .threw x ∧ ta_Ex "java/lang/IllegalArgumentException" x t) ∧ (¬ (n < 1 ∨ 8 < n ∨ tyC b n) → o = .returned none)) (va_A [(h0, .inr (0, [.ref q1, .ref q2, .ref q3, .ref q4, .ref q5])), (q2, .inr (2, [.ref l_typed, .int 0, .ref l_entered, .int 0, .int 0])), (l_typed, .inl (cI, 24, .inl f))] sz)) 1 6 (va_A [(h0, .inr (0, [.ref q1, .ref q2, .ref q3, .ref q4, .ref q5])), (q2, .inr (2, [.ref l_typed, .int 0, .ref l_entered, .int 0, .int 0])), (l_typed, .inl (cI, 24, .inl f))] sz) := by
  refine tx_ofW (cc := prog_1_method_5_code) (maxL := 6) (ret := none) (by decide) (tx_isM mw_476) ?_
  intro p e s m args below meth c s₁ B hml hv
  obtain ⟨rfl, hsz, hP, hK, hD0, hst0⟩ := hv
  have hx := B.exec
  have hb := B.bytes
  have hr := B.returns
  have hts := atoms_spec (ws := tw_tbl) B.pre
  have hown : s.vm.findClass "StoryMachine" = some m.cls := findClass_of_methodNamed B.named
  have hlocks := B.notSynchronized
  subst hsz
  have hD := hD0.self (sz := s.heap.size)
  have hst := fun (H : Heap) (locs : List Loc) (hS : va_S (va_A [(h0, .inr (0, [.ref q1, .ref q2, .ref q3, .ref q4, .ref q5])), (q2, .inr (2, [.ref l_typed, .int 0, .ref l_entered, .int 0, .int 0])), (l_typed, .inl (cI, 24, .inl f))] s.heap.size) s.heap H locs) (U : State) (hU : U.heap = H) (hW : s.WarmedH U.vm) => ts_keep hW (fun q cell h1 h2 => by rw [hU]; exact ts_va hP hS q cell h1 h2) hst0
  generalize hAe : va_A [(h0, .inr (0, [.ref q1, .ref q2, .ref q3, .ref q4, .ref q5])), (q2, .inr (2, [.ref l_typed, .int 0, .ref l_entered, .int 0, .int 0])), (l_typed, .inl (cI, 24, .inl f))] s.heap.size = A at hD hst ⊢
  have hA : ∀ q : Nat, s.heap.size ≤ q → A q := fun q h => by rw [← hAe]; exact Or.inr h
  have hS : va_S A s.heap s.heap [] := va_S.rf
  have hP : va_P (dC, dI) vcl [(h0, .inr (0, [.ref q1, .ref q2, .ref q3, .ref q4, .ref q5])), (q2, .inr (2, [.ref l_typed, .int 0, .ref l_entered, .int 0, .int 0])), (l_typed, .inl (cI, 24, .inl f))] s.heap := hP
  have hl := lv_entry ([.ref h0, .long b, .int n]) (n := 6) (Nat.le_of_ble_eq_true rfl)
  rw [lg_entry_eq]
  generalize (lg_sl ([.ref h0, .long b, .int n]) ++ List.replicate (6 - (lg_sl ([.ref h0, .long b, .int n])).length) Slot.unset).toArray = ls at hl ⊢
  have hl : lv_has ls 6 [(0, .ref h0), (1, .long b), (3, .int n)] := hl
  refine lv_iload_n hx hb d_SM_type_0 rfl (lv_at hl 2 rfl) ?_
  refine lv_iconst (v := 1) hx hb d_SM_type_1 (by decide) ?_
  refine lv_icmp_lt (tgt := 11) hx hb d_SM_type_2 (by decide) (fun hc2 => ?_) (fun hc2 => ?_)
  · refine W.widen (k := 0) (n := 0) (Nat.le_of_ble_eq_true rfl) (Nat.le_of_ble_eq_true rfl) ?_
    exact tth_SM_IllegalArgumentException hx hb hfl hown hts (hst _ _ hS) (by rw [hml]; exact hl.1) d_SM_type_11 d_SM_type_14 d_SM_type_15 d_SM_type_18 (tx_noH B (hts _ mw_476) _) (Nat.le_of_ble_eq_true rfl) (Nat.le_of_ble_eq_true rfl) (Nat.le_of_ble_eq_true rfl) (Nat.le_of_ble_eq_true rfl) (fun t ce hW hz hk hce hcl hvm => ⟨⟨fun _ => ⟨_, rfl, ce, hce, hcl, hvm⟩, fun h => absurd (Or.inl hc2) h⟩, ta_thrown hS hz hk⟩) hS.2.2 hlocks
  · refine lv_iload_n hx hb d_SM_type_5 rfl (lv_at hl 2 rfl) ?_
    refine lv_bipush (v := 8) hx hb d_SM_type_6 (by decide) ?_
    refine lv_icmp_le (tgt := 19) hx hb d_SM_type_8 (by decide) (fun hc8 => ?_) (fun hc8 => ?_)
    · refine lv_iconst (v := 0) hx hb d_SM_type_19 (by decide) ?_
      refine lv_istore (lv' := [(4, .int 0), (0, .ref h0), (1, .long b), (3, .int n)]) hx hb d_SM_type_20 hl (by decide) rfl (fun ls hl => ?_)
      obtain ⟨N, hN, hN1, hNe⟩ : ∃ N : Nat, N ≤ 8 ∧ 1 ≤ N ∧ n = nI N := ti_few hc2 (Int32.not_lt.mpr hc8)
      have loop : ∀ (k : Nat) (H : Heap) (locs : List Loc) (ls : Array Slot), k ≤ N → va_P (dC, dI) vcl [(h0, .inr (0, [.ref q1, .ref q2, .ref q3, .ref q4, .ref q5])), (q2, .inr (2, [.ref l_typed, .int 0, .ref l_entered, .int 0, .int 0])), (l_typed, .inl (cI, 24, .inl f))] H → va_D A [(h0, .inr (0, [.ref q1, .ref q2, .ref q3, .ref q4, .ref q5])), (q2, .inr (2, [.ref l_typed, .int 0, .ref l_entered, .int 0, .int 0])), (l_typed, .inl (cI, 24, .inl f))] → va_S A s.heap H locs → lv_has ls 6 [(4, .int (nI (N - k))), (0, .ref h0), (1, .long b), (3, .int n)] → (∀ j : Nat, j < N - k → ¬ tp b n (nI j) < 32 ∧ tp b n (nI j) ≤ 126) → W p l e (headSpec tw_tbl ({ frames := 7, cells := 1, slots := 6, locals := 130 })).room s m ([.ref h0, .long b, .int n] : List Value).toArray below meth c H locs 0 0 (tx_MQ below (tq_Q (fun o t => ((n < 1 ∨ 8 < n ∨ tyC b n) → ∃ x, o = .threw x ∧ ta_Ex "java/lang/IllegalArgumentException" x t) ∧ (¬ (n < 1 ∨ 8 < n ∨ tyC b n) → o = .returned none)) A) ([.ref h0, .long b, .int n] : List Value).toArray s 1 6 A) (F0 m 22 ls []) := by
        intro k
        induction k with
        | zero =>
          intro H locs ls hk hP hD hS hl hinv
          refine lv_iload hx hb d_SM_type_22 (lv_at hl 0 rfl) ?_
          refine lv_iload_n hx hb d_SM_type_24 rfl (lv_at hl 3 rfl) ?_
          refine lv_icmp_ge (tgt := 65) hx hb d_SM_type_25 (by decide) (fun hc25 => ?_) (fun h => absurd (by rw [hNe]; exact nI_le (Nat.le_refl N) (by omega)) h)
          refine lv_aload_n hx hb d_SM_type_65 rfl (lv_at hl 1 rfl) ?_
          refine va_get (D := (dC, dI)) (ci := 0) (v := .ref q2) (C := "StoryMachine") (T := T_SM) (N := 5) hx hb hts in_SM hown hK hP 0 rfl rfl 1 (by decide) (hts _ mw_311) (fun _ h9 => h9) rfl d_SM_type_66 ?_
          refine va_get (D := (dC, dI)) (ci := 2) (v := .int 0) (C := "StoryMachine$Line") (T := T_Li) (N := 5) hx hb hts in_Li hown hK hP 1 rfl rfl 1 (by decide) (hts _ mw_56) (fun _ h9 => h9) rfl d_SM_type_69 ?_
          refine lv_iload_n hx hb d_SM_type_72 rfl (lv_at hl 3 rfl) ?_
          refine lv_iadd hx hb d_SM_type_73 ?_
          refine lv_bipush (v := 24) hx hb d_SM_type_74 (by decide) ?_
          refine lv_icmp_le (tgt := 87) hx hb d_SM_type_76 (by decide) (fun hc76 => ?_) (fun h => absurd (by rw [hNe]; exact ti_24 hN) h)
          refine lv_iconst (v := 0) hx hb d_SM_type_87 (by decide) ?_
          refine lv_istore (lv' := [(4, .int 0), (0, .ref h0), (1, .long b), (3, .int n)]) hx hb d_SM_type_88 hl (by decide) rfl (fun ls hl => ?_)
          have hgood : ¬ (n < 1 ∨ 8 < n ∨ tyC b n) := fun h => h.elim hc2 (fun h => h.elim (Int32.not_lt.mpr hc8) (fun h => by rw [hNe] at h hinv; exact tyC_none hN (fun j hj => hinv j (by omega)) h))
          have loop : ∀ (k : Nat) (H : Heap) (locs : List Loc) (ls : Array Slot) (g : Nat → Int32), k ≤ N → va_P (dC, dI) vcl [(h0, .inr (0, [.ref q1, .ref q2, .ref q3, .ref q4, .ref q5])), (q2, .inr (2, [.ref l_typed, .int (nI (N - k)), .ref l_entered, .int 0, .int 0])), (l_typed, .inl (cI, 24, .inl g))] H → va_D A [(h0, .inr (0, [.ref q1, .ref q2, .ref q3, .ref q4, .ref q5])), (q2, .inr (2, [.ref l_typed, .int (nI (N - k)), .ref l_entered, .int 0, .int 0])), (l_typed, .inl (cI, 24, .inl g))] → va_S A s.heap H locs → lv_has ls 6 [(4, .int (nI (N - k))), (0, .ref h0), (1, .long b), (3, .int n)] → W p l e (headSpec tw_tbl ({ frames := 7, cells := 1, slots := 6, locals := 130 })).room s m ([.ref h0, .long b, .int n] : List Value).toArray below meth c H locs 0 0 (tx_MQ below (tq_Q (fun o t => ((n < 1 ∨ 8 < n ∨ tyC b n) → ∃ x, o = .threw x ∧ ta_Ex "java/lang/IllegalArgumentException" x t) ∧ (¬ (n < 1 ∨ 8 < n ∨ tyC b n) → o = .returned none)) A) ([.ref h0, .long b, .int n] : List Value).toArray s 1 6 A) (F0 m 90 ls []) := by
            intro k
            induction k with
            | zero =>
              intro H locs ls g hk hP hD hS hl
              refine lv_iload hx hb d_SM_type_90 (lv_at hl 0 rfl) ?_
              refine lv_iload_n hx hb d_SM_type_92 rfl (lv_at hl 3 rfl) ?_
              refine lv_icmp_ge (tgt := 116) hx hb d_SM_type_93 (by decide) (fun hc93 => ?_) (fun h => absurd (by rw [hNe]; exact nI_le (Nat.le_refl N) (by omega)) h)
              refine W.widen (k := 1) (n := 6) (Nat.le_of_ble_eq_true rfl) (Nat.le_of_ble_eq_true rfl) ?_
              exact tx_ret (W.vret hx hb hr (fun t ht hW => ⟨⟨fun h => absurd h hgood, fun _ => rfl⟩, hS.F ht⟩) (hS.2.2) d_SM_type_116)
            | succ k ih =>
              intro H locs ls g hk hP hD hS hl
              refine lv_iload hx hb d_SM_type_90 (lv_at hl 0 rfl) ?_
              refine lv_iload_n hx hb d_SM_type_92 rfl (lv_at hl 3 rfl) ?_
              refine lv_icmp_ge (tgt := 116) hx hb d_SM_type_93 (by decide) (fun h => absurd h (by rw [hNe]; exact nI_ge (by omega) (by omega))) (fun hc93 => ?_)
              refine lv_aload_n hx hb d_SM_type_96 rfl (lv_at hl 1 rfl) ?_
              refine va_get (D := (dC, dI)) (ci := 0) (v := .ref q2) (C := "StoryMachine") (T := T_SM) (N := 5) hx hb hts in_SM hown hK hP 0 rfl rfl 1 (by decide) (hts _ mw_311) (fun _ h9 => h9) rfl d_SM_type_97 ?_
              refine lv_lload_n hx hb d_SM_type_100 rfl (lv_at hl 2 rfl) ?_
              refine lv_iload_n hx hb d_SM_type_101 rfl (lv_at hl 3 rfl) ?_
              refine lv_iload hx hb d_SM_type_102 (lv_at hl 0 rfl) ?_
              have hPc := hP.sub (ws' := []) [] rfl
              have hDc := hD.sub (ws' := []) [] (by decide) rfl
              have hFc := va_free (wc := []) hD hS hA [] rfl
              refine tx_callK (A1 := va_A [] H.size) (tx_runS (As := [.long b, .int n, .int (nI (N - (k + 1)))]) (rest := [.ref q2]) ⟨hx, hb, hml, hown, hts⟩ (c_SM_packedV l hfl dC dI cI b n (nI (N - (k + 1))) H.size) (tx_cb (n := 3) hts rfl rfl ⟨Nat.le_of_ble_eq_true rfl, Nat.le_of_ble_eq_true rfl⟩ (tx_code.of (hts _ mw_421)) (hts _ mw_1) (by decide +kernel) (hts _ mw_419)) (hts _ mw_420) ⟨tq_blind, fun U hU hW => ⟨rfl, by rw [hU], by rw [hU]; exact hPc, va_K.moved hW.alike hK, hDc.weaken (fun _ _ _ _ => trivial), hst _ _ hS U hU hW⟩⟩ rfl rfl hl.1 rfl (lv_room (Nat.le_of_ble_eq_true rfl)) d_SM_type_104 ⟨Nat.le_of_ble_eq_true rfl, Nat.le_of_ble_eq_true rfl⟩) hS (fun q _ h => hFc q h) hFc (fun v t H104 locs ht hWt hpost hz1 hk1 hS => ?_) (fun x t H1 locs ht hWt hpost hz1 hk1 hS => by cases hpost)
              cases hpost
              have hP1 := ta_nilP (D := (dC, dI)) (cl := vcl) (H := t.heap)
              have hD1 := ta_nilD (A := va_A [] H.size)
              rw [ht] at hP1
              obtain ⟨hP, hD⟩ := va_join (wr := [(h0, .inr (0, [.ref q1, .ref q2, .ref q3, .ref q4, .ref q5])), (q2, .inr (2, [.ref l_typed, .int (nI (N - (k + 1))), .ref l_entered, .int 0, .int 0])), (l_typed, .inl (cI, 24, .inl g))]) (w1 := []) hP hD [] [0, 1, 2] rfl rfl (by decide) (by decide) hk1 hFc hP1 hD1
              have hP : va_P (dC, dI) vcl [(h0, .inr (0, [.ref q1, .ref q2, .ref q3, .ref q4, .ref q5])), (q2, .inr (2, [.ref l_typed, .int (nI (N - (k + 1))), .ref l_entered, .int 0, .int 0])), (l_typed, .inl (cI, 24, .inl g))] H104 := hP
              have hD : va_D A [(h0, .inr (0, [.ref q1, .ref q2, .ref q3, .ref q4, .ref q5])), (q2, .inr (2, [.ref l_typed, .int (nI (N - (k + 1))), .ref l_entered, .int 0, .int 0])), (l_typed, .inl (cI, 24, .inl g))] := hD
              have hPc := hP.sub (ws' := [(q2, .inr (2, [.ref l_typed, .int (nI (N - (k + 1))), .ref l_entered, .int 0, .int 0])), (l_typed, .inl (cI, 24, .inl g))]) [1, 2] rfl
              have hDc := hD.sub (ws' := [(q2, .inr (2, [.ref l_typed, .int (nI (N - (k + 1))), .ref l_entered, .int 0, .int 0])), (l_typed, .inl (cI, 24, .inl g))]) [1, 2] (by decide) rfl
              have hFc := va_free (wc := [(q2, .inr (2, [.ref l_typed, .int (nI (N - (k + 1))), .ref l_entered, .int 0, .int 0])), (l_typed, .inl (cI, 24, .inl g))]) hD hS hA [1, 2] rfl
              refine tx_callK (A1 := va_A [(q2, .inr (2, [.ref l_typed, .int (nI (N - (k + 1))), .ref l_entered, .int 0, .int 0])), (l_typed, .inl (cI, 24, .inl g))] H104.size) (tx_runV (C := "StoryMachine$Line") (As := [.int (tp b n (nI (N - (k + 1))))]) (rest := []) ⟨hx, hb, hml, hown, hts⟩ (c_Li_add l hfl dC dI cI q2 l_typed l_entered ((N - (k + 1))) (by omega) g (tp b n (nI (N - (k + 1)))) H104.size) (tx_cb (n := 1) hts rfl rfl ⟨Nat.le_of_ble_eq_true rfl, Nat.le_of_ble_eq_true rfl⟩ (tx_code.of (hts _ mw_480)) (hts _ mw_3) (by decide +kernel) (hts _ mw_477)) (hts _ mw_478) (hts _ mw_479) ⟨tq_blind, ta_recv (q0 := 1) hts in_Li hK hP rfl rfl, fun U hU hW => ⟨rfl, by rw [hU], by rw [hU]; exact hPc, va_K.moved hW.alike hK, hDc.weaken (fun _ _ _ _ => trivial), hst _ _ hS U hU hW⟩⟩ rfl rfl hl.1 rfl (lv_room (Nat.le_of_ble_eq_true rfl)) d_SM_type_107 ⟨Nat.le_of_ble_eq_true rfl, Nat.le_of_ble_eq_true rfl⟩) hS (fun q _ h => hFc q h) hFc (fun v t H107 locs ht hWt hpost hz1 hk1 hS => ?_) (fun x t H1 locs ht hWt hpost hz1 hk1 hS => by cases hpost.1)
              obtain ⟨ho, g9, hP1, hD1⟩ := hpost
              cases ho
              rw [ht] at hP1
              obtain ⟨hP, hD⟩ := va_join (wr := [(h0, .inr (0, [.ref q1, .ref q2, .ref q3, .ref q4, .ref q5]))]) (w1 := [(q2, .inr (2, [.ref l_typed, .int (nI ((N - (k + 1)) + 1)), .ref l_entered, .int 0, .int 0])), (l_typed, .inl (cI, 24, .inl g9))]) hP hD [1, 2] [0] rfl rfl (by decide) (by decide) hk1 hFc hP1 hD1
              have hP : va_P (dC, dI) vcl [(h0, .inr (0, [.ref q1, .ref q2, .ref q3, .ref q4, .ref q5])), (q2, .inr (2, [.ref l_typed, .int (nI ((N - (k + 1)) + 1)), .ref l_entered, .int 0, .int 0])), (l_typed, .inl (cI, 24, .inl g9))] H107 := hP
              have hD : va_D A [(h0, .inr (0, [.ref q1, .ref q2, .ref q3, .ref q4, .ref q5])), (q2, .inr (2, [.ref l_typed, .int (nI ((N - (k + 1)) + 1)), .ref l_entered, .int 0, .int 0])), (l_typed, .inl (cI, 24, .inl g9))] := hD
              have e9 : N - (k + 1) + 1 = N - k := by omega
              rw [e9] at hP hD
              have hP : va_P (dC, dI) vcl [(h0, .inr (0, [.ref q1, .ref q2, .ref q3, .ref q4, .ref q5])), (q2, .inr (2, [.ref l_typed, .int (nI (N - k)), .ref l_entered, .int 0, .int 0])), (l_typed, .inl (cI, 24, .inl g9))] H107 := hP
              have hD : va_D A [(h0, .inr (0, [.ref q1, .ref q2, .ref q3, .ref q4, .ref q5])), (q2, .inr (2, [.ref l_typed, .int (nI (N - k)), .ref l_entered, .int 0, .int 0])), (l_typed, .inl (cI, 24, .inl g9))] := hD
              have hP := hP.sub (ws' := [(h0, .inr (0, [.ref q1, .ref q2, .ref q3, .ref q4, .ref q5])), (q2, .inr (2, [.ref l_typed, .int (nI (N - k)), .ref l_entered, .int 0, .int 0])), (l_typed, .inl (cI, 24, .inl g9))]) [0, 1, 2] rfl
              have hD := hD.sub (ws' := [(h0, .inr (0, [.ref q1, .ref q2, .ref q3, .ref q4, .ref q5])), (q2, .inr (2, [.ref l_typed, .int (nI (N - k)), .ref l_entered, .int 0, .int 0])), (l_typed, .inl (cI, 24, .inl g9))]) [0, 1, 2] (by decide) rfl
              refine lv_iinc (k := 0) (v := nI (N - k)) (lv' := [(4, .int (nI (N - k))), (0, .ref h0), (1, .long b), (3, .int n)]) hx hb d_SM_type_110 hl rfl (ti_inc (by omega)) (by decide) rfl (fun ls hl => ?_)
              refine lv_goto (tgt := 90) hx hb d_SM_type_113 (by decide) ?_
              exact ih _ _ _ _ (by omega) hP hD hS (lv_sub (l' := [(4, .int (nI (N - k))), (0, .ref h0), (1, .long b), (3, .int n)]) hl [0, 1, 2, 3] rfl)
          exact loop N H _ _ _ (Nat.le_refl _) (by rw [Nat.sub_self]; exact hP) (by rw [Nat.sub_self]; exact hD) hS (lv_sub (l' := [(4, .int (nI (N - N))), (0, .ref h0), (1, .long b), (3, .int n)]) hl [0, 1, 2, 3] (by rw [Nat.sub_self]; rfl))
        | succ k ih =>
          intro H locs ls hk hP hD hS hl hinv
          refine lv_iload hx hb d_SM_type_22 (lv_at hl 0 rfl) ?_
          refine lv_iload_n hx hb d_SM_type_24 rfl (lv_at hl 3 rfl) ?_
          refine lv_icmp_ge (tgt := 65) hx hb d_SM_type_25 (by decide) (fun h => absurd h (by rw [hNe]; exact nI_ge (by omega) (by omega))) (fun hc25 => ?_)
          refine lv_lload_n hx hb d_SM_type_28 rfl (lv_at hl 2 rfl) ?_
          refine lv_iload_n hx hb d_SM_type_29 rfl (lv_at hl 3 rfl) ?_
          refine lv_iload hx hb d_SM_type_30 (lv_at hl 0 rfl) ?_
          have hPc := hP.sub (ws' := []) [] rfl
          have hDc := hD.sub (ws' := []) [] (by decide) rfl
          have hFc := va_free (wc := []) hD hS hA [] rfl
          refine tx_callK (A1 := va_A [] H.size) (tx_runS (As := [.long b, .int n, .int (nI (N - (k + 1)))]) (rest := []) ⟨hx, hb, hml, hown, hts⟩ (c_SM_packedV l hfl dC dI cI b n (nI (N - (k + 1))) H.size) (tx_cb (n := 3) hts rfl rfl ⟨Nat.le_of_ble_eq_true rfl, Nat.le_of_ble_eq_true rfl⟩ (tx_code.of (hts _ mw_421)) (hts _ mw_1) (by decide +kernel) (hts _ mw_419)) (hts _ mw_420) ⟨tq_blind, fun U hU hW => ⟨rfl, by rw [hU], by rw [hU]; exact hPc, va_K.moved hW.alike hK, hDc.weaken (fun _ _ _ _ => trivial), hst _ _ hS U hU hW⟩⟩ rfl rfl hl.1 rfl (lv_room (Nat.le_of_ble_eq_true rfl)) d_SM_type_32 ⟨Nat.le_of_ble_eq_true rfl, Nat.le_of_ble_eq_true rfl⟩) hS (fun q _ h => hFc q h) hFc (fun v t H32 locs ht hWt hpost hz1 hk1 hS => ?_) (fun x t H1 locs ht hWt hpost hz1 hk1 hS => by cases hpost)
          cases hpost
          have hP1 := ta_nilP (D := (dC, dI)) (cl := vcl) (H := t.heap)
          have hD1 := ta_nilD (A := va_A [] H.size)
          rw [ht] at hP1
          obtain ⟨hP, hD⟩ := va_join (wr := [(h0, .inr (0, [.ref q1, .ref q2, .ref q3, .ref q4, .ref q5])), (q2, .inr (2, [.ref l_typed, .int 0, .ref l_entered, .int 0, .int 0])), (l_typed, .inl (cI, 24, .inl f))]) (w1 := []) hP hD [] [0, 1, 2] rfl rfl (by decide) (by decide) hk1 hFc hP1 hD1
          have hP : va_P (dC, dI) vcl [(h0, .inr (0, [.ref q1, .ref q2, .ref q3, .ref q4, .ref q5])), (q2, .inr (2, [.ref l_typed, .int 0, .ref l_entered, .int 0, .int 0])), (l_typed, .inl (cI, 24, .inl f))] H32 := hP
          have hD : va_D A [(h0, .inr (0, [.ref q1, .ref q2, .ref q3, .ref q4, .ref q5])), (q2, .inr (2, [.ref l_typed, .int 0, .ref l_entered, .int 0, .int 0])), (l_typed, .inl (cI, 24, .inl f))] := hD
          refine lv_istore (lv' := [(5, .int (tp b n (nI (N - (k + 1))))), (4, .int (nI (N - (k + 1)))), (0, .ref h0), (1, .long b), (3, .int n)]) hx hb d_SM_type_35 hl (by decide) rfl (fun ls hl => ?_)
          refine lv_iload hx hb d_SM_type_37 (lv_at hl 0 rfl) ?_
          refine lv_bipush (v := 32) hx hb d_SM_type_39 (by decide) ?_
          refine lv_icmp_lt (tgt := 51) hx hb d_SM_type_41 (by decide) (fun hc41 => ?_) (fun hc41 => ?_)
          · refine W.widen (k := 0) (n := 0) (Nat.le_of_ble_eq_true rfl) (Nat.le_of_ble_eq_true rfl) ?_
            exact tth_SM_IllegalArgumentException hx hb hfl hown hts (hst _ _ hS) (by rw [hml]; exact hl.1) d_SM_type_51 d_SM_type_54 d_SM_type_55 d_SM_type_58 (tx_noH B (hts _ mw_476) _) (Nat.le_of_ble_eq_true rfl) (Nat.le_of_ble_eq_true rfl) (Nat.le_of_ble_eq_true rfl) (Nat.le_of_ble_eq_true rfl) (fun t ce hW hz hk hce hcl hvm => ⟨⟨fun _ => ⟨_, rfl, ce, hce, hcl, hvm⟩, fun h => absurd (Or.inr (Or.inr (by rw [hNe]; exact tyC_here hN (j := N - (k + 1)) (by omega) (by rw [← hNe]; exact fun hg => hg.1 hc41)))) h⟩, ta_thrown hS hz hk⟩) hS.2.2 hlocks
          · refine lv_iload hx hb d_SM_type_44 (lv_at hl 0 rfl) ?_
            refine lv_bipush (v := 126) hx hb d_SM_type_46 (by decide) ?_
            refine lv_icmp_le (tgt := 59) hx hb d_SM_type_48 (by decide) (fun hc48 => ?_) (fun hc48 => ?_)
            · refine lv_iinc (k := 1) (v := nI (N - k)) (lv' := [(4, .int (nI (N - k))), (5, .int (tp b n (nI (N - (k + 1))))), (0, .ref h0), (1, .long b), (3, .int n)]) hx hb d_SM_type_59 hl rfl (ti_inc (by omega)) (by decide) rfl (fun ls hl => ?_)
              refine lv_goto (tgt := 22) hx hb d_SM_type_62 (by decide) ?_
              exact ih _ _ _ (by omega) hP hD hS (lv_sub (l' := [(4, .int (nI (N - k))), (0, .ref h0), (1, .long b), (3, .int n)]) hl [0, 2, 3, 4] rfl) (fun j hj => by rcases Nat.lt_or_ge j (N - (k + 1)) with h | h; (exact hinv j h); (have e9 : j = N - (k + 1) := by omega); rw [e9]; exact ⟨hc41, hc48⟩)
            · refine W.widen (k := 0) (n := 0) (Nat.le_of_ble_eq_true rfl) (Nat.le_of_ble_eq_true rfl) ?_
              exact tth_SM_IllegalArgumentException hx hb hfl hown hts (hst _ _ hS) (by rw [hml]; exact hl.1) d_SM_type_51 d_SM_type_54 d_SM_type_55 d_SM_type_58 (tx_noH B (hts _ mw_476) _) (Nat.le_of_ble_eq_true rfl) (Nat.le_of_ble_eq_true rfl) (Nat.le_of_ble_eq_true rfl) (Nat.le_of_ble_eq_true rfl) (fun t ce hW hz hk hce hcl hvm => ⟨⟨fun _ => ⟨_, rfl, ce, hce, hcl, hvm⟩, fun h => absurd (Or.inr (Or.inr (by rw [hNe]; exact tyC_here hN (j := N - (k + 1)) (by omega) (by rw [← hNe]; exact fun hg => hc48 hg.2)))) h⟩, ta_thrown hS hz hk⟩) hS.2.2 hlocks
      exact loop N s.heap _ _ (Nat.le_refl _) hP hD hS (lv_sub (l' := [(4, .int (nI (N - N))), (0, .ref h0), (1, .long b), (3, .int n)]) hl [0, 1, 2, 3] (by rw [Nat.sub_self]; rfl)) (fun j hj => absurd hj (by omega))
    · refine W.widen (k := 0) (n := 0) (Nat.le_of_ble_eq_true rfl) (Nat.le_of_ble_eq_true rfl) ?_
      exact tth_SM_IllegalArgumentException hx hb hfl hown hts (hst _ _ hS) (by rw [hml]; exact hl.1) d_SM_type_11 d_SM_type_14 d_SM_type_15 d_SM_type_18 (tx_noH B (hts _ mw_476) _) (Nat.le_of_ble_eq_true rfl) (Nat.le_of_ble_eq_true rfl) (Nat.le_of_ble_eq_true rfl) (Nat.le_of_ble_eq_true rfl) (fun t ce hW hz hk hce hcl hvm => ⟨⟨fun _ => ⟨_, rfl, ce, hce, hcl, hvm⟩, fun h => absurd (Or.inr (Or.inl (Int32.not_le.mp hc8))) h⟩, ta_thrown hS hz hk⟩) hS.2.2 hlocks
