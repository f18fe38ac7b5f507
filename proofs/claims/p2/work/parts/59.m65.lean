abbrev q_La_stack (dC : Nat → ClassId) (dI : Nat → Nat → Nat) (cI cJ : ClassId) (a : Nat → Nat) (he dp co li op wd tl lc fo : Int) (sf lf nf : Nat → Int32) (x1 : Int32) : Outcome → State → Prop := fun o t => (∀ v, o = .returned v → ((∃ (z : Int32), v = some (.int z) ∧ okC he dp co li op wd tl lc fo sf lf nf ∧ (0 ≤ z.toInt) ∧ (z.toInt ≤ 1) ∧ sh_I (dC, dI) vcl cI cJ (gsC a he dp co li op wd tl lc fo sf lf nf) t.heap))) ∧ (∀ x, o = .threw x → (False))
def rm_La_stack : Room := { frames := 8, cells := 1, slots := 6, locals := 151 }
set_option maxHeartbeats 4000000 in
set_option maxRecDepth 100000 in
theorem c_La_stack (l : Launch) (hfl : l.flags = pinnedFlags ++ [noTraceFlag]) (dC : Nat → ClassId) (dI : Nat → Nat → Nat) (cI cJ : ClassId) (a : Nat → Nat) (sz : Nat) (he dp co li op wd tl lc fo : Int) (sf lf nf : Nat → Int32) (x1 : Int32) (hok : okC he dp co li op wd tl lc fo sf lf nf) : tz_Met l ⟨"StoryMachineLaw", "stack", "(LStoryMachine;I[J)I"⟩ tw_tbl rm_La_stack (tzP (dC, dI) vcl cI cJ (gsC a he dp co li op wd tl lc fo sf lf nf) a (adC a) [.ref (a 0), .int x1, .ref (a 35)] sz) (tq_Q (q_La_stack dC dI cI cJ a he dp co li op wd tl lc fo sf lf nf x1) (ga (adC a) sz)) 1 6 0 0 (ga (adC a) sz) := by
  refine tz_ofW (cc := method_9_code) (maxL := 4) (ret := (some .int)) (by decide) (tx_isWM mw_1040) ?_
  intro p e s m args below meth c s₁ B hml hv
  obtain ⟨rfl, hsz, hI0, hK, hst0⟩ := hv
  have hx := B.exec
  have hb := B.bytes
  have hr := B.returns
  have hts := atoms_spec (ws := tw_tbl) B.pre
  have hown : s.vm.findClass "StoryMachineLaw" = some m.cls := findClass_of_methodNamed B.named
  have hlocks := B.notSynchronized
  subst hsz
  have hst := fun (H : Heap) (locs : List Loc) (hS : va_S (ga (adC a) s.heap.size) s.heap H locs) (U : State) (hU : U.heap = H) (hW : s.WarmedH U.vm) => zS_all adC_map hI0 hst0 hS hU hW
  have hAC : ∀ q ∈ adC a, ga (adC a) s.heap.size q := fun q h => Or.inl h
  have hA0 : ∀ q, s.heap.size ≤ q → ga (adC a) s.heap.size q := fun q h => Or.inr h
  have hI : sI (dC, dI) vcl cI cJ (gsC a he dp co li op wd tl lc fo sf lf nf) (ga (adC a) s.heap.size) s.heap s.heap [] := ⟨hI0, va_S.rf⟩
  clear hI0 hst0
  have hl := lv_entry ([.ref (a 0), .int x1, .ref (a 35)]) (n := 4) (Nat.le_of_ble_eq_true rfl)
  rw [lg_entry_eq]
  generalize (lg_sl ([.ref (a 0), .int x1, .ref (a 35)]) ++ List.replicate (4 - (lg_sl ([.ref (a 0), .int x1, .ref (a 35)])).length) Slot.unset).toArray = ls at hl ⊢
  have hl : lv_has ls 4 [(0, .ref (a 0)), (1, .int x1), (2, .ref (a 35))] := hl
  generalize hZ : tz_MQ below (tq_Q (q_La_stack dC dI cI cJ a he dp co li op wd tl lc fo sf lf nf x1) (ga (adC a) s.heap.size)) ([.ref (a 0), .int x1, .ref (a 35)] : List Value).toArray s 1 6 0 0 (ga (adC a) s.heap.size) = Z
  obtain ⟨A, hAe⟩ : ∃ A, A = ga (adC a) s.heap.size := ⟨_, rfl⟩
  rw [← hAe] at hst hAC hA0 hI hZ
  refine sv_start hI (fun H locs hI => ?_)
  obtain ⟨⟨o1, o2⟩, ⟨o3, o4⟩, ⟨o5, o6⟩, ⟨o7, o8⟩, ⟨o9, o10⟩, ⟨o11, o12⟩, ⟨o13, o14⟩, ⟨o15, o16⟩, ⟨o17, o18⟩, o19, -, -⟩ := id hok
  have gx1 := sn_rng x1
  refine lv_aload_n hx hb d_La_stack_0 rfl (lv_at hl 2 rfl) ?_
  refine sn_iconst hx hb d_La_stack_1 (by decide) (fun z20 hz20 => ?_)
  refine lv_aload_n hx hb d_La_stack_2 rfl (lv_at hl 0 rfl) ?_
  refine lv_iload_n hx hb d_La_stack_3 rfl (lv_at hl 1 rfl) ?_
  refine tz_call (A1 := ga (adC a) H.size) (tz_runV (C := "StoryMachine") (As := [.int x1]) (rest := [.int z20, .ref (a 35)]) ⟨hx, hb, hml, hown, hts⟩ (c_SM_stack l hfl dC dI cI cJ a H.size he dp co li op wd tl lc fo sf lf nf x1 hok) (tx_cb (n := 1) hts rfl rfl ⟨Nat.le_of_ble_eq_true rfl, Nat.le_of_ble_eq_true rfl⟩ (tx_code.of (hts _ mw_1044)) (hts _ mw_1) (by decide +kernel) (hts _ mw_1041)) (hts _ mw_1042) (hts _ mw_1043) ⟨tz_blind, sv_recv (q0 := 0) hts in_SM hK hI kC_0 rfl, fun U hU hW => ⟨rfl, by rw [hU], by rw [hU]; exact hI.1, va_K.moved hW.alike hK, hst _ _ hI.2 U hU hW⟩⟩ rfl rfl hl.1 rfl (lv_room (Nat.le_of_ble_eq_true rfl)) d_La_stack_4 ⟨Nat.le_of_ble_eq_true rfl, Nat.le_of_ble_eq_true rfl⟩) hI.2 (fun q _ h => ga_sub hAC hA0 hI.2 q h) (ga_sub hAC hA0 hI.2) (fun v t H1 locs1 ht hWt hpost _ _ hS => ?_) (fun x t H1 locs1 ht hWt hpost _ _ hS => ?_)
  · rcases hpost.1 _ rfl with ⟨z21, hv, c22, c22_0, c22_1, c22_2, c22_3, hI1⟩
    cases hv
    have hI : sI (dC, dI) vcl cI cJ (gsC a he dp co li op wd tl lc fo sf lf nf) A s.heap H1 locs1 := ⟨by rw [← ht]; exact hI1, hS⟩
    clear hpost hI1 hS ht hWt
    revert hI; generalize H1 = H; generalize locs1 = locs; intro hI
    refine lv_i2l hx hb d_La_stack_7 rfl ?_
    refine lv_topl (fun y23 hy23 => ?_)
    refine sv_last hx hb hK (sh_in adC_map hAC) hI 35 kC_35 (by omega) (by omega) pC_35 d_La_stack_8 (fun H locs hI => ?_)
    refine lv_goto (tgt := 15) hx hb d_La_stack_9 (by decide) ?_
    refine sn_iconst hx hb d_La_stack_15 (by decide) (fun z24 hz24 => ?_)
    refine W.widen (k := 1) (n := 6) (Nat.le_of_ble_eq_true rfl) (Nat.le_of_ble_eq_true rfl) ?_
    subst hZ
    exact tz_ret (W.iret (v := z24) hx hb hr (fun t ht hW => ⟨⟨fun v9 hv9 => by cases hv9; exact (⟨z24, rfl, c22, by omega, by omega, by rw [ht]; exact hI.1⟩), fun x9 hx9 => (by cases hx9)⟩, hI.2.F ht⟩) hI.2.2.2 d_La_stack_16)
  · rcases hpost.2 _ rfl with ⟨hex, c25, hI1⟩
    have hI : sI (dC, dI) vcl cI cJ (gsC a he dp co li op wd tl lc fo sf lf nf) A s.heap H1 locs1 := ⟨by rw [← ht]; exact hI1, hS⟩
    obtain ⟨ce, hce, hcl, hvm⟩ := hex
    refine tx_catchN (own := "StoryMachineLaw") (C := "java/lang/IndexOutOfBoundsException") (X := "java/lang/IndexOutOfBoundsException") [] (tx_tab B (hts _ mw_1040)) ((fun _ h => by cases h)) (by decide) (by decide) hown (hts _ mw_1014) (by rw [← ht]; exact hce) (fun k h => by rw [hvm] at h; cases h) (by rw [← hWt.alike.findClass]; exact hcl) (hts _ mw_1021) ?_
    clear hpost hI1 hS ht hWt hce hcl hvm
    revert hI; generalize H1 = H; generalize locs1 = locs; intro hI
    refine lv_astore_n (lv' := [(3, .ref x), (0, .ref (a 0)), (1, .int x1), (2, .ref (a 35))]) hx hb d_La_stack_12 rfl hl (by decide) rfl (fun ls hl => ?_)
    refine sn_iconst hx hb d_La_stack_13 (by decide) (fun z26 hz26 => ?_)
    subst hZ
    exact tz_ret (W.iret (v := z26) hx hb hr (fun t ht hW => ⟨⟨fun v9 hv9 => by cases hv9; exact (⟨z26, rfl, c25, by omega, by omega, by rw [ht]; exact hI.1⟩), fun x9 hx9 => (by cases hx9)⟩, hI.2.F ht⟩) hI.2.2.2 d_La_stack_14)
abbrev q_La_local (dC : Nat → ClassId) (dI : Nat → Nat → Nat) (cI cJ : ClassId) (a : Nat → Nat) (he dp co li op wd tl lc fo : Int) (sf lf nf : Nat → Int32) (x1 : Int32) : Outcome → State → Prop := fun o t => (∀ v, o = .returned v → ((∃ (z : Int32), v = some (.int z) ∧ okC he dp co li op wd tl lc fo sf lf nf ∧ (0 ≤ z.toInt) ∧ (z.toInt ≤ 1) ∧ sh_I (dC, dI) vcl cI cJ (gsC a he dp co li op wd tl lc fo sf lf nf) t.heap))) ∧ (∀ x, o = .threw x → (False))
def rm_La_local : Room := { frames := 8, cells := 1, slots := 6, locals := 151 }
set_option maxHeartbeats 4000000 in
set_option maxRecDepth 100000 in
theorem c_La_local (l : Launch) (hfl : l.flags = pinnedFlags ++ [noTraceFlag]) (dC : Nat → ClassId) (dI : Nat → Nat → Nat) (cI cJ : ClassId) (a : Nat → Nat) (sz : Nat) (he dp co li op wd tl lc fo : Int) (sf lf nf : Nat → Int32) (x1 : Int32) (hok : okC he dp co li op wd tl lc fo sf lf nf) : tz_Met l ⟨"StoryMachineLaw", "local", "(LStoryMachine;I[J)I"⟩ tw_tbl rm_La_local (tzP (dC, dI) vcl cI cJ (gsC a he dp co li op wd tl lc fo sf lf nf) a (adC a) [.ref (a 0), .int x1, .ref (a 35)] sz) (tq_Q (q_La_local dC dI cI cJ a he dp co li op wd tl lc fo sf lf nf x1) (ga (adC a) sz)) 1 6 0 0 (ga (adC a) sz) := by
  refine tz_ofW (cc := method_10_code) (maxL := 4) (ret := (some .int)) (by decide) (tx_isWM mw_1047) ?_
  intro p e s m args below meth c s₁ B hml hv
  obtain ⟨rfl, hsz, hI0, hK, hst0⟩ := hv
  have hx := B.exec
  have hb := B.bytes
  have hr := B.returns
  have hts := atoms_spec (ws := tw_tbl) B.pre
  have hown : s.vm.findClass "StoryMachineLaw" = some m.cls := findClass_of_methodNamed B.named
  have hlocks := B.notSynchronized
  subst hsz
  have hst := fun (H : Heap) (locs : List Loc) (hS : va_S (ga (adC a) s.heap.size) s.heap H locs) (U : State) (hU : U.heap = H) (hW : s.WarmedH U.vm) => zS_all adC_map hI0 hst0 hS hU hW
  have hAC : ∀ q ∈ adC a, ga (adC a) s.heap.size q := fun q h => Or.inl h
  have hA0 : ∀ q, s.heap.size ≤ q → ga (adC a) s.heap.size q := fun q h => Or.inr h
  have hI : sI (dC, dI) vcl cI cJ (gsC a he dp co li op wd tl lc fo sf lf nf) (ga (adC a) s.heap.size) s.heap s.heap [] := ⟨hI0, va_S.rf⟩
  clear hI0 hst0
  have hl := lv_entry ([.ref (a 0), .int x1, .ref (a 35)]) (n := 4) (Nat.le_of_ble_eq_true rfl)
  rw [lg_entry_eq]
  generalize (lg_sl ([.ref (a 0), .int x1, .ref (a 35)]) ++ List.replicate (4 - (lg_sl ([.ref (a 0), .int x1, .ref (a 35)])).length) Slot.unset).toArray = ls at hl ⊢
  have hl : lv_has ls 4 [(0, .ref (a 0)), (1, .int x1), (2, .ref (a 35))] := hl
  generalize hZ : tz_MQ below (tq_Q (q_La_local dC dI cI cJ a he dp co li op wd tl lc fo sf lf nf x1) (ga (adC a) s.heap.size)) ([.ref (a 0), .int x1, .ref (a 35)] : List Value).toArray s 1 6 0 0 (ga (adC a) s.heap.size) = Z
  obtain ⟨A, hAe⟩ : ∃ A, A = ga (adC a) s.heap.size := ⟨_, rfl⟩
  rw [← hAe] at hst hAC hA0 hI hZ
  refine sv_start hI (fun H locs hI => ?_)
  obtain ⟨⟨o1, o2⟩, ⟨o3, o4⟩, ⟨o5, o6⟩, ⟨o7, o8⟩, ⟨o9, o10⟩, ⟨o11, o12⟩, ⟨o13, o14⟩, ⟨o15, o16⟩, ⟨o17, o18⟩, o19, -, -⟩ := id hok
  have gx1 := sn_rng x1
  refine lv_aload_n hx hb d_La_local_0 rfl (lv_at hl 2 rfl) ?_
  refine sn_iconst hx hb d_La_local_1 (by decide) (fun z20 hz20 => ?_)
  refine lv_aload_n hx hb d_La_local_2 rfl (lv_at hl 0 rfl) ?_
  refine lv_iload_n hx hb d_La_local_3 rfl (lv_at hl 1 rfl) ?_
  refine tz_call (A1 := ga (adC a) H.size) (tz_runV (C := "StoryMachine") (As := [.int x1]) (rest := [.int z20, .ref (a 35)]) ⟨hx, hb, hml, hown, hts⟩ (c_SM_local l hfl dC dI cI cJ a H.size he dp co li op wd tl lc fo sf lf nf x1 hok) (tx_cb (n := 1) hts rfl rfl ⟨Nat.le_of_ble_eq_true rfl, Nat.le_of_ble_eq_true rfl⟩ (tx_code.of (hts _ mw_1051)) (hts _ mw_1) (by decide +kernel) (hts _ mw_1048)) (hts _ mw_1049) (hts _ mw_1050) ⟨tz_blind, sv_recv (q0 := 0) hts in_SM hK hI kC_0 rfl, fun U hU hW => ⟨rfl, by rw [hU], by rw [hU]; exact hI.1, va_K.moved hW.alike hK, hst _ _ hI.2 U hU hW⟩⟩ rfl rfl hl.1 rfl (lv_room (Nat.le_of_ble_eq_true rfl)) d_La_local_4 ⟨Nat.le_of_ble_eq_true rfl, Nat.le_of_ble_eq_true rfl⟩) hI.2 (fun q _ h => ga_sub hAC hA0 hI.2 q h) (ga_sub hAC hA0 hI.2) (fun v t H1 locs1 ht hWt hpost _ _ hS => ?_) (fun x t H1 locs1 ht hWt hpost _ _ hS => ?_)
  · rcases hpost.1 _ rfl with ⟨z21, hv, c22, c22_0, c22_1, c22_2, c22_3, hI1⟩
    cases hv
    have hI : sI (dC, dI) vcl cI cJ (gsC a he dp co li op wd tl lc fo sf lf nf) A s.heap H1 locs1 := ⟨by rw [← ht]; exact hI1, hS⟩
    clear hpost hI1 hS ht hWt
    revert hI; generalize H1 = H; generalize locs1 = locs; intro hI
    refine lv_i2l hx hb d_La_local_7 rfl ?_
    refine lv_topl (fun y23 hy23 => ?_)
    refine sv_last hx hb hK (sh_in adC_map hAC) hI 35 kC_35 (by omega) (by omega) pC_35 d_La_local_8 (fun H locs hI => ?_)
    refine lv_goto (tgt := 15) hx hb d_La_local_9 (by decide) ?_
    refine sn_iconst hx hb d_La_local_15 (by decide) (fun z24 hz24 => ?_)
    refine W.widen (k := 1) (n := 6) (Nat.le_of_ble_eq_true rfl) (Nat.le_of_ble_eq_true rfl) ?_
    subst hZ
    exact tz_ret (W.iret (v := z24) hx hb hr (fun t ht hW => ⟨⟨fun v9 hv9 => by cases hv9; exact (⟨z24, rfl, c22, by omega, by omega, by rw [ht]; exact hI.1⟩), fun x9 hx9 => (by cases hx9)⟩, hI.2.F ht⟩) hI.2.2.2 d_La_local_16)
  · rcases hpost.2 _ rfl with ⟨hex, c25, hI1⟩
    have hI : sI (dC, dI) vcl cI cJ (gsC a he dp co li op wd tl lc fo sf lf nf) A s.heap H1 locs1 := ⟨by rw [← ht]; exact hI1, hS⟩
    obtain ⟨ce, hce, hcl, hvm⟩ := hex
    refine tx_catchN (own := "StoryMachineLaw") (C := "java/lang/IndexOutOfBoundsException") (X := "java/lang/IndexOutOfBoundsException") [] (tx_tab B (hts _ mw_1047)) ((fun _ h => by cases h)) (by decide) (by decide) hown (hts _ mw_1014) (by rw [← ht]; exact hce) (fun k h => by rw [hvm] at h; cases h) (by rw [← hWt.alike.findClass]; exact hcl) (hts _ mw_1021) ?_
    clear hpost hI1 hS ht hWt hce hcl hvm
    revert hI; generalize H1 = H; generalize locs1 = locs; intro hI
    refine lv_astore_n (lv' := [(3, .ref x), (0, .ref (a 0)), (1, .int x1), (2, .ref (a 35))]) hx hb d_La_local_12 rfl hl (by decide) rfl (fun ls hl => ?_)
    refine sn_iconst hx hb d_La_local_13 (by decide) (fun z26 hz26 => ?_)
    subst hZ
    exact tz_ret (W.iret (v := z26) hx hb hr (fun t ht hW => ⟨⟨fun v9 hv9 => by cases hv9; exact (⟨z26, rfl, c25, by omega, by omega, by rw [ht]; exact hI.1⟩), fun x9 hx9 => (by cases hx9)⟩, hI.2.F ht⟩) hI.2.2.2 d_La_local_14)
