abbrev q_Tr_properties (dC : Nat → ClassId) (dI : Nat → Nat → Nat) (cI cJ : ClassId) (a : Nat → Nat) (he dp co li op wd tl lc : Int) (sf lf : Nat → Int32) (x1 : Int32) : Outcome → State → Prop := fun o t => (∀ v, o = .returned v → ((∃ (z : Int32), v = some (.int z) ∧ okC he dp co li op wd tl lc sf lf ∧ 1 ≤ z.toInt ∧ z.toInt ≤ 66046 ∧ 1 ≤ x1.toInt ∧ x1.toInt ≤ 20 ∧ sh_I (dC, dI) vcl cI cJ (gsC a he dp co li op wd tl lc sf lf) t.heap))) ∧ (∀ x, o = .threw x → ((ta_Ex "java/lang/IllegalArgumentException" x t ∧ okC he dp co li op wd tl lc sf lf ∧ sh_I (dC, dI) vcl cI cJ (gsC a he dp co li op wd tl lc sf lf) t.heap)))
def rm_Tr_properties : Room := { frames := 9, cells := 1, slots := 6, locals := 172 }
set_option maxHeartbeats 4000000 in
set_option maxRecDepth 100000 in
theorem c_Tr_properties (l : Launch) (hfl : l.flags = pinnedFlags ++ [noTraceFlag]) (dC : Nat → ClassId) (dI : Nat → Nat → Nat) (cI cJ : ClassId) (a : Nat → Nat) (sz : Nat) (he dp co li op wd tl lc : Int) (sf lf : Nat → Int32) (x1 : Int32) (hok : okC he dp co li op wd tl lc sf lf) : tz_Met l ⟨"StoryMachine$Tree", "properties", "(I)I"⟩ tw_tbl rm_Tr_properties (tzP (dC, dI) vcl cI cJ (gsC a he dp co li op wd tl lc sf lf) (adC a) [.ref (a 17), .int x1] sz) (tq_Q (q_Tr_properties dC dI cI cJ a he dp co li op wd tl lc sf lf x1) (ga (adC a) sz)) 0 0 1 6 (ga (adC a) sz) := by
  refine tz_ofW (cc := prog_10_method_13_code) (maxL := 3) (ret := (some .int)) (by decide) (tx_isM mw_819) ?_
  intro p e s m args below meth c s₁ B hml hv
  obtain ⟨rfl, hsz, hI0, hK, hst0⟩ := hv
  have hx := B.exec
  have hb := B.bytes
  have hr := B.returns
  have hts := atoms_spec (ws := tw_tbl) B.pre
  have hown : s.vm.findClass "StoryMachine$Tree" = some m.cls := findClass_of_methodNamed B.named
  have hlocks := B.notSynchronized
  subst hsz
  have hst := fun (H : Heap) (locs : List Loc) (hS : va_S (ga (adC a) s.heap.size) s.heap H locs) (U : State) (hU : U.heap = H) (hW : s.WarmedH U.vm) => zS_all adC_map hI0 hst0 hS hU hW
  have hAC : ∀ q ∈ adC a, ga (adC a) s.heap.size q := fun q h => Or.inl h
  have hA0 : ∀ q, s.heap.size ≤ q → ga (adC a) s.heap.size q := fun q h => Or.inr h
  have hI : sI (dC, dI) vcl cI cJ (gsC a he dp co li op wd tl lc sf lf) (ga (adC a) s.heap.size) s.heap s.heap [] := ⟨hI0, va_S.rf⟩
  clear hI0 hst0
  have hl := lv_entry ([.ref (a 17), .int x1]) (n := 3) (Nat.le_of_ble_eq_true rfl)
  rw [lg_entry_eq]
  generalize (lg_sl ([.ref (a 17), .int x1]) ++ List.replicate (3 - (lg_sl ([.ref (a 17), .int x1])).length) Slot.unset).toArray = ls at hl ⊢
  have hl : lv_has ls 3 [(0, .ref (a 17)), (1, .int x1)] := hl
  generalize hZ : tz_MQ below (tq_Q (q_Tr_properties dC dI cI cJ a he dp co li op wd tl lc sf lf x1) (ga (adC a) s.heap.size)) ([.ref (a 17), .int x1] : List Value).toArray s 0 0 1 6 (ga (adC a) s.heap.size) = Z
  obtain ⟨A, hAe⟩ : ∃ A, A = ga (adC a) s.heap.size := ⟨_, rfl⟩
  rw [← hAe] at hst hAC hA0 hI hZ
  refine sv_start hI (fun H locs hI => ?_)
  obtain ⟨⟨o1, o2⟩, ⟨o3, o4⟩, ⟨o5, o6⟩, ⟨o7, o8⟩, ⟨o9, o10⟩, ⟨o11, o12⟩, ⟨o13, o14⟩, ⟨o15, o16⟩, o17, -⟩ := id hok
  have gx1 := sn_rng x1
  refine lv_aload_n hx hb d_Tr_properties_0 rfl (lv_at hl 0 rfl) ?_
  refine sv_getr (C := "StoryMachine$Tree") (T := T_Tr) (N := 1) hx hb hts in_Tr hown hK hI 17 kC_17 rfl 0 (by decide) (hts _ mw_181) rfl d_Tr_properties_1 ?_
  refine lv_aload_n hx hb d_Tr_properties_4 rfl (lv_at hl 0 rfl) ?_
  refine lv_iload_n hx hb d_Tr_properties_5 rfl (lv_at hl 1 rfl) ?_
  refine tz_call (A1 := ga (adC a) H.size) (tz_runV (C := "StoryMachine$Tree") (As := [.int x1]) (rest := [.ref (a 1)]) ⟨hx, hb, hml, hown, hts⟩ (c_Tr_placeOf l hfl dC dI cI cJ a H.size he dp co li op wd tl lc sf lf x1 hok) (tx_cb (n := 1) hts rfl rfl ⟨Nat.le_of_ble_eq_true rfl, Nat.le_of_ble_eq_true rfl⟩ (tx_code.of (hts _ mw_744)) (hts _ mw_9) (by decide +kernel) (hts _ mw_741)) (hts _ mw_743) (hts _ ms_Tr_placeOf) ⟨tz_blind, sv_recv (q0 := 17) hts in_Tr hK hI kC_17 rfl, fun U hU hW => ⟨rfl, by rw [hU], by rw [hU]; exact hI.1, va_K.moved hW.alike hK, hst _ _ hI.2 U hU hW⟩⟩ rfl rfl hl.1 rfl (lv_room (Nat.le_of_ble_eq_true rfl)) d_Tr_properties_6 ⟨Nat.le_of_ble_eq_true rfl, Nat.le_of_ble_eq_true rfl⟩) hI.2 (fun q _ h => ga_sub hAC hA0 hI.2 q h) (ga_sub hAC hA0 hI.2) (fun v t H1 locs1 ht hWt hpost _ _ hS => ?_) (fun x t H1 locs1 ht hWt hpost _ _ hS => ?_)
  · rcases hpost.1 _ rfl with ⟨z18, hv, c19, c19_0, c19_1, c19_2, c19_3, hI1⟩
    cases hv
    have hI : sI (dC, dI) vcl cI cJ (gsC a he dp co li op wd tl lc sf lf) A s.heap H1 locs1 := ⟨by rw [← ht]; exact hI1, hS⟩
    clear hpost hI1 hS ht hWt
    revert hI; generalize H1 = H; generalize locs1 = locs; intro hI
    refine sn_bipush hx hb d_Tr_properties_9 (by decide) (fun z20 hz20 => ?_)
    refine sn_iadd hx hb d_Tr_properties_11 (by omega) (by omega) (fun z21 hz21 => ?_)
    refine tz_call (A1 := ga (adC a) H.size) (tz_runV (C := "StoryMachine$Memory") (As := [.int z21]) (rest := []) ⟨hx, hb, hml, hown, hts⟩ (c_Me_wordAt l hfl dC dI cI cJ a H.size he dp co li op wd tl lc sf lf z21 c19) (tx_cb (n := 1) hts rfl rfl ⟨Nat.le_of_ble_eq_true rfl, Nat.le_of_ble_eq_true rfl⟩ (tx_code.of (hts _ mw_440)) (hts _ mw_2) (by decide +kernel) (hts _ mw_747)) (hts _ mw_438) (hts _ mw_439) ⟨tz_blind, sv_recv (q0 := 1) hts in_Me hK hI kC_1 rfl, fun U hU hW => ⟨rfl, by rw [hU], by rw [hU]; exact hI.1, va_K.moved hW.alike hK, hst _ _ hI.2 U hU hW⟩⟩ rfl rfl hl.1 rfl (lv_room (Nat.le_of_ble_eq_true rfl)) d_Tr_properties_12 ⟨Nat.le_of_ble_eq_true rfl, Nat.le_of_ble_eq_true rfl⟩) hI.2 (fun q _ h => ga_sub hAC hA0 hI.2 q h) (ga_sub hAC hA0 hI.2) (fun v t H1 locs1 ht hWt hpost _ _ hS => ?_) (fun x t H1 locs1 ht hWt hpost _ _ hS => ?_)
    · rcases hpost.1 _ rfl with ⟨z22, hv, c23, c23_0, c23_1, c23_2, c23_3, hI1⟩
      cases hv
      have hI : sI (dC, dI) vcl cI cJ (gsC a he dp co li op wd tl lc sf lf) A s.heap H1 locs1 := ⟨by rw [← ht]; exact hI1, hS⟩
      clear hpost hI1 hS ht hWt
      revert hI; generalize H1 = H; generalize locs1 = locs; intro hI
      refine lv_istore_n (lv' := [(2, .int z22), (0, .ref (a 17)), (1, .int x1)]) hx hb d_Tr_properties_15 rfl hl (by decide) rfl (fun ls hl => ?_)
      refine lv_iload_n hx hb d_Tr_properties_16 rfl (lv_at hl 0 rfl) ?_
      refine sn_iconst hx hb d_Tr_properties_17 (by decide) (fun z24 hz24 => ?_)
      refine sn_iadd hx hb d_Tr_properties_18 (by omega) (by omega) (fun z25 hz25 => ?_)
      refine sn_iconst hx hb d_Tr_properties_19 (by decide) (fun z26 hz26 => ?_)
      refine lv_aload_n hx hb d_Tr_properties_20 rfl (lv_at hl 1 rfl) ?_
      refine sv_getr (C := "StoryMachine$Tree") (T := T_Tr) (N := 1) hx hb hts in_Tr hown hK hI 17 kC_17 rfl 0 (by decide) (hts _ mw_181) rfl d_Tr_properties_21 ?_
      refine lv_iload_n hx hb d_Tr_properties_24 rfl (lv_at hl 0 rfl) ?_
      refine tz_call (A1 := ga (adC a) H.size) (tz_runV (C := "StoryMachine$Memory") (As := [.int z22]) (rest := [.int z26, .int z25]) ⟨hx, hb, hml, hown, hts⟩ (c_Me_byteAt l hfl dC dI cI cJ a H.size he dp co li op wd tl lc sf lf z22 c23) (tx_cb (n := 1) hts rfl rfl ⟨Nat.le_of_ble_eq_true rfl, Nat.le_of_ble_eq_true rfl⟩ (tx_code.of (hts _ mw_511)) (hts _ mw_2) (by decide +kernel) (hts _ mw_748)) (hts _ mw_509) (hts _ mw_510) ⟨tz_blind, sv_recv (q0 := 1) hts in_Me hK hI kC_1 rfl, fun U hU hW => ⟨rfl, by rw [hU], by rw [hU]; exact hI.1, va_K.moved hW.alike hK, hst _ _ hI.2 U hU hW⟩⟩ rfl rfl hl.1 rfl (lv_room (Nat.le_of_ble_eq_true rfl)) d_Tr_properties_25 ⟨Nat.le_of_ble_eq_true rfl, Nat.le_of_ble_eq_true rfl⟩) hI.2 (fun q _ h => ga_sub hAC hA0 hI.2 q h) (ga_sub hAC hA0 hI.2) (fun v t H1 locs1 ht hWt hpost _ _ hS => ?_) (fun x t H1 locs1 ht hWt hpost _ _ hS => ?_)
      · rcases hpost.1 _ rfl with ⟨z27, hv, c28, c28_0, c28_1, c28_2, c28_3, hI1⟩
        cases hv
        have hI : sI (dC, dI) vcl cI cJ (gsC a he dp co li op wd tl lc sf lf) A s.heap H1 locs1 := ⟨by rw [← ht]; exact hI1, hS⟩
        clear hpost hI1 hS ht hWt
        revert hI; generalize H1 = H; generalize locs1 = locs; intro hI
        refine sn_imulL (k := 2) hx hb d_Tr_properties_28 (by omega) (by omega) (by omega) (fun z29 hz29 => ?_)
        refine sn_iadd hx hb d_Tr_properties_29 (by omega) (by omega) (fun z30 hz30 => ?_)
        subst hZ
        exact tz_ret (W.iret (v := z30) hx hb hr (fun t ht hW => ⟨⟨fun v9 hv9 => by cases hv9; exact (⟨z30, rfl, c28, by omega, by omega, by omega, by omega, by rw [ht]; exact hI.1⟩), fun x9 hx9 => (by cases hx9)⟩, hI.2.F ht⟩) hI.2.2.2 d_Tr_properties_30)
      · rcases hpost.2 _ rfl with ⟨hex, c31, hI1⟩
        have hI : sI (dC, dI) vcl cI cJ (gsC a he dp co li op wd tl lc sf lf) A s.heap H1 locs1 := ⟨by rw [← ht]; exact hI1, hS⟩
        refine tz_widen (k := 1) (n := 6) (Nat.le_of_ble_eq_true rfl) (Nat.le_of_ble_eq_true rfl) ?_
        subst hZ
        exact tz_leave (tx_noH B (hts _ mw_819) _) (fun t9 ht9 hW9 => ⟨⟨fun v9 hv9 => (by cases hv9), fun x9 hx9 => by cases hx9; exact (⟨ta_exm hex ht ht9 hWt hW9, c31, by rw [ht9]; exact hI.1⟩)⟩, hI.2.F ht9⟩) hI.2.2.2 hlocks
    · rcases hpost.2 _ rfl with ⟨hex, c32, hI1⟩
      have hI : sI (dC, dI) vcl cI cJ (gsC a he dp co li op wd tl lc sf lf) A s.heap H1 locs1 := ⟨by rw [← ht]; exact hI1, hS⟩
      refine tz_widen (k := 1) (n := 6) (Nat.le_of_ble_eq_true rfl) (Nat.le_of_ble_eq_true rfl) ?_
      subst hZ
      exact tz_leave (tx_noH B (hts _ mw_819) _) (fun t9 ht9 hW9 => ⟨⟨fun v9 hv9 => (by cases hv9), fun x9 hx9 => by cases hx9; exact (⟨ta_exm hex ht ht9 hWt hW9, c32, by rw [ht9]; exact hI.1⟩)⟩, hI.2.F ht9⟩) hI.2.2.2 hlocks
  · rcases hpost.2 _ rfl with ⟨hex, c33, hI1⟩
    have hI : sI (dC, dI) vcl cI cJ (gsC a he dp co li op wd tl lc sf lf) A s.heap H1 locs1 := ⟨by rw [← ht]; exact hI1, hS⟩
    refine tz_widen (k := 1) (n := 6) (Nat.le_of_ble_eq_true rfl) (Nat.le_of_ble_eq_true rfl) ?_
    subst hZ
    exact tz_leave (tx_noH B (hts _ mw_819) _) (fun t9 ht9 hW9 => ⟨⟨fun v9 hv9 => (by cases hv9), fun x9 hx9 => by cases hx9; exact (⟨ta_exm hex ht ht9 hWt hW9, c33, by rw [ht9]; exact hI.1⟩)⟩, hI.2.F ht9⟩) hI.2.2.2 hlocks
abbrev q_Tr_lengthIn (dC : Nat → ClassId) (dI : Nat → Nat → Nat) (cI cJ : ClassId) (a : Nat → Nat) (he dp co li op wd tl lc : Int) (sf lf : Nat → Int32) (x0 : Int32) : Outcome → State → Prop := fun o t => (∀ v, o = .returned v → ((∃ (z : Int32), v = some (.int z) ∧ okC he dp co li op wd tl lc sf lf ∧ (-2147483648) ≤ z.toInt ∧ z.toInt ≤ 2147483647 ∧ sh_I (dC, dI) vcl cI cJ (gsC a he dp co li op wd tl lc sf lf) t.heap))) ∧ (∀ x, o = .threw x → (False))
def rm_Tr_lengthIn : Room := { frames := 0, cells := 0, slots := 0, locals := 0 }
set_option maxHeartbeats 4000000 in
set_option maxRecDepth 100000 in
theorem c_Tr_lengthIn (l : Launch) (hfl : l.flags = pinnedFlags ++ [noTraceFlag]) (dC : Nat → ClassId) (dI : Nat → Nat → Nat) (cI cJ : ClassId) (a : Nat → Nat) (sz : Nat) (he dp co li op wd tl lc : Int) (sf lf : Nat → Int32) (x0 : Int32) (hok : okC he dp co li op wd tl lc sf lf) : tz_Met l ⟨"StoryMachine$Tree", "lengthIn", "(I)I"⟩ tw_tbl rm_Tr_lengthIn (tzP (dC, dI) vcl cI cJ (gsC a he dp co li op wd tl lc sf lf) (adC a) [.int x0] sz) (tq_Q (q_Tr_lengthIn dC dI cI cJ a he dp co li op wd tl lc sf lf x0) (ga (adC a) sz)) 0 0 0 0 (ga (adC a) sz) := by
  refine tz_ofW (cc := prog_10_method_15_code) (maxL := 1) (ret := (some .int)) (by decide) (tx_isM mw_763) ?_
  intro p e s m args below meth c s₁ B hml hv
  obtain ⟨rfl, hsz, hI0, hK, hst0⟩ := hv
  have hx := B.exec
  have hb := B.bytes
  have hr := B.returns
  have hts := atoms_spec (ws := tw_tbl) B.pre
  have hown : s.vm.findClass "StoryMachine$Tree" = some m.cls := findClass_of_methodNamed B.named
  have hlocks := B.notSynchronized
  subst hsz
  have hst := fun (H : Heap) (locs : List Loc) (hS : va_S (ga (adC a) s.heap.size) s.heap H locs) (U : State) (hU : U.heap = H) (hW : s.WarmedH U.vm) => zS_all adC_map hI0 hst0 hS hU hW
  have hAC : ∀ q ∈ adC a, ga (adC a) s.heap.size q := fun q h => Or.inl h
  have hA0 : ∀ q, s.heap.size ≤ q → ga (adC a) s.heap.size q := fun q h => Or.inr h
  have hI : sI (dC, dI) vcl cI cJ (gsC a he dp co li op wd tl lc sf lf) (ga (adC a) s.heap.size) s.heap s.heap [] := ⟨hI0, va_S.rf⟩
  clear hI0 hst0
  have hl := lv_entry ([.int x0]) (n := 1) (Nat.le_of_ble_eq_true rfl)
  rw [lg_entry_eq]
  generalize (lg_sl ([.int x0]) ++ List.replicate (1 - (lg_sl ([.int x0])).length) Slot.unset).toArray = ls at hl ⊢
  have hl : lv_has ls 1 [(0, .int x0)] := hl
  generalize hZ : tz_MQ below (tq_Q (q_Tr_lengthIn dC dI cI cJ a he dp co li op wd tl lc sf lf x0) (ga (adC a) s.heap.size)) ([.int x0] : List Value).toArray s 0 0 0 0 (ga (adC a) s.heap.size) = Z
  obtain ⟨A, hAe⟩ : ∃ A, A = ga (adC a) s.heap.size := ⟨_, rfl⟩
  rw [← hAe] at hst hAC hA0 hI hZ
  refine sv_start hI (fun H locs hI => ?_)
  obtain ⟨⟨o1, o2⟩, ⟨o3, o4⟩, ⟨o5, o6⟩, ⟨o7, o8⟩, ⟨o9, o10⟩, ⟨o11, o12⟩, ⟨o13, o14⟩, ⟨o15, o16⟩, o17, -⟩ := id hok
  have gx0 := sn_rng x0
  refine lv_iload_n hx hb d_Tr_lengthIn_0 rfl (lv_at hl 0 rfl) ?_
  refine sn_bipush hx hb d_Tr_lengthIn_1 (by decide) (fun z18 hz18 => ?_)
  refine sn_idivT hx hb d_Tr_lengthIn_3 (by omega) (fun z19 hz19a hz19b => ?_)
  refine sn_iconst hx hb d_Tr_lengthIn_4 (by decide) (fun z20 hz20 => ?_)
  refine sn_iaddT hx hb d_Tr_lengthIn_5 (fun z21 hz21a hz21b => ?_)
  subst hZ
  exact tz_ret (W.iret (v := z21) hx hb hr (fun t ht hW => ⟨⟨fun v9 hv9 => by cases hv9; exact (⟨z21, rfl, hok, by omega, by omega, by rw [ht]; exact hI.1⟩), fun x9 hx9 => (by cases hx9)⟩, hI.2.F ht⟩) hI.2.2.2 d_Tr_lengthIn_6)
abbrev q_Tr_propertyPlace (dC : Nat → ClassId) (dI : Nat → Nat → Nat) (cI cJ : ClassId) (a : Nat → Nat) (he dp co li op wd tl lc : Int) (sf lf : Nat → Int32) (x1 : Int32) (x2 : Int32) : Outcome → State → Prop := fun o t => (∀ v, o = .returned v → ((∃ (z : Int32), v = some (.int z) ∧ okC he dp co li op wd tl lc sf lf ∧ 0 ≤ z.toInt ∧ z.toInt ≤ 512 ∧ sh_I (dC, dI) vcl cI cJ (gsC a he dp co li op wd tl lc sf lf) t.heap))) ∧ (∀ x, o = .threw x → ((ta_Ex "java/lang/IllegalArgumentException" x t ∧ okC he dp co li op wd tl lc sf lf ∧ sh_I (dC, dI) vcl cI cJ (gsC a he dp co li op wd tl lc sf lf) t.heap)))
def rm_Tr_propertyPlace : Room := { frames := 8, cells := 1, slots := 6, locals := 151 }
set_option maxHeartbeats 4000000 in
set_option maxRecDepth 100000 in
theorem c_Tr_propertyPlace (l : Launch) (hfl : l.flags = pinnedFlags ++ [noTraceFlag]) (dC : Nat → ClassId) (dI : Nat → Nat → Nat) (cI cJ : ClassId) (a : Nat → Nat) (sz : Nat) (he dp co li op wd tl lc : Int) (sf lf : Nat → Int32) (x1 : Int32) (x2 : Int32) (hok : okC he dp co li op wd tl lc sf lf) : tz_Met l ⟨"StoryMachine$Tree", "propertyPlace", "(II)I"⟩ tw_tbl rm_Tr_propertyPlace (tzP (dC, dI) vcl cI cJ (gsC a he dp co li op wd tl lc sf lf) (adC a) [.ref (a 17), .int x1, .int x2] sz) (tq_Q (q_Tr_propertyPlace dC dI cI cJ a he dp co li op wd tl lc sf lf x1 x2) (ga (adC a) sz)) 0 0 1 6 (ga (adC a) sz) := by
  refine tz_ofW (cc := prog_10_method_14_code) (maxL := 6) (ret := (some .int)) (by decide) (tx_isM mw_827) ?_
  intro p e s m args below meth c s₁ B hml hv
  obtain ⟨rfl, hsz, hI0, hK, hst0⟩ := hv
  have hx := B.exec
  have hb := B.bytes
  have hr := B.returns
  have hts := atoms_spec (ws := tw_tbl) B.pre
  have hown : s.vm.findClass "StoryMachine$Tree" = some m.cls := findClass_of_methodNamed B.named
  have hlocks := B.notSynchronized
  subst hsz
  have hst := fun (H : Heap) (locs : List Loc) (hS : va_S (ga (adC a) s.heap.size) s.heap H locs) (U : State) (hU : U.heap = H) (hW : s.WarmedH U.vm) => zS_all adC_map hI0 hst0 hS hU hW
  have hAC : ∀ q ∈ adC a, ga (adC a) s.heap.size q := fun q h => Or.inl h
  have hA0 : ∀ q, s.heap.size ≤ q → ga (adC a) s.heap.size q := fun q h => Or.inr h
  have hI : sI (dC, dI) vcl cI cJ (gsC a he dp co li op wd tl lc sf lf) (ga (adC a) s.heap.size) s.heap s.heap [] := ⟨hI0, va_S.rf⟩
  clear hI0 hst0
  have hl := lv_entry ([.ref (a 17), .int x1, .int x2]) (n := 6) (Nat.le_of_ble_eq_true rfl)
  rw [lg_entry_eq]
  generalize (lg_sl ([.ref (a 17), .int x1, .int x2]) ++ List.replicate (6 - (lg_sl ([.ref (a 17), .int x1, .int x2])).length) Slot.unset).toArray = ls at hl ⊢
  have hl : lv_has ls 6 [(0, .ref (a 17)), (1, .int x1), (2, .int x2)] := hl
  generalize hZ : tz_MQ below (tq_Q (q_Tr_propertyPlace dC dI cI cJ a he dp co li op wd tl lc sf lf x1 x2) (ga (adC a) s.heap.size)) ([.ref (a 17), .int x1, .int x2] : List Value).toArray s 0 0 1 6 (ga (adC a) s.heap.size) = Z
  obtain ⟨A, hAe⟩ : ∃ A, A = ga (adC a) s.heap.size := ⟨_, rfl⟩
  rw [← hAe] at hst hAC hA0 hI hZ
  refine sv_start hI (fun H locs hI => ?_)
  obtain ⟨⟨o1, o2⟩, ⟨o3, o4⟩, ⟨o5, o6⟩, ⟨o7, o8⟩, ⟨o9, o10⟩, ⟨o11, o12⟩, ⟨o13, o14⟩, ⟨o15, o16⟩, o17, -⟩ := id hok
  have gx1 := sn_rng x1
  have gx2 := sn_rng x2
  have j5 : ∀ (n : Nat) (H : Heap) (locs : List Loc) (ls : Array Slot) (v5_3 v5_4 : Int32), sI (dC, dI) vcl cI cJ (gsC a he dp co li op wd tl lc sf lf) A s.heap H locs → okC he dp co li op wd tl lc sf lf → (-2147483648) ≤ v5_3.toInt → v5_3.toInt ≤ 2147483647 → 0 ≤ v5_4.toInt → v5_4.toInt ≤ 512 → lv_has ls 6 [(0, .ref (a 17)), (1, .int x1), (2, .int x2), (3, .int v5_3), (4, .int v5_4)] → 512 - v5_4.toInt < (n : Int) → W p l e (headSpec tw_tbl rm_Tr_propertyPlace).room s m ([.ref (a 17), .int x1, .int x2] : List Value).toArray below meth c H locs 0 0 Z (F0 m 5 ls []) := by
    intro n
    induction n with
    | zero => intro H locs ls v5_3 v5_4 hI hok g5_0 g5_1 g5_2 g5_3 hl hme; exfalso; obtain ⟨⟨o18, o19⟩, ⟨o20, o21⟩, ⟨o22, o23⟩, ⟨o24, o25⟩, ⟨o26, o27⟩, ⟨o28, o29⟩, ⟨o30, o31⟩, ⟨o32, o33⟩, o34, -⟩ := id hok; omega
    | succ n ih =>
      intro H locs ls v5_3 v5_4 hI hok g5_0 g5_1 g5_2 g5_3 hl hme
      obtain ⟨⟨o35, o36⟩, ⟨o37, o38⟩, ⟨o39, o40⟩, ⟨o41, o42⟩, ⟨o43, o44⟩, ⟨o45, o46⟩, ⟨o47, o48⟩, ⟨o49, o50⟩, o51, -⟩ := id hok
      refine lv_iload hx hb d_Tr_propertyPlace_5 (lv_at hl 4 rfl) ?_
      refine sn_sipush hx hb d_Tr_propertyPlace_7 (by decide) (fun z52 hz52 => ?_)
      refine sn_icmp_ge (tgt := 59) hx hb d_Tr_propertyPlace_10 (by decide) (fun b53 => ?_) (fun b53 => ?_)
      · refine W.widen (k := 0) (n := 0) (Nat.le_of_ble_eq_true rfl) (Nat.le_of_ble_eq_true rfl) ?_
        subst hZ
        exact tz_thrown (tth_Tr_IllegalArgumentException hx hb hfl hown hts (hst _ _ hI.2) (by rw [hml]; exact hl.1) d_Tr_propertyPlace_59 d_Tr_propertyPlace_62 d_Tr_propertyPlace_63 d_Tr_propertyPlace_66 (tx_noH B (hts _ mw_827) _) (Nat.le_of_ble_eq_true rfl) (Nat.le_of_ble_eq_true rfl) (Nat.le_of_ble_eq_true rfl) (Nat.le_of_ble_eq_true rfl) (fun t ce hW hz hk hce hcl hvm => ⟨⟨⟨fun v9 hv9 => (by cases hv9), fun x9 hx9 => by cases hx9; exact (⟨⟨ce, hce, hcl, hvm⟩, hok, sh_kept hI.1 hk⟩)⟩, ta_thrown hI.2 hz hk⟩, _, rfl⟩) hI.2.2.2 hlocks)
      · refine lv_aload_n hx hb d_Tr_propertyPlace_13 rfl (lv_at hl 0 rfl) ?_
        refine sv_getr (C := "StoryMachine$Tree") (T := T_Tr) (N := 1) hx hb hts in_Tr hown hK hI 17 kC_17 rfl 0 (by decide) (hts _ mw_181) rfl d_Tr_propertyPlace_14 ?_
        refine lv_iload_n hx hb d_Tr_propertyPlace_17 rfl (lv_at hl 3 rfl) ?_
        refine tz_call (A1 := ga (adC a) H.size) (tz_runV (C := "StoryMachine$Memory") (As := [.int v5_3]) (rest := []) ⟨hx, hb, hml, hown, hts⟩ (c_Me_byteAt l hfl dC dI cI cJ a H.size he dp co li op wd tl lc sf lf v5_3 hok) (tx_cb (n := 1) hts rfl rfl ⟨Nat.le_of_ble_eq_true rfl, Nat.le_of_ble_eq_true rfl⟩ (tx_code.of (hts _ mw_511)) (hts _ mw_2) (by decide +kernel) (hts _ mw_748)) (hts _ mw_509) (hts _ mw_510) ⟨tz_blind, sv_recv (q0 := 1) hts in_Me hK hI kC_1 rfl, fun U hU hW => ⟨rfl, by rw [hU], by rw [hU]; exact hI.1, va_K.moved hW.alike hK, hst _ _ hI.2 U hU hW⟩⟩ rfl rfl hl.1 rfl (lv_room (Nat.le_of_ble_eq_true rfl)) d_Tr_propertyPlace_18 ⟨Nat.le_of_ble_eq_true rfl, Nat.le_of_ble_eq_true rfl⟩) hI.2 (fun q _ h => ga_sub hAC hA0 hI.2 q h) (ga_sub hAC hA0 hI.2) (fun v t H1 locs1 ht hWt hpost _ _ hS => ?_) (fun x t H1 locs1 ht hWt hpost _ _ hS => ?_)
        · rcases hpost.1 _ rfl with ⟨z54, hv, c55, c55_0, c55_1, c55_2, c55_3, hI1⟩
          cases hv
          have hI : sI (dC, dI) vcl cI cJ (gsC a he dp co li op wd tl lc sf lf) A s.heap H1 locs1 := ⟨by rw [← ht]; exact hI1, hS⟩
          clear hpost hI1 hS ht hWt
          revert hI; generalize H1 = H; generalize locs1 = locs; intro hI
          refine lv_istore (lv' := [(5, .int z54), (0, .ref (a 17)), (1, .int x1), (2, .int x2), (3, .int v5_3), (4, .int v5_4)]) hx hb d_Tr_propertyPlace_21 hl (by decide) rfl (fun ls hl => ?_)
          refine lv_iload hx hb d_Tr_propertyPlace_23 (lv_at hl 0 rfl) ?_
          refine sn_if_ne (tgt := 30) hx hb d_Tr_propertyPlace_25 (by decide) (fun b56 => ?_) (fun b56 => ?_)
          · refine lv_iload hx hb d_Tr_propertyPlace_30 (lv_at hl 0 rfl) ?_
            refine sn_bipush hx hb d_Tr_propertyPlace_32 (by decide) (fun z57 hz57 => ?_)
            refine sn_iand (k := 5) (M := 31) hx hb d_Tr_propertyPlace_34 (by decide) (by decide) (by omega) (fun z58 hz58a hz58b hz58c => ?_)
            clear hz58c
            refine lv_iload_n hx hb d_Tr_propertyPlace_35 rfl (lv_at hl 3 rfl) ?_
            refine sn_icmp_ne (tgt := 43) hx hb d_Tr_propertyPlace_36 (by decide) (fun b59 => ?_) (fun b59 => ?_)
            · refine lv_iload_n hx hb d_Tr_propertyPlace_43 rfl (lv_at hl 4 rfl) ?_
              refine sn_iconst hx hb d_Tr_propertyPlace_44 (by decide) (fun z60 hz60 => ?_)
              refine lv_iload hx hb d_Tr_propertyPlace_45 (lv_at hl 0 rfl) ?_
              refine tz_call (A1 := ga (adC a) H.size) (tz_runS (As := [.int z54]) (rest := [.int z60, .int v5_3]) ⟨hx, hb, hml, hown, hts⟩ (c_Tr_lengthIn l hfl dC dI cI cJ a H.size he dp co li op wd tl lc sf lf z54 c55) (tx_cb (n := 1) hts rfl rfl ⟨Nat.le_of_ble_eq_true rfl, Nat.le_of_ble_eq_true rfl⟩ (tx_code.of (hts _ mw_763)) (hts _ mw_9) (by decide +kernel) (hts _ mw_761)) (hts _ mw_762) ⟨tz_blind, fun U hU hW => ⟨rfl, by rw [hU], by rw [hU]; exact hI.1, va_K.moved hW.alike hK, hst _ _ hI.2 U hU hW⟩⟩ rfl rfl hl.1 rfl (lv_room (Nat.le_of_ble_eq_true rfl)) d_Tr_propertyPlace_47 ⟨Nat.le_of_ble_eq_true rfl, Nat.le_of_ble_eq_true rfl⟩) hI.2 (fun q _ h => ga_sub hAC hA0 hI.2 q h) (ga_sub hAC hA0 hI.2) (fun v t H1 locs1 ht hWt hpost _ _ hS => ?_) (fun x t H1 locs1 ht hWt hpost _ _ hS => (hpost.2 x rfl).elim)
              rcases hpost.1 _ rfl with ⟨z61, hv, c62, c62_0, c62_1, hI1⟩
              cases hv
              have hI : sI (dC, dI) vcl cI cJ (gsC a he dp co li op wd tl lc sf lf) A s.heap H1 locs1 := ⟨by rw [← ht]; exact hI1, hS⟩
              clear hpost hI1 hS ht hWt
              revert hI; generalize H1 = H; generalize locs1 = locs; intro hI
              refine sn_iaddT hx hb d_Tr_propertyPlace_50 (fun z63 hz63a hz63b => ?_)
              refine sn_iaddT hx hb d_Tr_propertyPlace_51 (fun z64 hz64a hz64b => ?_)
              refine lv_istore_n (lv' := [(3, .int z64), (5, .int z54), (0, .ref (a 17)), (1, .int x1), (2, .int x2), (4, .int v5_4)]) hx hb d_Tr_propertyPlace_52 rfl hl (by decide) rfl (fun ls hl => ?_)
              refine sn_iinc (k := 5) hx hb d_Tr_propertyPlace_53 hl rfl (by decide) (by decide) (by omega) (by omega) (fun ls z65 hz65 hl => ?_)
              have hl : lv_has ls 6 [(4, .int z65), (3, .int z64), (5, .int z54), (0, .ref (a 17)), (1, .int x1), (2, .int x2)] := hl
              refine lv_goto (tgt := 5) hx hb d_Tr_propertyPlace_56 (by decide) ?_
              exact ih _ _ _ z64 z65 hI c62 (by omega) (by omega) (by omega) (by omega) (lv_sub hl [3, 4, 5, 1, 0] rfl) (by omega)
            · refine lv_iload_n hx hb d_Tr_propertyPlace_39 rfl (lv_at hl 4 rfl) ?_
              refine sn_iconst hx hb d_Tr_propertyPlace_40 (by decide) (fun z66 hz66 => ?_)
              refine sn_iadd hx hb d_Tr_propertyPlace_41 (by omega) (by omega) (fun z67 hz67 => ?_)
              subst hZ
              exact tz_ret (W.iret (v := z67) hx hb hr (fun t ht hW => ⟨⟨fun v9 hv9 => by cases hv9; exact (⟨z67, rfl, c55, by omega, by omega, by rw [ht]; exact hI.1⟩), fun x9 hx9 => (by cases hx9)⟩, hI.2.F ht⟩) hI.2.2.2 d_Tr_propertyPlace_42)
          · refine sn_iconst hx hb d_Tr_propertyPlace_28 (by decide) (fun z68 hz68 => ?_)
            subst hZ
            exact tz_ret (W.iret (v := z68) hx hb hr (fun t ht hW => ⟨⟨fun v9 hv9 => by cases hv9; exact (⟨z68, rfl, c55, by omega, by omega, by rw [ht]; exact hI.1⟩), fun x9 hx9 => (by cases hx9)⟩, hI.2.F ht⟩) hI.2.2.2 d_Tr_propertyPlace_29)
        · rcases hpost.2 _ rfl with ⟨hex, c69, hI1⟩
          have hI : sI (dC, dI) vcl cI cJ (gsC a he dp co li op wd tl lc sf lf) A s.heap H1 locs1 := ⟨by rw [← ht]; exact hI1, hS⟩
          refine tz_widen (k := 1) (n := 6) (Nat.le_of_ble_eq_true rfl) (Nat.le_of_ble_eq_true rfl) ?_
          subst hZ
          exact tz_leave (tx_noH B (hts _ mw_827) _) (fun t9 ht9 hW9 => ⟨⟨fun v9 hv9 => (by cases hv9), fun x9 hx9 => by cases hx9; exact (⟨ta_exm hex ht ht9 hWt hW9, c69, by rw [ht9]; exact hI.1⟩)⟩, hI.2.F ht9⟩) hI.2.2.2 hlocks
  refine lv_iload_n hx hb d_Tr_propertyPlace_0 rfl (lv_at hl 1 rfl) ?_
  refine lv_istore_n (lv' := [(3, .int x1), (0, .ref (a 17)), (1, .int x1), (2, .int x2)]) hx hb d_Tr_propertyPlace_1 rfl hl (by decide) rfl (fun ls hl => ?_)
  refine sn_iconst hx hb d_Tr_propertyPlace_2 (by decide) (fun z70 hz70 => ?_)
  refine lv_istore (lv' := [(4, .int z70), (3, .int x1), (0, .ref (a 17)), (1, .int x1), (2, .int x2)]) hx hb d_Tr_propertyPlace_3 hl (by decide) rfl (fun ls hl => ?_)
  exact j5 513 _ _ _ x1 z70 hI hok (by omega) (by omega) (by omega) (by omega) (lv_sub hl [2, 3, 4, 1, 0] rfl) (by omega)
abbrev q_Tr_propertyLength (dC : Nat → ClassId) (dI : Nat → Nat → Nat) (cI cJ : ClassId) (a : Nat → Nat) (he dp co li op wd tl lc : Int) (sf lf : Nat → Int32) (x1 : Int32) : Outcome → State → Prop := fun o t => (∀ v, o = .returned v → ((∃ (z : Int32), v = some (.int z) ∧ okC he dp co li op wd tl lc sf lf ∧ (-2147483648) ≤ z.toInt ∧ z.toInt ≤ 2147483647 ∧ sh_I (dC, dI) vcl cI cJ (gsC a he dp co li op wd tl lc sf lf) t.heap))) ∧ (∀ x, o = .threw x → ((ta_Ex "java/lang/IllegalArgumentException" x t ∧ okC he dp co li op wd tl lc sf lf ∧ sh_I (dC, dI) vcl cI cJ (gsC a he dp co li op wd tl lc sf lf) t.heap)))
def rm_Tr_propertyLength : Room := { frames := 8, cells := 1, slots := 6, locals := 151 }
set_option maxHeartbeats 4000000 in
set_option maxRecDepth 100000 in
theorem c_Tr_propertyLength (l : Launch) (hfl : l.flags = pinnedFlags ++ [noTraceFlag]) (dC : Nat → ClassId) (dI : Nat → Nat → Nat) (cI cJ : ClassId) (a : Nat → Nat) (sz : Nat) (he dp co li op wd tl lc : Int) (sf lf : Nat → Int32) (x1 : Int32) (hok : okC he dp co li op wd tl lc sf lf) : tz_Met l ⟨"StoryMachine$Tree", "propertyLength", "(I)I"⟩ tw_tbl rm_Tr_propertyLength (tzP (dC, dI) vcl cI cJ (gsC a he dp co li op wd tl lc sf lf) (adC a) [.ref (a 17), .int x1] sz) (tq_Q (q_Tr_propertyLength dC dI cI cJ a he dp co li op wd tl lc sf lf x1) (ga (adC a) sz)) 0 0 1 6 (ga (adC a) sz) := by
  refine tz_ofW (cc := prog_10_method_16_code) (maxL := 2) (ret := (some .int)) (by decide) (tx_isM mw_760) ?_
  intro p e s m args below meth c s₁ B hml hv
  obtain ⟨rfl, hsz, hI0, hK, hst0⟩ := hv
  have hx := B.exec
  have hb := B.bytes
  have hr := B.returns
  have hts := atoms_spec (ws := tw_tbl) B.pre
  have hown : s.vm.findClass "StoryMachine$Tree" = some m.cls := findClass_of_methodNamed B.named
  have hlocks := B.notSynchronized
  subst hsz
  have hst := fun (H : Heap) (locs : List Loc) (hS : va_S (ga (adC a) s.heap.size) s.heap H locs) (U : State) (hU : U.heap = H) (hW : s.WarmedH U.vm) => zS_all adC_map hI0 hst0 hS hU hW
  have hAC : ∀ q ∈ adC a, ga (adC a) s.heap.size q := fun q h => Or.inl h
  have hA0 : ∀ q, s.heap.size ≤ q → ga (adC a) s.heap.size q := fun q h => Or.inr h
  have hI : sI (dC, dI) vcl cI cJ (gsC a he dp co li op wd tl lc sf lf) (ga (adC a) s.heap.size) s.heap s.heap [] := ⟨hI0, va_S.rf⟩
  clear hI0 hst0
  have hl := lv_entry ([.ref (a 17), .int x1]) (n := 2) (Nat.le_of_ble_eq_true rfl)
  rw [lg_entry_eq]
  generalize (lg_sl ([.ref (a 17), .int x1]) ++ List.replicate (2 - (lg_sl ([.ref (a 17), .int x1])).length) Slot.unset).toArray = ls at hl ⊢
  have hl : lv_has ls 2 [(0, .ref (a 17)), (1, .int x1)] := hl
  generalize hZ : tz_MQ below (tq_Q (q_Tr_propertyLength dC dI cI cJ a he dp co li op wd tl lc sf lf x1) (ga (adC a) s.heap.size)) ([.ref (a 17), .int x1] : List Value).toArray s 0 0 1 6 (ga (adC a) s.heap.size) = Z
  obtain ⟨A, hAe⟩ : ∃ A, A = ga (adC a) s.heap.size := ⟨_, rfl⟩
  rw [← hAe] at hst hAC hA0 hI hZ
  refine sv_start hI (fun H locs hI => ?_)
  obtain ⟨⟨o1, o2⟩, ⟨o3, o4⟩, ⟨o5, o6⟩, ⟨o7, o8⟩, ⟨o9, o10⟩, ⟨o11, o12⟩, ⟨o13, o14⟩, ⟨o15, o16⟩, o17, -⟩ := id hok
  have gx1 := sn_rng x1
  refine lv_aload_n hx hb d_Tr_propertyLength_0 rfl (lv_at hl 0 rfl) ?_
  refine sv_getr (C := "StoryMachine$Tree") (T := T_Tr) (N := 1) hx hb hts in_Tr hown hK hI 17 kC_17 rfl 0 (by decide) (hts _ mw_181) rfl d_Tr_propertyLength_1 ?_
  refine lv_iload_n hx hb d_Tr_propertyLength_4 rfl (lv_at hl 1 rfl) ?_
  refine sn_iconst hx hb d_Tr_propertyLength_5 (by decide) (fun z18 hz18 => ?_)
  refine sn_isubT hx hb d_Tr_propertyLength_6 (fun z19 hz19a hz19b => ?_)
  refine tz_call (A1 := ga (adC a) H.size) (tz_runV (C := "StoryMachine$Memory") (As := [.int z19]) (rest := []) ⟨hx, hb, hml, hown, hts⟩ (c_Me_byteAt l hfl dC dI cI cJ a H.size he dp co li op wd tl lc sf lf z19 hok) (tx_cb (n := 1) hts rfl rfl ⟨Nat.le_of_ble_eq_true rfl, Nat.le_of_ble_eq_true rfl⟩ (tx_code.of (hts _ mw_511)) (hts _ mw_2) (by decide +kernel) (hts _ mw_748)) (hts _ mw_509) (hts _ mw_510) ⟨tz_blind, sv_recv (q0 := 1) hts in_Me hK hI kC_1 rfl, fun U hU hW => ⟨rfl, by rw [hU], by rw [hU]; exact hI.1, va_K.moved hW.alike hK, hst _ _ hI.2 U hU hW⟩⟩ rfl rfl hl.1 rfl (lv_room (Nat.le_of_ble_eq_true rfl)) d_Tr_propertyLength_7 ⟨Nat.le_of_ble_eq_true rfl, Nat.le_of_ble_eq_true rfl⟩) hI.2 (fun q _ h => ga_sub hAC hA0 hI.2 q h) (ga_sub hAC hA0 hI.2) (fun v t H1 locs1 ht hWt hpost _ _ hS => ?_) (fun x t H1 locs1 ht hWt hpost _ _ hS => ?_)
  · rcases hpost.1 _ rfl with ⟨z20, hv, c21, c21_0, c21_1, c21_2, c21_3, hI1⟩
    cases hv
    have hI : sI (dC, dI) vcl cI cJ (gsC a he dp co li op wd tl lc sf lf) A s.heap H1 locs1 := ⟨by rw [← ht]; exact hI1, hS⟩
    clear hpost hI1 hS ht hWt
    revert hI; generalize H1 = H; generalize locs1 = locs; intro hI
    refine tz_call (A1 := ga (adC a) H.size) (tz_runS (As := [.int z20]) (rest := []) ⟨hx, hb, hml, hown, hts⟩ (c_Tr_lengthIn l hfl dC dI cI cJ a H.size he dp co li op wd tl lc sf lf z20 c21) (tx_cb (n := 1) hts rfl rfl ⟨Nat.le_of_ble_eq_true rfl, Nat.le_of_ble_eq_true rfl⟩ (tx_code.of (hts _ mw_763)) (hts _ mw_9) (by decide +kernel) (hts _ mw_761)) (hts _ mw_762) ⟨tz_blind, fun U hU hW => ⟨rfl, by rw [hU], by rw [hU]; exact hI.1, va_K.moved hW.alike hK, hst _ _ hI.2 U hU hW⟩⟩ rfl rfl hl.1 rfl (lv_room (Nat.le_of_ble_eq_true rfl)) d_Tr_propertyLength_10 ⟨Nat.le_of_ble_eq_true rfl, Nat.le_of_ble_eq_true rfl⟩) hI.2 (fun q _ h => ga_sub hAC hA0 hI.2 q h) (ga_sub hAC hA0 hI.2) (fun v t H1 locs1 ht hWt hpost _ _ hS => ?_) (fun x t H1 locs1 ht hWt hpost _ _ hS => (hpost.2 x rfl).elim)
    rcases hpost.1 _ rfl with ⟨z22, hv, c23, c23_0, c23_1, hI1⟩
    cases hv
    have hI : sI (dC, dI) vcl cI cJ (gsC a he dp co li op wd tl lc sf lf) A s.heap H1 locs1 := ⟨by rw [← ht]; exact hI1, hS⟩
    clear hpost hI1 hS ht hWt
    revert hI; generalize H1 = H; generalize locs1 = locs; intro hI
    subst hZ
    exact tz_ret (W.iret (v := z22) hx hb hr (fun t ht hW => ⟨⟨fun v9 hv9 => by cases hv9; exact (⟨z22, rfl, c23, by omega, by omega, by rw [ht]; exact hI.1⟩), fun x9 hx9 => (by cases hx9)⟩, hI.2.F ht⟩) hI.2.2.2 d_Tr_propertyLength_13)
  · rcases hpost.2 _ rfl with ⟨hex, c24, hI1⟩
    have hI : sI (dC, dI) vcl cI cJ (gsC a he dp co li op wd tl lc sf lf) A s.heap H1 locs1 := ⟨by rw [← ht]; exact hI1, hS⟩
    refine tz_widen (k := 1) (n := 6) (Nat.le_of_ble_eq_true rfl) (Nat.le_of_ble_eq_true rfl) ?_
    subst hZ
    exact tz_leave (tx_noH B (hts _ mw_760) _) (fun t9 ht9 hW9 => ⟨⟨fun v9 hv9 => (by cases hv9), fun x9 hx9 => by cases hx9; exact (⟨ta_exm hex ht ht9 hWt hW9, c24, by rw [ht9]; exact hI.1⟩)⟩, hI.2.F ht9⟩) hI.2.2.2 hlocks
abbrev q_Tr_defaultOf (dC : Nat → ClassId) (dI : Nat → Nat → Nat) (cI cJ : ClassId) (a : Nat → Nat) (he dp co li op wd tl lc : Int) (sf lf : Nat → Int32) (x1 : Int32) : Outcome → State → Prop := fun o t => (∀ v, o = .returned v → ((∃ (z : Int32), v = some (.int z) ∧ okC he dp co li op wd tl lc sf lf ∧ 0 ≤ z.toInt ∧ z.toInt ≤ 65535 ∧ 1 ≤ x1.toInt ∧ x1.toInt ≤ 7 ∧ sh_I (dC, dI) vcl cI cJ (gsC a he dp co li op wd tl lc sf lf) t.heap))) ∧ (∀ x, o = .threw x → ((ta_Ex "java/lang/IllegalArgumentException" x t ∧ okC he dp co li op wd tl lc sf lf ∧ sh_I (dC, dI) vcl cI cJ (gsC a he dp co li op wd tl lc sf lf) t.heap)))
def rm_Tr_defaultOf : Room := { frames := 8, cells := 1, slots := 6, locals := 151 }
set_option maxHeartbeats 4000000 in
set_option maxRecDepth 100000 in
theorem c_Tr_defaultOf (l : Launch) (hfl : l.flags = pinnedFlags ++ [noTraceFlag]) (dC : Nat → ClassId) (dI : Nat → Nat → Nat) (cI cJ : ClassId) (a : Nat → Nat) (sz : Nat) (he dp co li op wd tl lc : Int) (sf lf : Nat → Int32) (x1 : Int32) (hok : okC he dp co li op wd tl lc sf lf) : tz_Met l ⟨"StoryMachine$Tree", "defaultOf", "(I)I"⟩ tw_tbl rm_Tr_defaultOf (tzP (dC, dI) vcl cI cJ (gsC a he dp co li op wd tl lc sf lf) (adC a) [.ref (a 17), .int x1] sz) (tq_Q (q_Tr_defaultOf dC dI cI cJ a he dp co li op wd tl lc sf lf x1) (ga (adC a) sz)) 0 0 1 6 (ga (adC a) sz) := by
  refine tz_ofW (cc := prog_10_method_18_code) (maxL := 2) (ret := (some .int)) (by decide) (tx_isM mw_831) ?_
  intro p e s m args below meth c s₁ B hml hv
  obtain ⟨rfl, hsz, hI0, hK, hst0⟩ := hv
  have hx := B.exec
  have hb := B.bytes
  have hr := B.returns
  have hts := atoms_spec (ws := tw_tbl) B.pre
  have hown : s.vm.findClass "StoryMachine$Tree" = some m.cls := findClass_of_methodNamed B.named
  have hlocks := B.notSynchronized
  subst hsz
  have hst := fun (H : Heap) (locs : List Loc) (hS : va_S (ga (adC a) s.heap.size) s.heap H locs) (U : State) (hU : U.heap = H) (hW : s.WarmedH U.vm) => zS_all adC_map hI0 hst0 hS hU hW
  have hAC : ∀ q ∈ adC a, ga (adC a) s.heap.size q := fun q h => Or.inl h
  have hA0 : ∀ q, s.heap.size ≤ q → ga (adC a) s.heap.size q := fun q h => Or.inr h
  have hI : sI (dC, dI) vcl cI cJ (gsC a he dp co li op wd tl lc sf lf) (ga (adC a) s.heap.size) s.heap s.heap [] := ⟨hI0, va_S.rf⟩
  clear hI0 hst0
  have hl := lv_entry ([.ref (a 17), .int x1]) (n := 2) (Nat.le_of_ble_eq_true rfl)
  rw [lg_entry_eq]
  generalize (lg_sl ([.ref (a 17), .int x1]) ++ List.replicate (2 - (lg_sl ([.ref (a 17), .int x1])).length) Slot.unset).toArray = ls at hl ⊢
  have hl : lv_has ls 2 [(0, .ref (a 17)), (1, .int x1)] := hl
  generalize hZ : tz_MQ below (tq_Q (q_Tr_defaultOf dC dI cI cJ a he dp co li op wd tl lc sf lf x1) (ga (adC a) s.heap.size)) ([.ref (a 17), .int x1] : List Value).toArray s 0 0 1 6 (ga (adC a) s.heap.size) = Z
  obtain ⟨A, hAe⟩ : ∃ A, A = ga (adC a) s.heap.size := ⟨_, rfl⟩
  rw [← hAe] at hst hAC hA0 hI hZ
  refine sv_start hI (fun H locs hI => ?_)
  obtain ⟨⟨o1, o2⟩, ⟨o3, o4⟩, ⟨o5, o6⟩, ⟨o7, o8⟩, ⟨o9, o10⟩, ⟨o11, o12⟩, ⟨o13, o14⟩, ⟨o15, o16⟩, o17, -⟩ := id hok
  have gx1 := sn_rng x1
  have j11 : ∀ (H : Heap) (locs : List Loc) (ls : Array Slot), sI (dC, dI) vcl cI cJ (gsC a he dp co li op wd tl lc sf lf) A s.heap H locs → okC he dp co li op wd tl lc sf lf → lv_has ls 2 [(0, .ref (a 17)), (1, .int x1)] → W p l e (headSpec tw_tbl rm_Tr_defaultOf).room s m ([.ref (a 17), .int x1] : List Value).toArray below meth c H locs 0 0 Z (F0 m 11 ls []) := by
    intro H locs ls hI hok hl
    obtain ⟨⟨o18, o19⟩, ⟨o20, o21⟩, ⟨o22, o23⟩, ⟨o24, o25⟩, ⟨o26, o27⟩, ⟨o28, o29⟩, ⟨o30, o31⟩, ⟨o32, o33⟩, o34, -⟩ := id hok
    refine W.widen (k := 0) (n := 0) (Nat.le_of_ble_eq_true rfl) (Nat.le_of_ble_eq_true rfl) ?_
    subst hZ
    exact tz_thrown (tth_Tr_IllegalArgumentException hx hb hfl hown hts (hst _ _ hI.2) (by rw [hml]; exact hl.1) d_Tr_defaultOf_11 d_Tr_defaultOf_14 d_Tr_defaultOf_15 d_Tr_defaultOf_18 (tx_noH B (hts _ mw_831) _) (Nat.le_of_ble_eq_true rfl) (Nat.le_of_ble_eq_true rfl) (Nat.le_of_ble_eq_true rfl) (Nat.le_of_ble_eq_true rfl) (fun t ce hW hz hk hce hcl hvm => ⟨⟨⟨fun v9 hv9 => (by cases hv9), fun x9 hx9 => by cases hx9; exact (⟨⟨ce, hce, hcl, hvm⟩, hok, sh_kept hI.1 hk⟩)⟩, ta_thrown hI.2 hz hk⟩, _, rfl⟩) hI.2.2.2 hlocks)
  refine lv_iload_n hx hb d_Tr_defaultOf_0 rfl (lv_at hl 1 rfl) ?_
  refine sn_iconst hx hb d_Tr_defaultOf_1 (by decide) (fun z35 hz35 => ?_)
  refine sn_icmp_lt (tgt := 11) hx hb d_Tr_defaultOf_2 (by decide) (fun b36 => ?_) (fun b36 => ?_)
  · exact j11 _ _ _  hI hok (lv_sub hl [0, 1] rfl)
  · refine lv_iload_n hx hb d_Tr_defaultOf_5 rfl (lv_at hl 1 rfl) ?_
    refine sn_bipush hx hb d_Tr_defaultOf_6 (by decide) (fun z37 hz37 => ?_)
    refine sn_icmp_le (tgt := 19) hx hb d_Tr_defaultOf_8 (by decide) (fun b38 => ?_) (fun b38 => ?_)
    · refine lv_aload_n hx hb d_Tr_defaultOf_19 rfl (lv_at hl 0 rfl) ?_
      refine sv_getr (C := "StoryMachine$Tree") (T := T_Tr) (N := 1) hx hb hts in_Tr hown hK hI 17 kC_17 rfl 0 (by decide) (hts _ mw_181) rfl d_Tr_defaultOf_20 ?_
      refine lv_aload_n hx hb d_Tr_defaultOf_23 rfl (lv_at hl 0 rfl) ?_
      refine sv_getr (C := "StoryMachine$Tree") (T := T_Tr) (N := 1) hx hb hts in_Tr hown hK hI 17 kC_17 rfl 0 (by decide) (hts _ mw_181) rfl d_Tr_defaultOf_24 ?_
      refine sn_bipush hx hb d_Tr_defaultOf_27 (by decide) (fun z39 hz39 => ?_)
      refine tz_call (A1 := ga (adC a) H.size) (tz_runV (C := "StoryMachine$Memory") (As := [.int z39]) (rest := [.ref (a 1)]) ⟨hx, hb, hml, hown, hts⟩ (c_Me_wordAt l hfl dC dI cI cJ a H.size he dp co li op wd tl lc sf lf z39 hok) (tx_cb (n := 1) hts rfl rfl ⟨Nat.le_of_ble_eq_true rfl, Nat.le_of_ble_eq_true rfl⟩ (tx_code.of (hts _ mw_440)) (hts _ mw_2) (by decide +kernel) (hts _ mw_747)) (hts _ mw_438) (hts _ mw_439) ⟨tz_blind, sv_recv (q0 := 1) hts in_Me hK hI kC_1 rfl, fun U hU hW => ⟨rfl, by rw [hU], by rw [hU]; exact hI.1, va_K.moved hW.alike hK, hst _ _ hI.2 U hU hW⟩⟩ rfl rfl hl.1 rfl (lv_room (Nat.le_of_ble_eq_true rfl)) d_Tr_defaultOf_29 ⟨Nat.le_of_ble_eq_true rfl, Nat.le_of_ble_eq_true rfl⟩) hI.2 (fun q _ h => ga_sub hAC hA0 hI.2 q h) (ga_sub hAC hA0 hI.2) (fun v t H1 locs1 ht hWt hpost _ _ hS => ?_) (fun x t H1 locs1 ht hWt hpost _ _ hS => ?_)
      · rcases hpost.1 _ rfl with ⟨z40, hv, c41, c41_0, c41_1, c41_2, c41_3, hI1⟩
        cases hv
        have hI : sI (dC, dI) vcl cI cJ (gsC a he dp co li op wd tl lc sf lf) A s.heap H1 locs1 := ⟨by rw [← ht]; exact hI1, hS⟩
        clear hpost hI1 hS ht hWt
        revert hI; generalize H1 = H; generalize locs1 = locs; intro hI
        refine sn_iconst hx hb d_Tr_defaultOf_32 (by decide) (fun z42 hz42 => ?_)
        refine lv_iload_n hx hb d_Tr_defaultOf_33 rfl (lv_at hl 1 rfl) ?_
        refine sn_iconst hx hb d_Tr_defaultOf_34 (by decide) (fun z43 hz43 => ?_)
        refine sn_isub hx hb d_Tr_defaultOf_35 (by omega) (by omega) (fun z44 hz44 => ?_)
        refine sn_imulL (k := 2) hx hb d_Tr_defaultOf_36 (by omega) (by omega) (by omega) (fun z45 hz45 => ?_)
        refine sn_iadd hx hb d_Tr_defaultOf_37 (by omega) (by omega) (fun z46 hz46 => ?_)
        refine tz_call (A1 := ga (adC a) H.size) (tz_runV (C := "StoryMachine$Memory") (As := [.int z46]) (rest := []) ⟨hx, hb, hml, hown, hts⟩ (c_Me_wordAt l hfl dC dI cI cJ a H.size he dp co li op wd tl lc sf lf z46 c41) (tx_cb (n := 1) hts rfl rfl ⟨Nat.le_of_ble_eq_true rfl, Nat.le_of_ble_eq_true rfl⟩ (tx_code.of (hts _ mw_440)) (hts _ mw_2) (by decide +kernel) (hts _ mw_747)) (hts _ mw_438) (hts _ mw_439) ⟨tz_blind, sv_recv (q0 := 1) hts in_Me hK hI kC_1 rfl, fun U hU hW => ⟨rfl, by rw [hU], by rw [hU]; exact hI.1, va_K.moved hW.alike hK, hst _ _ hI.2 U hU hW⟩⟩ rfl rfl hl.1 rfl (lv_room (Nat.le_of_ble_eq_true rfl)) d_Tr_defaultOf_38 ⟨Nat.le_of_ble_eq_true rfl, Nat.le_of_ble_eq_true rfl⟩) hI.2 (fun q _ h => ga_sub hAC hA0 hI.2 q h) (ga_sub hAC hA0 hI.2) (fun v t H1 locs1 ht hWt hpost _ _ hS => ?_) (fun x t H1 locs1 ht hWt hpost _ _ hS => ?_)
        · rcases hpost.1 _ rfl with ⟨z47, hv, c48, c48_0, c48_1, c48_2, c48_3, hI1⟩
          cases hv
          have hI : sI (dC, dI) vcl cI cJ (gsC a he dp co li op wd tl lc sf lf) A s.heap H1 locs1 := ⟨by rw [← ht]; exact hI1, hS⟩
          clear hpost hI1 hS ht hWt
          revert hI; generalize H1 = H; generalize locs1 = locs; intro hI
          subst hZ
          exact tz_ret (W.iret (v := z47) hx hb hr (fun t ht hW => ⟨⟨fun v9 hv9 => by cases hv9; exact (⟨z47, rfl, c48, by omega, by omega, by omega, by omega, by rw [ht]; exact hI.1⟩), fun x9 hx9 => (by cases hx9)⟩, hI.2.F ht⟩) hI.2.2.2 d_Tr_defaultOf_41)
        · rcases hpost.2 _ rfl with ⟨hex, c49, hI1⟩
          have hI : sI (dC, dI) vcl cI cJ (gsC a he dp co li op wd tl lc sf lf) A s.heap H1 locs1 := ⟨by rw [← ht]; exact hI1, hS⟩
          refine tz_widen (k := 1) (n := 6) (Nat.le_of_ble_eq_true rfl) (Nat.le_of_ble_eq_true rfl) ?_
          subst hZ
          exact tz_leave (tx_noH B (hts _ mw_831) _) (fun t9 ht9 hW9 => ⟨⟨fun v9 hv9 => (by cases hv9), fun x9 hx9 => by cases hx9; exact (⟨ta_exm hex ht ht9 hWt hW9, c49, by rw [ht9]; exact hI.1⟩)⟩, hI.2.F ht9⟩) hI.2.2.2 hlocks
      · rcases hpost.2 _ rfl with ⟨hex, c50, hI1⟩
        have hI : sI (dC, dI) vcl cI cJ (gsC a he dp co li op wd tl lc sf lf) A s.heap H1 locs1 := ⟨by rw [← ht]; exact hI1, hS⟩
        refine tz_widen (k := 1) (n := 6) (Nat.le_of_ble_eq_true rfl) (Nat.le_of_ble_eq_true rfl) ?_
        subst hZ
        exact tz_leave (tx_noH B (hts _ mw_831) _) (fun t9 ht9 hW9 => ⟨⟨fun v9 hv9 => (by cases hv9), fun x9 hx9 => by cases hx9; exact (⟨ta_exm hex ht ht9 hWt hW9, c50, by rw [ht9]; exact hI.1⟩)⟩, hI.2.F ht9⟩) hI.2.2.2 hlocks
    · exact j11 _ _ _  hI hok (lv_sub hl [0, 1] rfl)
abbrev q_Tr_propertyValue (dC : Nat → ClassId) (dI : Nat → Nat → Nat) (cI cJ : ClassId) (a : Nat → Nat) (he dp co li op wd tl lc : Int) (sf lf : Nat → Int32) (x1 : Int32) (x2 : Int32) : Outcome → State → Prop := fun o t => (∀ v, o = .returned v → ((∃ (z : Int32), v = some (.int z) ∧ okC he dp co li op wd tl lc sf lf ∧ 0 ≤ z.toInt ∧ z.toInt ≤ 65535 ∧ sh_I (dC, dI) vcl cI cJ (gsC a he dp co li op wd tl lc sf lf) t.heap))) ∧ (∀ x, o = .threw x → ((ta_Ex "java/lang/IllegalArgumentException" x t ∧ okC he dp co li op wd tl lc sf lf ∧ sh_I (dC, dI) vcl cI cJ (gsC a he dp co li op wd tl lc sf lf) t.heap)))
def rm_Tr_propertyValue : Room := { frames := 9, cells := 1, slots := 6, locals := 176 }
set_option maxHeartbeats 4000000 in
set_option maxRecDepth 100000 in
theorem c_Tr_propertyValue (l : Launch) (hfl : l.flags = pinnedFlags ++ [noTraceFlag]) (dC : Nat → ClassId) (dI : Nat → Nat → Nat) (cI cJ : ClassId) (a : Nat → Nat) (sz : Nat) (he dp co li op wd tl lc : Int) (sf lf : Nat → Int32) (x1 : Int32) (x2 : Int32) (hok : okC he dp co li op wd tl lc sf lf) : tz_Met l ⟨"StoryMachine$Tree", "propertyValue", "(II)I"⟩ tw_tbl rm_Tr_propertyValue (tzP (dC, dI) vcl cI cJ (gsC a he dp co li op wd tl lc sf lf) (adC a) [.ref (a 17), .int x1, .int x2] sz) (tq_Q (q_Tr_propertyValue dC dI cI cJ a he dp co li op wd tl lc sf lf x1 x2) (ga (adC a) sz)) 0 0 1 6 (ga (adC a) sz) := by
  refine tz_ofW (cc := prog_10_method_17_code) (maxL := 5) (ret := (some .int)) (by decide) (tx_isM mw_823) ?_
  intro p e s m args below meth c s₁ B hml hv
  obtain ⟨rfl, hsz, hI0, hK, hst0⟩ := hv
  have hx := B.exec
  have hb := B.bytes
  have hr := B.returns
  have hts := atoms_spec (ws := tw_tbl) B.pre
  have hown : s.vm.findClass "StoryMachine$Tree" = some m.cls := findClass_of_methodNamed B.named
  have hlocks := B.notSynchronized
  subst hsz
  have hst := fun (H : Heap) (locs : List Loc) (hS : va_S (ga (adC a) s.heap.size) s.heap H locs) (U : State) (hU : U.heap = H) (hW : s.WarmedH U.vm) => zS_all adC_map hI0 hst0 hS hU hW
  have hAC : ∀ q ∈ adC a, ga (adC a) s.heap.size q := fun q h => Or.inl h
  have hA0 : ∀ q, s.heap.size ≤ q → ga (adC a) s.heap.size q := fun q h => Or.inr h
  have hI : sI (dC, dI) vcl cI cJ (gsC a he dp co li op wd tl lc sf lf) (ga (adC a) s.heap.size) s.heap s.heap [] := ⟨hI0, va_S.rf⟩
  clear hI0 hst0
  have hl := lv_entry ([.ref (a 17), .int x1, .int x2]) (n := 5) (Nat.le_of_ble_eq_true rfl)
  rw [lg_entry_eq]
  generalize (lg_sl ([.ref (a 17), .int x1, .int x2]) ++ List.replicate (5 - (lg_sl ([.ref (a 17), .int x1, .int x2])).length) Slot.unset).toArray = ls at hl ⊢
  have hl : lv_has ls 5 [(0, .ref (a 17)), (1, .int x1), (2, .int x2)] := hl
  generalize hZ : tz_MQ below (tq_Q (q_Tr_propertyValue dC dI cI cJ a he dp co li op wd tl lc sf lf x1 x2) (ga (adC a) s.heap.size)) ([.ref (a 17), .int x1, .int x2] : List Value).toArray s 0 0 1 6 (ga (adC a) s.heap.size) = Z
  obtain ⟨A, hAe⟩ : ∃ A, A = ga (adC a) s.heap.size := ⟨_, rfl⟩
  rw [← hAe] at hst hAC hA0 hI hZ
  refine sv_start hI (fun H locs hI => ?_)
  obtain ⟨⟨o1, o2⟩, ⟨o3, o4⟩, ⟨o5, o6⟩, ⟨o7, o8⟩, ⟨o9, o10⟩, ⟨o11, o12⟩, ⟨o13, o14⟩, ⟨o15, o16⟩, o17, -⟩ := id hok
  have gx1 := sn_rng x1
  have gx2 := sn_rng x2
  refine lv_aload_n hx hb d_Tr_propertyValue_0 rfl (lv_at hl 0 rfl) ?_
  refine lv_iload_n hx hb d_Tr_propertyValue_1 rfl (lv_at hl 1 rfl) ?_
  refine lv_iload_n hx hb d_Tr_propertyValue_2 rfl (lv_at hl 2 rfl) ?_
  refine tz_call (A1 := ga (adC a) H.size) (tz_runV (C := "StoryMachine$Tree") (As := [.int x1, .int x2]) (rest := []) ⟨hx, hb, hml, hown, hts⟩ (c_Tr_propertyPlace l hfl dC dI cI cJ a H.size he dp co li op wd tl lc sf lf x1 x2 hok) (tx_cb (n := 2) hts rfl rfl ⟨Nat.le_of_ble_eq_true rfl, Nat.le_of_ble_eq_true rfl⟩ (tx_code.of (hts _ mw_827)) (hts _ mw_9) (by decide +kernel) (hts _ mw_824)) (hts _ mw_825) (hts _ mw_826) ⟨tz_blind, sv_recv (q0 := 17) hts in_Tr hK hI kC_17 rfl, fun U hU hW => ⟨rfl, by rw [hU], by rw [hU]; exact hI.1, va_K.moved hW.alike hK, hst _ _ hI.2 U hU hW⟩⟩ rfl rfl hl.1 rfl (lv_room (Nat.le_of_ble_eq_true rfl)) d_Tr_propertyValue_3 ⟨Nat.le_of_ble_eq_true rfl, Nat.le_of_ble_eq_true rfl⟩) hI.2 (fun q _ h => ga_sub hAC hA0 hI.2 q h) (ga_sub hAC hA0 hI.2) (fun v t H1 locs1 ht hWt hpost _ _ hS => ?_) (fun x t H1 locs1 ht hWt hpost _ _ hS => ?_)
  · rcases hpost.1 _ rfl with ⟨z18, hv, c19, c19_0, c19_1, hI1⟩
    cases hv
    have hI : sI (dC, dI) vcl cI cJ (gsC a he dp co li op wd tl lc sf lf) A s.heap H1 locs1 := ⟨by rw [← ht]; exact hI1, hS⟩
    clear hpost hI1 hS ht hWt
    revert hI; generalize H1 = H; generalize locs1 = locs; intro hI
    refine lv_istore_n (lv' := [(3, .int z18), (0, .ref (a 17)), (1, .int x1), (2, .int x2)]) hx hb d_Tr_propertyValue_6 rfl hl (by decide) rfl (fun ls hl => ?_)
    refine lv_iload_n hx hb d_Tr_propertyValue_7 rfl (lv_at hl 0 rfl) ?_
    refine sn_if_ne (tgt := 17) hx hb d_Tr_propertyValue_8 (by decide) (fun b20 => ?_) (fun b20 => ?_)
    · refine lv_aload_n hx hb d_Tr_propertyValue_17 rfl (lv_at hl 1 rfl) ?_
      refine lv_iload_n hx hb d_Tr_propertyValue_18 rfl (lv_at hl 0 rfl) ?_
      refine tz_call (A1 := ga (adC a) H.size) (tz_runV (C := "StoryMachine$Tree") (As := [.int z18]) (rest := []) ⟨hx, hb, hml, hown, hts⟩ (c_Tr_propertyLength l hfl dC dI cI cJ a H.size he dp co li op wd tl lc sf lf z18 c19) (tx_cb (n := 1) hts rfl rfl ⟨Nat.le_of_ble_eq_true rfl, Nat.le_of_ble_eq_true rfl⟩ (tx_code.of (hts _ mw_760)) (hts _ mw_9) (by decide +kernel) (hts _ mw_832)) (hts _ mw_758) (hts _ mw_759) ⟨tz_blind, sv_recv (q0 := 17) hts in_Tr hK hI kC_17 rfl, fun U hU hW => ⟨rfl, by rw [hU], by rw [hU]; exact hI.1, va_K.moved hW.alike hK, hst _ _ hI.2 U hU hW⟩⟩ rfl rfl hl.1 rfl (lv_room (Nat.le_of_ble_eq_true rfl)) d_Tr_propertyValue_19 ⟨Nat.le_of_ble_eq_true rfl, Nat.le_of_ble_eq_true rfl⟩) hI.2 (fun q _ h => ga_sub hAC hA0 hI.2 q h) (ga_sub hAC hA0 hI.2) (fun v t H1 locs1 ht hWt hpost _ _ hS => ?_) (fun x t H1 locs1 ht hWt hpost _ _ hS => ?_)
      · rcases hpost.1 _ rfl with ⟨z21, hv, c22, c22_0, c22_1, hI1⟩
        cases hv
        have hI : sI (dC, dI) vcl cI cJ (gsC a he dp co li op wd tl lc sf lf) A s.heap H1 locs1 := ⟨by rw [← ht]; exact hI1, hS⟩
        clear hpost hI1 hS ht hWt
        revert hI; generalize H1 = H; generalize locs1 = locs; intro hI
        refine lv_istore (lv' := [(4, .int z21), (3, .int z18), (0, .ref (a 17)), (1, .int x1), (2, .int x2)]) hx hb d_Tr_propertyValue_22 hl (by decide) rfl (fun ls hl => ?_)
        refine lv_iload hx hb d_Tr_propertyValue_24 (lv_at hl 0 rfl) ?_
        refine sn_iconst hx hb d_Tr_propertyValue_26 (by decide) (fun z23 hz23 => ?_)
        refine sn_icmp_le (tgt := 38) hx hb d_Tr_propertyValue_27 (by decide) (fun b24 => ?_) (fun b24 => ?_)
        · refine lv_iload hx hb d_Tr_propertyValue_38 (lv_at hl 0 rfl) ?_
          refine sn_iconst hx hb d_Tr_propertyValue_40 (by decide) (fun z25 hz25 => ?_)
          refine sn_icmp_ne (tgt := 55) hx hb d_Tr_propertyValue_41 (by decide) (fun b26 => ?_) (fun b26 => ?_)
          · refine lv_aload_n hx hb d_Tr_propertyValue_55 rfl (lv_at hl 2 rfl) ?_
            refine sv_getr (C := "StoryMachine$Tree") (T := T_Tr) (N := 1) hx hb hts in_Tr hown hK hI 17 kC_17 rfl 0 (by decide) (hts _ mw_181) rfl d_Tr_propertyValue_56 ?_
            refine lv_iload_n hx hb d_Tr_propertyValue_59 rfl (lv_at hl 1 rfl) ?_
            refine tz_call (A1 := ga (adC a) H.size) (tz_runV (C := "StoryMachine$Memory") (As := [.int z18]) (rest := []) ⟨hx, hb, hml, hown, hts⟩ (c_Me_wordAt l hfl dC dI cI cJ a H.size he dp co li op wd tl lc sf lf z18 c22) (tx_cb (n := 1) hts rfl rfl ⟨Nat.le_of_ble_eq_true rfl, Nat.le_of_ble_eq_true rfl⟩ (tx_code.of (hts _ mw_440)) (hts _ mw_2) (by decide +kernel) (hts _ mw_747)) (hts _ mw_438) (hts _ mw_439) ⟨tz_blind, sv_recv (q0 := 1) hts in_Me hK hI kC_1 rfl, fun U hU hW => ⟨rfl, by rw [hU], by rw [hU]; exact hI.1, va_K.moved hW.alike hK, hst _ _ hI.2 U hU hW⟩⟩ rfl rfl hl.1 rfl (lv_room (Nat.le_of_ble_eq_true rfl)) d_Tr_propertyValue_60 ⟨Nat.le_of_ble_eq_true rfl, Nat.le_of_ble_eq_true rfl⟩) hI.2 (fun q _ h => ga_sub hAC hA0 hI.2 q h) (ga_sub hAC hA0 hI.2) (fun v t H1 locs1 ht hWt hpost _ _ hS => ?_) (fun x t H1 locs1 ht hWt hpost _ _ hS => ?_)
            · rcases hpost.1 _ rfl with ⟨z27, hv, c28, c28_0, c28_1, c28_2, c28_3, hI1⟩
              cases hv
              have hI : sI (dC, dI) vcl cI cJ (gsC a he dp co li op wd tl lc sf lf) A s.heap H1 locs1 := ⟨by rw [← ht]; exact hI1, hS⟩
              clear hpost hI1 hS ht hWt
              revert hI; generalize H1 = H; generalize locs1 = locs; intro hI
              subst hZ
              exact tz_ret (W.iret (v := z27) hx hb hr (fun t ht hW => ⟨⟨fun v9 hv9 => by cases hv9; exact (⟨z27, rfl, c28, by omega, by omega, by rw [ht]; exact hI.1⟩), fun x9 hx9 => (by cases hx9)⟩, hI.2.F ht⟩) hI.2.2.2 d_Tr_propertyValue_63)
            · rcases hpost.2 _ rfl with ⟨hex, c29, hI1⟩
              have hI : sI (dC, dI) vcl cI cJ (gsC a he dp co li op wd tl lc sf lf) A s.heap H1 locs1 := ⟨by rw [← ht]; exact hI1, hS⟩
              refine tz_widen (k := 1) (n := 6) (Nat.le_of_ble_eq_true rfl) (Nat.le_of_ble_eq_true rfl) ?_
              subst hZ
              exact tz_leave (tx_noH B (hts _ mw_823) _) (fun t9 ht9 hW9 => ⟨⟨fun v9 hv9 => (by cases hv9), fun x9 hx9 => by cases hx9; exact (⟨ta_exm hex ht ht9 hWt hW9, c29, by rw [ht9]; exact hI.1⟩)⟩, hI.2.F ht9⟩) hI.2.2.2 hlocks
          · refine lv_aload_n hx hb d_Tr_propertyValue_44 rfl (lv_at hl 2 rfl) ?_
            refine sv_getr (C := "StoryMachine$Tree") (T := T_Tr) (N := 1) hx hb hts in_Tr hown hK hI 17 kC_17 rfl 0 (by decide) (hts _ mw_181) rfl d_Tr_propertyValue_45 ?_
            refine lv_iload_n hx hb d_Tr_propertyValue_48 rfl (lv_at hl 1 rfl) ?_
            refine tz_call (A1 := ga (adC a) H.size) (tz_runV (C := "StoryMachine$Memory") (As := [.int z18]) (rest := []) ⟨hx, hb, hml, hown, hts⟩ (c_Me_byteAt l hfl dC dI cI cJ a H.size he dp co li op wd tl lc sf lf z18 c22) (tx_cb (n := 1) hts rfl rfl ⟨Nat.le_of_ble_eq_true rfl, Nat.le_of_ble_eq_true rfl⟩ (tx_code.of (hts _ mw_511)) (hts _ mw_2) (by decide +kernel) (hts _ mw_748)) (hts _ mw_509) (hts _ mw_510) ⟨tz_blind, sv_recv (q0 := 1) hts in_Me hK hI kC_1 rfl, fun U hU hW => ⟨rfl, by rw [hU], by rw [hU]; exact hI.1, va_K.moved hW.alike hK, hst _ _ hI.2 U hU hW⟩⟩ rfl rfl hl.1 rfl (lv_room (Nat.le_of_ble_eq_true rfl)) d_Tr_propertyValue_49 ⟨Nat.le_of_ble_eq_true rfl, Nat.le_of_ble_eq_true rfl⟩) hI.2 (fun q _ h => ga_sub hAC hA0 hI.2 q h) (ga_sub hAC hA0 hI.2) (fun v t H1 locs1 ht hWt hpost _ _ hS => ?_) (fun x t H1 locs1 ht hWt hpost _ _ hS => ?_)
            · rcases hpost.1 _ rfl with ⟨z30, hv, c31, c31_0, c31_1, c31_2, c31_3, hI1⟩
              cases hv
              have hI : sI (dC, dI) vcl cI cJ (gsC a he dp co li op wd tl lc sf lf) A s.heap H1 locs1 := ⟨by rw [← ht]; exact hI1, hS⟩
              clear hpost hI1 hS ht hWt
              revert hI; generalize H1 = H; generalize locs1 = locs; intro hI
              refine lv_goto (tgt := 63) hx hb d_Tr_propertyValue_52 (by decide) ?_
              subst hZ
              exact tz_ret (W.iret (v := z30) hx hb hr (fun t ht hW => ⟨⟨fun v9 hv9 => by cases hv9; exact (⟨z30, rfl, c31, by omega, by omega, by rw [ht]; exact hI.1⟩), fun x9 hx9 => (by cases hx9)⟩, hI.2.F ht⟩) hI.2.2.2 d_Tr_propertyValue_63)
            · rcases hpost.2 _ rfl with ⟨hex, c32, hI1⟩
              have hI : sI (dC, dI) vcl cI cJ (gsC a he dp co li op wd tl lc sf lf) A s.heap H1 locs1 := ⟨by rw [← ht]; exact hI1, hS⟩
              refine tz_widen (k := 1) (n := 6) (Nat.le_of_ble_eq_true rfl) (Nat.le_of_ble_eq_true rfl) ?_
              subst hZ
              exact tz_leave (tx_noH B (hts _ mw_823) _) (fun t9 ht9 hW9 => ⟨⟨fun v9 hv9 => (by cases hv9), fun x9 hx9 => by cases hx9; exact (⟨ta_exm hex ht ht9 hWt hW9, c32, by rw [ht9]; exact hI.1⟩)⟩, hI.2.F ht9⟩) hI.2.2.2 hlocks
        · refine W.widen (k := 0) (n := 0) (Nat.le_of_ble_eq_true rfl) (Nat.le_of_ble_eq_true rfl) ?_
          subst hZ
          exact tz_thrown (tth_Tr_IllegalArgumentException hx hb hfl hown hts (hst _ _ hI.2) (by rw [hml]; exact hl.1) d_Tr_propertyValue_30 d_Tr_propertyValue_33 d_Tr_propertyValue_34 d_Tr_propertyValue_37 (tx_noH B (hts _ mw_823) _) (Nat.le_of_ble_eq_true rfl) (Nat.le_of_ble_eq_true rfl) (Nat.le_of_ble_eq_true rfl) (Nat.le_of_ble_eq_true rfl) (fun t ce hW hz hk hce hcl hvm => ⟨⟨⟨fun v9 hv9 => (by cases hv9), fun x9 hx9 => by cases hx9; exact (⟨⟨ce, hce, hcl, hvm⟩, c22, sh_kept hI.1 hk⟩)⟩, ta_thrown hI.2 hz hk⟩, _, rfl⟩) hI.2.2.2 hlocks)
      · rcases hpost.2 _ rfl with ⟨hex, c33, hI1⟩
        have hI : sI (dC, dI) vcl cI cJ (gsC a he dp co li op wd tl lc sf lf) A s.heap H1 locs1 := ⟨by rw [← ht]; exact hI1, hS⟩
        refine tz_widen (k := 1) (n := 6) (Nat.le_of_ble_eq_true rfl) (Nat.le_of_ble_eq_true rfl) ?_
        subst hZ
        exact tz_leave (tx_noH B (hts _ mw_823) _) (fun t9 ht9 hW9 => ⟨⟨fun v9 hv9 => (by cases hv9), fun x9 hx9 => by cases hx9; exact (⟨ta_exm hex ht ht9 hWt hW9, c33, by rw [ht9]; exact hI.1⟩)⟩, hI.2.F ht9⟩) hI.2.2.2 hlocks
    · refine lv_aload_n hx hb d_Tr_propertyValue_11 rfl (lv_at hl 1 rfl) ?_
      refine lv_iload_n hx hb d_Tr_propertyValue_12 rfl (lv_at hl 3 rfl) ?_
      refine tz_call (A1 := ga (adC a) H.size) (tz_runV (C := "StoryMachine$Tree") (As := [.int x2]) (rest := []) ⟨hx, hb, hml, hown, hts⟩ (c_Tr_defaultOf l hfl dC dI cI cJ a H.size he dp co li op wd tl lc sf lf x2 c19) (tx_cb (n := 1) hts rfl rfl ⟨Nat.le_of_ble_eq_true rfl, Nat.le_of_ble_eq_true rfl⟩ (tx_code.of (hts _ mw_831)) (hts _ mw_9) (by decide +kernel) (hts _ mw_828)) (hts _ mw_830) (hts _ ms_Tr_defaultOf) ⟨tz_blind, sv_recv (q0 := 17) hts in_Tr hK hI kC_17 rfl, fun U hU hW => ⟨rfl, by rw [hU], by rw [hU]; exact hI.1, va_K.moved hW.alike hK, hst _ _ hI.2 U hU hW⟩⟩ rfl rfl hl.1 rfl (lv_room (Nat.le_of_ble_eq_true rfl)) d_Tr_propertyValue_13 ⟨Nat.le_of_ble_eq_true rfl, Nat.le_of_ble_eq_true rfl⟩) hI.2 (fun q _ h => ga_sub hAC hA0 hI.2 q h) (ga_sub hAC hA0 hI.2) (fun v t H1 locs1 ht hWt hpost _ _ hS => ?_) (fun x t H1 locs1 ht hWt hpost _ _ hS => ?_)
      · rcases hpost.1 _ rfl with ⟨z34, hv, c35, c35_0, c35_1, c35_2, c35_3, hI1⟩
        cases hv
        have hI : sI (dC, dI) vcl cI cJ (gsC a he dp co li op wd tl lc sf lf) A s.heap H1 locs1 := ⟨by rw [← ht]; exact hI1, hS⟩
        clear hpost hI1 hS ht hWt
        revert hI; generalize H1 = H; generalize locs1 = locs; intro hI
        subst hZ
        exact tz_ret (W.iret (v := z34) hx hb hr (fun t ht hW => ⟨⟨fun v9 hv9 => by cases hv9; exact (⟨z34, rfl, c35, by omega, by omega, by rw [ht]; exact hI.1⟩), fun x9 hx9 => (by cases hx9)⟩, hI.2.F ht⟩) hI.2.2.2 d_Tr_propertyValue_16)
      · rcases hpost.2 _ rfl with ⟨hex, c36, hI1⟩
        have hI : sI (dC, dI) vcl cI cJ (gsC a he dp co li op wd tl lc sf lf) A s.heap H1 locs1 := ⟨by rw [← ht]; exact hI1, hS⟩
        refine tz_widen (k := 1) (n := 6) (Nat.le_of_ble_eq_true rfl) (Nat.le_of_ble_eq_true rfl) ?_
        subst hZ
        exact tz_leave (tx_noH B (hts _ mw_823) _) (fun t9 ht9 hW9 => ⟨⟨fun v9 hv9 => (by cases hv9), fun x9 hx9 => by cases hx9; exact (⟨ta_exm hex ht ht9 hWt hW9, c36, by rw [ht9]; exact hI.1⟩)⟩, hI.2.F ht9⟩) hI.2.2.2 hlocks
  · rcases hpost.2 _ rfl with ⟨hex, c37, hI1⟩
    have hI : sI (dC, dI) vcl cI cJ (gsC a he dp co li op wd tl lc sf lf) A s.heap H1 locs1 := ⟨by rw [← ht]; exact hI1, hS⟩
    refine tz_widen (k := 1) (n := 6) (Nat.le_of_ble_eq_true rfl) (Nat.le_of_ble_eq_true rfl) ?_
    subst hZ
    exact tz_leave (tx_noH B (hts _ mw_823) _) (fun t9 ht9 hW9 => ⟨⟨fun v9 hv9 => (by cases hv9), fun x9 hx9 => by cases hx9; exact (⟨ta_exm hex ht ht9 hWt hW9, c37, by rw [ht9]; exact hI.1⟩)⟩, hI.2.F ht9⟩) hI.2.2.2 hlocks
