abbrev q_Mo_restore (dC : Nat → ClassId) (dI : Nat → Nat → Nat) (cI cJ : ClassId) (a : Nat → Nat) (th tr dp zi co sh lt ts : Int) (mf : Nat → Int32) : Outcome → State → Prop := fun o t => (∀ v, o = .returned v → ((∃ (tr_ dp_ zi_ : Int) (mf_ : Nat → Int32), v = none ∧ okM th tr_ dp_ zi_ co sh lt ts mf_ ∧ (1 ≤ tr_) ∧ sh_I (dC, dI) vcl cI cJ (gsM a th tr_ dp_ zi_ co sh lt ts mf_) t.heap) ∨ (∃ (dp_ zi_ : Int) (mf_ : Nat → Int32), v = none ∧ okM th tr dp_ zi_ co sh lt ts mf_ ∧ (tr ≤ 0) ∧ sh_I (dC, dI) vcl cI cJ (gsM a th tr dp_ zi_ co sh lt ts mf_) t.heap))) ∧ (∀ x, o = .threw x → (False))
def rm_Mo_restore : Room := { frames := 7, cells := 0, slots := 0, locals := 153 }
set_option maxHeartbeats 4000000 in
set_option maxRecDepth 100000 in
theorem c_Mo_restore (l : Launch) (hfl : l.flags = pinnedFlags ++ [noTraceFlag]) (dC : Nat → ClassId) (dI : Nat → Nat → Nat) (cI cJ : ClassId) (a : Nat → Nat) (sz : Nat) (th tr dp zi co sh lt ts : Int) (mf : Nat → Int32) (hok : okM th tr dp zi co sh lt ts mf) : tz_Met l ⟨"StoryMachineModel", "restore", "()V"⟩ tw_tbl rm_Mo_restore (tzP (dC, dI) vcl cI cJ (gsM a th tr dp zi co sh lt ts mf) a (adM a) [.ref (a 0)] sz) (tq_Q (q_Mo_restore dC dI cI cJ a th tr dp zi co sh lt ts mf) (ga (adM a) sz)) 0 0 0 0 (ga (adM a) sz) := by
  refine tz_ofW (cc := prog_13_method_58_code) (maxL := 1) (ret := none) (by decide) (tx_isM mw_1432) ?_
  intro p e s m args below meth c s₁ B hml hv
  obtain ⟨rfl, hsz, hI0, hK, hst0⟩ := hv
  have hx := B.exec
  have hb := B.bytes
  have hr := B.returns
  have hts := atoms_spec (ws := tw_tbl) B.pre
  have hown : s.vm.findClass "StoryMachineModel" = some m.cls := findClass_of_methodNamed B.named
  have hlocks := B.notSynchronized
  subst hsz
  have hst := fun (H : Heap) (locs : List Loc) (hS : va_S (ga (adM a) s.heap.size) s.heap H locs) (U : State) (hU : U.heap = H) (hW : s.WarmedH U.vm) => zS_all adM_map hI0 hst0 hS hU hW
  have hAC : ∀ q ∈ adM a, ga (adM a) s.heap.size q := fun q h => Or.inl h
  have hA0 : ∀ q, s.heap.size ≤ q → ga (adM a) s.heap.size q := fun q h => Or.inr h
  have hI : sI (dC, dI) vcl cI cJ (gsM a th tr dp zi co sh lt ts mf) (ga (adM a) s.heap.size) s.heap s.heap [] := ⟨hI0, va_S.rf⟩
  clear hI0 hst0
  have hl := lv_entry ([.ref (a 0)]) (n := 1) (Nat.le_of_ble_eq_true rfl)
  rw [lg_entry_eq]
  generalize (lg_sl ([.ref (a 0)]) ++ List.replicate (1 - (lg_sl ([.ref (a 0)])).length) Slot.unset).toArray = ls at hl ⊢
  have hl : lv_has ls 1 [(0, .ref (a 0))] := hl
  generalize hZ : tz_MQ below (tq_Q (q_Mo_restore dC dI cI cJ a th tr dp zi co sh lt ts mf) (ga (adM a) s.heap.size)) ([.ref (a 0)] : List Value).toArray s 0 0 0 0 (ga (adM a) s.heap.size) = Z
  obtain ⟨A, hAe⟩ : ∃ A, A = ga (adM a) s.heap.size := ⟨_, rfl⟩
  rw [← hAe] at hst hAC hA0 hI hZ
  refine sv_start hI (fun H locs hI => ?_)
  obtain ⟨⟨o1, o2⟩, ⟨o3, o4⟩, ⟨o5, o6⟩, ⟨o7, o8⟩, ⟨o9, o10⟩, ⟨o11, o12⟩, ⟨o13, o14⟩, ⟨o15, o16⟩, -⟩ := id hok
  refine lv_aload_n hx hb d_Mo_restore_0 rfl (lv_at hl 0 rfl) ?_
  refine sv_get (C := "StoryMachineModel") (T := T_Mo) (N := 51) hx hb hts in_Mo hown hK hI 0 kM_0 rfl 10 (by decide) (hts _ mw_1073) rfl d_Mo_restore_1 (fun z17 hz17a hz17b => ?_)
  refine sn_if_ne (tgt := 13) hx hb d_Mo_restore_4 (by decide) (fun b18 => ?_) (fun b18 => ?_)
  · refine lv_aload_n hx hb d_Mo_restore_13 rfl (lv_at hl 0 rfl) ?_
    refine sv_getr (C := "StoryMachineModel") (T := T_Mo) (N := 51) hx hb hts in_Mo hown hK hI 0 kM_0 rfl 11 (by decide) (hts _ mw_1074) rfl d_Mo_restore_14 ?_
    refine lv_aload_n hx hb d_Mo_restore_17 rfl (lv_at hl 0 rfl) ?_
    refine sv_getr (C := "StoryMachineModel") (T := T_Mo) (N := 51) hx hb hts in_Mo hown hK hI 0 kM_0 rfl 1 (by decide) (hts _ mw_1064) rfl d_Mo_restore_18 ?_
    refine sn_sipush hx hb d_Mo_restore_21 (by decide) (fun z19 hz19 => ?_)
    refine tz_call (A1 := ga (adM a) H.size) (tz_runS (As := [.ref (a 8), .ref (a 1), .int z19]) (rest := []) ⟨hx, hb, hml, hown, hts⟩ (c_Mo_copy_8_1 l hfl dC dI cI cJ a H.size th tr dp zi co sh lt ts mf z19 hok (by omega) (by omega)) (tx_cb (n := 3) hts rfl rfl ⟨Nat.le_of_ble_eq_true rfl, Nat.le_of_ble_eq_true rfl⟩ (tx_code.of (hts _ mw_1428)) (hts _ mw_12) (by decide +kernel) (hts _ mw_1426)) (hts _ mw_1427) ⟨tz_blind, fun U hU hW => ⟨rfl, by rw [hU], by rw [hU]; exact hI.1, va_K.moved hW.alike hK, hst _ _ hI.2 U hU hW⟩⟩ rfl rfl hl.1 rfl (lv_room (Nat.le_of_ble_eq_true rfl)) d_Mo_restore_24 ⟨Nat.le_of_ble_eq_true rfl, Nat.le_of_ble_eq_true rfl⟩) hI.2 (fun q _ h => ga_sub hAC hA0 hI.2 q h) (ga_sub hAC hA0 hI.2) (fun v t H1 locs1 ht hWt hpost _ _ hS => ?_) (fun x t H1 locs1 ht hWt hpost _ _ hS => (hpost.2 x rfl).elim)
    rcases hpost.1 _ rfl with ⟨f_mf20, hv, c21, hI1⟩
    cases hv
    have hI : sI (dC, dI) vcl cI cJ (gsM a th tr dp zi co sh lt ts f_mf20) A s.heap H1 locs1 := ⟨by rw [← ht]; exact hI1, hS⟩
    obtain ⟨-, -, -, -, -, -, -, -, -⟩ := id c21
    clear hpost hI1 hS ht hWt
    revert hI; generalize H1 = H; generalize locs1 = locs; intro hI
    refine lv_aload_n hx hb d_Mo_restore_27 rfl (lv_at hl 0 rfl) ?_
    refine sv_getr (C := "StoryMachineModel") (T := T_Mo) (N := 51) hx hb hts in_Mo hown hK hI 0 kM_0 rfl 13 (by decide) (hts _ mw_1076) rfl d_Mo_restore_28 ?_
    refine lv_aload_n hx hb d_Mo_restore_31 rfl (lv_at hl 0 rfl) ?_
    refine sv_getr (C := "StoryMachineModel") (T := T_Mo) (N := 51) hx hb hts in_Mo hown hK hI 0 kM_0 rfl 3 (by decide) (hts _ mw_1066) rfl d_Mo_restore_32 ?_
    refine sn_bipush hx hb d_Mo_restore_35 (by decide) (fun z22 hz22 => ?_)
    refine tz_call (A1 := ga (adM a) H.size) (tz_runS (As := [.ref (a 9), .ref (a 2), .int z22]) (rest := []) ⟨hx, hb, hml, hown, hts⟩ (c_Mo_copy_9_2 l hfl dC dI cI cJ a H.size th tr dp zi co sh lt ts f_mf20 z22 c21 (by omega) (by omega)) (tx_cb (n := 3) hts rfl rfl ⟨Nat.le_of_ble_eq_true rfl, Nat.le_of_ble_eq_true rfl⟩ (tx_code.of (hts _ mw_1428)) (hts _ mw_12) (by decide +kernel) (hts _ mw_1426)) (hts _ mw_1427) ⟨tz_blind, fun U hU hW => ⟨rfl, by rw [hU], by rw [hU]; exact hI.1, va_K.moved hW.alike hK, hst _ _ hI.2 U hU hW⟩⟩ rfl rfl hl.1 rfl (lv_room (Nat.le_of_ble_eq_true rfl)) d_Mo_restore_37 ⟨Nat.le_of_ble_eq_true rfl, Nat.le_of_ble_eq_true rfl⟩) hI.2 (fun q _ h => ga_sub hAC hA0 hI.2 q h) (ga_sub hAC hA0 hI.2) (fun v t H1 locs1 ht hWt hpost _ _ hS => ?_) (fun x t H1 locs1 ht hWt hpost _ _ hS => (hpost.2 x rfl).elim)
    rcases hpost.1 _ rfl with ⟨hv, c23, hI1⟩
    cases hv
    have hI : sI (dC, dI) vcl cI cJ (gsM a th tr dp zi co sh lt ts f_mf20) A s.heap H1 locs1 := ⟨by rw [← ht]; exact hI1, hS⟩
    clear hpost hI1 hS ht hWt
    revert hI; generalize H1 = H; generalize locs1 = locs; intro hI
    refine lv_aload_n hx hb d_Mo_restore_40 rfl (lv_at hl 0 rfl) ?_
    refine sv_getr (C := "StoryMachineModel") (T := T_Mo) (N := 51) hx hb hts in_Mo hown hK hI 0 kM_0 rfl 15 (by decide) (hts _ mw_1078) rfl d_Mo_restore_41 ?_
    refine lv_aload_n hx hb d_Mo_restore_44 rfl (lv_at hl 0 rfl) ?_
    refine sv_getr (C := "StoryMachineModel") (T := T_Mo) (N := 51) hx hb hts in_Mo hown hK hI 0 kM_0 rfl 5 (by decide) (hts _ mw_1068) rfl d_Mo_restore_45 ?_
    refine sn_bipush hx hb d_Mo_restore_48 (by decide) (fun z24 hz24 => ?_)
    refine tz_call (A1 := ga (adM a) H.size) (tz_runS (As := [.ref (a 10), .ref (a 3), .int z24]) (rest := []) ⟨hx, hb, hml, hown, hts⟩ (c_Mo_copy_10_3 l hfl dC dI cI cJ a H.size th tr dp zi co sh lt ts f_mf20 z24 c23 (by omega) (by omega)) (tx_cb (n := 3) hts rfl rfl ⟨Nat.le_of_ble_eq_true rfl, Nat.le_of_ble_eq_true rfl⟩ (tx_code.of (hts _ mw_1428)) (hts _ mw_12) (by decide +kernel) (hts _ mw_1426)) (hts _ mw_1427) ⟨tz_blind, fun U hU hW => ⟨rfl, by rw [hU], by rw [hU]; exact hI.1, va_K.moved hW.alike hK, hst _ _ hI.2 U hU hW⟩⟩ rfl rfl hl.1 rfl (lv_room (Nat.le_of_ble_eq_true rfl)) d_Mo_restore_50 ⟨Nat.le_of_ble_eq_true rfl, Nat.le_of_ble_eq_true rfl⟩) hI.2 (fun q _ h => ga_sub hAC hA0 hI.2 q h) (ga_sub hAC hA0 hI.2) (fun v t H1 locs1 ht hWt hpost _ _ hS => ?_) (fun x t H1 locs1 ht hWt hpost _ _ hS => (hpost.2 x rfl).elim)
    rcases hpost.1 _ rfl with ⟨hv, c25, hI1⟩
    cases hv
    have hI : sI (dC, dI) vcl cI cJ (gsM a th tr dp zi co sh lt ts f_mf20) A s.heap H1 locs1 := ⟨by rw [← ht]; exact hI1, hS⟩
    clear hpost hI1 hS ht hWt
    revert hI; generalize H1 = H; generalize locs1 = locs; intro hI
    refine lv_aload_n hx hb d_Mo_restore_53 rfl (lv_at hl 0 rfl) ?_
    refine sv_getr (C := "StoryMachineModel") (T := T_Mo) (N := 51) hx hb hts in_Mo hown hK hI 0 kM_0 rfl 16 (by decide) (hts _ mw_1079) rfl d_Mo_restore_54 ?_
    refine lv_aload_n hx hb d_Mo_restore_57 rfl (lv_at hl 0 rfl) ?_
    refine sv_getr (C := "StoryMachineModel") (T := T_Mo) (N := 51) hx hb hts in_Mo hown hK hI 0 kM_0 rfl 6 (by decide) (hts _ mw_1069) rfl d_Mo_restore_58 ?_
    refine sn_bipush hx hb d_Mo_restore_61 (by decide) (fun z26 hz26 => ?_)
    refine tz_call (A1 := ga (adM a) H.size) (tz_runS (As := [.ref (a 11), .ref (a 4), .int z26]) (rest := []) ⟨hx, hb, hml, hown, hts⟩ (c_Mo_copy_11_4 l hfl dC dI cI cJ a H.size th tr dp zi co sh lt ts f_mf20 z26 c25 (by omega) (by omega)) (tx_cb (n := 3) hts rfl rfl ⟨Nat.le_of_ble_eq_true rfl, Nat.le_of_ble_eq_true rfl⟩ (tx_code.of (hts _ mw_1428)) (hts _ mw_12) (by decide +kernel) (hts _ mw_1426)) (hts _ mw_1427) ⟨tz_blind, fun U hU hW => ⟨rfl, by rw [hU], by rw [hU]; exact hI.1, va_K.moved hW.alike hK, hst _ _ hI.2 U hU hW⟩⟩ rfl rfl hl.1 rfl (lv_room (Nat.le_of_ble_eq_true rfl)) d_Mo_restore_63 ⟨Nat.le_of_ble_eq_true rfl, Nat.le_of_ble_eq_true rfl⟩) hI.2 (fun q _ h => ga_sub hAC hA0 hI.2 q h) (ga_sub hAC hA0 hI.2) (fun v t H1 locs1 ht hWt hpost _ _ hS => ?_) (fun x t H1 locs1 ht hWt hpost _ _ hS => (hpost.2 x rfl).elim)
    rcases hpost.1 _ rfl with ⟨hv, c27, hI1⟩
    cases hv
    have hI : sI (dC, dI) vcl cI cJ (gsM a th tr dp zi co sh lt ts f_mf20) A s.heap H1 locs1 := ⟨by rw [← ht]; exact hI1, hS⟩
    clear hpost hI1 hS ht hWt
    revert hI; generalize H1 = H; generalize locs1 = locs; intro hI
    refine lv_aload_n hx hb d_Mo_restore_66 rfl (lv_at hl 0 rfl) ?_
    refine sv_getr (C := "StoryMachineModel") (T := T_Mo) (N := 51) hx hb hts in_Mo hown hK hI 0 kM_0 rfl 17 (by decide) (hts _ mw_1080) rfl d_Mo_restore_67 ?_
    refine lv_aload_n hx hb d_Mo_restore_70 rfl (lv_at hl 0 rfl) ?_
    refine sv_getr (C := "StoryMachineModel") (T := T_Mo) (N := 51) hx hb hts in_Mo hown hK hI 0 kM_0 rfl 7 (by decide) (hts _ mw_1070) rfl d_Mo_restore_71 ?_
    refine sn_bipush hx hb d_Mo_restore_74 (by decide) (fun z28 hz28 => ?_)
    refine tz_call (A1 := ga (adM a) H.size) (tz_runS (As := [.ref (a 12), .ref (a 5), .int z28]) (rest := []) ⟨hx, hb, hml, hown, hts⟩ (c_Mo_copy_12_5 l hfl dC dI cI cJ a H.size th tr dp zi co sh lt ts f_mf20 z28 c27 (by omega) (by omega)) (tx_cb (n := 3) hts rfl rfl ⟨Nat.le_of_ble_eq_true rfl, Nat.le_of_ble_eq_true rfl⟩ (tx_code.of (hts _ mw_1428)) (hts _ mw_12) (by decide +kernel) (hts _ mw_1426)) (hts _ mw_1427) ⟨tz_blind, fun U hU hW => ⟨rfl, by rw [hU], by rw [hU]; exact hI.1, va_K.moved hW.alike hK, hst _ _ hI.2 U hU hW⟩⟩ rfl rfl hl.1 rfl (lv_room (Nat.le_of_ble_eq_true rfl)) d_Mo_restore_76 ⟨Nat.le_of_ble_eq_true rfl, Nat.le_of_ble_eq_true rfl⟩) hI.2 (fun q _ h => ga_sub hAC hA0 hI.2 q h) (ga_sub hAC hA0 hI.2) (fun v t H1 locs1 ht hWt hpost _ _ hS => ?_) (fun x t H1 locs1 ht hWt hpost _ _ hS => (hpost.2 x rfl).elim)
    rcases hpost.1 _ rfl with ⟨hv, c29, hI1⟩
    cases hv
    have hI : sI (dC, dI) vcl cI cJ (gsM a th tr dp zi co sh lt ts f_mf20) A s.heap H1 locs1 := ⟨by rw [← ht]; exact hI1, hS⟩
    clear hpost hI1 hS ht hWt
    revert hI; generalize H1 = H; generalize locs1 = locs; intro hI
    refine lv_aload_n hx hb d_Mo_restore_79 rfl (lv_at hl 0 rfl) ?_
    refine sv_getr (C := "StoryMachineModel") (T := T_Mo) (N := 51) hx hb hts in_Mo hown hK hI 0 kM_0 rfl 18 (by decide) (hts _ mw_1081) rfl d_Mo_restore_80 ?_
    refine lv_aload_n hx hb d_Mo_restore_83 rfl (lv_at hl 0 rfl) ?_
    refine sv_getr (C := "StoryMachineModel") (T := T_Mo) (N := 51) hx hb hts in_Mo hown hK hI 0 kM_0 rfl 8 (by decide) (hts _ mw_1071) rfl d_Mo_restore_84 ?_
    refine sn_bipush hx hb d_Mo_restore_87 (by decide) (fun z30 hz30 => ?_)
    refine tz_call (A1 := ga (adM a) H.size) (tz_runS (As := [.ref (a 13), .ref (a 6), .int z30]) (rest := []) ⟨hx, hb, hml, hown, hts⟩ (c_Mo_copy_13_6 l hfl dC dI cI cJ a H.size th tr dp zi co sh lt ts f_mf20 z30 c29 (by omega) (by omega)) (tx_cb (n := 3) hts rfl rfl ⟨Nat.le_of_ble_eq_true rfl, Nat.le_of_ble_eq_true rfl⟩ (tx_code.of (hts _ mw_1428)) (hts _ mw_12) (by decide +kernel) (hts _ mw_1426)) (hts _ mw_1427) ⟨tz_blind, fun U hU hW => ⟨rfl, by rw [hU], by rw [hU]; exact hI.1, va_K.moved hW.alike hK, hst _ _ hI.2 U hU hW⟩⟩ rfl rfl hl.1 rfl (lv_room (Nat.le_of_ble_eq_true rfl)) d_Mo_restore_89 ⟨Nat.le_of_ble_eq_true rfl, Nat.le_of_ble_eq_true rfl⟩) hI.2 (fun q _ h => ga_sub hAC hA0 hI.2 q h) (ga_sub hAC hA0 hI.2) (fun v t H1 locs1 ht hWt hpost _ _ hS => ?_) (fun x t H1 locs1 ht hWt hpost _ _ hS => (hpost.2 x rfl).elim)
    rcases hpost.1 _ rfl with ⟨hv, c31, hI1⟩
    cases hv
    have hI : sI (dC, dI) vcl cI cJ (gsM a th tr dp zi co sh lt ts f_mf20) A s.heap H1 locs1 := ⟨by rw [← ht]; exact hI1, hS⟩
    clear hpost hI1 hS ht hWt
    revert hI; generalize H1 = H; generalize locs1 = locs; intro hI
    refine lv_aload_n hx hb d_Mo_restore_92 rfl (lv_at hl 0 rfl) ?_
    refine sv_getr (C := "StoryMachineModel") (T := T_Mo) (N := 51) hx hb hts in_Mo hown hK hI 0 kM_0 rfl 19 (by decide) (hts _ mw_1082) rfl d_Mo_restore_93 ?_
    refine lv_aload_n hx hb d_Mo_restore_96 rfl (lv_at hl 0 rfl) ?_
    refine sv_getr (C := "StoryMachineModel") (T := T_Mo) (N := 51) hx hb hts in_Mo hown hK hI 0 kM_0 rfl 9 (by decide) (hts _ mw_1072) rfl d_Mo_restore_97 ?_
    refine sn_sipush hx hb d_Mo_restore_100 (by decide) (fun z32 hz32 => ?_)
    refine tz_call (A1 := ga (adM a) H.size) (tz_runS (As := [.ref (a 14), .ref (a 7), .int z32]) (rest := []) ⟨hx, hb, hml, hown, hts⟩ (c_Mo_copy_14_7 l hfl dC dI cI cJ a H.size th tr dp zi co sh lt ts f_mf20 z32 c31 (by omega) (by omega)) (tx_cb (n := 3) hts rfl rfl ⟨Nat.le_of_ble_eq_true rfl, Nat.le_of_ble_eq_true rfl⟩ (tx_code.of (hts _ mw_1428)) (hts _ mw_12) (by decide +kernel) (hts _ mw_1426)) (hts _ mw_1427) ⟨tz_blind, fun U hU hW => ⟨rfl, by rw [hU], by rw [hU]; exact hI.1, va_K.moved hW.alike hK, hst _ _ hI.2 U hU hW⟩⟩ rfl rfl hl.1 rfl (lv_room (Nat.le_of_ble_eq_true rfl)) d_Mo_restore_103 ⟨Nat.le_of_ble_eq_true rfl, Nat.le_of_ble_eq_true rfl⟩) hI.2 (fun q _ h => ga_sub hAC hA0 hI.2 q h) (ga_sub hAC hA0 hI.2) (fun v t H1 locs1 ht hWt hpost _ _ hS => ?_) (fun x t H1 locs1 ht hWt hpost _ _ hS => (hpost.2 x rfl).elim)
    rcases hpost.1 _ rfl with ⟨hv, c33, hI1⟩
    cases hv
    have hI : sI (dC, dI) vcl cI cJ (gsM a th tr dp zi co sh lt ts f_mf20) A s.heap H1 locs1 := ⟨by rw [← ht]; exact hI1, hS⟩
    clear hpost hI1 hS ht hWt
    revert hI; generalize H1 = H; generalize locs1 = locs; intro hI
    refine lv_aload_n hx hb d_Mo_restore_106 rfl (lv_at hl 0 rfl) ?_
    refine lv_aload_n hx hb d_Mo_restore_107 rfl (lv_at hl 0 rfl) ?_
    refine sv_get (C := "StoryMachineModel") (T := T_Mo) (N := 51) hx hb hts in_Mo hown hK hI 0 kM_0 rfl 12 (by decide) (hts _ mw_1075) rfl d_Mo_restore_108 (fun z34 hz34a hz34b => ?_)
    refine sv_put (C := "StoryMachineModel") (T := T_Mo) (N := 51) (ty := .int) hx hb hts in_Mo t_Mo tk_Mo nm_Mo hown hK (sh_in adM_map hAC) hI 0 kM_0 rfl 2 (by decide) (hts _ mw_1065) rfl (by decide +kernel) rfl rfl (Nat.le_of_ble_eq_true rfl) (Int.le_refl _) (Int.le_refl _) pM_0_2 d_Mo_restore_111 (fun H locs hI => ?_)
    refine lv_aload_n hx hb d_Mo_restore_114 rfl (lv_at hl 0 rfl) ?_
    refine lv_aload_n hx hb d_Mo_restore_115 rfl (lv_at hl 0 rfl) ?_
    refine sv_get (C := "StoryMachineModel") (T := T_Mo) (N := 51) hx hb hts in_Mo hown hK hI 0 kM_0 rfl 14 (by decide) (hts _ mw_1077) rfl d_Mo_restore_116 (fun z35 hz35a hz35b => ?_)
    refine sv_put (C := "StoryMachineModel") (T := T_Mo) (N := 51) (ty := .int) hx hb hts in_Mo t_Mo tk_Mo nm_Mo hown hK (sh_in adM_map hAC) hI 0 kM_0 rfl 4 (by decide) (hts _ mw_1067) rfl (by decide +kernel) rfl rfl (Nat.le_of_ble_eq_true rfl) (Int.le_refl _) (Int.le_refl _) pM_0_4 d_Mo_restore_119 (fun H locs hI => ?_)
    refine lv_aload_n hx hb d_Mo_restore_122 rfl (lv_at hl 0 rfl) ?_
    refine lv_aload_n hx hb d_Mo_restore_123 rfl (lv_at hl 0 rfl) ?_
    refine sv_get (C := "StoryMachineModel") (T := T_Mo) (N := 51) hx hb hts in_Mo hown hK hI 0 kM_0 rfl 20 (by decide) (hts _ mw_1083) rfl d_Mo_restore_124 (fun z36 hz36a hz36b => ?_)
    refine sv_put (C := "StoryMachineModel") (T := T_Mo) (N := 51) (ty := .int) hx hb hts in_Mo t_Mo tk_Mo nm_Mo hown hK (sh_in adM_map hAC) hI 0 kM_0 rfl 43 (by decide) (hts _ mw_1106) rfl (by decide +kernel) rfl rfl (Nat.le_of_ble_eq_true rfl) (by omega) (by omega) pM_0_43 d_Mo_restore_127 (fun H locs hI => ?_)
    refine lv_aload_n hx hb d_Mo_restore_130 rfl (lv_at hl 0 rfl) ?_
    refine lv_aload_n hx hb d_Mo_restore_131 rfl (lv_at hl 0 rfl) ?_
    refine sv_get (C := "StoryMachineModel") (T := T_Mo) (N := 51) hx hb hts in_Mo hown hK hI 0 kM_0 rfl 21 (by decide) (hts _ mw_1084) rfl d_Mo_restore_132 (fun z37 hz37a hz37b => ?_)
    refine sv_put (C := "StoryMachineModel") (T := T_Mo) (N := 51) (ty := .boolean) hx hb hts in_Mo t_Mo tk_Mo nm_Mo hown hK (sh_in adM_map hAC) hI 0 kM_0 rfl 41 (by decide) (hts _ mw_1104) rfl (by decide +kernel) (sn_bool (by omega) (by omega)).1 (sn_bool (by omega) (by omega)).2 (Nat.le_of_ble_eq_true rfl) (by omega) (by omega) pM_0_41 d_Mo_restore_135 (fun H locs hI => ?_)
    refine lv_aload_n hx hb d_Mo_restore_138 rfl (lv_at hl 0 rfl) ?_
    refine lv_aload_n hx hb d_Mo_restore_139 rfl (lv_at hl 0 rfl) ?_
    refine sv_get (C := "StoryMachineModel") (T := T_Mo) (N := 51) hx hb hts in_Mo hown hK hI 0 kM_0 rfl 22 (by decide) (hts _ mw_1085) rfl d_Mo_restore_140 (fun z38 hz38a hz38b => ?_)
    refine sv_put (C := "StoryMachineModel") (T := T_Mo) (N := 51) (ty := .int) hx hb hts in_Mo t_Mo tk_Mo nm_Mo hown hK (sh_in adM_map hAC) hI 0 kM_0 rfl 42 (by decide) (hts _ mw_1105) rfl (by decide +kernel) rfl rfl (Nat.le_of_ble_eq_true rfl) (by omega) (by omega) pM_0_42 d_Mo_restore_143 (fun H locs hI => ?_)
    refine lv_aload_n hx hb d_Mo_restore_146 rfl (lv_at hl 0 rfl) ?_
    refine lv_aload_n hx hb d_Mo_restore_147 rfl (lv_at hl 0 rfl) ?_
    refine sv_get (C := "StoryMachineModel") (T := T_Mo) (N := 51) hx hb hts in_Mo hown hK hI 0 kM_0 rfl 43 (by decide) (hts _ mw_1106) rfl d_Mo_restore_148 (fun z39 hz39a hz39b => ?_)
    refine sv_put (C := "StoryMachineModel") (T := T_Mo) (N := 51) (ty := .int) hx hb hts in_Mo t_Mo tk_Mo nm_Mo hown hK (sh_in adM_map hAC) hI 0 kM_0 rfl 28 (by decide) (hts _ mw_1091) rfl (by decide +kernel) rfl rfl (Nat.le_of_ble_eq_true rfl) (by omega) (by omega) pM_0_28 d_Mo_restore_151 (fun H locs hI => ?_)
    refine lv_aload_n hx hb d_Mo_restore_154 rfl (lv_at hl 0 rfl) ?_
    refine sn_iconst hx hb d_Mo_restore_155 (by decide) (fun z40 hz40 => ?_)
    have ho41 : okM th tr z35.toInt z34.toInt co sh lt ts f_mf20 := ⟨c33.1, c33.2.1, ⟨by omega, by omega⟩, ⟨by omega, by omega⟩, c33.2.2.2.2.1, c33.2.2.2.2.2.1, c33.2.2.2.2.2.2.1, c33.2.2.2.2.2.2.2.1, c33.2.2.2.2.2.2.2.2⟩
    refine tz_call (A1 := ga (adM a) H.size) (tz_runV (C := "StoryMachineModel") (As := [.int z40]) (rest := []) ⟨hx, hb, hml, hown, hts⟩ (c_Mo_branch l hfl dC dI cI cJ a H.size th tr z35.toInt z34.toInt co sh lt ts f_mf20 z40 ho41 (by omega) (by omega)) (tx_cb (n := 1) hts rfl rfl ⟨Nat.le_of_ble_eq_true rfl, Nat.le_of_ble_eq_true rfl⟩ (tx_code.of (hts _ mw_1288)) (hts _ mw_12) (by decide +kernel) (hts _ mw_1285)) (hts _ mw_1287) (hts _ ms_Mo_branch) ⟨tz_blind, sv_recv (q0 := 0) hts in_Mo hK hI kM_0 rfl, fun U hU hW => ⟨rfl, by rw [hU], by rw [hU]; exact hI.1, va_K.moved hW.alike hK, hst _ _ hI.2 U hU hW⟩⟩ rfl rfl hl.1 rfl (lv_room (Nat.le_of_ble_eq_true rfl)) d_Mo_restore_156 ⟨Nat.le_of_ble_eq_true rfl, Nat.le_of_ble_eq_true rfl⟩) hI.2 (fun q _ h => ga_sub hAC hA0 hI.2 q h) (ga_sub hAC hA0 hI.2) (fun v t H1 locs1 ht hWt hpost _ _ hS => ?_) (fun x t H1 locs1 ht hWt hpost _ _ hS => (hpost.2 x rfl).elim)
    rcases hpost.1 _ rfl with ⟨t_tr42, t_dp43, t_zi44, hv, c45, c45_0, hI1⟩ | ⟨t_dp46, t_zi47, f_mf48, hv, c49, c49_0, hI1⟩
    · cases hv
      have hI : sI (dC, dI) vcl cI cJ (gsM a th t_tr42 t_dp43 t_zi44 co sh lt ts f_mf20) A s.heap H1 locs1 := ⟨by rw [← ht]; exact hI1, hS⟩
      obtain ⟨-, ⟨o50, o51⟩, ⟨o52, o53⟩, ⟨o54, o55⟩, -, -, -, -, -⟩ := id c45
      clear hpost hI1 hS ht hWt
      revert hI; generalize H1 = H; generalize locs1 = locs; intro hI
      subst hZ
      exact tz_ret (W.vret hx hb hr (fun t ht hW => ⟨⟨fun v9 hv9 => by cases hv9; exact (Or.inl ⟨t_tr42, t_dp43, t_zi44, f_mf20, rfl, c45, by omega, by rw [ht]; exact hI.1⟩), fun x9 hx9 => (by cases hx9)⟩, hI.2.F ht⟩) hI.2.2.2 d_Mo_restore_159)
    · cases hv
      have hI : sI (dC, dI) vcl cI cJ (gsM a th tr t_dp46 t_zi47 co sh lt ts f_mf48) A s.heap H1 locs1 := ⟨by rw [← ht]; exact hI1, hS⟩
      obtain ⟨-, -, ⟨o56, o57⟩, ⟨o58, o59⟩, -, -, -, -, -⟩ := id c49
      clear hpost hI1 hS ht hWt
      revert hI; generalize H1 = H; generalize locs1 = locs; intro hI
      subst hZ
      exact tz_ret (W.vret hx hb hr (fun t ht hW => ⟨⟨fun v9 hv9 => by cases hv9; exact (Or.inr (⟨t_dp46, t_zi47, f_mf48, rfl, c49, by omega, by rw [ht]; exact hI.1⟩)), fun x9 hx9 => (by cases hx9)⟩, hI.2.F ht⟩) hI.2.2.2 d_Mo_restore_159)
  · refine lv_aload_n hx hb d_Mo_restore_7 rfl (lv_at hl 0 rfl) ?_
    refine sn_iconst hx hb d_Mo_restore_8 (by decide) (fun z60 hz60 => ?_)
    refine tz_call (A1 := ga (adM a) H.size) (tz_runV (C := "StoryMachineModel") (As := [.int z60]) (rest := []) ⟨hx, hb, hml, hown, hts⟩ (c_Mo_branch l hfl dC dI cI cJ a H.size th tr dp zi co sh lt ts mf z60 hok (by omega) (by omega)) (tx_cb (n := 1) hts rfl rfl ⟨Nat.le_of_ble_eq_true rfl, Nat.le_of_ble_eq_true rfl⟩ (tx_code.of (hts _ mw_1288)) (hts _ mw_12) (by decide +kernel) (hts _ mw_1285)) (hts _ mw_1287) (hts _ ms_Mo_branch) ⟨tz_blind, sv_recv (q0 := 0) hts in_Mo hK hI kM_0 rfl, fun U hU hW => ⟨rfl, by rw [hU], by rw [hU]; exact hI.1, va_K.moved hW.alike hK, hst _ _ hI.2 U hU hW⟩⟩ rfl rfl hl.1 rfl (lv_room (Nat.le_of_ble_eq_true rfl)) d_Mo_restore_9 ⟨Nat.le_of_ble_eq_true rfl, Nat.le_of_ble_eq_true rfl⟩) hI.2 (fun q _ h => ga_sub hAC hA0 hI.2 q h) (ga_sub hAC hA0 hI.2) (fun v t H1 locs1 ht hWt hpost _ _ hS => ?_) (fun x t H1 locs1 ht hWt hpost _ _ hS => (hpost.2 x rfl).elim)
    rcases hpost.1 _ rfl with ⟨t_tr61, t_dp62, t_zi63, hv, c64, c64_0, hI1⟩ | ⟨t_dp65, t_zi66, f_mf67, hv, c68, c68_0, hI1⟩
    · cases hv
      have hI : sI (dC, dI) vcl cI cJ (gsM a th t_tr61 t_dp62 t_zi63 co sh lt ts mf) A s.heap H1 locs1 := ⟨by rw [← ht]; exact hI1, hS⟩
      obtain ⟨-, ⟨o69, o70⟩, ⟨o71, o72⟩, ⟨o73, o74⟩, -, -, -, -, -⟩ := id c64
      clear hpost hI1 hS ht hWt
      revert hI; generalize H1 = H; generalize locs1 = locs; intro hI
      subst hZ
      exact tz_ret (W.vret hx hb hr (fun t ht hW => ⟨⟨fun v9 hv9 => by cases hv9; exact (Or.inl ⟨t_tr61, t_dp62, t_zi63, mf, rfl, c64, by omega, by rw [ht]; exact hI.1⟩), fun x9 hx9 => (by cases hx9)⟩, hI.2.F ht⟩) hI.2.2.2 d_Mo_restore_12)
    · cases hv
      have hI : sI (dC, dI) vcl cI cJ (gsM a th tr t_dp65 t_zi66 co sh lt ts f_mf67) A s.heap H1 locs1 := ⟨by rw [← ht]; exact hI1, hS⟩
      obtain ⟨-, -, ⟨o75, o76⟩, ⟨o77, o78⟩, -, -, -, -, -⟩ := id c68
      clear hpost hI1 hS ht hWt
      revert hI; generalize H1 = H; generalize locs1 = locs; intro hI
      subst hZ
      exact tz_ret (W.vret hx hb hr (fun t ht hW => ⟨⟨fun v9 hv9 => by cases hv9; exact (Or.inr (⟨t_dp65, t_zi66, f_mf67, rfl, c68, by omega, by rw [ht]; exact hI.1⟩)), fun x9 hx9 => (by cases hx9)⟩, hI.2.F ht⟩) hI.2.2.2 d_Mo_restore_12)
abbrev q_Mo_copy_1_8 (dC : Nat → ClassId) (dI : Nat → Nat → Nat) (cI cJ : ClassId) (a : Nat → Nat) (th tr dp zi co sh lt ts : Int) (mf : Nat → Int32) (x2 : Int32) : Outcome → State → Prop := fun o t => (∀ v, o = .returned v → ((v = none ∧ okM th tr dp zi co sh lt ts mf ∧ sh_I (dC, dI) vcl cI cJ (gsM a th tr dp zi co sh lt ts mf) t.heap))) ∧ (∀ x, o = .threw x → (False))
def rm_Mo_copy_1_8 : Room := { frames := 0, cells := 0, slots := 0, locals := 0 }
set_option maxHeartbeats 4000000 in
set_option maxRecDepth 100000 in
theorem c_Mo_copy_1_8 (l : Launch) (hfl : l.flags = pinnedFlags ++ [noTraceFlag]) (dC : Nat → ClassId) (dI : Nat → Nat → Nat) (cI cJ : ClassId) (a : Nat → Nat) (sz : Nat) (th tr dp zi co sh lt ts : Int) (mf : Nat → Int32) (x2 : Int32) (hok : okM th tr dp zi co sh lt ts mf) (hp0 : 512 ≤ x2.toInt) (hp1 : x2.toInt ≤ 512) : tz_Met l ⟨"StoryMachineModel", "copy", "([I[II)V"⟩ tw_tbl rm_Mo_copy_1_8 (tzP (dC, dI) vcl cI cJ (gsM a th tr dp zi co sh lt ts mf) a (adM a) [.ref (a 1), .ref (a 8), .int x2] sz) (tq_Q (q_Mo_copy_1_8 dC dI cI cJ a th tr dp zi co sh lt ts mf x2) (ga (adM a) sz)) 0 0 0 0 (ga (adM a) sz) := by
  refine tz_ofW (cc := prog_13_method_56_code) (maxL := 4) (ret := none) (by decide) (tx_isM mw_1428) ?_
  intro p e s m args below meth c s₁ B hml hv
  obtain ⟨rfl, hsz, hI0, hK, hst0⟩ := hv
  have hx := B.exec
  have hb := B.bytes
  have hr := B.returns
  have hts := atoms_spec (ws := tw_tbl) B.pre
  have hown : s.vm.findClass "StoryMachineModel" = some m.cls := findClass_of_methodNamed B.named
  have hlocks := B.notSynchronized
  subst hsz
  have hst := fun (H : Heap) (locs : List Loc) (hS : va_S (ga (adM a) s.heap.size) s.heap H locs) (U : State) (hU : U.heap = H) (hW : s.WarmedH U.vm) => zS_all adM_map hI0 hst0 hS hU hW
  have hAC : ∀ q ∈ adM a, ga (adM a) s.heap.size q := fun q h => Or.inl h
  have hA0 : ∀ q, s.heap.size ≤ q → ga (adM a) s.heap.size q := fun q h => Or.inr h
  have hI : sI (dC, dI) vcl cI cJ (gsM a th tr dp zi co sh lt ts mf) (ga (adM a) s.heap.size) s.heap s.heap [] := ⟨hI0, va_S.rf⟩
  clear hI0 hst0
  have hl := lv_entry ([.ref (a 1), .ref (a 8), .int x2]) (n := 4) (Nat.le_of_ble_eq_true rfl)
  rw [lg_entry_eq]
  generalize (lg_sl ([.ref (a 1), .ref (a 8), .int x2]) ++ List.replicate (4 - (lg_sl ([.ref (a 1), .ref (a 8), .int x2])).length) Slot.unset).toArray = ls at hl ⊢
  have hl : lv_has ls 4 [(0, .ref (a 1)), (1, .ref (a 8)), (2, .int x2)] := hl
  generalize hZ : tz_MQ below (tq_Q (q_Mo_copy_1_8 dC dI cI cJ a th tr dp zi co sh lt ts mf x2) (ga (adM a) s.heap.size)) ([.ref (a 1), .ref (a 8), .int x2] : List Value).toArray s 0 0 0 0 (ga (adM a) s.heap.size) = Z
  obtain ⟨A, hAe⟩ : ∃ A, A = ga (adM a) s.heap.size := ⟨_, rfl⟩
  rw [← hAe] at hst hAC hA0 hI hZ
  refine sv_start hI (fun H locs hI => ?_)
  obtain ⟨⟨o1, o2⟩, ⟨o3, o4⟩, ⟨o5, o6⟩, ⟨o7, o8⟩, ⟨o9, o10⟩, ⟨o11, o12⟩, ⟨o13, o14⟩, ⟨o15, o16⟩, -⟩ := id hok
  have gx2 := sn_rng x2
  have j2 : ∀ (n : Nat) (H : Heap) (locs : List Loc) (ls : Array Slot) (v2_3 : Int32), sI (dC, dI) vcl cI cJ (gsM a th tr dp zi co sh lt ts mf) A s.heap H locs → okM th tr dp zi co sh lt ts mf → 0 ≤ v2_3.toInt → v2_3.toInt ≤ 512 → lv_has ls 4 [(0, .ref (a 1)), (1, .ref (a 8)), (2, .int x2), (3, .int v2_3)] → 512 - v2_3.toInt < (n : Int) → W p l e (headSpec tw_tbl rm_Mo_copy_1_8).room s m ([.ref (a 1), .ref (a 8), .int x2] : List Value).toArray below meth c H locs 0 0 Z (F0 m 2 ls []) := by
    intro n
    induction n with
    | zero => intro H locs ls v2_3 hI hok g2_0 g2_1 hl hme; exfalso; obtain ⟨⟨o17, o18⟩, ⟨o19, o20⟩, ⟨o21, o22⟩, ⟨o23, o24⟩, ⟨o25, o26⟩, ⟨o27, o28⟩, ⟨o29, o30⟩, ⟨o31, o32⟩, -⟩ := id hok; omega
    | succ n ih =>
      intro H locs ls v2_3 hI hok g2_0 g2_1 hl hme
      obtain ⟨⟨o33, o34⟩, ⟨o35, o36⟩, ⟨o37, o38⟩, ⟨o39, o40⟩, ⟨o41, o42⟩, ⟨o43, o44⟩, ⟨o45, o46⟩, ⟨o47, o48⟩, -⟩ := id hok
      refine lv_iload_n hx hb d_Mo_copy_2 rfl (lv_at hl 3 rfl) ?_
      refine lv_iload_n hx hb d_Mo_copy_3 rfl (lv_at hl 2 rfl) ?_
      refine sn_icmp_ge (tgt := 19) hx hb d_Mo_copy_4 (by decide) (fun b49 => ?_) (fun b49 => ?_)
      · subst hZ
        exact tz_ret (W.vret hx hb hr (fun t ht hW => ⟨⟨fun v9 hv9 => by cases hv9; exact (⟨rfl, hok, by rw [ht]; exact hI.1⟩), fun x9 hx9 => (by cases hx9)⟩, hI.2.F ht⟩) hI.2.2.2 d_Mo_copy_19)
      · refine lv_aload_n hx hb d_Mo_copy_7 rfl (lv_at hl 1 rfl) ?_
        refine lv_iload_n hx hb d_Mo_copy_8 rfl (lv_at hl 3 rfl) ?_
        refine lv_aload_n hx hb d_Mo_copy_9 rfl (lv_at hl 0 rfl) ?_
        refine lv_iload_n hx hb d_Mo_copy_10 rfl (lv_at hl 3 rfl) ?_
        refine sv_ialde hx hb hK hI 1 kM_1 (by omega) (by omega) d_Mo_copy_11 (fun z50 hz50 => ?_)
        have hz50r := hok.2.2.2.2.2.2.2.2 (v2_3.toNatClampNeg)
        rw [← hz50] at hz50r
        have hz50x : z50.toInt = (mf v2_3.toInt.toNat).toInt := by rw [hz50]; rfl
        refine sv_iastr hx hb hK (sh_in adM_map hAC) hI 8 kM_8 (by omega) (by omega) (by omega) (by omega) pM_8 d_Mo_copy_12 (fun H locs hI => ?_)
        refine sn_iinc (k := 3) hx hb d_Mo_copy_13 hl rfl (by decide) (by decide) (by omega) (by omega) (fun ls z51 hz51 hl => ?_)
        have hl : lv_has ls 4 [(3, .int z51), (0, .ref (a 1)), (1, .ref (a 8)), (2, .int x2)] := hl
        refine lv_goto (tgt := 2) hx hb d_Mo_copy_16 (by decide) ?_
        exact ih _ _ _ z51 hI hok (by omega) (by omega) (lv_sub hl [1, 2, 3, 0] rfl) (by omega)
  refine sn_iconst hx hb d_Mo_copy_0 (by decide) (fun z52 hz52 => ?_)
  refine lv_istore_n (lv' := [(3, .int z52), (0, .ref (a 1)), (1, .ref (a 8)), (2, .int x2)]) hx hb d_Mo_copy_1 rfl hl (by decide) rfl (fun ls hl => ?_)
  exact j2 513 _ _ _ z52 hI hok (by omega) (by omega) (lv_sub hl [1, 2, 3, 0] rfl) (by omega)
abbrev q_Mo_copy_2_9 (dC : Nat → ClassId) (dI : Nat → Nat → Nat) (cI cJ : ClassId) (a : Nat → Nat) (th tr dp zi co sh lt ts : Int) (mf : Nat → Int32) (x2 : Int32) : Outcome → State → Prop := fun o t => (∀ v, o = .returned v → ((v = none ∧ okM th tr dp zi co sh lt ts mf ∧ sh_I (dC, dI) vcl cI cJ (gsM a th tr dp zi co sh lt ts mf) t.heap))) ∧ (∀ x, o = .threw x → (False))
def rm_Mo_copy_2_9 : Room := { frames := 0, cells := 0, slots := 0, locals := 0 }
set_option maxHeartbeats 4000000 in
set_option maxRecDepth 100000 in
theorem c_Mo_copy_2_9 (l : Launch) (hfl : l.flags = pinnedFlags ++ [noTraceFlag]) (dC : Nat → ClassId) (dI : Nat → Nat → Nat) (cI cJ : ClassId) (a : Nat → Nat) (sz : Nat) (th tr dp zi co sh lt ts : Int) (mf : Nat → Int32) (x2 : Int32) (hok : okM th tr dp zi co sh lt ts mf) (hp0 : 48 ≤ x2.toInt) (hp1 : x2.toInt ≤ 48) : tz_Met l ⟨"StoryMachineModel", "copy", "([I[II)V"⟩ tw_tbl rm_Mo_copy_2_9 (tzP (dC, dI) vcl cI cJ (gsM a th tr dp zi co sh lt ts mf) a (adM a) [.ref (a 2), .ref (a 9), .int x2] sz) (tq_Q (q_Mo_copy_2_9 dC dI cI cJ a th tr dp zi co sh lt ts mf x2) (ga (adM a) sz)) 0 0 0 0 (ga (adM a) sz) := by
  refine tz_ofW (cc := prog_13_method_56_code) (maxL := 4) (ret := none) (by decide) (tx_isM mw_1428) ?_
  intro p e s m args below meth c s₁ B hml hv
  obtain ⟨rfl, hsz, hI0, hK, hst0⟩ := hv
  have hx := B.exec
  have hb := B.bytes
  have hr := B.returns
  have hts := atoms_spec (ws := tw_tbl) B.pre
  have hown : s.vm.findClass "StoryMachineModel" = some m.cls := findClass_of_methodNamed B.named
  have hlocks := B.notSynchronized
  subst hsz
  have hst := fun (H : Heap) (locs : List Loc) (hS : va_S (ga (adM a) s.heap.size) s.heap H locs) (U : State) (hU : U.heap = H) (hW : s.WarmedH U.vm) => zS_all adM_map hI0 hst0 hS hU hW
  have hAC : ∀ q ∈ adM a, ga (adM a) s.heap.size q := fun q h => Or.inl h
  have hA0 : ∀ q, s.heap.size ≤ q → ga (adM a) s.heap.size q := fun q h => Or.inr h
  have hI : sI (dC, dI) vcl cI cJ (gsM a th tr dp zi co sh lt ts mf) (ga (adM a) s.heap.size) s.heap s.heap [] := ⟨hI0, va_S.rf⟩
  clear hI0 hst0
  have hl := lv_entry ([.ref (a 2), .ref (a 9), .int x2]) (n := 4) (Nat.le_of_ble_eq_true rfl)
  rw [lg_entry_eq]
  generalize (lg_sl ([.ref (a 2), .ref (a 9), .int x2]) ++ List.replicate (4 - (lg_sl ([.ref (a 2), .ref (a 9), .int x2])).length) Slot.unset).toArray = ls at hl ⊢
  have hl : lv_has ls 4 [(0, .ref (a 2)), (1, .ref (a 9)), (2, .int x2)] := hl
  generalize hZ : tz_MQ below (tq_Q (q_Mo_copy_2_9 dC dI cI cJ a th tr dp zi co sh lt ts mf x2) (ga (adM a) s.heap.size)) ([.ref (a 2), .ref (a 9), .int x2] : List Value).toArray s 0 0 0 0 (ga (adM a) s.heap.size) = Z
  obtain ⟨A, hAe⟩ : ∃ A, A = ga (adM a) s.heap.size := ⟨_, rfl⟩
  rw [← hAe] at hst hAC hA0 hI hZ
  refine sv_start hI (fun H locs hI => ?_)
  obtain ⟨⟨o1, o2⟩, ⟨o3, o4⟩, ⟨o5, o6⟩, ⟨o7, o8⟩, ⟨o9, o10⟩, ⟨o11, o12⟩, ⟨o13, o14⟩, ⟨o15, o16⟩, -⟩ := id hok
  have gx2 := sn_rng x2
  have j2 : ∀ (n : Nat) (H : Heap) (locs : List Loc) (ls : Array Slot) (v2_3 : Int32), sI (dC, dI) vcl cI cJ (gsM a th tr dp zi co sh lt ts mf) A s.heap H locs → okM th tr dp zi co sh lt ts mf → 0 ≤ v2_3.toInt → v2_3.toInt ≤ 48 → lv_has ls 4 [(0, .ref (a 2)), (1, .ref (a 9)), (2, .int x2), (3, .int v2_3)] → 48 - v2_3.toInt < (n : Int) → W p l e (headSpec tw_tbl rm_Mo_copy_2_9).room s m ([.ref (a 2), .ref (a 9), .int x2] : List Value).toArray below meth c H locs 0 0 Z (F0 m 2 ls []) := by
    intro n
    induction n with
    | zero => intro H locs ls v2_3 hI hok g2_0 g2_1 hl hme; exfalso; obtain ⟨⟨o17, o18⟩, ⟨o19, o20⟩, ⟨o21, o22⟩, ⟨o23, o24⟩, ⟨o25, o26⟩, ⟨o27, o28⟩, ⟨o29, o30⟩, ⟨o31, o32⟩, -⟩ := id hok; omega
    | succ n ih =>
      intro H locs ls v2_3 hI hok g2_0 g2_1 hl hme
      obtain ⟨⟨o33, o34⟩, ⟨o35, o36⟩, ⟨o37, o38⟩, ⟨o39, o40⟩, ⟨o41, o42⟩, ⟨o43, o44⟩, ⟨o45, o46⟩, ⟨o47, o48⟩, -⟩ := id hok
      refine lv_iload_n hx hb d_Mo_copy_2 rfl (lv_at hl 3 rfl) ?_
      refine lv_iload_n hx hb d_Mo_copy_3 rfl (lv_at hl 2 rfl) ?_
      refine sn_icmp_ge (tgt := 19) hx hb d_Mo_copy_4 (by decide) (fun b49 => ?_) (fun b49 => ?_)
      · subst hZ
        exact tz_ret (W.vret hx hb hr (fun t ht hW => ⟨⟨fun v9 hv9 => by cases hv9; exact (⟨rfl, hok, by rw [ht]; exact hI.1⟩), fun x9 hx9 => (by cases hx9)⟩, hI.2.F ht⟩) hI.2.2.2 d_Mo_copy_19)
      · refine lv_aload_n hx hb d_Mo_copy_7 rfl (lv_at hl 1 rfl) ?_
        refine lv_iload_n hx hb d_Mo_copy_8 rfl (lv_at hl 3 rfl) ?_
        refine lv_aload_n hx hb d_Mo_copy_9 rfl (lv_at hl 0 rfl) ?_
        refine lv_iload_n hx hb d_Mo_copy_10 rfl (lv_at hl 3 rfl) ?_
        refine sv_ialdr hx hb hK hI 2 kM_2 (by omega) (by omega) d_Mo_copy_11 (fun z50 hz50a hz50b => ?_)
        refine sv_iastr hx hb hK (sh_in adM_map hAC) hI 9 kM_9 (by omega) (by omega) (by omega) (by omega) pM_9 d_Mo_copy_12 (fun H locs hI => ?_)
        refine sn_iinc (k := 3) hx hb d_Mo_copy_13 hl rfl (by decide) (by decide) (by omega) (by omega) (fun ls z51 hz51 hl => ?_)
        have hl : lv_has ls 4 [(3, .int z51), (0, .ref (a 2)), (1, .ref (a 9)), (2, .int x2)] := hl
        refine lv_goto (tgt := 2) hx hb d_Mo_copy_16 (by decide) ?_
        exact ih _ _ _ z51 hI hok (by omega) (by omega) (lv_sub hl [1, 2, 3, 0] rfl) (by omega)
  refine sn_iconst hx hb d_Mo_copy_0 (by decide) (fun z52 hz52 => ?_)
  refine lv_istore_n (lv' := [(3, .int z52), (0, .ref (a 2)), (1, .ref (a 9)), (2, .int x2)]) hx hb d_Mo_copy_1 rfl hl (by decide) rfl (fun ls hl => ?_)
  exact j2 49 _ _ _ z52 hI hok (by omega) (by omega) (lv_sub hl [1, 2, 3, 0] rfl) (by omega)
abbrev q_Mo_copy_3_10 (dC : Nat → ClassId) (dI : Nat → Nat → Nat) (cI cJ : ClassId) (a : Nat → Nat) (th tr dp zi co sh lt ts : Int) (mf : Nat → Int32) (x2 : Int32) : Outcome → State → Prop := fun o t => (∀ v, o = .returned v → ((v = none ∧ okM th tr dp zi co sh lt ts mf ∧ sh_I (dC, dI) vcl cI cJ (gsM a th tr dp zi co sh lt ts mf) t.heap))) ∧ (∀ x, o = .threw x → (False))
def rm_Mo_copy_3_10 : Room := { frames := 0, cells := 0, slots := 0, locals := 0 }
set_option maxHeartbeats 4000000 in
set_option maxRecDepth 100000 in
theorem c_Mo_copy_3_10 (l : Launch) (hfl : l.flags = pinnedFlags ++ [noTraceFlag]) (dC : Nat → ClassId) (dI : Nat → Nat → Nat) (cI cJ : ClassId) (a : Nat → Nat) (sz : Nat) (th tr dp zi co sh lt ts : Int) (mf : Nat → Int32) (x2 : Int32) (hok : okM th tr dp zi co sh lt ts mf) (hp0 : 11 ≤ x2.toInt) (hp1 : x2.toInt ≤ 11) : tz_Met l ⟨"StoryMachineModel", "copy", "([I[II)V"⟩ tw_tbl rm_Mo_copy_3_10 (tzP (dC, dI) vcl cI cJ (gsM a th tr dp zi co sh lt ts mf) a (adM a) [.ref (a 3), .ref (a 10), .int x2] sz) (tq_Q (q_Mo_copy_3_10 dC dI cI cJ a th tr dp zi co sh lt ts mf x2) (ga (adM a) sz)) 0 0 0 0 (ga (adM a) sz) := by
  refine tz_ofW (cc := prog_13_method_56_code) (maxL := 4) (ret := none) (by decide) (tx_isM mw_1428) ?_
  intro p e s m args below meth c s₁ B hml hv
  obtain ⟨rfl, hsz, hI0, hK, hst0⟩ := hv
  have hx := B.exec
  have hb := B.bytes
  have hr := B.returns
  have hts := atoms_spec (ws := tw_tbl) B.pre
  have hown : s.vm.findClass "StoryMachineModel" = some m.cls := findClass_of_methodNamed B.named
  have hlocks := B.notSynchronized
  subst hsz
  have hst := fun (H : Heap) (locs : List Loc) (hS : va_S (ga (adM a) s.heap.size) s.heap H locs) (U : State) (hU : U.heap = H) (hW : s.WarmedH U.vm) => zS_all adM_map hI0 hst0 hS hU hW
  have hAC : ∀ q ∈ adM a, ga (adM a) s.heap.size q := fun q h => Or.inl h
  have hA0 : ∀ q, s.heap.size ≤ q → ga (adM a) s.heap.size q := fun q h => Or.inr h
  have hI : sI (dC, dI) vcl cI cJ (gsM a th tr dp zi co sh lt ts mf) (ga (adM a) s.heap.size) s.heap s.heap [] := ⟨hI0, va_S.rf⟩
  clear hI0 hst0
  have hl := lv_entry ([.ref (a 3), .ref (a 10), .int x2]) (n := 4) (Nat.le_of_ble_eq_true rfl)
  rw [lg_entry_eq]
  generalize (lg_sl ([.ref (a 3), .ref (a 10), .int x2]) ++ List.replicate (4 - (lg_sl ([.ref (a 3), .ref (a 10), .int x2])).length) Slot.unset).toArray = ls at hl ⊢
  have hl : lv_has ls 4 [(0, .ref (a 3)), (1, .ref (a 10)), (2, .int x2)] := hl
  generalize hZ : tz_MQ below (tq_Q (q_Mo_copy_3_10 dC dI cI cJ a th tr dp zi co sh lt ts mf x2) (ga (adM a) s.heap.size)) ([.ref (a 3), .ref (a 10), .int x2] : List Value).toArray s 0 0 0 0 (ga (adM a) s.heap.size) = Z
  obtain ⟨A, hAe⟩ : ∃ A, A = ga (adM a) s.heap.size := ⟨_, rfl⟩
  rw [← hAe] at hst hAC hA0 hI hZ
  refine sv_start hI (fun H locs hI => ?_)
  obtain ⟨⟨o1, o2⟩, ⟨o3, o4⟩, ⟨o5, o6⟩, ⟨o7, o8⟩, ⟨o9, o10⟩, ⟨o11, o12⟩, ⟨o13, o14⟩, ⟨o15, o16⟩, -⟩ := id hok
  have gx2 := sn_rng x2
  have j2 : ∀ (n : Nat) (H : Heap) (locs : List Loc) (ls : Array Slot) (v2_3 : Int32), sI (dC, dI) vcl cI cJ (gsM a th tr dp zi co sh lt ts mf) A s.heap H locs → okM th tr dp zi co sh lt ts mf → 0 ≤ v2_3.toInt → v2_3.toInt ≤ 11 → lv_has ls 4 [(0, .ref (a 3)), (1, .ref (a 10)), (2, .int x2), (3, .int v2_3)] → 11 - v2_3.toInt < (n : Int) → W p l e (headSpec tw_tbl rm_Mo_copy_3_10).room s m ([.ref (a 3), .ref (a 10), .int x2] : List Value).toArray below meth c H locs 0 0 Z (F0 m 2 ls []) := by
    intro n
    induction n with
    | zero => intro H locs ls v2_3 hI hok g2_0 g2_1 hl hme; exfalso; obtain ⟨⟨o17, o18⟩, ⟨o19, o20⟩, ⟨o21, o22⟩, ⟨o23, o24⟩, ⟨o25, o26⟩, ⟨o27, o28⟩, ⟨o29, o30⟩, ⟨o31, o32⟩, -⟩ := id hok; omega
    | succ n ih =>
      intro H locs ls v2_3 hI hok g2_0 g2_1 hl hme
      obtain ⟨⟨o33, o34⟩, ⟨o35, o36⟩, ⟨o37, o38⟩, ⟨o39, o40⟩, ⟨o41, o42⟩, ⟨o43, o44⟩, ⟨o45, o46⟩, ⟨o47, o48⟩, -⟩ := id hok
      refine lv_iload_n hx hb d_Mo_copy_2 rfl (lv_at hl 3 rfl) ?_
      refine lv_iload_n hx hb d_Mo_copy_3 rfl (lv_at hl 2 rfl) ?_
      refine sn_icmp_ge (tgt := 19) hx hb d_Mo_copy_4 (by decide) (fun b49 => ?_) (fun b49 => ?_)
      · subst hZ
        exact tz_ret (W.vret hx hb hr (fun t ht hW => ⟨⟨fun v9 hv9 => by cases hv9; exact (⟨rfl, hok, by rw [ht]; exact hI.1⟩), fun x9 hx9 => (by cases hx9)⟩, hI.2.F ht⟩) hI.2.2.2 d_Mo_copy_19)
      · refine lv_aload_n hx hb d_Mo_copy_7 rfl (lv_at hl 1 rfl) ?_
        refine lv_iload_n hx hb d_Mo_copy_8 rfl (lv_at hl 3 rfl) ?_
        refine lv_aload_n hx hb d_Mo_copy_9 rfl (lv_at hl 0 rfl) ?_
        refine lv_iload_n hx hb d_Mo_copy_10 rfl (lv_at hl 3 rfl) ?_
        refine sv_ialdr hx hb hK hI 3 kM_3 (by omega) (by omega) d_Mo_copy_11 (fun z50 hz50a hz50b => ?_)
        refine sv_iastr hx hb hK (sh_in adM_map hAC) hI 10 kM_10 (by omega) (by omega) (by omega) (by omega) pM_10 d_Mo_copy_12 (fun H locs hI => ?_)
        refine sn_iinc (k := 3) hx hb d_Mo_copy_13 hl rfl (by decide) (by decide) (by omega) (by omega) (fun ls z51 hz51 hl => ?_)
        have hl : lv_has ls 4 [(3, .int z51), (0, .ref (a 3)), (1, .ref (a 10)), (2, .int x2)] := hl
        refine lv_goto (tgt := 2) hx hb d_Mo_copy_16 (by decide) ?_
        exact ih _ _ _ z51 hI hok (by omega) (by omega) (lv_sub hl [1, 2, 3, 0] rfl) (by omega)
  refine sn_iconst hx hb d_Mo_copy_0 (by decide) (fun z52 hz52 => ?_)
  refine lv_istore_n (lv' := [(3, .int z52), (0, .ref (a 3)), (1, .ref (a 10)), (2, .int x2)]) hx hb d_Mo_copy_1 rfl hl (by decide) rfl (fun ls hl => ?_)
  exact j2 12 _ _ _ z52 hI hok (by omega) (by omega) (lv_sub hl [1, 2, 3, 0] rfl) (by omega)
abbrev q_Mo_copy_4_11 (dC : Nat → ClassId) (dI : Nat → Nat → Nat) (cI cJ : ClassId) (a : Nat → Nat) (th tr dp zi co sh lt ts : Int) (mf : Nat → Int32) (x2 : Int32) : Outcome → State → Prop := fun o t => (∀ v, o = .returned v → ((v = none ∧ okM th tr dp zi co sh lt ts mf ∧ sh_I (dC, dI) vcl cI cJ (gsM a th tr dp zi co sh lt ts mf) t.heap))) ∧ (∀ x, o = .threw x → (False))
def rm_Mo_copy_4_11 : Room := { frames := 0, cells := 0, slots := 0, locals := 0 }
set_option maxHeartbeats 4000000 in
set_option maxRecDepth 100000 in
theorem c_Mo_copy_4_11 (l : Launch) (hfl : l.flags = pinnedFlags ++ [noTraceFlag]) (dC : Nat → ClassId) (dI : Nat → Nat → Nat) (cI cJ : ClassId) (a : Nat → Nat) (sz : Nat) (th tr dp zi co sh lt ts : Int) (mf : Nat → Int32) (x2 : Int32) (hok : okM th tr dp zi co sh lt ts mf) (hp0 : 11 ≤ x2.toInt) (hp1 : x2.toInt ≤ 11) : tz_Met l ⟨"StoryMachineModel", "copy", "([I[II)V"⟩ tw_tbl rm_Mo_copy_4_11 (tzP (dC, dI) vcl cI cJ (gsM a th tr dp zi co sh lt ts mf) a (adM a) [.ref (a 4), .ref (a 11), .int x2] sz) (tq_Q (q_Mo_copy_4_11 dC dI cI cJ a th tr dp zi co sh lt ts mf x2) (ga (adM a) sz)) 0 0 0 0 (ga (adM a) sz) := by
  refine tz_ofW (cc := prog_13_method_56_code) (maxL := 4) (ret := none) (by decide) (tx_isM mw_1428) ?_
  intro p e s m args below meth c s₁ B hml hv
  obtain ⟨rfl, hsz, hI0, hK, hst0⟩ := hv
  have hx := B.exec
  have hb := B.bytes
  have hr := B.returns
  have hts := atoms_spec (ws := tw_tbl) B.pre
  have hown : s.vm.findClass "StoryMachineModel" = some m.cls := findClass_of_methodNamed B.named
  have hlocks := B.notSynchronized
  subst hsz
  have hst := fun (H : Heap) (locs : List Loc) (hS : va_S (ga (adM a) s.heap.size) s.heap H locs) (U : State) (hU : U.heap = H) (hW : s.WarmedH U.vm) => zS_all adM_map hI0 hst0 hS hU hW
  have hAC : ∀ q ∈ adM a, ga (adM a) s.heap.size q := fun q h => Or.inl h
  have hA0 : ∀ q, s.heap.size ≤ q → ga (adM a) s.heap.size q := fun q h => Or.inr h
  have hI : sI (dC, dI) vcl cI cJ (gsM a th tr dp zi co sh lt ts mf) (ga (adM a) s.heap.size) s.heap s.heap [] := ⟨hI0, va_S.rf⟩
  clear hI0 hst0
  have hl := lv_entry ([.ref (a 4), .ref (a 11), .int x2]) (n := 4) (Nat.le_of_ble_eq_true rfl)
  rw [lg_entry_eq]
  generalize (lg_sl ([.ref (a 4), .ref (a 11), .int x2]) ++ List.replicate (4 - (lg_sl ([.ref (a 4), .ref (a 11), .int x2])).length) Slot.unset).toArray = ls at hl ⊢
  have hl : lv_has ls 4 [(0, .ref (a 4)), (1, .ref (a 11)), (2, .int x2)] := hl
  generalize hZ : tz_MQ below (tq_Q (q_Mo_copy_4_11 dC dI cI cJ a th tr dp zi co sh lt ts mf x2) (ga (adM a) s.heap.size)) ([.ref (a 4), .ref (a 11), .int x2] : List Value).toArray s 0 0 0 0 (ga (adM a) s.heap.size) = Z
  obtain ⟨A, hAe⟩ : ∃ A, A = ga (adM a) s.heap.size := ⟨_, rfl⟩
  rw [← hAe] at hst hAC hA0 hI hZ
  refine sv_start hI (fun H locs hI => ?_)
  obtain ⟨⟨o1, o2⟩, ⟨o3, o4⟩, ⟨o5, o6⟩, ⟨o7, o8⟩, ⟨o9, o10⟩, ⟨o11, o12⟩, ⟨o13, o14⟩, ⟨o15, o16⟩, -⟩ := id hok
  have gx2 := sn_rng x2
  have j2 : ∀ (n : Nat) (H : Heap) (locs : List Loc) (ls : Array Slot) (v2_3 : Int32), sI (dC, dI) vcl cI cJ (gsM a th tr dp zi co sh lt ts mf) A s.heap H locs → okM th tr dp zi co sh lt ts mf → 0 ≤ v2_3.toInt → v2_3.toInt ≤ 11 → lv_has ls 4 [(0, .ref (a 4)), (1, .ref (a 11)), (2, .int x2), (3, .int v2_3)] → 11 - v2_3.toInt < (n : Int) → W p l e (headSpec tw_tbl rm_Mo_copy_4_11).room s m ([.ref (a 4), .ref (a 11), .int x2] : List Value).toArray below meth c H locs 0 0 Z (F0 m 2 ls []) := by
    intro n
    induction n with
    | zero => intro H locs ls v2_3 hI hok g2_0 g2_1 hl hme; exfalso; obtain ⟨⟨o17, o18⟩, ⟨o19, o20⟩, ⟨o21, o22⟩, ⟨o23, o24⟩, ⟨o25, o26⟩, ⟨o27, o28⟩, ⟨o29, o30⟩, ⟨o31, o32⟩, -⟩ := id hok; omega
    | succ n ih =>
      intro H locs ls v2_3 hI hok g2_0 g2_1 hl hme
      obtain ⟨⟨o33, o34⟩, ⟨o35, o36⟩, ⟨o37, o38⟩, ⟨o39, o40⟩, ⟨o41, o42⟩, ⟨o43, o44⟩, ⟨o45, o46⟩, ⟨o47, o48⟩, -⟩ := id hok
      refine lv_iload_n hx hb d_Mo_copy_2 rfl (lv_at hl 3 rfl) ?_
      refine lv_iload_n hx hb d_Mo_copy_3 rfl (lv_at hl 2 rfl) ?_
      refine sn_icmp_ge (tgt := 19) hx hb d_Mo_copy_4 (by decide) (fun b49 => ?_) (fun b49 => ?_)
      · subst hZ
        exact tz_ret (W.vret hx hb hr (fun t ht hW => ⟨⟨fun v9 hv9 => by cases hv9; exact (⟨rfl, hok, by rw [ht]; exact hI.1⟩), fun x9 hx9 => (by cases hx9)⟩, hI.2.F ht⟩) hI.2.2.2 d_Mo_copy_19)
      · refine lv_aload_n hx hb d_Mo_copy_7 rfl (lv_at hl 1 rfl) ?_
        refine lv_iload_n hx hb d_Mo_copy_8 rfl (lv_at hl 3 rfl) ?_
        refine lv_aload_n hx hb d_Mo_copy_9 rfl (lv_at hl 0 rfl) ?_
        refine lv_iload_n hx hb d_Mo_copy_10 rfl (lv_at hl 3 rfl) ?_
        refine sv_ialdr hx hb hK hI 4 kM_4 (by omega) (by omega) d_Mo_copy_11 (fun z50 hz50a hz50b => ?_)
        refine sv_iastr hx hb hK (sh_in adM_map hAC) hI 11 kM_11 (by omega) (by omega) (by omega) (by omega) pM_11 d_Mo_copy_12 (fun H locs hI => ?_)
        refine sn_iinc (k := 3) hx hb d_Mo_copy_13 hl rfl (by decide) (by decide) (by omega) (by omega) (fun ls z51 hz51 hl => ?_)
        have hl : lv_has ls 4 [(3, .int z51), (0, .ref (a 4)), (1, .ref (a 11)), (2, .int x2)] := hl
        refine lv_goto (tgt := 2) hx hb d_Mo_copy_16 (by decide) ?_
        exact ih _ _ _ z51 hI hok (by omega) (by omega) (lv_sub hl [1, 2, 3, 0] rfl) (by omega)
  refine sn_iconst hx hb d_Mo_copy_0 (by decide) (fun z52 hz52 => ?_)
  refine lv_istore_n (lv' := [(3, .int z52), (0, .ref (a 4)), (1, .ref (a 11)), (2, .int x2)]) hx hb d_Mo_copy_1 rfl hl (by decide) rfl (fun ls hl => ?_)
  exact j2 12 _ _ _ z52 hI hok (by omega) (by omega) (lv_sub hl [1, 2, 3, 0] rfl) (by omega)
abbrev q_Mo_copy_5_12 (dC : Nat → ClassId) (dI : Nat → Nat → Nat) (cI cJ : ClassId) (a : Nat → Nat) (th tr dp zi co sh lt ts : Int) (mf : Nat → Int32) (x2 : Int32) : Outcome → State → Prop := fun o t => (∀ v, o = .returned v → ((v = none ∧ okM th tr dp zi co sh lt ts mf ∧ sh_I (dC, dI) vcl cI cJ (gsM a th tr dp zi co sh lt ts mf) t.heap))) ∧ (∀ x, o = .threw x → (False))
def rm_Mo_copy_5_12 : Room := { frames := 0, cells := 0, slots := 0, locals := 0 }
set_option maxHeartbeats 4000000 in
set_option maxRecDepth 100000 in
theorem c_Mo_copy_5_12 (l : Launch) (hfl : l.flags = pinnedFlags ++ [noTraceFlag]) (dC : Nat → ClassId) (dI : Nat → Nat → Nat) (cI cJ : ClassId) (a : Nat → Nat) (sz : Nat) (th tr dp zi co sh lt ts : Int) (mf : Nat → Int32) (x2 : Int32) (hok : okM th tr dp zi co sh lt ts mf) (hp0 : 11 ≤ x2.toInt) (hp1 : x2.toInt ≤ 11) : tz_Met l ⟨"StoryMachineModel", "copy", "([I[II)V"⟩ tw_tbl rm_Mo_copy_5_12 (tzP (dC, dI) vcl cI cJ (gsM a th tr dp zi co sh lt ts mf) a (adM a) [.ref (a 5), .ref (a 12), .int x2] sz) (tq_Q (q_Mo_copy_5_12 dC dI cI cJ a th tr dp zi co sh lt ts mf x2) (ga (adM a) sz)) 0 0 0 0 (ga (adM a) sz) := by
  refine tz_ofW (cc := prog_13_method_56_code) (maxL := 4) (ret := none) (by decide) (tx_isM mw_1428) ?_
  intro p e s m args below meth c s₁ B hml hv
  obtain ⟨rfl, hsz, hI0, hK, hst0⟩ := hv
  have hx := B.exec
  have hb := B.bytes
  have hr := B.returns
  have hts := atoms_spec (ws := tw_tbl) B.pre
  have hown : s.vm.findClass "StoryMachineModel" = some m.cls := findClass_of_methodNamed B.named
  have hlocks := B.notSynchronized
  subst hsz
  have hst := fun (H : Heap) (locs : List Loc) (hS : va_S (ga (adM a) s.heap.size) s.heap H locs) (U : State) (hU : U.heap = H) (hW : s.WarmedH U.vm) => zS_all adM_map hI0 hst0 hS hU hW
  have hAC : ∀ q ∈ adM a, ga (adM a) s.heap.size q := fun q h => Or.inl h
  have hA0 : ∀ q, s.heap.size ≤ q → ga (adM a) s.heap.size q := fun q h => Or.inr h
  have hI : sI (dC, dI) vcl cI cJ (gsM a th tr dp zi co sh lt ts mf) (ga (adM a) s.heap.size) s.heap s.heap [] := ⟨hI0, va_S.rf⟩
  clear hI0 hst0
  have hl := lv_entry ([.ref (a 5), .ref (a 12), .int x2]) (n := 4) (Nat.le_of_ble_eq_true rfl)
  rw [lg_entry_eq]
  generalize (lg_sl ([.ref (a 5), .ref (a 12), .int x2]) ++ List.replicate (4 - (lg_sl ([.ref (a 5), .ref (a 12), .int x2])).length) Slot.unset).toArray = ls at hl ⊢
  have hl : lv_has ls 4 [(0, .ref (a 5)), (1, .ref (a 12)), (2, .int x2)] := hl
  generalize hZ : tz_MQ below (tq_Q (q_Mo_copy_5_12 dC dI cI cJ a th tr dp zi co sh lt ts mf x2) (ga (adM a) s.heap.size)) ([.ref (a 5), .ref (a 12), .int x2] : List Value).toArray s 0 0 0 0 (ga (adM a) s.heap.size) = Z
  obtain ⟨A, hAe⟩ : ∃ A, A = ga (adM a) s.heap.size := ⟨_, rfl⟩
  rw [← hAe] at hst hAC hA0 hI hZ
  refine sv_start hI (fun H locs hI => ?_)
  obtain ⟨⟨o1, o2⟩, ⟨o3, o4⟩, ⟨o5, o6⟩, ⟨o7, o8⟩, ⟨o9, o10⟩, ⟨o11, o12⟩, ⟨o13, o14⟩, ⟨o15, o16⟩, -⟩ := id hok
  have gx2 := sn_rng x2
  have j2 : ∀ (n : Nat) (H : Heap) (locs : List Loc) (ls : Array Slot) (v2_3 : Int32), sI (dC, dI) vcl cI cJ (gsM a th tr dp zi co sh lt ts mf) A s.heap H locs → okM th tr dp zi co sh lt ts mf → 0 ≤ v2_3.toInt → v2_3.toInt ≤ 11 → lv_has ls 4 [(0, .ref (a 5)), (1, .ref (a 12)), (2, .int x2), (3, .int v2_3)] → 11 - v2_3.toInt < (n : Int) → W p l e (headSpec tw_tbl rm_Mo_copy_5_12).room s m ([.ref (a 5), .ref (a 12), .int x2] : List Value).toArray below meth c H locs 0 0 Z (F0 m 2 ls []) := by
    intro n
    induction n with
    | zero => intro H locs ls v2_3 hI hok g2_0 g2_1 hl hme; exfalso; obtain ⟨⟨o17, o18⟩, ⟨o19, o20⟩, ⟨o21, o22⟩, ⟨o23, o24⟩, ⟨o25, o26⟩, ⟨o27, o28⟩, ⟨o29, o30⟩, ⟨o31, o32⟩, -⟩ := id hok; omega
    | succ n ih =>
      intro H locs ls v2_3 hI hok g2_0 g2_1 hl hme
      obtain ⟨⟨o33, o34⟩, ⟨o35, o36⟩, ⟨o37, o38⟩, ⟨o39, o40⟩, ⟨o41, o42⟩, ⟨o43, o44⟩, ⟨o45, o46⟩, ⟨o47, o48⟩, -⟩ := id hok
      refine lv_iload_n hx hb d_Mo_copy_2 rfl (lv_at hl 3 rfl) ?_
      refine lv_iload_n hx hb d_Mo_copy_3 rfl (lv_at hl 2 rfl) ?_
      refine sn_icmp_ge (tgt := 19) hx hb d_Mo_copy_4 (by decide) (fun b49 => ?_) (fun b49 => ?_)
      · subst hZ
        exact tz_ret (W.vret hx hb hr (fun t ht hW => ⟨⟨fun v9 hv9 => by cases hv9; exact (⟨rfl, hok, by rw [ht]; exact hI.1⟩), fun x9 hx9 => (by cases hx9)⟩, hI.2.F ht⟩) hI.2.2.2 d_Mo_copy_19)
      · refine lv_aload_n hx hb d_Mo_copy_7 rfl (lv_at hl 1 rfl) ?_
        refine lv_iload_n hx hb d_Mo_copy_8 rfl (lv_at hl 3 rfl) ?_
        refine lv_aload_n hx hb d_Mo_copy_9 rfl (lv_at hl 0 rfl) ?_
        refine lv_iload_n hx hb d_Mo_copy_10 rfl (lv_at hl 3 rfl) ?_
        refine sv_ialdr hx hb hK hI 5 kM_5 (by omega) (by omega) d_Mo_copy_11 (fun z50 hz50a hz50b => ?_)
        refine sv_iastr hx hb hK (sh_in adM_map hAC) hI 12 kM_12 (by omega) (by omega) (by omega) (by omega) pM_12 d_Mo_copy_12 (fun H locs hI => ?_)
        refine sn_iinc (k := 3) hx hb d_Mo_copy_13 hl rfl (by decide) (by decide) (by omega) (by omega) (fun ls z51 hz51 hl => ?_)
        have hl : lv_has ls 4 [(3, .int z51), (0, .ref (a 5)), (1, .ref (a 12)), (2, .int x2)] := hl
        refine lv_goto (tgt := 2) hx hb d_Mo_copy_16 (by decide) ?_
        exact ih _ _ _ z51 hI hok (by omega) (by omega) (lv_sub hl [1, 2, 3, 0] rfl) (by omega)
  refine sn_iconst hx hb d_Mo_copy_0 (by decide) (fun z52 hz52 => ?_)
  refine lv_istore_n (lv' := [(3, .int z52), (0, .ref (a 5)), (1, .ref (a 12)), (2, .int x2)]) hx hb d_Mo_copy_1 rfl hl (by decide) rfl (fun ls hl => ?_)
  exact j2 12 _ _ _ z52 hI hok (by omega) (by omega) (lv_sub hl [1, 2, 3, 0] rfl) (by omega)
abbrev q_Mo_copy_6_13 (dC : Nat → ClassId) (dI : Nat → Nat → Nat) (cI cJ : ClassId) (a : Nat → Nat) (th tr dp zi co sh lt ts : Int) (mf : Nat → Int32) (x2 : Int32) : Outcome → State → Prop := fun o t => (∀ v, o = .returned v → ((v = none ∧ okM th tr dp zi co sh lt ts mf ∧ sh_I (dC, dI) vcl cI cJ (gsM a th tr dp zi co sh lt ts mf) t.heap))) ∧ (∀ x, o = .threw x → (False))
def rm_Mo_copy_6_13 : Room := { frames := 0, cells := 0, slots := 0, locals := 0 }
set_option maxHeartbeats 4000000 in
set_option maxRecDepth 100000 in
theorem c_Mo_copy_6_13 (l : Launch) (hfl : l.flags = pinnedFlags ++ [noTraceFlag]) (dC : Nat → ClassId) (dI : Nat → Nat → Nat) (cI cJ : ClassId) (a : Nat → Nat) (sz : Nat) (th tr dp zi co sh lt ts : Int) (mf : Nat → Int32) (x2 : Int32) (hok : okM th tr dp zi co sh lt ts mf) (hp0 : 11 ≤ x2.toInt) (hp1 : x2.toInt ≤ 11) : tz_Met l ⟨"StoryMachineModel", "copy", "([I[II)V"⟩ tw_tbl rm_Mo_copy_6_13 (tzP (dC, dI) vcl cI cJ (gsM a th tr dp zi co sh lt ts mf) a (adM a) [.ref (a 6), .ref (a 13), .int x2] sz) (tq_Q (q_Mo_copy_6_13 dC dI cI cJ a th tr dp zi co sh lt ts mf x2) (ga (adM a) sz)) 0 0 0 0 (ga (adM a) sz) := by
  refine tz_ofW (cc := prog_13_method_56_code) (maxL := 4) (ret := none) (by decide) (tx_isM mw_1428) ?_
  intro p e s m args below meth c s₁ B hml hv
  obtain ⟨rfl, hsz, hI0, hK, hst0⟩ := hv
  have hx := B.exec
  have hb := B.bytes
  have hr := B.returns
  have hts := atoms_spec (ws := tw_tbl) B.pre
  have hown : s.vm.findClass "StoryMachineModel" = some m.cls := findClass_of_methodNamed B.named
  have hlocks := B.notSynchronized
  subst hsz
  have hst := fun (H : Heap) (locs : List Loc) (hS : va_S (ga (adM a) s.heap.size) s.heap H locs) (U : State) (hU : U.heap = H) (hW : s.WarmedH U.vm) => zS_all adM_map hI0 hst0 hS hU hW
  have hAC : ∀ q ∈ adM a, ga (adM a) s.heap.size q := fun q h => Or.inl h
  have hA0 : ∀ q, s.heap.size ≤ q → ga (adM a) s.heap.size q := fun q h => Or.inr h
  have hI : sI (dC, dI) vcl cI cJ (gsM a th tr dp zi co sh lt ts mf) (ga (adM a) s.heap.size) s.heap s.heap [] := ⟨hI0, va_S.rf⟩
  clear hI0 hst0
  have hl := lv_entry ([.ref (a 6), .ref (a 13), .int x2]) (n := 4) (Nat.le_of_ble_eq_true rfl)
  rw [lg_entry_eq]
  generalize (lg_sl ([.ref (a 6), .ref (a 13), .int x2]) ++ List.replicate (4 - (lg_sl ([.ref (a 6), .ref (a 13), .int x2])).length) Slot.unset).toArray = ls at hl ⊢
  have hl : lv_has ls 4 [(0, .ref (a 6)), (1, .ref (a 13)), (2, .int x2)] := hl
  generalize hZ : tz_MQ below (tq_Q (q_Mo_copy_6_13 dC dI cI cJ a th tr dp zi co sh lt ts mf x2) (ga (adM a) s.heap.size)) ([.ref (a 6), .ref (a 13), .int x2] : List Value).toArray s 0 0 0 0 (ga (adM a) s.heap.size) = Z
  obtain ⟨A, hAe⟩ : ∃ A, A = ga (adM a) s.heap.size := ⟨_, rfl⟩
  rw [← hAe] at hst hAC hA0 hI hZ
  refine sv_start hI (fun H locs hI => ?_)
  obtain ⟨⟨o1, o2⟩, ⟨o3, o4⟩, ⟨o5, o6⟩, ⟨o7, o8⟩, ⟨o9, o10⟩, ⟨o11, o12⟩, ⟨o13, o14⟩, ⟨o15, o16⟩, -⟩ := id hok
  have gx2 := sn_rng x2
  have j2 : ∀ (n : Nat) (H : Heap) (locs : List Loc) (ls : Array Slot) (v2_3 : Int32), sI (dC, dI) vcl cI cJ (gsM a th tr dp zi co sh lt ts mf) A s.heap H locs → okM th tr dp zi co sh lt ts mf → 0 ≤ v2_3.toInt → v2_3.toInt ≤ 11 → lv_has ls 4 [(0, .ref (a 6)), (1, .ref (a 13)), (2, .int x2), (3, .int v2_3)] → 11 - v2_3.toInt < (n : Int) → W p l e (headSpec tw_tbl rm_Mo_copy_6_13).room s m ([.ref (a 6), .ref (a 13), .int x2] : List Value).toArray below meth c H locs 0 0 Z (F0 m 2 ls []) := by
    intro n
    induction n with
    | zero => intro H locs ls v2_3 hI hok g2_0 g2_1 hl hme; exfalso; obtain ⟨⟨o17, o18⟩, ⟨o19, o20⟩, ⟨o21, o22⟩, ⟨o23, o24⟩, ⟨o25, o26⟩, ⟨o27, o28⟩, ⟨o29, o30⟩, ⟨o31, o32⟩, -⟩ := id hok; omega
    | succ n ih =>
      intro H locs ls v2_3 hI hok g2_0 g2_1 hl hme
      obtain ⟨⟨o33, o34⟩, ⟨o35, o36⟩, ⟨o37, o38⟩, ⟨o39, o40⟩, ⟨o41, o42⟩, ⟨o43, o44⟩, ⟨o45, o46⟩, ⟨o47, o48⟩, -⟩ := id hok
      refine lv_iload_n hx hb d_Mo_copy_2 rfl (lv_at hl 3 rfl) ?_
      refine lv_iload_n hx hb d_Mo_copy_3 rfl (lv_at hl 2 rfl) ?_
      refine sn_icmp_ge (tgt := 19) hx hb d_Mo_copy_4 (by decide) (fun b49 => ?_) (fun b49 => ?_)
      · subst hZ
        exact tz_ret (W.vret hx hb hr (fun t ht hW => ⟨⟨fun v9 hv9 => by cases hv9; exact (⟨rfl, hok, by rw [ht]; exact hI.1⟩), fun x9 hx9 => (by cases hx9)⟩, hI.2.F ht⟩) hI.2.2.2 d_Mo_copy_19)
      · refine lv_aload_n hx hb d_Mo_copy_7 rfl (lv_at hl 1 rfl) ?_
        refine lv_iload_n hx hb d_Mo_copy_8 rfl (lv_at hl 3 rfl) ?_
        refine lv_aload_n hx hb d_Mo_copy_9 rfl (lv_at hl 0 rfl) ?_
        refine lv_iload_n hx hb d_Mo_copy_10 rfl (lv_at hl 3 rfl) ?_
        refine sv_ialdr hx hb hK hI 6 kM_6 (by omega) (by omega) d_Mo_copy_11 (fun z50 hz50a hz50b => ?_)
        refine sv_iastr hx hb hK (sh_in adM_map hAC) hI 13 kM_13 (by omega) (by omega) (by omega) (by omega) pM_13 d_Mo_copy_12 (fun H locs hI => ?_)
        refine sn_iinc (k := 3) hx hb d_Mo_copy_13 hl rfl (by decide) (by decide) (by omega) (by omega) (fun ls z51 hz51 hl => ?_)
        have hl : lv_has ls 4 [(3, .int z51), (0, .ref (a 6)), (1, .ref (a 13)), (2, .int x2)] := hl
        refine lv_goto (tgt := 2) hx hb d_Mo_copy_16 (by decide) ?_
        exact ih _ _ _ z51 hI hok (by omega) (by omega) (lv_sub hl [1, 2, 3, 0] rfl) (by omega)
  refine sn_iconst hx hb d_Mo_copy_0 (by decide) (fun z52 hz52 => ?_)
  refine lv_istore_n (lv' := [(3, .int z52), (0, .ref (a 6)), (1, .ref (a 13)), (2, .int x2)]) hx hb d_Mo_copy_1 rfl hl (by decide) rfl (fun ls hl => ?_)
  exact j2 12 _ _ _ z52 hI hok (by omega) (by omega) (lv_sub hl [1, 2, 3, 0] rfl) (by omega)
