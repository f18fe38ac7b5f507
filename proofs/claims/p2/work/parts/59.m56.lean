abbrev q_Mo_propertyBehind (dC : Nat → ClassId) (dI : Nat → Nat → Nat) (cI cJ : ClassId) (a : Nat → Nat) (th tr dp zi co sh lt ts : Int) (mf : Nat → Int32) (x1 : Int32) (x2 : Int32) : Outcome → State → Prop := fun o t => (∀ v, o = .returned v → ((∃ (z : Int32) (tr_ : Int), v = some (.int z) ∧ okM th tr_ dp zi co sh lt ts mf ∧ (0 ≤ z.toInt) ∧ (z.toInt ≤ 0) ∧ (1 ≤ tr_) ∧ sh_I (dC, dI) vcl cI cJ (gsM a th tr_ dp zi co sh lt ts mf) t.heap) ∨ (∃ (z : Int32), v = some (.int z) ∧ okM th tr dp zi co sh lt ts mf ∧ (0 ≤ z.toInt) ∧ (z.toInt ≤ 31) ∧ (1 ≤ x1.toInt) ∧ (x1.toInt ≤ 20) ∧ (tr ≤ 0) ∧ sh_I (dC, dI) vcl cI cJ (gsM a th tr dp zi co sh lt ts mf) t.heap))) ∧ (∀ x, o = .threw x → (False))
def rm_Mo_propertyBehind : Room := { frames := 7, cells := 0, slots := 0, locals := 156 }
set_option maxHeartbeats 4000000 in
set_option maxRecDepth 100000 in
theorem c_Mo_propertyBehind (l : Launch) (hfl : l.flags = pinnedFlags ++ [noTraceFlag]) (dC : Nat → ClassId) (dI : Nat → Nat → Nat) (cI cJ : ClassId) (a : Nat → Nat) (sz : Nat) (th tr dp zi co sh lt ts : Int) (mf : Nat → Int32) (x1 : Int32) (x2 : Int32) (hok : okM th tr dp zi co sh lt ts mf) : tz_Met l ⟨"StoryMachineModel", "propertyBehind", "(II)I"⟩ tw_tbl rm_Mo_propertyBehind (tzP (dC, dI) vcl cI cJ (gsM a th tr dp zi co sh lt ts mf) a (adM a) [.ref (a 0), .int x1, .int x2] sz) (tq_Q (q_Mo_propertyBehind dC dI cI cJ a th tr dp zi co sh lt ts mf x1 x2) (ga (adM a) sz)) 0 0 0 0 (ga (adM a) sz) := by
  refine tz_ofW (cc := prog_13_method_34_code) (maxL := 4) (ret := (some .int)) (by decide) (tx_isM mw_1385) ?_
  intro p e s m args below meth c s₁ B hml hv
  obtain ⟨rfl, hsz, hI0, hK, hst0⟩ := hv
  have hx := B.exec
  have hb := B.bytes
  have hr := B.returns
  have hts := atoms_spec (ws := tw_tbl) B.pre
  have hown : s.vm.findClass "StoryMachineModel" = some m.cls := findClass_of_methodNamed B.named
  have hlocks := B.notSynchronized
  subst hsz
  have hst := fun (H : Heap) (locs : List Loc) (hS : va_S (ga (adM a) s.heap.size) s.heap H locs) (U : State) (hU : U.heap = H) (hW : s.WarmedH U.vm) => zS_all adM_map hI0 hst0 hS hU hW
  have hAC : ∀ q ∈ adM a, ga (adM a) s.heap.size q := fun q h => Or.inl h
  have hA0 : ∀ q, s.heap.size ≤ q → ga (adM a) s.heap.size q := fun q h => Or.inr h
  have hI : sI (dC, dI) vcl cI cJ (gsM a th tr dp zi co sh lt ts mf) (ga (adM a) s.heap.size) s.heap s.heap [] := ⟨hI0, va_S.rf⟩
  clear hI0 hst0
  have hl := lv_entry ([.ref (a 0), .int x1, .int x2]) (n := 4) (Nat.le_of_ble_eq_true rfl)
  rw [lg_entry_eq]
  generalize (lg_sl ([.ref (a 0), .int x1, .int x2]) ++ List.replicate (4 - (lg_sl ([.ref (a 0), .int x1, .int x2])).length) Slot.unset).toArray = ls at hl ⊢
  have hl : lv_has ls 4 [(0, .ref (a 0)), (1, .int x1), (2, .int x2)] := hl
  generalize hZ : tz_MQ below (tq_Q (q_Mo_propertyBehind dC dI cI cJ a th tr dp zi co sh lt ts mf x1 x2) (ga (adM a) s.heap.size)) ([.ref (a 0), .int x1, .int x2] : List Value).toArray s 0 0 0 0 (ga (adM a) s.heap.size) = Z
  obtain ⟨A, hAe⟩ : ∃ A, A = ga (adM a) s.heap.size := ⟨_, rfl⟩
  rw [← hAe] at hst hAC hA0 hI hZ
  refine sv_start hI (fun H locs hI => ?_)
  obtain ⟨⟨o1, o2⟩, ⟨o3, o4⟩, ⟨o5, o6⟩, ⟨o7, o8⟩, ⟨o9, o10⟩, ⟨o11, o12⟩, ⟨o13, o14⟩, ⟨o15, o16⟩, -⟩ := id hok
  have gx1 := sn_rng x1
  have gx2 := sn_rng x2
  refine lv_iload_n hx hb d_Mo_propertyBehind_0 rfl (lv_at hl 2 rfl) ?_
  refine sn_if_ne (tgt := 12) hx hb d_Mo_propertyBehind_1 (by decide) (fun b17 => ?_) (fun b17 => ?_)
  · refine lv_aload_n hx hb d_Mo_propertyBehind_12 rfl (lv_at hl 0 rfl) ?_
    refine lv_iload_n hx hb d_Mo_propertyBehind_13 rfl (lv_at hl 1 rfl) ?_
    refine lv_iload_n hx hb d_Mo_propertyBehind_14 rfl (lv_at hl 2 rfl) ?_
    refine tz_call (A1 := ga (adM a) H.size) (tz_runV (C := "StoryMachineModel") (As := [.int x1, .int x2]) (rest := []) ⟨hx, hb, hml, hown, hts⟩ (c_Mo_bytesOf l hfl dC dI cI cJ a H.size th tr dp zi co sh lt ts mf x1 x2 hok) (tx_cb (n := 2) hts rfl rfl ⟨Nat.le_of_ble_eq_true rfl, Nat.le_of_ble_eq_true rfl⟩ (tx_code.of (hts _ mw_1369)) (hts _ mw_12) (by decide +kernel) (hts _ mw_1366)) (hts _ mw_1368) (hts _ ms_Mo_bytesOf) ⟨tz_blind, sv_recv (q0 := 0) hts in_Mo hK hI kM_0 rfl, fun U hU hW => ⟨rfl, by rw [hU], by rw [hU]; exact hI.1, va_K.moved hW.alike hK, hst _ _ hI.2 U hU hW⟩⟩ rfl rfl hl.1 rfl (lv_room (Nat.le_of_ble_eq_true rfl)) d_Mo_propertyBehind_15 ⟨Nat.le_of_ble_eq_true rfl, Nat.le_of_ble_eq_true rfl⟩) hI.2 (fun q _ h => ga_sub hAC hA0 hI.2 q h) (ga_sub hAC hA0 hI.2) (fun v t H1 locs1 ht hWt hpost _ _ hS => ?_) (fun x t H1 locs1 ht hWt hpost _ _ hS => (hpost.2 x rfl).elim)
    rcases hpost.1 _ rfl with ⟨z18, t_tr19, hv, c20, c20_0, c20_1, c20_2, hI1⟩ | ⟨z21, hv, c22, c22_0, c22_1, c22_2, c22_3, c22_4, hI1⟩
    · cases hv
      have hI : sI (dC, dI) vcl cI cJ (gsM a th t_tr19 dp zi co sh lt ts mf) A s.heap H1 locs1 := ⟨by rw [← ht]; exact hI1, hS⟩
      obtain ⟨-, ⟨o23, o24⟩, -, -, -, -, -, -, -⟩ := id c20
      clear hpost hI1 hS ht hWt
      revert hI; generalize H1 = H; generalize locs1 = locs; intro hI
      refine lv_istore_n (lv' := [(3, .int z18), (0, .ref (a 0)), (1, .int x1), (2, .int x2)]) hx hb d_Mo_propertyBehind_18 rfl hl (by decide) rfl (fun ls hl => ?_)
      refine lv_aload_n hx hb d_Mo_propertyBehind_19 rfl (lv_at hl 1 rfl) ?_
      refine sv_gete (C := "StoryMachineModel") (T := T_Mo) (N := 51) hx hb hts in_Mo hown hK hI 0 kM_0 rfl 25 (by decide) (hts _ mw_1088) rfl d_Mo_propertyBehind_20 (fun z25 hz25 => ?_)
      refine sn_if_gt (tgt := 47) hx hb d_Mo_propertyBehind_23 (by decide) (fun b26 => ?_) (fun b26 => ?_)
      · refine sn_iconst hx hb d_Mo_propertyBehind_47 (by decide) (fun z27 hz27 => ?_)
        subst hZ
        exact tz_ret (W.iret (v := z27) hx hb hr (fun t ht hW => ⟨⟨fun v9 hv9 => by cases hv9; exact (Or.inl ⟨z27, t_tr19, rfl, c20, by omega, by omega, by omega, by rw [ht]; exact hI.1⟩), fun x9 hx9 => (by cases hx9)⟩, hI.2.F ht⟩) hI.2.2.2 d_Mo_propertyBehind_48)
      · omega
    · cases hv
      have hI : sI (dC, dI) vcl cI cJ (gsM a th tr dp zi co sh lt ts mf) A s.heap H1 locs1 := ⟨by rw [← ht]; exact hI1, hS⟩
      clear hpost hI1 hS ht hWt
      revert hI; generalize H1 = H; generalize locs1 = locs; intro hI
      refine lv_istore_n (lv' := [(3, .int z21), (0, .ref (a 0)), (1, .int x1), (2, .int x2)]) hx hb d_Mo_propertyBehind_18 rfl hl (by decide) rfl (fun ls hl => ?_)
      refine lv_aload_n hx hb d_Mo_propertyBehind_19 rfl (lv_at hl 1 rfl) ?_
      refine sv_gete (C := "StoryMachineModel") (T := T_Mo) (N := 51) hx hb hts in_Mo hown hK hI 0 kM_0 rfl 25 (by decide) (hts _ mw_1088) rfl d_Mo_propertyBehind_20 (fun z28 hz28 => ?_)
      refine sn_if_gt (tgt := 47) hx hb d_Mo_propertyBehind_23 (by decide) (fun b29 => ?_) (fun b29 => ?_)
      · omega
      · refine lv_aload_n hx hb d_Mo_propertyBehind_26 rfl (lv_at hl 1 rfl) ?_
        refine lv_iload_n hx hb d_Mo_propertyBehind_27 rfl (lv_at hl 3 rfl) ?_
        refine sn_if_eq (tgt := 35) hx hb d_Mo_propertyBehind_28 (by decide) (fun b30 => ?_) (fun b30 => ?_)
        · refine sn_iconst hx hb d_Mo_propertyBehind_35 (by decide) (fun z31 hz31 => ?_)
          refine lv_goto (tgt := 40) hx hb d_Mo_propertyBehind_36 (by decide) ?_
          refine sn_iconst hx hb d_Mo_propertyBehind_40 (by decide) (fun z32 hz32 => ?_)
          refine tz_call (A1 := ga (adM a) H.size) (tz_runV (C := "StoryMachineModel") (As := [.int z31, .int z32]) (rest := []) ⟨hx, hb, hml, hown, hts⟩ (c_Mo_good l hfl dC dI cI cJ a H.size th tr dp zi co sh lt ts mf z31 z32 c22 (by omega) (by omega) (by omega) (by omega)) (tx_cb (n := 2) hts rfl rfl ⟨Nat.le_of_ble_eq_true rfl, Nat.le_of_ble_eq_true rfl⟩ (tx_code.of (hts _ mw_1240)) (hts _ mw_12) (by decide +kernel) (hts _ mw_1237)) (hts _ mw_1239) (hts _ ms_Mo_good) ⟨tz_blind, sv_recv (q0 := 0) hts in_Mo hK hI kM_0 rfl, fun U hU hW => ⟨rfl, by rw [hU], by rw [hU]; exact hI.1, va_K.moved hW.alike hK, hst _ _ hI.2 U hU hW⟩⟩ rfl rfl hl.1 rfl (lv_room (Nat.le_of_ble_eq_true rfl)) d_Mo_propertyBehind_41 ⟨Nat.le_of_ble_eq_true rfl, Nat.le_of_ble_eq_true rfl⟩) hI.2 (fun q _ h => ga_sub hAC hA0 hI.2 q h) (ga_sub hAC hA0 hI.2) (fun v t H1 locs1 ht hWt hpost _ _ hS => ?_) (fun x t H1 locs1 ht hWt hpost _ _ hS => (hpost.2 x rfl).elim)
          rcases hpost.1 _ rfl with ⟨z33, t_tr34, hv, c35, c35_0, c35_1, c35_2, c35_3, hI1⟩ | ⟨z36, hv, c37, c37_0, c37_1, c37_2, c37_3, hI1⟩
          · cases hv
            have hI : sI (dC, dI) vcl cI cJ (gsM a th t_tr34 dp zi co sh lt ts mf) A s.heap H1 locs1 := ⟨by rw [← ht]; exact hI1, hS⟩
            obtain ⟨-, ⟨o38, o39⟩, -, -, -, -, -, -, -⟩ := id c35
            clear hpost hI1 hS ht hWt
            revert hI; generalize H1 = H; generalize locs1 = locs; intro hI
            refine sn_if_ne (tgt := 49) hx hb d_Mo_propertyBehind_44 (by decide) (fun b40 => ?_) (fun b40 => ?_)
            · omega
            · refine sn_iconst hx hb d_Mo_propertyBehind_47 (by decide) (fun z41 hz41 => ?_)
              subst hZ
              exact tz_ret (W.iret (v := z41) hx hb hr (fun t ht hW => ⟨⟨fun v9 hv9 => by cases hv9; exact (Or.inl ⟨z41, t_tr34, rfl, c35, by omega, by omega, by omega, by rw [ht]; exact hI.1⟩), fun x9 hx9 => (by cases hx9)⟩, hI.2.F ht⟩) hI.2.2.2 d_Mo_propertyBehind_48)
          · cases hv
            have hI : sI (dC, dI) vcl cI cJ (gsM a th tr dp zi co sh lt ts mf) A s.heap H1 locs1 := ⟨by rw [← ht]; exact hI1, hS⟩
            clear hpost hI1 hS ht hWt
            revert hI; generalize H1 = H; generalize locs1 = locs; intro hI
            refine sn_if_ne (tgt := 49) hx hb d_Mo_propertyBehind_44 (by decide) (fun b42 => ?_) (fun b42 => ?_)
            · refine lv_aload_n hx hb d_Mo_propertyBehind_49 rfl (lv_at hl 1 rfl) ?_
              refine lv_iload_n hx hb d_Mo_propertyBehind_50 rfl (lv_at hl 3 rfl) ?_
              refine sn_if_ne (tgt := 58) hx hb d_Mo_propertyBehind_51 (by decide) (fun b43 => ?_) (fun b43 => ?_)
              · omega
              · refine lv_iload_n hx hb d_Mo_propertyBehind_54 rfl (lv_at hl 0 rfl) ?_
                refine lv_goto (tgt := 65) hx hb d_Mo_propertyBehind_55 (by decide) ?_
                refine tz_call (A1 := ga (adM a) H.size) (tz_runV (C := "StoryMachineModel") (As := [.int z21]) (rest := []) ⟨hx, hb, hml, hown, hts⟩ (c_Mo_byteAt l hfl dC dI cI cJ a H.size th tr dp zi co sh lt ts mf z21 c37) (tx_cb (n := 1) hts rfl rfl ⟨Nat.le_of_ble_eq_true rfl, Nat.le_of_ble_eq_true rfl⟩ (tx_code.of (hts _ mw_1236)) (hts _ mw_12) (by decide +kernel) (hts _ mw_1233)) (hts _ mw_1235) (hts _ ms_Mo_byteAt) ⟨tz_blind, sv_recv (q0 := 0) hts in_Mo hK hI kM_0 rfl, fun U hU hW => ⟨rfl, by rw [hU], by rw [hU]; exact hI.1, va_K.moved hW.alike hK, hst _ _ hI.2 U hU hW⟩⟩ rfl rfl hl.1 rfl (lv_room (Nat.le_of_ble_eq_true rfl)) d_Mo_propertyBehind_65 ⟨Nat.le_of_ble_eq_true rfl, Nat.le_of_ble_eq_true rfl⟩) hI.2 (fun q _ h => ga_sub hAC hA0 hI.2 q h) (ga_sub hAC hA0 hI.2) (fun v t H1 locs1 ht hWt hpost _ _ hS => ?_) (fun x t H1 locs1 ht hWt hpost _ _ hS => (hpost.2 x rfl).elim)
                rcases hpost.1 _ rfl with ⟨z44, t_tr45, hv, c46, c46_0, c46_1, c46_2, hI1⟩ | ⟨z47, hv, c48, c48_0, c48_1, c48_2, c48_3, c48_4, hI1⟩
                · cases hv
                  have hI : sI (dC, dI) vcl cI cJ (gsM a th t_tr45 dp zi co sh lt ts mf) A s.heap H1 locs1 := ⟨by rw [← ht]; exact hI1, hS⟩
                  obtain ⟨-, ⟨o49, o50⟩, -, -, -, -, -, -, -⟩ := id c46
                  clear hpost hI1 hS ht hWt
                  revert hI; generalize H1 = H; generalize locs1 = locs; intro hI
                  refine sn_bipush hx hb d_Mo_propertyBehind_68 (by decide) (fun z51 hz51 => ?_)
                  refine sn_irem (k := 32) hx hb d_Mo_propertyBehind_70 (by omega) (by omega) (by omega) (fun z52 hz52 => ?_)
                  subst hZ
                  exact tz_ret (W.iret (v := z52) hx hb hr (fun t ht hW => ⟨⟨fun v9 hv9 => by cases hv9; exact (Or.inl ⟨z52, t_tr45, rfl, c46, by omega, by omega, by omega, by rw [ht]; exact hI.1⟩), fun x9 hx9 => (by cases hx9)⟩, hI.2.F ht⟩) hI.2.2.2 d_Mo_propertyBehind_71)
                · cases hv
                  have hI : sI (dC, dI) vcl cI cJ (gsM a th tr dp zi co sh lt ts mf) A s.heap H1 locs1 := ⟨by rw [← ht]; exact hI1, hS⟩
                  clear hpost hI1 hS ht hWt
                  revert hI; generalize H1 = H; generalize locs1 = locs; intro hI
                  refine sn_bipush hx hb d_Mo_propertyBehind_68 (by decide) (fun z53 hz53 => ?_)
                  refine sn_irem (k := 32) hx hb d_Mo_propertyBehind_70 (by omega) (by omega) (by omega) (fun z54 hz54 => ?_)
                  subst hZ
                  exact tz_ret (W.iret (v := z54) hx hb hr (fun t ht hW => ⟨⟨fun v9 hv9 => by cases hv9; exact (Or.inr (⟨z54, rfl, c48, by omega, by omega, by omega, by omega, by omega, by rw [ht]; exact hI.1⟩)), fun x9 hx9 => (by cases hx9)⟩, hI.2.F ht⟩) hI.2.2.2 d_Mo_propertyBehind_71)
            · omega
        · refine lv_iload_n hx hb d_Mo_propertyBehind_31 rfl (lv_at hl 0 rfl) ?_
          refine sn_if_le (tgt := 39) hx hb d_Mo_propertyBehind_32 (by decide) (fun b55 => ?_) (fun b55 => ?_)
          · refine sn_iconst hx hb d_Mo_propertyBehind_39 (by decide) (fun z56 hz56 => ?_)
            refine sn_iconst hx hb d_Mo_propertyBehind_40 (by decide) (fun z57 hz57 => ?_)
            refine tz_call (A1 := ga (adM a) H.size) (tz_runV (C := "StoryMachineModel") (As := [.int z56, .int z57]) (rest := []) ⟨hx, hb, hml, hown, hts⟩ (c_Mo_good l hfl dC dI cI cJ a H.size th tr dp zi co sh lt ts mf z56 z57 c22 (by omega) (by omega) (by omega) (by omega)) (tx_cb (n := 2) hts rfl rfl ⟨Nat.le_of_ble_eq_true rfl, Nat.le_of_ble_eq_true rfl⟩ (tx_code.of (hts _ mw_1240)) (hts _ mw_12) (by decide +kernel) (hts _ mw_1237)) (hts _ mw_1239) (hts _ ms_Mo_good) ⟨tz_blind, sv_recv (q0 := 0) hts in_Mo hK hI kM_0 rfl, fun U hU hW => ⟨rfl, by rw [hU], by rw [hU]; exact hI.1, va_K.moved hW.alike hK, hst _ _ hI.2 U hU hW⟩⟩ rfl rfl hl.1 rfl (lv_room (Nat.le_of_ble_eq_true rfl)) d_Mo_propertyBehind_41 ⟨Nat.le_of_ble_eq_true rfl, Nat.le_of_ble_eq_true rfl⟩) hI.2 (fun q _ h => ga_sub hAC hA0 hI.2 q h) (ga_sub hAC hA0 hI.2) (fun v t H1 locs1 ht hWt hpost _ _ hS => ?_) (fun x t H1 locs1 ht hWt hpost _ _ hS => (hpost.2 x rfl).elim)
            rcases hpost.1 _ rfl with ⟨z58, t_tr59, hv, c60, c60_0, c60_1, c60_2, c60_3, hI1⟩ | ⟨z61, hv, c62, c62_0, c62_1, c62_2, c62_3, hI1⟩
            · cases hv
              have hI : sI (dC, dI) vcl cI cJ (gsM a th t_tr59 dp zi co sh lt ts mf) A s.heap H1 locs1 := ⟨by rw [← ht]; exact hI1, hS⟩
              obtain ⟨-, ⟨o63, o64⟩, -, -, -, -, -, -, -⟩ := id c60
              clear hpost hI1 hS ht hWt
              revert hI; generalize H1 = H; generalize locs1 = locs; intro hI
              refine sn_if_ne (tgt := 49) hx hb d_Mo_propertyBehind_44 (by decide) (fun b65 => ?_) (fun b65 => ?_)
              · omega
              · refine sn_iconst hx hb d_Mo_propertyBehind_47 (by decide) (fun z66 hz66 => ?_)
                subst hZ
                exact tz_ret (W.iret (v := z66) hx hb hr (fun t ht hW => ⟨⟨fun v9 hv9 => by cases hv9; exact (Or.inl ⟨z66, t_tr59, rfl, c60, by omega, by omega, by omega, by rw [ht]; exact hI.1⟩), fun x9 hx9 => (by cases hx9)⟩, hI.2.F ht⟩) hI.2.2.2 d_Mo_propertyBehind_48)
            · omega
          · refine sn_iconst hx hb d_Mo_propertyBehind_35 (by decide) (fun z67 hz67 => ?_)
            refine lv_goto (tgt := 40) hx hb d_Mo_propertyBehind_36 (by decide) ?_
            refine sn_iconst hx hb d_Mo_propertyBehind_40 (by decide) (fun z68 hz68 => ?_)
            refine tz_call (A1 := ga (adM a) H.size) (tz_runV (C := "StoryMachineModel") (As := [.int z67, .int z68]) (rest := []) ⟨hx, hb, hml, hown, hts⟩ (c_Mo_good l hfl dC dI cI cJ a H.size th tr dp zi co sh lt ts mf z67 z68 c22 (by omega) (by omega) (by omega) (by omega)) (tx_cb (n := 2) hts rfl rfl ⟨Nat.le_of_ble_eq_true rfl, Nat.le_of_ble_eq_true rfl⟩ (tx_code.of (hts _ mw_1240)) (hts _ mw_12) (by decide +kernel) (hts _ mw_1237)) (hts _ mw_1239) (hts _ ms_Mo_good) ⟨tz_blind, sv_recv (q0 := 0) hts in_Mo hK hI kM_0 rfl, fun U hU hW => ⟨rfl, by rw [hU], by rw [hU]; exact hI.1, va_K.moved hW.alike hK, hst _ _ hI.2 U hU hW⟩⟩ rfl rfl hl.1 rfl (lv_room (Nat.le_of_ble_eq_true rfl)) d_Mo_propertyBehind_41 ⟨Nat.le_of_ble_eq_true rfl, Nat.le_of_ble_eq_true rfl⟩) hI.2 (fun q _ h => ga_sub hAC hA0 hI.2 q h) (ga_sub hAC hA0 hI.2) (fun v t H1 locs1 ht hWt hpost _ _ hS => ?_) (fun x t H1 locs1 ht hWt hpost _ _ hS => (hpost.2 x rfl).elim)
            rcases hpost.1 _ rfl with ⟨z69, t_tr70, hv, c71, c71_0, c71_1, c71_2, c71_3, hI1⟩ | ⟨z72, hv, c73, c73_0, c73_1, c73_2, c73_3, hI1⟩
            · cases hv
              have hI : sI (dC, dI) vcl cI cJ (gsM a th t_tr70 dp zi co sh lt ts mf) A s.heap H1 locs1 := ⟨by rw [← ht]; exact hI1, hS⟩
              obtain ⟨-, ⟨o74, o75⟩, -, -, -, -, -, -, -⟩ := id c71
              clear hpost hI1 hS ht hWt
              revert hI; generalize H1 = H; generalize locs1 = locs; intro hI
              refine sn_if_ne (tgt := 49) hx hb d_Mo_propertyBehind_44 (by decide) (fun b76 => ?_) (fun b76 => ?_)
              · omega
              · refine sn_iconst hx hb d_Mo_propertyBehind_47 (by decide) (fun z77 hz77 => ?_)
                subst hZ
                exact tz_ret (W.iret (v := z77) hx hb hr (fun t ht hW => ⟨⟨fun v9 hv9 => by cases hv9; exact (Or.inl ⟨z77, t_tr70, rfl, c71, by omega, by omega, by omega, by rw [ht]; exact hI.1⟩), fun x9 hx9 => (by cases hx9)⟩, hI.2.F ht⟩) hI.2.2.2 d_Mo_propertyBehind_48)
            · cases hv
              have hI : sI (dC, dI) vcl cI cJ (gsM a th tr dp zi co sh lt ts mf) A s.heap H1 locs1 := ⟨by rw [← ht]; exact hI1, hS⟩
              clear hpost hI1 hS ht hWt
              revert hI; generalize H1 = H; generalize locs1 = locs; intro hI
              refine sn_if_ne (tgt := 49) hx hb d_Mo_propertyBehind_44 (by decide) (fun b78 => ?_) (fun b78 => ?_)
              · refine lv_aload_n hx hb d_Mo_propertyBehind_49 rfl (lv_at hl 1 rfl) ?_
                refine lv_iload_n hx hb d_Mo_propertyBehind_50 rfl (lv_at hl 3 rfl) ?_
                refine sn_if_ne (tgt := 58) hx hb d_Mo_propertyBehind_51 (by decide) (fun b79 => ?_) (fun b79 => ?_)
                · refine lv_iload_n hx hb d_Mo_propertyBehind_58 rfl (lv_at hl 0 rfl) ?_
                  refine lv_aload_n hx hb d_Mo_propertyBehind_59 rfl (lv_at hl 1 rfl) ?_
                  refine lv_iload_n hx hb d_Mo_propertyBehind_60 rfl (lv_at hl 0 rfl) ?_
                  refine tz_call (A1 := ga (adM a) H.size) (tz_runV (C := "StoryMachineModel") (As := [.int z21]) (rest := [.int z21, .ref (a 0)]) ⟨hx, hb, hml, hown, hts⟩ (c_Mo_lengthAt l hfl dC dI cI cJ a H.size th tr dp zi co sh lt ts mf z21 c73) (tx_cb (n := 1) hts rfl rfl ⟨Nat.le_of_ble_eq_true rfl, Nat.le_of_ble_eq_true rfl⟩ (tx_code.of (hts _ mw_1381)) (hts _ mw_12) (by decide +kernel) (hts _ mw_1378)) (hts _ mw_1380) (hts _ ms_Mo_lengthAt) ⟨tz_blind, sv_recv (q0 := 0) hts in_Mo hK hI kM_0 rfl, fun U hU hW => ⟨rfl, by rw [hU], by rw [hU]; exact hI.1, va_K.moved hW.alike hK, hst _ _ hI.2 U hU hW⟩⟩ rfl rfl hl.1 rfl (lv_room (Nat.le_of_ble_eq_true rfl)) d_Mo_propertyBehind_61 ⟨Nat.le_of_ble_eq_true rfl, Nat.le_of_ble_eq_true rfl⟩) hI.2 (fun q _ h => ga_sub hAC hA0 hI.2 q h) (ga_sub hAC hA0 hI.2) (fun v t H1 locs1 ht hWt hpost _ _ hS => ?_) (fun x t H1 locs1 ht hWt hpost _ _ hS => (hpost.2 x rfl).elim)
                  rcases hpost.1 _ rfl with ⟨z80, t_tr81, hv, c82, c82_0, c82_1, c82_2, hI1⟩ | ⟨z83, hv, c84, c84_0, c84_1, c84_2, hI1⟩
                  · cases hv
                    have hI : sI (dC, dI) vcl cI cJ (gsM a th t_tr81 dp zi co sh lt ts mf) A s.heap H1 locs1 := ⟨by rw [← ht]; exact hI1, hS⟩
                    obtain ⟨-, ⟨o85, o86⟩, -, -, -, -, -, -, -⟩ := id c82
                    clear hpost hI1 hS ht hWt
                    revert hI; generalize H1 = H; generalize locs1 = locs; intro hI
                    refine sn_iadd hx hb d_Mo_propertyBehind_64 (by omega) (by omega) (fun z87 hz87 => ?_)
                    refine tz_call (A1 := ga (adM a) H.size) (tz_runV (C := "StoryMachineModel") (As := [.int z87]) (rest := []) ⟨hx, hb, hml, hown, hts⟩ (c_Mo_byteAt l hfl dC dI cI cJ a H.size th t_tr81 dp zi co sh lt ts mf z87 c82) (tx_cb (n := 1) hts rfl rfl ⟨Nat.le_of_ble_eq_true rfl, Nat.le_of_ble_eq_true rfl⟩ (tx_code.of (hts _ mw_1236)) (hts _ mw_12) (by decide +kernel) (hts _ mw_1233)) (hts _ mw_1235) (hts _ ms_Mo_byteAt) ⟨tz_blind, sv_recv (q0 := 0) hts in_Mo hK hI kM_0 rfl, fun U hU hW => ⟨rfl, by rw [hU], by rw [hU]; exact hI.1, va_K.moved hW.alike hK, hst _ _ hI.2 U hU hW⟩⟩ rfl rfl hl.1 rfl (lv_room (Nat.le_of_ble_eq_true rfl)) d_Mo_propertyBehind_65 ⟨Nat.le_of_ble_eq_true rfl, Nat.le_of_ble_eq_true rfl⟩) hI.2 (fun q _ h => ga_sub hAC hA0 hI.2 q h) (ga_sub hAC hA0 hI.2) (fun v t H1 locs1 ht hWt hpost _ _ hS => ?_) (fun x t H1 locs1 ht hWt hpost _ _ hS => (hpost.2 x rfl).elim)
                    rcases hpost.1 _ rfl with ⟨z88, t_tr89, hv, c90, c90_0, c90_1, c90_2, hI1⟩ | ⟨z91, hv, c92, c92_0, c92_1, c92_2, c92_3, c92_4, hI1⟩
                    · cases hv
                      have hI : sI (dC, dI) vcl cI cJ (gsM a th t_tr89 dp zi co sh lt ts mf) A s.heap H1 locs1 := ⟨by rw [← ht]; exact hI1, hS⟩
                      obtain ⟨-, ⟨o93, o94⟩, -, -, -, -, -, -, -⟩ := id c90
                      clear hpost hI1 hS ht hWt
                      revert hI; generalize H1 = H; generalize locs1 = locs; intro hI
                      refine sn_bipush hx hb d_Mo_propertyBehind_68 (by decide) (fun z95 hz95 => ?_)
                      refine sn_irem (k := 32) hx hb d_Mo_propertyBehind_70 (by omega) (by omega) (by omega) (fun z96 hz96 => ?_)
                      subst hZ
                      exact tz_ret (W.iret (v := z96) hx hb hr (fun t ht hW => ⟨⟨fun v9 hv9 => by cases hv9; exact (Or.inl ⟨z96, t_tr89, rfl, c90, by omega, by omega, by omega, by rw [ht]; exact hI.1⟩), fun x9 hx9 => (by cases hx9)⟩, hI.2.F ht⟩) hI.2.2.2 d_Mo_propertyBehind_71)
                    · omega
                  · cases hv
                    have hI : sI (dC, dI) vcl cI cJ (gsM a th tr dp zi co sh lt ts mf) A s.heap H1 locs1 := ⟨by rw [← ht]; exact hI1, hS⟩
                    clear hpost hI1 hS ht hWt
                    revert hI; generalize H1 = H; generalize locs1 = locs; intro hI
                    refine sn_iadd hx hb d_Mo_propertyBehind_64 (by omega) (by omega) (fun z97 hz97 => ?_)
                    refine tz_call (A1 := ga (adM a) H.size) (tz_runV (C := "StoryMachineModel") (As := [.int z97]) (rest := []) ⟨hx, hb, hml, hown, hts⟩ (c_Mo_byteAt l hfl dC dI cI cJ a H.size th tr dp zi co sh lt ts mf z97 c84) (tx_cb (n := 1) hts rfl rfl ⟨Nat.le_of_ble_eq_true rfl, Nat.le_of_ble_eq_true rfl⟩ (tx_code.of (hts _ mw_1236)) (hts _ mw_12) (by decide +kernel) (hts _ mw_1233)) (hts _ mw_1235) (hts _ ms_Mo_byteAt) ⟨tz_blind, sv_recv (q0 := 0) hts in_Mo hK hI kM_0 rfl, fun U hU hW => ⟨rfl, by rw [hU], by rw [hU]; exact hI.1, va_K.moved hW.alike hK, hst _ _ hI.2 U hU hW⟩⟩ rfl rfl hl.1 rfl (lv_room (Nat.le_of_ble_eq_true rfl)) d_Mo_propertyBehind_65 ⟨Nat.le_of_ble_eq_true rfl, Nat.le_of_ble_eq_true rfl⟩) hI.2 (fun q _ h => ga_sub hAC hA0 hI.2 q h) (ga_sub hAC hA0 hI.2) (fun v t H1 locs1 ht hWt hpost _ _ hS => ?_) (fun x t H1 locs1 ht hWt hpost _ _ hS => (hpost.2 x rfl).elim)
                    rcases hpost.1 _ rfl with ⟨z98, t_tr99, hv, c100, c100_0, c100_1, c100_2, hI1⟩ | ⟨z101, hv, c102, c102_0, c102_1, c102_2, c102_3, c102_4, hI1⟩
                    · cases hv
                      have hI : sI (dC, dI) vcl cI cJ (gsM a th t_tr99 dp zi co sh lt ts mf) A s.heap H1 locs1 := ⟨by rw [← ht]; exact hI1, hS⟩
                      obtain ⟨-, ⟨o103, o104⟩, -, -, -, -, -, -, -⟩ := id c100
                      clear hpost hI1 hS ht hWt
                      revert hI; generalize H1 = H; generalize locs1 = locs; intro hI
                      refine sn_bipush hx hb d_Mo_propertyBehind_68 (by decide) (fun z105 hz105 => ?_)
                      refine sn_irem (k := 32) hx hb d_Mo_propertyBehind_70 (by omega) (by omega) (by omega) (fun z106 hz106 => ?_)
                      subst hZ
                      exact tz_ret (W.iret (v := z106) hx hb hr (fun t ht hW => ⟨⟨fun v9 hv9 => by cases hv9; exact (Or.inl ⟨z106, t_tr99, rfl, c100, by omega, by omega, by omega, by rw [ht]; exact hI.1⟩), fun x9 hx9 => (by cases hx9)⟩, hI.2.F ht⟩) hI.2.2.2 d_Mo_propertyBehind_71)
                    · cases hv
                      have hI : sI (dC, dI) vcl cI cJ (gsM a th tr dp zi co sh lt ts mf) A s.heap H1 locs1 := ⟨by rw [← ht]; exact hI1, hS⟩
                      clear hpost hI1 hS ht hWt
                      revert hI; generalize H1 = H; generalize locs1 = locs; intro hI
                      refine sn_bipush hx hb d_Mo_propertyBehind_68 (by decide) (fun z107 hz107 => ?_)
                      refine sn_irem (k := 32) hx hb d_Mo_propertyBehind_70 (by omega) (by omega) (by omega) (fun z108 hz108 => ?_)
                      subst hZ
                      exact tz_ret (W.iret (v := z108) hx hb hr (fun t ht hW => ⟨⟨fun v9 hv9 => by cases hv9; exact (Or.inr (⟨z108, rfl, c102, by omega, by omega, by omega, by omega, by omega, by rw [ht]; exact hI.1⟩)), fun x9 hx9 => (by cases hx9)⟩, hI.2.F ht⟩) hI.2.2.2 d_Mo_propertyBehind_71)
                · refine lv_iload_n hx hb d_Mo_propertyBehind_54 rfl (lv_at hl 0 rfl) ?_
                  refine lv_goto (tgt := 65) hx hb d_Mo_propertyBehind_55 (by decide) ?_
                  refine tz_call (A1 := ga (adM a) H.size) (tz_runV (C := "StoryMachineModel") (As := [.int z21]) (rest := []) ⟨hx, hb, hml, hown, hts⟩ (c_Mo_byteAt l hfl dC dI cI cJ a H.size th tr dp zi co sh lt ts mf z21 c73) (tx_cb (n := 1) hts rfl rfl ⟨Nat.le_of_ble_eq_true rfl, Nat.le_of_ble_eq_true rfl⟩ (tx_code.of (hts _ mw_1236)) (hts _ mw_12) (by decide +kernel) (hts _ mw_1233)) (hts _ mw_1235) (hts _ ms_Mo_byteAt) ⟨tz_blind, sv_recv (q0 := 0) hts in_Mo hK hI kM_0 rfl, fun U hU hW => ⟨rfl, by rw [hU], by rw [hU]; exact hI.1, va_K.moved hW.alike hK, hst _ _ hI.2 U hU hW⟩⟩ rfl rfl hl.1 rfl (lv_room (Nat.le_of_ble_eq_true rfl)) d_Mo_propertyBehind_65 ⟨Nat.le_of_ble_eq_true rfl, Nat.le_of_ble_eq_true rfl⟩) hI.2 (fun q _ h => ga_sub hAC hA0 hI.2 q h) (ga_sub hAC hA0 hI.2) (fun v t H1 locs1 ht hWt hpost _ _ hS => ?_) (fun x t H1 locs1 ht hWt hpost _ _ hS => (hpost.2 x rfl).elim)
                  rcases hpost.1 _ rfl with ⟨z109, t_tr110, hv, c111, c111_0, c111_1, c111_2, hI1⟩ | ⟨z112, hv, c113, c113_0, c113_1, c113_2, c113_3, c113_4, hI1⟩
                  · cases hv
                    have hI : sI (dC, dI) vcl cI cJ (gsM a th t_tr110 dp zi co sh lt ts mf) A s.heap H1 locs1 := ⟨by rw [← ht]; exact hI1, hS⟩
                    obtain ⟨-, ⟨o114, o115⟩, -, -, -, -, -, -, -⟩ := id c111
                    clear hpost hI1 hS ht hWt
                    revert hI; generalize H1 = H; generalize locs1 = locs; intro hI
                    refine sn_bipush hx hb d_Mo_propertyBehind_68 (by decide) (fun z116 hz116 => ?_)
                    refine sn_irem (k := 32) hx hb d_Mo_propertyBehind_70 (by omega) (by omega) (by omega) (fun z117 hz117 => ?_)
                    subst hZ
                    exact tz_ret (W.iret (v := z117) hx hb hr (fun t ht hW => ⟨⟨fun v9 hv9 => by cases hv9; exact (Or.inl ⟨z117, t_tr110, rfl, c111, by omega, by omega, by omega, by rw [ht]; exact hI.1⟩), fun x9 hx9 => (by cases hx9)⟩, hI.2.F ht⟩) hI.2.2.2 d_Mo_propertyBehind_71)
                  · cases hv
                    have hI : sI (dC, dI) vcl cI cJ (gsM a th tr dp zi co sh lt ts mf) A s.heap H1 locs1 := ⟨by rw [← ht]; exact hI1, hS⟩
                    clear hpost hI1 hS ht hWt
                    revert hI; generalize H1 = H; generalize locs1 = locs; intro hI
                    refine sn_bipush hx hb d_Mo_propertyBehind_68 (by decide) (fun z118 hz118 => ?_)
                    refine sn_irem (k := 32) hx hb d_Mo_propertyBehind_70 (by omega) (by omega) (by omega) (fun z119 hz119 => ?_)
                    subst hZ
                    exact tz_ret (W.iret (v := z119) hx hb hr (fun t ht hW => ⟨⟨fun v9 hv9 => by cases hv9; exact (Or.inr (⟨z119, rfl, c113, by omega, by omega, by omega, by omega, by omega, by rw [ht]; exact hI.1⟩)), fun x9 hx9 => (by cases hx9)⟩, hI.2.F ht⟩) hI.2.2.2 d_Mo_propertyBehind_71)
              · omega
  · refine lv_aload_n hx hb d_Mo_propertyBehind_4 rfl (lv_at hl 0 rfl) ?_
    refine lv_iload_n hx hb d_Mo_propertyBehind_5 rfl (lv_at hl 1 rfl) ?_
    refine tz_call (A1 := ga (adM a) H.size) (tz_runV (C := "StoryMachineModel") (As := [.int x1]) (rest := []) ⟨hx, hb, hml, hown, hts⟩ (c_Mo_firstProperty l hfl dC dI cI cJ a H.size th tr dp zi co sh lt ts mf x1 hok) (tx_cb (n := 1) hts rfl rfl ⟨Nat.le_of_ble_eq_true rfl, Nat.le_of_ble_eq_true rfl⟩ (tx_code.of (hts _ mw_1377)) (hts _ mw_12) (by decide +kernel) (hts _ mw_1374)) (hts _ mw_1376) (hts _ ms_Mo_firstProperty) ⟨tz_blind, sv_recv (q0 := 0) hts in_Mo hK hI kM_0 rfl, fun U hU hW => ⟨rfl, by rw [hU], by rw [hU]; exact hI.1, va_K.moved hW.alike hK, hst _ _ hI.2 U hU hW⟩⟩ rfl rfl hl.1 rfl (lv_room (Nat.le_of_ble_eq_true rfl)) d_Mo_propertyBehind_6 ⟨Nat.le_of_ble_eq_true rfl, Nat.le_of_ble_eq_true rfl⟩) hI.2 (fun q _ h => ga_sub hAC hA0 hI.2 q h) (ga_sub hAC hA0 hI.2) (fun v t H1 locs1 ht hWt hpost _ _ hS => ?_) (fun x t H1 locs1 ht hWt hpost _ _ hS => (hpost.2 x rfl).elim)
    rcases hpost.1 _ rfl with ⟨z120, t_tr121, hv, c122, c122_0, c122_1, c122_2, hI1⟩ | ⟨z123, hv, c124, c124_0, c124_1, c124_2, c124_3, c124_4, hI1⟩
    · cases hv
      have hI : sI (dC, dI) vcl cI cJ (gsM a th t_tr121 dp zi co sh lt ts mf) A s.heap H1 locs1 := ⟨by rw [← ht]; exact hI1, hS⟩
      obtain ⟨-, ⟨o125, o126⟩, -, -, -, -, -, -, -⟩ := id c122
      clear hpost hI1 hS ht hWt
      revert hI; generalize H1 = H; generalize locs1 = locs; intro hI
      refine lv_goto (tgt := 18) hx hb d_Mo_propertyBehind_9 (by decide) ?_
      refine lv_istore_n (lv' := [(3, .int z120), (0, .ref (a 0)), (1, .int x1), (2, .int x2)]) hx hb d_Mo_propertyBehind_18 rfl hl (by decide) rfl (fun ls hl => ?_)
      refine lv_aload_n hx hb d_Mo_propertyBehind_19 rfl (lv_at hl 1 rfl) ?_
      refine sv_gete (C := "StoryMachineModel") (T := T_Mo) (N := 51) hx hb hts in_Mo hown hK hI 0 kM_0 rfl 25 (by decide) (hts _ mw_1088) rfl d_Mo_propertyBehind_20 (fun z127 hz127 => ?_)
      refine sn_if_gt (tgt := 47) hx hb d_Mo_propertyBehind_23 (by decide) (fun b128 => ?_) (fun b128 => ?_)
      · refine sn_iconst hx hb d_Mo_propertyBehind_47 (by decide) (fun z129 hz129 => ?_)
        subst hZ
        exact tz_ret (W.iret (v := z129) hx hb hr (fun t ht hW => ⟨⟨fun v9 hv9 => by cases hv9; exact (Or.inl ⟨z129, t_tr121, rfl, c122, by omega, by omega, by omega, by rw [ht]; exact hI.1⟩), fun x9 hx9 => (by cases hx9)⟩, hI.2.F ht⟩) hI.2.2.2 d_Mo_propertyBehind_48)
      · omega
    · cases hv
      have hI : sI (dC, dI) vcl cI cJ (gsM a th tr dp zi co sh lt ts mf) A s.heap H1 locs1 := ⟨by rw [← ht]; exact hI1, hS⟩
      clear hpost hI1 hS ht hWt
      revert hI; generalize H1 = H; generalize locs1 = locs; intro hI
      refine lv_goto (tgt := 18) hx hb d_Mo_propertyBehind_9 (by decide) ?_
      refine lv_istore_n (lv' := [(3, .int z123), (0, .ref (a 0)), (1, .int x1), (2, .int x2)]) hx hb d_Mo_propertyBehind_18 rfl hl (by decide) rfl (fun ls hl => ?_)
      refine lv_aload_n hx hb d_Mo_propertyBehind_19 rfl (lv_at hl 1 rfl) ?_
      refine sv_gete (C := "StoryMachineModel") (T := T_Mo) (N := 51) hx hb hts in_Mo hown hK hI 0 kM_0 rfl 25 (by decide) (hts _ mw_1088) rfl d_Mo_propertyBehind_20 (fun z130 hz130 => ?_)
      refine sn_if_gt (tgt := 47) hx hb d_Mo_propertyBehind_23 (by decide) (fun b131 => ?_) (fun b131 => ?_)
      · omega
      · refine lv_aload_n hx hb d_Mo_propertyBehind_26 rfl (lv_at hl 1 rfl) ?_
        refine lv_iload_n hx hb d_Mo_propertyBehind_27 rfl (lv_at hl 3 rfl) ?_
        refine sn_if_eq (tgt := 35) hx hb d_Mo_propertyBehind_28 (by decide) (fun b132 => ?_) (fun b132 => ?_)
        · refine sn_iconst hx hb d_Mo_propertyBehind_35 (by decide) (fun z133 hz133 => ?_)
          refine lv_goto (tgt := 40) hx hb d_Mo_propertyBehind_36 (by decide) ?_
          refine sn_iconst hx hb d_Mo_propertyBehind_40 (by decide) (fun z134 hz134 => ?_)
          refine tz_call (A1 := ga (adM a) H.size) (tz_runV (C := "StoryMachineModel") (As := [.int z133, .int z134]) (rest := []) ⟨hx, hb, hml, hown, hts⟩ (c_Mo_good l hfl dC dI cI cJ a H.size th tr dp zi co sh lt ts mf z133 z134 c124 (by omega) (by omega) (by omega) (by omega)) (tx_cb (n := 2) hts rfl rfl ⟨Nat.le_of_ble_eq_true rfl, Nat.le_of_ble_eq_true rfl⟩ (tx_code.of (hts _ mw_1240)) (hts _ mw_12) (by decide +kernel) (hts _ mw_1237)) (hts _ mw_1239) (hts _ ms_Mo_good) ⟨tz_blind, sv_recv (q0 := 0) hts in_Mo hK hI kM_0 rfl, fun U hU hW => ⟨rfl, by rw [hU], by rw [hU]; exact hI.1, va_K.moved hW.alike hK, hst _ _ hI.2 U hU hW⟩⟩ rfl rfl hl.1 rfl (lv_room (Nat.le_of_ble_eq_true rfl)) d_Mo_propertyBehind_41 ⟨Nat.le_of_ble_eq_true rfl, Nat.le_of_ble_eq_true rfl⟩) hI.2 (fun q _ h => ga_sub hAC hA0 hI.2 q h) (ga_sub hAC hA0 hI.2) (fun v t H1 locs1 ht hWt hpost _ _ hS => ?_) (fun x t H1 locs1 ht hWt hpost _ _ hS => (hpost.2 x rfl).elim)
          rcases hpost.1 _ rfl with ⟨z135, t_tr136, hv, c137, c137_0, c137_1, c137_2, c137_3, hI1⟩ | ⟨z138, hv, c139, c139_0, c139_1, c139_2, c139_3, hI1⟩
          · cases hv
            have hI : sI (dC, dI) vcl cI cJ (gsM a th t_tr136 dp zi co sh lt ts mf) A s.heap H1 locs1 := ⟨by rw [← ht]; exact hI1, hS⟩
            obtain ⟨-, ⟨o140, o141⟩, -, -, -, -, -, -, -⟩ := id c137
            clear hpost hI1 hS ht hWt
            revert hI; generalize H1 = H; generalize locs1 = locs; intro hI
            refine sn_if_ne (tgt := 49) hx hb d_Mo_propertyBehind_44 (by decide) (fun b142 => ?_) (fun b142 => ?_)
            · omega
            · refine sn_iconst hx hb d_Mo_propertyBehind_47 (by decide) (fun z143 hz143 => ?_)
              subst hZ
              exact tz_ret (W.iret (v := z143) hx hb hr (fun t ht hW => ⟨⟨fun v9 hv9 => by cases hv9; exact (Or.inl ⟨z143, t_tr136, rfl, c137, by omega, by omega, by omega, by rw [ht]; exact hI.1⟩), fun x9 hx9 => (by cases hx9)⟩, hI.2.F ht⟩) hI.2.2.2 d_Mo_propertyBehind_48)
          · cases hv
            have hI : sI (dC, dI) vcl cI cJ (gsM a th tr dp zi co sh lt ts mf) A s.heap H1 locs1 := ⟨by rw [← ht]; exact hI1, hS⟩
            clear hpost hI1 hS ht hWt
            revert hI; generalize H1 = H; generalize locs1 = locs; intro hI
            refine sn_if_ne (tgt := 49) hx hb d_Mo_propertyBehind_44 (by decide) (fun b144 => ?_) (fun b144 => ?_)
            · refine lv_aload_n hx hb d_Mo_propertyBehind_49 rfl (lv_at hl 1 rfl) ?_
              refine lv_iload_n hx hb d_Mo_propertyBehind_50 rfl (lv_at hl 3 rfl) ?_
              refine sn_if_ne (tgt := 58) hx hb d_Mo_propertyBehind_51 (by decide) (fun b145 => ?_) (fun b145 => ?_)
              · omega
              · refine lv_iload_n hx hb d_Mo_propertyBehind_54 rfl (lv_at hl 0 rfl) ?_
                refine lv_goto (tgt := 65) hx hb d_Mo_propertyBehind_55 (by decide) ?_
                refine tz_call (A1 := ga (adM a) H.size) (tz_runV (C := "StoryMachineModel") (As := [.int z123]) (rest := []) ⟨hx, hb, hml, hown, hts⟩ (c_Mo_byteAt l hfl dC dI cI cJ a H.size th tr dp zi co sh lt ts mf z123 c139) (tx_cb (n := 1) hts rfl rfl ⟨Nat.le_of_ble_eq_true rfl, Nat.le_of_ble_eq_true rfl⟩ (tx_code.of (hts _ mw_1236)) (hts _ mw_12) (by decide +kernel) (hts _ mw_1233)) (hts _ mw_1235) (hts _ ms_Mo_byteAt) ⟨tz_blind, sv_recv (q0 := 0) hts in_Mo hK hI kM_0 rfl, fun U hU hW => ⟨rfl, by rw [hU], by rw [hU]; exact hI.1, va_K.moved hW.alike hK, hst _ _ hI.2 U hU hW⟩⟩ rfl rfl hl.1 rfl (lv_room (Nat.le_of_ble_eq_true rfl)) d_Mo_propertyBehind_65 ⟨Nat.le_of_ble_eq_true rfl, Nat.le_of_ble_eq_true rfl⟩) hI.2 (fun q _ h => ga_sub hAC hA0 hI.2 q h) (ga_sub hAC hA0 hI.2) (fun v t H1 locs1 ht hWt hpost _ _ hS => ?_) (fun x t H1 locs1 ht hWt hpost _ _ hS => (hpost.2 x rfl).elim)
                rcases hpost.1 _ rfl with ⟨z146, t_tr147, hv, c148, c148_0, c148_1, c148_2, hI1⟩ | ⟨z149, hv, c150, c150_0, c150_1, c150_2, c150_3, c150_4, hI1⟩
                · cases hv
                  have hI : sI (dC, dI) vcl cI cJ (gsM a th t_tr147 dp zi co sh lt ts mf) A s.heap H1 locs1 := ⟨by rw [← ht]; exact hI1, hS⟩
                  obtain ⟨-, ⟨o151, o152⟩, -, -, -, -, -, -, -⟩ := id c148
                  clear hpost hI1 hS ht hWt
                  revert hI; generalize H1 = H; generalize locs1 = locs; intro hI
                  refine sn_bipush hx hb d_Mo_propertyBehind_68 (by decide) (fun z153 hz153 => ?_)
                  refine sn_irem (k := 32) hx hb d_Mo_propertyBehind_70 (by omega) (by omega) (by omega) (fun z154 hz154 => ?_)
                  subst hZ
                  exact tz_ret (W.iret (v := z154) hx hb hr (fun t ht hW => ⟨⟨fun v9 hv9 => by cases hv9; exact (Or.inl ⟨z154, t_tr147, rfl, c148, by omega, by omega, by omega, by rw [ht]; exact hI.1⟩), fun x9 hx9 => (by cases hx9)⟩, hI.2.F ht⟩) hI.2.2.2 d_Mo_propertyBehind_71)
                · cases hv
                  have hI : sI (dC, dI) vcl cI cJ (gsM a th tr dp zi co sh lt ts mf) A s.heap H1 locs1 := ⟨by rw [← ht]; exact hI1, hS⟩
                  clear hpost hI1 hS ht hWt
                  revert hI; generalize H1 = H; generalize locs1 = locs; intro hI
                  refine sn_bipush hx hb d_Mo_propertyBehind_68 (by decide) (fun z155 hz155 => ?_)
                  refine sn_irem (k := 32) hx hb d_Mo_propertyBehind_70 (by omega) (by omega) (by omega) (fun z156 hz156 => ?_)
                  subst hZ
                  exact tz_ret (W.iret (v := z156) hx hb hr (fun t ht hW => ⟨⟨fun v9 hv9 => by cases hv9; exact (Or.inr (⟨z156, rfl, c150, by omega, by omega, by omega, by omega, by omega, by rw [ht]; exact hI.1⟩)), fun x9 hx9 => (by cases hx9)⟩, hI.2.F ht⟩) hI.2.2.2 d_Mo_propertyBehind_71)
            · omega
        · omega
