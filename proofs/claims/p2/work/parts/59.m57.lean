abbrev q_Mo_property (dC : Nat → ClassId) (dI : Nat → Nat → Nat) (cI cJ : ClassId) (a : Nat → Nat) (th tr dp zi co sh lt ts : Int) (mf : Nat → Int32) (x1 : Int32) (x2 : Int32) : Outcome → State → Prop := fun o t => (∀ v, o = .returned v → ((∃ (z : Int32) (tr_ : Int), v = some (.int z) ∧ okM th tr_ dp zi co sh lt ts mf ∧ (0 ≤ z.toInt) ∧ (z.toInt ≤ 65280) ∧ (1 ≤ tr_) ∧ sh_I (dC, dI) vcl cI cJ (gsM a th tr_ dp zi co sh lt ts mf) t.heap) ∨ (∃ (z : Int32), v = some (.int z) ∧ okM th tr dp zi co sh lt ts mf ∧ (0 ≤ z.toInt) ∧ (z.toInt ≤ 65535) ∧ (1 ≤ x1.toInt) ∧ (x1.toInt ≤ 20) ∧ (tr ≤ 0) ∧ sh_I (dC, dI) vcl cI cJ (gsM a th tr dp zi co sh lt ts mf) t.heap))) ∧ (∀ x, o = .threw x → (False))
def rm_Mo_property : Room := { frames := 7, cells := 0, slots := 0, locals := 156 }
set_option maxHeartbeats 4000000 in
set_option maxRecDepth 100000 in
theorem c_Mo_property (l : Launch) (hfl : l.flags = pinnedFlags ++ [noTraceFlag]) (dC : Nat → ClassId) (dI : Nat → Nat → Nat) (cI cJ : ClassId) (a : Nat → Nat) (sz : Nat) (th tr dp zi co sh lt ts : Int) (mf : Nat → Int32) (x1 : Int32) (x2 : Int32) (hok : okM th tr dp zi co sh lt ts mf) : tz_Met l ⟨"StoryMachineModel", "property", "(II)I"⟩ tw_tbl rm_Mo_property (tzP (dC, dI) vcl cI cJ (gsM a th tr dp zi co sh lt ts mf) a (adM a) [.ref (a 0), .int x1, .int x2] sz) (tq_Q (q_Mo_property dC dI cI cJ a th tr dp zi co sh lt ts mf x1 x2) (ga (adM a) sz)) 0 0 0 0 (ga (adM a) sz) := by
  refine tz_ofW (cc := prog_13_method_32_code) (maxL := 5) (ret := (some .int)) (by decide) (tx_isM mw_1365) ?_
  intro p e s m args below meth c s₁ B hml hv
  obtain ⟨rfl, hsz, hI0, hK, hst0⟩ := hv
  have hx := B.exec
  have hb := B.bytes
  have hr := B.returns
  have hts := atoms_spec (ws := tw_tbl) B.pre
  have hown : s.vm.findClass "StoryMachineModel" = some m.cls := findClass_of_methodNamed B.named
  have hlocks := B.notSynchronized
  subst hsz
  have hst := fun (H : Heap) (locs : List Loc) (hS : va_S (ga (adM a) s.heap.size) s.heap H locs) (U : State) (hU : U.heap = H) (hW : s.WarmedH U.vm) => zS_all adM_map hI0 hst0 hS hU hW
  have hAC : ∀ q ∈ adM a, ga (adM a) s.heap.size q := fun q h => Or.inl h
  have hA0 : ∀ q, s.heap.size ≤ q → ga (adM a) s.heap.size q := fun q h => Or.inr h
  have hI : sI (dC, dI) vcl cI cJ (gsM a th tr dp zi co sh lt ts mf) (ga (adM a) s.heap.size) s.heap s.heap [] := ⟨hI0, va_S.rf⟩
  clear hI0 hst0
  have hl := lv_entry ([.ref (a 0), .int x1, .int x2]) (n := 5) (Nat.le_of_ble_eq_true rfl)
  rw [lg_entry_eq]
  generalize (lg_sl ([.ref (a 0), .int x1, .int x2]) ++ List.replicate (5 - (lg_sl ([.ref (a 0), .int x1, .int x2])).length) Slot.unset).toArray = ls at hl ⊢
  have hl : lv_has ls 5 [(0, .ref (a 0)), (1, .int x1), (2, .int x2)] := hl
  generalize hZ : tz_MQ below (tq_Q (q_Mo_property dC dI cI cJ a th tr dp zi co sh lt ts mf x1 x2) (ga (adM a) s.heap.size)) ([.ref (a 0), .int x1, .int x2] : List Value).toArray s 0 0 0 0 (ga (adM a) s.heap.size) = Z
  obtain ⟨A, hAe⟩ : ∃ A, A = ga (adM a) s.heap.size := ⟨_, rfl⟩
  rw [← hAe] at hst hAC hA0 hI hZ
  refine sv_start hI (fun H locs hI => ?_)
  obtain ⟨⟨o1, o2⟩, ⟨o3, o4⟩, ⟨o5, o6⟩, ⟨o7, o8⟩, ⟨o9, o10⟩, ⟨o11, o12⟩, ⟨o13, o14⟩, ⟨o15, o16⟩, -⟩ := id hok
  have gx1 := sn_rng x1
  have gx2 := sn_rng x2
  refine lv_aload_n hx hb d_Mo_property_0 rfl (lv_at hl 0 rfl) ?_
  refine lv_iload_n hx hb d_Mo_property_1 rfl (lv_at hl 1 rfl) ?_
  refine lv_iload_n hx hb d_Mo_property_2 rfl (lv_at hl 2 rfl) ?_
  refine tz_call (A1 := ga (adM a) H.size) (tz_runV (C := "StoryMachineModel") (As := [.int x1, .int x2]) (rest := []) ⟨hx, hb, hml, hown, hts⟩ (c_Mo_bytesOf l hfl dC dI cI cJ a H.size th tr dp zi co sh lt ts mf x1 x2 hok) (tx_cb (n := 2) hts rfl rfl ⟨Nat.le_of_ble_eq_true rfl, Nat.le_of_ble_eq_true rfl⟩ (tx_code.of (hts _ mw_1369)) (hts _ mw_12) (by decide +kernel) (hts _ mw_1366)) (hts _ mw_1368) (hts _ ms_Mo_bytesOf) ⟨tz_blind, sv_recv (q0 := 0) hts in_Mo hK hI kM_0 rfl, fun U hU hW => ⟨rfl, by rw [hU], by rw [hU]; exact hI.1, va_K.moved hW.alike hK, hst _ _ hI.2 U hU hW⟩⟩ rfl rfl hl.1 rfl (lv_room (Nat.le_of_ble_eq_true rfl)) d_Mo_property_3 ⟨Nat.le_of_ble_eq_true rfl, Nat.le_of_ble_eq_true rfl⟩) hI.2 (fun q _ h => ga_sub hAC hA0 hI.2 q h) (ga_sub hAC hA0 hI.2) (fun v t H1 locs1 ht hWt hpost _ _ hS => ?_) (fun x t H1 locs1 ht hWt hpost _ _ hS => (hpost.2 x rfl).elim)
  rcases hpost.1 _ rfl with ⟨z17, t_tr18, hv, c19, c19_0, c19_1, c19_2, hI1⟩ | ⟨z20, hv, c21, c21_0, c21_1, c21_2, c21_3, c21_4, hI1⟩
  · cases hv
    have hI : sI (dC, dI) vcl cI cJ (gsM a th t_tr18 dp zi co sh lt ts mf) A s.heap H1 locs1 := ⟨by rw [← ht]; exact hI1, hS⟩
    obtain ⟨-, ⟨o22, o23⟩, -, -, -, -, -, -, -⟩ := id c19
    clear hpost hI1 hS ht hWt
    revert hI; generalize H1 = H; generalize locs1 = locs; intro hI
    refine lv_istore_n (lv' := [(3, .int z17), (0, .ref (a 0)), (1, .int x1), (2, .int x2)]) hx hb d_Mo_property_6 rfl hl (by decide) rfl (fun ls hl => ?_)
    refine lv_aload_n hx hb d_Mo_property_7 rfl (lv_at hl 1 rfl) ?_
    refine sv_gete (C := "StoryMachineModel") (T := T_Mo) (N := 51) hx hb hts in_Mo hown hK hI 0 kM_0 rfl 25 (by decide) (hts _ mw_1088) rfl d_Mo_property_8 (fun z24 hz24 => ?_)
    refine sn_if_le (tgt := 16) hx hb d_Mo_property_11 (by decide) (fun b25 => ?_) (fun b25 => ?_)
    · omega
    · refine sn_iconst hx hb d_Mo_property_14 (by decide) (fun z26 hz26 => ?_)
      subst hZ
      exact tz_ret (W.iret (v := z26) hx hb hr (fun t ht hW => ⟨⟨fun v9 hv9 => by cases hv9; exact (Or.inl ⟨z26, t_tr18, rfl, c19, by omega, by omega, by omega, by rw [ht]; exact hI.1⟩), fun x9 hx9 => (by cases hx9)⟩, hI.2.F ht⟩) hI.2.2.2 d_Mo_property_15)
  · cases hv
    have hI : sI (dC, dI) vcl cI cJ (gsM a th tr dp zi co sh lt ts mf) A s.heap H1 locs1 := ⟨by rw [← ht]; exact hI1, hS⟩
    clear hpost hI1 hS ht hWt
    revert hI; generalize H1 = H; generalize locs1 = locs; intro hI
    refine lv_istore_n (lv' := [(3, .int z20), (0, .ref (a 0)), (1, .int x1), (2, .int x2)]) hx hb d_Mo_property_6 rfl hl (by decide) rfl (fun ls hl => ?_)
    refine lv_aload_n hx hb d_Mo_property_7 rfl (lv_at hl 1 rfl) ?_
    refine sv_gete (C := "StoryMachineModel") (T := T_Mo) (N := 51) hx hb hts in_Mo hown hK hI 0 kM_0 rfl 25 (by decide) (hts _ mw_1088) rfl d_Mo_property_8 (fun z27 hz27 => ?_)
    refine sn_if_le (tgt := 16) hx hb d_Mo_property_11 (by decide) (fun b28 => ?_) (fun b28 => ?_)
    · refine lv_iload_n hx hb d_Mo_property_16 rfl (lv_at hl 0 rfl) ?_
      refine sn_if_ne (tgt := 64) hx hb d_Mo_property_17 (by decide) (fun b29 => ?_) (fun b29 => ?_)
      · refine lv_aload_n hx hb d_Mo_property_64 rfl (lv_at hl 1 rfl) ?_
        refine lv_iload_n hx hb d_Mo_property_65 rfl (lv_at hl 0 rfl) ?_
        refine tz_call (A1 := ga (adM a) H.size) (tz_runV (C := "StoryMachineModel") (As := [.int z20]) (rest := []) ⟨hx, hb, hml, hown, hts⟩ (c_Mo_lengthAt l hfl dC dI cI cJ a H.size th tr dp zi co sh lt ts mf z20 c21) (tx_cb (n := 1) hts rfl rfl ⟨Nat.le_of_ble_eq_true rfl, Nat.le_of_ble_eq_true rfl⟩ (tx_code.of (hts _ mw_1381)) (hts _ mw_12) (by decide +kernel) (hts _ mw_1378)) (hts _ mw_1380) (hts _ ms_Mo_lengthAt) ⟨tz_blind, sv_recv (q0 := 0) hts in_Mo hK hI kM_0 rfl, fun U hU hW => ⟨rfl, by rw [hU], by rw [hU]; exact hI.1, va_K.moved hW.alike hK, hst _ _ hI.2 U hU hW⟩⟩ rfl rfl hl.1 rfl (lv_room (Nat.le_of_ble_eq_true rfl)) d_Mo_property_66 ⟨Nat.le_of_ble_eq_true rfl, Nat.le_of_ble_eq_true rfl⟩) hI.2 (fun q _ h => ga_sub hAC hA0 hI.2 q h) (ga_sub hAC hA0 hI.2) (fun v t H1 locs1 ht hWt hpost _ _ hS => ?_) (fun x t H1 locs1 ht hWt hpost _ _ hS => (hpost.2 x rfl).elim)
        rcases hpost.1 _ rfl with ⟨z30, t_tr31, hv, c32, c32_0, c32_1, c32_2, hI1⟩ | ⟨z33, hv, c34, c34_0, c34_1, c34_2, hI1⟩
        · cases hv
          have hI : sI (dC, dI) vcl cI cJ (gsM a th t_tr31 dp zi co sh lt ts mf) A s.heap H1 locs1 := ⟨by rw [← ht]; exact hI1, hS⟩
          obtain ⟨-, ⟨o35, o36⟩, -, -, -, -, -, -, -⟩ := id c32
          clear hpost hI1 hS ht hWt
          revert hI; generalize H1 = H; generalize locs1 = locs; intro hI
          refine lv_istore (lv' := [(4, .int z30), (3, .int z20), (0, .ref (a 0)), (1, .int x1), (2, .int x2)]) hx hb d_Mo_property_69 hl (by decide) rfl (fun ls hl => ?_)
          refine lv_aload_n hx hb d_Mo_property_71 rfl (lv_at hl 2 rfl) ?_
          refine lv_iload hx hb d_Mo_property_72 (lv_at hl 0 rfl) ?_
          refine sn_iconst hx hb d_Mo_property_74 (by decide) (fun z37 hz37 => ?_)
          refine sn_icmp_ge (tgt := 82) hx hb d_Mo_property_75 (by decide) (fun b38 => ?_) (fun b38 => ?_)
          · omega
          · refine sn_iconst hx hb d_Mo_property_78 (by decide) (fun z39 hz39 => ?_)
            refine lv_goto (tgt := 83) hx hb d_Mo_property_79 (by decide) ?_
            refine sn_iconst hx hb d_Mo_property_83 (by decide) (fun z40 hz40 => ?_)
            refine tz_call (A1 := ga (adM a) H.size) (tz_runV (C := "StoryMachineModel") (As := [.int z39, .int z40]) (rest := []) ⟨hx, hb, hml, hown, hts⟩ (c_Mo_good l hfl dC dI cI cJ a H.size th t_tr31 dp zi co sh lt ts mf z39 z40 c32 (by omega) (by omega) (by omega) (by omega)) (tx_cb (n := 2) hts rfl rfl ⟨Nat.le_of_ble_eq_true rfl, Nat.le_of_ble_eq_true rfl⟩ (tx_code.of (hts _ mw_1240)) (hts _ mw_12) (by decide +kernel) (hts _ mw_1237)) (hts _ mw_1239) (hts _ ms_Mo_good) ⟨tz_blind, sv_recv (q0 := 0) hts in_Mo hK hI kM_0 rfl, fun U hU hW => ⟨rfl, by rw [hU], by rw [hU]; exact hI.1, va_K.moved hW.alike hK, hst _ _ hI.2 U hU hW⟩⟩ rfl rfl hl.1 rfl (lv_room (Nat.le_of_ble_eq_true rfl)) d_Mo_property_84 ⟨Nat.le_of_ble_eq_true rfl, Nat.le_of_ble_eq_true rfl⟩) hI.2 (fun q _ h => ga_sub hAC hA0 hI.2 q h) (ga_sub hAC hA0 hI.2) (fun v t H1 locs1 ht hWt hpost _ _ hS => ?_) (fun x t H1 locs1 ht hWt hpost _ _ hS => (hpost.2 x rfl).elim)
            rcases hpost.1 _ rfl with ⟨z41, t_tr42, hv, c43, c43_0, c43_1, c43_2, c43_3, hI1⟩ | ⟨z44, hv, c45, c45_0, c45_1, c45_2, c45_3, hI1⟩
            · cases hv
              have hI : sI (dC, dI) vcl cI cJ (gsM a th t_tr42 dp zi co sh lt ts mf) A s.heap H1 locs1 := ⟨by rw [← ht]; exact hI1, hS⟩
              obtain ⟨-, ⟨o46, o47⟩, -, -, -, -, -, -, -⟩ := id c43
              clear hpost hI1 hS ht hWt
              revert hI; generalize H1 = H; generalize locs1 = locs; intro hI
              refine sn_if_ne (tgt := 92) hx hb d_Mo_property_87 (by decide) (fun b48 => ?_) (fun b48 => ?_)
              · omega
              · refine sn_iconst hx hb d_Mo_property_90 (by decide) (fun z49 hz49 => ?_)
                subst hZ
                exact tz_ret (W.iret (v := z49) hx hb hr (fun t ht hW => ⟨⟨fun v9 hv9 => by cases hv9; exact (Or.inl ⟨z49, t_tr42, rfl, c43, by omega, by omega, by omega, by rw [ht]; exact hI.1⟩), fun x9 hx9 => (by cases hx9)⟩, hI.2.F ht⟩) hI.2.2.2 d_Mo_property_91)
            · omega
        · cases hv
          have hI : sI (dC, dI) vcl cI cJ (gsM a th tr dp zi co sh lt ts mf) A s.heap H1 locs1 := ⟨by rw [← ht]; exact hI1, hS⟩
          clear hpost hI1 hS ht hWt
          revert hI; generalize H1 = H; generalize locs1 = locs; intro hI
          refine lv_istore (lv' := [(4, .int z33), (3, .int z20), (0, .ref (a 0)), (1, .int x1), (2, .int x2)]) hx hb d_Mo_property_69 hl (by decide) rfl (fun ls hl => ?_)
          refine lv_aload_n hx hb d_Mo_property_71 rfl (lv_at hl 2 rfl) ?_
          refine lv_iload hx hb d_Mo_property_72 (lv_at hl 0 rfl) ?_
          refine sn_iconst hx hb d_Mo_property_74 (by decide) (fun z50 hz50 => ?_)
          refine sn_icmp_ge (tgt := 82) hx hb d_Mo_property_75 (by decide) (fun b51 => ?_) (fun b51 => ?_)
          · refine sn_iconst hx hb d_Mo_property_82 (by decide) (fun z52 hz52 => ?_)
            refine sn_iconst hx hb d_Mo_property_83 (by decide) (fun z53 hz53 => ?_)
            refine tz_call (A1 := ga (adM a) H.size) (tz_runV (C := "StoryMachineModel") (As := [.int z52, .int z53]) (rest := []) ⟨hx, hb, hml, hown, hts⟩ (c_Mo_good l hfl dC dI cI cJ a H.size th tr dp zi co sh lt ts mf z52 z53 c34 (by omega) (by omega) (by omega) (by omega)) (tx_cb (n := 2) hts rfl rfl ⟨Nat.le_of_ble_eq_true rfl, Nat.le_of_ble_eq_true rfl⟩ (tx_code.of (hts _ mw_1240)) (hts _ mw_12) (by decide +kernel) (hts _ mw_1237)) (hts _ mw_1239) (hts _ ms_Mo_good) ⟨tz_blind, sv_recv (q0 := 0) hts in_Mo hK hI kM_0 rfl, fun U hU hW => ⟨rfl, by rw [hU], by rw [hU]; exact hI.1, va_K.moved hW.alike hK, hst _ _ hI.2 U hU hW⟩⟩ rfl rfl hl.1 rfl (lv_room (Nat.le_of_ble_eq_true rfl)) d_Mo_property_84 ⟨Nat.le_of_ble_eq_true rfl, Nat.le_of_ble_eq_true rfl⟩) hI.2 (fun q _ h => ga_sub hAC hA0 hI.2 q h) (ga_sub hAC hA0 hI.2) (fun v t H1 locs1 ht hWt hpost _ _ hS => ?_) (fun x t H1 locs1 ht hWt hpost _ _ hS => (hpost.2 x rfl).elim)
            rcases hpost.1 _ rfl with ⟨z54, t_tr55, hv, c56, c56_0, c56_1, c56_2, c56_3, hI1⟩ | ⟨z57, hv, c58, c58_0, c58_1, c58_2, c58_3, hI1⟩
            · cases hv
              have hI : sI (dC, dI) vcl cI cJ (gsM a th t_tr55 dp zi co sh lt ts mf) A s.heap H1 locs1 := ⟨by rw [← ht]; exact hI1, hS⟩
              obtain ⟨-, ⟨o59, o60⟩, -, -, -, -, -, -, -⟩ := id c56
              clear hpost hI1 hS ht hWt
              revert hI; generalize H1 = H; generalize locs1 = locs; intro hI
              refine sn_if_ne (tgt := 92) hx hb d_Mo_property_87 (by decide) (fun b61 => ?_) (fun b61 => ?_)
              · omega
              · refine sn_iconst hx hb d_Mo_property_90 (by decide) (fun z62 hz62 => ?_)
                subst hZ
                exact tz_ret (W.iret (v := z62) hx hb hr (fun t ht hW => ⟨⟨fun v9 hv9 => by cases hv9; exact (Or.inl ⟨z62, t_tr55, rfl, c56, by omega, by omega, by omega, by rw [ht]; exact hI.1⟩), fun x9 hx9 => (by cases hx9)⟩, hI.2.F ht⟩) hI.2.2.2 d_Mo_property_91)
            · omega
          · refine sn_iconst hx hb d_Mo_property_78 (by decide) (fun z63 hz63 => ?_)
            refine lv_goto (tgt := 83) hx hb d_Mo_property_79 (by decide) ?_
            refine sn_iconst hx hb d_Mo_property_83 (by decide) (fun z64 hz64 => ?_)
            refine tz_call (A1 := ga (adM a) H.size) (tz_runV (C := "StoryMachineModel") (As := [.int z63, .int z64]) (rest := []) ⟨hx, hb, hml, hown, hts⟩ (c_Mo_good l hfl dC dI cI cJ a H.size th tr dp zi co sh lt ts mf z63 z64 c34 (by omega) (by omega) (by omega) (by omega)) (tx_cb (n := 2) hts rfl rfl ⟨Nat.le_of_ble_eq_true rfl, Nat.le_of_ble_eq_true rfl⟩ (tx_code.of (hts _ mw_1240)) (hts _ mw_12) (by decide +kernel) (hts _ mw_1237)) (hts _ mw_1239) (hts _ ms_Mo_good) ⟨tz_blind, sv_recv (q0 := 0) hts in_Mo hK hI kM_0 rfl, fun U hU hW => ⟨rfl, by rw [hU], by rw [hU]; exact hI.1, va_K.moved hW.alike hK, hst _ _ hI.2 U hU hW⟩⟩ rfl rfl hl.1 rfl (lv_room (Nat.le_of_ble_eq_true rfl)) d_Mo_property_84 ⟨Nat.le_of_ble_eq_true rfl, Nat.le_of_ble_eq_true rfl⟩) hI.2 (fun q _ h => ga_sub hAC hA0 hI.2 q h) (ga_sub hAC hA0 hI.2) (fun v t H1 locs1 ht hWt hpost _ _ hS => ?_) (fun x t H1 locs1 ht hWt hpost _ _ hS => (hpost.2 x rfl).elim)
            rcases hpost.1 _ rfl with ⟨z65, t_tr66, hv, c67, c67_0, c67_1, c67_2, c67_3, hI1⟩ | ⟨z68, hv, c69, c69_0, c69_1, c69_2, c69_3, hI1⟩
            · cases hv
              have hI : sI (dC, dI) vcl cI cJ (gsM a th t_tr66 dp zi co sh lt ts mf) A s.heap H1 locs1 := ⟨by rw [← ht]; exact hI1, hS⟩
              obtain ⟨-, ⟨o70, o71⟩, -, -, -, -, -, -, -⟩ := id c67
              clear hpost hI1 hS ht hWt
              revert hI; generalize H1 = H; generalize locs1 = locs; intro hI
              refine sn_if_ne (tgt := 92) hx hb d_Mo_property_87 (by decide) (fun b72 => ?_) (fun b72 => ?_)
              · omega
              · refine sn_iconst hx hb d_Mo_property_90 (by decide) (fun z73 hz73 => ?_)
                subst hZ
                exact tz_ret (W.iret (v := z73) hx hb hr (fun t ht hW => ⟨⟨fun v9 hv9 => by cases hv9; exact (Or.inl ⟨z73, t_tr66, rfl, c67, by omega, by omega, by omega, by rw [ht]; exact hI.1⟩), fun x9 hx9 => (by cases hx9)⟩, hI.2.F ht⟩) hI.2.2.2 d_Mo_property_91)
            · cases hv
              have hI : sI (dC, dI) vcl cI cJ (gsM a th tr dp zi co sh lt ts mf) A s.heap H1 locs1 := ⟨by rw [← ht]; exact hI1, hS⟩
              clear hpost hI1 hS ht hWt
              revert hI; generalize H1 = H; generalize locs1 = locs; intro hI
              refine sn_if_ne (tgt := 92) hx hb d_Mo_property_87 (by decide) (fun b74 => ?_) (fun b74 => ?_)
              · refine lv_iload hx hb d_Mo_property_92 (lv_at hl 0 rfl) ?_
                refine sn_iconst hx hb d_Mo_property_94 (by decide) (fun z75 hz75 => ?_)
                refine sn_icmp_ne (tgt := 106) hx hb d_Mo_property_95 (by decide) (fun b76 => ?_) (fun b76 => ?_)
                · refine lv_aload_n hx hb d_Mo_property_106 rfl (lv_at hl 2 rfl) ?_
                  refine lv_iload_n hx hb d_Mo_property_107 rfl (lv_at hl 1 rfl) ?_
                  refine tz_call (A1 := ga (adM a) H.size) (tz_runV (C := "StoryMachineModel") (As := [.int z20]) (rest := []) ⟨hx, hb, hml, hown, hts⟩ (c_Mo_wordAt l hfl dC dI cI cJ a H.size th tr dp zi co sh lt ts mf z20 c69) (tx_cb (n := 1) hts rfl rfl ⟨Nat.le_of_ble_eq_true rfl, Nat.le_of_ble_eq_true rfl⟩ (tx_code.of (hts _ mw_1252)) (hts _ mw_12) (by decide +kernel) (hts _ mw_1249)) (hts _ mw_1251) (hts _ ms_Mo_wordAt) ⟨tz_blind, sv_recv (q0 := 0) hts in_Mo hK hI kM_0 rfl, fun U hU hW => ⟨rfl, by rw [hU], by rw [hU]; exact hI.1, va_K.moved hW.alike hK, hst _ _ hI.2 U hU hW⟩⟩ rfl rfl hl.1 rfl (lv_room (Nat.le_of_ble_eq_true rfl)) d_Mo_property_108 ⟨Nat.le_of_ble_eq_true rfl, Nat.le_of_ble_eq_true rfl⟩) hI.2 (fun q _ h => ga_sub hAC hA0 hI.2 q h) (ga_sub hAC hA0 hI.2) (fun v t H1 locs1 ht hWt hpost _ _ hS => ?_) (fun x t H1 locs1 ht hWt hpost _ _ hS => (hpost.2 x rfl).elim)
                  rcases hpost.1 _ rfl with ⟨z77, t_tr78, hv, c79, c79_0, c79_1, c79_2, hI1⟩ | ⟨z80, hv, c81, c81_0, c81_1, c81_2, c81_3, c81_4, hI1⟩
                  · cases hv
                    have hI : sI (dC, dI) vcl cI cJ (gsM a th t_tr78 dp zi co sh lt ts mf) A s.heap H1 locs1 := ⟨by rw [← ht]; exact hI1, hS⟩
                    obtain ⟨-, ⟨o82, o83⟩, -, -, -, -, -, -, -⟩ := id c79
                    clear hpost hI1 hS ht hWt
                    revert hI; generalize H1 = H; generalize locs1 = locs; intro hI
                    subst hZ
                    exact tz_ret (W.iret (v := z77) hx hb hr (fun t ht hW => ⟨⟨fun v9 hv9 => by cases hv9; exact (Or.inl ⟨z77, t_tr78, rfl, c79, by omega, by omega, by omega, by rw [ht]; exact hI.1⟩), fun x9 hx9 => (by cases hx9)⟩, hI.2.F ht⟩) hI.2.2.2 d_Mo_property_111)
                  · cases hv
                    have hI : sI (dC, dI) vcl cI cJ (gsM a th tr dp zi co sh lt ts mf) A s.heap H1 locs1 := ⟨by rw [← ht]; exact hI1, hS⟩
                    clear hpost hI1 hS ht hWt
                    revert hI; generalize H1 = H; generalize locs1 = locs; intro hI
                    subst hZ
                    exact tz_ret (W.iret (v := z80) hx hb hr (fun t ht hW => ⟨⟨fun v9 hv9 => by cases hv9; exact (Or.inr (⟨z80, rfl, c81, by omega, by omega, by omega, by omega, by omega, by rw [ht]; exact hI.1⟩)), fun x9 hx9 => (by cases hx9)⟩, hI.2.F ht⟩) hI.2.2.2 d_Mo_property_111)
                · refine lv_aload_n hx hb d_Mo_property_98 rfl (lv_at hl 2 rfl) ?_
                  refine lv_iload_n hx hb d_Mo_property_99 rfl (lv_at hl 1 rfl) ?_
                  refine tz_call (A1 := ga (adM a) H.size) (tz_runV (C := "StoryMachineModel") (As := [.int z20]) (rest := []) ⟨hx, hb, hml, hown, hts⟩ (c_Mo_byteAt l hfl dC dI cI cJ a H.size th tr dp zi co sh lt ts mf z20 c69) (tx_cb (n := 1) hts rfl rfl ⟨Nat.le_of_ble_eq_true rfl, Nat.le_of_ble_eq_true rfl⟩ (tx_code.of (hts _ mw_1236)) (hts _ mw_12) (by decide +kernel) (hts _ mw_1233)) (hts _ mw_1235) (hts _ ms_Mo_byteAt) ⟨tz_blind, sv_recv (q0 := 0) hts in_Mo hK hI kM_0 rfl, fun U hU hW => ⟨rfl, by rw [hU], by rw [hU]; exact hI.1, va_K.moved hW.alike hK, hst _ _ hI.2 U hU hW⟩⟩ rfl rfl hl.1 rfl (lv_room (Nat.le_of_ble_eq_true rfl)) d_Mo_property_100 ⟨Nat.le_of_ble_eq_true rfl, Nat.le_of_ble_eq_true rfl⟩) hI.2 (fun q _ h => ga_sub hAC hA0 hI.2 q h) (ga_sub hAC hA0 hI.2) (fun v t H1 locs1 ht hWt hpost _ _ hS => ?_) (fun x t H1 locs1 ht hWt hpost _ _ hS => (hpost.2 x rfl).elim)
                  rcases hpost.1 _ rfl with ⟨z84, t_tr85, hv, c86, c86_0, c86_1, c86_2, hI1⟩ | ⟨z87, hv, c88, c88_0, c88_1, c88_2, c88_3, c88_4, hI1⟩
                  · cases hv
                    have hI : sI (dC, dI) vcl cI cJ (gsM a th t_tr85 dp zi co sh lt ts mf) A s.heap H1 locs1 := ⟨by rw [← ht]; exact hI1, hS⟩
                    obtain ⟨-, ⟨o89, o90⟩, -, -, -, -, -, -, -⟩ := id c86
                    clear hpost hI1 hS ht hWt
                    revert hI; generalize H1 = H; generalize locs1 = locs; intro hI
                    refine lv_goto (tgt := 111) hx hb d_Mo_property_103 (by decide) ?_
                    subst hZ
                    exact tz_ret (W.iret (v := z84) hx hb hr (fun t ht hW => ⟨⟨fun v9 hv9 => by cases hv9; exact (Or.inl ⟨z84, t_tr85, rfl, c86, by omega, by omega, by omega, by rw [ht]; exact hI.1⟩), fun x9 hx9 => (by cases hx9)⟩, hI.2.F ht⟩) hI.2.2.2 d_Mo_property_111)
                  · cases hv
                    have hI : sI (dC, dI) vcl cI cJ (gsM a th tr dp zi co sh lt ts mf) A s.heap H1 locs1 := ⟨by rw [← ht]; exact hI1, hS⟩
                    clear hpost hI1 hS ht hWt
                    revert hI; generalize H1 = H; generalize locs1 = locs; intro hI
                    refine lv_goto (tgt := 111) hx hb d_Mo_property_103 (by decide) ?_
                    subst hZ
                    exact tz_ret (W.iret (v := z87) hx hb hr (fun t ht hW => ⟨⟨fun v9 hv9 => by cases hv9; exact (Or.inr (⟨z87, rfl, c88, by omega, by omega, by omega, by omega, by omega, by rw [ht]; exact hI.1⟩)), fun x9 hx9 => (by cases hx9)⟩, hI.2.F ht⟩) hI.2.2.2 d_Mo_property_111)
              · omega
      · refine lv_aload_n hx hb d_Mo_property_20 rfl (lv_at hl 1 rfl) ?_
        refine lv_iload_n hx hb d_Mo_property_21 rfl (lv_at hl 3 rfl) ?_
        refine sn_if_le (tgt := 35) hx hb d_Mo_property_22 (by decide) (fun b91 => ?_) (fun b91 => ?_)
        · refine sn_iconst hx hb d_Mo_property_35 (by decide) (fun z92 hz92 => ?_)
          refine sn_iconst hx hb d_Mo_property_36 (by decide) (fun z93 hz93 => ?_)
          refine tz_call (A1 := ga (adM a) H.size) (tz_runV (C := "StoryMachineModel") (As := [.int z92, .int z93]) (rest := []) ⟨hx, hb, hml, hown, hts⟩ (c_Mo_good l hfl dC dI cI cJ a H.size th tr dp zi co sh lt ts mf z92 z93 c21 (by omega) (by omega) (by omega) (by omega)) (tx_cb (n := 2) hts rfl rfl ⟨Nat.le_of_ble_eq_true rfl, Nat.le_of_ble_eq_true rfl⟩ (tx_code.of (hts _ mw_1240)) (hts _ mw_12) (by decide +kernel) (hts _ mw_1237)) (hts _ mw_1239) (hts _ ms_Mo_good) ⟨tz_blind, sv_recv (q0 := 0) hts in_Mo hK hI kM_0 rfl, fun U hU hW => ⟨rfl, by rw [hU], by rw [hU]; exact hI.1, va_K.moved hW.alike hK, hst _ _ hI.2 U hU hW⟩⟩ rfl rfl hl.1 rfl (lv_room (Nat.le_of_ble_eq_true rfl)) d_Mo_property_37 ⟨Nat.le_of_ble_eq_true rfl, Nat.le_of_ble_eq_true rfl⟩) hI.2 (fun q _ h => ga_sub hAC hA0 hI.2 q h) (ga_sub hAC hA0 hI.2) (fun v t H1 locs1 ht hWt hpost _ _ hS => ?_) (fun x t H1 locs1 ht hWt hpost _ _ hS => (hpost.2 x rfl).elim)
          rcases hpost.1 _ rfl with ⟨z94, t_tr95, hv, c96, c96_0, c96_1, c96_2, c96_3, hI1⟩ | ⟨z97, hv, c98, c98_0, c98_1, c98_2, c98_3, hI1⟩
          · cases hv
            have hI : sI (dC, dI) vcl cI cJ (gsM a th t_tr95 dp zi co sh lt ts mf) A s.heap H1 locs1 := ⟨by rw [← ht]; exact hI1, hS⟩
            obtain ⟨-, ⟨o99, o100⟩, -, -, -, -, -, -, -⟩ := id c96
            clear hpost hI1 hS ht hWt
            revert hI; generalize H1 = H; generalize locs1 = locs; intro hI
            refine sn_if_eq (tgt := 62) hx hb d_Mo_property_40 (by decide) (fun b101 => ?_) (fun b101 => ?_)
            · refine sn_iconst hx hb d_Mo_property_62 (by decide) (fun z102 hz102 => ?_)
              subst hZ
              exact tz_ret (W.iret (v := z102) hx hb hr (fun t ht hW => ⟨⟨fun v9 hv9 => by cases hv9; exact (Or.inl ⟨z102, t_tr95, rfl, c96, by omega, by omega, by omega, by rw [ht]; exact hI.1⟩), fun x9 hx9 => (by cases hx9)⟩, hI.2.F ht⟩) hI.2.2.2 d_Mo_property_63)
            · omega
          · omega
        · refine lv_iload_n hx hb d_Mo_property_25 rfl (lv_at hl 3 rfl) ?_
          refine sn_bipush hx hb d_Mo_property_26 (by decide) (fun z103 hz103 => ?_)
          refine sn_icmp_ge (tgt := 35) hx hb d_Mo_property_28 (by decide) (fun b104 => ?_) (fun b104 => ?_)
          · refine sn_iconst hx hb d_Mo_property_35 (by decide) (fun z105 hz105 => ?_)
            refine sn_iconst hx hb d_Mo_property_36 (by decide) (fun z106 hz106 => ?_)
            refine tz_call (A1 := ga (adM a) H.size) (tz_runV (C := "StoryMachineModel") (As := [.int z105, .int z106]) (rest := []) ⟨hx, hb, hml, hown, hts⟩ (c_Mo_good l hfl dC dI cI cJ a H.size th tr dp zi co sh lt ts mf z105 z106 c21 (by omega) (by omega) (by omega) (by omega)) (tx_cb (n := 2) hts rfl rfl ⟨Nat.le_of_ble_eq_true rfl, Nat.le_of_ble_eq_true rfl⟩ (tx_code.of (hts _ mw_1240)) (hts _ mw_12) (by decide +kernel) (hts _ mw_1237)) (hts _ mw_1239) (hts _ ms_Mo_good) ⟨tz_blind, sv_recv (q0 := 0) hts in_Mo hK hI kM_0 rfl, fun U hU hW => ⟨rfl, by rw [hU], by rw [hU]; exact hI.1, va_K.moved hW.alike hK, hst _ _ hI.2 U hU hW⟩⟩ rfl rfl hl.1 rfl (lv_room (Nat.le_of_ble_eq_true rfl)) d_Mo_property_37 ⟨Nat.le_of_ble_eq_true rfl, Nat.le_of_ble_eq_true rfl⟩) hI.2 (fun q _ h => ga_sub hAC hA0 hI.2 q h) (ga_sub hAC hA0 hI.2) (fun v t H1 locs1 ht hWt hpost _ _ hS => ?_) (fun x t H1 locs1 ht hWt hpost _ _ hS => (hpost.2 x rfl).elim)
            rcases hpost.1 _ rfl with ⟨z107, t_tr108, hv, c109, c109_0, c109_1, c109_2, c109_3, hI1⟩ | ⟨z110, hv, c111, c111_0, c111_1, c111_2, c111_3, hI1⟩
            · cases hv
              have hI : sI (dC, dI) vcl cI cJ (gsM a th t_tr108 dp zi co sh lt ts mf) A s.heap H1 locs1 := ⟨by rw [← ht]; exact hI1, hS⟩
              obtain ⟨-, ⟨o112, o113⟩, -, -, -, -, -, -, -⟩ := id c109
              clear hpost hI1 hS ht hWt
              revert hI; generalize H1 = H; generalize locs1 = locs; intro hI
              refine sn_if_eq (tgt := 62) hx hb d_Mo_property_40 (by decide) (fun b114 => ?_) (fun b114 => ?_)
              · refine sn_iconst hx hb d_Mo_property_62 (by decide) (fun z115 hz115 => ?_)
                subst hZ
                exact tz_ret (W.iret (v := z115) hx hb hr (fun t ht hW => ⟨⟨fun v9 hv9 => by cases hv9; exact (Or.inl ⟨z115, t_tr108, rfl, c109, by omega, by omega, by omega, by rw [ht]; exact hI.1⟩), fun x9 hx9 => (by cases hx9)⟩, hI.2.F ht⟩) hI.2.2.2 d_Mo_property_63)
              · omega
            · omega
          · refine sn_iconst hx hb d_Mo_property_31 (by decide) (fun z116 hz116 => ?_)
            refine lv_goto (tgt := 36) hx hb d_Mo_property_32 (by decide) ?_
            refine sn_iconst hx hb d_Mo_property_36 (by decide) (fun z117 hz117 => ?_)
            refine tz_call (A1 := ga (adM a) H.size) (tz_runV (C := "StoryMachineModel") (As := [.int z116, .int z117]) (rest := []) ⟨hx, hb, hml, hown, hts⟩ (c_Mo_good l hfl dC dI cI cJ a H.size th tr dp zi co sh lt ts mf z116 z117 c21 (by omega) (by omega) (by omega) (by omega)) (tx_cb (n := 2) hts rfl rfl ⟨Nat.le_of_ble_eq_true rfl, Nat.le_of_ble_eq_true rfl⟩ (tx_code.of (hts _ mw_1240)) (hts _ mw_12) (by decide +kernel) (hts _ mw_1237)) (hts _ mw_1239) (hts _ ms_Mo_good) ⟨tz_blind, sv_recv (q0 := 0) hts in_Mo hK hI kM_0 rfl, fun U hU hW => ⟨rfl, by rw [hU], by rw [hU]; exact hI.1, va_K.moved hW.alike hK, hst _ _ hI.2 U hU hW⟩⟩ rfl rfl hl.1 rfl (lv_room (Nat.le_of_ble_eq_true rfl)) d_Mo_property_37 ⟨Nat.le_of_ble_eq_true rfl, Nat.le_of_ble_eq_true rfl⟩) hI.2 (fun q _ h => ga_sub hAC hA0 hI.2 q h) (ga_sub hAC hA0 hI.2) (fun v t H1 locs1 ht hWt hpost _ _ hS => ?_) (fun x t H1 locs1 ht hWt hpost _ _ hS => (hpost.2 x rfl).elim)
            rcases hpost.1 _ rfl with ⟨z118, t_tr119, hv, c120, c120_0, c120_1, c120_2, c120_3, hI1⟩ | ⟨z121, hv, c122, c122_0, c122_1, c122_2, c122_3, hI1⟩
            · cases hv
              have hI : sI (dC, dI) vcl cI cJ (gsM a th t_tr119 dp zi co sh lt ts mf) A s.heap H1 locs1 := ⟨by rw [← ht]; exact hI1, hS⟩
              obtain ⟨-, ⟨o123, o124⟩, -, -, -, -, -, -, -⟩ := id c120
              clear hpost hI1 hS ht hWt
              revert hI; generalize H1 = H; generalize locs1 = locs; intro hI
              refine sn_if_eq (tgt := 62) hx hb d_Mo_property_40 (by decide) (fun b125 => ?_) (fun b125 => ?_)
              · refine sn_iconst hx hb d_Mo_property_62 (by decide) (fun z126 hz126 => ?_)
                subst hZ
                exact tz_ret (W.iret (v := z126) hx hb hr (fun t ht hW => ⟨⟨fun v9 hv9 => by cases hv9; exact (Or.inl ⟨z126, t_tr119, rfl, c120, by omega, by omega, by omega, by rw [ht]; exact hI.1⟩), fun x9 hx9 => (by cases hx9)⟩, hI.2.F ht⟩) hI.2.2.2 d_Mo_property_63)
              · omega
            · cases hv
              have hI : sI (dC, dI) vcl cI cJ (gsM a th tr dp zi co sh lt ts mf) A s.heap H1 locs1 := ⟨by rw [← ht]; exact hI1, hS⟩
              clear hpost hI1 hS ht hWt
              revert hI; generalize H1 = H; generalize locs1 = locs; intro hI
              refine sn_if_eq (tgt := 62) hx hb d_Mo_property_40 (by decide) (fun b127 => ?_) (fun b127 => ?_)
              · omega
              · refine lv_aload_n hx hb d_Mo_property_43 rfl (lv_at hl 1 rfl) ?_
                refine lv_aload_n hx hb d_Mo_property_44 rfl (lv_at hl 1 rfl) ?_
                refine sn_bipush hx hb d_Mo_property_45 (by decide) (fun z128 hz128 => ?_)
                refine tz_call (A1 := ga (adM a) H.size) (tz_runV (C := "StoryMachineModel") (As := [.int z128]) (rest := [.ref (a 0)]) ⟨hx, hb, hml, hown, hts⟩ (c_Mo_wordAtk8 l hfl dC dI cI cJ a H.size th tr dp zi co sh lt ts mf z128 c122 (by omega) (by omega)) (tx_cb (n := 1) hts rfl rfl ⟨Nat.le_of_ble_eq_true rfl, Nat.le_of_ble_eq_true rfl⟩ (tx_code.of (hts _ mw_1252)) (hts _ mw_12) (by decide +kernel) (hts _ mw_1249)) (hts _ mw_1251) (hts _ ms_Mo_wordAt) ⟨tz_blind, sv_recv (q0 := 0) hts in_Mo hK hI kM_0 rfl, fun U hU hW => ⟨rfl, by rw [hU], by rw [hU]; exact hI.1, va_K.moved hW.alike hK, hst _ _ hI.2 U hU hW⟩⟩ rfl rfl hl.1 rfl (lv_room (Nat.le_of_ble_eq_true rfl)) d_Mo_property_47 ⟨Nat.le_of_ble_eq_true rfl, Nat.le_of_ble_eq_true rfl⟩) hI.2 (fun q _ h => ga_sub hAC hA0 hI.2 q h) (ga_sub hAC hA0 hI.2) (fun v t H1 locs1 ht hWt hpost _ _ hS => ?_) (fun x t H1 locs1 ht hWt hpost _ _ hS => (hpost.2 x rfl).elim)
                rcases hpost.1 _ rfl with ⟨z129, t_tr130, hv, c131, c131_0, c131_1, c131_2, c131_3, hI1⟩ | ⟨z132, hv, c133, c133_0, c133_1, c133_2, c133_3, hI1⟩
                · cases hv
                  have hI : sI (dC, dI) vcl cI cJ (gsM a th t_tr130 dp zi co sh lt ts mf) A s.heap H1 locs1 := ⟨by rw [← ht]; exact hI1, hS⟩
                  obtain ⟨-, ⟨o134, o135⟩, -, -, -, -, -, -, -⟩ := id c131
                  clear hpost hI1 hS ht hWt
                  revert hI; generalize H1 = H; generalize locs1 = locs; intro hI
                  refine sn_iconst hx hb d_Mo_property_50 (by decide) (fun z136 hz136 => ?_)
                  refine lv_iload_n hx hb d_Mo_property_51 rfl (lv_at hl 3 rfl) ?_
                  refine sn_iconst hx hb d_Mo_property_52 (by decide) (fun z137 hz137 => ?_)
                  refine sn_isub hx hb d_Mo_property_53 (by omega) (by omega) (fun z138 hz138 => ?_)
                  refine sn_imulL (k := 2) hx hb d_Mo_property_54 (by omega) (by omega) (by omega) (fun z139 hz139 => ?_)
                  refine sn_iadd hx hb d_Mo_property_55 (by omega) (by omega) (fun z140 hz140 => ?_)
                  refine tz_call (A1 := ga (adM a) H.size) (tz_runV (C := "StoryMachineModel") (As := [.int z140]) (rest := []) ⟨hx, hb, hml, hown, hts⟩ (c_Mo_wordAt l hfl dC dI cI cJ a H.size th t_tr130 dp zi co sh lt ts mf z140 c131) (tx_cb (n := 1) hts rfl rfl ⟨Nat.le_of_ble_eq_true rfl, Nat.le_of_ble_eq_true rfl⟩ (tx_code.of (hts _ mw_1252)) (hts _ mw_12) (by decide +kernel) (hts _ mw_1249)) (hts _ mw_1251) (hts _ ms_Mo_wordAt) ⟨tz_blind, sv_recv (q0 := 0) hts in_Mo hK hI kM_0 rfl, fun U hU hW => ⟨rfl, by rw [hU], by rw [hU]; exact hI.1, va_K.moved hW.alike hK, hst _ _ hI.2 U hU hW⟩⟩ rfl rfl hl.1 rfl (lv_room (Nat.le_of_ble_eq_true rfl)) d_Mo_property_56 ⟨Nat.le_of_ble_eq_true rfl, Nat.le_of_ble_eq_true rfl⟩) hI.2 (fun q _ h => ga_sub hAC hA0 hI.2 q h) (ga_sub hAC hA0 hI.2) (fun v t H1 locs1 ht hWt hpost _ _ hS => ?_) (fun x t H1 locs1 ht hWt hpost _ _ hS => (hpost.2 x rfl).elim)
                  rcases hpost.1 _ rfl with ⟨z141, t_tr142, hv, c143, c143_0, c143_1, c143_2, hI1⟩ | ⟨z144, hv, c145, c145_0, c145_1, c145_2, c145_3, c145_4, hI1⟩
                  · cases hv
                    have hI : sI (dC, dI) vcl cI cJ (gsM a th t_tr142 dp zi co sh lt ts mf) A s.heap H1 locs1 := ⟨by rw [← ht]; exact hI1, hS⟩
                    obtain ⟨-, ⟨o146, o147⟩, -, -, -, -, -, -, -⟩ := id c143
                    clear hpost hI1 hS ht hWt
                    revert hI; generalize H1 = H; generalize locs1 = locs; intro hI
                    refine lv_goto (tgt := 63) hx hb d_Mo_property_59 (by decide) ?_
                    subst hZ
                    exact tz_ret (W.iret (v := z141) hx hb hr (fun t ht hW => ⟨⟨fun v9 hv9 => by cases hv9; exact (Or.inl ⟨z141, t_tr142, rfl, c143, by omega, by omega, by omega, by rw [ht]; exact hI.1⟩), fun x9 hx9 => (by cases hx9)⟩, hI.2.F ht⟩) hI.2.2.2 d_Mo_property_63)
                  · omega
                · cases hv
                  have hI : sI (dC, dI) vcl cI cJ (gsM a th tr dp zi co sh lt ts mf) A s.heap H1 locs1 := ⟨by rw [← ht]; exact hI1, hS⟩
                  clear hpost hI1 hS ht hWt
                  revert hI; generalize H1 = H; generalize locs1 = locs; intro hI
                  refine sn_iconst hx hb d_Mo_property_50 (by decide) (fun z148 hz148 => ?_)
                  refine lv_iload_n hx hb d_Mo_property_51 rfl (lv_at hl 3 rfl) ?_
                  refine sn_iconst hx hb d_Mo_property_52 (by decide) (fun z149 hz149 => ?_)
                  refine sn_isub hx hb d_Mo_property_53 (by omega) (by omega) (fun z150 hz150 => ?_)
                  refine sn_imulL (k := 2) hx hb d_Mo_property_54 (by omega) (by omega) (by omega) (fun z151 hz151 => ?_)
                  refine sn_iadd hx hb d_Mo_property_55 (by omega) (by omega) (fun z152 hz152 => ?_)
                  refine tz_call (A1 := ga (adM a) H.size) (tz_runV (C := "StoryMachineModel") (As := [.int z152]) (rest := []) ⟨hx, hb, hml, hown, hts⟩ (c_Mo_wordAt l hfl dC dI cI cJ a H.size th tr dp zi co sh lt ts mf z152 c133) (tx_cb (n := 1) hts rfl rfl ⟨Nat.le_of_ble_eq_true rfl, Nat.le_of_ble_eq_true rfl⟩ (tx_code.of (hts _ mw_1252)) (hts _ mw_12) (by decide +kernel) (hts _ mw_1249)) (hts _ mw_1251) (hts _ ms_Mo_wordAt) ⟨tz_blind, sv_recv (q0 := 0) hts in_Mo hK hI kM_0 rfl, fun U hU hW => ⟨rfl, by rw [hU], by rw [hU]; exact hI.1, va_K.moved hW.alike hK, hst _ _ hI.2 U hU hW⟩⟩ rfl rfl hl.1 rfl (lv_room (Nat.le_of_ble_eq_true rfl)) d_Mo_property_56 ⟨Nat.le_of_ble_eq_true rfl, Nat.le_of_ble_eq_true rfl⟩) hI.2 (fun q _ h => ga_sub hAC hA0 hI.2 q h) (ga_sub hAC hA0 hI.2) (fun v t H1 locs1 ht hWt hpost _ _ hS => ?_) (fun x t H1 locs1 ht hWt hpost _ _ hS => (hpost.2 x rfl).elim)
                  rcases hpost.1 _ rfl with ⟨z153, t_tr154, hv, c155, c155_0, c155_1, c155_2, hI1⟩ | ⟨z156, hv, c157, c157_0, c157_1, c157_2, c157_3, c157_4, hI1⟩
                  · cases hv
                    have hI : sI (dC, dI) vcl cI cJ (gsM a th t_tr154 dp zi co sh lt ts mf) A s.heap H1 locs1 := ⟨by rw [← ht]; exact hI1, hS⟩
                    obtain ⟨-, ⟨o158, o159⟩, -, -, -, -, -, -, -⟩ := id c155
                    clear hpost hI1 hS ht hWt
                    revert hI; generalize H1 = H; generalize locs1 = locs; intro hI
                    refine lv_goto (tgt := 63) hx hb d_Mo_property_59 (by decide) ?_
                    subst hZ
                    exact tz_ret (W.iret (v := z153) hx hb hr (fun t ht hW => ⟨⟨fun v9 hv9 => by cases hv9; exact (Or.inl ⟨z153, t_tr154, rfl, c155, by omega, by omega, by omega, by rw [ht]; exact hI.1⟩), fun x9 hx9 => (by cases hx9)⟩, hI.2.F ht⟩) hI.2.2.2 d_Mo_property_63)
                  · cases hv
                    have hI : sI (dC, dI) vcl cI cJ (gsM a th tr dp zi co sh lt ts mf) A s.heap H1 locs1 := ⟨by rw [← ht]; exact hI1, hS⟩
                    clear hpost hI1 hS ht hWt
                    revert hI; generalize H1 = H; generalize locs1 = locs; intro hI
                    refine lv_goto (tgt := 63) hx hb d_Mo_property_59 (by decide) ?_
                    subst hZ
                    exact tz_ret (W.iret (v := z156) hx hb hr (fun t ht hW => ⟨⟨fun v9 hv9 => by cases hv9; exact (Or.inr (⟨z156, rfl, c157, by omega, by omega, by omega, by omega, by omega, by rw [ht]; exact hI.1⟩)), fun x9 hx9 => (by cases hx9)⟩, hI.2.F ht⟩) hI.2.2.2 d_Mo_property_63)
    · omega
