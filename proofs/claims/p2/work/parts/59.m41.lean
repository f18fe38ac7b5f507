abbrev q_Mo_parse (dC : Nat → ClassId) (dI : Nat → Nat → Nat) (cI cJ : ClassId) (a : Nat → Nat) (th tr dp zi co sh lt ts : Int) (mf : Nat → Int32) (x1 : Int32) (x2 : Int32) (x3 : Int32) : Outcome → State → Prop := fun o t => (∀ v, o = .returned v → ((∃ (tr_ lt_ : Int) (mf_ : Nat → Int32), v = none ∧ okM th tr_ dp zi co sh lt_ ts mf_ ∧ (1 ≤ tr_) ∧ sh_I (dC, dI) vcl cI cJ (gsM a th tr_ dp zi co sh lt_ ts mf_) t.heap) ∨ (∃ (lt_ : Int) (mf_ : Nat → Int32), v = none ∧ okM th tr dp zi co sh lt_ ts mf_ ∧ (tr ≤ 0) ∧ sh_I (dC, dI) vcl cI cJ (gsM a th tr dp zi co sh lt_ ts mf_) t.heap))) ∧ (∀ x, o = .threw x → (False))
def rm_Mo_parse : Room := { frames := 4, cells := 0, slots := 0, locals := 96 }
set_option maxHeartbeats 4000000 in
set_option maxRecDepth 100000 in
theorem c_Mo_parse (l : Launch) (hfl : l.flags = pinnedFlags ++ [noTraceFlag]) (dC : Nat → ClassId) (dI : Nat → Nat → Nat) (cI cJ : ClassId) (a : Nat → Nat) (sz : Nat) (th tr dp zi co sh lt ts : Int) (mf : Nat → Int32) (x1 : Int32) (x2 : Int32) (x3 : Int32) (hok : okM th tr dp zi co sh lt ts mf) (hp0 : 0 ≤ x1.toInt) (hp1 : x1.toInt ≤ 65535) (hp2 : 0 ≤ x2.toInt) (hp3 : x2.toInt ≤ 65535) (hp4 : 0 ≤ x3.toInt) (hp5 : x3.toInt ≤ 23) : tz_Met l ⟨"StoryMachineModel", "parse", "(III)V"⟩ tw_tbl rm_Mo_parse (tzP (dC, dI) vcl cI cJ (gsM a th tr dp zi co sh lt ts mf) a (adM a) [.ref (a 0), .int x1, .int x2, .int x3] sz) (tq_Q (q_Mo_parse dC dI cI cJ a th tr dp zi co sh lt ts mf x1 x2 x3) (ga (adM a) sz)) 0 0 0 0 (ga (adM a) sz) := by
  refine tz_ofW (cc := prog_13_method_67_code) (maxL := 7) (ret := none) (by decide) (tx_isM mw_1472) ?_
  intro p e s m args below meth c s₁ B hml hv
  obtain ⟨rfl, hsz, hI0, hK, hst0⟩ := hv
  have hx := B.exec
  have hb := B.bytes
  have hr := B.returns
  have hts := atoms_spec (ws := tw_tbl) B.pre
  have hown : s.vm.findClass "StoryMachineModel" = some m.cls := findClass_of_methodNamed B.named
  have hlocks := B.notSynchronized
  subst hsz
  have hst := fun (H : Heap) (locs : List Loc) (hS : va_S (ga (adM a) s.heap.size) s.heap H locs) (U : State) (hU : U.heap = H) (hW : s.WarmedH U.vm) => zS_all adM_map hI0 hst0 hS hU hW
  have hAC : ∀ q ∈ adM a, ga (adM a) s.heap.size q := fun q h => Or.inl h
  have hA0 : ∀ q, s.heap.size ≤ q → ga (adM a) s.heap.size q := fun q h => Or.inr h
  have hI : sI (dC, dI) vcl cI cJ (gsM a th tr dp zi co sh lt ts mf) (ga (adM a) s.heap.size) s.heap s.heap [] := ⟨hI0, va_S.rf⟩
  clear hI0 hst0
  have hl := lv_entry ([.ref (a 0), .int x1, .int x2, .int x3]) (n := 7) (Nat.le_of_ble_eq_true rfl)
  rw [lg_entry_eq]
  generalize (lg_sl ([.ref (a 0), .int x1, .int x2, .int x3]) ++ List.replicate (7 - (lg_sl ([.ref (a 0), .int x1, .int x2, .int x3])).length) Slot.unset).toArray = ls at hl ⊢
  have hl : lv_has ls 7 [(0, .ref (a 0)), (1, .int x1), (2, .int x2), (3, .int x3)] := hl
  generalize hZ : tz_MQ below (tq_Q (q_Mo_parse dC dI cI cJ a th tr dp zi co sh lt ts mf x1 x2 x3) (ga (adM a) s.heap.size)) ([.ref (a 0), .int x1, .int x2, .int x3] : List Value).toArray s 0 0 0 0 (ga (adM a) s.heap.size) = Z
  obtain ⟨A, hAe⟩ : ∃ A, A = ga (adM a) s.heap.size := ⟨_, rfl⟩
  rw [← hAe] at hst hAC hA0 hI hZ
  refine sv_start hI (fun H locs hI => ?_)
  obtain ⟨⟨o1, o2⟩, ⟨o3, o4⟩, ⟨o5, o6⟩, ⟨o7, o8⟩, ⟨o9, o10⟩, ⟨o11, o12⟩, ⟨o13, o14⟩, ⟨o15, o16⟩, -⟩ := id hok
  have gx1 := sn_rng x1
  have gx2 := sn_rng x2
  have gx3 := sn_rng x3
  refine lv_aload_n hx hb d_Mo_parse_0 rfl (lv_at hl 0 rfl) ?_
  refine sv_getr (C := "StoryMachineModel") (T := T_Mo) (N := 51) hx hb hts in_Mo hown hK hI 0 kM_0 rfl 49 (by decide) (hts _ mw_1112) rfl d_Mo_parse_1 ?_
  refine lv_iload_n hx hb d_Mo_parse_4 rfl (lv_at hl 3 rfl) ?_
  refine sv_ialdr hx hb hK hI 20 kM_20 (by omega) (by omega) d_Mo_parse_5 (fun z17 hz17a hz17b => ?_)
  refine lv_istore (lv' := [(4, .int z17), (0, .ref (a 0)), (1, .int x1), (2, .int x2), (3, .int x3)]) hx hb d_Mo_parse_6 hl (by decide) rfl (fun ls hl => ?_)
  refine lv_aload_n hx hb d_Mo_parse_8 rfl (lv_at hl 1 rfl) ?_
  refine sv_getr (C := "StoryMachineModel") (T := T_Mo) (N := 51) hx hb hts in_Mo hown hK hI 0 kM_0 rfl 50 (by decide) (hts _ mw_1113) rfl d_Mo_parse_9 ?_
  refine lv_iload_n hx hb d_Mo_parse_12 rfl (lv_at hl 4 rfl) ?_
  refine sv_ialdr hx hb hK hI 21 kM_21 (by omega) (by omega) d_Mo_parse_13 (fun z18 hz18a hz18b => ?_)
  refine lv_istore (lv' := [(5, .int z18), (4, .int z17), (0, .ref (a 0)), (1, .int x1), (2, .int x2), (3, .int x3)]) hx hb d_Mo_parse_14 hl (by decide) rfl (fun ls hl => ?_)
  refine lv_aload_n hx hb d_Mo_parse_16 rfl (lv_at hl 2 rfl) ?_
  refine lv_iload_n hx hb d_Mo_parse_17 rfl (lv_at hl 3 rfl) ?_
  refine sn_iconst hx hb d_Mo_parse_18 (by decide) (fun z19 hz19 => ?_)
  refine sn_iadd hx hb d_Mo_parse_19 (by omega) (by omega) (fun z20 hz20 => ?_)
  refine lv_iload hx hb d_Mo_parse_20 (lv_at hl 1 rfl) ?_
  refine sn_iadd hx hb d_Mo_parse_22 (by omega) (by omega) (fun z21 hz21 => ?_)
  refine lv_iload hx hb d_Mo_parse_23 (lv_at hl 0 rfl) ?_
  refine tz_call (A1 := ga (adM a) H.size) (tz_runV (C := "StoryMachineModel") (As := [.int z21, .int z18]) (rest := []) ⟨hx, hb, hml, hown, hts⟩ (c_Mo_entry l hfl dC dI cI cJ a H.size th tr dp zi co sh lt ts mf z21 z18 hok (by omega) (by omega) (by omega) (by omega)) (tx_cb (n := 2) hts rfl rfl ⟨Nat.le_of_ble_eq_true rfl, Nat.le_of_ble_eq_true rfl⟩ (tx_code.of (hts _ mw_1476)) (hts _ mw_12) (by decide +kernel) (hts _ mw_1473)) (hts _ mw_1475) (hts _ ms_Mo_entry) ⟨tz_blind, sv_recv (q0 := 0) hts in_Mo hK hI kM_0 rfl, fun U hU hW => ⟨rfl, by rw [hU], by rw [hU]; exact hI.1, va_K.moved hW.alike hK, hst _ _ hI.2 U hU hW⟩⟩ rfl rfl hl.1 rfl (lv_room (Nat.le_of_ble_eq_true rfl)) d_Mo_parse_25 ⟨Nat.le_of_ble_eq_true rfl, Nat.le_of_ble_eq_true rfl⟩) hI.2 (fun q _ h => ga_sub hAC hA0 hI.2 q h) (ga_sub hAC hA0 hI.2) (fun v t H1 locs1 ht hWt hpost _ _ hS => ?_) (fun x t H1 locs1 ht hWt hpost _ _ hS => (hpost.2 x rfl).elim)
  rcases hpost.1 _ rfl with ⟨z22, t_tr23, t_lt24, hv, c25, c25_0, c25_1, c25_2, hI1⟩ | ⟨z26, t_lt27, hv, c28, c28_0, c28_1, c28_2, hI1⟩
  · cases hv
    have hI : sI (dC, dI) vcl cI cJ (gsM a th t_tr23 dp zi co sh t_lt24 ts mf) A s.heap H1 locs1 := ⟨by rw [← ht]; exact hI1, hS⟩
    obtain ⟨-, ⟨o29, o30⟩, -, -, -, -, ⟨o31, o32⟩, -, -⟩ := id c25
    clear hpost hI1 hS ht hWt
    revert hI; generalize H1 = H; generalize locs1 = locs; intro hI
    refine lv_istore (lv' := [(6, .int z22), (5, .int z18), (4, .int z17), (0, .ref (a 0)), (1, .int x1), (2, .int x2), (3, .int x3)]) hx hb d_Mo_parse_28 hl (by decide) rfl (fun ls hl => ?_)
    refine lv_aload_n hx hb d_Mo_parse_30 rfl (lv_at hl 3 rfl) ?_
    refine lv_iload_n hx hb d_Mo_parse_31 rfl (lv_at hl 5 rfl) ?_
    refine sn_iconst hx hb d_Mo_parse_32 (by decide) (fun z33 hz33 => ?_)
    refine sn_iadd hx hb d_Mo_parse_33 (by omega) (by omega) (fun z34 hz34 => ?_)
    refine sn_iconst hx hb d_Mo_parse_34 (by decide) (fun z35 hz35 => ?_)
    refine lv_iload_n hx hb d_Mo_parse_35 rfl (lv_at hl 6 rfl) ?_
    refine sn_imulL (k := 4) hx hb d_Mo_parse_36 (by omega) (by omega) (by omega) (fun z36 hz36 => ?_)
    refine sn_iadd hx hb d_Mo_parse_37 (by omega) (by omega) (fun z37 hz37 => ?_)
    refine lv_iload hx hb d_Mo_parse_38 (lv_at hl 0 rfl) ?_
    refine tz_call (A1 := ga (adM a) H.size) (tz_runV (C := "StoryMachineModel") (As := [.int z37, .int z22]) (rest := []) ⟨hx, hb, hml, hown, hts⟩ (c_Mo_setWord l hfl dC dI cI cJ a H.size th t_tr23 dp zi co sh t_lt24 ts mf z37 z22 c25) (tx_cb (n := 2) hts rfl rfl ⟨Nat.le_of_ble_eq_true rfl, Nat.le_of_ble_eq_true rfl⟩ (tx_code.of (hts _ mw_1309)) (hts _ mw_12) (by decide +kernel) (hts _ mw_1306)) (hts _ mw_1308) (hts _ ms_Mo_setWord) ⟨tz_blind, sv_recv (q0 := 0) hts in_Mo hK hI kM_0 rfl, fun U hU hW => ⟨rfl, by rw [hU], by rw [hU]; exact hI.1, va_K.moved hW.alike hK, hst _ _ hI.2 U hU hW⟩⟩ rfl rfl hl.1 rfl (lv_room (Nat.le_of_ble_eq_true rfl)) d_Mo_parse_40 ⟨Nat.le_of_ble_eq_true rfl, Nat.le_of_ble_eq_true rfl⟩) hI.2 (fun q _ h => ga_sub hAC hA0 hI.2 q h) (ga_sub hAC hA0 hI.2) (fun v t H1 locs1 ht hWt hpost _ _ hS => ?_) (fun x t H1 locs1 ht hWt hpost _ _ hS => (hpost.2 x rfl).elim)
    rcases hpost.1 _ rfl with ⟨t_tr38, hv, c39, c39_0, hI1⟩ | ⟨f_mf40, hv, c41, c41_0, c41_1, c41_2, hI1⟩
    · cases hv
      have hI : sI (dC, dI) vcl cI cJ (gsM a th t_tr38 dp zi co sh t_lt24 ts mf) A s.heap H1 locs1 := ⟨by rw [← ht]; exact hI1, hS⟩
      obtain ⟨-, ⟨o42, o43⟩, -, -, -, -, -, -, -⟩ := id c39
      clear hpost hI1 hS ht hWt
      revert hI; generalize H1 = H; generalize locs1 = locs; intro hI
      refine lv_aload_n hx hb d_Mo_parse_43 rfl (lv_at hl 3 rfl) ?_
      refine lv_iload_n hx hb d_Mo_parse_44 rfl (lv_at hl 5 rfl) ?_
      refine sn_iconst hx hb d_Mo_parse_45 (by decide) (fun z44 hz44 => ?_)
      refine sn_iadd hx hb d_Mo_parse_46 (by omega) (by omega) (fun z45 hz45 => ?_)
      refine sn_iconst hx hb d_Mo_parse_47 (by decide) (fun z46 hz46 => ?_)
      refine lv_iload_n hx hb d_Mo_parse_48 rfl (lv_at hl 6 rfl) ?_
      refine sn_imulL (k := 4) hx hb d_Mo_parse_49 (by omega) (by omega) (by omega) (fun z47 hz47 => ?_)
      refine sn_iadd hx hb d_Mo_parse_50 (by omega) (by omega) (fun z48 hz48 => ?_)
      refine lv_iload hx hb d_Mo_parse_51 (lv_at hl 1 rfl) ?_
      refine tz_call (A1 := ga (adM a) H.size) (tz_runV (C := "StoryMachineModel") (As := [.int z48, .int z18]) (rest := []) ⟨hx, hb, hml, hown, hts⟩ (c_Mo_setByte l hfl dC dI cI cJ a H.size th t_tr38 dp zi co sh t_lt24 ts mf z48 z18 c39) (tx_cb (n := 2) hts rfl rfl ⟨Nat.le_of_ble_eq_true rfl, Nat.le_of_ble_eq_true rfl⟩ (tx_code.of (hts _ mw_1353)) (hts _ mw_12) (by decide +kernel) (hts _ mw_1350)) (hts _ mw_1352) (hts _ ms_Mo_setByte) ⟨tz_blind, sv_recv (q0 := 0) hts in_Mo hK hI kM_0 rfl, fun U hU hW => ⟨rfl, by rw [hU], by rw [hU]; exact hI.1, va_K.moved hW.alike hK, hst _ _ hI.2 U hU hW⟩⟩ rfl rfl hl.1 rfl (lv_room (Nat.le_of_ble_eq_true rfl)) d_Mo_parse_53 ⟨Nat.le_of_ble_eq_true rfl, Nat.le_of_ble_eq_true rfl⟩) hI.2 (fun q _ h => ga_sub hAC hA0 hI.2 q h) (ga_sub hAC hA0 hI.2) (fun v t H1 locs1 ht hWt hpost _ _ hS => ?_) (fun x t H1 locs1 ht hWt hpost _ _ hS => (hpost.2 x rfl).elim)
      rcases hpost.1 _ rfl with ⟨t_tr49, hv, c50, c50_0, hI1⟩ | ⟨f_mf51, hv, c52, c52_0, c52_1, c52_2, hI1⟩
      · cases hv
        have hI : sI (dC, dI) vcl cI cJ (gsM a th t_tr49 dp zi co sh t_lt24 ts mf) A s.heap H1 locs1 := ⟨by rw [← ht]; exact hI1, hS⟩
        obtain ⟨-, ⟨o53, o54⟩, -, -, -, -, -, -, -⟩ := id c50
        clear hpost hI1 hS ht hWt
        revert hI; generalize H1 = H; generalize locs1 = locs; intro hI
        refine lv_aload_n hx hb d_Mo_parse_56 rfl (lv_at hl 3 rfl) ?_
        refine lv_iload_n hx hb d_Mo_parse_57 rfl (lv_at hl 5 rfl) ?_
        refine sn_iconst hx hb d_Mo_parse_58 (by decide) (fun z55 hz55 => ?_)
        refine sn_iadd hx hb d_Mo_parse_59 (by omega) (by omega) (fun z56 hz56 => ?_)
        refine sn_iconst hx hb d_Mo_parse_60 (by decide) (fun z57 hz57 => ?_)
        refine lv_iload_n hx hb d_Mo_parse_61 rfl (lv_at hl 6 rfl) ?_
        refine sn_imulL (k := 4) hx hb d_Mo_parse_62 (by omega) (by omega) (by omega) (fun z58 hz58 => ?_)
        refine sn_iadd hx hb d_Mo_parse_63 (by omega) (by omega) (fun z59 hz59 => ?_)
        refine lv_iload hx hb d_Mo_parse_64 (lv_at hl 2 rfl) ?_
        refine sn_iconst hx hb d_Mo_parse_66 (by decide) (fun z60 hz60 => ?_)
        refine sn_iadd hx hb d_Mo_parse_67 (by omega) (by omega) (fun z61 hz61 => ?_)
        refine tz_call (A1 := ga (adM a) H.size) (tz_runV (C := "StoryMachineModel") (As := [.int z59, .int z61]) (rest := []) ⟨hx, hb, hml, hown, hts⟩ (c_Mo_setByte l hfl dC dI cI cJ a H.size th t_tr49 dp zi co sh t_lt24 ts mf z59 z61 c50) (tx_cb (n := 2) hts rfl rfl ⟨Nat.le_of_ble_eq_true rfl, Nat.le_of_ble_eq_true rfl⟩ (tx_code.of (hts _ mw_1353)) (hts _ mw_12) (by decide +kernel) (hts _ mw_1350)) (hts _ mw_1352) (hts _ ms_Mo_setByte) ⟨tz_blind, sv_recv (q0 := 0) hts in_Mo hK hI kM_0 rfl, fun U hU hW => ⟨rfl, by rw [hU], by rw [hU]; exact hI.1, va_K.moved hW.alike hK, hst _ _ hI.2 U hU hW⟩⟩ rfl rfl hl.1 rfl (lv_room (Nat.le_of_ble_eq_true rfl)) d_Mo_parse_68 ⟨Nat.le_of_ble_eq_true rfl, Nat.le_of_ble_eq_true rfl⟩) hI.2 (fun q _ h => ga_sub hAC hA0 hI.2 q h) (ga_sub hAC hA0 hI.2) (fun v t H1 locs1 ht hWt hpost _ _ hS => ?_) (fun x t H1 locs1 ht hWt hpost _ _ hS => (hpost.2 x rfl).elim)
        rcases hpost.1 _ rfl with ⟨t_tr62, hv, c63, c63_0, hI1⟩ | ⟨f_mf64, hv, c65, c65_0, c65_1, c65_2, hI1⟩
        · cases hv
          have hI : sI (dC, dI) vcl cI cJ (gsM a th t_tr62 dp zi co sh t_lt24 ts mf) A s.heap H1 locs1 := ⟨by rw [← ht]; exact hI1, hS⟩
          obtain ⟨-, ⟨o66, o67⟩, -, -, -, -, -, -, -⟩ := id c63
          clear hpost hI1 hS ht hWt
          revert hI; generalize H1 = H; generalize locs1 = locs; intro hI
          subst hZ
          exact tz_ret (W.vret hx hb hr (fun t ht hW => ⟨⟨fun v9 hv9 => by cases hv9; exact (Or.inl ⟨t_tr62, t_lt24, mf, rfl, c63, by omega, by rw [ht]; exact hI.1⟩), fun x9 hx9 => (by cases hx9)⟩, hI.2.F ht⟩) hI.2.2.2 d_Mo_parse_71)
        · omega
      · omega
    · omega
  · cases hv
    have hI : sI (dC, dI) vcl cI cJ (gsM a th tr dp zi co sh t_lt27 ts mf) A s.heap H1 locs1 := ⟨by rw [← ht]; exact hI1, hS⟩
    obtain ⟨-, -, -, -, -, -, ⟨o68, o69⟩, -, -⟩ := id c28
    clear hpost hI1 hS ht hWt
    revert hI; generalize H1 = H; generalize locs1 = locs; intro hI
    refine lv_istore (lv' := [(6, .int z26), (5, .int z18), (4, .int z17), (0, .ref (a 0)), (1, .int x1), (2, .int x2), (3, .int x3)]) hx hb d_Mo_parse_28 hl (by decide) rfl (fun ls hl => ?_)
    refine lv_aload_n hx hb d_Mo_parse_30 rfl (lv_at hl 3 rfl) ?_
    refine lv_iload_n hx hb d_Mo_parse_31 rfl (lv_at hl 5 rfl) ?_
    refine sn_iconst hx hb d_Mo_parse_32 (by decide) (fun z70 hz70 => ?_)
    refine sn_iadd hx hb d_Mo_parse_33 (by omega) (by omega) (fun z71 hz71 => ?_)
    refine sn_iconst hx hb d_Mo_parse_34 (by decide) (fun z72 hz72 => ?_)
    refine lv_iload_n hx hb d_Mo_parse_35 rfl (lv_at hl 6 rfl) ?_
    refine sn_imulL (k := 4) hx hb d_Mo_parse_36 (by omega) (by omega) (by omega) (fun z73 hz73 => ?_)
    refine sn_iadd hx hb d_Mo_parse_37 (by omega) (by omega) (fun z74 hz74 => ?_)
    refine lv_iload hx hb d_Mo_parse_38 (lv_at hl 0 rfl) ?_
    refine tz_call (A1 := ga (adM a) H.size) (tz_runV (C := "StoryMachineModel") (As := [.int z74, .int z26]) (rest := []) ⟨hx, hb, hml, hown, hts⟩ (c_Mo_setWord l hfl dC dI cI cJ a H.size th tr dp zi co sh t_lt27 ts mf z74 z26 c28) (tx_cb (n := 2) hts rfl rfl ⟨Nat.le_of_ble_eq_true rfl, Nat.le_of_ble_eq_true rfl⟩ (tx_code.of (hts _ mw_1309)) (hts _ mw_12) (by decide +kernel) (hts _ mw_1306)) (hts _ mw_1308) (hts _ ms_Mo_setWord) ⟨tz_blind, sv_recv (q0 := 0) hts in_Mo hK hI kM_0 rfl, fun U hU hW => ⟨rfl, by rw [hU], by rw [hU]; exact hI.1, va_K.moved hW.alike hK, hst _ _ hI.2 U hU hW⟩⟩ rfl rfl hl.1 rfl (lv_room (Nat.le_of_ble_eq_true rfl)) d_Mo_parse_40 ⟨Nat.le_of_ble_eq_true rfl, Nat.le_of_ble_eq_true rfl⟩) hI.2 (fun q _ h => ga_sub hAC hA0 hI.2 q h) (ga_sub hAC hA0 hI.2) (fun v t H1 locs1 ht hWt hpost _ _ hS => ?_) (fun x t H1 locs1 ht hWt hpost _ _ hS => (hpost.2 x rfl).elim)
    rcases hpost.1 _ rfl with ⟨t_tr75, hv, c76, c76_0, hI1⟩ | ⟨f_mf77, hv, c78, c78_0, c78_1, c78_2, hI1⟩
    · cases hv
      have hI : sI (dC, dI) vcl cI cJ (gsM a th t_tr75 dp zi co sh t_lt27 ts mf) A s.heap H1 locs1 := ⟨by rw [← ht]; exact hI1, hS⟩
      obtain ⟨-, ⟨o79, o80⟩, -, -, -, -, -, -, -⟩ := id c76
      clear hpost hI1 hS ht hWt
      revert hI; generalize H1 = H; generalize locs1 = locs; intro hI
      refine lv_aload_n hx hb d_Mo_parse_43 rfl (lv_at hl 3 rfl) ?_
      refine lv_iload_n hx hb d_Mo_parse_44 rfl (lv_at hl 5 rfl) ?_
      refine sn_iconst hx hb d_Mo_parse_45 (by decide) (fun z81 hz81 => ?_)
      refine sn_iadd hx hb d_Mo_parse_46 (by omega) (by omega) (fun z82 hz82 => ?_)
      refine sn_iconst hx hb d_Mo_parse_47 (by decide) (fun z83 hz83 => ?_)
      refine lv_iload_n hx hb d_Mo_parse_48 rfl (lv_at hl 6 rfl) ?_
      refine sn_imulL (k := 4) hx hb d_Mo_parse_49 (by omega) (by omega) (by omega) (fun z84 hz84 => ?_)
      refine sn_iadd hx hb d_Mo_parse_50 (by omega) (by omega) (fun z85 hz85 => ?_)
      refine lv_iload hx hb d_Mo_parse_51 (lv_at hl 1 rfl) ?_
      refine tz_call (A1 := ga (adM a) H.size) (tz_runV (C := "StoryMachineModel") (As := [.int z85, .int z18]) (rest := []) ⟨hx, hb, hml, hown, hts⟩ (c_Mo_setByte l hfl dC dI cI cJ a H.size th t_tr75 dp zi co sh t_lt27 ts mf z85 z18 c76) (tx_cb (n := 2) hts rfl rfl ⟨Nat.le_of_ble_eq_true rfl, Nat.le_of_ble_eq_true rfl⟩ (tx_code.of (hts _ mw_1353)) (hts _ mw_12) (by decide +kernel) (hts _ mw_1350)) (hts _ mw_1352) (hts _ ms_Mo_setByte) ⟨tz_blind, sv_recv (q0 := 0) hts in_Mo hK hI kM_0 rfl, fun U hU hW => ⟨rfl, by rw [hU], by rw [hU]; exact hI.1, va_K.moved hW.alike hK, hst _ _ hI.2 U hU hW⟩⟩ rfl rfl hl.1 rfl (lv_room (Nat.le_of_ble_eq_true rfl)) d_Mo_parse_53 ⟨Nat.le_of_ble_eq_true rfl, Nat.le_of_ble_eq_true rfl⟩) hI.2 (fun q _ h => ga_sub hAC hA0 hI.2 q h) (ga_sub hAC hA0 hI.2) (fun v t H1 locs1 ht hWt hpost _ _ hS => ?_) (fun x t H1 locs1 ht hWt hpost _ _ hS => (hpost.2 x rfl).elim)
      rcases hpost.1 _ rfl with ⟨t_tr86, hv, c87, c87_0, hI1⟩ | ⟨f_mf88, hv, c89, c89_0, c89_1, c89_2, hI1⟩
      · cases hv
        have hI : sI (dC, dI) vcl cI cJ (gsM a th t_tr86 dp zi co sh t_lt27 ts mf) A s.heap H1 locs1 := ⟨by rw [← ht]; exact hI1, hS⟩
        obtain ⟨-, ⟨o90, o91⟩, -, -, -, -, -, -, -⟩ := id c87
        clear hpost hI1 hS ht hWt
        revert hI; generalize H1 = H; generalize locs1 = locs; intro hI
        refine lv_aload_n hx hb d_Mo_parse_56 rfl (lv_at hl 3 rfl) ?_
        refine lv_iload_n hx hb d_Mo_parse_57 rfl (lv_at hl 5 rfl) ?_
        refine sn_iconst hx hb d_Mo_parse_58 (by decide) (fun z92 hz92 => ?_)
        refine sn_iadd hx hb d_Mo_parse_59 (by omega) (by omega) (fun z93 hz93 => ?_)
        refine sn_iconst hx hb d_Mo_parse_60 (by decide) (fun z94 hz94 => ?_)
        refine lv_iload_n hx hb d_Mo_parse_61 rfl (lv_at hl 6 rfl) ?_
        refine sn_imulL (k := 4) hx hb d_Mo_parse_62 (by omega) (by omega) (by omega) (fun z95 hz95 => ?_)
        refine sn_iadd hx hb d_Mo_parse_63 (by omega) (by omega) (fun z96 hz96 => ?_)
        refine lv_iload hx hb d_Mo_parse_64 (lv_at hl 2 rfl) ?_
        refine sn_iconst hx hb d_Mo_parse_66 (by decide) (fun z97 hz97 => ?_)
        refine sn_iadd hx hb d_Mo_parse_67 (by omega) (by omega) (fun z98 hz98 => ?_)
        refine tz_call (A1 := ga (adM a) H.size) (tz_runV (C := "StoryMachineModel") (As := [.int z96, .int z98]) (rest := []) ⟨hx, hb, hml, hown, hts⟩ (c_Mo_setByte l hfl dC dI cI cJ a H.size th t_tr86 dp zi co sh t_lt27 ts mf z96 z98 c87) (tx_cb (n := 2) hts rfl rfl ⟨Nat.le_of_ble_eq_true rfl, Nat.le_of_ble_eq_true rfl⟩ (tx_code.of (hts _ mw_1353)) (hts _ mw_12) (by decide +kernel) (hts _ mw_1350)) (hts _ mw_1352) (hts _ ms_Mo_setByte) ⟨tz_blind, sv_recv (q0 := 0) hts in_Mo hK hI kM_0 rfl, fun U hU hW => ⟨rfl, by rw [hU], by rw [hU]; exact hI.1, va_K.moved hW.alike hK, hst _ _ hI.2 U hU hW⟩⟩ rfl rfl hl.1 rfl (lv_room (Nat.le_of_ble_eq_true rfl)) d_Mo_parse_68 ⟨Nat.le_of_ble_eq_true rfl, Nat.le_of_ble_eq_true rfl⟩) hI.2 (fun q _ h => ga_sub hAC hA0 hI.2 q h) (ga_sub hAC hA0 hI.2) (fun v t H1 locs1 ht hWt hpost _ _ hS => ?_) (fun x t H1 locs1 ht hWt hpost _ _ hS => (hpost.2 x rfl).elim)
        rcases hpost.1 _ rfl with ⟨t_tr99, hv, c100, c100_0, hI1⟩ | ⟨f_mf101, hv, c102, c102_0, c102_1, c102_2, hI1⟩
        · cases hv
          have hI : sI (dC, dI) vcl cI cJ (gsM a th t_tr99 dp zi co sh t_lt27 ts mf) A s.heap H1 locs1 := ⟨by rw [← ht]; exact hI1, hS⟩
          obtain ⟨-, ⟨o103, o104⟩, -, -, -, -, -, -, -⟩ := id c100
          clear hpost hI1 hS ht hWt
          revert hI; generalize H1 = H; generalize locs1 = locs; intro hI
          subst hZ
          exact tz_ret (W.vret hx hb hr (fun t ht hW => ⟨⟨fun v9 hv9 => by cases hv9; exact (Or.inl ⟨t_tr99, t_lt27, mf, rfl, c100, by omega, by rw [ht]; exact hI.1⟩), fun x9 hx9 => (by cases hx9)⟩, hI.2.F ht⟩) hI.2.2.2 d_Mo_parse_71)
        · omega
      · omega
    · cases hv
      have hI : sI (dC, dI) vcl cI cJ (gsM a th tr dp zi co sh t_lt27 ts f_mf77) A s.heap H1 locs1 := ⟨by rw [← ht]; exact hI1, hS⟩
      obtain ⟨-, -, -, -, -, -, -, -, -⟩ := id c78
      clear hpost hI1 hS ht hWt
      revert hI; generalize H1 = H; generalize locs1 = locs; intro hI
      refine lv_aload_n hx hb d_Mo_parse_43 rfl (lv_at hl 3 rfl) ?_
      refine lv_iload_n hx hb d_Mo_parse_44 rfl (lv_at hl 5 rfl) ?_
      refine sn_iconst hx hb d_Mo_parse_45 (by decide) (fun z105 hz105 => ?_)
      refine sn_iadd hx hb d_Mo_parse_46 (by omega) (by omega) (fun z106 hz106 => ?_)
      refine sn_iconst hx hb d_Mo_parse_47 (by decide) (fun z107 hz107 => ?_)
      refine lv_iload_n hx hb d_Mo_parse_48 rfl (lv_at hl 6 rfl) ?_
      refine sn_imulL (k := 4) hx hb d_Mo_parse_49 (by omega) (by omega) (by omega) (fun z108 hz108 => ?_)
      refine sn_iadd hx hb d_Mo_parse_50 (by omega) (by omega) (fun z109 hz109 => ?_)
      refine lv_iload hx hb d_Mo_parse_51 (lv_at hl 1 rfl) ?_
      refine tz_call (A1 := ga (adM a) H.size) (tz_runV (C := "StoryMachineModel") (As := [.int z109, .int z18]) (rest := []) ⟨hx, hb, hml, hown, hts⟩ (c_Mo_setByte l hfl dC dI cI cJ a H.size th tr dp zi co sh t_lt27 ts f_mf77 z109 z18 c78) (tx_cb (n := 2) hts rfl rfl ⟨Nat.le_of_ble_eq_true rfl, Nat.le_of_ble_eq_true rfl⟩ (tx_code.of (hts _ mw_1353)) (hts _ mw_12) (by decide +kernel) (hts _ mw_1350)) (hts _ mw_1352) (hts _ ms_Mo_setByte) ⟨tz_blind, sv_recv (q0 := 0) hts in_Mo hK hI kM_0 rfl, fun U hU hW => ⟨rfl, by rw [hU], by rw [hU]; exact hI.1, va_K.moved hW.alike hK, hst _ _ hI.2 U hU hW⟩⟩ rfl rfl hl.1 rfl (lv_room (Nat.le_of_ble_eq_true rfl)) d_Mo_parse_53 ⟨Nat.le_of_ble_eq_true rfl, Nat.le_of_ble_eq_true rfl⟩) hI.2 (fun q _ h => ga_sub hAC hA0 hI.2 q h) (ga_sub hAC hA0 hI.2) (fun v t H1 locs1 ht hWt hpost _ _ hS => ?_) (fun x t H1 locs1 ht hWt hpost _ _ hS => (hpost.2 x rfl).elim)
      rcases hpost.1 _ rfl with ⟨t_tr110, hv, c111, c111_0, hI1⟩ | ⟨f_mf112, hv, c113, c113_0, c113_1, c113_2, hI1⟩
      · cases hv
        have hI : sI (dC, dI) vcl cI cJ (gsM a th t_tr110 dp zi co sh t_lt27 ts f_mf77) A s.heap H1 locs1 := ⟨by rw [← ht]; exact hI1, hS⟩
        obtain ⟨-, ⟨o114, o115⟩, -, -, -, -, -, -, -⟩ := id c111
        clear hpost hI1 hS ht hWt
        revert hI; generalize H1 = H; generalize locs1 = locs; intro hI
        refine lv_aload_n hx hb d_Mo_parse_56 rfl (lv_at hl 3 rfl) ?_
        refine lv_iload_n hx hb d_Mo_parse_57 rfl (lv_at hl 5 rfl) ?_
        refine sn_iconst hx hb d_Mo_parse_58 (by decide) (fun z116 hz116 => ?_)
        refine sn_iadd hx hb d_Mo_parse_59 (by omega) (by omega) (fun z117 hz117 => ?_)
        refine sn_iconst hx hb d_Mo_parse_60 (by decide) (fun z118 hz118 => ?_)
        refine lv_iload_n hx hb d_Mo_parse_61 rfl (lv_at hl 6 rfl) ?_
        refine sn_imulL (k := 4) hx hb d_Mo_parse_62 (by omega) (by omega) (by omega) (fun z119 hz119 => ?_)
        refine sn_iadd hx hb d_Mo_parse_63 (by omega) (by omega) (fun z120 hz120 => ?_)
        refine lv_iload hx hb d_Mo_parse_64 (lv_at hl 2 rfl) ?_
        refine sn_iconst hx hb d_Mo_parse_66 (by decide) (fun z121 hz121 => ?_)
        refine sn_iadd hx hb d_Mo_parse_67 (by omega) (by omega) (fun z122 hz122 => ?_)
        refine tz_call (A1 := ga (adM a) H.size) (tz_runV (C := "StoryMachineModel") (As := [.int z120, .int z122]) (rest := []) ⟨hx, hb, hml, hown, hts⟩ (c_Mo_setByte l hfl dC dI cI cJ a H.size th t_tr110 dp zi co sh t_lt27 ts f_mf77 z120 z122 c111) (tx_cb (n := 2) hts rfl rfl ⟨Nat.le_of_ble_eq_true rfl, Nat.le_of_ble_eq_true rfl⟩ (tx_code.of (hts _ mw_1353)) (hts _ mw_12) (by decide +kernel) (hts _ mw_1350)) (hts _ mw_1352) (hts _ ms_Mo_setByte) ⟨tz_blind, sv_recv (q0 := 0) hts in_Mo hK hI kM_0 rfl, fun U hU hW => ⟨rfl, by rw [hU], by rw [hU]; exact hI.1, va_K.moved hW.alike hK, hst _ _ hI.2 U hU hW⟩⟩ rfl rfl hl.1 rfl (lv_room (Nat.le_of_ble_eq_true rfl)) d_Mo_parse_68 ⟨Nat.le_of_ble_eq_true rfl, Nat.le_of_ble_eq_true rfl⟩) hI.2 (fun q _ h => ga_sub hAC hA0 hI.2 q h) (ga_sub hAC hA0 hI.2) (fun v t H1 locs1 ht hWt hpost _ _ hS => ?_) (fun x t H1 locs1 ht hWt hpost _ _ hS => (hpost.2 x rfl).elim)
        rcases hpost.1 _ rfl with ⟨t_tr123, hv, c124, c124_0, hI1⟩ | ⟨f_mf125, hv, c126, c126_0, c126_1, c126_2, hI1⟩
        · cases hv
          have hI : sI (dC, dI) vcl cI cJ (gsM a th t_tr123 dp zi co sh t_lt27 ts f_mf77) A s.heap H1 locs1 := ⟨by rw [← ht]; exact hI1, hS⟩
          obtain ⟨-, ⟨o127, o128⟩, -, -, -, -, -, -, -⟩ := id c124
          clear hpost hI1 hS ht hWt
          revert hI; generalize H1 = H; generalize locs1 = locs; intro hI
          subst hZ
          exact tz_ret (W.vret hx hb hr (fun t ht hW => ⟨⟨fun v9 hv9 => by cases hv9; exact (Or.inl ⟨t_tr123, t_lt27, f_mf77, rfl, c124, by omega, by rw [ht]; exact hI.1⟩), fun x9 hx9 => (by cases hx9)⟩, hI.2.F ht⟩) hI.2.2.2 d_Mo_parse_71)
        · omega
      · cases hv
        have hI : sI (dC, dI) vcl cI cJ (gsM a th tr dp zi co sh t_lt27 ts f_mf112) A s.heap H1 locs1 := ⟨by rw [← ht]; exact hI1, hS⟩
        obtain ⟨-, -, -, -, -, -, -, -, -⟩ := id c113
        clear hpost hI1 hS ht hWt
        revert hI; generalize H1 = H; generalize locs1 = locs; intro hI
        refine lv_aload_n hx hb d_Mo_parse_56 rfl (lv_at hl 3 rfl) ?_
        refine lv_iload_n hx hb d_Mo_parse_57 rfl (lv_at hl 5 rfl) ?_
        refine sn_iconst hx hb d_Mo_parse_58 (by decide) (fun z129 hz129 => ?_)
        refine sn_iadd hx hb d_Mo_parse_59 (by omega) (by omega) (fun z130 hz130 => ?_)
        refine sn_iconst hx hb d_Mo_parse_60 (by decide) (fun z131 hz131 => ?_)
        refine lv_iload_n hx hb d_Mo_parse_61 rfl (lv_at hl 6 rfl) ?_
        refine sn_imulL (k := 4) hx hb d_Mo_parse_62 (by omega) (by omega) (by omega) (fun z132 hz132 => ?_)
        refine sn_iadd hx hb d_Mo_parse_63 (by omega) (by omega) (fun z133 hz133 => ?_)
        refine lv_iload hx hb d_Mo_parse_64 (lv_at hl 2 rfl) ?_
        refine sn_iconst hx hb d_Mo_parse_66 (by decide) (fun z134 hz134 => ?_)
        refine sn_iadd hx hb d_Mo_parse_67 (by omega) (by omega) (fun z135 hz135 => ?_)
        refine tz_call (A1 := ga (adM a) H.size) (tz_runV (C := "StoryMachineModel") (As := [.int z133, .int z135]) (rest := []) ⟨hx, hb, hml, hown, hts⟩ (c_Mo_setByte l hfl dC dI cI cJ a H.size th tr dp zi co sh t_lt27 ts f_mf112 z133 z135 c113) (tx_cb (n := 2) hts rfl rfl ⟨Nat.le_of_ble_eq_true rfl, Nat.le_of_ble_eq_true rfl⟩ (tx_code.of (hts _ mw_1353)) (hts _ mw_12) (by decide +kernel) (hts _ mw_1350)) (hts _ mw_1352) (hts _ ms_Mo_setByte) ⟨tz_blind, sv_recv (q0 := 0) hts in_Mo hK hI kM_0 rfl, fun U hU hW => ⟨rfl, by rw [hU], by rw [hU]; exact hI.1, va_K.moved hW.alike hK, hst _ _ hI.2 U hU hW⟩⟩ rfl rfl hl.1 rfl (lv_room (Nat.le_of_ble_eq_true rfl)) d_Mo_parse_68 ⟨Nat.le_of_ble_eq_true rfl, Nat.le_of_ble_eq_true rfl⟩) hI.2 (fun q _ h => ga_sub hAC hA0 hI.2 q h) (ga_sub hAC hA0 hI.2) (fun v t H1 locs1 ht hWt hpost _ _ hS => ?_) (fun x t H1 locs1 ht hWt hpost _ _ hS => (hpost.2 x rfl).elim)
        rcases hpost.1 _ rfl with ⟨t_tr136, hv, c137, c137_0, hI1⟩ | ⟨f_mf138, hv, c139, c139_0, c139_1, c139_2, hI1⟩
        · cases hv
          have hI : sI (dC, dI) vcl cI cJ (gsM a th t_tr136 dp zi co sh t_lt27 ts f_mf112) A s.heap H1 locs1 := ⟨by rw [← ht]; exact hI1, hS⟩
          obtain ⟨-, ⟨o140, o141⟩, -, -, -, -, -, -, -⟩ := id c137
          clear hpost hI1 hS ht hWt
          revert hI; generalize H1 = H; generalize locs1 = locs; intro hI
          subst hZ
          exact tz_ret (W.vret hx hb hr (fun t ht hW => ⟨⟨fun v9 hv9 => by cases hv9; exact (Or.inl ⟨t_tr136, t_lt27, f_mf112, rfl, c137, by omega, by rw [ht]; exact hI.1⟩), fun x9 hx9 => (by cases hx9)⟩, hI.2.F ht⟩) hI.2.2.2 d_Mo_parse_71)
        · cases hv
          have hI : sI (dC, dI) vcl cI cJ (gsM a th tr dp zi co sh t_lt27 ts f_mf138) A s.heap H1 locs1 := ⟨by rw [← ht]; exact hI1, hS⟩
          obtain ⟨-, -, -, -, -, -, -, -, -⟩ := id c139
          clear hpost hI1 hS ht hWt
          revert hI; generalize H1 = H; generalize locs1 = locs; intro hI
          subst hZ
          exact tz_ret (W.vret hx hb hr (fun t ht hW => ⟨⟨fun v9 hv9 => by cases hv9; exact (Or.inr (⟨t_lt27, f_mf138, rfl, c139, by omega, by rw [ht]; exact hI.1⟩)), fun x9 hx9 => (by cases hx9)⟩, hI.2.F ht⟩) hI.2.2.2 d_Mo_parse_71)
