abbrev q_Mo_readRest (dC : Nat → ClassId) (dI : Nat → Nat → Nat) (cI cJ : ClassId) (a : Nat → Nat) (th tr dp zi co sh lt ts : Int) (mf : Nat → Int32) (x1 : Int32) (x2 : Int32) : Outcome → State → Prop := fun o t => (∀ v, o = .returned v → ((∃ (tr_ : Int), v = none ∧ okM th tr_ dp zi co sh lt ts mf ∧ (1 ≤ tr_) ∧ sh_I (dC, dI) vcl cI cJ (gsM a th tr_ dp zi co sh lt ts mf) t.heap) ∨ (v = none ∧ okM th tr dp zi co sh lt ts mf ∧ (tr ≤ 0) ∧ sh_I (dC, dI) vcl cI cJ (gsM a th tr dp zi co sh lt ts mf) t.heap))) ∧ (∀ x, o = .threw x → (False))
def rm_Mo_readRest : Room := { frames := 3, cells := 0, slots := 0, locals := 63 }
set_option maxHeartbeats 4000000 in
set_option maxRecDepth 100000 in
theorem c_Mo_readRest (l : Launch) (hfl : l.flags = pinnedFlags ++ [noTraceFlag]) (dC : Nat → ClassId) (dI : Nat → Nat → Nat) (cI cJ : ClassId) (a : Nat → Nat) (sz : Nat) (th tr dp zi co sh lt ts : Int) (mf : Nat → Int32) (x1 : Int32) (x2 : Int32) (hok : okM th tr dp zi co sh lt ts mf) : tz_Met l ⟨"StoryMachineModel", "readRest", "(II)V"⟩ tw_tbl rm_Mo_readRest (tzP (dC, dI) vcl cI cJ (gsM a th tr dp zi co sh lt ts mf) a (adM a) [.ref (a 0), .int x1, .int x2] sz) (tq_Q (q_Mo_readRest dC dI cI cJ a th tr dp zi co sh lt ts mf x1 x2) (ga (adM a) sz)) 0 0 0 0 (ga (adM a) sz) := by
  refine tz_ofW (cc := prog_13_method_43_code) (maxL := 5) (ret := none) (by decide) (tx_isM mw_1274) ?_
  intro p e s m args below meth c s₁ B hml hv
  obtain ⟨rfl, hsz, hI0, hK, hst0⟩ := hv
  have hx := B.exec
  have hb := B.bytes
  have hr := B.returns
  have hts := atoms_spec (ws := tw_tbl) B.pre
  have hown : s.vm.findClass "StoryMachineModel" = some m.cls := findClass_of_methodNamed B.named
  have hlocks := B.notSynchronized
  subst hsz
  have hst := fun (H : Heap) (locs : List Loc) (hS : va_S (ga (adM a) s.heap.size) s.heap H locs) (U : State) (hU : U.heap = H) (hW : s.WarmedH U.vm) => zS_all adM_map hI0 hst0 hS hU hW
  have hAC : ∀ q ∈ adM a, ga (adM a) s.heap.size q := fun q h => Or.inl h
  have hA0 : ∀ q, s.heap.size ≤ q → ga (adM a) s.heap.size q := fun q h => Or.inr h
  have hI : sI (dC, dI) vcl cI cJ (gsM a th tr dp zi co sh lt ts mf) (ga (adM a) s.heap.size) s.heap s.heap [] := ⟨hI0, va_S.rf⟩
  clear hI0 hst0
  have hl := lv_entry ([.ref (a 0), .int x1, .int x2]) (n := 5) (Nat.le_of_ble_eq_true rfl)
  rw [lg_entry_eq]
  generalize (lg_sl ([.ref (a 0), .int x1, .int x2]) ++ List.replicate (5 - (lg_sl ([.ref (a 0), .int x1, .int x2])).length) Slot.unset).toArray = ls at hl ⊢
  have hl : lv_has ls 5 [(0, .ref (a 0)), (1, .int x1), (2, .int x2)] := hl
  generalize hZ : tz_MQ below (tq_Q (q_Mo_readRest dC dI cI cJ a th tr dp zi co sh lt ts mf x1 x2) (ga (adM a) s.heap.size)) ([.ref (a 0), .int x1, .int x2] : List Value).toArray s 0 0 0 0 (ga (adM a) s.heap.size) = Z
  obtain ⟨A, hAe⟩ : ∃ A, A = ga (adM a) s.heap.size := ⟨_, rfl⟩
  rw [← hAe] at hst hAC hA0 hI hZ
  refine sv_start hI (fun H locs hI => ?_)
  obtain ⟨⟨o1, o2⟩, ⟨o3, o4⟩, ⟨o5, o6⟩, ⟨o7, o8⟩, ⟨o9, o10⟩, ⟨o11, o12⟩, ⟨o13, o14⟩, ⟨o15, o16⟩, -⟩ := id hok
  have gx1 := sn_rng x1
  have gx2 := sn_rng x2
  have j113p : ∀ (H : Heap) (locs : List Loc) (ls : Array Slot) (t113p_tr : Int), sI (dC, dI) vcl cI cJ (gsM a th t113p_tr dp zi co sh lt ts mf) A s.heap H locs → okM th t113p_tr dp zi co sh lt ts mf → 1 ≤ t113p_tr → t113p_tr ≤ 4 → lv_has ls 5 [(0, .ref (a 0)), (1, .int x1), (2, .int x2)] → W p l e (headSpec tw_tbl rm_Mo_readRest).room s m ([.ref (a 0), .int x1, .int x2] : List Value).toArray below meth c H locs 0 0 Z (F0 m 113 ls []) := by
    intro H locs ls t113p_tr hI hok g113_0 g113_1 hl
    obtain ⟨⟨o17, o18⟩, ⟨o19, o20⟩, ⟨o21, o22⟩, ⟨o23, o24⟩, ⟨o25, o26⟩, ⟨o27, o28⟩, ⟨o29, o30⟩, ⟨o31, o32⟩, -⟩ := id hok
    refine lv_aload_n hx hb d_Mo_readRest_113 rfl (lv_at hl 0 rfl) ?_
    refine lv_aload_n hx hb d_Mo_readRest_114 rfl (lv_at hl 0 rfl) ?_
    refine sv_get (C := "StoryMachineModel") (T := T_Mo) (N := 51) hx hb hts in_Mo hown hK hI 0 kM_0 rfl 28 (by decide) (hts _ mw_1091) rfl d_Mo_readRest_115 (fun z33 hz33a hz33b => ?_)
    refine sv_put (C := "StoryMachineModel") (T := T_Mo) (N := 51) (ty := .int) hx hb hts in_Mo t_Mo tk_Mo nm_Mo hown hK (sh_in adM_map hAC) hI 0 kM_0 rfl 43 (by decide) (hts _ mw_1106) rfl (by decide +kernel) rfl rfl (Nat.le_of_ble_eq_true rfl) (by omega) (by omega) pM_0_43 d_Mo_readRest_118 (fun H locs hI => ?_)
    subst hZ
    exact tz_ret (W.vret hx hb hr (fun t ht hW => ⟨⟨fun v9 hv9 => by cases hv9; exact (Or.inl ⟨t113p_tr, rfl, hok, by omega, by rw [ht]; exact hI.1⟩), fun x9 hx9 => (by cases hx9)⟩, hI.2.F ht⟩) hI.2.2.2 d_Mo_readRest_121)
  have j113z : ∀ (H : Heap) (locs : List Loc) (ls : Array Slot), sI (dC, dI) vcl cI cJ (gsM a th tr dp zi co sh lt ts mf) A s.heap H locs → okM th tr dp zi co sh lt ts mf → tr ≤ 0 → lv_has ls 5 [(0, .ref (a 0)), (1, .int x1), (2, .int x2)] → W p l e (headSpec tw_tbl rm_Mo_readRest).room s m ([.ref (a 0), .int x1, .int x2] : List Value).toArray below meth c H locs 0 0 Z (F0 m 113 ls []) := by
    intro H locs ls hI hok g113_0 hl
    obtain ⟨⟨o34, o35⟩, ⟨o36, o37⟩, ⟨o38, o39⟩, ⟨o40, o41⟩, ⟨o42, o43⟩, ⟨o44, o45⟩, ⟨o46, o47⟩, ⟨o48, o49⟩, -⟩ := id hok
    refine lv_aload_n hx hb d_Mo_readRest_113 rfl (lv_at hl 0 rfl) ?_
    refine lv_aload_n hx hb d_Mo_readRest_114 rfl (lv_at hl 0 rfl) ?_
    refine sv_get (C := "StoryMachineModel") (T := T_Mo) (N := 51) hx hb hts in_Mo hown hK hI 0 kM_0 rfl 28 (by decide) (hts _ mw_1091) rfl d_Mo_readRest_115 (fun z50 hz50a hz50b => ?_)
    refine sv_put (C := "StoryMachineModel") (T := T_Mo) (N := 51) (ty := .int) hx hb hts in_Mo t_Mo tk_Mo nm_Mo hown hK (sh_in adM_map hAC) hI 0 kM_0 rfl 43 (by decide) (hts _ mw_1106) rfl (by decide +kernel) rfl rfl (Nat.le_of_ble_eq_true rfl) (by omega) (by omega) pM_0_43 d_Mo_readRest_118 (fun H locs hI => ?_)
    subst hZ
    exact tz_ret (W.vret hx hb hr (fun t ht hW => ⟨⟨fun v9 hv9 => by cases hv9; exact (Or.inr (⟨rfl, hok, by omega, by rw [ht]; exact hI.1⟩)), fun x9 hx9 => (by cases hx9)⟩, hI.2.F ht⟩) hI.2.2.2 d_Mo_readRest_121)
  have j107p : ∀ (H : Heap) (locs : List Loc) (ls : Array Slot) (v107p_3 v107p_4 : Int32) (t107p_tr : Int), sI (dC, dI) vcl cI cJ (gsM a th t107p_tr dp zi co sh lt ts mf) A s.heap H locs → okM th t107p_tr dp zi co sh lt ts mf → 0 ≤ v107p_3.toInt → v107p_3.toInt ≤ 255 → (-8192) ≤ v107p_4.toInt → v107p_4.toInt ≤ 8191 → 1 ≤ t107p_tr → t107p_tr ≤ 4 → tr ≤ 0 → 0 ≤ x1.toInt → x1.toInt ≤ 2 → x2.toInt ≤ 10 → lv_has ls 5 [(0, .ref (a 0)), (1, .int x1), (2, .int x2), (3, .int v107p_3), (4, .int v107p_4)] → W p l e (headSpec tw_tbl rm_Mo_readRest).room s m ([.ref (a 0), .int x1, .int x2] : List Value).toArray below meth c H locs 0 0 Z (F0 m 107 ls []) := by
    intro H locs ls v107p_3 v107p_4 t107p_tr hI hok g107_0 g107_1 g107_2 g107_3 g107_4 g107_5 g107_6 g107_7 g107_8 g107_9 hl
    obtain ⟨⟨o51, o52⟩, ⟨o53, o54⟩, ⟨o55, o56⟩, ⟨o57, o58⟩, ⟨o59, o60⟩, ⟨o61, o62⟩, ⟨o63, o64⟩, ⟨o65, o66⟩, -⟩ := id hok
    refine lv_aload_n hx hb d_Mo_readRest_107 rfl (lv_at hl 0 rfl) ?_
    refine lv_iload hx hb d_Mo_readRest_108 (lv_at hl 4 rfl) ?_
    refine sv_put (C := "StoryMachineModel") (T := T_Mo) (N := 51) (ty := .int) hx hb hts in_Mo t_Mo tk_Mo nm_Mo hown hK (sh_in adM_map hAC) hI 0 kM_0 rfl 42 (by decide) (hts _ mw_1105) rfl (by decide +kernel) rfl rfl (Nat.le_of_ble_eq_true rfl) (by omega) (by omega) pM_0_42 d_Mo_readRest_110 (fun H locs hI => ?_)
    exact j113p _ _ _ t107p_tr hI hok (by omega) (by omega) (lv_sub hl [0, 1, 2] rfl)
  have j107z : ∀ (H : Heap) (locs : List Loc) (ls : Array Slot) (v107z_3 v107z_4 : Int32), sI (dC, dI) vcl cI cJ (gsM a th tr dp zi co sh lt ts mf) A s.heap H locs → okM th tr dp zi co sh lt ts mf → 0 ≤ v107z_3.toInt → v107z_3.toInt ≤ 255 → (-8192) ≤ v107z_4.toInt → v107z_4.toInt ≤ 8191 → tr ≤ 0 → 0 ≤ x1.toInt → x1.toInt ≤ 2 → x2.toInt ≤ 10 → lv_has ls 5 [(0, .ref (a 0)), (1, .int x1), (2, .int x2), (3, .int v107z_3), (4, .int v107z_4)] → W p l e (headSpec tw_tbl rm_Mo_readRest).room s m ([.ref (a 0), .int x1, .int x2] : List Value).toArray below meth c H locs 0 0 Z (F0 m 107 ls []) := by
    intro H locs ls v107z_3 v107z_4 hI hok g107_0 g107_1 g107_2 g107_3 g107_4 g107_5 g107_6 g107_7 hl
    obtain ⟨⟨o67, o68⟩, ⟨o69, o70⟩, ⟨o71, o72⟩, ⟨o73, o74⟩, ⟨o75, o76⟩, ⟨o77, o78⟩, ⟨o79, o80⟩, ⟨o81, o82⟩, -⟩ := id hok
    refine lv_aload_n hx hb d_Mo_readRest_107 rfl (lv_at hl 0 rfl) ?_
    refine lv_iload hx hb d_Mo_readRest_108 (lv_at hl 4 rfl) ?_
    refine sv_put (C := "StoryMachineModel") (T := T_Mo) (N := 51) (ty := .int) hx hb hts in_Mo t_Mo tk_Mo nm_Mo hown hK (sh_in adM_map hAC) hI 0 kM_0 rfl 42 (by decide) (hts _ mw_1105) rfl (by decide +kernel) rfl rfl (Nat.le_of_ble_eq_true rfl) (by omega) (by omega) pM_0_42 d_Mo_readRest_110 (fun H locs hI => ?_)
    exact j113z _ _ _  hI hok (by omega) (lv_sub hl [0, 1, 2] rfl)
  have j16u : ∀ (H : Heap) (locs : List Loc) (ls : Array Slot), sI (dC, dI) vcl cI cJ (gsM a th tr dp zi co sh lt ts mf) A s.heap H locs → okM th tr dp zi co sh lt ts mf → lv_has ls 5 [(0, .ref (a 0)), (1, .int x1), (2, .int x2)] → W p l e (headSpec tw_tbl rm_Mo_readRest).room s m ([.ref (a 0), .int x1, .int x2] : List Value).toArray below meth c H locs 0 0 Z (F0 m 16 ls []) := by
    intro H locs ls hI hok hl
    obtain ⟨⟨o83, o84⟩, ⟨o85, o86⟩, ⟨o87, o88⟩, ⟨o89, o90⟩, ⟨o91, o92⟩, ⟨o93, o94⟩, ⟨o95, o96⟩, ⟨o97, o98⟩, -⟩ := id hok
    refine lv_aload_n hx hb d_Mo_readRest_16 rfl (lv_at hl 0 rfl) ?_
    refine sv_gete (C := "StoryMachineModel") (T := T_Mo) (N := 51) hx hb hts in_Mo hown hK hI 0 kM_0 rfl 25 (by decide) (hts _ mw_1088) rfl d_Mo_readRest_17 (fun z99 hz99 => ?_)
    refine sn_if_ne (tgt := 113) hx hb d_Mo_readRest_20 (by decide) (fun b100 => ?_) (fun b100 => ?_)
    · exact j113p _ _ _ tr hI hok (by omega) (by omega) (lv_sub hl [0, 1, 2] rfl)
    · refine lv_iload_n hx hb d_Mo_readRest_23 rfl (lv_at hl 1 rfl) ?_
      refine lv_iload_n hx hb d_Mo_readRest_24 rfl (lv_at hl 2 rfl) ?_
      refine tz_call (A1 := ga (adM a) H.size) (tz_runS (As := [.int x1, .int x2]) (rest := []) ⟨hx, hb, hml, hown, hts⟩ (c_Mo_asks l hfl dC dI cI cJ a H.size th tr dp zi co sh lt ts mf x1 x2 hok) (tx_cb (n := 2) hts rfl rfl ⟨Nat.le_of_ble_eq_true rfl, Nat.le_of_ble_eq_true rfl⟩ (tx_code.of (hts _ mw_1280)) (hts _ mw_12) (by decide +kernel) (hts _ mw_1278)) (hts _ mw_1279) ⟨tz_blind, fun U hU hW => ⟨rfl, by rw [hU], by rw [hU]; exact hI.1, va_K.moved hW.alike hK, hst _ _ hI.2 U hU hW⟩⟩ rfl rfl hl.1 rfl (lv_room (Nat.le_of_ble_eq_true rfl)) d_Mo_readRest_25 ⟨Nat.le_of_ble_eq_true rfl, Nat.le_of_ble_eq_true rfl⟩) hI.2 (fun q _ h => ga_sub hAC hA0 hI.2 q h) (ga_sub hAC hA0 hI.2) (fun v t H1 locs1 ht hWt hpost _ _ hS => ?_) (fun x t H1 locs1 ht hWt hpost _ _ hS => (hpost.2 x rfl).elim)
      rcases hpost.1 _ rfl with ⟨z101, hv, c102, c102_0, c102_1, hI1⟩ | ⟨z103, hv, c104, c104_0, c104_1, c104_2, c104_3, c104_4, hI1⟩
      · cases hv
        have hI : sI (dC, dI) vcl cI cJ (gsM a th tr dp zi co sh lt ts mf) A s.heap H1 locs1 := ⟨by rw [← ht]; exact hI1, hS⟩
        clear hpost hI1 hS ht hWt
        revert hI; generalize H1 = H; generalize locs1 = locs; intro hI
        refine sn_if_eq (tgt := 113) hx hb d_Mo_readRest_28 (by decide) (fun b105 => ?_) (fun b105 => ?_)
        · exact j113z _ _ _  hI c102 (by omega) (lv_sub hl [0, 1, 2] rfl)
        · omega
      · cases hv
        have hI : sI (dC, dI) vcl cI cJ (gsM a th tr dp zi co sh lt ts mf) A s.heap H1 locs1 := ⟨by rw [← ht]; exact hI1, hS⟩
        clear hpost hI1 hS ht hWt
        revert hI; generalize H1 = H; generalize locs1 = locs; intro hI
        refine sn_if_eq (tgt := 113) hx hb d_Mo_readRest_28 (by decide) (fun b106 => ?_) (fun b106 => ?_)
        · omega
        · refine lv_aload_n hx hb d_Mo_readRest_31 rfl (lv_at hl 0 rfl) ?_
          refine tz_call (A1 := ga (adM a) H.size) (tz_runV (C := "StoryMachineModel") (As := []) (rest := []) ⟨hx, hb, hml, hown, hts⟩ (c_Mo_code l hfl dC dI cI cJ a H.size th tr dp zi co sh lt ts mf  c104) (tx_cb (n := 0) hts rfl rfl ⟨Nat.le_of_ble_eq_true rfl, Nat.le_of_ble_eq_true rfl⟩ (tx_code.of (hts _ mw_1232)) (hts _ mw_12) (by decide +kernel) (hts _ mw_1229)) (hts _ mw_1231) (hts _ ms_Mo_code) ⟨tz_blind, sv_recv (q0 := 0) hts in_Mo hK hI kM_0 rfl, fun U hU hW => ⟨rfl, by rw [hU], by rw [hU]; exact hI.1, va_K.moved hW.alike hK, hst _ _ hI.2 U hU hW⟩⟩ rfl rfl hl.1 rfl (lv_room (Nat.le_of_ble_eq_true rfl)) d_Mo_readRest_32 ⟨Nat.le_of_ble_eq_true rfl, Nat.le_of_ble_eq_true rfl⟩) hI.2 (fun q _ h => ga_sub hAC hA0 hI.2 q h) (ga_sub hAC hA0 hI.2) (fun v t H1 locs1 ht hWt hpost _ _ hS => ?_) (fun x t H1 locs1 ht hWt hpost _ _ hS => (hpost.2 x rfl).elim)
          rcases hpost.1 _ rfl with ⟨z107, t_tr108, hv, c109, c109_0, c109_1, c109_2, hI1⟩ | ⟨z110, hv, c111, c111_0, c111_1, c111_2, hI1⟩
          · cases hv
            have hI : sI (dC, dI) vcl cI cJ (gsM a th t_tr108 dp zi co sh lt ts mf) A s.heap H1 locs1 := ⟨by rw [← ht]; exact hI1, hS⟩
            obtain ⟨-, ⟨o112, o113⟩, -, -, -, -, -, -, -⟩ := id c109
            clear hpost hI1 hS ht hWt
            revert hI; generalize H1 = H; generalize locs1 = locs; intro hI
            refine lv_istore_n (lv' := [(3, .int z107), (0, .ref (a 0)), (1, .int x1), (2, .int x2)]) hx hb d_Mo_readRest_35 rfl hl (by decide) rfl (fun ls hl => ?_)
            refine lv_aload_n hx hb d_Mo_readRest_36 rfl (lv_at hl 1 rfl) ?_
            refine lv_iload_n hx hb d_Mo_readRest_37 rfl (lv_at hl 0 rfl) ?_
            refine sn_bipush hx hb d_Mo_readRest_38 (by decide) (fun z114 hz114 => ?_)
            refine sn_icmp_le (tgt := 47) hx hb d_Mo_readRest_40 (by decide) (fun b115 => ?_) (fun b115 => ?_)
            · refine sn_iconst hx hb d_Mo_readRest_47 (by decide) (fun z116 hz116 => ?_)
              refine sv_put (C := "StoryMachineModel") (T := T_Mo) (N := 51) (ty := .boolean) hx hb hts in_Mo t_Mo tk_Mo nm_Mo hown hK (sh_in adM_map hAC) hI 0 kM_0 rfl 41 (by decide) (hts _ mw_1104) rfl (by decide +kernel) (sn_bool (by omega) (by omega)).1 (sn_bool (by omega) (by omega)).2 (Nat.le_of_ble_eq_true rfl) (by omega) (by omega) pM_0_41 d_Mo_readRest_48 (fun H locs hI => ?_)
              refine lv_iload_n hx hb d_Mo_readRest_51 rfl (lv_at hl 0 rfl) ?_
              refine sn_bipush hx hb d_Mo_readRest_52 (by decide) (fun z117 hz117 => ?_)
              refine sn_irem (k := 64) hx hb d_Mo_readRest_54 (by omega) (by omega) (by omega) (fun z118 hz118 => ?_)
              refine lv_istore (lv' := [(4, .int z118), (3, .int z107), (0, .ref (a 0)), (1, .int x1), (2, .int x2)]) hx hb d_Mo_readRest_55 hl (by decide) rfl (fun ls hl => ?_)
              refine lv_iload_n hx hb d_Mo_readRest_57 rfl (lv_at hl 1 rfl) ?_
              refine sn_bipush hx hb d_Mo_readRest_58 (by decide) (fun z119 hz119 => ?_)
              refine sn_idiv (k := 64) hx hb d_Mo_readRest_60 (by omega) (by omega) (by omega) (fun z120 hz120 => ?_)
              refine sn_iconst hx hb d_Mo_readRest_61 (by decide) (fun z121 hz121 => ?_)
              refine sn_irem (k := 2) hx hb d_Mo_readRest_62 (by omega) (by omega) (by omega) (fun z122 hz122 => ?_)
              refine sn_if_ne (tgt := 107) hx hb d_Mo_readRest_63 (by decide) (fun b123 => ?_) (fun b123 => ?_)
              · omega
              · refine lv_aload_n hx hb d_Mo_readRest_66 rfl (lv_at hl 2 rfl) ?_
                refine sv_gete (C := "StoryMachineModel") (T := T_Mo) (N := 51) hx hb hts in_Mo hown hK hI 0 kM_0 rfl 25 (by decide) (hts _ mw_1088) rfl d_Mo_readRest_67 (fun z124 hz124 => ?_)
                refine sn_if_ne (tgt := 107) hx hb d_Mo_readRest_70 (by decide) (fun b125 => ?_) (fun b125 => ?_)
                · exact j107p _ _ _ z107 z118 t_tr108 hI c109 (by omega) (by omega) (by omega) (by omega) (by omega) (by omega) (by omega) (by omega) (by omega) (by omega) (lv_sub hl [2, 3, 4, 1, 0] rfl)
                · omega
            · omega
          · cases hv
            have hI : sI (dC, dI) vcl cI cJ (gsM a th tr dp zi co sh lt ts mf) A s.heap H1 locs1 := ⟨by rw [← ht]; exact hI1, hS⟩
            clear hpost hI1 hS ht hWt
            revert hI; generalize H1 = H; generalize locs1 = locs; intro hI
            refine lv_istore_n (lv' := [(3, .int z110), (0, .ref (a 0)), (1, .int x1), (2, .int x2)]) hx hb d_Mo_readRest_35 rfl hl (by decide) rfl (fun ls hl => ?_)
            refine lv_aload_n hx hb d_Mo_readRest_36 rfl (lv_at hl 1 rfl) ?_
            refine lv_iload_n hx hb d_Mo_readRest_37 rfl (lv_at hl 0 rfl) ?_
            refine sn_bipush hx hb d_Mo_readRest_38 (by decide) (fun z126 hz126 => ?_)
            refine sn_icmp_le (tgt := 47) hx hb d_Mo_readRest_40 (by decide) (fun b127 => ?_) (fun b127 => ?_)
            · refine sn_iconst hx hb d_Mo_readRest_47 (by decide) (fun z128 hz128 => ?_)
              refine sv_put (C := "StoryMachineModel") (T := T_Mo) (N := 51) (ty := .boolean) hx hb hts in_Mo t_Mo tk_Mo nm_Mo hown hK (sh_in adM_map hAC) hI 0 kM_0 rfl 41 (by decide) (hts _ mw_1104) rfl (by decide +kernel) (sn_bool (by omega) (by omega)).1 (sn_bool (by omega) (by omega)).2 (Nat.le_of_ble_eq_true rfl) (by omega) (by omega) pM_0_41 d_Mo_readRest_48 (fun H locs hI => ?_)
              refine lv_iload_n hx hb d_Mo_readRest_51 rfl (lv_at hl 0 rfl) ?_
              refine sn_bipush hx hb d_Mo_readRest_52 (by decide) (fun z129 hz129 => ?_)
              refine sn_irem (k := 64) hx hb d_Mo_readRest_54 (by omega) (by omega) (by omega) (fun z130 hz130 => ?_)
              refine lv_istore (lv' := [(4, .int z130), (3, .int z110), (0, .ref (a 0)), (1, .int x1), (2, .int x2)]) hx hb d_Mo_readRest_55 hl (by decide) rfl (fun ls hl => ?_)
              refine lv_iload_n hx hb d_Mo_readRest_57 rfl (lv_at hl 1 rfl) ?_
              refine sn_bipush hx hb d_Mo_readRest_58 (by decide) (fun z131 hz131 => ?_)
              refine sn_idiv (k := 64) hx hb d_Mo_readRest_60 (by omega) (by omega) (by omega) (fun z132 hz132 => ?_)
              refine sn_iconst hx hb d_Mo_readRest_61 (by decide) (fun z133 hz133 => ?_)
              refine sn_irem (k := 2) hx hb d_Mo_readRest_62 (by omega) (by omega) (by omega) (fun z134 hz134 => ?_)
              refine sn_if_ne (tgt := 107) hx hb d_Mo_readRest_63 (by decide) (fun b135 => ?_) (fun b135 => ?_)
              · exact j107z _ _ _ z110 z130 hI c111 (by omega) (by omega) (by omega) (by omega) (by omega) (by omega) (by omega) (by omega) (lv_sub hl [2, 3, 4, 1, 0] rfl)
              · refine lv_aload_n hx hb d_Mo_readRest_66 rfl (lv_at hl 2 rfl) ?_
                refine sv_gete (C := "StoryMachineModel") (T := T_Mo) (N := 51) hx hb hts in_Mo hown hK hI 0 kM_0 rfl 25 (by decide) (hts _ mw_1088) rfl d_Mo_readRest_67 (fun z136 hz136 => ?_)
                refine sn_if_ne (tgt := 107) hx hb d_Mo_readRest_70 (by decide) (fun b137 => ?_) (fun b137 => ?_)
                · omega
                · refine sn_sipush hx hb d_Mo_readRest_73 (by decide) (fun z138 hz138 => ?_)
                  refine lv_iload hx hb d_Mo_readRest_76 (lv_at hl 0 rfl) ?_
                  refine sn_imulL (k := 256) hx hb d_Mo_readRest_78 (by omega) (by omega) (by omega) (fun z139 hz139 => ?_)
                  refine lv_aload_n hx hb d_Mo_readRest_79 rfl (lv_at hl 2 rfl) ?_
                  refine tz_call (A1 := ga (adM a) H.size) (tz_runV (C := "StoryMachineModel") (As := []) (rest := [.int z139]) ⟨hx, hb, hml, hown, hts⟩ (c_Mo_code l hfl dC dI cI cJ a H.size th tr dp zi co sh lt ts mf  c111) (tx_cb (n := 0) hts rfl rfl ⟨Nat.le_of_ble_eq_true rfl, Nat.le_of_ble_eq_true rfl⟩ (tx_code.of (hts _ mw_1232)) (hts _ mw_12) (by decide +kernel) (hts _ mw_1229)) (hts _ mw_1231) (hts _ ms_Mo_code) ⟨tz_blind, sv_recv (q0 := 0) hts in_Mo hK hI kM_0 rfl, fun U hU hW => ⟨rfl, by rw [hU], by rw [hU]; exact hI.1, va_K.moved hW.alike hK, hst _ _ hI.2 U hU hW⟩⟩ rfl rfl hl.1 rfl (lv_room (Nat.le_of_ble_eq_true rfl)) d_Mo_readRest_80 ⟨Nat.le_of_ble_eq_true rfl, Nat.le_of_ble_eq_true rfl⟩) hI.2 (fun q _ h => ga_sub hAC hA0 hI.2 q h) (ga_sub hAC hA0 hI.2) (fun v t H1 locs1 ht hWt hpost _ _ hS => ?_) (fun x t H1 locs1 ht hWt hpost _ _ hS => (hpost.2 x rfl).elim)
                  rcases hpost.1 _ rfl with ⟨z140, t_tr141, hv, c142, c142_0, c142_1, c142_2, hI1⟩ | ⟨z143, hv, c144, c144_0, c144_1, c144_2, hI1⟩
                  · cases hv
                    have hI : sI (dC, dI) vcl cI cJ (gsM a th t_tr141 dp zi co sh lt ts mf) A s.heap H1 locs1 := ⟨by rw [← ht]; exact hI1, hS⟩
                    obtain ⟨-, ⟨o145, o146⟩, -, -, -, -, -, -, -⟩ := id c142
                    clear hpost hI1 hS ht hWt
                    revert hI; generalize H1 = H; generalize locs1 = locs; intro hI
                    refine sn_iadd hx hb d_Mo_readRest_83 (by omega) (by omega) (fun z147 hz147 => ?_)
                    refine lv_istore (lv' := [(4, .int z147), (3, .int z110), (0, .ref (a 0)), (1, .int x1), (2, .int x2)]) hx hb d_Mo_readRest_84 hl (by decide) rfl (fun ls hl => ?_)
                    refine lv_iload hx hb d_Mo_readRest_86 (lv_at hl 0 rfl) ?_
                    refine sn_sipush hx hb d_Mo_readRest_88 (by decide) (fun z148 hz148 => ?_)
                    refine sn_icmp_le (tgt := 103) hx hb d_Mo_readRest_91 (by decide) (fun b149 => ?_) (fun b149 => ?_)
                    · refine lv_iload hx hb d_Mo_readRest_103 (lv_at hl 0 rfl) ?_
                      refine lv_istore (lv' := [(4, .int z147), (3, .int z110), (0, .ref (a 0)), (1, .int x1), (2, .int x2)]) hx hb d_Mo_readRest_105 hl (by decide) rfl (fun ls hl => ?_)
                      exact j107p _ _ _ z110 z147 t_tr141 hI c142 (by omega) (by omega) (by omega) (by omega) (by omega) (by omega) (by omega) (by omega) (by omega) (by omega) (lv_sub hl [2, 3, 4, 1, 0] rfl)
                    · refine lv_iload hx hb d_Mo_readRest_94 (lv_at hl 0 rfl) ?_
                      refine sn_sipush hx hb d_Mo_readRest_96 (by decide) (fun z150 hz150 => ?_)
                      refine sn_isub hx hb d_Mo_readRest_99 (by omega) (by omega) (fun z151 hz151 => ?_)
                      refine lv_goto (tgt := 105) hx hb d_Mo_readRest_100 (by decide) ?_
                      refine lv_istore (lv' := [(4, .int z151), (3, .int z110), (0, .ref (a 0)), (1, .int x1), (2, .int x2)]) hx hb d_Mo_readRest_105 hl (by decide) rfl (fun ls hl => ?_)
                      exact j107p _ _ _ z110 z151 t_tr141 hI c142 (by omega) (by omega) (by omega) (by omega) (by omega) (by omega) (by omega) (by omega) (by omega) (by omega) (lv_sub hl [2, 3, 4, 1, 0] rfl)
                  · cases hv
                    have hI : sI (dC, dI) vcl cI cJ (gsM a th tr dp zi co sh lt ts mf) A s.heap H1 locs1 := ⟨by rw [← ht]; exact hI1, hS⟩
                    clear hpost hI1 hS ht hWt
                    revert hI; generalize H1 = H; generalize locs1 = locs; intro hI
                    refine sn_iadd hx hb d_Mo_readRest_83 (by omega) (by omega) (fun z152 hz152 => ?_)
                    refine lv_istore (lv' := [(4, .int z152), (3, .int z110), (0, .ref (a 0)), (1, .int x1), (2, .int x2)]) hx hb d_Mo_readRest_84 hl (by decide) rfl (fun ls hl => ?_)
                    refine lv_iload hx hb d_Mo_readRest_86 (lv_at hl 0 rfl) ?_
                    refine sn_sipush hx hb d_Mo_readRest_88 (by decide) (fun z153 hz153 => ?_)
                    refine sn_icmp_le (tgt := 103) hx hb d_Mo_readRest_91 (by decide) (fun b154 => ?_) (fun b154 => ?_)
                    · refine lv_iload hx hb d_Mo_readRest_103 (lv_at hl 0 rfl) ?_
                      refine lv_istore (lv' := [(4, .int z152), (3, .int z110), (0, .ref (a 0)), (1, .int x1), (2, .int x2)]) hx hb d_Mo_readRest_105 hl (by decide) rfl (fun ls hl => ?_)
                      exact j107z _ _ _ z110 z152 hI c144 (by omega) (by omega) (by omega) (by omega) (by omega) (by omega) (by omega) (by omega) (lv_sub hl [2, 3, 4, 1, 0] rfl)
                    · refine lv_iload hx hb d_Mo_readRest_94 (lv_at hl 0 rfl) ?_
                      refine sn_sipush hx hb d_Mo_readRest_96 (by decide) (fun z155 hz155 => ?_)
                      refine sn_isub hx hb d_Mo_readRest_99 (by omega) (by omega) (fun z156 hz156 => ?_)
                      refine lv_goto (tgt := 105) hx hb d_Mo_readRest_100 (by decide) ?_
                      refine lv_istore (lv' := [(4, .int z156), (3, .int z110), (0, .ref (a 0)), (1, .int x1), (2, .int x2)]) hx hb d_Mo_readRest_105 hl (by decide) rfl (fun ls hl => ?_)
                      exact j107z _ _ _ z110 z156 hI c144 (by omega) (by omega) (by omega) (by omega) (by omega) (by omega) (by omega) (by omega) (lv_sub hl [2, 3, 4, 1, 0] rfl)
            · refine sn_iconst hx hb d_Mo_readRest_43 (by decide) (fun z157 hz157 => ?_)
              refine lv_goto (tgt := 48) hx hb d_Mo_readRest_44 (by decide) ?_
              refine sv_put (C := "StoryMachineModel") (T := T_Mo) (N := 51) (ty := .boolean) hx hb hts in_Mo t_Mo tk_Mo nm_Mo hown hK (sh_in adM_map hAC) hI 0 kM_0 rfl 41 (by decide) (hts _ mw_1104) rfl (by decide +kernel) (sn_bool (by omega) (by omega)).1 (sn_bool (by omega) (by omega)).2 (Nat.le_of_ble_eq_true rfl) (by omega) (by omega) pM_0_41 d_Mo_readRest_48 (fun H locs hI => ?_)
              refine lv_iload_n hx hb d_Mo_readRest_51 rfl (lv_at hl 0 rfl) ?_
              refine sn_bipush hx hb d_Mo_readRest_52 (by decide) (fun z158 hz158 => ?_)
              refine sn_irem (k := 64) hx hb d_Mo_readRest_54 (by omega) (by omega) (by omega) (fun z159 hz159 => ?_)
              refine lv_istore (lv' := [(4, .int z159), (3, .int z110), (0, .ref (a 0)), (1, .int x1), (2, .int x2)]) hx hb d_Mo_readRest_55 hl (by decide) rfl (fun ls hl => ?_)
              refine lv_iload_n hx hb d_Mo_readRest_57 rfl (lv_at hl 1 rfl) ?_
              refine sn_bipush hx hb d_Mo_readRest_58 (by decide) (fun z160 hz160 => ?_)
              refine sn_idiv (k := 64) hx hb d_Mo_readRest_60 (by omega) (by omega) (by omega) (fun z161 hz161 => ?_)
              refine sn_iconst hx hb d_Mo_readRest_61 (by decide) (fun z162 hz162 => ?_)
              refine sn_irem (k := 2) hx hb d_Mo_readRest_62 (by omega) (by omega) (by omega) (fun z163 hz163 => ?_)
              refine sn_if_ne (tgt := 107) hx hb d_Mo_readRest_63 (by decide) (fun b164 => ?_) (fun b164 => ?_)
              · exact j107z _ _ _ z110 z159 hI c111 (by omega) (by omega) (by omega) (by omega) (by omega) (by omega) (by omega) (by omega) (lv_sub hl [2, 3, 4, 1, 0] rfl)
              · refine lv_aload_n hx hb d_Mo_readRest_66 rfl (lv_at hl 2 rfl) ?_
                refine sv_gete (C := "StoryMachineModel") (T := T_Mo) (N := 51) hx hb hts in_Mo hown hK hI 0 kM_0 rfl 25 (by decide) (hts _ mw_1088) rfl d_Mo_readRest_67 (fun z165 hz165 => ?_)
                refine sn_if_ne (tgt := 107) hx hb d_Mo_readRest_70 (by decide) (fun b166 => ?_) (fun b166 => ?_)
                · omega
                · refine sn_sipush hx hb d_Mo_readRest_73 (by decide) (fun z167 hz167 => ?_)
                  refine lv_iload hx hb d_Mo_readRest_76 (lv_at hl 0 rfl) ?_
                  refine sn_imulL (k := 256) hx hb d_Mo_readRest_78 (by omega) (by omega) (by omega) (fun z168 hz168 => ?_)
                  refine lv_aload_n hx hb d_Mo_readRest_79 rfl (lv_at hl 2 rfl) ?_
                  refine tz_call (A1 := ga (adM a) H.size) (tz_runV (C := "StoryMachineModel") (As := []) (rest := [.int z168]) ⟨hx, hb, hml, hown, hts⟩ (c_Mo_code l hfl dC dI cI cJ a H.size th tr dp zi co sh lt ts mf  c111) (tx_cb (n := 0) hts rfl rfl ⟨Nat.le_of_ble_eq_true rfl, Nat.le_of_ble_eq_true rfl⟩ (tx_code.of (hts _ mw_1232)) (hts _ mw_12) (by decide +kernel) (hts _ mw_1229)) (hts _ mw_1231) (hts _ ms_Mo_code) ⟨tz_blind, sv_recv (q0 := 0) hts in_Mo hK hI kM_0 rfl, fun U hU hW => ⟨rfl, by rw [hU], by rw [hU]; exact hI.1, va_K.moved hW.alike hK, hst _ _ hI.2 U hU hW⟩⟩ rfl rfl hl.1 rfl (lv_room (Nat.le_of_ble_eq_true rfl)) d_Mo_readRest_80 ⟨Nat.le_of_ble_eq_true rfl, Nat.le_of_ble_eq_true rfl⟩) hI.2 (fun q _ h => ga_sub hAC hA0 hI.2 q h) (ga_sub hAC hA0 hI.2) (fun v t H1 locs1 ht hWt hpost _ _ hS => ?_) (fun x t H1 locs1 ht hWt hpost _ _ hS => (hpost.2 x rfl).elim)
                  rcases hpost.1 _ rfl with ⟨z169, t_tr170, hv, c171, c171_0, c171_1, c171_2, hI1⟩ | ⟨z172, hv, c173, c173_0, c173_1, c173_2, hI1⟩
                  · cases hv
                    have hI : sI (dC, dI) vcl cI cJ (gsM a th t_tr170 dp zi co sh lt ts mf) A s.heap H1 locs1 := ⟨by rw [← ht]; exact hI1, hS⟩
                    obtain ⟨-, ⟨o174, o175⟩, -, -, -, -, -, -, -⟩ := id c171
                    clear hpost hI1 hS ht hWt
                    revert hI; generalize H1 = H; generalize locs1 = locs; intro hI
                    refine sn_iadd hx hb d_Mo_readRest_83 (by omega) (by omega) (fun z176 hz176 => ?_)
                    refine lv_istore (lv' := [(4, .int z176), (3, .int z110), (0, .ref (a 0)), (1, .int x1), (2, .int x2)]) hx hb d_Mo_readRest_84 hl (by decide) rfl (fun ls hl => ?_)
                    refine lv_iload hx hb d_Mo_readRest_86 (lv_at hl 0 rfl) ?_
                    refine sn_sipush hx hb d_Mo_readRest_88 (by decide) (fun z177 hz177 => ?_)
                    refine sn_icmp_le (tgt := 103) hx hb d_Mo_readRest_91 (by decide) (fun b178 => ?_) (fun b178 => ?_)
                    · refine lv_iload hx hb d_Mo_readRest_103 (lv_at hl 0 rfl) ?_
                      refine lv_istore (lv' := [(4, .int z176), (3, .int z110), (0, .ref (a 0)), (1, .int x1), (2, .int x2)]) hx hb d_Mo_readRest_105 hl (by decide) rfl (fun ls hl => ?_)
                      exact j107p _ _ _ z110 z176 t_tr170 hI c171 (by omega) (by omega) (by omega) (by omega) (by omega) (by omega) (by omega) (by omega) (by omega) (by omega) (lv_sub hl [2, 3, 4, 1, 0] rfl)
                    · refine lv_iload hx hb d_Mo_readRest_94 (lv_at hl 0 rfl) ?_
                      refine sn_sipush hx hb d_Mo_readRest_96 (by decide) (fun z179 hz179 => ?_)
                      refine sn_isub hx hb d_Mo_readRest_99 (by omega) (by omega) (fun z180 hz180 => ?_)
                      refine lv_goto (tgt := 105) hx hb d_Mo_readRest_100 (by decide) ?_
                      refine lv_istore (lv' := [(4, .int z180), (3, .int z110), (0, .ref (a 0)), (1, .int x1), (2, .int x2)]) hx hb d_Mo_readRest_105 hl (by decide) rfl (fun ls hl => ?_)
                      exact j107p _ _ _ z110 z180 t_tr170 hI c171 (by omega) (by omega) (by omega) (by omega) (by omega) (by omega) (by omega) (by omega) (by omega) (by omega) (lv_sub hl [2, 3, 4, 1, 0] rfl)
                  · cases hv
                    have hI : sI (dC, dI) vcl cI cJ (gsM a th tr dp zi co sh lt ts mf) A s.heap H1 locs1 := ⟨by rw [← ht]; exact hI1, hS⟩
                    clear hpost hI1 hS ht hWt
                    revert hI; generalize H1 = H; generalize locs1 = locs; intro hI
                    refine sn_iadd hx hb d_Mo_readRest_83 (by omega) (by omega) (fun z181 hz181 => ?_)
                    refine lv_istore (lv' := [(4, .int z181), (3, .int z110), (0, .ref (a 0)), (1, .int x1), (2, .int x2)]) hx hb d_Mo_readRest_84 hl (by decide) rfl (fun ls hl => ?_)
                    refine lv_iload hx hb d_Mo_readRest_86 (lv_at hl 0 rfl) ?_
                    refine sn_sipush hx hb d_Mo_readRest_88 (by decide) (fun z182 hz182 => ?_)
                    refine sn_icmp_le (tgt := 103) hx hb d_Mo_readRest_91 (by decide) (fun b183 => ?_) (fun b183 => ?_)
                    · refine lv_iload hx hb d_Mo_readRest_103 (lv_at hl 0 rfl) ?_
                      refine lv_istore (lv' := [(4, .int z181), (3, .int z110), (0, .ref (a 0)), (1, .int x1), (2, .int x2)]) hx hb d_Mo_readRest_105 hl (by decide) rfl (fun ls hl => ?_)
                      exact j107z _ _ _ z110 z181 hI c173 (by omega) (by omega) (by omega) (by omega) (by omega) (by omega) (by omega) (by omega) (lv_sub hl [2, 3, 4, 1, 0] rfl)
                    · refine lv_iload hx hb d_Mo_readRest_94 (lv_at hl 0 rfl) ?_
                      refine sn_sipush hx hb d_Mo_readRest_96 (by decide) (fun z184 hz184 => ?_)
                      refine sn_isub hx hb d_Mo_readRest_99 (by omega) (by omega) (fun z185 hz185 => ?_)
                      refine lv_goto (tgt := 105) hx hb d_Mo_readRest_100 (by decide) ?_
                      refine lv_istore (lv' := [(4, .int z185), (3, .int z110), (0, .ref (a 0)), (1, .int x1), (2, .int x2)]) hx hb d_Mo_readRest_105 hl (by decide) rfl (fun ls hl => ?_)
                      exact j107z _ _ _ z110 z185 hI c173 (by omega) (by omega) (by omega) (by omega) (by omega) (by omega) (by omega) (by omega) (lv_sub hl [2, 3, 4, 1, 0] rfl)
  have j16p : ∀ (H : Heap) (locs : List Loc) (ls : Array Slot) (t16p_tr : Int), sI (dC, dI) vcl cI cJ (gsM a th t16p_tr dp zi co sh lt ts mf) A s.heap H locs → okM th t16p_tr dp zi co sh lt ts mf → 1 ≤ t16p_tr → t16p_tr ≤ 4 → 0 ≤ x1.toInt → x1.toInt ≤ 3 → 0 ≤ x2.toInt → lv_has ls 5 [(0, .ref (a 0)), (1, .int x1), (2, .int x2)] → W p l e (headSpec tw_tbl rm_Mo_readRest).room s m ([.ref (a 0), .int x1, .int x2] : List Value).toArray below meth c H locs 0 0 Z (F0 m 16 ls []) := by
    intro H locs ls t16p_tr hI hok g16_0 g16_1 g16_2 g16_3 g16_4 hl
    obtain ⟨⟨o186, o187⟩, ⟨o188, o189⟩, ⟨o190, o191⟩, ⟨o192, o193⟩, ⟨o194, o195⟩, ⟨o196, o197⟩, ⟨o198, o199⟩, ⟨o200, o201⟩, -⟩ := id hok
    refine lv_aload_n hx hb d_Mo_readRest_16 rfl (lv_at hl 0 rfl) ?_
    refine sv_gete (C := "StoryMachineModel") (T := T_Mo) (N := 51) hx hb hts in_Mo hown hK hI 0 kM_0 rfl 25 (by decide) (hts _ mw_1088) rfl d_Mo_readRest_17 (fun z202 hz202 => ?_)
    refine sn_if_ne (tgt := 113) hx hb d_Mo_readRest_20 (by decide) (fun b203 => ?_) (fun b203 => ?_)
    · exact j113p _ _ _ t16p_tr hI hok (by omega) (by omega) (lv_sub hl [0, 1, 2] rfl)
    · omega
  have j16z : ∀ (H : Heap) (locs : List Loc) (ls : Array Slot), sI (dC, dI) vcl cI cJ (gsM a th tr dp zi co sh lt ts mf) A s.heap H locs → okM th tr dp zi co sh lt ts mf → tr ≤ 0 → 0 ≤ x1.toInt → x1.toInt ≤ 3 → 0 ≤ x2.toInt → lv_has ls 5 [(0, .ref (a 0)), (1, .int x1), (2, .int x2)] → W p l e (headSpec tw_tbl rm_Mo_readRest).room s m ([.ref (a 0), .int x1, .int x2] : List Value).toArray below meth c H locs 0 0 Z (F0 m 16 ls []) := by
    intro H locs ls hI hok g16_0 g16_1 g16_2 g16_3 hl
    obtain ⟨⟨o204, o205⟩, ⟨o206, o207⟩, ⟨o208, o209⟩, ⟨o210, o211⟩, ⟨o212, o213⟩, ⟨o214, o215⟩, ⟨o216, o217⟩, ⟨o218, o219⟩, -⟩ := id hok
    refine lv_aload_n hx hb d_Mo_readRest_16 rfl (lv_at hl 0 rfl) ?_
    refine sv_gete (C := "StoryMachineModel") (T := T_Mo) (N := 51) hx hb hts in_Mo hown hK hI 0 kM_0 rfl 25 (by decide) (hts _ mw_1088) rfl d_Mo_readRest_17 (fun z220 hz220 => ?_)
    refine sn_if_ne (tgt := 113) hx hb d_Mo_readRest_20 (by decide) (fun b221 => ?_) (fun b221 => ?_)
    · omega
    · refine lv_iload_n hx hb d_Mo_readRest_23 rfl (lv_at hl 1 rfl) ?_
      refine lv_iload_n hx hb d_Mo_readRest_24 rfl (lv_at hl 2 rfl) ?_
      refine tz_call (A1 := ga (adM a) H.size) (tz_runS (As := [.int x1, .int x2]) (rest := []) ⟨hx, hb, hml, hown, hts⟩ (c_Mo_asks l hfl dC dI cI cJ a H.size th tr dp zi co sh lt ts mf x1 x2 hok) (tx_cb (n := 2) hts rfl rfl ⟨Nat.le_of_ble_eq_true rfl, Nat.le_of_ble_eq_true rfl⟩ (tx_code.of (hts _ mw_1280)) (hts _ mw_12) (by decide +kernel) (hts _ mw_1278)) (hts _ mw_1279) ⟨tz_blind, fun U hU hW => ⟨rfl, by rw [hU], by rw [hU]; exact hI.1, va_K.moved hW.alike hK, hst _ _ hI.2 U hU hW⟩⟩ rfl rfl hl.1 rfl (lv_room (Nat.le_of_ble_eq_true rfl)) d_Mo_readRest_25 ⟨Nat.le_of_ble_eq_true rfl, Nat.le_of_ble_eq_true rfl⟩) hI.2 (fun q _ h => ga_sub hAC hA0 hI.2 q h) (ga_sub hAC hA0 hI.2) (fun v t H1 locs1 ht hWt hpost _ _ hS => ?_) (fun x t H1 locs1 ht hWt hpost _ _ hS => (hpost.2 x rfl).elim)
      rcases hpost.1 _ rfl with ⟨z222, hv, c223, c223_0, c223_1, hI1⟩ | ⟨z224, hv, c225, c225_0, c225_1, c225_2, c225_3, c225_4, hI1⟩
      · cases hv
        have hI : sI (dC, dI) vcl cI cJ (gsM a th tr dp zi co sh lt ts mf) A s.heap H1 locs1 := ⟨by rw [← ht]; exact hI1, hS⟩
        clear hpost hI1 hS ht hWt
        revert hI; generalize H1 = H; generalize locs1 = locs; intro hI
        refine sn_if_eq (tgt := 113) hx hb d_Mo_readRest_28 (by decide) (fun b226 => ?_) (fun b226 => ?_)
        · exact j113z _ _ _  hI c223 (by omega) (lv_sub hl [0, 1, 2] rfl)
        · omega
      · cases hv
        have hI : sI (dC, dI) vcl cI cJ (gsM a th tr dp zi co sh lt ts mf) A s.heap H1 locs1 := ⟨by rw [← ht]; exact hI1, hS⟩
        clear hpost hI1 hS ht hWt
        revert hI; generalize H1 = H; generalize locs1 = locs; intro hI
        refine sn_if_eq (tgt := 113) hx hb d_Mo_readRest_28 (by decide) (fun b227 => ?_) (fun b227 => ?_)
        · omega
        · refine lv_aload_n hx hb d_Mo_readRest_31 rfl (lv_at hl 0 rfl) ?_
          refine tz_call (A1 := ga (adM a) H.size) (tz_runV (C := "StoryMachineModel") (As := []) (rest := []) ⟨hx, hb, hml, hown, hts⟩ (c_Mo_code l hfl dC dI cI cJ a H.size th tr dp zi co sh lt ts mf  c225) (tx_cb (n := 0) hts rfl rfl ⟨Nat.le_of_ble_eq_true rfl, Nat.le_of_ble_eq_true rfl⟩ (tx_code.of (hts _ mw_1232)) (hts _ mw_12) (by decide +kernel) (hts _ mw_1229)) (hts _ mw_1231) (hts _ ms_Mo_code) ⟨tz_blind, sv_recv (q0 := 0) hts in_Mo hK hI kM_0 rfl, fun U hU hW => ⟨rfl, by rw [hU], by rw [hU]; exact hI.1, va_K.moved hW.alike hK, hst _ _ hI.2 U hU hW⟩⟩ rfl rfl hl.1 rfl (lv_room (Nat.le_of_ble_eq_true rfl)) d_Mo_readRest_32 ⟨Nat.le_of_ble_eq_true rfl, Nat.le_of_ble_eq_true rfl⟩) hI.2 (fun q _ h => ga_sub hAC hA0 hI.2 q h) (ga_sub hAC hA0 hI.2) (fun v t H1 locs1 ht hWt hpost _ _ hS => ?_) (fun x t H1 locs1 ht hWt hpost _ _ hS => (hpost.2 x rfl).elim)
          rcases hpost.1 _ rfl with ⟨z228, t_tr229, hv, c230, c230_0, c230_1, c230_2, hI1⟩ | ⟨z231, hv, c232, c232_0, c232_1, c232_2, hI1⟩
          · cases hv
            have hI : sI (dC, dI) vcl cI cJ (gsM a th t_tr229 dp zi co sh lt ts mf) A s.heap H1 locs1 := ⟨by rw [← ht]; exact hI1, hS⟩
            obtain ⟨-, ⟨o233, o234⟩, -, -, -, -, -, -, -⟩ := id c230
            clear hpost hI1 hS ht hWt
            revert hI; generalize H1 = H; generalize locs1 = locs; intro hI
            refine lv_istore_n (lv' := [(3, .int z228), (0, .ref (a 0)), (1, .int x1), (2, .int x2)]) hx hb d_Mo_readRest_35 rfl hl (by decide) rfl (fun ls hl => ?_)
            refine lv_aload_n hx hb d_Mo_readRest_36 rfl (lv_at hl 1 rfl) ?_
            refine lv_iload_n hx hb d_Mo_readRest_37 rfl (lv_at hl 0 rfl) ?_
            refine sn_bipush hx hb d_Mo_readRest_38 (by decide) (fun z235 hz235 => ?_)
            refine sn_icmp_le (tgt := 47) hx hb d_Mo_readRest_40 (by decide) (fun b236 => ?_) (fun b236 => ?_)
            · refine sn_iconst hx hb d_Mo_readRest_47 (by decide) (fun z237 hz237 => ?_)
              refine sv_put (C := "StoryMachineModel") (T := T_Mo) (N := 51) (ty := .boolean) hx hb hts in_Mo t_Mo tk_Mo nm_Mo hown hK (sh_in adM_map hAC) hI 0 kM_0 rfl 41 (by decide) (hts _ mw_1104) rfl (by decide +kernel) (sn_bool (by omega) (by omega)).1 (sn_bool (by omega) (by omega)).2 (Nat.le_of_ble_eq_true rfl) (by omega) (by omega) pM_0_41 d_Mo_readRest_48 (fun H locs hI => ?_)
              refine lv_iload_n hx hb d_Mo_readRest_51 rfl (lv_at hl 0 rfl) ?_
              refine sn_bipush hx hb d_Mo_readRest_52 (by decide) (fun z238 hz238 => ?_)
              refine sn_irem (k := 64) hx hb d_Mo_readRest_54 (by omega) (by omega) (by omega) (fun z239 hz239 => ?_)
              refine lv_istore (lv' := [(4, .int z239), (3, .int z228), (0, .ref (a 0)), (1, .int x1), (2, .int x2)]) hx hb d_Mo_readRest_55 hl (by decide) rfl (fun ls hl => ?_)
              refine lv_iload_n hx hb d_Mo_readRest_57 rfl (lv_at hl 1 rfl) ?_
              refine sn_bipush hx hb d_Mo_readRest_58 (by decide) (fun z240 hz240 => ?_)
              refine sn_idiv (k := 64) hx hb d_Mo_readRest_60 (by omega) (by omega) (by omega) (fun z241 hz241 => ?_)
              refine sn_iconst hx hb d_Mo_readRest_61 (by decide) (fun z242 hz242 => ?_)
              refine sn_irem (k := 2) hx hb d_Mo_readRest_62 (by omega) (by omega) (by omega) (fun z243 hz243 => ?_)
              refine sn_if_ne (tgt := 107) hx hb d_Mo_readRest_63 (by decide) (fun b244 => ?_) (fun b244 => ?_)
              · omega
              · refine lv_aload_n hx hb d_Mo_readRest_66 rfl (lv_at hl 2 rfl) ?_
                refine sv_gete (C := "StoryMachineModel") (T := T_Mo) (N := 51) hx hb hts in_Mo hown hK hI 0 kM_0 rfl 25 (by decide) (hts _ mw_1088) rfl d_Mo_readRest_67 (fun z245 hz245 => ?_)
                refine sn_if_ne (tgt := 107) hx hb d_Mo_readRest_70 (by decide) (fun b246 => ?_) (fun b246 => ?_)
                · exact j107p _ _ _ z228 z239 t_tr229 hI c230 (by omega) (by omega) (by omega) (by omega) (by omega) (by omega) (by omega) (by omega) (by omega) (by omega) (lv_sub hl [2, 3, 4, 1, 0] rfl)
                · omega
            · omega
          · cases hv
            have hI : sI (dC, dI) vcl cI cJ (gsM a th tr dp zi co sh lt ts mf) A s.heap H1 locs1 := ⟨by rw [← ht]; exact hI1, hS⟩
            clear hpost hI1 hS ht hWt
            revert hI; generalize H1 = H; generalize locs1 = locs; intro hI
            refine lv_istore_n (lv' := [(3, .int z231), (0, .ref (a 0)), (1, .int x1), (2, .int x2)]) hx hb d_Mo_readRest_35 rfl hl (by decide) rfl (fun ls hl => ?_)
            refine lv_aload_n hx hb d_Mo_readRest_36 rfl (lv_at hl 1 rfl) ?_
            refine lv_iload_n hx hb d_Mo_readRest_37 rfl (lv_at hl 0 rfl) ?_
            refine sn_bipush hx hb d_Mo_readRest_38 (by decide) (fun z247 hz247 => ?_)
            refine sn_icmp_le (tgt := 47) hx hb d_Mo_readRest_40 (by decide) (fun b248 => ?_) (fun b248 => ?_)
            · refine sn_iconst hx hb d_Mo_readRest_47 (by decide) (fun z249 hz249 => ?_)
              refine sv_put (C := "StoryMachineModel") (T := T_Mo) (N := 51) (ty := .boolean) hx hb hts in_Mo t_Mo tk_Mo nm_Mo hown hK (sh_in adM_map hAC) hI 0 kM_0 rfl 41 (by decide) (hts _ mw_1104) rfl (by decide +kernel) (sn_bool (by omega) (by omega)).1 (sn_bool (by omega) (by omega)).2 (Nat.le_of_ble_eq_true rfl) (by omega) (by omega) pM_0_41 d_Mo_readRest_48 (fun H locs hI => ?_)
              refine lv_iload_n hx hb d_Mo_readRest_51 rfl (lv_at hl 0 rfl) ?_
              refine sn_bipush hx hb d_Mo_readRest_52 (by decide) (fun z250 hz250 => ?_)
              refine sn_irem (k := 64) hx hb d_Mo_readRest_54 (by omega) (by omega) (by omega) (fun z251 hz251 => ?_)
              refine lv_istore (lv' := [(4, .int z251), (3, .int z231), (0, .ref (a 0)), (1, .int x1), (2, .int x2)]) hx hb d_Mo_readRest_55 hl (by decide) rfl (fun ls hl => ?_)
              refine lv_iload_n hx hb d_Mo_readRest_57 rfl (lv_at hl 1 rfl) ?_
              refine sn_bipush hx hb d_Mo_readRest_58 (by decide) (fun z252 hz252 => ?_)
              refine sn_idiv (k := 64) hx hb d_Mo_readRest_60 (by omega) (by omega) (by omega) (fun z253 hz253 => ?_)
              refine sn_iconst hx hb d_Mo_readRest_61 (by decide) (fun z254 hz254 => ?_)
              refine sn_irem (k := 2) hx hb d_Mo_readRest_62 (by omega) (by omega) (by omega) (fun z255 hz255 => ?_)
              refine sn_if_ne (tgt := 107) hx hb d_Mo_readRest_63 (by decide) (fun b256 => ?_) (fun b256 => ?_)
              · exact j107z _ _ _ z231 z251 hI c232 (by omega) (by omega) (by omega) (by omega) (by omega) (by omega) (by omega) (by omega) (lv_sub hl [2, 3, 4, 1, 0] rfl)
              · refine lv_aload_n hx hb d_Mo_readRest_66 rfl (lv_at hl 2 rfl) ?_
                refine sv_gete (C := "StoryMachineModel") (T := T_Mo) (N := 51) hx hb hts in_Mo hown hK hI 0 kM_0 rfl 25 (by decide) (hts _ mw_1088) rfl d_Mo_readRest_67 (fun z257 hz257 => ?_)
                refine sn_if_ne (tgt := 107) hx hb d_Mo_readRest_70 (by decide) (fun b258 => ?_) (fun b258 => ?_)
                · omega
                · refine sn_sipush hx hb d_Mo_readRest_73 (by decide) (fun z259 hz259 => ?_)
                  refine lv_iload hx hb d_Mo_readRest_76 (lv_at hl 0 rfl) ?_
                  refine sn_imulL (k := 256) hx hb d_Mo_readRest_78 (by omega) (by omega) (by omega) (fun z260 hz260 => ?_)
                  refine lv_aload_n hx hb d_Mo_readRest_79 rfl (lv_at hl 2 rfl) ?_
                  refine tz_call (A1 := ga (adM a) H.size) (tz_runV (C := "StoryMachineModel") (As := []) (rest := [.int z260]) ⟨hx, hb, hml, hown, hts⟩ (c_Mo_code l hfl dC dI cI cJ a H.size th tr dp zi co sh lt ts mf  c232) (tx_cb (n := 0) hts rfl rfl ⟨Nat.le_of_ble_eq_true rfl, Nat.le_of_ble_eq_true rfl⟩ (tx_code.of (hts _ mw_1232)) (hts _ mw_12) (by decide +kernel) (hts _ mw_1229)) (hts _ mw_1231) (hts _ ms_Mo_code) ⟨tz_blind, sv_recv (q0 := 0) hts in_Mo hK hI kM_0 rfl, fun U hU hW => ⟨rfl, by rw [hU], by rw [hU]; exact hI.1, va_K.moved hW.alike hK, hst _ _ hI.2 U hU hW⟩⟩ rfl rfl hl.1 rfl (lv_room (Nat.le_of_ble_eq_true rfl)) d_Mo_readRest_80 ⟨Nat.le_of_ble_eq_true rfl, Nat.le_of_ble_eq_true rfl⟩) hI.2 (fun q _ h => ga_sub hAC hA0 hI.2 q h) (ga_sub hAC hA0 hI.2) (fun v t H1 locs1 ht hWt hpost _ _ hS => ?_) (fun x t H1 locs1 ht hWt hpost _ _ hS => (hpost.2 x rfl).elim)
                  rcases hpost.1 _ rfl with ⟨z261, t_tr262, hv, c263, c263_0, c263_1, c263_2, hI1⟩ | ⟨z264, hv, c265, c265_0, c265_1, c265_2, hI1⟩
                  · cases hv
                    have hI : sI (dC, dI) vcl cI cJ (gsM a th t_tr262 dp zi co sh lt ts mf) A s.heap H1 locs1 := ⟨by rw [← ht]; exact hI1, hS⟩
                    obtain ⟨-, ⟨o266, o267⟩, -, -, -, -, -, -, -⟩ := id c263
                    clear hpost hI1 hS ht hWt
                    revert hI; generalize H1 = H; generalize locs1 = locs; intro hI
                    refine sn_iadd hx hb d_Mo_readRest_83 (by omega) (by omega) (fun z268 hz268 => ?_)
                    refine lv_istore (lv' := [(4, .int z268), (3, .int z231), (0, .ref (a 0)), (1, .int x1), (2, .int x2)]) hx hb d_Mo_readRest_84 hl (by decide) rfl (fun ls hl => ?_)
                    refine lv_iload hx hb d_Mo_readRest_86 (lv_at hl 0 rfl) ?_
                    refine sn_sipush hx hb d_Mo_readRest_88 (by decide) (fun z269 hz269 => ?_)
                    refine sn_icmp_le (tgt := 103) hx hb d_Mo_readRest_91 (by decide) (fun b270 => ?_) (fun b270 => ?_)
                    · refine lv_iload hx hb d_Mo_readRest_103 (lv_at hl 0 rfl) ?_
                      refine lv_istore (lv' := [(4, .int z268), (3, .int z231), (0, .ref (a 0)), (1, .int x1), (2, .int x2)]) hx hb d_Mo_readRest_105 hl (by decide) rfl (fun ls hl => ?_)
                      exact j107p _ _ _ z231 z268 t_tr262 hI c263 (by omega) (by omega) (by omega) (by omega) (by omega) (by omega) (by omega) (by omega) (by omega) (by omega) (lv_sub hl [2, 3, 4, 1, 0] rfl)
                    · refine lv_iload hx hb d_Mo_readRest_94 (lv_at hl 0 rfl) ?_
                      refine sn_sipush hx hb d_Mo_readRest_96 (by decide) (fun z271 hz271 => ?_)
                      refine sn_isub hx hb d_Mo_readRest_99 (by omega) (by omega) (fun z272 hz272 => ?_)
                      refine lv_goto (tgt := 105) hx hb d_Mo_readRest_100 (by decide) ?_
                      refine lv_istore (lv' := [(4, .int z272), (3, .int z231), (0, .ref (a 0)), (1, .int x1), (2, .int x2)]) hx hb d_Mo_readRest_105 hl (by decide) rfl (fun ls hl => ?_)
                      exact j107p _ _ _ z231 z272 t_tr262 hI c263 (by omega) (by omega) (by omega) (by omega) (by omega) (by omega) (by omega) (by omega) (by omega) (by omega) (lv_sub hl [2, 3, 4, 1, 0] rfl)
                  · cases hv
                    have hI : sI (dC, dI) vcl cI cJ (gsM a th tr dp zi co sh lt ts mf) A s.heap H1 locs1 := ⟨by rw [← ht]; exact hI1, hS⟩
                    clear hpost hI1 hS ht hWt
                    revert hI; generalize H1 = H; generalize locs1 = locs; intro hI
                    refine sn_iadd hx hb d_Mo_readRest_83 (by omega) (by omega) (fun z273 hz273 => ?_)
                    refine lv_istore (lv' := [(4, .int z273), (3, .int z231), (0, .ref (a 0)), (1, .int x1), (2, .int x2)]) hx hb d_Mo_readRest_84 hl (by decide) rfl (fun ls hl => ?_)
                    refine lv_iload hx hb d_Mo_readRest_86 (lv_at hl 0 rfl) ?_
                    refine sn_sipush hx hb d_Mo_readRest_88 (by decide) (fun z274 hz274 => ?_)
                    refine sn_icmp_le (tgt := 103) hx hb d_Mo_readRest_91 (by decide) (fun b275 => ?_) (fun b275 => ?_)
                    · refine lv_iload hx hb d_Mo_readRest_103 (lv_at hl 0 rfl) ?_
                      refine lv_istore (lv' := [(4, .int z273), (3, .int z231), (0, .ref (a 0)), (1, .int x1), (2, .int x2)]) hx hb d_Mo_readRest_105 hl (by decide) rfl (fun ls hl => ?_)
                      exact j107z _ _ _ z231 z273 hI c265 (by omega) (by omega) (by omega) (by omega) (by omega) (by omega) (by omega) (by omega) (lv_sub hl [2, 3, 4, 1, 0] rfl)
                    · refine lv_iload hx hb d_Mo_readRest_94 (lv_at hl 0 rfl) ?_
                      refine sn_sipush hx hb d_Mo_readRest_96 (by decide) (fun z276 hz276 => ?_)
                      refine sn_isub hx hb d_Mo_readRest_99 (by omega) (by omega) (fun z277 hz277 => ?_)
                      refine lv_goto (tgt := 105) hx hb d_Mo_readRest_100 (by decide) ?_
                      refine lv_istore (lv' := [(4, .int z277), (3, .int z231), (0, .ref (a 0)), (1, .int x1), (2, .int x2)]) hx hb d_Mo_readRest_105 hl (by decide) rfl (fun ls hl => ?_)
                      exact j107z _ _ _ z231 z277 hI c265 (by omega) (by omega) (by omega) (by omega) (by omega) (by omega) (by omega) (by omega) (lv_sub hl [2, 3, 4, 1, 0] rfl)
            · refine sn_iconst hx hb d_Mo_readRest_43 (by decide) (fun z278 hz278 => ?_)
              refine lv_goto (tgt := 48) hx hb d_Mo_readRest_44 (by decide) ?_
              refine sv_put (C := "StoryMachineModel") (T := T_Mo) (N := 51) (ty := .boolean) hx hb hts in_Mo t_Mo tk_Mo nm_Mo hown hK (sh_in adM_map hAC) hI 0 kM_0 rfl 41 (by decide) (hts _ mw_1104) rfl (by decide +kernel) (sn_bool (by omega) (by omega)).1 (sn_bool (by omega) (by omega)).2 (Nat.le_of_ble_eq_true rfl) (by omega) (by omega) pM_0_41 d_Mo_readRest_48 (fun H locs hI => ?_)
              refine lv_iload_n hx hb d_Mo_readRest_51 rfl (lv_at hl 0 rfl) ?_
              refine sn_bipush hx hb d_Mo_readRest_52 (by decide) (fun z279 hz279 => ?_)
              refine sn_irem (k := 64) hx hb d_Mo_readRest_54 (by omega) (by omega) (by omega) (fun z280 hz280 => ?_)
              refine lv_istore (lv' := [(4, .int z280), (3, .int z231), (0, .ref (a 0)), (1, .int x1), (2, .int x2)]) hx hb d_Mo_readRest_55 hl (by decide) rfl (fun ls hl => ?_)
              refine lv_iload_n hx hb d_Mo_readRest_57 rfl (lv_at hl 1 rfl) ?_
              refine sn_bipush hx hb d_Mo_readRest_58 (by decide) (fun z281 hz281 => ?_)
              refine sn_idiv (k := 64) hx hb d_Mo_readRest_60 (by omega) (by omega) (by omega) (fun z282 hz282 => ?_)
              refine sn_iconst hx hb d_Mo_readRest_61 (by decide) (fun z283 hz283 => ?_)
              refine sn_irem (k := 2) hx hb d_Mo_readRest_62 (by omega) (by omega) (by omega) (fun z284 hz284 => ?_)
              refine sn_if_ne (tgt := 107) hx hb d_Mo_readRest_63 (by decide) (fun b285 => ?_) (fun b285 => ?_)
              · exact j107z _ _ _ z231 z280 hI c232 (by omega) (by omega) (by omega) (by omega) (by omega) (by omega) (by omega) (by omega) (lv_sub hl [2, 3, 4, 1, 0] rfl)
              · refine lv_aload_n hx hb d_Mo_readRest_66 rfl (lv_at hl 2 rfl) ?_
                refine sv_gete (C := "StoryMachineModel") (T := T_Mo) (N := 51) hx hb hts in_Mo hown hK hI 0 kM_0 rfl 25 (by decide) (hts _ mw_1088) rfl d_Mo_readRest_67 (fun z286 hz286 => ?_)
                refine sn_if_ne (tgt := 107) hx hb d_Mo_readRest_70 (by decide) (fun b287 => ?_) (fun b287 => ?_)
                · omega
                · refine sn_sipush hx hb d_Mo_readRest_73 (by decide) (fun z288 hz288 => ?_)
                  refine lv_iload hx hb d_Mo_readRest_76 (lv_at hl 0 rfl) ?_
                  refine sn_imulL (k := 256) hx hb d_Mo_readRest_78 (by omega) (by omega) (by omega) (fun z289 hz289 => ?_)
                  refine lv_aload_n hx hb d_Mo_readRest_79 rfl (lv_at hl 2 rfl) ?_
                  refine tz_call (A1 := ga (adM a) H.size) (tz_runV (C := "StoryMachineModel") (As := []) (rest := [.int z289]) ⟨hx, hb, hml, hown, hts⟩ (c_Mo_code l hfl dC dI cI cJ a H.size th tr dp zi co sh lt ts mf  c232) (tx_cb (n := 0) hts rfl rfl ⟨Nat.le_of_ble_eq_true rfl, Nat.le_of_ble_eq_true rfl⟩ (tx_code.of (hts _ mw_1232)) (hts _ mw_12) (by decide +kernel) (hts _ mw_1229)) (hts _ mw_1231) (hts _ ms_Mo_code) ⟨tz_blind, sv_recv (q0 := 0) hts in_Mo hK hI kM_0 rfl, fun U hU hW => ⟨rfl, by rw [hU], by rw [hU]; exact hI.1, va_K.moved hW.alike hK, hst _ _ hI.2 U hU hW⟩⟩ rfl rfl hl.1 rfl (lv_room (Nat.le_of_ble_eq_true rfl)) d_Mo_readRest_80 ⟨Nat.le_of_ble_eq_true rfl, Nat.le_of_ble_eq_true rfl⟩) hI.2 (fun q _ h => ga_sub hAC hA0 hI.2 q h) (ga_sub hAC hA0 hI.2) (fun v t H1 locs1 ht hWt hpost _ _ hS => ?_) (fun x t H1 locs1 ht hWt hpost _ _ hS => (hpost.2 x rfl).elim)
                  rcases hpost.1 _ rfl with ⟨z290, t_tr291, hv, c292, c292_0, c292_1, c292_2, hI1⟩ | ⟨z293, hv, c294, c294_0, c294_1, c294_2, hI1⟩
                  · cases hv
                    have hI : sI (dC, dI) vcl cI cJ (gsM a th t_tr291 dp zi co sh lt ts mf) A s.heap H1 locs1 := ⟨by rw [← ht]; exact hI1, hS⟩
                    obtain ⟨-, ⟨o295, o296⟩, -, -, -, -, -, -, -⟩ := id c292
                    clear hpost hI1 hS ht hWt
                    revert hI; generalize H1 = H; generalize locs1 = locs; intro hI
                    refine sn_iadd hx hb d_Mo_readRest_83 (by omega) (by omega) (fun z297 hz297 => ?_)
                    refine lv_istore (lv' := [(4, .int z297), (3, .int z231), (0, .ref (a 0)), (1, .int x1), (2, .int x2)]) hx hb d_Mo_readRest_84 hl (by decide) rfl (fun ls hl => ?_)
                    refine lv_iload hx hb d_Mo_readRest_86 (lv_at hl 0 rfl) ?_
                    refine sn_sipush hx hb d_Mo_readRest_88 (by decide) (fun z298 hz298 => ?_)
                    refine sn_icmp_le (tgt := 103) hx hb d_Mo_readRest_91 (by decide) (fun b299 => ?_) (fun b299 => ?_)
                    · refine lv_iload hx hb d_Mo_readRest_103 (lv_at hl 0 rfl) ?_
                      refine lv_istore (lv' := [(4, .int z297), (3, .int z231), (0, .ref (a 0)), (1, .int x1), (2, .int x2)]) hx hb d_Mo_readRest_105 hl (by decide) rfl (fun ls hl => ?_)
                      exact j107p _ _ _ z231 z297 t_tr291 hI c292 (by omega) (by omega) (by omega) (by omega) (by omega) (by omega) (by omega) (by omega) (by omega) (by omega) (lv_sub hl [2, 3, 4, 1, 0] rfl)
                    · refine lv_iload hx hb d_Mo_readRest_94 (lv_at hl 0 rfl) ?_
                      refine sn_sipush hx hb d_Mo_readRest_96 (by decide) (fun z300 hz300 => ?_)
                      refine sn_isub hx hb d_Mo_readRest_99 (by omega) (by omega) (fun z301 hz301 => ?_)
                      refine lv_goto (tgt := 105) hx hb d_Mo_readRest_100 (by decide) ?_
                      refine lv_istore (lv' := [(4, .int z301), (3, .int z231), (0, .ref (a 0)), (1, .int x1), (2, .int x2)]) hx hb d_Mo_readRest_105 hl (by decide) rfl (fun ls hl => ?_)
                      exact j107p _ _ _ z231 z301 t_tr291 hI c292 (by omega) (by omega) (by omega) (by omega) (by omega) (by omega) (by omega) (by omega) (by omega) (by omega) (lv_sub hl [2, 3, 4, 1, 0] rfl)
                  · cases hv
                    have hI : sI (dC, dI) vcl cI cJ (gsM a th tr dp zi co sh lt ts mf) A s.heap H1 locs1 := ⟨by rw [← ht]; exact hI1, hS⟩
                    clear hpost hI1 hS ht hWt
                    revert hI; generalize H1 = H; generalize locs1 = locs; intro hI
                    refine sn_iadd hx hb d_Mo_readRest_83 (by omega) (by omega) (fun z302 hz302 => ?_)
                    refine lv_istore (lv' := [(4, .int z302), (3, .int z231), (0, .ref (a 0)), (1, .int x1), (2, .int x2)]) hx hb d_Mo_readRest_84 hl (by decide) rfl (fun ls hl => ?_)
                    refine lv_iload hx hb d_Mo_readRest_86 (lv_at hl 0 rfl) ?_
                    refine sn_sipush hx hb d_Mo_readRest_88 (by decide) (fun z303 hz303 => ?_)
                    refine sn_icmp_le (tgt := 103) hx hb d_Mo_readRest_91 (by decide) (fun b304 => ?_) (fun b304 => ?_)
                    · refine lv_iload hx hb d_Mo_readRest_103 (lv_at hl 0 rfl) ?_
                      refine lv_istore (lv' := [(4, .int z302), (3, .int z231), (0, .ref (a 0)), (1, .int x1), (2, .int x2)]) hx hb d_Mo_readRest_105 hl (by decide) rfl (fun ls hl => ?_)
                      exact j107z _ _ _ z231 z302 hI c294 (by omega) (by omega) (by omega) (by omega) (by omega) (by omega) (by omega) (by omega) (lv_sub hl [2, 3, 4, 1, 0] rfl)
                    · refine lv_iload hx hb d_Mo_readRest_94 (lv_at hl 0 rfl) ?_
                      refine sn_sipush hx hb d_Mo_readRest_96 (by decide) (fun z305 hz305 => ?_)
                      refine sn_isub hx hb d_Mo_readRest_99 (by omega) (by omega) (fun z306 hz306 => ?_)
                      refine lv_goto (tgt := 105) hx hb d_Mo_readRest_100 (by decide) ?_
                      refine lv_istore (lv' := [(4, .int z306), (3, .int z231), (0, .ref (a 0)), (1, .int x1), (2, .int x2)]) hx hb d_Mo_readRest_105 hl (by decide) rfl (fun ls hl => ?_)
                      exact j107z _ _ _ z231 z306 hI c294 (by omega) (by omega) (by omega) (by omega) (by omega) (by omega) (by omega) (by omega) (lv_sub hl [2, 3, 4, 1, 0] rfl)
  refine lv_iload_n hx hb d_Mo_readRest_0 rfl (lv_at hl 1 rfl) ?_
  refine lv_iload_n hx hb d_Mo_readRest_1 rfl (lv_at hl 2 rfl) ?_
  refine tz_call (A1 := ga (adM a) H.size) (tz_runS (As := [.int x1, .int x2]) (rest := []) ⟨hx, hb, hml, hown, hts⟩ (c_Mo_gives l hfl dC dI cI cJ a H.size th tr dp zi co sh lt ts mf x1 x2 hok) (tx_cb (n := 2) hts rfl rfl ⟨Nat.le_of_ble_eq_true rfl, Nat.le_of_ble_eq_true rfl⟩ (tx_code.of (hts _ mw_1277)) (hts _ mw_12) (by decide +kernel) (hts _ mw_1275)) (hts _ mw_1276) ⟨tz_blind, fun U hU hW => ⟨rfl, by rw [hU], by rw [hU]; exact hI.1, va_K.moved hW.alike hK, hst _ _ hI.2 U hU hW⟩⟩ rfl rfl hl.1 rfl (lv_room (Nat.le_of_ble_eq_true rfl)) d_Mo_readRest_2 ⟨Nat.le_of_ble_eq_true rfl, Nat.le_of_ble_eq_true rfl⟩) hI.2 (fun q _ h => ga_sub hAC hA0 hI.2 q h) (ga_sub hAC hA0 hI.2) (fun v t H1 locs1 ht hWt hpost _ _ hS => ?_) (fun x t H1 locs1 ht hWt hpost _ _ hS => (hpost.2 x rfl).elim)
  rcases hpost.1 _ rfl with ⟨z307, hv, c308, c308_0, c308_1, hI1⟩ | ⟨z309, hv, c310, c310_0, c310_1, c310_2, c310_3, c310_4, hI1⟩
  · cases hv
    have hI : sI (dC, dI) vcl cI cJ (gsM a th tr dp zi co sh lt ts mf) A s.heap H1 locs1 := ⟨by rw [← ht]; exact hI1, hS⟩
    clear hpost hI1 hS ht hWt
    revert hI; generalize H1 = H; generalize locs1 = locs; intro hI
    refine sn_if_eq (tgt := 16) hx hb d_Mo_readRest_5 (by decide) (fun b311 => ?_) (fun b311 => ?_)
    · exact j16u _ _ _  hI c308 (lv_sub hl [0, 1, 2] rfl)
    · omega
  · cases hv
    have hI : sI (dC, dI) vcl cI cJ (gsM a th tr dp zi co sh lt ts mf) A s.heap H1 locs1 := ⟨by rw [← ht]; exact hI1, hS⟩
    clear hpost hI1 hS ht hWt
    revert hI; generalize H1 = H; generalize locs1 = locs; intro hI
    refine sn_if_eq (tgt := 16) hx hb d_Mo_readRest_5 (by decide) (fun b312 => ?_) (fun b312 => ?_)
    · omega
    · refine lv_aload_n hx hb d_Mo_readRest_8 rfl (lv_at hl 0 rfl) ?_
      refine lv_aload_n hx hb d_Mo_readRest_9 rfl (lv_at hl 0 rfl) ?_
      refine tz_call (A1 := ga (adM a) H.size) (tz_runV (C := "StoryMachineModel") (As := []) (rest := [.ref (a 0)]) ⟨hx, hb, hml, hown, hts⟩ (c_Mo_code l hfl dC dI cI cJ a H.size th tr dp zi co sh lt ts mf  c310) (tx_cb (n := 0) hts rfl rfl ⟨Nat.le_of_ble_eq_true rfl, Nat.le_of_ble_eq_true rfl⟩ (tx_code.of (hts _ mw_1232)) (hts _ mw_12) (by decide +kernel) (hts _ mw_1229)) (hts _ mw_1231) (hts _ ms_Mo_code) ⟨tz_blind, sv_recv (q0 := 0) hts in_Mo hK hI kM_0 rfl, fun U hU hW => ⟨rfl, by rw [hU], by rw [hU]; exact hI.1, va_K.moved hW.alike hK, hst _ _ hI.2 U hU hW⟩⟩ rfl rfl hl.1 rfl (lv_room (Nat.le_of_ble_eq_true rfl)) d_Mo_readRest_10 ⟨Nat.le_of_ble_eq_true rfl, Nat.le_of_ble_eq_true rfl⟩) hI.2 (fun q _ h => ga_sub hAC hA0 hI.2 q h) (ga_sub hAC hA0 hI.2) (fun v t H1 locs1 ht hWt hpost _ _ hS => ?_) (fun x t H1 locs1 ht hWt hpost _ _ hS => (hpost.2 x rfl).elim)
      rcases hpost.1 _ rfl with ⟨z313, t_tr314, hv, c315, c315_0, c315_1, c315_2, hI1⟩ | ⟨z316, hv, c317, c317_0, c317_1, c317_2, hI1⟩
      · cases hv
        have hI : sI (dC, dI) vcl cI cJ (gsM a th t_tr314 dp zi co sh lt ts mf) A s.heap H1 locs1 := ⟨by rw [← ht]; exact hI1, hS⟩
        obtain ⟨-, ⟨o318, o319⟩, -, -, -, -, -, -, -⟩ := id c315
        clear hpost hI1 hS ht hWt
        revert hI; generalize H1 = H; generalize locs1 = locs; intro hI
        refine sv_put (C := "StoryMachineModel") (T := T_Mo) (N := 51) (ty := .int) hx hb hts in_Mo t_Mo tk_Mo nm_Mo hown hK (sh_in adM_map hAC) hI 0 kM_0 rfl 40 (by decide) (hts _ mw_1103) rfl (by decide +kernel) rfl rfl (Nat.le_of_ble_eq_true rfl) (by omega) (by omega) pM_0_40 d_Mo_readRest_13 (fun H locs hI => ?_)
        exact j16p _ _ _ t_tr314 hI c315 (by omega) (by omega) (by omega) (by omega) (by omega) (lv_sub hl [0, 1, 2] rfl)
      · cases hv
        have hI : sI (dC, dI) vcl cI cJ (gsM a th tr dp zi co sh lt ts mf) A s.heap H1 locs1 := ⟨by rw [← ht]; exact hI1, hS⟩
        clear hpost hI1 hS ht hWt
        revert hI; generalize H1 = H; generalize locs1 = locs; intro hI
        refine sv_put (C := "StoryMachineModel") (T := T_Mo) (N := 51) (ty := .int) hx hb hts in_Mo t_Mo tk_Mo nm_Mo hown hK (sh_in adM_map hAC) hI 0 kM_0 rfl 40 (by decide) (hts _ mw_1103) rfl (by decide +kernel) rfl rfl (Nat.le_of_ble_eq_true rfl) (by omega) (by omega) pM_0_40 d_Mo_readRest_13 (fun H locs hI => ?_)
        exact j16z _ _ _  hI c317 (by omega) (by omega) (by omega) (by omega) (lv_sub hl [0, 1, 2] rfl)
