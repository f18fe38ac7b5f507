abbrev q_Mo_number (dC : Nat → ClassId) (dI : Nat → Nat → Nat) (cI cJ : ClassId) (a : Nat → Nat) (th tr dp zi co sh lt ts : Int) (mf : Nat → Int32) (x1 : Int32) : Outcome → State → Prop := fun o t => (∀ v, o = .returned v → ((∃ (tr_ co_ : Int), v = none ∧ okM th tr_ dp zi co_ sh lt ts mf ∧ (1 ≤ tr_) ∧ (1 ≤ co_) ∧ (co_ = co + 1) ∧ sh_I (dC, dI) vcl cI cJ (gsM a th tr_ dp zi co_ sh lt ts mf) t.heap) ∨ (∃ (zi_ co_ : Int), v = none ∧ okM th tr dp zi_ co_ sh lt ts mf ∧ (tr ≤ 0) ∧ (1 ≤ co_) ∧ (co_ = co + 1) ∧ sh_I (dC, dI) vcl cI cJ (gsM a th tr dp zi_ co_ sh lt ts mf) t.heap))) ∧ (∀ x, o = .threw x → (False))
def rm_Mo_number : Room := { frames := 5, cells := 0, slots := 0, locals := 108 }
set_option maxHeartbeats 4000000 in
set_option maxRecDepth 100000 in
theorem c_Mo_number (l : Launch) (hfl : l.flags = pinnedFlags ++ [noTraceFlag]) (dC : Nat → ClassId) (dI : Nat → Nat → Nat) (cI cJ : ClassId) (a : Nat → Nat) (sz : Nat) (th tr dp zi co sh lt ts : Int) (mf : Nat → Int32) (x1 : Int32) (hok : okM th tr dp zi co sh lt ts mf) (hp0 : co ≤ 3) : tz_Met l ⟨"StoryMachineModel", "number", "(I)V"⟩ tw_tbl rm_Mo_number (tzP (dC, dI) vcl cI cJ (gsM a th tr dp zi co sh lt ts mf) a (adM a) [.ref (a 0), .int x1] sz) (tq_Q (q_Mo_number dC dI cI cJ a th tr dp zi co sh lt ts mf x1) (ga (adM a) sz)) 0 0 0 0 (ga (adM a) sz) := by
  refine tz_ofW (cc := prog_13_method_37_code) (maxL := 3) (ret := none) (by decide) (tx_isM mw_1248) ?_
  intro p e s m args below meth c s₁ B hml hv
  obtain ⟨rfl, hsz, hI0, hK, hst0⟩ := hv
  have hx := B.exec
  have hb := B.bytes
  have hr := B.returns
  have hts := atoms_spec (ws := tw_tbl) B.pre
  have hown : s.vm.findClass "StoryMachineModel" = some m.cls := findClass_of_methodNamed B.named
  have hlocks := B.notSynchronized
  subst hsz
  have hst := fun (H : Heap) (locs : List Loc) (hS : va_S (ga (adM a) s.heap.size) s.heap H locs) (U : State) (hU : U.heap = H) (hW : s.WarmedH U.vm) => zS_all adM_map hI0 hst0 hS hU hW
  have hAC : ∀ q ∈ adM a, ga (adM a) s.heap.size q := fun q h => Or.inl h
  have hA0 : ∀ q, s.heap.size ≤ q → ga (adM a) s.heap.size q := fun q h => Or.inr h
  have hI : sI (dC, dI) vcl cI cJ (gsM a th tr dp zi co sh lt ts mf) (ga (adM a) s.heap.size) s.heap s.heap [] := ⟨hI0, va_S.rf⟩
  clear hI0 hst0
  have hl := lv_entry ([.ref (a 0), .int x1]) (n := 3) (Nat.le_of_ble_eq_true rfl)
  rw [lg_entry_eq]
  generalize (lg_sl ([.ref (a 0), .int x1]) ++ List.replicate (3 - (lg_sl ([.ref (a 0), .int x1])).length) Slot.unset).toArray = ls at hl ⊢
  have hl : lv_has ls 3 [(0, .ref (a 0)), (1, .int x1)] := hl
  generalize hZ : tz_MQ below (tq_Q (q_Mo_number dC dI cI cJ a th tr dp zi co sh lt ts mf x1) (ga (adM a) s.heap.size)) ([.ref (a 0), .int x1] : List Value).toArray s 0 0 0 0 (ga (adM a) s.heap.size) = Z
  obtain ⟨A, hAe⟩ : ∃ A, A = ga (adM a) s.heap.size := ⟨_, rfl⟩
  rw [← hAe] at hst hAC hA0 hI hZ
  refine sv_start hI (fun H locs hI => ?_)
  obtain ⟨⟨o1, o2⟩, ⟨o3, o4⟩, ⟨o5, o6⟩, ⟨o7, o8⟩, ⟨o9, o10⟩, ⟨o11, o12⟩, ⟨o13, o14⟩, ⟨o15, o16⟩, -⟩ := id hok
  have gx1 := sn_rng x1
  have j51p : ∀ (H : Heap) (locs : List Loc) (ls : Array Slot) (v51p_2 : Int32) (t51p_tr : Int), sI (dC, dI) vcl cI cJ (gsM a th t51p_tr dp zi co sh lt ts mf) A s.heap H locs → okM th t51p_tr dp zi co sh lt ts mf → 0 ≤ v51p_2.toInt → v51p_2.toInt ≤ 65280 → 1 ≤ t51p_tr → t51p_tr ≤ 4 → lv_has ls 3 [(0, .ref (a 0)), (1, .int x1), (2, .int v51p_2)] → W p l e (headSpec tw_tbl rm_Mo_number).room s m ([.ref (a 0), .int x1] : List Value).toArray below meth c H locs 0 0 Z (F0 m 51 ls []) := by
    intro H locs ls v51p_2 t51p_tr hI hok g51_0 g51_1 g51_2 g51_3 hl
    obtain ⟨⟨o17, o18⟩, ⟨o19, o20⟩, ⟨o21, o22⟩, ⟨o23, o24⟩, ⟨o25, o26⟩, ⟨o27, o28⟩, ⟨o29, o30⟩, ⟨o31, o32⟩, -⟩ := id hok
    refine lv_aload_n hx hb d_Mo_number_51 rfl (lv_at hl 0 rfl) ?_
    refine sv_getr (C := "StoryMachineModel") (T := T_Mo) (N := 51) hx hb hts in_Mo hown hK hI 0 kM_0 rfl 39 (by decide) (hts _ mw_1102) rfl d_Mo_number_52 ?_
    refine lv_aload_n hx hb d_Mo_number_55 rfl (lv_at hl 0 rfl) ?_
    refine sv_gete (C := "StoryMachineModel") (T := T_Mo) (N := 51) hx hb hts in_Mo hown hK hI 0 kM_0 rfl 38 (by decide) (hts _ mw_1101) rfl d_Mo_number_56 (fun z33 hz33 => ?_)
    refine lv_iload_n hx hb d_Mo_number_59 rfl (lv_at hl 2 rfl) ?_
    refine sv_iastr hx hb hK (sh_in adM_map hAC) hI 18 kM_18 (by omega) (by omega) (by omega) (by omega) pM_18 d_Mo_number_60 (fun H locs hI => ?_)
    refine lv_aload_n hx hb d_Mo_number_61 rfl (lv_at hl 0 rfl) ?_
    refine lv_dup hx hb d_Mo_number_62 rfl ?_
    refine sv_gete (C := "StoryMachineModel") (T := T_Mo) (N := 51) hx hb hts in_Mo hown hK hI 0 kM_0 rfl 38 (by decide) (hts _ mw_1101) rfl d_Mo_number_63 (fun z34 hz34 => ?_)
    refine sn_iconst hx hb d_Mo_number_66 (by decide) (fun z35 hz35 => ?_)
    refine sn_iadd hx hb d_Mo_number_67 (by omega) (by omega) (fun z36 hz36 => ?_)
    refine sv_put (C := "StoryMachineModel") (T := T_Mo) (N := 51) (ty := .int) hx hb hts in_Mo t_Mo tk_Mo nm_Mo hown hK (sh_in adM_map hAC) hI 0 kM_0 rfl 38 (by decide) (hts _ mw_1101) rfl (by decide +kernel) rfl rfl (Nat.le_of_ble_eq_true rfl) (Int.le_refl _) (Int.le_refl _) pM_0_38 d_Mo_number_68 (fun H locs hI => ?_)
    have ho37 : okM th t51p_tr dp zi z36.toInt sh lt ts mf := ⟨hok.1, hok.2.1, hok.2.2.1, hok.2.2.2.1, ⟨by omega, by omega⟩, hok.2.2.2.2.2.1, hok.2.2.2.2.2.2.1, hok.2.2.2.2.2.2.2.1, hok.2.2.2.2.2.2.2.2⟩
    subst hZ
    exact tz_ret (W.vret hx hb hr (fun t ht hW => ⟨⟨fun v9 hv9 => by cases hv9; exact (Or.inl ⟨t51p_tr, z36.toInt, rfl, ho37, by omega, by omega, by omega, by rw [ht]; exact hI.1⟩), fun x9 hx9 => (by cases hx9)⟩, hI.2.F ht⟩) hI.2.2.2 d_Mo_number_71)
  have j51z : ∀ (H : Heap) (locs : List Loc) (ls : Array Slot) (v51z_2 : Int32) (t51z_zi : Int), sI (dC, dI) vcl cI cJ (gsM a th tr dp t51z_zi co sh lt ts mf) A s.heap H locs → okM th tr dp t51z_zi co sh lt ts mf → 0 ≤ v51z_2.toInt → v51z_2.toInt ≤ 65535 → tr ≤ 0 → lv_has ls 3 [(0, .ref (a 0)), (1, .int x1), (2, .int v51z_2)] → W p l e (headSpec tw_tbl rm_Mo_number).room s m ([.ref (a 0), .int x1] : List Value).toArray below meth c H locs 0 0 Z (F0 m 51 ls []) := by
    intro H locs ls v51z_2 t51z_zi hI hok g51_0 g51_1 g51_2 hl
    obtain ⟨⟨o38, o39⟩, ⟨o40, o41⟩, ⟨o42, o43⟩, ⟨o44, o45⟩, ⟨o46, o47⟩, ⟨o48, o49⟩, ⟨o50, o51⟩, ⟨o52, o53⟩, -⟩ := id hok
    refine lv_aload_n hx hb d_Mo_number_51 rfl (lv_at hl 0 rfl) ?_
    refine sv_getr (C := "StoryMachineModel") (T := T_Mo) (N := 51) hx hb hts in_Mo hown hK hI 0 kM_0 rfl 39 (by decide) (hts _ mw_1102) rfl d_Mo_number_52 ?_
    refine lv_aload_n hx hb d_Mo_number_55 rfl (lv_at hl 0 rfl) ?_
    refine sv_gete (C := "StoryMachineModel") (T := T_Mo) (N := 51) hx hb hts in_Mo hown hK hI 0 kM_0 rfl 38 (by decide) (hts _ mw_1101) rfl d_Mo_number_56 (fun z54 hz54 => ?_)
    refine lv_iload_n hx hb d_Mo_number_59 rfl (lv_at hl 2 rfl) ?_
    refine sv_iastr hx hb hK (sh_in adM_map hAC) hI 18 kM_18 (by omega) (by omega) (by omega) (by omega) pM_18 d_Mo_number_60 (fun H locs hI => ?_)
    refine lv_aload_n hx hb d_Mo_number_61 rfl (lv_at hl 0 rfl) ?_
    refine lv_dup hx hb d_Mo_number_62 rfl ?_
    refine sv_gete (C := "StoryMachineModel") (T := T_Mo) (N := 51) hx hb hts in_Mo hown hK hI 0 kM_0 rfl 38 (by decide) (hts _ mw_1101) rfl d_Mo_number_63 (fun z55 hz55 => ?_)
    refine sn_iconst hx hb d_Mo_number_66 (by decide) (fun z56 hz56 => ?_)
    refine sn_iadd hx hb d_Mo_number_67 (by omega) (by omega) (fun z57 hz57 => ?_)
    refine sv_put (C := "StoryMachineModel") (T := T_Mo) (N := 51) (ty := .int) hx hb hts in_Mo t_Mo tk_Mo nm_Mo hown hK (sh_in adM_map hAC) hI 0 kM_0 rfl 38 (by decide) (hts _ mw_1101) rfl (by decide +kernel) rfl rfl (Nat.le_of_ble_eq_true rfl) (Int.le_refl _) (Int.le_refl _) pM_0_38 d_Mo_number_68 (fun H locs hI => ?_)
    have ho58 : okM th tr dp t51z_zi z57.toInt sh lt ts mf := ⟨hok.1, hok.2.1, hok.2.2.1, hok.2.2.2.1, ⟨by omega, by omega⟩, hok.2.2.2.2.2.1, hok.2.2.2.2.2.2.1, hok.2.2.2.2.2.2.2.1, hok.2.2.2.2.2.2.2.2⟩
    subst hZ
    exact tz_ret (W.vret hx hb hr (fun t ht hW => ⟨⟨fun v9 hv9 => by cases hv9; exact (Or.inr (⟨t51z_zi, z57.toInt, rfl, ho58, by omega, by omega, by omega, by rw [ht]; exact hI.1⟩)), fun x9 hx9 => (by cases hx9)⟩, hI.2.F ht⟩) hI.2.2.2 d_Mo_number_71)
  refine sn_iconst hx hb d_Mo_number_0 (by decide) (fun z59 hz59 => ?_)
  refine lv_istore_n (lv' := [(2, .int z59), (0, .ref (a 0)), (1, .int x1)]) hx hb d_Mo_number_1 rfl hl (by decide) rfl (fun ls hl => ?_)
  refine lv_iload_n hx hb d_Mo_number_2 rfl (lv_at hl 2 rfl) ?_
  refine sn_if_ne (tgt := 28) hx hb d_Mo_number_3 (by decide) (fun b60 => ?_) (fun b60 => ?_)
  · refine lv_aload_n hx hb d_Mo_number_28 rfl (lv_at hl 1 rfl) ?_
    refine tz_call (A1 := ga (adM a) H.size) (tz_runV (C := "StoryMachineModel") (As := []) (rest := []) ⟨hx, hb, hml, hown, hts⟩ (c_Mo_code l hfl dC dI cI cJ a H.size th tr dp zi co sh lt ts mf  hok) (tx_cb (n := 0) hts rfl rfl ⟨Nat.le_of_ble_eq_true rfl, Nat.le_of_ble_eq_true rfl⟩ (tx_code.of (hts _ mw_1232)) (hts _ mw_12) (by decide +kernel) (hts _ mw_1229)) (hts _ mw_1231) (hts _ ms_Mo_code) ⟨tz_blind, sv_recv (q0 := 0) hts in_Mo hK hI kM_0 rfl, fun U hU hW => ⟨rfl, by rw [hU], by rw [hU]; exact hI.1, va_K.moved hW.alike hK, hst _ _ hI.2 U hU hW⟩⟩ rfl rfl hl.1 rfl (lv_room (Nat.le_of_ble_eq_true rfl)) d_Mo_number_29 ⟨Nat.le_of_ble_eq_true rfl, Nat.le_of_ble_eq_true rfl⟩) hI.2 (fun q _ h => ga_sub hAC hA0 hI.2 q h) (ga_sub hAC hA0 hI.2) (fun v t H1 locs1 ht hWt hpost _ _ hS => ?_) (fun x t H1 locs1 ht hWt hpost _ _ hS => (hpost.2 x rfl).elim)
    rcases hpost.1 _ rfl with ⟨z61, t_tr62, hv, c63, c63_0, c63_1, c63_2, hI1⟩ | ⟨z64, hv, c65, c65_0, c65_1, c65_2, hI1⟩
    · cases hv
      have hI : sI (dC, dI) vcl cI cJ (gsM a th t_tr62 dp zi co sh lt ts mf) A s.heap H1 locs1 := ⟨by rw [← ht]; exact hI1, hS⟩
      obtain ⟨-, ⟨o66, o67⟩, -, -, -, -, -, -, -⟩ := id c63
      clear hpost hI1 hS ht hWt
      revert hI; generalize H1 = H; generalize locs1 = locs; intro hI
      refine lv_istore_n (lv' := [(2, .int z61), (0, .ref (a 0)), (1, .int x1)]) hx hb d_Mo_number_32 rfl hl (by decide) rfl (fun ls hl => ?_)
      refine lv_iload_n hx hb d_Mo_number_33 rfl (lv_at hl 2 rfl) ?_
      refine sn_iconst hx hb d_Mo_number_34 (by decide) (fun z68 hz68 => ?_)
      refine sn_icmp_ne (tgt := 51) hx hb d_Mo_number_35 (by decide) (fun b69 => ?_) (fun b69 => ?_)
      · exact j51p _ _ _ z61 t_tr62 hI c63 (by omega) (by omega) (by omega) (by omega) (lv_sub hl [1, 2, 0] rfl)
      · refine lv_aload_n hx hb d_Mo_number_38 rfl (lv_at hl 1 rfl) ?_
        refine sv_gete (C := "StoryMachineModel") (T := T_Mo) (N := 51) hx hb hts in_Mo hown hK hI 0 kM_0 rfl 25 (by decide) (hts _ mw_1088) rfl d_Mo_number_39 (fun z70 hz70 => ?_)
        refine sn_if_ne (tgt := 51) hx hb d_Mo_number_42 (by decide) (fun b71 => ?_) (fun b71 => ?_)
        · exact j51p _ _ _ z61 t_tr62 hI c63 (by omega) (by omega) (by omega) (by omega) (lv_sub hl [1, 2, 0] rfl)
        · omega
    · cases hv
      have hI : sI (dC, dI) vcl cI cJ (gsM a th tr dp zi co sh lt ts mf) A s.heap H1 locs1 := ⟨by rw [← ht]; exact hI1, hS⟩
      clear hpost hI1 hS ht hWt
      revert hI; generalize H1 = H; generalize locs1 = locs; intro hI
      refine lv_istore_n (lv' := [(2, .int z64), (0, .ref (a 0)), (1, .int x1)]) hx hb d_Mo_number_32 rfl hl (by decide) rfl (fun ls hl => ?_)
      refine lv_iload_n hx hb d_Mo_number_33 rfl (lv_at hl 2 rfl) ?_
      refine sn_iconst hx hb d_Mo_number_34 (by decide) (fun z72 hz72 => ?_)
      refine sn_icmp_ne (tgt := 51) hx hb d_Mo_number_35 (by decide) (fun b73 => ?_) (fun b73 => ?_)
      · exact j51z _ _ _ z64 zi hI c65 (by omega) (by omega) (by omega) (lv_sub hl [1, 2, 0] rfl)
      · refine lv_aload_n hx hb d_Mo_number_38 rfl (lv_at hl 1 rfl) ?_
        refine sv_gete (C := "StoryMachineModel") (T := T_Mo) (N := 51) hx hb hts in_Mo hown hK hI 0 kM_0 rfl 25 (by decide) (hts _ mw_1088) rfl d_Mo_number_39 (fun z74 hz74 => ?_)
        refine sn_if_ne (tgt := 51) hx hb d_Mo_number_42 (by decide) (fun b75 => ?_) (fun b75 => ?_)
        · omega
        · refine lv_aload_n hx hb d_Mo_number_45 rfl (lv_at hl 1 rfl) ?_
          refine lv_iload_n hx hb d_Mo_number_46 rfl (lv_at hl 0 rfl) ?_
          refine tz_call (A1 := ga (adM a) H.size) (tz_runV (C := "StoryMachineModel") (As := [.int z64]) (rest := []) ⟨hx, hb, hml, hown, hts⟩ (c_Mo_readVariable l hfl dC dI cI cJ a H.size th tr dp zi co sh lt ts mf z64 c65) (tx_cb (n := 1) hts rfl rfl ⟨Nat.le_of_ble_eq_true rfl, Nat.le_of_ble_eq_true rfl⟩ (tx_code.of (hts _ mw_1256)) (hts _ mw_12) (by decide +kernel) (hts _ mw_1253)) (hts _ mw_1255) (hts _ ms_Mo_readVariable) ⟨tz_blind, sv_recv (q0 := 0) hts in_Mo hK hI kM_0 rfl, fun U hU hW => ⟨rfl, by rw [hU], by rw [hU]; exact hI.1, va_K.moved hW.alike hK, hst _ _ hI.2 U hU hW⟩⟩ rfl rfl hl.1 rfl (lv_room (Nat.le_of_ble_eq_true rfl)) d_Mo_number_47 ⟨Nat.le_of_ble_eq_true rfl, Nat.le_of_ble_eq_true rfl⟩) hI.2 (fun q _ h => ga_sub hAC hA0 hI.2 q h) (ga_sub hAC hA0 hI.2) (fun v t H1 locs1 ht hWt hpost _ _ hS => ?_) (fun x t H1 locs1 ht hWt hpost _ _ hS => (hpost.2 x rfl).elim)
          rcases hpost.1 _ rfl with ⟨z76, t_tr77, hv, c78, c78_0, c78_1, c78_2, hI1⟩ | ⟨z79, t_zi80, hv, c81, c81_0, c81_1, c81_2, c81_3, hI1⟩
          · cases hv
            have hI : sI (dC, dI) vcl cI cJ (gsM a th t_tr77 dp zi co sh lt ts mf) A s.heap H1 locs1 := ⟨by rw [← ht]; exact hI1, hS⟩
            obtain ⟨-, ⟨o82, o83⟩, -, -, -, -, -, -, -⟩ := id c78
            clear hpost hI1 hS ht hWt
            revert hI; generalize H1 = H; generalize locs1 = locs; intro hI
            refine lv_istore_n (lv' := [(2, .int z76), (0, .ref (a 0)), (1, .int x1)]) hx hb d_Mo_number_50 rfl hl (by decide) rfl (fun ls hl => ?_)
            exact j51p _ _ _ z76 t_tr77 hI c78 (by omega) (by omega) (by omega) (by omega) (lv_sub hl [1, 2, 0] rfl)
          · cases hv
            have hI : sI (dC, dI) vcl cI cJ (gsM a th tr dp t_zi80 co sh lt ts mf) A s.heap H1 locs1 := ⟨by rw [← ht]; exact hI1, hS⟩
            obtain ⟨-, -, -, ⟨o84, o85⟩, -, -, -, -, -⟩ := id c81
            clear hpost hI1 hS ht hWt
            revert hI; generalize H1 = H; generalize locs1 = locs; intro hI
            refine lv_istore_n (lv' := [(2, .int z79), (0, .ref (a 0)), (1, .int x1)]) hx hb d_Mo_number_50 rfl hl (by decide) rfl (fun ls hl => ?_)
            exact j51z _ _ _ z79 t_zi80 hI c81 (by omega) (by omega) (by omega) (lv_sub hl [1, 2, 0] rfl)
  · refine lv_aload_n hx hb d_Mo_number_6 rfl (lv_at hl 1 rfl) ?_
    refine lv_aload_n hx hb d_Mo_number_7 rfl (lv_at hl 1 rfl) ?_
    refine sv_get (C := "StoryMachineModel") (T := T_Mo) (N := 51) hx hb hts in_Mo hown hK hI 0 kM_0 rfl 28 (by decide) (hts _ mw_1091) rfl d_Mo_number_8 (fun z86 hz86a hz86b => ?_)
    refine tz_call (A1 := ga (adM a) H.size) (tz_runV (C := "StoryMachineModel") (As := [.int z86]) (rest := []) ⟨hx, hb, hml, hown, hts⟩ (c_Mo_wordAt l hfl dC dI cI cJ a H.size th tr dp zi co sh lt ts mf z86 hok) (tx_cb (n := 1) hts rfl rfl ⟨Nat.le_of_ble_eq_true rfl, Nat.le_of_ble_eq_true rfl⟩ (tx_code.of (hts _ mw_1252)) (hts _ mw_12) (by decide +kernel) (hts _ mw_1249)) (hts _ mw_1251) (hts _ ms_Mo_wordAt) ⟨tz_blind, sv_recv (q0 := 0) hts in_Mo hK hI kM_0 rfl, fun U hU hW => ⟨rfl, by rw [hU], by rw [hU]; exact hI.1, va_K.moved hW.alike hK, hst _ _ hI.2 U hU hW⟩⟩ rfl rfl hl.1 rfl (lv_room (Nat.le_of_ble_eq_true rfl)) d_Mo_number_11 ⟨Nat.le_of_ble_eq_true rfl, Nat.le_of_ble_eq_true rfl⟩) hI.2 (fun q _ h => ga_sub hAC hA0 hI.2 q h) (ga_sub hAC hA0 hI.2) (fun v t H1 locs1 ht hWt hpost _ _ hS => ?_) (fun x t H1 locs1 ht hWt hpost _ _ hS => (hpost.2 x rfl).elim)
    rcases hpost.1 _ rfl with ⟨z87, t_tr88, hv, c89, c89_0, c89_1, c89_2, hI1⟩ | ⟨z90, hv, c91, c91_0, c91_1, c91_2, c91_3, c91_4, hI1⟩
    · cases hv
      have hI : sI (dC, dI) vcl cI cJ (gsM a th t_tr88 dp zi co sh lt ts mf) A s.heap H1 locs1 := ⟨by rw [← ht]; exact hI1, hS⟩
      obtain ⟨-, ⟨o92, o93⟩, -, -, -, -, -, -, -⟩ := id c89
      clear hpost hI1 hS ht hWt
      revert hI; generalize H1 = H; generalize locs1 = locs; intro hI
      refine lv_istore_n (lv' := [(2, .int z87), (0, .ref (a 0)), (1, .int x1)]) hx hb d_Mo_number_14 rfl hl (by decide) rfl (fun ls hl => ?_)
      refine lv_aload_n hx hb d_Mo_number_15 rfl (lv_at hl 1 rfl) ?_
      refine lv_aload_n hx hb d_Mo_number_16 rfl (lv_at hl 1 rfl) ?_
      refine sv_get (C := "StoryMachineModel") (T := T_Mo) (N := 51) hx hb hts in_Mo hown hK hI 0 kM_0 rfl 28 (by decide) (hts _ mw_1091) rfl d_Mo_number_17 (fun z94 hz94a hz94b => ?_)
      refine sn_iconst hx hb d_Mo_number_20 (by decide) (fun z95 hz95 => ?_)
      refine sn_iaddT hx hb d_Mo_number_21 (fun z96 hz96a hz96b => ?_)
      refine sv_put (C := "StoryMachineModel") (T := T_Mo) (N := 51) (ty := .int) hx hb hts in_Mo t_Mo tk_Mo nm_Mo hown hK (sh_in adM_map hAC) hI 0 kM_0 rfl 28 (by decide) (hts _ mw_1091) rfl (by decide +kernel) rfl rfl (Nat.le_of_ble_eq_true rfl) (by omega) (by omega) pM_0_28 d_Mo_number_22 (fun H locs hI => ?_)
      refine lv_goto (tgt := 51) hx hb d_Mo_number_25 (by decide) ?_
      exact j51p _ _ _ z87 t_tr88 hI c89 (by omega) (by omega) (by omega) (by omega) (lv_sub hl [1, 2, 0] rfl)
    · cases hv
      have hI : sI (dC, dI) vcl cI cJ (gsM a th tr dp zi co sh lt ts mf) A s.heap H1 locs1 := ⟨by rw [← ht]; exact hI1, hS⟩
      clear hpost hI1 hS ht hWt
      revert hI; generalize H1 = H; generalize locs1 = locs; intro hI
      refine lv_istore_n (lv' := [(2, .int z90), (0, .ref (a 0)), (1, .int x1)]) hx hb d_Mo_number_14 rfl hl (by decide) rfl (fun ls hl => ?_)
      refine lv_aload_n hx hb d_Mo_number_15 rfl (lv_at hl 1 rfl) ?_
      refine lv_aload_n hx hb d_Mo_number_16 rfl (lv_at hl 1 rfl) ?_
      refine sv_get (C := "StoryMachineModel") (T := T_Mo) (N := 51) hx hb hts in_Mo hown hK hI 0 kM_0 rfl 28 (by decide) (hts _ mw_1091) rfl d_Mo_number_17 (fun z97 hz97a hz97b => ?_)
      refine sn_iconst hx hb d_Mo_number_20 (by decide) (fun z98 hz98 => ?_)
      refine sn_iaddT hx hb d_Mo_number_21 (fun z99 hz99a hz99b => ?_)
      refine sv_put (C := "StoryMachineModel") (T := T_Mo) (N := 51) (ty := .int) hx hb hts in_Mo t_Mo tk_Mo nm_Mo hown hK (sh_in adM_map hAC) hI 0 kM_0 rfl 28 (by decide) (hts _ mw_1091) rfl (by decide +kernel) rfl rfl (Nat.le_of_ble_eq_true rfl) (by omega) (by omega) pM_0_28 d_Mo_number_22 (fun H locs hI => ?_)
      refine lv_goto (tgt := 51) hx hb d_Mo_number_25 (by decide) ?_
      exact j51z _ _ _ z90 zi hI c91 (by omega) (by omega) (by omega) (lv_sub hl [1, 2, 0] rfl)
abbrev q_Mo_readNumbers (dC : Nat → ClassId) (dI : Nat → Nat → Nat) (cI cJ : ClassId) (a : Nat → Nat) (th tr dp zi co sh lt ts : Int) (mf : Nat → Int32) (x1 : Int32) : Outcome → State → Prop := fun o t => (∀ v, o = .returned v → ((∃ (tr_ zi_ co_ : Int), v = none ∧ okM th tr_ dp zi_ co_ sh lt ts mf ∧ (1 ≤ tr_) ∧ sh_I (dC, dI) vcl cI cJ (gsM a th tr_ dp zi_ co_ sh lt ts mf) t.heap) ∨ (∃ (co_ : Int), v = none ∧ okM th tr dp zi co_ sh lt ts mf ∧ (176 ≤ x1.toInt) ∧ (x1.toInt ≤ 191) ∧ (co_ ≤ 0) ∧ sh_I (dC, dI) vcl cI cJ (gsM a th tr dp zi co_ sh lt ts mf) t.heap) ∨ (∃ (zi_ co_ : Int), v = none ∧ okM th tr dp zi_ co_ sh lt ts mf ∧ (tr ≤ 0) ∧ sh_I (dC, dI) vcl cI cJ (gsM a th tr dp zi_ co_ sh lt ts mf) t.heap))) ∧ (∀ x, o = .threw x → (False))
def rm_Mo_readNumbers : Room := { frames := 6, cells := 0, slots := 0, locals := 130 }
set_option maxHeartbeats 4000000 in
set_option maxRecDepth 100000 in
theorem c_Mo_readNumbers (l : Launch) (hfl : l.flags = pinnedFlags ++ [noTraceFlag]) (dC : Nat → ClassId) (dI : Nat → Nat → Nat) (cI cJ : ClassId) (a : Nat → Nat) (sz : Nat) (th tr dp zi co sh lt ts : Int) (mf : Nat → Int32) (x1 : Int32) (hok : okM th tr dp zi co sh lt ts mf) (hp0 : 0 ≤ x1.toInt) (hp1 : x1.toInt ≤ 255) : tz_Met l ⟨"StoryMachineModel", "readNumbers", "(I)V"⟩ tw_tbl rm_Mo_readNumbers (tzP (dC, dI) vcl cI cJ (gsM a th tr dp zi co sh lt ts mf) a (adM a) [.ref (a 0), .int x1] sz) (tq_Q (q_Mo_readNumbers dC dI cI cJ a th tr dp zi co sh lt ts mf x1) (ga (adM a) sz)) 0 0 0 0 (ga (adM a) sz) := by
  refine tz_ofW (cc := prog_13_method_38_code) (maxL := 5) (ret := none) (by decide) (tx_isM mw_1244) ?_
  intro p e s m args below meth c s₁ B hml hv
  obtain ⟨rfl, hsz, hI0, hK, hst0⟩ := hv
  have hx := B.exec
  have hb := B.bytes
  have hr := B.returns
  have hts := atoms_spec (ws := tw_tbl) B.pre
  have hown : s.vm.findClass "StoryMachineModel" = some m.cls := findClass_of_methodNamed B.named
  have hlocks := B.notSynchronized
  subst hsz
  have hst := fun (H : Heap) (locs : List Loc) (hS : va_S (ga (adM a) s.heap.size) s.heap H locs) (U : State) (hU : U.heap = H) (hW : s.WarmedH U.vm) => zS_all adM_map hI0 hst0 hS hU hW
  have hAC : ∀ q ∈ adM a, ga (adM a) s.heap.size q := fun q h => Or.inl h
  have hA0 : ∀ q, s.heap.size ≤ q → ga (adM a) s.heap.size q := fun q h => Or.inr h
  have hI : sI (dC, dI) vcl cI cJ (gsM a th tr dp zi co sh lt ts mf) (ga (adM a) s.heap.size) s.heap s.heap [] := ⟨hI0, va_S.rf⟩
  clear hI0 hst0
  have hl := lv_entry ([.ref (a 0), .int x1]) (n := 5) (Nat.le_of_ble_eq_true rfl)
  rw [lg_entry_eq]
  generalize (lg_sl ([.ref (a 0), .int x1]) ++ List.replicate (5 - (lg_sl ([.ref (a 0), .int x1])).length) Slot.unset).toArray = ls at hl ⊢
  have hl : lv_has ls 5 [(0, .ref (a 0)), (1, .int x1)] := hl
  generalize hZ : tz_MQ below (tq_Q (q_Mo_readNumbers dC dI cI cJ a th tr dp zi co sh lt ts mf x1) (ga (adM a) s.heap.size)) ([.ref (a 0), .int x1] : List Value).toArray s 0 0 0 0 (ga (adM a) s.heap.size) = Z
  obtain ⟨A, hAe⟩ : ∃ A, A = ga (adM a) s.heap.size := ⟨_, rfl⟩
  rw [← hAe] at hst hAC hA0 hI hZ
  refine sv_start hI (fun H locs hI => ?_)
  obtain ⟨⟨o1, o2⟩, ⟨o3, o4⟩, ⟨o5, o6⟩, ⟨o7, o8⟩, ⟨o9, o10⟩, ⟨o11, o12⟩, ⟨o13, o14⟩, ⟨o15, o16⟩, -⟩ := id hok
  have gx1 := sn_rng x1
  have j81p : ∀ (H : Heap) (locs : List Loc) (ls : Array Slot) (v81p_2 v81p_3 : Int32) (t81p_tr t81p_zi t81p_co : Int), sI (dC, dI) vcl cI cJ (gsM a th t81p_tr dp t81p_zi t81p_co sh lt ts mf) A s.heap H locs → okM th t81p_tr dp t81p_zi t81p_co sh lt ts mf → 0 ≤ v81p_2.toInt → v81p_2.toInt ≤ 255 → 0 ≤ v81p_3.toInt → v81p_3.toInt ≤ 64 → 1 ≤ t81p_tr → t81p_tr ≤ 4 → 192 ≤ x1.toInt → (v81p_3.toInt = 64 ∧ t81p_co = 0) ∨ (v81p_3.toInt = 16 ∧ t81p_co = 1) ∨ (v81p_3.toInt = 4 ∧ t81p_co = 2) ∨ (v81p_3.toInt = 1 ∧ t81p_co = 3) ∨ (v81p_3.toInt = 0 ∧ t81p_co = 4) → lv_has ls 5 [(0, .ref (a 0)), (1, .int x1), (2, .int v81p_2), (3, .int v81p_3)] → W p l e (headSpec tw_tbl rm_Mo_readNumbers).room s m ([.ref (a 0), .int x1] : List Value).toArray below meth c H locs 0 0 Z (F0 m 81 ls []) := by
    intro H locs ls v81p_2 v81p_3 t81p_tr t81p_zi t81p_co hI hok g81_0 g81_1 g81_2 g81_3 g81_4 g81_5 g81_6 g81_7 hl
    obtain ⟨⟨o17, o18⟩, ⟨o19, o20⟩, ⟨o21, o22⟩, ⟨o23, o24⟩, ⟨o25, o26⟩, ⟨o27, o28⟩, ⟨o29, o30⟩, ⟨o31, o32⟩, -⟩ := id hok
    refine lv_iload_n hx hb d_Mo_readNumbers_81 rfl (lv_at hl 3 rfl) ?_
    refine sn_if_le (tgt := 119) hx hb d_Mo_readNumbers_82 (by decide) (fun b33 => ?_) (fun b33 => ?_)
    · subst hZ
      exact tz_ret (W.vret hx hb hr (fun t ht hW => ⟨⟨fun v9 hv9 => by cases hv9; exact (Or.inl ⟨t81p_tr, t81p_zi, t81p_co, rfl, hok, by omega, by rw [ht]; exact hI.1⟩), fun x9 hx9 => (by cases hx9)⟩, hI.2.F ht⟩) hI.2.2.2 d_Mo_readNumbers_119)
    · refine lv_aload_n hx hb d_Mo_readNumbers_85 rfl (lv_at hl 0 rfl) ?_
      refine sv_gete (C := "StoryMachineModel") (T := T_Mo) (N := 51) hx hb hts in_Mo hown hK hI 0 kM_0 rfl 25 (by decide) (hts _ mw_1088) rfl d_Mo_readNumbers_86 (fun z34 hz34 => ?_)
      refine sn_if_ne (tgt := 119) hx hb d_Mo_readNumbers_89 (by decide) (fun b35 => ?_) (fun b35 => ?_)
      · subst hZ
        exact tz_ret (W.vret hx hb hr (fun t ht hW => ⟨⟨fun v9 hv9 => by cases hv9; exact (Or.inl ⟨t81p_tr, t81p_zi, t81p_co, rfl, hok, by omega, by rw [ht]; exact hI.1⟩), fun x9 hx9 => (by cases hx9)⟩, hI.2.F ht⟩) hI.2.2.2 d_Mo_readNumbers_119)
      · omega
  have j81z : ∀ (n : Nat) (H : Heap) (locs : List Loc) (ls : Array Slot) (v81z_2 v81z_3 : Int32) (t81z_zi t81z_co : Int), sI (dC, dI) vcl cI cJ (gsM a th tr dp t81z_zi t81z_co sh lt ts mf) A s.heap H locs → okM th tr dp t81z_zi t81z_co sh lt ts mf → 0 ≤ v81z_2.toInt → v81z_2.toInt ≤ 255 → 0 ≤ v81z_3.toInt → v81z_3.toInt ≤ 64 → tr ≤ 0 → 192 ≤ x1.toInt → (v81z_3.toInt = 64 ∧ t81z_co = 0) ∨ (v81z_3.toInt = 16 ∧ t81z_co = 1) ∨ (v81z_3.toInt = 4 ∧ t81z_co = 2) ∨ (v81z_3.toInt = 1 ∧ t81z_co = 3) ∨ (v81z_3.toInt = 0 ∧ t81z_co = 4) → lv_has ls 5 [(0, .ref (a 0)), (1, .int x1), (2, .int v81z_2), (3, .int v81z_3)] → v81z_3.toInt < (n : Int) → W p l e (headSpec tw_tbl rm_Mo_readNumbers).room s m ([.ref (a 0), .int x1] : List Value).toArray below meth c H locs 0 0 Z (F0 m 81 ls []) := by
    intro n
    induction n with
    | zero => intro H locs ls v81z_2 v81z_3 t81z_zi t81z_co hI hok g81_0 g81_1 g81_2 g81_3 g81_4 g81_5 g81_6 hl hme; exfalso; obtain ⟨⟨o36, o37⟩, ⟨o38, o39⟩, ⟨o40, o41⟩, ⟨o42, o43⟩, ⟨o44, o45⟩, ⟨o46, o47⟩, ⟨o48, o49⟩, ⟨o50, o51⟩, -⟩ := id hok; omega
    | succ n ih =>
      intro H locs ls v81z_2 v81z_3 t81z_zi t81z_co hI hok g81_0 g81_1 g81_2 g81_3 g81_4 g81_5 g81_6 hl hme
      obtain ⟨⟨o52, o53⟩, ⟨o54, o55⟩, ⟨o56, o57⟩, ⟨o58, o59⟩, ⟨o60, o61⟩, ⟨o62, o63⟩, ⟨o64, o65⟩, ⟨o66, o67⟩, -⟩ := id hok
      refine lv_iload_n hx hb d_Mo_readNumbers_81 rfl (lv_at hl 3 rfl) ?_
      refine sn_if_le (tgt := 119) hx hb d_Mo_readNumbers_82 (by decide) (fun b68 => ?_) (fun b68 => ?_)
      · subst hZ
        exact tz_ret (W.vret hx hb hr (fun t ht hW => ⟨⟨fun v9 hv9 => by cases hv9; exact (Or.inr (Or.inr (⟨t81z_zi, t81z_co, rfl, hok, by omega, by rw [ht]; exact hI.1⟩))), fun x9 hx9 => (by cases hx9)⟩, hI.2.F ht⟩) hI.2.2.2 d_Mo_readNumbers_119)
      · refine lv_aload_n hx hb d_Mo_readNumbers_85 rfl (lv_at hl 0 rfl) ?_
        refine sv_gete (C := "StoryMachineModel") (T := T_Mo) (N := 51) hx hb hts in_Mo hown hK hI 0 kM_0 rfl 25 (by decide) (hts _ mw_1088) rfl d_Mo_readNumbers_86 (fun z69 hz69 => ?_)
        refine sn_if_ne (tgt := 119) hx hb d_Mo_readNumbers_89 (by decide) (fun b70 => ?_) (fun b70 => ?_)
        · omega
        · refine lv_iload_n hx hb d_Mo_readNumbers_92 rfl (lv_at hl 2 rfl) ?_
          refine lv_iload_n hx hb d_Mo_readNumbers_93 rfl (lv_at hl 3 rfl) ?_
          refine sn_idivT hx hb d_Mo_readNumbers_94 (by omega) (fun z71 hz71a hz71b => ?_)
          refine sn_iconst hx hb d_Mo_readNumbers_95 (by decide) (fun z72 hz72 => ?_)
          refine sn_iremT hx hb d_Mo_readNumbers_96 (by omega) (fun z73 hz73a hz73b => ?_)
          refine lv_istore (lv' := [(4, .int z73), (0, .ref (a 0)), (1, .int x1), (2, .int v81z_2), (3, .int v81z_3)]) hx hb d_Mo_readNumbers_97 hl (by decide) rfl (fun ls hl => ?_)
          refine lv_iload hx hb d_Mo_readNumbers_99 (lv_at hl 0 rfl) ?_
          refine sn_iconst hx hb d_Mo_readNumbers_101 (by decide) (fun z74 hz74 => ?_)
          refine sn_icmp_ne (tgt := 106) hx hb d_Mo_readNumbers_102 (by decide) (fun b75 => ?_) (fun b75 => ?_)
          · refine lv_aload_n hx hb d_Mo_readNumbers_106 rfl (lv_at hl 1 rfl) ?_
            refine lv_iload hx hb d_Mo_readNumbers_107 (lv_at hl 0 rfl) ?_
            refine tz_call (A1 := ga (adM a) H.size) (tz_runV (C := "StoryMachineModel") (As := [.int z73]) (rest := []) ⟨hx, hb, hml, hown, hts⟩ (c_Mo_number l hfl dC dI cI cJ a H.size th tr dp t81z_zi t81z_co sh lt ts mf z73 hok (by omega)) (tx_cb (n := 1) hts rfl rfl ⟨Nat.le_of_ble_eq_true rfl, Nat.le_of_ble_eq_true rfl⟩ (tx_code.of (hts _ mw_1248)) (hts _ mw_12) (by decide +kernel) (hts _ mw_1245)) (hts _ mw_1247) (hts _ ms_Mo_number) ⟨tz_blind, sv_recv (q0 := 0) hts in_Mo hK hI kM_0 rfl, fun U hU hW => ⟨rfl, by rw [hU], by rw [hU]; exact hI.1, va_K.moved hW.alike hK, hst _ _ hI.2 U hU hW⟩⟩ rfl rfl hl.1 rfl (lv_room (Nat.le_of_ble_eq_true rfl)) d_Mo_readNumbers_109 ⟨Nat.le_of_ble_eq_true rfl, Nat.le_of_ble_eq_true rfl⟩) hI.2 (fun q _ h => ga_sub hAC hA0 hI.2 q h) (ga_sub hAC hA0 hI.2) (fun v t H1 locs1 ht hWt hpost _ _ hS => ?_) (fun x t H1 locs1 ht hWt hpost _ _ hS => (hpost.2 x rfl).elim)
            rcases hpost.1 _ rfl with ⟨t_tr76, t_co77, hv, c78, c78_0, c78_1, c78_2, hI1⟩ | ⟨t_zi79, t_co80, hv, c81, c81_0, c81_1, c81_2, hI1⟩
            · cases hv
              have hI : sI (dC, dI) vcl cI cJ (gsM a th t_tr76 dp t81z_zi t_co77 sh lt ts mf) A s.heap H1 locs1 := ⟨by rw [← ht]; exact hI1, hS⟩
              obtain ⟨-, ⟨o82, o83⟩, -, -, ⟨o84, o85⟩, -, -, -, -⟩ := id c78
              clear hpost hI1 hS ht hWt
              revert hI; generalize H1 = H; generalize locs1 = locs; intro hI
              refine lv_iload_n hx hb d_Mo_readNumbers_112 rfl (lv_at hl 4 rfl) ?_
              refine sn_iconst hx hb d_Mo_readNumbers_113 (by decide) (fun z86 hz86 => ?_)
              refine sn_idiv (k := 4) hx hb d_Mo_readNumbers_114 (by omega) (by omega) (by omega) (fun z87 hz87 => ?_)
              refine lv_istore_n (lv' := [(3, .int z87), (4, .int z73), (0, .ref (a 0)), (1, .int x1), (2, .int v81z_2)]) hx hb d_Mo_readNumbers_115 rfl hl (by decide) rfl (fun ls hl => ?_)
              refine lv_goto (tgt := 81) hx hb d_Mo_readNumbers_116 (by decide) ?_
              exact j81p _ _ _ v81z_2 z87 t_tr76 t81z_zi t_co77 hI c78 (by omega) (by omega) (by omega) (by omega) (by omega) (by omega) (by omega) (by omega) (lv_sub hl [2, 3, 4, 0] rfl)
            · cases hv
              have hI : sI (dC, dI) vcl cI cJ (gsM a th tr dp t_zi79 t_co80 sh lt ts mf) A s.heap H1 locs1 := ⟨by rw [← ht]; exact hI1, hS⟩
              obtain ⟨-, -, -, ⟨o88, o89⟩, ⟨o90, o91⟩, -, -, -, -⟩ := id c81
              clear hpost hI1 hS ht hWt
              revert hI; generalize H1 = H; generalize locs1 = locs; intro hI
              refine lv_iload_n hx hb d_Mo_readNumbers_112 rfl (lv_at hl 4 rfl) ?_
              refine sn_iconst hx hb d_Mo_readNumbers_113 (by decide) (fun z92 hz92 => ?_)
              refine sn_idiv (k := 4) hx hb d_Mo_readNumbers_114 (by omega) (by omega) (by omega) (fun z93 hz93 => ?_)
              refine lv_istore_n (lv' := [(3, .int z93), (4, .int z73), (0, .ref (a 0)), (1, .int x1), (2, .int v81z_2)]) hx hb d_Mo_readNumbers_115 rfl hl (by decide) rfl (fun ls hl => ?_)
              refine lv_goto (tgt := 81) hx hb d_Mo_readNumbers_116 (by decide) ?_
              exact ih _ _ _ v81z_2 z93 t_zi79 t_co80 hI c81 (by omega) (by omega) (by omega) (by omega) (by omega) (by omega) (by omega) (lv_sub hl [2, 3, 4, 0] rfl) (by omega)
          · subst hZ
            exact tz_ret (W.vret hx hb hr (fun t ht hW => ⟨⟨fun v9 hv9 => by cases hv9; exact (Or.inr (Or.inr (⟨t81z_zi, t81z_co, rfl, hok, by omega, by rw [ht]; exact hI.1⟩))), fun x9 hx9 => (by cases hx9)⟩, hI.2.F ht⟩) hI.2.2.2 d_Mo_readNumbers_105)
  refine lv_aload_n hx hb d_Mo_readNumbers_0 rfl (lv_at hl 0 rfl) ?_
  refine sn_iconst hx hb d_Mo_readNumbers_1 (by decide) (fun z94 hz94 => ?_)
  refine sv_put (C := "StoryMachineModel") (T := T_Mo) (N := 51) (ty := .int) hx hb hts in_Mo t_Mo tk_Mo nm_Mo hown hK (sh_in adM_map hAC) hI 0 kM_0 rfl 38 (by decide) (hts _ mw_1101) rfl (by decide +kernel) rfl rfl (Nat.le_of_ble_eq_true rfl) (Int.le_refl _) (Int.le_refl _) pM_0_38 d_Mo_readNumbers_2 (fun H locs hI => ?_)
  refine lv_iload_n hx hb d_Mo_readNumbers_5 rfl (lv_at hl 1 rfl) ?_
  refine sn_sipush hx hb d_Mo_readNumbers_6 (by decide) (fun z95 hz95 => ?_)
  refine sn_icmp_ge (tgt := 46) hx hb d_Mo_readNumbers_9 (by decide) (fun b96 => ?_) (fun b96 => ?_)
  · refine lv_iload_n hx hb d_Mo_readNumbers_46 rfl (lv_at hl 1 rfl) ?_
    refine sn_sipush hx hb d_Mo_readNumbers_47 (by decide) (fun z97 hz97 => ?_)
    refine sn_icmp_ge (tgt := 66) hx hb d_Mo_readNumbers_50 (by decide) (fun b98 => ?_) (fun b98 => ?_)
    · refine lv_iload_n hx hb d_Mo_readNumbers_66 rfl (lv_at hl 1 rfl) ?_
      refine sn_sipush hx hb d_Mo_readNumbers_67 (by decide) (fun z99 hz99 => ?_)
      refine sn_icmp_le (tgt := 119) hx hb d_Mo_readNumbers_70 (by decide) (fun b100 => ?_) (fun b100 => ?_)
      · have ho101 : okM th tr dp zi z94.toInt sh lt ts mf := ⟨hok.1, hok.2.1, hok.2.2.1, hok.2.2.2.1, ⟨by omega, by omega⟩, hok.2.2.2.2.2.1, hok.2.2.2.2.2.2.1, hok.2.2.2.2.2.2.2.1, hok.2.2.2.2.2.2.2.2⟩
        subst hZ
        exact tz_ret (W.vret hx hb hr (fun t ht hW => ⟨⟨fun v9 hv9 => by cases hv9; exact (Or.inr (Or.inl ⟨z94.toInt, rfl, ho101, by omega, by omega, by omega, by rw [ht]; exact hI.1⟩)), fun x9 hx9 => (by cases hx9)⟩, hI.2.F ht⟩) hI.2.2.2 d_Mo_readNumbers_119)
      · refine lv_aload_n hx hb d_Mo_readNumbers_73 rfl (lv_at hl 0 rfl) ?_
        have ho102 : okM th tr dp zi z94.toInt sh lt ts mf := ⟨hok.1, hok.2.1, hok.2.2.1, hok.2.2.2.1, ⟨by omega, by omega⟩, hok.2.2.2.2.2.1, hok.2.2.2.2.2.2.1, hok.2.2.2.2.2.2.2.1, hok.2.2.2.2.2.2.2.2⟩
        refine tz_call (A1 := ga (adM a) H.size) (tz_runV (C := "StoryMachineModel") (As := []) (rest := []) ⟨hx, hb, hml, hown, hts⟩ (c_Mo_code l hfl dC dI cI cJ a H.size th tr dp zi z94.toInt sh lt ts mf  ho102) (tx_cb (n := 0) hts rfl rfl ⟨Nat.le_of_ble_eq_true rfl, Nat.le_of_ble_eq_true rfl⟩ (tx_code.of (hts _ mw_1232)) (hts _ mw_12) (by decide +kernel) (hts _ mw_1229)) (hts _ mw_1231) (hts _ ms_Mo_code) ⟨tz_blind, sv_recv (q0 := 0) hts in_Mo hK hI kM_0 rfl, fun U hU hW => ⟨rfl, by rw [hU], by rw [hU]; exact hI.1, va_K.moved hW.alike hK, hst _ _ hI.2 U hU hW⟩⟩ rfl rfl hl.1 rfl (lv_room (Nat.le_of_ble_eq_true rfl)) d_Mo_readNumbers_74 ⟨Nat.le_of_ble_eq_true rfl, Nat.le_of_ble_eq_true rfl⟩) hI.2 (fun q _ h => ga_sub hAC hA0 hI.2 q h) (ga_sub hAC hA0 hI.2) (fun v t H1 locs1 ht hWt hpost _ _ hS => ?_) (fun x t H1 locs1 ht hWt hpost _ _ hS => (hpost.2 x rfl).elim)
        rcases hpost.1 _ rfl with ⟨z103, t_tr104, hv, c105, c105_0, c105_1, c105_2, hI1⟩ | ⟨z106, hv, c107, c107_0, c107_1, c107_2, hI1⟩
        · cases hv
          have hI : sI (dC, dI) vcl cI cJ (gsM a th t_tr104 dp zi z94.toInt sh lt ts mf) A s.heap H1 locs1 := ⟨by rw [← ht]; exact hI1, hS⟩
          obtain ⟨-, ⟨o108, o109⟩, -, -, -, -, -, -, -⟩ := id c105
          clear hpost hI1 hS ht hWt
          revert hI; generalize H1 = H; generalize locs1 = locs; intro hI
          refine lv_istore_n (lv' := [(2, .int z103), (0, .ref (a 0)), (1, .int x1)]) hx hb d_Mo_readNumbers_77 rfl hl (by decide) rfl (fun ls hl => ?_)
          refine sn_bipush hx hb d_Mo_readNumbers_78 (by decide) (fun z110 hz110 => ?_)
          refine lv_istore_n (lv' := [(3, .int z110), (2, .int z103), (0, .ref (a 0)), (1, .int x1)]) hx hb d_Mo_readNumbers_80 rfl hl (by decide) rfl (fun ls hl => ?_)
          exact j81p _ _ _ z103 z110 t_tr104 zi z94.toInt hI c105 (by omega) (by omega) (by omega) (by omega) (by omega) (by omega) (by omega) (by omega) (lv_sub hl [2, 3, 1, 0] rfl)
        · cases hv
          have hI : sI (dC, dI) vcl cI cJ (gsM a th tr dp zi z94.toInt sh lt ts mf) A s.heap H1 locs1 := ⟨by rw [← ht]; exact hI1, hS⟩
          clear hpost hI1 hS ht hWt
          revert hI; generalize H1 = H; generalize locs1 = locs; intro hI
          refine lv_istore_n (lv' := [(2, .int z106), (0, .ref (a 0)), (1, .int x1)]) hx hb d_Mo_readNumbers_77 rfl hl (by decide) rfl (fun ls hl => ?_)
          refine sn_bipush hx hb d_Mo_readNumbers_78 (by decide) (fun z111 hz111 => ?_)
          refine lv_istore_n (lv' := [(3, .int z111), (2, .int z106), (0, .ref (a 0)), (1, .int x1)]) hx hb d_Mo_readNumbers_80 rfl hl (by decide) rfl (fun ls hl => ?_)
          exact j81z 65 _ _ _ z106 z111 zi z94.toInt hI c107 (by omega) (by omega) (by omega) (by omega) (by omega) (by omega) (by omega) (lv_sub hl [2, 3, 1, 0] rfl) (by omega)
    · refine lv_aload_n hx hb d_Mo_readNumbers_53 rfl (lv_at hl 0 rfl) ?_
      refine lv_iload_n hx hb d_Mo_readNumbers_54 rfl (lv_at hl 1 rfl) ?_
      refine sn_bipush hx hb d_Mo_readNumbers_55 (by decide) (fun z112 hz112 => ?_)
      refine sn_idiv (k := 16) hx hb d_Mo_readNumbers_57 (by omega) (by omega) (by omega) (fun z113 hz113 => ?_)
      refine sn_iconst hx hb d_Mo_readNumbers_58 (by decide) (fun z114 hz114 => ?_)
      refine sn_irem (k := 4) hx hb d_Mo_readNumbers_59 (by omega) (by omega) (by omega) (fun z115 hz115 => ?_)
      have ho116 : okM th tr dp zi z94.toInt sh lt ts mf := ⟨hok.1, hok.2.1, hok.2.2.1, hok.2.2.2.1, ⟨by omega, by omega⟩, hok.2.2.2.2.2.1, hok.2.2.2.2.2.2.1, hok.2.2.2.2.2.2.2.1, hok.2.2.2.2.2.2.2.2⟩
      refine tz_call (A1 := ga (adM a) H.size) (tz_runV (C := "StoryMachineModel") (As := [.int z115]) (rest := []) ⟨hx, hb, hml, hown, hts⟩ (c_Mo_number l hfl dC dI cI cJ a H.size th tr dp zi z94.toInt sh lt ts mf z115 ho116 (by omega)) (tx_cb (n := 1) hts rfl rfl ⟨Nat.le_of_ble_eq_true rfl, Nat.le_of_ble_eq_true rfl⟩ (tx_code.of (hts _ mw_1248)) (hts _ mw_12) (by decide +kernel) (hts _ mw_1245)) (hts _ mw_1247) (hts _ ms_Mo_number) ⟨tz_blind, sv_recv (q0 := 0) hts in_Mo hK hI kM_0 rfl, fun U hU hW => ⟨rfl, by rw [hU], by rw [hU]; exact hI.1, va_K.moved hW.alike hK, hst _ _ hI.2 U hU hW⟩⟩ rfl rfl hl.1 rfl (lv_room (Nat.le_of_ble_eq_true rfl)) d_Mo_readNumbers_60 ⟨Nat.le_of_ble_eq_true rfl, Nat.le_of_ble_eq_true rfl⟩) hI.2 (fun q _ h => ga_sub hAC hA0 hI.2 q h) (ga_sub hAC hA0 hI.2) (fun v t H1 locs1 ht hWt hpost _ _ hS => ?_) (fun x t H1 locs1 ht hWt hpost _ _ hS => (hpost.2 x rfl).elim)
      rcases hpost.1 _ rfl with ⟨t_tr117, t_co118, hv, c119, c119_0, c119_1, c119_2, hI1⟩ | ⟨t_zi120, t_co121, hv, c122, c122_0, c122_1, c122_2, hI1⟩
      · cases hv
        have hI : sI (dC, dI) vcl cI cJ (gsM a th t_tr117 dp zi t_co118 sh lt ts mf) A s.heap H1 locs1 := ⟨by rw [← ht]; exact hI1, hS⟩
        obtain ⟨-, ⟨o123, o124⟩, -, -, ⟨o125, o126⟩, -, -, -, -⟩ := id c119
        clear hpost hI1 hS ht hWt
        revert hI; generalize H1 = H; generalize locs1 = locs; intro hI
        refine lv_goto (tgt := 119) hx hb d_Mo_readNumbers_63 (by decide) ?_
        subst hZ
        exact tz_ret (W.vret hx hb hr (fun t ht hW => ⟨⟨fun v9 hv9 => by cases hv9; exact (Or.inl ⟨t_tr117, zi, t_co118, rfl, c119, by omega, by rw [ht]; exact hI.1⟩), fun x9 hx9 => (by cases hx9)⟩, hI.2.F ht⟩) hI.2.2.2 d_Mo_readNumbers_119)
      · cases hv
        have hI : sI (dC, dI) vcl cI cJ (gsM a th tr dp t_zi120 t_co121 sh lt ts mf) A s.heap H1 locs1 := ⟨by rw [← ht]; exact hI1, hS⟩
        obtain ⟨-, -, -, ⟨o127, o128⟩, ⟨o129, o130⟩, -, -, -, -⟩ := id c122
        clear hpost hI1 hS ht hWt
        revert hI; generalize H1 = H; generalize locs1 = locs; intro hI
        refine lv_goto (tgt := 119) hx hb d_Mo_readNumbers_63 (by decide) ?_
        subst hZ
        exact tz_ret (W.vret hx hb hr (fun t ht hW => ⟨⟨fun v9 hv9 => by cases hv9; exact (Or.inr (Or.inr (⟨t_zi120, t_co121, rfl, c122, by omega, by rw [ht]; exact hI.1⟩))), fun x9 hx9 => (by cases hx9)⟩, hI.2.F ht⟩) hI.2.2.2 d_Mo_readNumbers_119)
  · refine lv_aload_n hx hb d_Mo_readNumbers_12 rfl (lv_at hl 0 rfl) ?_
    refine lv_iload_n hx hb d_Mo_readNumbers_13 rfl (lv_at hl 1 rfl) ?_
    refine sn_bipush hx hb d_Mo_readNumbers_14 (by decide) (fun z131 hz131 => ?_)
    refine sn_idiv (k := 64) hx hb d_Mo_readNumbers_16 (by omega) (by omega) (by omega) (fun z132 hz132 => ?_)
    refine sn_iconst hx hb d_Mo_readNumbers_17 (by decide) (fun z133 hz133 => ?_)
    refine sn_irem (k := 2) hx hb d_Mo_readNumbers_18 (by omega) (by omega) (by omega) (fun z134 hz134 => ?_)
    refine sn_iconst hx hb d_Mo_readNumbers_19 (by decide) (fun z135 hz135 => ?_)
    refine sn_iadd hx hb d_Mo_readNumbers_20 (by omega) (by omega) (fun z136 hz136 => ?_)
    have ho137 : okM th tr dp zi z94.toInt sh lt ts mf := ⟨hok.1, hok.2.1, hok.2.2.1, hok.2.2.2.1, ⟨by omega, by omega⟩, hok.2.2.2.2.2.1, hok.2.2.2.2.2.2.1, hok.2.2.2.2.2.2.2.1, hok.2.2.2.2.2.2.2.2⟩
    refine tz_call (A1 := ga (adM a) H.size) (tz_runV (C := "StoryMachineModel") (As := [.int z136]) (rest := []) ⟨hx, hb, hml, hown, hts⟩ (c_Mo_number l hfl dC dI cI cJ a H.size th tr dp zi z94.toInt sh lt ts mf z136 ho137 (by omega)) (tx_cb (n := 1) hts rfl rfl ⟨Nat.le_of_ble_eq_true rfl, Nat.le_of_ble_eq_true rfl⟩ (tx_code.of (hts _ mw_1248)) (hts _ mw_12) (by decide +kernel) (hts _ mw_1245)) (hts _ mw_1247) (hts _ ms_Mo_number) ⟨tz_blind, sv_recv (q0 := 0) hts in_Mo hK hI kM_0 rfl, fun U hU hW => ⟨rfl, by rw [hU], by rw [hU]; exact hI.1, va_K.moved hW.alike hK, hst _ _ hI.2 U hU hW⟩⟩ rfl rfl hl.1 rfl (lv_room (Nat.le_of_ble_eq_true rfl)) d_Mo_readNumbers_21 ⟨Nat.le_of_ble_eq_true rfl, Nat.le_of_ble_eq_true rfl⟩) hI.2 (fun q _ h => ga_sub hAC hA0 hI.2 q h) (ga_sub hAC hA0 hI.2) (fun v t H1 locs1 ht hWt hpost _ _ hS => ?_) (fun x t H1 locs1 ht hWt hpost _ _ hS => (hpost.2 x rfl).elim)
    rcases hpost.1 _ rfl with ⟨t_tr138, t_co139, hv, c140, c140_0, c140_1, c140_2, hI1⟩ | ⟨t_zi141, t_co142, hv, c143, c143_0, c143_1, c143_2, hI1⟩
    · cases hv
      have hI : sI (dC, dI) vcl cI cJ (gsM a th t_tr138 dp zi t_co139 sh lt ts mf) A s.heap H1 locs1 := ⟨by rw [← ht]; exact hI1, hS⟩
      obtain ⟨-, ⟨o144, o145⟩, -, -, ⟨o146, o147⟩, -, -, -, -⟩ := id c140
      clear hpost hI1 hS ht hWt
      revert hI; generalize H1 = H; generalize locs1 = locs; intro hI
      refine lv_aload_n hx hb d_Mo_readNumbers_24 rfl (lv_at hl 0 rfl) ?_
      refine sv_gete (C := "StoryMachineModel") (T := T_Mo) (N := 51) hx hb hts in_Mo hown hK hI 0 kM_0 rfl 25 (by decide) (hts _ mw_1088) rfl d_Mo_readNumbers_25 (fun z148 hz148 => ?_)
      refine sn_if_ne (tgt := 119) hx hb d_Mo_readNumbers_28 (by decide) (fun b149 => ?_) (fun b149 => ?_)
      · subst hZ
        exact tz_ret (W.vret hx hb hr (fun t ht hW => ⟨⟨fun v9 hv9 => by cases hv9; exact (Or.inl ⟨t_tr138, zi, t_co139, rfl, c140, by omega, by rw [ht]; exact hI.1⟩), fun x9 hx9 => (by cases hx9)⟩, hI.2.F ht⟩) hI.2.2.2 d_Mo_readNumbers_119)
      · omega
    · cases hv
      have hI : sI (dC, dI) vcl cI cJ (gsM a th tr dp t_zi141 t_co142 sh lt ts mf) A s.heap H1 locs1 := ⟨by rw [← ht]; exact hI1, hS⟩
      obtain ⟨-, -, -, ⟨o150, o151⟩, ⟨o152, o153⟩, -, -, -, -⟩ := id c143
      clear hpost hI1 hS ht hWt
      revert hI; generalize H1 = H; generalize locs1 = locs; intro hI
      refine lv_aload_n hx hb d_Mo_readNumbers_24 rfl (lv_at hl 0 rfl) ?_
      refine sv_gete (C := "StoryMachineModel") (T := T_Mo) (N := 51) hx hb hts in_Mo hown hK hI 0 kM_0 rfl 25 (by decide) (hts _ mw_1088) rfl d_Mo_readNumbers_25 (fun z154 hz154 => ?_)
      refine sn_if_ne (tgt := 119) hx hb d_Mo_readNumbers_28 (by decide) (fun b155 => ?_) (fun b155 => ?_)
      · omega
      · refine lv_aload_n hx hb d_Mo_readNumbers_31 rfl (lv_at hl 0 rfl) ?_
        refine lv_iload_n hx hb d_Mo_readNumbers_32 rfl (lv_at hl 1 rfl) ?_
        refine sn_bipush hx hb d_Mo_readNumbers_33 (by decide) (fun z156 hz156 => ?_)
        refine sn_idiv (k := 32) hx hb d_Mo_readNumbers_35 (by omega) (by omega) (by omega) (fun z157 hz157 => ?_)
        refine sn_iconst hx hb d_Mo_readNumbers_36 (by decide) (fun z158 hz158 => ?_)
        refine sn_irem (k := 2) hx hb d_Mo_readNumbers_37 (by omega) (by omega) (by omega) (fun z159 hz159 => ?_)
        refine sn_iconst hx hb d_Mo_readNumbers_38 (by decide) (fun z160 hz160 => ?_)
        refine sn_iadd hx hb d_Mo_readNumbers_39 (by omega) (by omega) (fun z161 hz161 => ?_)
        refine tz_call (A1 := ga (adM a) H.size) (tz_runV (C := "StoryMachineModel") (As := [.int z161]) (rest := []) ⟨hx, hb, hml, hown, hts⟩ (c_Mo_number l hfl dC dI cI cJ a H.size th tr dp t_zi141 t_co142 sh lt ts mf z161 c143 (by omega)) (tx_cb (n := 1) hts rfl rfl ⟨Nat.le_of_ble_eq_true rfl, Nat.le_of_ble_eq_true rfl⟩ (tx_code.of (hts _ mw_1248)) (hts _ mw_12) (by decide +kernel) (hts _ mw_1245)) (hts _ mw_1247) (hts _ ms_Mo_number) ⟨tz_blind, sv_recv (q0 := 0) hts in_Mo hK hI kM_0 rfl, fun U hU hW => ⟨rfl, by rw [hU], by rw [hU]; exact hI.1, va_K.moved hW.alike hK, hst _ _ hI.2 U hU hW⟩⟩ rfl rfl hl.1 rfl (lv_room (Nat.le_of_ble_eq_true rfl)) d_Mo_readNumbers_40 ⟨Nat.le_of_ble_eq_true rfl, Nat.le_of_ble_eq_true rfl⟩) hI.2 (fun q _ h => ga_sub hAC hA0 hI.2 q h) (ga_sub hAC hA0 hI.2) (fun v t H1 locs1 ht hWt hpost _ _ hS => ?_) (fun x t H1 locs1 ht hWt hpost _ _ hS => (hpost.2 x rfl).elim)
        rcases hpost.1 _ rfl with ⟨t_tr162, t_co163, hv, c164, c164_0, c164_1, c164_2, hI1⟩ | ⟨t_zi165, t_co166, hv, c167, c167_0, c167_1, c167_2, hI1⟩
        · cases hv
          have hI : sI (dC, dI) vcl cI cJ (gsM a th t_tr162 dp t_zi141 t_co163 sh lt ts mf) A s.heap H1 locs1 := ⟨by rw [← ht]; exact hI1, hS⟩
          obtain ⟨-, ⟨o168, o169⟩, -, -, ⟨o170, o171⟩, -, -, -, -⟩ := id c164
          clear hpost hI1 hS ht hWt
          revert hI; generalize H1 = H; generalize locs1 = locs; intro hI
          refine lv_goto (tgt := 119) hx hb d_Mo_readNumbers_43 (by decide) ?_
          subst hZ
          exact tz_ret (W.vret hx hb hr (fun t ht hW => ⟨⟨fun v9 hv9 => by cases hv9; exact (Or.inl ⟨t_tr162, t_zi141, t_co163, rfl, c164, by omega, by rw [ht]; exact hI.1⟩), fun x9 hx9 => (by cases hx9)⟩, hI.2.F ht⟩) hI.2.2.2 d_Mo_readNumbers_119)
        · cases hv
          have hI : sI (dC, dI) vcl cI cJ (gsM a th tr dp t_zi165 t_co166 sh lt ts mf) A s.heap H1 locs1 := ⟨by rw [← ht]; exact hI1, hS⟩
          obtain ⟨-, -, -, ⟨o172, o173⟩, ⟨o174, o175⟩, -, -, -, -⟩ := id c167
          clear hpost hI1 hS ht hWt
          revert hI; generalize H1 = H; generalize locs1 = locs; intro hI
          refine lv_goto (tgt := 119) hx hb d_Mo_readNumbers_43 (by decide) ?_
          subst hZ
          exact tz_ret (W.vret hx hb hr (fun t ht hW => ⟨⟨fun v9 hv9 => by cases hv9; exact (Or.inr (Or.inr (⟨t_zi165, t_co166, rfl, c167, by omega, by rw [ht]; exact hI.1⟩))), fun x9 hx9 => (by cases hx9)⟩, hI.2.F ht⟩) hI.2.2.2 d_Mo_readNumbers_119)
abbrev q_Mo_listOf (dC : Nat → ClassId) (dI : Nat → Nat → Nat) (cI cJ : ClassId) (a : Nat → Nat) (th tr dp zi co sh lt ts : Int) (mf : Nat → Int32) (x0 : Int32) : Outcome → State → Prop := fun o t => (∀ v, o = .returned v → ((∃ (z : Int32), v = some (.int z) ∧ okM th tr dp zi co sh lt ts mf ∧ (0 ≤ z.toInt) ∧ (z.toInt ≤ 3) ∧ sh_I (dC, dI) vcl cI cJ (gsM a th tr dp zi co sh lt ts mf) t.heap))) ∧ (∀ x, o = .threw x → (False))
def rm_Mo_listOf : Room := { frames := 0, cells := 0, slots := 0, locals := 0 }
set_option maxHeartbeats 4000000 in
set_option maxRecDepth 100000 in
theorem c_Mo_listOf (l : Launch) (hfl : l.flags = pinnedFlags ++ [noTraceFlag]) (dC : Nat → ClassId) (dI : Nat → Nat → Nat) (cI cJ : ClassId) (a : Nat → Nat) (sz : Nat) (th tr dp zi co sh lt ts : Int) (mf : Nat → Int32) (x0 : Int32) (hok : okM th tr dp zi co sh lt ts mf) : tz_Met l ⟨"StoryMachineModel", "listOf", "(I)I"⟩ tw_tbl rm_Mo_listOf (tzP (dC, dI) vcl cI cJ (gsM a th tr dp zi co sh lt ts mf) a (adM a) [.int x0] sz) (tq_Q (q_Mo_listOf dC dI cI cJ a th tr dp zi co sh lt ts mf x0) (ga (adM a) sz)) 0 0 0 0 (ga (adM a) sz) := by
  refine tz_ofW (cc := prog_13_method_39_code) (maxL := 1) (ret := (some .int)) (by decide) (tx_isM mw_1267) ?_
  intro p e s m args below meth c s₁ B hml hv
  obtain ⟨rfl, hsz, hI0, hK, hst0⟩ := hv
  have hx := B.exec
  have hb := B.bytes
  have hr := B.returns
  have hts := atoms_spec (ws := tw_tbl) B.pre
  have hown : s.vm.findClass "StoryMachineModel" = some m.cls := findClass_of_methodNamed B.named
  have hlocks := B.notSynchronized
  subst hsz
  have hst := fun (H : Heap) (locs : List Loc) (hS : va_S (ga (adM a) s.heap.size) s.heap H locs) (U : State) (hU : U.heap = H) (hW : s.WarmedH U.vm) => zS_all adM_map hI0 hst0 hS hU hW
  have hAC : ∀ q ∈ adM a, ga (adM a) s.heap.size q := fun q h => Or.inl h
  have hA0 : ∀ q, s.heap.size ≤ q → ga (adM a) s.heap.size q := fun q h => Or.inr h
  have hI : sI (dC, dI) vcl cI cJ (gsM a th tr dp zi co sh lt ts mf) (ga (adM a) s.heap.size) s.heap s.heap [] := ⟨hI0, va_S.rf⟩
  clear hI0 hst0
  have hl := lv_entry ([.int x0]) (n := 1) (Nat.le_of_ble_eq_true rfl)
  rw [lg_entry_eq]
  generalize (lg_sl ([.int x0]) ++ List.replicate (1 - (lg_sl ([.int x0])).length) Slot.unset).toArray = ls at hl ⊢
  have hl : lv_has ls 1 [(0, .int x0)] := hl
  generalize hZ : tz_MQ below (tq_Q (q_Mo_listOf dC dI cI cJ a th tr dp zi co sh lt ts mf x0) (ga (adM a) s.heap.size)) ([.int x0] : List Value).toArray s 0 0 0 0 (ga (adM a) s.heap.size) = Z
  obtain ⟨A, hAe⟩ : ∃ A, A = ga (adM a) s.heap.size := ⟨_, rfl⟩
  rw [← hAe] at hst hAC hA0 hI hZ
  refine sv_start hI (fun H locs hI => ?_)
  obtain ⟨⟨o1, o2⟩, ⟨o3, o4⟩, ⟨o5, o6⟩, ⟨o7, o8⟩, ⟨o9, o10⟩, ⟨o11, o12⟩, ⟨o13, o14⟩, ⟨o15, o16⟩, -⟩ := id hok
  have gx0 := sn_rng x0
  have j21u : ∀ (H : Heap) (locs : List Loc) (ls : Array Slot), sI (dC, dI) vcl cI cJ (gsM a th tr dp zi co sh lt ts mf) A s.heap H locs → okM th tr dp zi co sh lt ts mf → x0.toInt ≤ 223 → lv_has ls 1 [(0, .int x0)] → W p l e (headSpec tw_tbl rm_Mo_listOf).room s m ([.int x0] : List Value).toArray below meth c H locs 0 0 Z (F0 m 21 ls []) := by
    intro H locs ls hI hok g21_0 hl
    obtain ⟨⟨o17, o18⟩, ⟨o19, o20⟩, ⟨o21, o22⟩, ⟨o23, o24⟩, ⟨o25, o26⟩, ⟨o27, o28⟩, ⟨o29, o30⟩, ⟨o31, o32⟩, -⟩ := id hok
    refine sn_iconst hx hb d_Mo_listOf_21 (by decide) (fun z33 hz33 => ?_)
    refine lv_goto (tgt := 48) hx hb d_Mo_listOf_22 (by decide) ?_
    subst hZ
    exact tz_ret (W.iret (v := z33) hx hb hr (fun t ht hW => ⟨⟨fun v9 hv9 => by cases hv9; exact (⟨z33, rfl, hok, by omega, by omega, by rw [ht]; exact hI.1⟩), fun x9 hx9 => (by cases hx9)⟩, hI.2.F ht⟩) hI.2.2.2 d_Mo_listOf_48)
  have j25u : ∀ (H : Heap) (locs : List Loc) (ls : Array Slot), sI (dC, dI) vcl cI cJ (gsM a th tr dp zi co sh lt ts mf) A s.heap H locs → okM th tr dp zi co sh lt ts mf → 128 ≤ x0.toInt → lv_has ls 1 [(0, .int x0)] → W p l e (headSpec tw_tbl rm_Mo_listOf).room s m ([.int x0] : List Value).toArray below meth c H locs 0 0 Z (F0 m 25 ls []) := by
    intro H locs ls hI hok g25_0 hl
    obtain ⟨⟨o34, o35⟩, ⟨o36, o37⟩, ⟨o38, o39⟩, ⟨o40, o41⟩, ⟨o42, o43⟩, ⟨o44, o45⟩, ⟨o46, o47⟩, ⟨o48, o49⟩, -⟩ := id hok
    refine lv_iload_n hx hb d_Mo_listOf_25 rfl (lv_at hl 0 rfl) ?_
    refine sn_sipush hx hb d_Mo_listOf_26 (by decide) (fun z50 hz50 => ?_)
    refine sn_icmp_ge (tgt := 36) hx hb d_Mo_listOf_29 (by decide) (fun b51 => ?_) (fun b51 => ?_)
    · refine lv_iload_n hx hb d_Mo_listOf_36 rfl (lv_at hl 0 rfl) ?_
      refine sn_sipush hx hb d_Mo_listOf_37 (by decide) (fun z52 hz52 => ?_)
      refine sn_icmp_ge (tgt := 47) hx hb d_Mo_listOf_40 (by decide) (fun b53 => ?_) (fun b53 => ?_)
      · refine sn_iconst hx hb d_Mo_listOf_47 (by decide) (fun z54 hz54 => ?_)
        subst hZ
        exact tz_ret (W.iret (v := z54) hx hb hr (fun t ht hW => ⟨⟨fun v9 hv9 => by cases hv9; exact (⟨z54, rfl, hok, by omega, by omega, by rw [ht]; exact hI.1⟩), fun x9 hx9 => (by cases hx9)⟩, hI.2.F ht⟩) hI.2.2.2 d_Mo_listOf_48)
      · refine sn_iconst hx hb d_Mo_listOf_43 (by decide) (fun z55 hz55 => ?_)
        refine lv_goto (tgt := 48) hx hb d_Mo_listOf_44 (by decide) ?_
        subst hZ
        exact tz_ret (W.iret (v := z55) hx hb hr (fun t ht hW => ⟨⟨fun v9 hv9 => by cases hv9; exact (⟨z55, rfl, hok, by omega, by omega, by rw [ht]; exact hI.1⟩), fun x9 hx9 => (by cases hx9)⟩, hI.2.F ht⟩) hI.2.2.2 d_Mo_listOf_48)
    · refine sn_iconst hx hb d_Mo_listOf_32 (by decide) (fun z56 hz56 => ?_)
      refine lv_goto (tgt := 48) hx hb d_Mo_listOf_33 (by decide) ?_
      subst hZ
      exact tz_ret (W.iret (v := z56) hx hb hr (fun t ht hW => ⟨⟨fun v9 hv9 => by cases hv9; exact (⟨z56, rfl, hok, by omega, by omega, by rw [ht]; exact hI.1⟩), fun x9 hx9 => (by cases hx9)⟩, hI.2.F ht⟩) hI.2.2.2 d_Mo_listOf_48)
  refine lv_iload_n hx hb d_Mo_listOf_0 rfl (lv_at hl 0 rfl) ?_
  refine sn_sipush hx hb d_Mo_listOf_1 (by decide) (fun z57 hz57 => ?_)
  refine sn_icmp_lt (tgt := 21) hx hb d_Mo_listOf_4 (by decide) (fun b58 => ?_) (fun b58 => ?_)
  · exact j21u _ _ _  hI hok (by omega) (lv_sub hl [0] rfl)
  · refine lv_iload_n hx hb d_Mo_listOf_7 rfl (lv_at hl 0 rfl) ?_
    refine sn_sipush hx hb d_Mo_listOf_8 (by decide) (fun z59 hz59 => ?_)
    refine sn_icmp_le (tgt := 25) hx hb d_Mo_listOf_11 (by decide) (fun b60 => ?_) (fun b60 => ?_)
    · exact j25u _ _ _  hI hok (by omega) (lv_sub hl [0] rfl)
    · refine lv_iload_n hx hb d_Mo_listOf_14 rfl (lv_at hl 0 rfl) ?_
      refine sn_sipush hx hb d_Mo_listOf_15 (by decide) (fun z61 hz61 => ?_)
      refine sn_icmp_ge (tgt := 25) hx hb d_Mo_listOf_18 (by decide) (fun b62 => ?_) (fun b62 => ?_)
      · exact j25u _ _ _  hI hok (by omega) (lv_sub hl [0] rfl)
      · exact j21u _ _ _  hI hok (by omega) (lv_sub hl [0] rfl)
