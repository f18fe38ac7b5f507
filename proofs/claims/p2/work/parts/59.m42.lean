abbrev q_Mo_readLine (dC : Nat → ClassId) (dI : Nat → Nat → Nat) (cI cJ : ClassId) (a : Nat → Nat) (th tr dp zi co sh lt ts : Int) (mf : Nat → Int32) (x1 : Int32) (x2 : Int32) : Outcome → State → Prop := fun o t => (∀ v, o = .returned v → ((∃ (tr_ lt_ : Int) (mf_ : Nat → Int32), v = none ∧ okM th tr_ dp zi co sh lt_ ts mf_ ∧ (1 ≤ tr_) ∧ sh_I (dC, dI) vcl cI cJ (gsM a th tr_ dp zi co sh lt_ ts mf_) t.heap) ∨ (∃ (lt_ : Int) (mf_ : Nat → Int32), v = none ∧ okM th tr dp zi co sh lt_ ts mf_ ∧ (x1.toInt ≤ 511) ∧ (x2.toInt ≤ 511) ∧ (tr ≤ 0) ∧ sh_I (dC, dI) vcl cI cJ (gsM a th tr dp zi co sh lt_ ts mf_) t.heap))) ∧ (∀ x, o = .threw x → (False))
def rm_Mo_readLine : Room := { frames := 6, cells := 0, slots := 0, locals := 139 }
set_option maxHeartbeats 4000000 in
set_option maxRecDepth 100000 in
theorem c_Mo_readLine (l : Launch) (hfl : l.flags = pinnedFlags ++ [noTraceFlag]) (dC : Nat → ClassId) (dI : Nat → Nat → Nat) (cI cJ : ClassId) (a : Nat → Nat) (sz : Nat) (th tr dp zi co sh lt ts : Int) (mf : Nat → Int32) (x1 : Int32) (x2 : Int32) (hok : okM th tr dp zi co sh lt ts mf) (hp0 : 0 ≤ x1.toInt) (hp1 : x1.toInt ≤ 65535) (hp2 : 0 ≤ x2.toInt) (hp3 : x2.toInt ≤ 65535) : tz_Met l ⟨"StoryMachineModel", "readLine", "(II)V"⟩ tw_tbl rm_Mo_readLine (tzP (dC, dI) vcl cI cJ (gsM a th tr dp zi co sh lt ts mf) a (adM a) [.ref (a 0), .int x1, .int x2] sz) (tq_Q (q_Mo_readLine dC dI cI cJ a th tr dp zi co sh lt ts mf x1 x2) (ga (adM a) sz)) 0 0 0 0 (ga (adM a) sz) := by
  refine tz_ofW (cc := prog_13_method_62_code) (maxL := 8) (ret := none) (by decide) (tx_isM mw_1452) ?_
  intro p e s m args below meth c s₁ B hml hv
  obtain ⟨rfl, hsz, hI0, hK, hst0⟩ := hv
  have hx := B.exec
  have hb := B.bytes
  have hr := B.returns
  have hts := atoms_spec (ws := tw_tbl) B.pre
  have hown : s.vm.findClass "StoryMachineModel" = some m.cls := findClass_of_methodNamed B.named
  have hlocks := B.notSynchronized
  subst hsz
  have hst := fun (H : Heap) (locs : List Loc) (hS : va_S (ga (adM a) s.heap.size) s.heap H locs) (U : State) (hU : U.heap = H) (hW : s.WarmedH U.vm) => zS_all adM_map hI0 hst0 hS hU hW
  have hAC : ∀ q ∈ adM a, ga (adM a) s.heap.size q := fun q h => Or.inl h
  have hA0 : ∀ q, s.heap.size ≤ q → ga (adM a) s.heap.size q := fun q h => Or.inr h
  have hI : sI (dC, dI) vcl cI cJ (gsM a th tr dp zi co sh lt ts mf) (ga (adM a) s.heap.size) s.heap s.heap [] := ⟨hI0, va_S.rf⟩
  clear hI0 hst0
  have hl := lv_entry ([.ref (a 0), .int x1, .int x2]) (n := 8) (Nat.le_of_ble_eq_true rfl)
  rw [lg_entry_eq]
  generalize (lg_sl ([.ref (a 0), .int x1, .int x2]) ++ List.replicate (8 - (lg_sl ([.ref (a 0), .int x1, .int x2])).length) Slot.unset).toArray = ls at hl ⊢
  have hl : lv_has ls 8 [(0, .ref (a 0)), (1, .int x1), (2, .int x2)] := hl
  generalize hZ : tz_MQ below (tq_Q (q_Mo_readLine dC dI cI cJ a th tr dp zi co sh lt ts mf x1 x2) (ga (adM a) s.heap.size)) ([.ref (a 0), .int x1, .int x2] : List Value).toArray s 0 0 0 0 (ga (adM a) s.heap.size) = Z
  obtain ⟨A, hAe⟩ : ∃ A, A = ga (adM a) s.heap.size := ⟨_, rfl⟩
  rw [← hAe] at hst hAC hA0 hI hZ
  refine sv_start hI (fun H locs hI => ?_)
  obtain ⟨⟨o1, o2⟩, ⟨o3, o4⟩, ⟨o5, o6⟩, ⟨o7, o8⟩, ⟨o9, o10⟩, ⟨o11, o12⟩, ⟨o13, o14⟩, ⟨o15, o16⟩, -⟩ := id hok
  have gx1 := sn_rng x1
  have gx2 := sn_rng x2
  have j32p : ∀ (n : Nat) (H : Heap) (locs : List Loc) (ls : Array Slot) (v32p_3 v32p_4 v32p_5 : Int32) (t32p_tr : Int) (t32p_mf : Nat → Int32), sI (dC, dI) vcl cI cJ (gsM a th t32p_tr dp zi co sh lt ts t32p_mf) A s.heap H locs → okM th t32p_tr dp zi co sh lt ts t32p_mf → 0 ≤ v32p_3.toInt → v32p_3.toInt ≤ 255 → 0 ≤ v32p_4.toInt → v32p_4.toInt ≤ 24 → 0 ≤ v32p_5.toInt → v32p_5.toInt ≤ 24 → 1 ≤ t32p_tr → t32p_tr ≤ 4 → lv_has ls 8 [(0, .ref (a 0)), (1, .int x1), (2, .int x2), (3, .int v32p_3), (4, .int v32p_4), (5, .int v32p_5)] → 24 - v32p_5.toInt < (n : Int) → W p l e (headSpec tw_tbl rm_Mo_readLine).room s m ([.ref (a 0), .int x1, .int x2] : List Value).toArray below meth c H locs 0 0 Z (F0 m 32 ls []) := by
    intro n
    induction n with
    | zero => intro H locs ls v32p_3 v32p_4 v32p_5 t32p_tr t32p_mf hI hok g32_0 g32_1 g32_2 g32_3 g32_4 g32_5 g32_6 g32_7 hl hme; exfalso; obtain ⟨⟨o17, o18⟩, ⟨o19, o20⟩, ⟨o21, o22⟩, ⟨o23, o24⟩, ⟨o25, o26⟩, ⟨o27, o28⟩, ⟨o29, o30⟩, ⟨o31, o32⟩, -⟩ := id hok; omega
    | succ n ih =>
      intro H locs ls v32p_3 v32p_4 v32p_5 t32p_tr t32p_mf hI hok g32_0 g32_1 g32_2 g32_3 g32_4 g32_5 g32_6 g32_7 hl hme
      obtain ⟨⟨o33, o34⟩, ⟨o35, o36⟩, ⟨o37, o38⟩, ⟨o39, o40⟩, ⟨o41, o42⟩, ⟨o43, o44⟩, ⟨o45, o46⟩, ⟨o47, o48⟩, -⟩ := id hok
      refine lv_iload hx hb d_Mo_readLine_32 (lv_at hl 5 rfl) ?_
      refine lv_iload hx hb d_Mo_readLine_34 (lv_at hl 4 rfl) ?_
      refine sn_icmp_ge (tgt := 99) hx hb d_Mo_readLine_36 (by decide) (fun b49 => ?_) (fun b49 => ?_)
      · refine lv_aload_n hx hb d_Mo_readLine_99 rfl (lv_at hl 0 rfl) ?_
        refine lv_iload_n hx hb d_Mo_readLine_100 rfl (lv_at hl 1 rfl) ?_
        refine sn_iconst hx hb d_Mo_readLine_101 (by decide) (fun z50 hz50 => ?_)
        refine sn_iadd hx hb d_Mo_readLine_102 (by omega) (by omega) (fun z51 hz51 => ?_)
        refine lv_iload hx hb d_Mo_readLine_103 (lv_at hl 4 rfl) ?_
        refine sn_iadd hx hb d_Mo_readLine_105 (by omega) (by omega) (fun z52 hz52 => ?_)
        refine sn_iconst hx hb d_Mo_readLine_106 (by decide) (fun z53 hz53 => ?_)
        refine tz_call (A1 := ga (adM a) H.size) (tz_runV (C := "StoryMachineModel") (As := [.int z52, .int z53]) (rest := []) ⟨hx, hb, hml, hown, hts⟩ (c_Mo_setByte l hfl dC dI cI cJ a H.size th t32p_tr dp zi co sh lt ts t32p_mf z52 z53 hok) (tx_cb (n := 2) hts rfl rfl ⟨Nat.le_of_ble_eq_true rfl, Nat.le_of_ble_eq_true rfl⟩ (tx_code.of (hts _ mw_1353)) (hts _ mw_12) (by decide +kernel) (hts _ mw_1350)) (hts _ mw_1352) (hts _ ms_Mo_setByte) ⟨tz_blind, sv_recv (q0 := 0) hts in_Mo hK hI kM_0 rfl, fun U hU hW => ⟨rfl, by rw [hU], by rw [hU]; exact hI.1, va_K.moved hW.alike hK, hst _ _ hI.2 U hU hW⟩⟩ rfl rfl hl.1 rfl (lv_room (Nat.le_of_ble_eq_true rfl)) d_Mo_readLine_107 ⟨Nat.le_of_ble_eq_true rfl, Nat.le_of_ble_eq_true rfl⟩) hI.2 (fun q _ h => ga_sub hAC hA0 hI.2 q h) (ga_sub hAC hA0 hI.2) (fun v t H1 locs1 ht hWt hpost _ _ hS => ?_) (fun x t H1 locs1 ht hWt hpost _ _ hS => (hpost.2 x rfl).elim)
        rcases hpost.1 _ rfl with ⟨t_tr54, hv, c55, c55_0, hI1⟩ | ⟨f_mf56, hv, c57, c57_0, c57_1, c57_2, hI1⟩
        · cases hv
          have hI : sI (dC, dI) vcl cI cJ (gsM a th t_tr54 dp zi co sh lt ts t32p_mf) A s.heap H1 locs1 := ⟨by rw [← ht]; exact hI1, hS⟩
          obtain ⟨-, ⟨o58, o59⟩, -, -, -, -, -, -, -⟩ := id c55
          clear hpost hI1 hS ht hWt
          revert hI; generalize H1 = H; generalize locs1 = locs; intro hI
          refine lv_aload_n hx hb d_Mo_readLine_110 rfl (lv_at hl 0 rfl) ?_
          refine lv_iload_n hx hb d_Mo_readLine_111 rfl (lv_at hl 2 rfl) ?_
          refine tz_call (A1 := ga (adM a) H.size) (tz_runV (C := "StoryMachineModel") (As := [.int x2]) (rest := []) ⟨hx, hb, hml, hown, hts⟩ (c_Mo_byteAt l hfl dC dI cI cJ a H.size th t_tr54 dp zi co sh lt ts t32p_mf x2 c55) (tx_cb (n := 1) hts rfl rfl ⟨Nat.le_of_ble_eq_true rfl, Nat.le_of_ble_eq_true rfl⟩ (tx_code.of (hts _ mw_1236)) (hts _ mw_12) (by decide +kernel) (hts _ mw_1233)) (hts _ mw_1235) (hts _ ms_Mo_byteAt) ⟨tz_blind, sv_recv (q0 := 0) hts in_Mo hK hI kM_0 rfl, fun U hU hW => ⟨rfl, by rw [hU], by rw [hU]; exact hI.1, va_K.moved hW.alike hK, hst _ _ hI.2 U hU hW⟩⟩ rfl rfl hl.1 rfl (lv_room (Nat.le_of_ble_eq_true rfl)) d_Mo_readLine_112 ⟨Nat.le_of_ble_eq_true rfl, Nat.le_of_ble_eq_true rfl⟩) hI.2 (fun q _ h => ga_sub hAC hA0 hI.2 q h) (ga_sub hAC hA0 hI.2) (fun v t H1 locs1 ht hWt hpost _ _ hS => ?_) (fun x t H1 locs1 ht hWt hpost _ _ hS => (hpost.2 x rfl).elim)
          rcases hpost.1 _ rfl with ⟨z60, t_tr61, hv, c62, c62_0, c62_1, c62_2, hI1⟩ | ⟨z63, hv, c64, c64_0, c64_1, c64_2, c64_3, c64_4, hI1⟩
          · cases hv
            have hI : sI (dC, dI) vcl cI cJ (gsM a th t_tr61 dp zi co sh lt ts t32p_mf) A s.heap H1 locs1 := ⟨by rw [← ht]; exact hI1, hS⟩
            obtain ⟨-, ⟨o65, o66⟩, -, -, -, -, -, -, -⟩ := id c62
            clear hpost hI1 hS ht hWt
            revert hI; generalize H1 = H; generalize locs1 = locs; intro hI
            refine lv_istore (lv' := [(5, .int z60), (0, .ref (a 0)), (1, .int x1), (2, .int x2), (3, .int v32p_3), (4, .int v32p_4)]) hx hb d_Mo_readLine_115 hl (by decide) rfl (fun ls hl => ?_)
            refine lv_aload_n hx hb d_Mo_readLine_117 rfl (lv_at hl 1 rfl) ?_
            refine sv_gete (C := "StoryMachineModel") (T := T_Mo) (N := 51) hx hb hts in_Mo hown hK hI 0 kM_0 rfl 25 (by decide) (hts _ mw_1088) rfl d_Mo_readLine_118 (fun z67 hz67 => ?_)
            refine sn_if_le (tgt := 125) hx hb d_Mo_readLine_121 (by decide) (fun b68 => ?_) (fun b68 => ?_)
            · omega
            · subst hZ
              exact tz_ret (W.vret hx hb hr (fun t ht hW => ⟨⟨fun v9 hv9 => by cases hv9; exact (Or.inl ⟨t_tr61, lt, t32p_mf, rfl, c62, by omega, by rw [ht]; exact hI.1⟩), fun x9 hx9 => (by cases hx9)⟩, hI.2.F ht⟩) hI.2.2.2 d_Mo_readLine_124)
          · omega
        · omega
      · refine lv_aload_n hx hb d_Mo_readLine_39 rfl (lv_at hl 0 rfl) ?_
        refine lv_iload_n hx hb d_Mo_readLine_40 rfl (lv_at hl 1 rfl) ?_
        refine sn_iconst hx hb d_Mo_readLine_41 (by decide) (fun z69 hz69 => ?_)
        refine sn_iadd hx hb d_Mo_readLine_42 (by omega) (by omega) (fun z70 hz70 => ?_)
        refine lv_iload hx hb d_Mo_readLine_43 (lv_at hl 5 rfl) ?_
        refine sn_iadd hx hb d_Mo_readLine_45 (by omega) (by omega) (fun z71 hz71 => ?_)
        refine lv_aload_n hx hb d_Mo_readLine_46 rfl (lv_at hl 0 rfl) ?_
        refine sv_getr (C := "StoryMachineModel") (T := T_Mo) (N := 51) hx hb hts in_Mo hown hK hI 0 kM_0 rfl 37 (by decide) (hts _ mw_1100) rfl d_Mo_readLine_47 ?_
        refine lv_iload hx hb d_Mo_readLine_50 (lv_at hl 5 rfl) ?_
        refine sv_ialdr hx hb hK hI 17 kM_17 (by omega) (by omega) d_Mo_readLine_52 (fun z72 hz72a hz72b => ?_)
        refine sn_bipush hx hb d_Mo_readLine_53 (by decide) (fun z73 hz73 => ?_)
        refine sn_icmp_le (tgt := 83) hx hb d_Mo_readLine_55 (by decide) (fun b74 => ?_) (fun b74 => ?_)
        · refine lv_aload_n hx hb d_Mo_readLine_83 rfl (lv_at hl 0 rfl) ?_
          refine sv_getr (C := "StoryMachineModel") (T := T_Mo) (N := 51) hx hb hts in_Mo hown hK hI 0 kM_0 rfl 37 (by decide) (hts _ mw_1100) rfl d_Mo_readLine_84 ?_
          refine lv_iload hx hb d_Mo_readLine_87 (lv_at hl 5 rfl) ?_
          refine sv_ialdr hx hb hK hI 17 kM_17 (by omega) (by omega) d_Mo_readLine_89 (fun z75 hz75a hz75b => ?_)
          refine tz_call (A1 := ga (adM a) H.size) (tz_runV (C := "StoryMachineModel") (As := [.int z71, .int z75]) (rest := []) ⟨hx, hb, hml, hown, hts⟩ (c_Mo_setByte l hfl dC dI cI cJ a H.size th t32p_tr dp zi co sh lt ts t32p_mf z71 z75 hok) (tx_cb (n := 2) hts rfl rfl ⟨Nat.le_of_ble_eq_true rfl, Nat.le_of_ble_eq_true rfl⟩ (tx_code.of (hts _ mw_1353)) (hts _ mw_12) (by decide +kernel) (hts _ mw_1350)) (hts _ mw_1352) (hts _ ms_Mo_setByte) ⟨tz_blind, sv_recv (q0 := 0) hts in_Mo hK hI kM_0 rfl, fun U hU hW => ⟨rfl, by rw [hU], by rw [hU]; exact hI.1, va_K.moved hW.alike hK, hst _ _ hI.2 U hU hW⟩⟩ rfl rfl hl.1 rfl (lv_room (Nat.le_of_ble_eq_true rfl)) d_Mo_readLine_90 ⟨Nat.le_of_ble_eq_true rfl, Nat.le_of_ble_eq_true rfl⟩) hI.2 (fun q _ h => ga_sub hAC hA0 hI.2 q h) (ga_sub hAC hA0 hI.2) (fun v t H1 locs1 ht hWt hpost _ _ hS => ?_) (fun x t H1 locs1 ht hWt hpost _ _ hS => (hpost.2 x rfl).elim)
          rcases hpost.1 _ rfl with ⟨t_tr76, hv, c77, c77_0, hI1⟩ | ⟨f_mf78, hv, c79, c79_0, c79_1, c79_2, hI1⟩
          · cases hv
            have hI : sI (dC, dI) vcl cI cJ (gsM a th t_tr76 dp zi co sh lt ts t32p_mf) A s.heap H1 locs1 := ⟨by rw [← ht]; exact hI1, hS⟩
            obtain ⟨-, ⟨o80, o81⟩, -, -, -, -, -, -, -⟩ := id c77
            clear hpost hI1 hS ht hWt
            revert hI; generalize H1 = H; generalize locs1 = locs; intro hI
            refine sn_iinc (k := 5) hx hb d_Mo_readLine_93 hl rfl (by decide) (by decide) (by omega) (by omega) (fun ls z82 hz82 hl => ?_)
            have hl : lv_has ls 8 [(5, .int z82), (0, .ref (a 0)), (1, .int x1), (2, .int x2), (3, .int v32p_3), (4, .int v32p_4)] := hl
            refine lv_goto (tgt := 32) hx hb d_Mo_readLine_96 (by decide) ?_
            exact ih _ _ _ v32p_3 v32p_4 z82 t_tr76 t32p_mf hI c77 (by omega) (by omega) (by omega) (by omega) (by omega) (by omega) (by omega) (by omega) (lv_sub hl [1, 2, 3, 4, 5, 0] rfl) (by omega)
          · omega
        · refine lv_aload_n hx hb d_Mo_readLine_58 rfl (lv_at hl 0 rfl) ?_
          refine sv_getr (C := "StoryMachineModel") (T := T_Mo) (N := 51) hx hb hts in_Mo hown hK hI 0 kM_0 rfl 37 (by decide) (hts _ mw_1100) rfl d_Mo_readLine_59 ?_
          refine lv_iload hx hb d_Mo_readLine_62 (lv_at hl 5 rfl) ?_
          refine sv_ialdr hx hb hK hI 17 kM_17 (by omega) (by omega) d_Mo_readLine_64 (fun z83 hz83a hz83b => ?_)
          refine sn_bipush hx hb d_Mo_readLine_65 (by decide) (fun z84 hz84 => ?_)
          refine sn_icmp_ge (tgt := 83) hx hb d_Mo_readLine_67 (by decide) (fun b85 => ?_) (fun b85 => ?_)
          · refine lv_aload_n hx hb d_Mo_readLine_83 rfl (lv_at hl 0 rfl) ?_
            refine sv_getr (C := "StoryMachineModel") (T := T_Mo) (N := 51) hx hb hts in_Mo hown hK hI 0 kM_0 rfl 37 (by decide) (hts _ mw_1100) rfl d_Mo_readLine_84 ?_
            refine lv_iload hx hb d_Mo_readLine_87 (lv_at hl 5 rfl) ?_
            refine sv_ialdr hx hb hK hI 17 kM_17 (by omega) (by omega) d_Mo_readLine_89 (fun z86 hz86a hz86b => ?_)
            refine tz_call (A1 := ga (adM a) H.size) (tz_runV (C := "StoryMachineModel") (As := [.int z71, .int z86]) (rest := []) ⟨hx, hb, hml, hown, hts⟩ (c_Mo_setByte l hfl dC dI cI cJ a H.size th t32p_tr dp zi co sh lt ts t32p_mf z71 z86 hok) (tx_cb (n := 2) hts rfl rfl ⟨Nat.le_of_ble_eq_true rfl, Nat.le_of_ble_eq_true rfl⟩ (tx_code.of (hts _ mw_1353)) (hts _ mw_12) (by decide +kernel) (hts _ mw_1350)) (hts _ mw_1352) (hts _ ms_Mo_setByte) ⟨tz_blind, sv_recv (q0 := 0) hts in_Mo hK hI kM_0 rfl, fun U hU hW => ⟨rfl, by rw [hU], by rw [hU]; exact hI.1, va_K.moved hW.alike hK, hst _ _ hI.2 U hU hW⟩⟩ rfl rfl hl.1 rfl (lv_room (Nat.le_of_ble_eq_true rfl)) d_Mo_readLine_90 ⟨Nat.le_of_ble_eq_true rfl, Nat.le_of_ble_eq_true rfl⟩) hI.2 (fun q _ h => ga_sub hAC hA0 hI.2 q h) (ga_sub hAC hA0 hI.2) (fun v t H1 locs1 ht hWt hpost _ _ hS => ?_) (fun x t H1 locs1 ht hWt hpost _ _ hS => (hpost.2 x rfl).elim)
            rcases hpost.1 _ rfl with ⟨t_tr87, hv, c88, c88_0, hI1⟩ | ⟨f_mf89, hv, c90, c90_0, c90_1, c90_2, hI1⟩
            · cases hv
              have hI : sI (dC, dI) vcl cI cJ (gsM a th t_tr87 dp zi co sh lt ts t32p_mf) A s.heap H1 locs1 := ⟨by rw [← ht]; exact hI1, hS⟩
              obtain ⟨-, ⟨o91, o92⟩, -, -, -, -, -, -, -⟩ := id c88
              clear hpost hI1 hS ht hWt
              revert hI; generalize H1 = H; generalize locs1 = locs; intro hI
              refine sn_iinc (k := 5) hx hb d_Mo_readLine_93 hl rfl (by decide) (by decide) (by omega) (by omega) (fun ls z93 hz93 hl => ?_)
              have hl : lv_has ls 8 [(5, .int z93), (0, .ref (a 0)), (1, .int x1), (2, .int x2), (3, .int v32p_3), (4, .int v32p_4)] := hl
              refine lv_goto (tgt := 32) hx hb d_Mo_readLine_96 (by decide) ?_
              exact ih _ _ _ v32p_3 v32p_4 z93 t_tr87 t32p_mf hI c88 (by omega) (by omega) (by omega) (by omega) (by omega) (by omega) (by omega) (by omega) (lv_sub hl [1, 2, 3, 4, 5, 0] rfl) (by omega)
            · omega
          · refine lv_aload_n hx hb d_Mo_readLine_70 rfl (lv_at hl 0 rfl) ?_
            refine sv_getr (C := "StoryMachineModel") (T := T_Mo) (N := 51) hx hb hts in_Mo hown hK hI 0 kM_0 rfl 37 (by decide) (hts _ mw_1100) rfl d_Mo_readLine_71 ?_
            refine lv_iload hx hb d_Mo_readLine_74 (lv_at hl 5 rfl) ?_
            refine sv_ialdr hx hb hK hI 17 kM_17 (by omega) (by omega) d_Mo_readLine_76 (fun z94 hz94a hz94b => ?_)
            refine sn_bipush hx hb d_Mo_readLine_77 (by decide) (fun z95 hz95 => ?_)
            refine sn_iaddT hx hb d_Mo_readLine_79 (fun z96 hz96a hz96b => ?_)
            refine lv_goto (tgt := 90) hx hb d_Mo_readLine_80 (by decide) ?_
            refine tz_call (A1 := ga (adM a) H.size) (tz_runV (C := "StoryMachineModel") (As := [.int z71, .int z96]) (rest := []) ⟨hx, hb, hml, hown, hts⟩ (c_Mo_setByte l hfl dC dI cI cJ a H.size th t32p_tr dp zi co sh lt ts t32p_mf z71 z96 hok) (tx_cb (n := 2) hts rfl rfl ⟨Nat.le_of_ble_eq_true rfl, Nat.le_of_ble_eq_true rfl⟩ (tx_code.of (hts _ mw_1353)) (hts _ mw_12) (by decide +kernel) (hts _ mw_1350)) (hts _ mw_1352) (hts _ ms_Mo_setByte) ⟨tz_blind, sv_recv (q0 := 0) hts in_Mo hK hI kM_0 rfl, fun U hU hW => ⟨rfl, by rw [hU], by rw [hU]; exact hI.1, va_K.moved hW.alike hK, hst _ _ hI.2 U hU hW⟩⟩ rfl rfl hl.1 rfl (lv_room (Nat.le_of_ble_eq_true rfl)) d_Mo_readLine_90 ⟨Nat.le_of_ble_eq_true rfl, Nat.le_of_ble_eq_true rfl⟩) hI.2 (fun q _ h => ga_sub hAC hA0 hI.2 q h) (ga_sub hAC hA0 hI.2) (fun v t H1 locs1 ht hWt hpost _ _ hS => ?_) (fun x t H1 locs1 ht hWt hpost _ _ hS => (hpost.2 x rfl).elim)
            rcases hpost.1 _ rfl with ⟨t_tr97, hv, c98, c98_0, hI1⟩ | ⟨f_mf99, hv, c100, c100_0, c100_1, c100_2, hI1⟩
            · cases hv
              have hI : sI (dC, dI) vcl cI cJ (gsM a th t_tr97 dp zi co sh lt ts t32p_mf) A s.heap H1 locs1 := ⟨by rw [← ht]; exact hI1, hS⟩
              obtain ⟨-, ⟨o101, o102⟩, -, -, -, -, -, -, -⟩ := id c98
              clear hpost hI1 hS ht hWt
              revert hI; generalize H1 = H; generalize locs1 = locs; intro hI
              refine sn_iinc (k := 5) hx hb d_Mo_readLine_93 hl rfl (by decide) (by decide) (by omega) (by omega) (fun ls z103 hz103 hl => ?_)
              have hl : lv_has ls 8 [(5, .int z103), (0, .ref (a 0)), (1, .int x1), (2, .int x2), (3, .int v32p_3), (4, .int v32p_4)] := hl
              refine lv_goto (tgt := 32) hx hb d_Mo_readLine_96 (by decide) ?_
              exact ih _ _ _ v32p_3 v32p_4 z103 t_tr97 t32p_mf hI c98 (by omega) (by omega) (by omega) (by omega) (by omega) (by omega) (by omega) (by omega) (lv_sub hl [1, 2, 3, 4, 5, 0] rfl) (by omega)
            · omega
  have j164p : ∀ (H : Heap) (locs : List Loc) (ls : Array Slot) (v164p_3 v164p_4 v164p_5 v164p_6 v164p_7 : Int32) (t164p_tr t164p_lt : Int) (t164p_mf : Nat → Int32), sI (dC, dI) vcl cI cJ (gsM a th t164p_tr dp zi co sh t164p_lt ts t164p_mf) A s.heap H locs → okM th t164p_tr dp zi co sh t164p_lt ts t164p_mf → 0 ≤ v164p_3.toInt → v164p_3.toInt ≤ 255 → 0 ≤ v164p_4.toInt → v164p_4.toInt ≤ 24 → 0 ≤ v164p_5.toInt → v164p_5.toInt ≤ 255 → 0 ≤ v164p_6.toInt → v164p_6.toInt ≤ 24 → 0 ≤ v164p_7.toInt → v164p_7.toInt ≤ 24 → 1 ≤ t164p_tr → t164p_tr ≤ 4 → tr ≤ 0 → x1.toInt ≤ 511 → x2.toInt ≤ 511 → lv_has ls 8 [(0, .ref (a 0)), (1, .int x1), (2, .int x2), (3, .int v164p_3), (4, .int v164p_4), (5, .int v164p_5), (6, .int v164p_6), (7, .int v164p_7)] → W p l e (headSpec tw_tbl rm_Mo_readLine).room s m ([.ref (a 0), .int x1, .int x2] : List Value).toArray below meth c H locs 0 0 Z (F0 m 164 ls []) := by
    intro H locs ls v164p_3 v164p_4 v164p_5 v164p_6 v164p_7 t164p_tr t164p_lt t164p_mf hI hok g164_0 g164_1 g164_2 g164_3 g164_4 g164_5 g164_6 g164_7 g164_8 g164_9 g164_10 g164_11 g164_12 g164_13 g164_14 hl
    obtain ⟨⟨o104, o105⟩, ⟨o106, o107⟩, ⟨o108, o109⟩, ⟨o110, o111⟩, ⟨o112, o113⟩, ⟨o114, o115⟩, ⟨o116, o117⟩, ⟨o118, o119⟩, -⟩ := id hok
    refine lv_iload hx hb d_Mo_readLine_164 (lv_at hl 7 rfl) ?_
    refine lv_iload hx hb d_Mo_readLine_166 (lv_at hl 6 rfl) ?_
    refine sn_icmp_ge (tgt := 192) hx hb d_Mo_readLine_168 (by decide) (fun b120 => ?_) (fun b120 => ?_)
    · subst hZ
      exact tz_ret (W.vret hx hb hr (fun t ht hW => ⟨⟨fun v9 hv9 => by cases hv9; exact (Or.inl ⟨t164p_tr, t164p_lt, t164p_mf, rfl, hok, by omega, by rw [ht]; exact hI.1⟩), fun x9 hx9 => (by cases hx9)⟩, hI.2.F ht⟩) hI.2.2.2 d_Mo_readLine_192)
    · refine lv_aload_n hx hb d_Mo_readLine_171 rfl (lv_at hl 0 rfl) ?_
      refine sv_gete (C := "StoryMachineModel") (T := T_Mo) (N := 51) hx hb hts in_Mo hown hK hI 0 kM_0 rfl 25 (by decide) (hts _ mw_1088) rfl d_Mo_readLine_172 (fun z121 hz121 => ?_)
      refine sn_if_ne (tgt := 192) hx hb d_Mo_readLine_175 (by decide) (fun b122 => ?_) (fun b122 => ?_)
      · subst hZ
        exact tz_ret (W.vret hx hb hr (fun t ht hW => ⟨⟨fun v9 hv9 => by cases hv9; exact (Or.inl ⟨t164p_tr, t164p_lt, t164p_mf, rfl, hok, by omega, by rw [ht]; exact hI.1⟩), fun x9 hx9 => (by cases hx9)⟩, hI.2.F ht⟩) hI.2.2.2 d_Mo_readLine_192)
      · omega
  have j164z : ∀ (n : Nat) (H : Heap) (locs : List Loc) (ls : Array Slot) (v164z_3 v164z_4 v164z_5 v164z_6 v164z_7 : Int32) (t164z_lt : Int) (t164z_mf : Nat → Int32), sI (dC, dI) vcl cI cJ (gsM a th tr dp zi co sh t164z_lt ts t164z_mf) A s.heap H locs → okM th tr dp zi co sh t164z_lt ts t164z_mf → 0 ≤ v164z_3.toInt → v164z_3.toInt ≤ 255 → 0 ≤ v164z_4.toInt → v164z_4.toInt ≤ 24 → 0 ≤ v164z_5.toInt → v164z_5.toInt ≤ 255 → 0 ≤ v164z_6.toInt → v164z_6.toInt ≤ 24 → 0 ≤ v164z_7.toInt → v164z_7.toInt ≤ 24 → tr ≤ 0 → x1.toInt ≤ 511 → x2.toInt ≤ 511 → lv_has ls 8 [(0, .ref (a 0)), (1, .int x1), (2, .int x2), (3, .int v164z_3), (4, .int v164z_4), (5, .int v164z_5), (6, .int v164z_6), (7, .int v164z_7)] → 24 - v164z_7.toInt < (n : Int) → W p l e (headSpec tw_tbl rm_Mo_readLine).room s m ([.ref (a 0), .int x1, .int x2] : List Value).toArray below meth c H locs 0 0 Z (F0 m 164 ls []) := by
    intro n
    induction n with
    | zero => intro H locs ls v164z_3 v164z_4 v164z_5 v164z_6 v164z_7 t164z_lt t164z_mf hI hok g164_0 g164_1 g164_2 g164_3 g164_4 g164_5 g164_6 g164_7 g164_8 g164_9 g164_10 g164_11 g164_12 hl hme; exfalso; obtain ⟨⟨o123, o124⟩, ⟨o125, o126⟩, ⟨o127, o128⟩, ⟨o129, o130⟩, ⟨o131, o132⟩, ⟨o133, o134⟩, ⟨o135, o136⟩, ⟨o137, o138⟩, -⟩ := id hok; omega
    | succ n ih =>
      intro H locs ls v164z_3 v164z_4 v164z_5 v164z_6 v164z_7 t164z_lt t164z_mf hI hok g164_0 g164_1 g164_2 g164_3 g164_4 g164_5 g164_6 g164_7 g164_8 g164_9 g164_10 g164_11 g164_12 hl hme
      obtain ⟨⟨o139, o140⟩, ⟨o141, o142⟩, ⟨o143, o144⟩, ⟨o145, o146⟩, ⟨o147, o148⟩, ⟨o149, o150⟩, ⟨o151, o152⟩, ⟨o153, o154⟩, -⟩ := id hok
      refine lv_iload hx hb d_Mo_readLine_164 (lv_at hl 7 rfl) ?_
      refine lv_iload hx hb d_Mo_readLine_166 (lv_at hl 6 rfl) ?_
      refine sn_icmp_ge (tgt := 192) hx hb d_Mo_readLine_168 (by decide) (fun b155 => ?_) (fun b155 => ?_)
      · subst hZ
        exact tz_ret (W.vret hx hb hr (fun t ht hW => ⟨⟨fun v9 hv9 => by cases hv9; exact (Or.inr (⟨t164z_lt, t164z_mf, rfl, hok, by omega, by omega, by omega, by rw [ht]; exact hI.1⟩)), fun x9 hx9 => (by cases hx9)⟩, hI.2.F ht⟩) hI.2.2.2 d_Mo_readLine_192)
      · refine lv_aload_n hx hb d_Mo_readLine_171 rfl (lv_at hl 0 rfl) ?_
        refine sv_gete (C := "StoryMachineModel") (T := T_Mo) (N := 51) hx hb hts in_Mo hown hK hI 0 kM_0 rfl 25 (by decide) (hts _ mw_1088) rfl d_Mo_readLine_172 (fun z156 hz156 => ?_)
        refine sn_if_ne (tgt := 192) hx hb d_Mo_readLine_175 (by decide) (fun b157 => ?_) (fun b157 => ?_)
        · omega
        · refine lv_aload_n hx hb d_Mo_readLine_178 rfl (lv_at hl 0 rfl) ?_
          refine lv_iload_n hx hb d_Mo_readLine_179 rfl (lv_at hl 1 rfl) ?_
          refine lv_iload_n hx hb d_Mo_readLine_180 rfl (lv_at hl 2 rfl) ?_
          refine lv_iload hx hb d_Mo_readLine_181 (lv_at hl 7 rfl) ?_
          refine tz_call (A1 := ga (adM a) H.size) (tz_runV (C := "StoryMachineModel") (As := [.int x1, .int x2, .int v164z_7]) (rest := []) ⟨hx, hb, hml, hown, hts⟩ (c_Mo_parse l hfl dC dI cI cJ a H.size th tr dp zi co sh t164z_lt ts t164z_mf x1 x2 v164z_7 hok (by omega) (by omega) (by omega) (by omega) (by omega) (by omega)) (tx_cb (n := 3) hts rfl rfl ⟨Nat.le_of_ble_eq_true rfl, Nat.le_of_ble_eq_true rfl⟩ (tx_code.of (hts _ mw_1472)) (hts _ mw_12) (by decide +kernel) (hts _ mw_1469)) (hts _ mw_1471) (hts _ ms_Mo_parse) ⟨tz_blind, sv_recv (q0 := 0) hts in_Mo hK hI kM_0 rfl, fun U hU hW => ⟨rfl, by rw [hU], by rw [hU]; exact hI.1, va_K.moved hW.alike hK, hst _ _ hI.2 U hU hW⟩⟩ rfl rfl hl.1 rfl (lv_room (Nat.le_of_ble_eq_true rfl)) d_Mo_readLine_183 ⟨Nat.le_of_ble_eq_true rfl, Nat.le_of_ble_eq_true rfl⟩) hI.2 (fun q _ h => ga_sub hAC hA0 hI.2 q h) (ga_sub hAC hA0 hI.2) (fun v t H1 locs1 ht hWt hpost _ _ hS => ?_) (fun x t H1 locs1 ht hWt hpost _ _ hS => (hpost.2 x rfl).elim)
          rcases hpost.1 _ rfl with ⟨t_tr158, t_lt159, f_mf160, hv, c161, c161_0, hI1⟩ | ⟨t_lt162, f_mf163, hv, c164, c164_0, hI1⟩
          · cases hv
            have hI : sI (dC, dI) vcl cI cJ (gsM a th t_tr158 dp zi co sh t_lt159 ts f_mf160) A s.heap H1 locs1 := ⟨by rw [← ht]; exact hI1, hS⟩
            obtain ⟨-, ⟨o165, o166⟩, -, -, -, -, ⟨o167, o168⟩, -, -⟩ := id c161
            clear hpost hI1 hS ht hWt
            revert hI; generalize H1 = H; generalize locs1 = locs; intro hI
            refine sn_iinc (k := 7) hx hb d_Mo_readLine_186 hl rfl (by decide) (by decide) (by omega) (by omega) (fun ls z169 hz169 hl => ?_)
            have hl : lv_has ls 8 [(7, .int z169), (0, .ref (a 0)), (1, .int x1), (2, .int x2), (3, .int v164z_3), (4, .int v164z_4), (5, .int v164z_5), (6, .int v164z_6)] := hl
            refine lv_goto (tgt := 164) hx hb d_Mo_readLine_189 (by decide) ?_
            exact j164p _ _ _ v164z_3 v164z_4 v164z_5 v164z_6 z169 t_tr158 t_lt159 f_mf160 hI c161 (by omega) (by omega) (by omega) (by omega) (by omega) (by omega) (by omega) (by omega) (by omega) (by omega) (by omega) (by omega) (by omega) (by omega) (by omega) (lv_sub hl [1, 2, 3, 4, 5, 6, 7, 0] rfl)
          · cases hv
            have hI : sI (dC, dI) vcl cI cJ (gsM a th tr dp zi co sh t_lt162 ts f_mf163) A s.heap H1 locs1 := ⟨by rw [← ht]; exact hI1, hS⟩
            obtain ⟨-, -, -, -, -, -, ⟨o170, o171⟩, -, -⟩ := id c164
            clear hpost hI1 hS ht hWt
            revert hI; generalize H1 = H; generalize locs1 = locs; intro hI
            refine sn_iinc (k := 7) hx hb d_Mo_readLine_186 hl rfl (by decide) (by decide) (by omega) (by omega) (fun ls z172 hz172 hl => ?_)
            have hl : lv_has ls 8 [(7, .int z172), (0, .ref (a 0)), (1, .int x1), (2, .int x2), (3, .int v164z_3), (4, .int v164z_4), (5, .int v164z_5), (6, .int v164z_6)] := hl
            refine lv_goto (tgt := 164) hx hb d_Mo_readLine_189 (by decide) ?_
            exact ih _ _ _ v164z_3 v164z_4 v164z_5 v164z_6 z172 t_lt162 f_mf163 hI c164 (by omega) (by omega) (by omega) (by omega) (by omega) (by omega) (by omega) (by omega) (by omega) (by omega) (by omega) (by omega) (by omega) (lv_sub hl [1, 2, 3, 4, 5, 6, 7, 0] rfl) (by omega)
  have j32z : ∀ (n : Nat) (H : Heap) (locs : List Loc) (ls : Array Slot) (v32z_3 v32z_4 v32z_5 : Int32) (t32z_mf : Nat → Int32), sI (dC, dI) vcl cI cJ (gsM a th tr dp zi co sh lt ts t32z_mf) A s.heap H locs → okM th tr dp zi co sh lt ts t32z_mf → 0 ≤ v32z_3.toInt → v32z_3.toInt ≤ 255 → 0 ≤ v32z_4.toInt → v32z_4.toInt ≤ 24 → 0 ≤ v32z_5.toInt → v32z_5.toInt ≤ 24 → tr ≤ 0 → x1.toInt ≤ 511 → lv_has ls 8 [(0, .ref (a 0)), (1, .int x1), (2, .int x2), (3, .int v32z_3), (4, .int v32z_4), (5, .int v32z_5)] → 24 - v32z_5.toInt < (n : Int) → W p l e (headSpec tw_tbl rm_Mo_readLine).room s m ([.ref (a 0), .int x1, .int x2] : List Value).toArray below meth c H locs 0 0 Z (F0 m 32 ls []) := by
    intro n
    induction n with
    | zero => intro H locs ls v32z_3 v32z_4 v32z_5 t32z_mf hI hok g32_0 g32_1 g32_2 g32_3 g32_4 g32_5 g32_6 g32_7 hl hme; exfalso; obtain ⟨⟨o173, o174⟩, ⟨o175, o176⟩, ⟨o177, o178⟩, ⟨o179, o180⟩, ⟨o181, o182⟩, ⟨o183, o184⟩, ⟨o185, o186⟩, ⟨o187, o188⟩, -⟩ := id hok; omega
    | succ n ih =>
      intro H locs ls v32z_3 v32z_4 v32z_5 t32z_mf hI hok g32_0 g32_1 g32_2 g32_3 g32_4 g32_5 g32_6 g32_7 hl hme
      obtain ⟨⟨o189, o190⟩, ⟨o191, o192⟩, ⟨o193, o194⟩, ⟨o195, o196⟩, ⟨o197, o198⟩, ⟨o199, o200⟩, ⟨o201, o202⟩, ⟨o203, o204⟩, -⟩ := id hok
      refine lv_iload hx hb d_Mo_readLine_32 (lv_at hl 5 rfl) ?_
      refine lv_iload hx hb d_Mo_readLine_34 (lv_at hl 4 rfl) ?_
      refine sn_icmp_ge (tgt := 99) hx hb d_Mo_readLine_36 (by decide) (fun b205 => ?_) (fun b205 => ?_)
      · refine lv_aload_n hx hb d_Mo_readLine_99 rfl (lv_at hl 0 rfl) ?_
        refine lv_iload_n hx hb d_Mo_readLine_100 rfl (lv_at hl 1 rfl) ?_
        refine sn_iconst hx hb d_Mo_readLine_101 (by decide) (fun z206 hz206 => ?_)
        refine sn_iadd hx hb d_Mo_readLine_102 (by omega) (by omega) (fun z207 hz207 => ?_)
        refine lv_iload hx hb d_Mo_readLine_103 (lv_at hl 4 rfl) ?_
        refine sn_iadd hx hb d_Mo_readLine_105 (by omega) (by omega) (fun z208 hz208 => ?_)
        refine sn_iconst hx hb d_Mo_readLine_106 (by decide) (fun z209 hz209 => ?_)
        refine tz_call (A1 := ga (adM a) H.size) (tz_runV (C := "StoryMachineModel") (As := [.int z208, .int z209]) (rest := []) ⟨hx, hb, hml, hown, hts⟩ (c_Mo_setByte l hfl dC dI cI cJ a H.size th tr dp zi co sh lt ts t32z_mf z208 z209 hok) (tx_cb (n := 2) hts rfl rfl ⟨Nat.le_of_ble_eq_true rfl, Nat.le_of_ble_eq_true rfl⟩ (tx_code.of (hts _ mw_1353)) (hts _ mw_12) (by decide +kernel) (hts _ mw_1350)) (hts _ mw_1352) (hts _ ms_Mo_setByte) ⟨tz_blind, sv_recv (q0 := 0) hts in_Mo hK hI kM_0 rfl, fun U hU hW => ⟨rfl, by rw [hU], by rw [hU]; exact hI.1, va_K.moved hW.alike hK, hst _ _ hI.2 U hU hW⟩⟩ rfl rfl hl.1 rfl (lv_room (Nat.le_of_ble_eq_true rfl)) d_Mo_readLine_107 ⟨Nat.le_of_ble_eq_true rfl, Nat.le_of_ble_eq_true rfl⟩) hI.2 (fun q _ h => ga_sub hAC hA0 hI.2 q h) (ga_sub hAC hA0 hI.2) (fun v t H1 locs1 ht hWt hpost _ _ hS => ?_) (fun x t H1 locs1 ht hWt hpost _ _ hS => (hpost.2 x rfl).elim)
        rcases hpost.1 _ rfl with ⟨t_tr210, hv, c211, c211_0, hI1⟩ | ⟨f_mf212, hv, c213, c213_0, c213_1, c213_2, hI1⟩
        · cases hv
          have hI : sI (dC, dI) vcl cI cJ (gsM a th t_tr210 dp zi co sh lt ts t32z_mf) A s.heap H1 locs1 := ⟨by rw [← ht]; exact hI1, hS⟩
          obtain ⟨-, ⟨o214, o215⟩, -, -, -, -, -, -, -⟩ := id c211
          clear hpost hI1 hS ht hWt
          revert hI; generalize H1 = H; generalize locs1 = locs; intro hI
          refine lv_aload_n hx hb d_Mo_readLine_110 rfl (lv_at hl 0 rfl) ?_
          refine lv_iload_n hx hb d_Mo_readLine_111 rfl (lv_at hl 2 rfl) ?_
          refine tz_call (A1 := ga (adM a) H.size) (tz_runV (C := "StoryMachineModel") (As := [.int x2]) (rest := []) ⟨hx, hb, hml, hown, hts⟩ (c_Mo_byteAt l hfl dC dI cI cJ a H.size th t_tr210 dp zi co sh lt ts t32z_mf x2 c211) (tx_cb (n := 1) hts rfl rfl ⟨Nat.le_of_ble_eq_true rfl, Nat.le_of_ble_eq_true rfl⟩ (tx_code.of (hts _ mw_1236)) (hts _ mw_12) (by decide +kernel) (hts _ mw_1233)) (hts _ mw_1235) (hts _ ms_Mo_byteAt) ⟨tz_blind, sv_recv (q0 := 0) hts in_Mo hK hI kM_0 rfl, fun U hU hW => ⟨rfl, by rw [hU], by rw [hU]; exact hI.1, va_K.moved hW.alike hK, hst _ _ hI.2 U hU hW⟩⟩ rfl rfl hl.1 rfl (lv_room (Nat.le_of_ble_eq_true rfl)) d_Mo_readLine_112 ⟨Nat.le_of_ble_eq_true rfl, Nat.le_of_ble_eq_true rfl⟩) hI.2 (fun q _ h => ga_sub hAC hA0 hI.2 q h) (ga_sub hAC hA0 hI.2) (fun v t H1 locs1 ht hWt hpost _ _ hS => ?_) (fun x t H1 locs1 ht hWt hpost _ _ hS => (hpost.2 x rfl).elim)
          rcases hpost.1 _ rfl with ⟨z216, t_tr217, hv, c218, c218_0, c218_1, c218_2, hI1⟩ | ⟨z219, hv, c220, c220_0, c220_1, c220_2, c220_3, c220_4, hI1⟩
          · cases hv
            have hI : sI (dC, dI) vcl cI cJ (gsM a th t_tr217 dp zi co sh lt ts t32z_mf) A s.heap H1 locs1 := ⟨by rw [← ht]; exact hI1, hS⟩
            obtain ⟨-, ⟨o221, o222⟩, -, -, -, -, -, -, -⟩ := id c218
            clear hpost hI1 hS ht hWt
            revert hI; generalize H1 = H; generalize locs1 = locs; intro hI
            refine lv_istore (lv' := [(5, .int z216), (0, .ref (a 0)), (1, .int x1), (2, .int x2), (3, .int v32z_3), (4, .int v32z_4)]) hx hb d_Mo_readLine_115 hl (by decide) rfl (fun ls hl => ?_)
            refine lv_aload_n hx hb d_Mo_readLine_117 rfl (lv_at hl 1 rfl) ?_
            refine sv_gete (C := "StoryMachineModel") (T := T_Mo) (N := 51) hx hb hts in_Mo hown hK hI 0 kM_0 rfl 25 (by decide) (hts _ mw_1088) rfl d_Mo_readLine_118 (fun z223 hz223 => ?_)
            refine sn_if_le (tgt := 125) hx hb d_Mo_readLine_121 (by decide) (fun b224 => ?_) (fun b224 => ?_)
            · omega
            · subst hZ
              exact tz_ret (W.vret hx hb hr (fun t ht hW => ⟨⟨fun v9 hv9 => by cases hv9; exact (Or.inl ⟨t_tr217, lt, t32z_mf, rfl, c218, by omega, by rw [ht]; exact hI.1⟩), fun x9 hx9 => (by cases hx9)⟩, hI.2.F ht⟩) hI.2.2.2 d_Mo_readLine_124)
          · omega
        · cases hv
          have hI : sI (dC, dI) vcl cI cJ (gsM a th tr dp zi co sh lt ts f_mf212) A s.heap H1 locs1 := ⟨by rw [← ht]; exact hI1, hS⟩
          obtain ⟨-, -, -, -, -, -, -, -, -⟩ := id c213
          clear hpost hI1 hS ht hWt
          revert hI; generalize H1 = H; generalize locs1 = locs; intro hI
          refine lv_aload_n hx hb d_Mo_readLine_110 rfl (lv_at hl 0 rfl) ?_
          refine lv_iload_n hx hb d_Mo_readLine_111 rfl (lv_at hl 2 rfl) ?_
          refine tz_call (A1 := ga (adM a) H.size) (tz_runV (C := "StoryMachineModel") (As := [.int x2]) (rest := []) ⟨hx, hb, hml, hown, hts⟩ (c_Mo_byteAt l hfl dC dI cI cJ a H.size th tr dp zi co sh lt ts f_mf212 x2 c213) (tx_cb (n := 1) hts rfl rfl ⟨Nat.le_of_ble_eq_true rfl, Nat.le_of_ble_eq_true rfl⟩ (tx_code.of (hts _ mw_1236)) (hts _ mw_12) (by decide +kernel) (hts _ mw_1233)) (hts _ mw_1235) (hts _ ms_Mo_byteAt) ⟨tz_blind, sv_recv (q0 := 0) hts in_Mo hK hI kM_0 rfl, fun U hU hW => ⟨rfl, by rw [hU], by rw [hU]; exact hI.1, va_K.moved hW.alike hK, hst _ _ hI.2 U hU hW⟩⟩ rfl rfl hl.1 rfl (lv_room (Nat.le_of_ble_eq_true rfl)) d_Mo_readLine_112 ⟨Nat.le_of_ble_eq_true rfl, Nat.le_of_ble_eq_true rfl⟩) hI.2 (fun q _ h => ga_sub hAC hA0 hI.2 q h) (ga_sub hAC hA0 hI.2) (fun v t H1 locs1 ht hWt hpost _ _ hS => ?_) (fun x t H1 locs1 ht hWt hpost _ _ hS => (hpost.2 x rfl).elim)
          rcases hpost.1 _ rfl with ⟨z225, t_tr226, hv, c227, c227_0, c227_1, c227_2, hI1⟩ | ⟨z228, hv, c229, c229_0, c229_1, c229_2, c229_3, c229_4, hI1⟩
          · cases hv
            have hI : sI (dC, dI) vcl cI cJ (gsM a th t_tr226 dp zi co sh lt ts f_mf212) A s.heap H1 locs1 := ⟨by rw [← ht]; exact hI1, hS⟩
            obtain ⟨-, ⟨o230, o231⟩, -, -, -, -, -, -, -⟩ := id c227
            clear hpost hI1 hS ht hWt
            revert hI; generalize H1 = H; generalize locs1 = locs; intro hI
            refine lv_istore (lv' := [(5, .int z225), (0, .ref (a 0)), (1, .int x1), (2, .int x2), (3, .int v32z_3), (4, .int v32z_4)]) hx hb d_Mo_readLine_115 hl (by decide) rfl (fun ls hl => ?_)
            refine lv_aload_n hx hb d_Mo_readLine_117 rfl (lv_at hl 1 rfl) ?_
            refine sv_gete (C := "StoryMachineModel") (T := T_Mo) (N := 51) hx hb hts in_Mo hown hK hI 0 kM_0 rfl 25 (by decide) (hts _ mw_1088) rfl d_Mo_readLine_118 (fun z232 hz232 => ?_)
            refine sn_if_le (tgt := 125) hx hb d_Mo_readLine_121 (by decide) (fun b233 => ?_) (fun b233 => ?_)
            · omega
            · subst hZ
              exact tz_ret (W.vret hx hb hr (fun t ht hW => ⟨⟨fun v9 hv9 => by cases hv9; exact (Or.inl ⟨t_tr226, lt, f_mf212, rfl, c227, by omega, by rw [ht]; exact hI.1⟩), fun x9 hx9 => (by cases hx9)⟩, hI.2.F ht⟩) hI.2.2.2 d_Mo_readLine_124)
          · cases hv
            have hI : sI (dC, dI) vcl cI cJ (gsM a th tr dp zi co sh lt ts f_mf212) A s.heap H1 locs1 := ⟨by rw [← ht]; exact hI1, hS⟩
            clear hpost hI1 hS ht hWt
            revert hI; generalize H1 = H; generalize locs1 = locs; intro hI
            refine lv_istore (lv' := [(5, .int z228), (0, .ref (a 0)), (1, .int x1), (2, .int x2), (3, .int v32z_3), (4, .int v32z_4)]) hx hb d_Mo_readLine_115 hl (by decide) rfl (fun ls hl => ?_)
            refine lv_aload_n hx hb d_Mo_readLine_117 rfl (lv_at hl 1 rfl) ?_
            refine sv_gete (C := "StoryMachineModel") (T := T_Mo) (N := 51) hx hb hts in_Mo hown hK hI 0 kM_0 rfl 25 (by decide) (hts _ mw_1088) rfl d_Mo_readLine_118 (fun z234 hz234 => ?_)
            refine sn_if_le (tgt := 125) hx hb d_Mo_readLine_121 (by decide) (fun b235 => ?_) (fun b235 => ?_)
            · refine lv_aload_n hx hb d_Mo_readLine_125 rfl (lv_at hl 1 rfl) ?_
              refine lv_iload_n hx hb d_Mo_readLine_126 rfl (lv_at hl 2 rfl) ?_
              refine sn_iconst hx hb d_Mo_readLine_127 (by decide) (fun z236 hz236 => ?_)
              refine sn_iadd hx hb d_Mo_readLine_128 (by omega) (by omega) (fun z237 hz237 => ?_)
              refine lv_iload hx hb d_Mo_readLine_129 (lv_at hl 5 rfl) ?_
              refine tz_call (A1 := ga (adM a) H.size) (tz_runV (C := "StoryMachineModel") (As := [.int z237, .int v32z_4]) (rest := []) ⟨hx, hb, hml, hown, hts⟩ (c_Mo_findWords l hfl dC dI cI cJ a H.size th tr dp zi co sh lt ts f_mf212 z237 v32z_4 c229 (by omega) (by omega) (by omega) (by omega) (by omega)) (tx_cb (n := 2) hts rfl rfl ⟨Nat.le_of_ble_eq_true rfl, Nat.le_of_ble_eq_true rfl⟩ (tx_code.of (hts _ mw_1456)) (hts _ mw_12) (by decide +kernel) (hts _ mw_1453)) (hts _ mw_1455) (hts _ ms_Mo_findWords) ⟨tz_blind, sv_recv (q0 := 0) hts in_Mo hK hI kM_0 rfl, fun U hU hW => ⟨rfl, by rw [hU], by rw [hU]; exact hI.1, va_K.moved hW.alike hK, hst _ _ hI.2 U hU hW⟩⟩ rfl rfl hl.1 rfl (lv_room (Nat.le_of_ble_eq_true rfl)) d_Mo_readLine_131 ⟨Nat.le_of_ble_eq_true rfl, Nat.le_of_ble_eq_true rfl⟩) hI.2 (fun q _ h => ga_sub hAC hA0 hI.2 q h) (ga_sub hAC hA0 hI.2) (fun v t H1 locs1 ht hWt hpost _ _ hS => ?_) (fun x t H1 locs1 ht hWt hpost _ _ hS => (hpost.2 x rfl).elim)
              rcases hpost.1 _ rfl with ⟨z238, t_tr239, hv, c240, c240_0, c240_1, c240_2, c240_3, hI1⟩ | ⟨z241, hv, c242, c242_0, c242_1, c242_2, hI1⟩ | ⟨z243, hv, c244, c244_0, c244_1, c244_2, c244_3, hI1⟩
              · cases hv
                have hI : sI (dC, dI) vcl cI cJ (gsM a th t_tr239 dp zi co sh lt ts f_mf212) A s.heap H1 locs1 := ⟨by rw [← ht]; exact hI1, hS⟩
                obtain ⟨-, ⟨o245, o246⟩, -, -, -, -, -, -, -⟩ := id c240
                clear hpost hI1 hS ht hWt
                revert hI; generalize H1 = H; generalize locs1 = locs; intro hI
                refine lv_istore (lv' := [(6, .int z238), (5, .int z228), (0, .ref (a 0)), (1, .int x1), (2, .int x2), (3, .int v32z_3), (4, .int v32z_4)]) hx hb d_Mo_readLine_134 hl (by decide) rfl (fun ls hl => ?_)
                refine lv_iload hx hb d_Mo_readLine_136 (lv_at hl 0 rfl) ?_
                refine lv_iload hx hb d_Mo_readLine_138 (lv_at hl 1 rfl) ?_
                refine sn_icmp_ge (tgt := 148) hx hb d_Mo_readLine_140 (by decide) (fun b247 => ?_) (fun b247 => ?_)
                · refine lv_iload hx hb d_Mo_readLine_148 (lv_at hl 1 rfl) ?_
                  refine lv_istore (lv' := [(6, .int z228), (5, .int z228), (0, .ref (a 0)), (1, .int x1), (2, .int x2), (3, .int v32z_3), (4, .int v32z_4)]) hx hb d_Mo_readLine_150 hl (by decide) rfl (fun ls hl => ?_)
                  refine lv_aload_n hx hb d_Mo_readLine_152 rfl (lv_at hl 2 rfl) ?_
                  refine lv_iload_n hx hb d_Mo_readLine_153 rfl (lv_at hl 4 rfl) ?_
                  refine sn_iconst hx hb d_Mo_readLine_154 (by decide) (fun z248 hz248 => ?_)
                  refine sn_iadd hx hb d_Mo_readLine_155 (by omega) (by omega) (fun z249 hz249 => ?_)
                  refine lv_iload hx hb d_Mo_readLine_156 (lv_at hl 0 rfl) ?_
                  refine tz_call (A1 := ga (adM a) H.size) (tz_runV (C := "StoryMachineModel") (As := [.int z249, .int z228]) (rest := []) ⟨hx, hb, hml, hown, hts⟩ (c_Mo_setByte l hfl dC dI cI cJ a H.size th t_tr239 dp zi co sh lt ts f_mf212 z249 z228 c240) (tx_cb (n := 2) hts rfl rfl ⟨Nat.le_of_ble_eq_true rfl, Nat.le_of_ble_eq_true rfl⟩ (tx_code.of (hts _ mw_1353)) (hts _ mw_12) (by decide +kernel) (hts _ mw_1350)) (hts _ mw_1352) (hts _ ms_Mo_setByte) ⟨tz_blind, sv_recv (q0 := 0) hts in_Mo hK hI kM_0 rfl, fun U hU hW => ⟨rfl, by rw [hU], by rw [hU]; exact hI.1, va_K.moved hW.alike hK, hst _ _ hI.2 U hU hW⟩⟩ rfl rfl hl.1 rfl (lv_room (Nat.le_of_ble_eq_true rfl)) d_Mo_readLine_158 ⟨Nat.le_of_ble_eq_true rfl, Nat.le_of_ble_eq_true rfl⟩) hI.2 (fun q _ h => ga_sub hAC hA0 hI.2 q h) (ga_sub hAC hA0 hI.2) (fun v t H1 locs1 ht hWt hpost _ _ hS => ?_) (fun x t H1 locs1 ht hWt hpost _ _ hS => (hpost.2 x rfl).elim)
                  rcases hpost.1 _ rfl with ⟨t_tr250, hv, c251, c251_0, hI1⟩ | ⟨f_mf252, hv, c253, c253_0, c253_1, c253_2, hI1⟩
                  · cases hv
                    have hI : sI (dC, dI) vcl cI cJ (gsM a th t_tr250 dp zi co sh lt ts f_mf212) A s.heap H1 locs1 := ⟨by rw [← ht]; exact hI1, hS⟩
                    obtain ⟨-, ⟨o254, o255⟩, -, -, -, -, -, -, -⟩ := id c251
                    clear hpost hI1 hS ht hWt
                    revert hI; generalize H1 = H; generalize locs1 = locs; intro hI
                    refine sn_iconst hx hb d_Mo_readLine_161 (by decide) (fun z256 hz256 => ?_)
                    refine lv_istore (lv' := [(7, .int z256), (6, .int z228), (5, .int z228), (0, .ref (a 0)), (1, .int x1), (2, .int x2), (3, .int v32z_3), (4, .int v32z_4)]) hx hb d_Mo_readLine_162 hl (by decide) rfl (fun ls hl => ?_)
                    exact j164p _ _ _ v32z_3 v32z_4 z228 z228 z256 t_tr250 lt f_mf212 hI c251 (by omega) (by omega) (by omega) (by omega) (by omega) (by omega) (by omega) (by omega) (by omega) (by omega) (by omega) (by omega) (by omega) (by omega) (by omega) (lv_sub hl [3, 4, 5, 6, 7, 2, 1, 0] rfl)
                  · omega
                · refine lv_iload hx hb d_Mo_readLine_143 (lv_at hl 0 rfl) ?_
                  refine lv_goto (tgt := 150) hx hb d_Mo_readLine_145 (by decide) ?_
                  refine lv_istore (lv' := [(6, .int z238), (5, .int z228), (0, .ref (a 0)), (1, .int x1), (2, .int x2), (3, .int v32z_3), (4, .int v32z_4)]) hx hb d_Mo_readLine_150 hl (by decide) rfl (fun ls hl => ?_)
                  refine lv_aload_n hx hb d_Mo_readLine_152 rfl (lv_at hl 2 rfl) ?_
                  refine lv_iload_n hx hb d_Mo_readLine_153 rfl (lv_at hl 4 rfl) ?_
                  refine sn_iconst hx hb d_Mo_readLine_154 (by decide) (fun z257 hz257 => ?_)
                  refine sn_iadd hx hb d_Mo_readLine_155 (by omega) (by omega) (fun z258 hz258 => ?_)
                  refine lv_iload hx hb d_Mo_readLine_156 (lv_at hl 0 rfl) ?_
                  refine tz_call (A1 := ga (adM a) H.size) (tz_runV (C := "StoryMachineModel") (As := [.int z258, .int z238]) (rest := []) ⟨hx, hb, hml, hown, hts⟩ (c_Mo_setByte l hfl dC dI cI cJ a H.size th t_tr239 dp zi co sh lt ts f_mf212 z258 z238 c240) (tx_cb (n := 2) hts rfl rfl ⟨Nat.le_of_ble_eq_true rfl, Nat.le_of_ble_eq_true rfl⟩ (tx_code.of (hts _ mw_1353)) (hts _ mw_12) (by decide +kernel) (hts _ mw_1350)) (hts _ mw_1352) (hts _ ms_Mo_setByte) ⟨tz_blind, sv_recv (q0 := 0) hts in_Mo hK hI kM_0 rfl, fun U hU hW => ⟨rfl, by rw [hU], by rw [hU]; exact hI.1, va_K.moved hW.alike hK, hst _ _ hI.2 U hU hW⟩⟩ rfl rfl hl.1 rfl (lv_room (Nat.le_of_ble_eq_true rfl)) d_Mo_readLine_158 ⟨Nat.le_of_ble_eq_true rfl, Nat.le_of_ble_eq_true rfl⟩) hI.2 (fun q _ h => ga_sub hAC hA0 hI.2 q h) (ga_sub hAC hA0 hI.2) (fun v t H1 locs1 ht hWt hpost _ _ hS => ?_) (fun x t H1 locs1 ht hWt hpost _ _ hS => (hpost.2 x rfl).elim)
                  rcases hpost.1 _ rfl with ⟨t_tr259, hv, c260, c260_0, hI1⟩ | ⟨f_mf261, hv, c262, c262_0, c262_1, c262_2, hI1⟩
                  · cases hv
                    have hI : sI (dC, dI) vcl cI cJ (gsM a th t_tr259 dp zi co sh lt ts f_mf212) A s.heap H1 locs1 := ⟨by rw [← ht]; exact hI1, hS⟩
                    obtain ⟨-, ⟨o263, o264⟩, -, -, -, -, -, -, -⟩ := id c260
                    clear hpost hI1 hS ht hWt
                    revert hI; generalize H1 = H; generalize locs1 = locs; intro hI
                    refine sn_iconst hx hb d_Mo_readLine_161 (by decide) (fun z265 hz265 => ?_)
                    refine lv_istore (lv' := [(7, .int z265), (6, .int z238), (5, .int z228), (0, .ref (a 0)), (1, .int x1), (2, .int x2), (3, .int v32z_3), (4, .int v32z_4)]) hx hb d_Mo_readLine_162 hl (by decide) rfl (fun ls hl => ?_)
                    exact j164p _ _ _ v32z_3 v32z_4 z228 z238 z265 t_tr259 lt f_mf212 hI c260 (by omega) (by omega) (by omega) (by omega) (by omega) (by omega) (by omega) (by omega) (by omega) (by omega) (by omega) (by omega) (by omega) (by omega) (by omega) (lv_sub hl [3, 4, 5, 6, 7, 2, 1, 0] rfl)
                  · omega
              · cases hv
                have hI : sI (dC, dI) vcl cI cJ (gsM a th tr dp zi co sh lt ts f_mf212) A s.heap H1 locs1 := ⟨by rw [← ht]; exact hI1, hS⟩
                clear hpost hI1 hS ht hWt
                revert hI; generalize H1 = H; generalize locs1 = locs; intro hI
                refine lv_istore (lv' := [(6, .int z241), (5, .int z228), (0, .ref (a 0)), (1, .int x1), (2, .int x2), (3, .int v32z_3), (4, .int v32z_4)]) hx hb d_Mo_readLine_134 hl (by decide) rfl (fun ls hl => ?_)
                refine lv_iload hx hb d_Mo_readLine_136 (lv_at hl 0 rfl) ?_
                refine lv_iload hx hb d_Mo_readLine_138 (lv_at hl 1 rfl) ?_
                refine sn_icmp_ge (tgt := 148) hx hb d_Mo_readLine_140 (by decide) (fun b266 => ?_) (fun b266 => ?_)
                · refine lv_iload hx hb d_Mo_readLine_148 (lv_at hl 1 rfl) ?_
                  refine lv_istore (lv' := [(6, .int z228), (5, .int z228), (0, .ref (a 0)), (1, .int x1), (2, .int x2), (3, .int v32z_3), (4, .int v32z_4)]) hx hb d_Mo_readLine_150 hl (by decide) rfl (fun ls hl => ?_)
                  refine lv_aload_n hx hb d_Mo_readLine_152 rfl (lv_at hl 2 rfl) ?_
                  refine lv_iload_n hx hb d_Mo_readLine_153 rfl (lv_at hl 4 rfl) ?_
                  refine sn_iconst hx hb d_Mo_readLine_154 (by decide) (fun z267 hz267 => ?_)
                  refine sn_iadd hx hb d_Mo_readLine_155 (by omega) (by omega) (fun z268 hz268 => ?_)
                  refine lv_iload hx hb d_Mo_readLine_156 (lv_at hl 0 rfl) ?_
                  refine tz_call (A1 := ga (adM a) H.size) (tz_runV (C := "StoryMachineModel") (As := [.int z268, .int z228]) (rest := []) ⟨hx, hb, hml, hown, hts⟩ (c_Mo_setByte l hfl dC dI cI cJ a H.size th tr dp zi co sh lt ts f_mf212 z268 z228 c242) (tx_cb (n := 2) hts rfl rfl ⟨Nat.le_of_ble_eq_true rfl, Nat.le_of_ble_eq_true rfl⟩ (tx_code.of (hts _ mw_1353)) (hts _ mw_12) (by decide +kernel) (hts _ mw_1350)) (hts _ mw_1352) (hts _ ms_Mo_setByte) ⟨tz_blind, sv_recv (q0 := 0) hts in_Mo hK hI kM_0 rfl, fun U hU hW => ⟨rfl, by rw [hU], by rw [hU]; exact hI.1, va_K.moved hW.alike hK, hst _ _ hI.2 U hU hW⟩⟩ rfl rfl hl.1 rfl (lv_room (Nat.le_of_ble_eq_true rfl)) d_Mo_readLine_158 ⟨Nat.le_of_ble_eq_true rfl, Nat.le_of_ble_eq_true rfl⟩) hI.2 (fun q _ h => ga_sub hAC hA0 hI.2 q h) (ga_sub hAC hA0 hI.2) (fun v t H1 locs1 ht hWt hpost _ _ hS => ?_) (fun x t H1 locs1 ht hWt hpost _ _ hS => (hpost.2 x rfl).elim)
                  rcases hpost.1 _ rfl with ⟨t_tr269, hv, c270, c270_0, hI1⟩ | ⟨f_mf271, hv, c272, c272_0, c272_1, c272_2, hI1⟩
                  · cases hv
                    have hI : sI (dC, dI) vcl cI cJ (gsM a th t_tr269 dp zi co sh lt ts f_mf212) A s.heap H1 locs1 := ⟨by rw [← ht]; exact hI1, hS⟩
                    obtain ⟨-, ⟨o273, o274⟩, -, -, -, -, -, -, -⟩ := id c270
                    clear hpost hI1 hS ht hWt
                    revert hI; generalize H1 = H; generalize locs1 = locs; intro hI
                    refine sn_iconst hx hb d_Mo_readLine_161 (by decide) (fun z275 hz275 => ?_)
                    refine lv_istore (lv' := [(7, .int z275), (6, .int z228), (5, .int z228), (0, .ref (a 0)), (1, .int x1), (2, .int x2), (3, .int v32z_3), (4, .int v32z_4)]) hx hb d_Mo_readLine_162 hl (by decide) rfl (fun ls hl => ?_)
                    exact j164p _ _ _ v32z_3 v32z_4 z228 z228 z275 t_tr269 lt f_mf212 hI c270 (by omega) (by omega) (by omega) (by omega) (by omega) (by omega) (by omega) (by omega) (by omega) (by omega) (by omega) (by omega) (by omega) (by omega) (by omega) (lv_sub hl [3, 4, 5, 6, 7, 2, 1, 0] rfl)
                  · cases hv
                    have hI : sI (dC, dI) vcl cI cJ (gsM a th tr dp zi co sh lt ts f_mf271) A s.heap H1 locs1 := ⟨by rw [← ht]; exact hI1, hS⟩
                    obtain ⟨-, -, -, -, -, -, -, -, -⟩ := id c272
                    clear hpost hI1 hS ht hWt
                    revert hI; generalize H1 = H; generalize locs1 = locs; intro hI
                    refine sn_iconst hx hb d_Mo_readLine_161 (by decide) (fun z276 hz276 => ?_)
                    refine lv_istore (lv' := [(7, .int z276), (6, .int z228), (5, .int z228), (0, .ref (a 0)), (1, .int x1), (2, .int x2), (3, .int v32z_3), (4, .int v32z_4)]) hx hb d_Mo_readLine_162 hl (by decide) rfl (fun ls hl => ?_)
                    exact j164z 25 _ _ _ v32z_3 v32z_4 z228 z228 z276 lt f_mf271 hI c272 (by omega) (by omega) (by omega) (by omega) (by omega) (by omega) (by omega) (by omega) (by omega) (by omega) (by omega) (by omega) (by omega) (lv_sub hl [3, 4, 5, 6, 7, 2, 1, 0] rfl) (by omega)
                · refine lv_iload hx hb d_Mo_readLine_143 (lv_at hl 0 rfl) ?_
                  refine lv_goto (tgt := 150) hx hb d_Mo_readLine_145 (by decide) ?_
                  refine lv_istore (lv' := [(6, .int z241), (5, .int z228), (0, .ref (a 0)), (1, .int x1), (2, .int x2), (3, .int v32z_3), (4, .int v32z_4)]) hx hb d_Mo_readLine_150 hl (by decide) rfl (fun ls hl => ?_)
                  refine lv_aload_n hx hb d_Mo_readLine_152 rfl (lv_at hl 2 rfl) ?_
                  refine lv_iload_n hx hb d_Mo_readLine_153 rfl (lv_at hl 4 rfl) ?_
                  refine sn_iconst hx hb d_Mo_readLine_154 (by decide) (fun z277 hz277 => ?_)
                  refine sn_iadd hx hb d_Mo_readLine_155 (by omega) (by omega) (fun z278 hz278 => ?_)
                  refine lv_iload hx hb d_Mo_readLine_156 (lv_at hl 0 rfl) ?_
                  refine tz_call (A1 := ga (adM a) H.size) (tz_runV (C := "StoryMachineModel") (As := [.int z278, .int z241]) (rest := []) ⟨hx, hb, hml, hown, hts⟩ (c_Mo_setByte l hfl dC dI cI cJ a H.size th tr dp zi co sh lt ts f_mf212 z278 z241 c242) (tx_cb (n := 2) hts rfl rfl ⟨Nat.le_of_ble_eq_true rfl, Nat.le_of_ble_eq_true rfl⟩ (tx_code.of (hts _ mw_1353)) (hts _ mw_12) (by decide +kernel) (hts _ mw_1350)) (hts _ mw_1352) (hts _ ms_Mo_setByte) ⟨tz_blind, sv_recv (q0 := 0) hts in_Mo hK hI kM_0 rfl, fun U hU hW => ⟨rfl, by rw [hU], by rw [hU]; exact hI.1, va_K.moved hW.alike hK, hst _ _ hI.2 U hU hW⟩⟩ rfl rfl hl.1 rfl (lv_room (Nat.le_of_ble_eq_true rfl)) d_Mo_readLine_158 ⟨Nat.le_of_ble_eq_true rfl, Nat.le_of_ble_eq_true rfl⟩) hI.2 (fun q _ h => ga_sub hAC hA0 hI.2 q h) (ga_sub hAC hA0 hI.2) (fun v t H1 locs1 ht hWt hpost _ _ hS => ?_) (fun x t H1 locs1 ht hWt hpost _ _ hS => (hpost.2 x rfl).elim)
                  rcases hpost.1 _ rfl with ⟨t_tr279, hv, c280, c280_0, hI1⟩ | ⟨f_mf281, hv, c282, c282_0, c282_1, c282_2, hI1⟩
                  · cases hv
                    have hI : sI (dC, dI) vcl cI cJ (gsM a th t_tr279 dp zi co sh lt ts f_mf212) A s.heap H1 locs1 := ⟨by rw [← ht]; exact hI1, hS⟩
                    obtain ⟨-, ⟨o283, o284⟩, -, -, -, -, -, -, -⟩ := id c280
                    clear hpost hI1 hS ht hWt
                    revert hI; generalize H1 = H; generalize locs1 = locs; intro hI
                    refine sn_iconst hx hb d_Mo_readLine_161 (by decide) (fun z285 hz285 => ?_)
                    refine lv_istore (lv' := [(7, .int z285), (6, .int z241), (5, .int z228), (0, .ref (a 0)), (1, .int x1), (2, .int x2), (3, .int v32z_3), (4, .int v32z_4)]) hx hb d_Mo_readLine_162 hl (by decide) rfl (fun ls hl => ?_)
                    exact j164p _ _ _ v32z_3 v32z_4 z228 z241 z285 t_tr279 lt f_mf212 hI c280 (by omega) (by omega) (by omega) (by omega) (by omega) (by omega) (by omega) (by omega) (by omega) (by omega) (by omega) (by omega) (by omega) (by omega) (by omega) (lv_sub hl [3, 4, 5, 6, 7, 2, 1, 0] rfl)
                  · cases hv
                    have hI : sI (dC, dI) vcl cI cJ (gsM a th tr dp zi co sh lt ts f_mf281) A s.heap H1 locs1 := ⟨by rw [← ht]; exact hI1, hS⟩
                    obtain ⟨-, -, -, -, -, -, -, -, -⟩ := id c282
                    clear hpost hI1 hS ht hWt
                    revert hI; generalize H1 = H; generalize locs1 = locs; intro hI
                    refine sn_iconst hx hb d_Mo_readLine_161 (by decide) (fun z286 hz286 => ?_)
                    refine lv_istore (lv' := [(7, .int z286), (6, .int z241), (5, .int z228), (0, .ref (a 0)), (1, .int x1), (2, .int x2), (3, .int v32z_3), (4, .int v32z_4)]) hx hb d_Mo_readLine_162 hl (by decide) rfl (fun ls hl => ?_)
                    exact j164z 25 _ _ _ v32z_3 v32z_4 z228 z241 z286 lt f_mf281 hI c282 (by omega) (by omega) (by omega) (by omega) (by omega) (by omega) (by omega) (by omega) (by omega) (by omega) (by omega) (by omega) (by omega) (lv_sub hl [3, 4, 5, 6, 7, 2, 1, 0] rfl) (by omega)
              · cases hv
                have hI : sI (dC, dI) vcl cI cJ (gsM a th tr dp zi co sh lt ts f_mf212) A s.heap H1 locs1 := ⟨by rw [← ht]; exact hI1, hS⟩
                clear hpost hI1 hS ht hWt
                revert hI; generalize H1 = H; generalize locs1 = locs; intro hI
                refine lv_istore (lv' := [(6, .int z243), (5, .int z228), (0, .ref (a 0)), (1, .int x1), (2, .int x2), (3, .int v32z_3), (4, .int v32z_4)]) hx hb d_Mo_readLine_134 hl (by decide) rfl (fun ls hl => ?_)
                refine lv_iload hx hb d_Mo_readLine_136 (lv_at hl 0 rfl) ?_
                refine lv_iload hx hb d_Mo_readLine_138 (lv_at hl 1 rfl) ?_
                refine sn_icmp_ge (tgt := 148) hx hb d_Mo_readLine_140 (by decide) (fun b287 => ?_) (fun b287 => ?_)
                · refine lv_iload hx hb d_Mo_readLine_148 (lv_at hl 1 rfl) ?_
                  refine lv_istore (lv' := [(6, .int z228), (5, .int z228), (0, .ref (a 0)), (1, .int x1), (2, .int x2), (3, .int v32z_3), (4, .int v32z_4)]) hx hb d_Mo_readLine_150 hl (by decide) rfl (fun ls hl => ?_)
                  refine lv_aload_n hx hb d_Mo_readLine_152 rfl (lv_at hl 2 rfl) ?_
                  refine lv_iload_n hx hb d_Mo_readLine_153 rfl (lv_at hl 4 rfl) ?_
                  refine sn_iconst hx hb d_Mo_readLine_154 (by decide) (fun z288 hz288 => ?_)
                  refine sn_iadd hx hb d_Mo_readLine_155 (by omega) (by omega) (fun z289 hz289 => ?_)
                  refine lv_iload hx hb d_Mo_readLine_156 (lv_at hl 0 rfl) ?_
                  refine tz_call (A1 := ga (adM a) H.size) (tz_runV (C := "StoryMachineModel") (As := [.int z289, .int z228]) (rest := []) ⟨hx, hb, hml, hown, hts⟩ (c_Mo_setByte l hfl dC dI cI cJ a H.size th tr dp zi co sh lt ts f_mf212 z289 z228 c244) (tx_cb (n := 2) hts rfl rfl ⟨Nat.le_of_ble_eq_true rfl, Nat.le_of_ble_eq_true rfl⟩ (tx_code.of (hts _ mw_1353)) (hts _ mw_12) (by decide +kernel) (hts _ mw_1350)) (hts _ mw_1352) (hts _ ms_Mo_setByte) ⟨tz_blind, sv_recv (q0 := 0) hts in_Mo hK hI kM_0 rfl, fun U hU hW => ⟨rfl, by rw [hU], by rw [hU]; exact hI.1, va_K.moved hW.alike hK, hst _ _ hI.2 U hU hW⟩⟩ rfl rfl hl.1 rfl (lv_room (Nat.le_of_ble_eq_true rfl)) d_Mo_readLine_158 ⟨Nat.le_of_ble_eq_true rfl, Nat.le_of_ble_eq_true rfl⟩) hI.2 (fun q _ h => ga_sub hAC hA0 hI.2 q h) (ga_sub hAC hA0 hI.2) (fun v t H1 locs1 ht hWt hpost _ _ hS => ?_) (fun x t H1 locs1 ht hWt hpost _ _ hS => (hpost.2 x rfl).elim)
                  rcases hpost.1 _ rfl with ⟨t_tr290, hv, c291, c291_0, hI1⟩ | ⟨f_mf292, hv, c293, c293_0, c293_1, c293_2, hI1⟩
                  · cases hv
                    have hI : sI (dC, dI) vcl cI cJ (gsM a th t_tr290 dp zi co sh lt ts f_mf212) A s.heap H1 locs1 := ⟨by rw [← ht]; exact hI1, hS⟩
                    obtain ⟨-, ⟨o294, o295⟩, -, -, -, -, -, -, -⟩ := id c291
                    clear hpost hI1 hS ht hWt
                    revert hI; generalize H1 = H; generalize locs1 = locs; intro hI
                    refine sn_iconst hx hb d_Mo_readLine_161 (by decide) (fun z296 hz296 => ?_)
                    refine lv_istore (lv' := [(7, .int z296), (6, .int z228), (5, .int z228), (0, .ref (a 0)), (1, .int x1), (2, .int x2), (3, .int v32z_3), (4, .int v32z_4)]) hx hb d_Mo_readLine_162 hl (by decide) rfl (fun ls hl => ?_)
                    exact j164p _ _ _ v32z_3 v32z_4 z228 z228 z296 t_tr290 lt f_mf212 hI c291 (by omega) (by omega) (by omega) (by omega) (by omega) (by omega) (by omega) (by omega) (by omega) (by omega) (by omega) (by omega) (by omega) (by omega) (by omega) (lv_sub hl [3, 4, 5, 6, 7, 2, 1, 0] rfl)
                  · cases hv
                    have hI : sI (dC, dI) vcl cI cJ (gsM a th tr dp zi co sh lt ts f_mf292) A s.heap H1 locs1 := ⟨by rw [← ht]; exact hI1, hS⟩
                    obtain ⟨-, -, -, -, -, -, -, -, -⟩ := id c293
                    clear hpost hI1 hS ht hWt
                    revert hI; generalize H1 = H; generalize locs1 = locs; intro hI
                    refine sn_iconst hx hb d_Mo_readLine_161 (by decide) (fun z297 hz297 => ?_)
                    refine lv_istore (lv' := [(7, .int z297), (6, .int z228), (5, .int z228), (0, .ref (a 0)), (1, .int x1), (2, .int x2), (3, .int v32z_3), (4, .int v32z_4)]) hx hb d_Mo_readLine_162 hl (by decide) rfl (fun ls hl => ?_)
                    exact j164z 25 _ _ _ v32z_3 v32z_4 z228 z228 z297 lt f_mf292 hI c293 (by omega) (by omega) (by omega) (by omega) (by omega) (by omega) (by omega) (by omega) (by omega) (by omega) (by omega) (by omega) (by omega) (lv_sub hl [3, 4, 5, 6, 7, 2, 1, 0] rfl) (by omega)
                · refine lv_iload hx hb d_Mo_readLine_143 (lv_at hl 0 rfl) ?_
                  refine lv_goto (tgt := 150) hx hb d_Mo_readLine_145 (by decide) ?_
                  refine lv_istore (lv' := [(6, .int z243), (5, .int z228), (0, .ref (a 0)), (1, .int x1), (2, .int x2), (3, .int v32z_3), (4, .int v32z_4)]) hx hb d_Mo_readLine_150 hl (by decide) rfl (fun ls hl => ?_)
                  refine lv_aload_n hx hb d_Mo_readLine_152 rfl (lv_at hl 2 rfl) ?_
                  refine lv_iload_n hx hb d_Mo_readLine_153 rfl (lv_at hl 4 rfl) ?_
                  refine sn_iconst hx hb d_Mo_readLine_154 (by decide) (fun z298 hz298 => ?_)
                  refine sn_iadd hx hb d_Mo_readLine_155 (by omega) (by omega) (fun z299 hz299 => ?_)
                  refine lv_iload hx hb d_Mo_readLine_156 (lv_at hl 0 rfl) ?_
                  refine tz_call (A1 := ga (adM a) H.size) (tz_runV (C := "StoryMachineModel") (As := [.int z299, .int z243]) (rest := []) ⟨hx, hb, hml, hown, hts⟩ (c_Mo_setByte l hfl dC dI cI cJ a H.size th tr dp zi co sh lt ts f_mf212 z299 z243 c244) (tx_cb (n := 2) hts rfl rfl ⟨Nat.le_of_ble_eq_true rfl, Nat.le_of_ble_eq_true rfl⟩ (tx_code.of (hts _ mw_1353)) (hts _ mw_12) (by decide +kernel) (hts _ mw_1350)) (hts _ mw_1352) (hts _ ms_Mo_setByte) ⟨tz_blind, sv_recv (q0 := 0) hts in_Mo hK hI kM_0 rfl, fun U hU hW => ⟨rfl, by rw [hU], by rw [hU]; exact hI.1, va_K.moved hW.alike hK, hst _ _ hI.2 U hU hW⟩⟩ rfl rfl hl.1 rfl (lv_room (Nat.le_of_ble_eq_true rfl)) d_Mo_readLine_158 ⟨Nat.le_of_ble_eq_true rfl, Nat.le_of_ble_eq_true rfl⟩) hI.2 (fun q _ h => ga_sub hAC hA0 hI.2 q h) (ga_sub hAC hA0 hI.2) (fun v t H1 locs1 ht hWt hpost _ _ hS => ?_) (fun x t H1 locs1 ht hWt hpost _ _ hS => (hpost.2 x rfl).elim)
                  rcases hpost.1 _ rfl with ⟨t_tr300, hv, c301, c301_0, hI1⟩ | ⟨f_mf302, hv, c303, c303_0, c303_1, c303_2, hI1⟩
                  · cases hv
                    have hI : sI (dC, dI) vcl cI cJ (gsM a th t_tr300 dp zi co sh lt ts f_mf212) A s.heap H1 locs1 := ⟨by rw [← ht]; exact hI1, hS⟩
                    obtain ⟨-, ⟨o304, o305⟩, -, -, -, -, -, -, -⟩ := id c301
                    clear hpost hI1 hS ht hWt
                    revert hI; generalize H1 = H; generalize locs1 = locs; intro hI
                    refine sn_iconst hx hb d_Mo_readLine_161 (by decide) (fun z306 hz306 => ?_)
                    refine lv_istore (lv' := [(7, .int z306), (6, .int z243), (5, .int z228), (0, .ref (a 0)), (1, .int x1), (2, .int x2), (3, .int v32z_3), (4, .int v32z_4)]) hx hb d_Mo_readLine_162 hl (by decide) rfl (fun ls hl => ?_)
                    exact j164p _ _ _ v32z_3 v32z_4 z228 z243 z306 t_tr300 lt f_mf212 hI c301 (by omega) (by omega) (by omega) (by omega) (by omega) (by omega) (by omega) (by omega) (by omega) (by omega) (by omega) (by omega) (by omega) (by omega) (by omega) (lv_sub hl [3, 4, 5, 6, 7, 2, 1, 0] rfl)
                  · cases hv
                    have hI : sI (dC, dI) vcl cI cJ (gsM a th tr dp zi co sh lt ts f_mf302) A s.heap H1 locs1 := ⟨by rw [← ht]; exact hI1, hS⟩
                    obtain ⟨-, -, -, -, -, -, -, -, -⟩ := id c303
                    clear hpost hI1 hS ht hWt
                    revert hI; generalize H1 = H; generalize locs1 = locs; intro hI
                    refine sn_iconst hx hb d_Mo_readLine_161 (by decide) (fun z307 hz307 => ?_)
                    refine lv_istore (lv' := [(7, .int z307), (6, .int z243), (5, .int z228), (0, .ref (a 0)), (1, .int x1), (2, .int x2), (3, .int v32z_3), (4, .int v32z_4)]) hx hb d_Mo_readLine_162 hl (by decide) rfl (fun ls hl => ?_)
                    exact j164z 25 _ _ _ v32z_3 v32z_4 z228 z243 z307 lt f_mf302 hI c303 (by omega) (by omega) (by omega) (by omega) (by omega) (by omega) (by omega) (by omega) (by omega) (by omega) (by omega) (by omega) (by omega) (lv_sub hl [3, 4, 5, 6, 7, 2, 1, 0] rfl) (by omega)
            · omega
      · refine lv_aload_n hx hb d_Mo_readLine_39 rfl (lv_at hl 0 rfl) ?_
        refine lv_iload_n hx hb d_Mo_readLine_40 rfl (lv_at hl 1 rfl) ?_
        refine sn_iconst hx hb d_Mo_readLine_41 (by decide) (fun z308 hz308 => ?_)
        refine sn_iadd hx hb d_Mo_readLine_42 (by omega) (by omega) (fun z309 hz309 => ?_)
        refine lv_iload hx hb d_Mo_readLine_43 (lv_at hl 5 rfl) ?_
        refine sn_iadd hx hb d_Mo_readLine_45 (by omega) (by omega) (fun z310 hz310 => ?_)
        refine lv_aload_n hx hb d_Mo_readLine_46 rfl (lv_at hl 0 rfl) ?_
        refine sv_getr (C := "StoryMachineModel") (T := T_Mo) (N := 51) hx hb hts in_Mo hown hK hI 0 kM_0 rfl 37 (by decide) (hts _ mw_1100) rfl d_Mo_readLine_47 ?_
        refine lv_iload hx hb d_Mo_readLine_50 (lv_at hl 5 rfl) ?_
        refine sv_ialdr hx hb hK hI 17 kM_17 (by omega) (by omega) d_Mo_readLine_52 (fun z311 hz311a hz311b => ?_)
        refine sn_bipush hx hb d_Mo_readLine_53 (by decide) (fun z312 hz312 => ?_)
        refine sn_icmp_le (tgt := 83) hx hb d_Mo_readLine_55 (by decide) (fun b313 => ?_) (fun b313 => ?_)
        · refine lv_aload_n hx hb d_Mo_readLine_83 rfl (lv_at hl 0 rfl) ?_
          refine sv_getr (C := "StoryMachineModel") (T := T_Mo) (N := 51) hx hb hts in_Mo hown hK hI 0 kM_0 rfl 37 (by decide) (hts _ mw_1100) rfl d_Mo_readLine_84 ?_
          refine lv_iload hx hb d_Mo_readLine_87 (lv_at hl 5 rfl) ?_
          refine sv_ialdr hx hb hK hI 17 kM_17 (by omega) (by omega) d_Mo_readLine_89 (fun z314 hz314a hz314b => ?_)
          refine tz_call (A1 := ga (adM a) H.size) (tz_runV (C := "StoryMachineModel") (As := [.int z310, .int z314]) (rest := []) ⟨hx, hb, hml, hown, hts⟩ (c_Mo_setByte l hfl dC dI cI cJ a H.size th tr dp zi co sh lt ts t32z_mf z310 z314 hok) (tx_cb (n := 2) hts rfl rfl ⟨Nat.le_of_ble_eq_true rfl, Nat.le_of_ble_eq_true rfl⟩ (tx_code.of (hts _ mw_1353)) (hts _ mw_12) (by decide +kernel) (hts _ mw_1350)) (hts _ mw_1352) (hts _ ms_Mo_setByte) ⟨tz_blind, sv_recv (q0 := 0) hts in_Mo hK hI kM_0 rfl, fun U hU hW => ⟨rfl, by rw [hU], by rw [hU]; exact hI.1, va_K.moved hW.alike hK, hst _ _ hI.2 U hU hW⟩⟩ rfl rfl hl.1 rfl (lv_room (Nat.le_of_ble_eq_true rfl)) d_Mo_readLine_90 ⟨Nat.le_of_ble_eq_true rfl, Nat.le_of_ble_eq_true rfl⟩) hI.2 (fun q _ h => ga_sub hAC hA0 hI.2 q h) (ga_sub hAC hA0 hI.2) (fun v t H1 locs1 ht hWt hpost _ _ hS => ?_) (fun x t H1 locs1 ht hWt hpost _ _ hS => (hpost.2 x rfl).elim)
          rcases hpost.1 _ rfl with ⟨t_tr315, hv, c316, c316_0, hI1⟩ | ⟨f_mf317, hv, c318, c318_0, c318_1, c318_2, hI1⟩
          · cases hv
            have hI : sI (dC, dI) vcl cI cJ (gsM a th t_tr315 dp zi co sh lt ts t32z_mf) A s.heap H1 locs1 := ⟨by rw [← ht]; exact hI1, hS⟩
            obtain ⟨-, ⟨o319, o320⟩, -, -, -, -, -, -, -⟩ := id c316
            clear hpost hI1 hS ht hWt
            revert hI; generalize H1 = H; generalize locs1 = locs; intro hI
            refine sn_iinc (k := 5) hx hb d_Mo_readLine_93 hl rfl (by decide) (by decide) (by omega) (by omega) (fun ls z321 hz321 hl => ?_)
            have hl : lv_has ls 8 [(5, .int z321), (0, .ref (a 0)), (1, .int x1), (2, .int x2), (3, .int v32z_3), (4, .int v32z_4)] := hl
            refine lv_goto (tgt := 32) hx hb d_Mo_readLine_96 (by decide) ?_
            exact j32p 25 _ _ _ v32z_3 v32z_4 z321 t_tr315 t32z_mf hI c316 (by omega) (by omega) (by omega) (by omega) (by omega) (by omega) (by omega) (by omega) (lv_sub hl [1, 2, 3, 4, 5, 0] rfl) (by omega)
          · cases hv
            have hI : sI (dC, dI) vcl cI cJ (gsM a th tr dp zi co sh lt ts f_mf317) A s.heap H1 locs1 := ⟨by rw [← ht]; exact hI1, hS⟩
            obtain ⟨-, -, -, -, -, -, -, -, -⟩ := id c318
            clear hpost hI1 hS ht hWt
            revert hI; generalize H1 = H; generalize locs1 = locs; intro hI
            refine sn_iinc (k := 5) hx hb d_Mo_readLine_93 hl rfl (by decide) (by decide) (by omega) (by omega) (fun ls z322 hz322 hl => ?_)
            have hl : lv_has ls 8 [(5, .int z322), (0, .ref (a 0)), (1, .int x1), (2, .int x2), (3, .int v32z_3), (4, .int v32z_4)] := hl
            refine lv_goto (tgt := 32) hx hb d_Mo_readLine_96 (by decide) ?_
            exact ih _ _ _ v32z_3 v32z_4 z322 f_mf317 hI c318 (by omega) (by omega) (by omega) (by omega) (by omega) (by omega) (by omega) (by omega) (lv_sub hl [1, 2, 3, 4, 5, 0] rfl) (by omega)
        · refine lv_aload_n hx hb d_Mo_readLine_58 rfl (lv_at hl 0 rfl) ?_
          refine sv_getr (C := "StoryMachineModel") (T := T_Mo) (N := 51) hx hb hts in_Mo hown hK hI 0 kM_0 rfl 37 (by decide) (hts _ mw_1100) rfl d_Mo_readLine_59 ?_
          refine lv_iload hx hb d_Mo_readLine_62 (lv_at hl 5 rfl) ?_
          refine sv_ialdr hx hb hK hI 17 kM_17 (by omega) (by omega) d_Mo_readLine_64 (fun z323 hz323a hz323b => ?_)
          refine sn_bipush hx hb d_Mo_readLine_65 (by decide) (fun z324 hz324 => ?_)
          refine sn_icmp_ge (tgt := 83) hx hb d_Mo_readLine_67 (by decide) (fun b325 => ?_) (fun b325 => ?_)
          · refine lv_aload_n hx hb d_Mo_readLine_83 rfl (lv_at hl 0 rfl) ?_
            refine sv_getr (C := "StoryMachineModel") (T := T_Mo) (N := 51) hx hb hts in_Mo hown hK hI 0 kM_0 rfl 37 (by decide) (hts _ mw_1100) rfl d_Mo_readLine_84 ?_
            refine lv_iload hx hb d_Mo_readLine_87 (lv_at hl 5 rfl) ?_
            refine sv_ialdr hx hb hK hI 17 kM_17 (by omega) (by omega) d_Mo_readLine_89 (fun z326 hz326a hz326b => ?_)
            refine tz_call (A1 := ga (adM a) H.size) (tz_runV (C := "StoryMachineModel") (As := [.int z310, .int z326]) (rest := []) ⟨hx, hb, hml, hown, hts⟩ (c_Mo_setByte l hfl dC dI cI cJ a H.size th tr dp zi co sh lt ts t32z_mf z310 z326 hok) (tx_cb (n := 2) hts rfl rfl ⟨Nat.le_of_ble_eq_true rfl, Nat.le_of_ble_eq_true rfl⟩ (tx_code.of (hts _ mw_1353)) (hts _ mw_12) (by decide +kernel) (hts _ mw_1350)) (hts _ mw_1352) (hts _ ms_Mo_setByte) ⟨tz_blind, sv_recv (q0 := 0) hts in_Mo hK hI kM_0 rfl, fun U hU hW => ⟨rfl, by rw [hU], by rw [hU]; exact hI.1, va_K.moved hW.alike hK, hst _ _ hI.2 U hU hW⟩⟩ rfl rfl hl.1 rfl (lv_room (Nat.le_of_ble_eq_true rfl)) d_Mo_readLine_90 ⟨Nat.le_of_ble_eq_true rfl, Nat.le_of_ble_eq_true rfl⟩) hI.2 (fun q _ h => ga_sub hAC hA0 hI.2 q h) (ga_sub hAC hA0 hI.2) (fun v t H1 locs1 ht hWt hpost _ _ hS => ?_) (fun x t H1 locs1 ht hWt hpost _ _ hS => (hpost.2 x rfl).elim)
            rcases hpost.1 _ rfl with ⟨t_tr327, hv, c328, c328_0, hI1⟩ | ⟨f_mf329, hv, c330, c330_0, c330_1, c330_2, hI1⟩
            · cases hv
              have hI : sI (dC, dI) vcl cI cJ (gsM a th t_tr327 dp zi co sh lt ts t32z_mf) A s.heap H1 locs1 := ⟨by rw [← ht]; exact hI1, hS⟩
              obtain ⟨-, ⟨o331, o332⟩, -, -, -, -, -, -, -⟩ := id c328
              clear hpost hI1 hS ht hWt
              revert hI; generalize H1 = H; generalize locs1 = locs; intro hI
              refine sn_iinc (k := 5) hx hb d_Mo_readLine_93 hl rfl (by decide) (by decide) (by omega) (by omega) (fun ls z333 hz333 hl => ?_)
              have hl : lv_has ls 8 [(5, .int z333), (0, .ref (a 0)), (1, .int x1), (2, .int x2), (3, .int v32z_3), (4, .int v32z_4)] := hl
              refine lv_goto (tgt := 32) hx hb d_Mo_readLine_96 (by decide) ?_
              exact j32p 25 _ _ _ v32z_3 v32z_4 z333 t_tr327 t32z_mf hI c328 (by omega) (by omega) (by omega) (by omega) (by omega) (by omega) (by omega) (by omega) (lv_sub hl [1, 2, 3, 4, 5, 0] rfl) (by omega)
            · cases hv
              have hI : sI (dC, dI) vcl cI cJ (gsM a th tr dp zi co sh lt ts f_mf329) A s.heap H1 locs1 := ⟨by rw [← ht]; exact hI1, hS⟩
              obtain ⟨-, -, -, -, -, -, -, -, -⟩ := id c330
              clear hpost hI1 hS ht hWt
              revert hI; generalize H1 = H; generalize locs1 = locs; intro hI
              refine sn_iinc (k := 5) hx hb d_Mo_readLine_93 hl rfl (by decide) (by decide) (by omega) (by omega) (fun ls z334 hz334 hl => ?_)
              have hl : lv_has ls 8 [(5, .int z334), (0, .ref (a 0)), (1, .int x1), (2, .int x2), (3, .int v32z_3), (4, .int v32z_4)] := hl
              refine lv_goto (tgt := 32) hx hb d_Mo_readLine_96 (by decide) ?_
              exact ih _ _ _ v32z_3 v32z_4 z334 f_mf329 hI c330 (by omega) (by omega) (by omega) (by omega) (by omega) (by omega) (by omega) (by omega) (lv_sub hl [1, 2, 3, 4, 5, 0] rfl) (by omega)
          · refine lv_aload_n hx hb d_Mo_readLine_70 rfl (lv_at hl 0 rfl) ?_
            refine sv_getr (C := "StoryMachineModel") (T := T_Mo) (N := 51) hx hb hts in_Mo hown hK hI 0 kM_0 rfl 37 (by decide) (hts _ mw_1100) rfl d_Mo_readLine_71 ?_
            refine lv_iload hx hb d_Mo_readLine_74 (lv_at hl 5 rfl) ?_
            refine sv_ialdr hx hb hK hI 17 kM_17 (by omega) (by omega) d_Mo_readLine_76 (fun z335 hz335a hz335b => ?_)
            refine sn_bipush hx hb d_Mo_readLine_77 (by decide) (fun z336 hz336 => ?_)
            refine sn_iaddT hx hb d_Mo_readLine_79 (fun z337 hz337a hz337b => ?_)
            refine lv_goto (tgt := 90) hx hb d_Mo_readLine_80 (by decide) ?_
            refine tz_call (A1 := ga (adM a) H.size) (tz_runV (C := "StoryMachineModel") (As := [.int z310, .int z337]) (rest := []) ⟨hx, hb, hml, hown, hts⟩ (c_Mo_setByte l hfl dC dI cI cJ a H.size th tr dp zi co sh lt ts t32z_mf z310 z337 hok) (tx_cb (n := 2) hts rfl rfl ⟨Nat.le_of_ble_eq_true rfl, Nat.le_of_ble_eq_true rfl⟩ (tx_code.of (hts _ mw_1353)) (hts _ mw_12) (by decide +kernel) (hts _ mw_1350)) (hts _ mw_1352) (hts _ ms_Mo_setByte) ⟨tz_blind, sv_recv (q0 := 0) hts in_Mo hK hI kM_0 rfl, fun U hU hW => ⟨rfl, by rw [hU], by rw [hU]; exact hI.1, va_K.moved hW.alike hK, hst _ _ hI.2 U hU hW⟩⟩ rfl rfl hl.1 rfl (lv_room (Nat.le_of_ble_eq_true rfl)) d_Mo_readLine_90 ⟨Nat.le_of_ble_eq_true rfl, Nat.le_of_ble_eq_true rfl⟩) hI.2 (fun q _ h => ga_sub hAC hA0 hI.2 q h) (ga_sub hAC hA0 hI.2) (fun v t H1 locs1 ht hWt hpost _ _ hS => ?_) (fun x t H1 locs1 ht hWt hpost _ _ hS => (hpost.2 x rfl).elim)
            rcases hpost.1 _ rfl with ⟨t_tr338, hv, c339, c339_0, hI1⟩ | ⟨f_mf340, hv, c341, c341_0, c341_1, c341_2, hI1⟩
            · cases hv
              have hI : sI (dC, dI) vcl cI cJ (gsM a th t_tr338 dp zi co sh lt ts t32z_mf) A s.heap H1 locs1 := ⟨by rw [← ht]; exact hI1, hS⟩
              obtain ⟨-, ⟨o342, o343⟩, -, -, -, -, -, -, -⟩ := id c339
              clear hpost hI1 hS ht hWt
              revert hI; generalize H1 = H; generalize locs1 = locs; intro hI
              refine sn_iinc (k := 5) hx hb d_Mo_readLine_93 hl rfl (by decide) (by decide) (by omega) (by omega) (fun ls z344 hz344 hl => ?_)
              have hl : lv_has ls 8 [(5, .int z344), (0, .ref (a 0)), (1, .int x1), (2, .int x2), (3, .int v32z_3), (4, .int v32z_4)] := hl
              refine lv_goto (tgt := 32) hx hb d_Mo_readLine_96 (by decide) ?_
              exact j32p 25 _ _ _ v32z_3 v32z_4 z344 t_tr338 t32z_mf hI c339 (by omega) (by omega) (by omega) (by omega) (by omega) (by omega) (by omega) (by omega) (lv_sub hl [1, 2, 3, 4, 5, 0] rfl) (by omega)
            · cases hv
              have hI : sI (dC, dI) vcl cI cJ (gsM a th tr dp zi co sh lt ts f_mf340) A s.heap H1 locs1 := ⟨by rw [← ht]; exact hI1, hS⟩
              obtain ⟨-, -, -, -, -, -, -, -, -⟩ := id c341
              clear hpost hI1 hS ht hWt
              revert hI; generalize H1 = H; generalize locs1 = locs; intro hI
              refine sn_iinc (k := 5) hx hb d_Mo_readLine_93 hl rfl (by decide) (by decide) (by omega) (by omega) (fun ls z345 hz345 hl => ?_)
              have hl : lv_has ls 8 [(5, .int z345), (0, .ref (a 0)), (1, .int x1), (2, .int x2), (3, .int v32z_3), (4, .int v32z_4)] := hl
              refine lv_goto (tgt := 32) hx hb d_Mo_readLine_96 (by decide) ?_
              exact ih _ _ _ v32z_3 v32z_4 z345 f_mf340 hI c341 (by omega) (by omega) (by omega) (by omega) (by omega) (by omega) (by omega) (by omega) (lv_sub hl [1, 2, 3, 4, 5, 0] rfl) (by omega)
  refine lv_aload_n hx hb d_Mo_readLine_0 rfl (lv_at hl 0 rfl) ?_
  refine sn_iconst hx hb d_Mo_readLine_1 (by decide) (fun z346 hz346 => ?_)
  refine sv_put (C := "StoryMachineModel") (T := T_Mo) (N := 51) (ty := .boolean) hx hb hts in_Mo t_Mo tk_Mo nm_Mo hown hK (sh_in adM_map hAC) hI 0 kM_0 rfl 33 (by decide) (hts _ mw_1096) rfl (by decide +kernel) (sn_bool (by omega) (by omega)).1 (sn_bool (by omega) (by omega)).2 (Nat.le_of_ble_eq_true rfl) (by omega) (by omega) pM_0_33 d_Mo_readLine_2 (fun H locs hI => ?_)
  refine lv_aload_n hx hb d_Mo_readLine_5 rfl (lv_at hl 0 rfl) ?_
  refine lv_iload_n hx hb d_Mo_readLine_6 rfl (lv_at hl 1 rfl) ?_
  refine tz_call (A1 := ga (adM a) H.size) (tz_runV (C := "StoryMachineModel") (As := [.int x1]) (rest := []) ⟨hx, hb, hml, hown, hts⟩ (c_Mo_byteAt l hfl dC dI cI cJ a H.size th tr dp zi co sh lt ts mf x1 hok) (tx_cb (n := 1) hts rfl rfl ⟨Nat.le_of_ble_eq_true rfl, Nat.le_of_ble_eq_true rfl⟩ (tx_code.of (hts _ mw_1236)) (hts _ mw_12) (by decide +kernel) (hts _ mw_1233)) (hts _ mw_1235) (hts _ ms_Mo_byteAt) ⟨tz_blind, sv_recv (q0 := 0) hts in_Mo hK hI kM_0 rfl, fun U hU hW => ⟨rfl, by rw [hU], by rw [hU]; exact hI.1, va_K.moved hW.alike hK, hst _ _ hI.2 U hU hW⟩⟩ rfl rfl hl.1 rfl (lv_room (Nat.le_of_ble_eq_true rfl)) d_Mo_readLine_7 ⟨Nat.le_of_ble_eq_true rfl, Nat.le_of_ble_eq_true rfl⟩) hI.2 (fun q _ h => ga_sub hAC hA0 hI.2 q h) (ga_sub hAC hA0 hI.2) (fun v t H1 locs1 ht hWt hpost _ _ hS => ?_) (fun x t H1 locs1 ht hWt hpost _ _ hS => (hpost.2 x rfl).elim)
  rcases hpost.1 _ rfl with ⟨z347, t_tr348, hv, c349, c349_0, c349_1, c349_2, hI1⟩ | ⟨z350, hv, c351, c351_0, c351_1, c351_2, c351_3, c351_4, hI1⟩
  · cases hv
    have hI : sI (dC, dI) vcl cI cJ (gsM a th t_tr348 dp zi co sh lt ts mf) A s.heap H1 locs1 := ⟨by rw [← ht]; exact hI1, hS⟩
    obtain ⟨-, ⟨o352, o353⟩, -, -, -, -, -, -, -⟩ := id c349
    clear hpost hI1 hS ht hWt
    revert hI; generalize H1 = H; generalize locs1 = locs; intro hI
    refine lv_istore_n (lv' := [(3, .int z347), (0, .ref (a 0)), (1, .int x1), (2, .int x2)]) hx hb d_Mo_readLine_10 rfl hl (by decide) rfl (fun ls hl => ?_)
    refine lv_aload_n hx hb d_Mo_readLine_11 rfl (lv_at hl 1 rfl) ?_
    refine sv_get (C := "StoryMachineModel") (T := T_Mo) (N := 51) hx hb hts in_Mo hown hK hI 0 kM_0 rfl 36 (by decide) (hts _ mw_1099) rfl d_Mo_readLine_12 (fun z354 hz354a hz354b => ?_)
    refine lv_iload_n hx hb d_Mo_readLine_15 rfl (lv_at hl 0 rfl) ?_
    refine sn_icmp_ge (tgt := 26) hx hb d_Mo_readLine_16 (by decide) (fun b355 => ?_) (fun b355 => ?_)
    · refine lv_iload_n hx hb d_Mo_readLine_26 rfl (lv_at hl 0 rfl) ?_
      refine lv_istore (lv' := [(4, .int z347), (3, .int z347), (0, .ref (a 0)), (1, .int x1), (2, .int x2)]) hx hb d_Mo_readLine_27 hl (by decide) rfl (fun ls hl => ?_)
      refine sn_iconst hx hb d_Mo_readLine_29 (by decide) (fun z356 hz356 => ?_)
      refine lv_istore (lv' := [(5, .int z356), (4, .int z347), (3, .int z347), (0, .ref (a 0)), (1, .int x1), (2, .int x2)]) hx hb d_Mo_readLine_30 hl (by decide) rfl (fun ls hl => ?_)
      exact j32p 25 _ _ _ z347 z347 z356 t_tr348 mf hI c349 (by omega) (by omega) (by omega) (by omega) (by omega) (by omega) (by omega) (by omega) (lv_sub hl [3, 4, 5, 2, 1, 0] rfl) (by omega)
    · omega
  · cases hv
    have hI : sI (dC, dI) vcl cI cJ (gsM a th tr dp zi co sh lt ts mf) A s.heap H1 locs1 := ⟨by rw [← ht]; exact hI1, hS⟩
    clear hpost hI1 hS ht hWt
    revert hI; generalize H1 = H; generalize locs1 = locs; intro hI
    refine lv_istore_n (lv' := [(3, .int z350), (0, .ref (a 0)), (1, .int x1), (2, .int x2)]) hx hb d_Mo_readLine_10 rfl hl (by decide) rfl (fun ls hl => ?_)
    refine lv_aload_n hx hb d_Mo_readLine_11 rfl (lv_at hl 1 rfl) ?_
    refine sv_get (C := "StoryMachineModel") (T := T_Mo) (N := 51) hx hb hts in_Mo hown hK hI 0 kM_0 rfl 36 (by decide) (hts _ mw_1099) rfl d_Mo_readLine_12 (fun z357 hz357a hz357b => ?_)
    refine lv_iload_n hx hb d_Mo_readLine_15 rfl (lv_at hl 0 rfl) ?_
    refine sn_icmp_ge (tgt := 26) hx hb d_Mo_readLine_16 (by decide) (fun b358 => ?_) (fun b358 => ?_)
    · refine lv_iload_n hx hb d_Mo_readLine_26 rfl (lv_at hl 0 rfl) ?_
      refine lv_istore (lv' := [(4, .int z350), (3, .int z350), (0, .ref (a 0)), (1, .int x1), (2, .int x2)]) hx hb d_Mo_readLine_27 hl (by decide) rfl (fun ls hl => ?_)
      refine sn_iconst hx hb d_Mo_readLine_29 (by decide) (fun z359 hz359 => ?_)
      refine lv_istore (lv' := [(5, .int z359), (4, .int z350), (3, .int z350), (0, .ref (a 0)), (1, .int x1), (2, .int x2)]) hx hb d_Mo_readLine_30 hl (by decide) rfl (fun ls hl => ?_)
      exact j32z 25 _ _ _ z350 z350 z359 mf hI c351 (by omega) (by omega) (by omega) (by omega) (by omega) (by omega) (by omega) (by omega) (lv_sub hl [3, 4, 5, 2, 1, 0] rfl) (by omega)
    · refine lv_aload_n hx hb d_Mo_readLine_19 rfl (lv_at hl 1 rfl) ?_
      refine sv_get (C := "StoryMachineModel") (T := T_Mo) (N := 51) hx hb hts in_Mo hown hK hI 0 kM_0 rfl 36 (by decide) (hts _ mw_1099) rfl d_Mo_readLine_20 (fun z360 hz360a hz360b => ?_)
      refine lv_goto (tgt := 27) hx hb d_Mo_readLine_23 (by decide) ?_
      refine lv_istore (lv' := [(4, .int z360), (3, .int z350), (0, .ref (a 0)), (1, .int x1), (2, .int x2)]) hx hb d_Mo_readLine_27 hl (by decide) rfl (fun ls hl => ?_)
      refine sn_iconst hx hb d_Mo_readLine_29 (by decide) (fun z361 hz361 => ?_)
      refine lv_istore (lv' := [(5, .int z361), (4, .int z360), (3, .int z350), (0, .ref (a 0)), (1, .int x1), (2, .int x2)]) hx hb d_Mo_readLine_30 hl (by decide) rfl (fun ls hl => ?_)
      exact j32z 25 _ _ _ z350 z360 z361 mf hI c351 (by omega) (by omega) (by omega) (by omega) (by omega) (by omega) (by omega) (by omega) (lv_sub hl [3, 4, 5, 2, 1, 0] rfl) (by omega)
