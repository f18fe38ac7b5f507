abbrev q_Mo_change (dC : Nat → ClassId) (dI : Nat → Nat → Nat) (cI cJ : ClassId) (a : Nat → Nat) (th tr dp zi co sh lt ts : Int) (mf : Nat → Int32) (x1 : Int32) (x2 : Int32) : Outcome → State → Prop := fun o t => (∀ v, o = .returned v → ((∃ (z : Int32) (tr_ : Int), v = some (.int z) ∧ okM th tr_ dp zi co sh lt ts mf ∧ ((-32768) ≤ z.toInt) ∧ (z.toInt ≤ 32767) ∧ (1 ≤ tr_) ∧ sh_I (dC, dI) vcl cI cJ (gsM a th tr_ dp zi co sh lt ts mf) t.heap) ∨ (∃ (z : Int32) (mf_ : Nat → Int32), v = some (.int z) ∧ okM th tr dp zi co sh lt ts mf_ ∧ ((-32768) ≤ z.toInt) ∧ (z.toInt ≤ 32767) ∧ (x1.toInt ≤ 47) ∧ (tr ≤ 0) ∧ sh_I (dC, dI) vcl cI cJ (gsM a th tr dp zi co sh lt ts mf_) t.heap))) ∧ (∀ x, o = .threw x → (False))
def rm_Mo_change : Room := { frames := 4, cells := 0, slots := 0, locals := 88 }
set_option maxHeartbeats 4000000 in
set_option maxRecDepth 100000 in
theorem c_Mo_change (l : Launch) (hfl : l.flags = pinnedFlags ++ [noTraceFlag]) (dC : Nat → ClassId) (dI : Nat → Nat → Nat) (cI cJ : ClassId) (a : Nat → Nat) (sz : Nat) (th tr dp zi co sh lt ts : Int) (mf : Nat → Int32) (x1 : Int32) (x2 : Int32) (hok : okM th tr dp zi co sh lt ts mf) (hp0 : 0 ≤ x1.toInt) (hp1 : x1.toInt ≤ 65535) (hp2 : (-1) ≤ x2.toInt) (hp3 : x2.toInt ≤ 1) : tz_Met l ⟨"StoryMachineModel", "change", "(II)I"⟩ tw_tbl rm_Mo_change (tzP (dC, dI) vcl cI cJ (gsM a th tr dp zi co sh lt ts mf) a (adM a) [.ref (a 0), .int x1, .int x2] sz) (tq_Q (q_Mo_change dC dI cI cJ a th tr dp zi co sh lt ts mf x1 x2) (ga (adM a) sz)) 0 0 0 0 (ga (adM a) sz) := by
  refine tz_ofW (cc := prog_13_method_47_code) (maxL := 4) (ret := (some .int)) (by decide) (tx_isM mw_1321) ?_
  intro p e s m args below meth c s₁ B hml hv
  obtain ⟨rfl, hsz, hI0, hK, hst0⟩ := hv
  have hx := B.exec
  have hb := B.bytes
  have hr := B.returns
  have hts := atoms_spec (ws := tw_tbl) B.pre
  have hown : s.vm.findClass "StoryMachineModel" = some m.cls := findClass_of_methodNamed B.named
  have hlocks := B.notSynchronized
  subst hsz
  have hst := fun (H : Heap) (locs : List Loc) (hS : va_S (ga (adM a) s.heap.size) s.heap H locs) (U : State) (hU : U.heap = H) (hW : s.WarmedH U.vm) => zS_all adM_map hI0 hst0 hS hU hW
  have hAC : ∀ q ∈ adM a, ga (adM a) s.heap.size q := fun q h => Or.inl h
  have hA0 : ∀ q, s.heap.size ≤ q → ga (adM a) s.heap.size q := fun q h => Or.inr h
  have hI : sI (dC, dI) vcl cI cJ (gsM a th tr dp zi co sh lt ts mf) (ga (adM a) s.heap.size) s.heap s.heap [] := ⟨hI0, va_S.rf⟩
  clear hI0 hst0
  have hl := lv_entry ([.ref (a 0), .int x1, .int x2]) (n := 4) (Nat.le_of_ble_eq_true rfl)
  rw [lg_entry_eq]
  generalize (lg_sl ([.ref (a 0), .int x1, .int x2]) ++ List.replicate (4 - (lg_sl ([.ref (a 0), .int x1, .int x2])).length) Slot.unset).toArray = ls at hl ⊢
  have hl : lv_has ls 4 [(0, .ref (a 0)), (1, .int x1), (2, .int x2)] := hl
  generalize hZ : tz_MQ below (tq_Q (q_Mo_change dC dI cI cJ a th tr dp zi co sh lt ts mf x1 x2) (ga (adM a) s.heap.size)) ([.ref (a 0), .int x1, .int x2] : List Value).toArray s 0 0 0 0 (ga (adM a) s.heap.size) = Z
  obtain ⟨A, hAe⟩ : ∃ A, A = ga (adM a) s.heap.size := ⟨_, rfl⟩
  rw [← hAe] at hst hAC hA0 hI hZ
  refine sv_start hI (fun H locs hI => ?_)
  obtain ⟨⟨o1, o2⟩, ⟨o3, o4⟩, ⟨o5, o6⟩, ⟨o7, o8⟩, ⟨o9, o10⟩, ⟨o11, o12⟩, ⟨o13, o14⟩, ⟨o15, o16⟩, -⟩ := id hok
  have gx1 := sn_rng x1
  have gx2 := sn_rng x2
  have j21p : ∀ (H : Heap) (locs : List Loc) (ls : Array Slot) (v21p_3 : Int32) (t21p_tr : Int), sI (dC, dI) vcl cI cJ (gsM a th t21p_tr dp zi co sh lt ts mf) A s.heap H locs → okM th t21p_tr dp zi co sh lt ts mf → (-1) ≤ v21p_3.toInt → v21p_3.toInt ≤ 65536 → 1 ≤ t21p_tr → t21p_tr ≤ 4 → lv_has ls 4 [(0, .ref (a 0)), (1, .int x1), (2, .int x2), (3, .int v21p_3)] → W p l e (headSpec tw_tbl rm_Mo_change).room s m ([.ref (a 0), .int x1, .int x2] : List Value).toArray below meth c H locs 0 0 Z (F0 m 21 ls []) := by
    intro H locs ls v21p_3 t21p_tr hI hok g21_0 g21_1 g21_2 g21_3 hl
    obtain ⟨⟨o17, o18⟩, ⟨o19, o20⟩, ⟨o21, o22⟩, ⟨o23, o24⟩, ⟨o25, o26⟩, ⟨o27, o28⟩, ⟨o29, o30⟩, ⟨o31, o32⟩, -⟩ := id hok
    refine lv_iload_n hx hb d_Mo_change_21 rfl (lv_at hl 3 rfl) ?_
    refine tz_call (A1 := ga (adM a) H.size) (tz_runS (As := [.int v21p_3]) (rest := []) ⟨hx, hb, hml, hown, hts⟩ (c_Mo_signed l hfl dC dI cI cJ a H.size th t21p_tr dp zi co sh lt ts mf v21p_3 hok) (tx_cb (n := 1) hts rfl rfl ⟨Nat.le_of_ble_eq_true rfl, Nat.le_of_ble_eq_true rfl⟩ (tx_code.of (hts _ mw_1316)) (hts _ mw_12) (by decide +kernel) (hts _ mw_1314)) (hts _ mw_1315) ⟨tz_blind, fun U hU hW => ⟨rfl, by rw [hU], by rw [hU]; exact hI.1, va_K.moved hW.alike hK, hst _ _ hI.2 U hU hW⟩⟩ rfl rfl hl.1 rfl (lv_room (Nat.le_of_ble_eq_true rfl)) d_Mo_change_22 ⟨Nat.le_of_ble_eq_true rfl, Nat.le_of_ble_eq_true rfl⟩) hI.2 (fun q _ h => ga_sub hAC hA0 hI.2 q h) (ga_sub hAC hA0 hI.2) (fun v t H1 locs1 ht hWt hpost _ _ hS => ?_) (fun x t H1 locs1 ht hWt hpost _ _ hS => (hpost.2 x rfl).elim)
    rcases hpost.1 _ rfl with ⟨z33, hv, c34, c34_0, c34_1, c34_2, hI1⟩
    cases hv
    have hI : sI (dC, dI) vcl cI cJ (gsM a th t21p_tr dp zi co sh lt ts mf) A s.heap H1 locs1 := ⟨by rw [← ht]; exact hI1, hS⟩
    clear hpost hI1 hS ht hWt
    revert hI; generalize H1 = H; generalize locs1 = locs; intro hI
    subst hZ
    exact tz_ret (W.iret (v := z33) hx hb hr (fun t ht hW => ⟨⟨fun v9 hv9 => by cases hv9; exact (Or.inl ⟨z33, t21p_tr, rfl, c34, by omega, by omega, by omega, by rw [ht]; exact hI.1⟩), fun x9 hx9 => (by cases hx9)⟩, hI.2.F ht⟩) hI.2.2.2 d_Mo_change_25)
  have j21z : ∀ (H : Heap) (locs : List Loc) (ls : Array Slot) (v21z_3 : Int32) (t21z_mf : Nat → Int32), sI (dC, dI) vcl cI cJ (gsM a th tr dp zi co sh lt ts t21z_mf) A s.heap H locs → okM th tr dp zi co sh lt ts t21z_mf → (-1) ≤ v21z_3.toInt → v21z_3.toInt ≤ 65536 → tr ≤ 0 → x1.toInt ≤ 47 → lv_has ls 4 [(0, .ref (a 0)), (1, .int x1), (2, .int x2), (3, .int v21z_3)] → W p l e (headSpec tw_tbl rm_Mo_change).room s m ([.ref (a 0), .int x1, .int x2] : List Value).toArray below meth c H locs 0 0 Z (F0 m 21 ls []) := by
    intro H locs ls v21z_3 t21z_mf hI hok g21_0 g21_1 g21_2 g21_3 hl
    obtain ⟨⟨o35, o36⟩, ⟨o37, o38⟩, ⟨o39, o40⟩, ⟨o41, o42⟩, ⟨o43, o44⟩, ⟨o45, o46⟩, ⟨o47, o48⟩, ⟨o49, o50⟩, -⟩ := id hok
    refine lv_iload_n hx hb d_Mo_change_21 rfl (lv_at hl 3 rfl) ?_
    refine tz_call (A1 := ga (adM a) H.size) (tz_runS (As := [.int v21z_3]) (rest := []) ⟨hx, hb, hml, hown, hts⟩ (c_Mo_signed l hfl dC dI cI cJ a H.size th tr dp zi co sh lt ts t21z_mf v21z_3 hok) (tx_cb (n := 1) hts rfl rfl ⟨Nat.le_of_ble_eq_true rfl, Nat.le_of_ble_eq_true rfl⟩ (tx_code.of (hts _ mw_1316)) (hts _ mw_12) (by decide +kernel) (hts _ mw_1314)) (hts _ mw_1315) ⟨tz_blind, fun U hU hW => ⟨rfl, by rw [hU], by rw [hU]; exact hI.1, va_K.moved hW.alike hK, hst _ _ hI.2 U hU hW⟩⟩ rfl rfl hl.1 rfl (lv_room (Nat.le_of_ble_eq_true rfl)) d_Mo_change_22 ⟨Nat.le_of_ble_eq_true rfl, Nat.le_of_ble_eq_true rfl⟩) hI.2 (fun q _ h => ga_sub hAC hA0 hI.2 q h) (ga_sub hAC hA0 hI.2) (fun v t H1 locs1 ht hWt hpost _ _ hS => ?_) (fun x t H1 locs1 ht hWt hpost _ _ hS => (hpost.2 x rfl).elim)
    rcases hpost.1 _ rfl with ⟨z51, hv, c52, c52_0, c52_1, c52_2, hI1⟩
    cases hv
    have hI : sI (dC, dI) vcl cI cJ (gsM a th tr dp zi co sh lt ts t21z_mf) A s.heap H1 locs1 := ⟨by rw [← ht]; exact hI1, hS⟩
    clear hpost hI1 hS ht hWt
    revert hI; generalize H1 = H; generalize locs1 = locs; intro hI
    subst hZ
    exact tz_ret (W.iret (v := z51) hx hb hr (fun t ht hW => ⟨⟨fun v9 hv9 => by cases hv9; exact (Or.inr (⟨z51, t21z_mf, rfl, c52, by omega, by omega, by omega, by omega, by rw [ht]; exact hI.1⟩)), fun x9 hx9 => (by cases hx9)⟩, hI.2.F ht⟩) hI.2.2.2 d_Mo_change_25)
  refine lv_aload_n hx hb d_Mo_change_0 rfl (lv_at hl 0 rfl) ?_
  refine lv_iload_n hx hb d_Mo_change_1 rfl (lv_at hl 1 rfl) ?_
  refine tz_call (A1 := ga (adM a) H.size) (tz_runV (C := "StoryMachineModel") (As := [.int x1]) (rest := []) ⟨hx, hb, hml, hown, hts⟩ (c_Mo_peekVariable l hfl dC dI cI cJ a H.size th tr dp zi co sh lt ts mf x1 hok) (tx_cb (n := 1) hts rfl rfl ⟨Nat.le_of_ble_eq_true rfl, Nat.le_of_ble_eq_true rfl⟩ (tx_code.of (hts _ mw_1264)) (hts _ mw_12) (by decide +kernel) (hts _ mw_1261)) (hts _ mw_1263) (hts _ ms_Mo_peekVariable) ⟨tz_blind, sv_recv (q0 := 0) hts in_Mo hK hI kM_0 rfl, fun U hU hW => ⟨rfl, by rw [hU], by rw [hU]; exact hI.1, va_K.moved hW.alike hK, hst _ _ hI.2 U hU hW⟩⟩ rfl rfl hl.1 rfl (lv_room (Nat.le_of_ble_eq_true rfl)) d_Mo_change_2 ⟨Nat.le_of_ble_eq_true rfl, Nat.le_of_ble_eq_true rfl⟩) hI.2 (fun q _ h => ga_sub hAC hA0 hI.2 q h) (ga_sub hAC hA0 hI.2) (fun v t H1 locs1 ht hWt hpost _ _ hS => ?_) (fun x t H1 locs1 ht hWt hpost _ _ hS => (hpost.2 x rfl).elim)
  rcases hpost.1 _ rfl with ⟨z53, t_tr54, hv, c55, c55_0, c55_1, c55_2, hI1⟩ | ⟨z56, hv, c57, c57_0, c57_1, c57_2, c57_3, hI1⟩
  · cases hv
    have hI : sI (dC, dI) vcl cI cJ (gsM a th t_tr54 dp zi co sh lt ts mf) A s.heap H1 locs1 := ⟨by rw [← ht]; exact hI1, hS⟩
    obtain ⟨-, ⟨o58, o59⟩, -, -, -, -, -, -, -⟩ := id c55
    clear hpost hI1 hS ht hWt
    revert hI; generalize H1 = H; generalize locs1 = locs; intro hI
    refine lv_iload_n hx hb d_Mo_change_5 rfl (lv_at hl 2 rfl) ?_
    refine sn_iadd hx hb d_Mo_change_6 (by omega) (by omega) (fun z60 hz60 => ?_)
    refine lv_istore_n (lv' := [(3, .int z60), (0, .ref (a 0)), (1, .int x1), (2, .int x2)]) hx hb d_Mo_change_7 rfl hl (by decide) rfl (fun ls hl => ?_)
    refine lv_aload_n hx hb d_Mo_change_8 rfl (lv_at hl 1 rfl) ?_
    refine sv_gete (C := "StoryMachineModel") (T := T_Mo) (N := 51) hx hb hts in_Mo hown hK hI 0 kM_0 rfl 25 (by decide) (hts _ mw_1088) rfl d_Mo_change_9 (fun z61 hz61 => ?_)
    refine sn_if_ne (tgt := 21) hx hb d_Mo_change_12 (by decide) (fun b62 => ?_) (fun b62 => ?_)
    · exact j21p _ _ _ z60 t_tr54 hI c55 (by omega) (by omega) (by omega) (by omega) (lv_sub hl [1, 2, 3, 0] rfl)
    · omega
  · cases hv
    have hI : sI (dC, dI) vcl cI cJ (gsM a th tr dp zi co sh lt ts mf) A s.heap H1 locs1 := ⟨by rw [← ht]; exact hI1, hS⟩
    clear hpost hI1 hS ht hWt
    revert hI; generalize H1 = H; generalize locs1 = locs; intro hI
    refine lv_iload_n hx hb d_Mo_change_5 rfl (lv_at hl 2 rfl) ?_
    refine sn_iadd hx hb d_Mo_change_6 (by omega) (by omega) (fun z63 hz63 => ?_)
    refine lv_istore_n (lv' := [(3, .int z63), (0, .ref (a 0)), (1, .int x1), (2, .int x2)]) hx hb d_Mo_change_7 rfl hl (by decide) rfl (fun ls hl => ?_)
    refine lv_aload_n hx hb d_Mo_change_8 rfl (lv_at hl 1 rfl) ?_
    refine sv_gete (C := "StoryMachineModel") (T := T_Mo) (N := 51) hx hb hts in_Mo hown hK hI 0 kM_0 rfl 25 (by decide) (hts _ mw_1088) rfl d_Mo_change_9 (fun z64 hz64 => ?_)
    refine sn_if_ne (tgt := 21) hx hb d_Mo_change_12 (by decide) (fun b65 => ?_) (fun b65 => ?_)
    · omega
    · refine lv_aload_n hx hb d_Mo_change_15 rfl (lv_at hl 1 rfl) ?_
      refine lv_iload_n hx hb d_Mo_change_16 rfl (lv_at hl 2 rfl) ?_
      refine lv_iload_n hx hb d_Mo_change_17 rfl (lv_at hl 0 rfl) ?_
      refine tz_call (A1 := ga (adM a) H.size) (tz_runV (C := "StoryMachineModel") (As := [.int x1, .int z63]) (rest := []) ⟨hx, hb, hml, hown, hts⟩ (c_Mo_replace l hfl dC dI cI cJ a H.size th tr dp zi co sh lt ts mf x1 z63 c57) (tx_cb (n := 2) hts rfl rfl ⟨Nat.le_of_ble_eq_true rfl, Nat.le_of_ble_eq_true rfl⟩ (tx_code.of (hts _ mw_1305)) (hts _ mw_12) (by decide +kernel) (hts _ mw_1302)) (hts _ mw_1304) (hts _ ms_Mo_replace) ⟨tz_blind, sv_recv (q0 := 0) hts in_Mo hK hI kM_0 rfl, fun U hU hW => ⟨rfl, by rw [hU], by rw [hU]; exact hI.1, va_K.moved hW.alike hK, hst _ _ hI.2 U hU hW⟩⟩ rfl rfl hl.1 rfl (lv_room (Nat.le_of_ble_eq_true rfl)) d_Mo_change_18 ⟨Nat.le_of_ble_eq_true rfl, Nat.le_of_ble_eq_true rfl⟩) hI.2 (fun q _ h => ga_sub hAC hA0 hI.2 q h) (ga_sub hAC hA0 hI.2) (fun v t H1 locs1 ht hWt hpost _ _ hS => ?_) (fun x t H1 locs1 ht hWt hpost _ _ hS => (hpost.2 x rfl).elim)
      rcases hpost.1 _ rfl with ⟨t_tr66, hv, c67, c67_0, hI1⟩ | ⟨f_mf68, hv, c69, c69_0, c69_1, hI1⟩
      · cases hv
        have hI : sI (dC, dI) vcl cI cJ (gsM a th t_tr66 dp zi co sh lt ts mf) A s.heap H1 locs1 := ⟨by rw [← ht]; exact hI1, hS⟩
        obtain ⟨-, ⟨o70, o71⟩, -, -, -, -, -, -, -⟩ := id c67
        clear hpost hI1 hS ht hWt
        revert hI; generalize H1 = H; generalize locs1 = locs; intro hI
        exact j21p _ _ _ z63 t_tr66 hI c67 (by omega) (by omega) (by omega) (by omega) (lv_sub hl [1, 2, 3, 0] rfl)
      · cases hv
        have hI : sI (dC, dI) vcl cI cJ (gsM a th tr dp zi co sh lt ts f_mf68) A s.heap H1 locs1 := ⟨by rw [← ht]; exact hI1, hS⟩
        obtain ⟨-, -, -, -, -, -, -, -, -⟩ := id c69
        clear hpost hI1 hS ht hWt
        revert hI; generalize H1 = H; generalize locs1 = locs; intro hI
        exact j21z _ _ _ z63 f_mf68 hI c69 (by omega) (by omega) (by omega) (by omega) (lv_sub hl [1, 2, 3, 0] rfl)
abbrev q_Mo_giveAndAsk (dC : Nat → ClassId) (dI : Nat → Nat → Nat) (cI cJ : ClassId) (a : Nat → Nat) (th tr dp zi co sh lt ts : Int) (mf : Nat → Int32) (x1 : Int32) : Outcome → State → Prop := fun o t => (∀ v, o = .returned v → ((∃ (tr_ dp_ zi_ : Int) (mf_ : Nat → Int32), v = none ∧ okM th tr_ dp_ zi_ co sh lt ts mf_ ∧ (1 ≤ tr_) ∧ sh_I (dC, dI) vcl cI cJ (gsM a th tr_ dp_ zi_ co sh lt ts mf_) t.heap) ∨ (∃ (dp_ zi_ : Int) (mf_ : Nat → Int32), v = none ∧ okM th tr dp_ zi_ co sh lt ts mf_ ∧ (tr ≤ 0) ∧ sh_I (dC, dI) vcl cI cJ (gsM a th tr dp_ zi_ co sh lt ts mf_) t.heap))) ∧ (∀ x, o = .threw x → (False))
def rm_Mo_giveAndAsk : Room := { frames := 7, cells := 0, slots := 0, locals := 153 }
set_option maxHeartbeats 4000000 in
set_option maxRecDepth 100000 in
theorem c_Mo_giveAndAsk (l : Launch) (hfl : l.flags = pinnedFlags ++ [noTraceFlag]) (dC : Nat → ClassId) (dI : Nat → Nat → Nat) (cI cJ : ClassId) (a : Nat → Nat) (sz : Nat) (th tr dp zi co sh lt ts : Int) (mf : Nat → Int32) (x1 : Int32) (hok : okM th tr dp zi co sh lt ts mf) : tz_Met l ⟨"StoryMachineModel", "giveAndAsk", "(I)V"⟩ tw_tbl rm_Mo_giveAndAsk (tzP (dC, dI) vcl cI cJ (gsM a th tr dp zi co sh lt ts mf) a (adM a) [.ref (a 0), .int x1] sz) (tq_Q (q_Mo_giveAndAsk dC dI cI cJ a th tr dp zi co sh lt ts mf x1) (ga (adM a) sz)) 0 0 0 0 (ga (adM a) sz) := by
  refine tz_ofW (cc := prog_13_method_52_code) (maxL := 2) (ret := none) (by decide) (tx_isM mw_1393) ?_
  intro p e s m args below meth c s₁ B hml hv
  obtain ⟨rfl, hsz, hI0, hK, hst0⟩ := hv
  have hx := B.exec
  have hb := B.bytes
  have hr := B.returns
  have hts := atoms_spec (ws := tw_tbl) B.pre
  have hown : s.vm.findClass "StoryMachineModel" = some m.cls := findClass_of_methodNamed B.named
  have hlocks := B.notSynchronized
  subst hsz
  have hst := fun (H : Heap) (locs : List Loc) (hS : va_S (ga (adM a) s.heap.size) s.heap H locs) (U : State) (hU : U.heap = H) (hW : s.WarmedH U.vm) => zS_all adM_map hI0 hst0 hS hU hW
  have hAC : ∀ q ∈ adM a, ga (adM a) s.heap.size q := fun q h => Or.inl h
  have hA0 : ∀ q, s.heap.size ≤ q → ga (adM a) s.heap.size q := fun q h => Or.inr h
  have hI : sI (dC, dI) vcl cI cJ (gsM a th tr dp zi co sh lt ts mf) (ga (adM a) s.heap.size) s.heap s.heap [] := ⟨hI0, va_S.rf⟩
  clear hI0 hst0
  have hl := lv_entry ([.ref (a 0), .int x1]) (n := 2) (Nat.le_of_ble_eq_true rfl)
  rw [lg_entry_eq]
  generalize (lg_sl ([.ref (a 0), .int x1]) ++ List.replicate (2 - (lg_sl ([.ref (a 0), .int x1])).length) Slot.unset).toArray = ls at hl ⊢
  have hl : lv_has ls 2 [(0, .ref (a 0)), (1, .int x1)] := hl
  generalize hZ : tz_MQ below (tq_Q (q_Mo_giveAndAsk dC dI cI cJ a th tr dp zi co sh lt ts mf x1) (ga (adM a) s.heap.size)) ([.ref (a 0), .int x1] : List Value).toArray s 0 0 0 0 (ga (adM a) s.heap.size) = Z
  obtain ⟨A, hAe⟩ : ∃ A, A = ga (adM a) s.heap.size := ⟨_, rfl⟩
  rw [← hAe] at hst hAC hA0 hI hZ
  refine sv_start hI (fun H locs hI => ?_)
  obtain ⟨⟨o1, o2⟩, ⟨o3, o4⟩, ⟨o5, o6⟩, ⟨o7, o8⟩, ⟨o9, o10⟩, ⟨o11, o12⟩, ⟨o13, o14⟩, ⟨o15, o16⟩, -⟩ := id hok
  have gx1 := sn_rng x1
  refine lv_aload_n hx hb d_Mo_giveAndAsk_0 rfl (lv_at hl 0 rfl) ?_
  refine lv_iload_n hx hb d_Mo_giveAndAsk_1 rfl (lv_at hl 1 rfl) ?_
  refine tz_call (A1 := ga (adM a) H.size) (tz_runV (C := "StoryMachineModel") (As := [.int x1]) (rest := []) ⟨hx, hb, hml, hown, hts⟩ (c_Mo_giveIf l hfl dC dI cI cJ a H.size th tr dp zi co sh lt ts mf x1 hok) (tx_cb (n := 1) hts rfl rfl ⟨Nat.le_of_ble_eq_true rfl, Nat.le_of_ble_eq_true rfl⟩ (tx_code.of (hts _ mw_1397)) (hts _ mw_12) (by decide +kernel) (hts _ mw_1394)) (hts _ mw_1396) (hts _ ms_Mo_giveIf) ⟨tz_blind, sv_recv (q0 := 0) hts in_Mo hK hI kM_0 rfl, fun U hU hW => ⟨rfl, by rw [hU], by rw [hU]; exact hI.1, va_K.moved hW.alike hK, hst _ _ hI.2 U hU hW⟩⟩ rfl rfl hl.1 rfl (lv_room (Nat.le_of_ble_eq_true rfl)) d_Mo_giveAndAsk_2 ⟨Nat.le_of_ble_eq_true rfl, Nat.le_of_ble_eq_true rfl⟩) hI.2 (fun q _ h => ga_sub hAC hA0 hI.2 q h) (ga_sub hAC hA0 hI.2) (fun v t H1 locs1 ht hWt hpost _ _ hS => ?_) (fun x t H1 locs1 ht hWt hpost _ _ hS => (hpost.2 x rfl).elim)
  rcases hpost.1 _ rfl with ⟨t_tr17, hv, c18, c18_0, hI1⟩ | ⟨t_zi19, f_mf20, hv, c21, c21_0, hI1⟩
  · cases hv
    have hI : sI (dC, dI) vcl cI cJ (gsM a th t_tr17 dp zi co sh lt ts mf) A s.heap H1 locs1 := ⟨by rw [← ht]; exact hI1, hS⟩
    obtain ⟨-, ⟨o22, o23⟩, -, -, -, -, -, -, -⟩ := id c18
    clear hpost hI1 hS ht hWt
    revert hI; generalize H1 = H; generalize locs1 = locs; intro hI
    refine lv_aload_n hx hb d_Mo_giveAndAsk_5 rfl (lv_at hl 0 rfl) ?_
    refine lv_iload_n hx hb d_Mo_giveAndAsk_6 rfl (lv_at hl 1 rfl) ?_
    refine sn_if_eq (tgt := 14) hx hb d_Mo_giveAndAsk_7 (by decide) (fun b24 => ?_) (fun b24 => ?_)
    · refine sn_iconst hx hb d_Mo_giveAndAsk_14 (by decide) (fun z25 hz25 => ?_)
      refine tz_call (A1 := ga (adM a) H.size) (tz_runV (C := "StoryMachineModel") (As := [.int z25]) (rest := []) ⟨hx, hb, hml, hown, hts⟩ (c_Mo_branch l hfl dC dI cI cJ a H.size th t_tr17 dp zi co sh lt ts mf z25 c18 (by omega) (by omega)) (tx_cb (n := 1) hts rfl rfl ⟨Nat.le_of_ble_eq_true rfl, Nat.le_of_ble_eq_true rfl⟩ (tx_code.of (hts _ mw_1288)) (hts _ mw_12) (by decide +kernel) (hts _ mw_1285)) (hts _ mw_1287) (hts _ ms_Mo_branch) ⟨tz_blind, sv_recv (q0 := 0) hts in_Mo hK hI kM_0 rfl, fun U hU hW => ⟨rfl, by rw [hU], by rw [hU]; exact hI.1, va_K.moved hW.alike hK, hst _ _ hI.2 U hU hW⟩⟩ rfl rfl hl.1 rfl (lv_room (Nat.le_of_ble_eq_true rfl)) d_Mo_giveAndAsk_15 ⟨Nat.le_of_ble_eq_true rfl, Nat.le_of_ble_eq_true rfl⟩) hI.2 (fun q _ h => ga_sub hAC hA0 hI.2 q h) (ga_sub hAC hA0 hI.2) (fun v t H1 locs1 ht hWt hpost _ _ hS => ?_) (fun x t H1 locs1 ht hWt hpost _ _ hS => (hpost.2 x rfl).elim)
      rcases hpost.1 _ rfl with ⟨t_tr26, t_dp27, t_zi28, hv, c29, c29_0, hI1⟩ | ⟨t_dp30, t_zi31, f_mf32, hv, c33, c33_0, hI1⟩
      · cases hv
        have hI : sI (dC, dI) vcl cI cJ (gsM a th t_tr26 t_dp27 t_zi28 co sh lt ts mf) A s.heap H1 locs1 := ⟨by rw [← ht]; exact hI1, hS⟩
        obtain ⟨-, ⟨o34, o35⟩, ⟨o36, o37⟩, ⟨o38, o39⟩, -, -, -, -, -⟩ := id c29
        clear hpost hI1 hS ht hWt
        revert hI; generalize H1 = H; generalize locs1 = locs; intro hI
        subst hZ
        exact tz_ret (W.vret hx hb hr (fun t ht hW => ⟨⟨fun v9 hv9 => by cases hv9; exact (Or.inl ⟨t_tr26, t_dp27, t_zi28, mf, rfl, c29, by omega, by rw [ht]; exact hI.1⟩), fun x9 hx9 => (by cases hx9)⟩, hI.2.F ht⟩) hI.2.2.2 d_Mo_giveAndAsk_18)
      · omega
    · refine sn_iconst hx hb d_Mo_giveAndAsk_10 (by decide) (fun z40 hz40 => ?_)
      refine lv_goto (tgt := 15) hx hb d_Mo_giveAndAsk_11 (by decide) ?_
      refine tz_call (A1 := ga (adM a) H.size) (tz_runV (C := "StoryMachineModel") (As := [.int z40]) (rest := []) ⟨hx, hb, hml, hown, hts⟩ (c_Mo_branch l hfl dC dI cI cJ a H.size th t_tr17 dp zi co sh lt ts mf z40 c18 (by omega) (by omega)) (tx_cb (n := 1) hts rfl rfl ⟨Nat.le_of_ble_eq_true rfl, Nat.le_of_ble_eq_true rfl⟩ (tx_code.of (hts _ mw_1288)) (hts _ mw_12) (by decide +kernel) (hts _ mw_1285)) (hts _ mw_1287) (hts _ ms_Mo_branch) ⟨tz_blind, sv_recv (q0 := 0) hts in_Mo hK hI kM_0 rfl, fun U hU hW => ⟨rfl, by rw [hU], by rw [hU]; exact hI.1, va_K.moved hW.alike hK, hst _ _ hI.2 U hU hW⟩⟩ rfl rfl hl.1 rfl (lv_room (Nat.le_of_ble_eq_true rfl)) d_Mo_giveAndAsk_15 ⟨Nat.le_of_ble_eq_true rfl, Nat.le_of_ble_eq_true rfl⟩) hI.2 (fun q _ h => ga_sub hAC hA0 hI.2 q h) (ga_sub hAC hA0 hI.2) (fun v t H1 locs1 ht hWt hpost _ _ hS => ?_) (fun x t H1 locs1 ht hWt hpost _ _ hS => (hpost.2 x rfl).elim)
      rcases hpost.1 _ rfl with ⟨t_tr41, t_dp42, t_zi43, hv, c44, c44_0, hI1⟩ | ⟨t_dp45, t_zi46, f_mf47, hv, c48, c48_0, hI1⟩
      · cases hv
        have hI : sI (dC, dI) vcl cI cJ (gsM a th t_tr41 t_dp42 t_zi43 co sh lt ts mf) A s.heap H1 locs1 := ⟨by rw [← ht]; exact hI1, hS⟩
        obtain ⟨-, ⟨o49, o50⟩, ⟨o51, o52⟩, ⟨o53, o54⟩, -, -, -, -, -⟩ := id c44
        clear hpost hI1 hS ht hWt
        revert hI; generalize H1 = H; generalize locs1 = locs; intro hI
        subst hZ
        exact tz_ret (W.vret hx hb hr (fun t ht hW => ⟨⟨fun v9 hv9 => by cases hv9; exact (Or.inl ⟨t_tr41, t_dp42, t_zi43, mf, rfl, c44, by omega, by rw [ht]; exact hI.1⟩), fun x9 hx9 => (by cases hx9)⟩, hI.2.F ht⟩) hI.2.2.2 d_Mo_giveAndAsk_18)
      · omega
  · cases hv
    have hI : sI (dC, dI) vcl cI cJ (gsM a th tr dp t_zi19 co sh lt ts f_mf20) A s.heap H1 locs1 := ⟨by rw [← ht]; exact hI1, hS⟩
    obtain ⟨-, -, -, ⟨o55, o56⟩, -, -, -, -, -⟩ := id c21
    clear hpost hI1 hS ht hWt
    revert hI; generalize H1 = H; generalize locs1 = locs; intro hI
    refine lv_aload_n hx hb d_Mo_giveAndAsk_5 rfl (lv_at hl 0 rfl) ?_
    refine lv_iload_n hx hb d_Mo_giveAndAsk_6 rfl (lv_at hl 1 rfl) ?_
    refine sn_if_eq (tgt := 14) hx hb d_Mo_giveAndAsk_7 (by decide) (fun b57 => ?_) (fun b57 => ?_)
    · refine sn_iconst hx hb d_Mo_giveAndAsk_14 (by decide) (fun z58 hz58 => ?_)
      refine tz_call (A1 := ga (adM a) H.size) (tz_runV (C := "StoryMachineModel") (As := [.int z58]) (rest := []) ⟨hx, hb, hml, hown, hts⟩ (c_Mo_branch l hfl dC dI cI cJ a H.size th tr dp t_zi19 co sh lt ts f_mf20 z58 c21 (by omega) (by omega)) (tx_cb (n := 1) hts rfl rfl ⟨Nat.le_of_ble_eq_true rfl, Nat.le_of_ble_eq_true rfl⟩ (tx_code.of (hts _ mw_1288)) (hts _ mw_12) (by decide +kernel) (hts _ mw_1285)) (hts _ mw_1287) (hts _ ms_Mo_branch) ⟨tz_blind, sv_recv (q0 := 0) hts in_Mo hK hI kM_0 rfl, fun U hU hW => ⟨rfl, by rw [hU], by rw [hU]; exact hI.1, va_K.moved hW.alike hK, hst _ _ hI.2 U hU hW⟩⟩ rfl rfl hl.1 rfl (lv_room (Nat.le_of_ble_eq_true rfl)) d_Mo_giveAndAsk_15 ⟨Nat.le_of_ble_eq_true rfl, Nat.le_of_ble_eq_true rfl⟩) hI.2 (fun q _ h => ga_sub hAC hA0 hI.2 q h) (ga_sub hAC hA0 hI.2) (fun v t H1 locs1 ht hWt hpost _ _ hS => ?_) (fun x t H1 locs1 ht hWt hpost _ _ hS => (hpost.2 x rfl).elim)
      rcases hpost.1 _ rfl with ⟨t_tr59, t_dp60, t_zi61, hv, c62, c62_0, hI1⟩ | ⟨t_dp63, t_zi64, f_mf65, hv, c66, c66_0, hI1⟩
      · cases hv
        have hI : sI (dC, dI) vcl cI cJ (gsM a th t_tr59 t_dp60 t_zi61 co sh lt ts f_mf20) A s.heap H1 locs1 := ⟨by rw [← ht]; exact hI1, hS⟩
        obtain ⟨-, ⟨o67, o68⟩, ⟨o69, o70⟩, ⟨o71, o72⟩, -, -, -, -, -⟩ := id c62
        clear hpost hI1 hS ht hWt
        revert hI; generalize H1 = H; generalize locs1 = locs; intro hI
        subst hZ
        exact tz_ret (W.vret hx hb hr (fun t ht hW => ⟨⟨fun v9 hv9 => by cases hv9; exact (Or.inl ⟨t_tr59, t_dp60, t_zi61, f_mf20, rfl, c62, by omega, by rw [ht]; exact hI.1⟩), fun x9 hx9 => (by cases hx9)⟩, hI.2.F ht⟩) hI.2.2.2 d_Mo_giveAndAsk_18)
      · cases hv
        have hI : sI (dC, dI) vcl cI cJ (gsM a th tr t_dp63 t_zi64 co sh lt ts f_mf65) A s.heap H1 locs1 := ⟨by rw [← ht]; exact hI1, hS⟩
        obtain ⟨-, -, ⟨o73, o74⟩, ⟨o75, o76⟩, -, -, -, -, -⟩ := id c66
        clear hpost hI1 hS ht hWt
        revert hI; generalize H1 = H; generalize locs1 = locs; intro hI
        subst hZ
        exact tz_ret (W.vret hx hb hr (fun t ht hW => ⟨⟨fun v9 hv9 => by cases hv9; exact (Or.inr (⟨t_dp63, t_zi64, f_mf65, rfl, c66, by omega, by rw [ht]; exact hI.1⟩)), fun x9 hx9 => (by cases hx9)⟩, hI.2.F ht⟩) hI.2.2.2 d_Mo_giveAndAsk_18)
    · refine sn_iconst hx hb d_Mo_giveAndAsk_10 (by decide) (fun z77 hz77 => ?_)
      refine lv_goto (tgt := 15) hx hb d_Mo_giveAndAsk_11 (by decide) ?_
      refine tz_call (A1 := ga (adM a) H.size) (tz_runV (C := "StoryMachineModel") (As := [.int z77]) (rest := []) ⟨hx, hb, hml, hown, hts⟩ (c_Mo_branch l hfl dC dI cI cJ a H.size th tr dp t_zi19 co sh lt ts f_mf20 z77 c21 (by omega) (by omega)) (tx_cb (n := 1) hts rfl rfl ⟨Nat.le_of_ble_eq_true rfl, Nat.le_of_ble_eq_true rfl⟩ (tx_code.of (hts _ mw_1288)) (hts _ mw_12) (by decide +kernel) (hts _ mw_1285)) (hts _ mw_1287) (hts _ ms_Mo_branch) ⟨tz_blind, sv_recv (q0 := 0) hts in_Mo hK hI kM_0 rfl, fun U hU hW => ⟨rfl, by rw [hU], by rw [hU]; exact hI.1, va_K.moved hW.alike hK, hst _ _ hI.2 U hU hW⟩⟩ rfl rfl hl.1 rfl (lv_room (Nat.le_of_ble_eq_true rfl)) d_Mo_giveAndAsk_15 ⟨Nat.le_of_ble_eq_true rfl, Nat.le_of_ble_eq_true rfl⟩) hI.2 (fun q _ h => ga_sub hAC hA0 hI.2 q h) (ga_sub hAC hA0 hI.2) (fun v t H1 locs1 ht hWt hpost _ _ hS => ?_) (fun x t H1 locs1 ht hWt hpost _ _ hS => (hpost.2 x rfl).elim)
      rcases hpost.1 _ rfl with ⟨t_tr78, t_dp79, t_zi80, hv, c81, c81_0, hI1⟩ | ⟨t_dp82, t_zi83, f_mf84, hv, c85, c85_0, hI1⟩
      · cases hv
        have hI : sI (dC, dI) vcl cI cJ (gsM a th t_tr78 t_dp79 t_zi80 co sh lt ts f_mf20) A s.heap H1 locs1 := ⟨by rw [← ht]; exact hI1, hS⟩
        obtain ⟨-, ⟨o86, o87⟩, ⟨o88, o89⟩, ⟨o90, o91⟩, -, -, -, -, -⟩ := id c81
        clear hpost hI1 hS ht hWt
        revert hI; generalize H1 = H; generalize locs1 = locs; intro hI
        subst hZ
        exact tz_ret (W.vret hx hb hr (fun t ht hW => ⟨⟨fun v9 hv9 => by cases hv9; exact (Or.inl ⟨t_tr78, t_dp79, t_zi80, f_mf20, rfl, c81, by omega, by rw [ht]; exact hI.1⟩), fun x9 hx9 => (by cases hx9)⟩, hI.2.F ht⟩) hI.2.2.2 d_Mo_giveAndAsk_18)
      · cases hv
        have hI : sI (dC, dI) vcl cI cJ (gsM a th tr t_dp82 t_zi83 co sh lt ts f_mf84) A s.heap H1 locs1 := ⟨by rw [← ht]; exact hI1, hS⟩
        obtain ⟨-, -, ⟨o92, o93⟩, ⟨o94, o95⟩, -, -, -, -, -⟩ := id c85
        clear hpost hI1 hS ht hWt
        revert hI; generalize H1 = H; generalize locs1 = locs; intro hI
        subst hZ
        exact tz_ret (W.vret hx hb hr (fun t ht hW => ⟨⟨fun v9 hv9 => by cases hv9; exact (Or.inr (⟨t_dp82, t_zi83, f_mf84, rfl, c85, by omega, by rw [ht]; exact hI.1⟩)), fun x9 hx9 => (by cases hx9)⟩, hI.2.F ht⟩) hI.2.2.2 d_Mo_giveAndAsk_18)
