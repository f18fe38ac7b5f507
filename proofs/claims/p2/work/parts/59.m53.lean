abbrev q_Mo_take (dC : Nat → ClassId) (dI : Nat → Nat → Nat) (cI cJ : ClassId) (a : Nat → Nat) (th tr dp zi co sh lt ts : Int) (mf : Nat → Int32) (x1 : Int32) : Outcome → State → Prop := fun o t => (∀ v, o = .returned v → ((∃ (tr_ : Int) (mf_ : Nat → Int32), v = none ∧ okM th tr_ dp zi co sh lt ts mf_ ∧ (1 ≤ tr_) ∧ sh_I (dC, dI) vcl cI cJ (gsM a th tr_ dp zi co sh lt ts mf_) t.heap) ∨ (∃ (mf_ : Nat → Int32), v = none ∧ okM th tr dp zi co sh lt ts mf_ ∧ (1 ≤ x1.toInt) ∧ (x1.toInt ≤ 20) ∧ (tr ≤ 0) ∧ sh_I (dC, dI) vcl cI cJ (gsM a th tr dp zi co sh lt ts mf_) t.heap))) ∧ (∀ x, o = .threw x → (False))
def rm_Mo_take : Room := { frames := 5, cells := 0, slots := 0, locals := 111 }
set_option maxHeartbeats 4000000 in
set_option maxRecDepth 100000 in
theorem c_Mo_take (l : Launch) (hfl : l.flags = pinnedFlags ++ [noTraceFlag]) (dC : Nat → ClassId) (dI : Nat → Nat → Nat) (cI cJ : ClassId) (a : Nat → Nat) (sz : Nat) (th tr dp zi co sh lt ts : Int) (mf : Nat → Int32) (x1 : Int32) (hok : okM th tr dp zi co sh lt ts mf) : tz_Met l ⟨"StoryMachineModel", "take", "(I)V"⟩ tw_tbl rm_Mo_take (tzP (dC, dI) vcl cI cJ (gsM a th tr dp zi co sh lt ts mf) a (adM a) [.ref (a 0), .int x1] sz) (tq_Q (q_Mo_take dC dI cI cJ a th tr dp zi co sh lt ts mf x1) (ga (adM a) sz)) 0 0 0 0 (ga (adM a) sz) := by
  refine tz_ofW (cc := prog_13_method_26_code) (maxL := 6) (ret := none) (by decide) (tx_isM mw_1345) ?_
  intro p e s m args below meth c s₁ B hml hv
  obtain ⟨rfl, hsz, hI0, hK, hst0⟩ := hv
  have hx := B.exec
  have hb := B.bytes
  have hr := B.returns
  have hts := atoms_spec (ws := tw_tbl) B.pre
  have hown : s.vm.findClass "StoryMachineModel" = some m.cls := findClass_of_methodNamed B.named
  have hlocks := B.notSynchronized
  subst hsz
  have hst := fun (H : Heap) (locs : List Loc) (hS : va_S (ga (adM a) s.heap.size) s.heap H locs) (U : State) (hU : U.heap = H) (hW : s.WarmedH U.vm) => zS_all adM_map hI0 hst0 hS hU hW
  have hAC : ∀ q ∈ adM a, ga (adM a) s.heap.size q := fun q h => Or.inl h
  have hA0 : ∀ q, s.heap.size ≤ q → ga (adM a) s.heap.size q := fun q h => Or.inr h
  have hI : sI (dC, dI) vcl cI cJ (gsM a th tr dp zi co sh lt ts mf) (ga (adM a) s.heap.size) s.heap s.heap [] := ⟨hI0, va_S.rf⟩
  clear hI0 hst0
  have hl := lv_entry ([.ref (a 0), .int x1]) (n := 6) (Nat.le_of_ble_eq_true rfl)
  rw [lg_entry_eq]
  generalize (lg_sl ([.ref (a 0), .int x1]) ++ List.replicate (6 - (lg_sl ([.ref (a 0), .int x1])).length) Slot.unset).toArray = ls at hl ⊢
  have hl : lv_has ls 6 [(0, .ref (a 0)), (1, .int x1)] := hl
  generalize hZ : tz_MQ below (tq_Q (q_Mo_take dC dI cI cJ a th tr dp zi co sh lt ts mf x1) (ga (adM a) s.heap.size)) ([.ref (a 0), .int x1] : List Value).toArray s 0 0 0 0 (ga (adM a) s.heap.size) = Z
  obtain ⟨A, hAe⟩ : ∃ A, A = ga (adM a) s.heap.size := ⟨_, rfl⟩
  rw [← hAe] at hst hAC hA0 hI hZ
  refine sv_start hI (fun H locs hI => ?_)
  obtain ⟨⟨o1, o2⟩, ⟨o3, o4⟩, ⟨o5, o6⟩, ⟨o7, o8⟩, ⟨o9, o10⟩, ⟨o11, o12⟩, ⟨o13, o14⟩, ⟨o15, o16⟩, -⟩ := id hok
  have gx1 := sn_rng x1
  have j136p : ∀ (H : Heap) (locs : List Loc) (ls : Array Slot) (v136p_2 v136p_3 v136p_4 : Int32) (t136p_tr : Int), sI (dC, dI) vcl cI cJ (gsM a th t136p_tr dp zi co sh lt ts mf) A s.heap H locs → okM th t136p_tr dp zi co sh lt ts mf → 1 ≤ v136p_2.toInt → v136p_2.toInt ≤ 20 → 0 ≤ v136p_3.toInt → v136p_3.toInt ≤ 255 → 1 ≤ v136p_4.toInt → v136p_4.toInt ≤ 20 → 1 ≤ t136p_tr → t136p_tr ≤ 4 → tr ≤ 0 → 1 ≤ x1.toInt → x1.toInt ≤ 20 → lv_has ls 6 [(0, .ref (a 0)), (1, .int x1), (2, .int v136p_2), (3, .int v136p_3), (4, .int v136p_4)] → W p l e (headSpec tw_tbl rm_Mo_take).room s m ([.ref (a 0), .int x1] : List Value).toArray below meth c H locs 0 0 Z (F0 m 136 ls []) := by
    intro H locs ls v136p_2 v136p_3 v136p_4 t136p_tr hI hok g136_0 g136_1 g136_2 g136_3 g136_4 g136_5 g136_6 g136_7 g136_8 g136_9 g136_10 hl
    obtain ⟨⟨o17, o18⟩, ⟨o19, o20⟩, ⟨o21, o22⟩, ⟨o23, o24⟩, ⟨o25, o26⟩, ⟨o27, o28⟩, ⟨o29, o30⟩, ⟨o31, o32⟩, -⟩ := id hok
    refine lv_aload_n hx hb d_Mo_take_136 rfl (lv_at hl 0 rfl) ?_
    refine lv_iload_n hx hb d_Mo_take_137 rfl (lv_at hl 1 rfl) ?_
    refine sn_iconst hx hb d_Mo_take_138 (by decide) (fun z33 hz33 => ?_)
    refine sn_iconst hx hb d_Mo_take_139 (by decide) (fun z34 hz34 => ?_)
    refine tz_call (A1 := ga (adM a) H.size) (tz_runV (C := "StoryMachineModel") (As := [.int x1, .int z33, .int z34]) (rest := []) ⟨hx, hb, hml, hown, hts⟩ (c_Mo_setOf l hfl dC dI cI cJ a H.size th t136p_tr dp zi co sh lt ts mf x1 z33 z34 hok (by omega) (by omega)) (tx_cb (n := 3) hts rfl rfl ⟨Nat.le_of_ble_eq_true rfl, Nat.le_of_ble_eq_true rfl⟩ (tx_code.of (hts _ mw_1349)) (hts _ mw_12) (by decide +kernel) (hts _ mw_1346)) (hts _ mw_1348) (hts _ ms_Mo_setOf) ⟨tz_blind, sv_recv (q0 := 0) hts in_Mo hK hI kM_0 rfl, fun U hU hW => ⟨rfl, by rw [hU], by rw [hU]; exact hI.1, va_K.moved hW.alike hK, hst _ _ hI.2 U hU hW⟩⟩ rfl rfl hl.1 rfl (lv_room (Nat.le_of_ble_eq_true rfl)) d_Mo_take_140 ⟨Nat.le_of_ble_eq_true rfl, Nat.le_of_ble_eq_true rfl⟩) hI.2 (fun q _ h => ga_sub hAC hA0 hI.2 q h) (ga_sub hAC hA0 hI.2) (fun v t H1 locs1 ht hWt hpost _ _ hS => ?_) (fun x t H1 locs1 ht hWt hpost _ _ hS => (hpost.2 x rfl).elim)
    rcases hpost.1 _ rfl with ⟨t_tr35, hv, c36, c36_0, hI1⟩ | ⟨f_mf37, hv, c38, c38_0, c38_1, c38_2, hI1⟩
    · cases hv
      have hI : sI (dC, dI) vcl cI cJ (gsM a th t_tr35 dp zi co sh lt ts mf) A s.heap H1 locs1 := ⟨by rw [← ht]; exact hI1, hS⟩
      obtain ⟨-, ⟨o39, o40⟩, -, -, -, -, -, -, -⟩ := id c36
      clear hpost hI1 hS ht hWt
      revert hI; generalize H1 = H; generalize locs1 = locs; intro hI
      refine lv_aload_n hx hb d_Mo_take_143 rfl (lv_at hl 0 rfl) ?_
      refine lv_iload_n hx hb d_Mo_take_144 rfl (lv_at hl 1 rfl) ?_
      refine sn_iconst hx hb d_Mo_take_145 (by decide) (fun z41 hz41 => ?_)
      refine sn_iconst hx hb d_Mo_take_146 (by decide) (fun z42 hz42 => ?_)
      refine tz_call (A1 := ga (adM a) H.size) (tz_runV (C := "StoryMachineModel") (As := [.int x1, .int z41, .int z42]) (rest := []) ⟨hx, hb, hml, hown, hts⟩ (c_Mo_setOf l hfl dC dI cI cJ a H.size th t_tr35 dp zi co sh lt ts mf x1 z41 z42 c36 (by omega) (by omega)) (tx_cb (n := 3) hts rfl rfl ⟨Nat.le_of_ble_eq_true rfl, Nat.le_of_ble_eq_true rfl⟩ (tx_code.of (hts _ mw_1349)) (hts _ mw_12) (by decide +kernel) (hts _ mw_1346)) (hts _ mw_1348) (hts _ ms_Mo_setOf) ⟨tz_blind, sv_recv (q0 := 0) hts in_Mo hK hI kM_0 rfl, fun U hU hW => ⟨rfl, by rw [hU], by rw [hU]; exact hI.1, va_K.moved hW.alike hK, hst _ _ hI.2 U hU hW⟩⟩ rfl rfl hl.1 rfl (lv_room (Nat.le_of_ble_eq_true rfl)) d_Mo_take_147 ⟨Nat.le_of_ble_eq_true rfl, Nat.le_of_ble_eq_true rfl⟩) hI.2 (fun q _ h => ga_sub hAC hA0 hI.2 q h) (ga_sub hAC hA0 hI.2) (fun v t H1 locs1 ht hWt hpost _ _ hS => ?_) (fun x t H1 locs1 ht hWt hpost _ _ hS => (hpost.2 x rfl).elim)
      rcases hpost.1 _ rfl with ⟨t_tr43, hv, c44, c44_0, hI1⟩ | ⟨f_mf45, hv, c46, c46_0, c46_1, c46_2, hI1⟩
      · cases hv
        have hI : sI (dC, dI) vcl cI cJ (gsM a th t_tr43 dp zi co sh lt ts mf) A s.heap H1 locs1 := ⟨by rw [← ht]; exact hI1, hS⟩
        obtain ⟨-, ⟨o47, o48⟩, -, -, -, -, -, -, -⟩ := id c44
        clear hpost hI1 hS ht hWt
        revert hI; generalize H1 = H; generalize locs1 = locs; intro hI
        subst hZ
        exact tz_ret (W.vret hx hb hr (fun t ht hW => ⟨⟨fun v9 hv9 => by cases hv9; exact (Or.inl ⟨t_tr43, mf, rfl, c44, by omega, by rw [ht]; exact hI.1⟩), fun x9 hx9 => (by cases hx9)⟩, hI.2.F ht⟩) hI.2.2.2 d_Mo_take_150)
      · omega
    · omega
  have j136z : ∀ (H : Heap) (locs : List Loc) (ls : Array Slot) (v136z_2 v136z_3 v136z_4 : Int32) (t136z_mf : Nat → Int32), sI (dC, dI) vcl cI cJ (gsM a th tr dp zi co sh lt ts t136z_mf) A s.heap H locs → okM th tr dp zi co sh lt ts t136z_mf → 1 ≤ v136z_2.toInt → v136z_2.toInt ≤ 20 → 0 ≤ v136z_3.toInt → v136z_3.toInt ≤ 255 → 1 ≤ v136z_4.toInt → v136z_4.toInt ≤ 20 → tr ≤ 0 → 1 ≤ x1.toInt → x1.toInt ≤ 20 → lv_has ls 6 [(0, .ref (a 0)), (1, .int x1), (2, .int v136z_2), (3, .int v136z_3), (4, .int v136z_4)] → W p l e (headSpec tw_tbl rm_Mo_take).room s m ([.ref (a 0), .int x1] : List Value).toArray below meth c H locs 0 0 Z (F0 m 136 ls []) := by
    intro H locs ls v136z_2 v136z_3 v136z_4 t136z_mf hI hok g136_0 g136_1 g136_2 g136_3 g136_4 g136_5 g136_6 g136_7 g136_8 hl
    obtain ⟨⟨o49, o50⟩, ⟨o51, o52⟩, ⟨o53, o54⟩, ⟨o55, o56⟩, ⟨o57, o58⟩, ⟨o59, o60⟩, ⟨o61, o62⟩, ⟨o63, o64⟩, -⟩ := id hok
    refine lv_aload_n hx hb d_Mo_take_136 rfl (lv_at hl 0 rfl) ?_
    refine lv_iload_n hx hb d_Mo_take_137 rfl (lv_at hl 1 rfl) ?_
    refine sn_iconst hx hb d_Mo_take_138 (by decide) (fun z65 hz65 => ?_)
    refine sn_iconst hx hb d_Mo_take_139 (by decide) (fun z66 hz66 => ?_)
    refine tz_call (A1 := ga (adM a) H.size) (tz_runV (C := "StoryMachineModel") (As := [.int x1, .int z65, .int z66]) (rest := []) ⟨hx, hb, hml, hown, hts⟩ (c_Mo_setOf l hfl dC dI cI cJ a H.size th tr dp zi co sh lt ts t136z_mf x1 z65 z66 hok (by omega) (by omega)) (tx_cb (n := 3) hts rfl rfl ⟨Nat.le_of_ble_eq_true rfl, Nat.le_of_ble_eq_true rfl⟩ (tx_code.of (hts _ mw_1349)) (hts _ mw_12) (by decide +kernel) (hts _ mw_1346)) (hts _ mw_1348) (hts _ ms_Mo_setOf) ⟨tz_blind, sv_recv (q0 := 0) hts in_Mo hK hI kM_0 rfl, fun U hU hW => ⟨rfl, by rw [hU], by rw [hU]; exact hI.1, va_K.moved hW.alike hK, hst _ _ hI.2 U hU hW⟩⟩ rfl rfl hl.1 rfl (lv_room (Nat.le_of_ble_eq_true rfl)) d_Mo_take_140 ⟨Nat.le_of_ble_eq_true rfl, Nat.le_of_ble_eq_true rfl⟩) hI.2 (fun q _ h => ga_sub hAC hA0 hI.2 q h) (ga_sub hAC hA0 hI.2) (fun v t H1 locs1 ht hWt hpost _ _ hS => ?_) (fun x t H1 locs1 ht hWt hpost _ _ hS => (hpost.2 x rfl).elim)
    rcases hpost.1 _ rfl with ⟨t_tr67, hv, c68, c68_0, hI1⟩ | ⟨f_mf69, hv, c70, c70_0, c70_1, c70_2, hI1⟩
    · cases hv
      have hI : sI (dC, dI) vcl cI cJ (gsM a th t_tr67 dp zi co sh lt ts t136z_mf) A s.heap H1 locs1 := ⟨by rw [← ht]; exact hI1, hS⟩
      obtain ⟨-, ⟨o71, o72⟩, -, -, -, -, -, -, -⟩ := id c68
      clear hpost hI1 hS ht hWt
      revert hI; generalize H1 = H; generalize locs1 = locs; intro hI
      refine lv_aload_n hx hb d_Mo_take_143 rfl (lv_at hl 0 rfl) ?_
      refine lv_iload_n hx hb d_Mo_take_144 rfl (lv_at hl 1 rfl) ?_
      refine sn_iconst hx hb d_Mo_take_145 (by decide) (fun z73 hz73 => ?_)
      refine sn_iconst hx hb d_Mo_take_146 (by decide) (fun z74 hz74 => ?_)
      refine tz_call (A1 := ga (adM a) H.size) (tz_runV (C := "StoryMachineModel") (As := [.int x1, .int z73, .int z74]) (rest := []) ⟨hx, hb, hml, hown, hts⟩ (c_Mo_setOf l hfl dC dI cI cJ a H.size th t_tr67 dp zi co sh lt ts t136z_mf x1 z73 z74 c68 (by omega) (by omega)) (tx_cb (n := 3) hts rfl rfl ⟨Nat.le_of_ble_eq_true rfl, Nat.le_of_ble_eq_true rfl⟩ (tx_code.of (hts _ mw_1349)) (hts _ mw_12) (by decide +kernel) (hts _ mw_1346)) (hts _ mw_1348) (hts _ ms_Mo_setOf) ⟨tz_blind, sv_recv (q0 := 0) hts in_Mo hK hI kM_0 rfl, fun U hU hW => ⟨rfl, by rw [hU], by rw [hU]; exact hI.1, va_K.moved hW.alike hK, hst _ _ hI.2 U hU hW⟩⟩ rfl rfl hl.1 rfl (lv_room (Nat.le_of_ble_eq_true rfl)) d_Mo_take_147 ⟨Nat.le_of_ble_eq_true rfl, Nat.le_of_ble_eq_true rfl⟩) hI.2 (fun q _ h => ga_sub hAC hA0 hI.2 q h) (ga_sub hAC hA0 hI.2) (fun v t H1 locs1 ht hWt hpost _ _ hS => ?_) (fun x t H1 locs1 ht hWt hpost _ _ hS => (hpost.2 x rfl).elim)
      rcases hpost.1 _ rfl with ⟨t_tr75, hv, c76, c76_0, hI1⟩ | ⟨f_mf77, hv, c78, c78_0, c78_1, c78_2, hI1⟩
      · cases hv
        have hI : sI (dC, dI) vcl cI cJ (gsM a th t_tr75 dp zi co sh lt ts t136z_mf) A s.heap H1 locs1 := ⟨by rw [← ht]; exact hI1, hS⟩
        obtain ⟨-, ⟨o79, o80⟩, -, -, -, -, -, -, -⟩ := id c76
        clear hpost hI1 hS ht hWt
        revert hI; generalize H1 = H; generalize locs1 = locs; intro hI
        subst hZ
        exact tz_ret (W.vret hx hb hr (fun t ht hW => ⟨⟨fun v9 hv9 => by cases hv9; exact (Or.inl ⟨t_tr75, t136z_mf, rfl, c76, by omega, by rw [ht]; exact hI.1⟩), fun x9 hx9 => (by cases hx9)⟩, hI.2.F ht⟩) hI.2.2.2 d_Mo_take_150)
      · omega
    · cases hv
      have hI : sI (dC, dI) vcl cI cJ (gsM a th tr dp zi co sh lt ts f_mf69) A s.heap H1 locs1 := ⟨by rw [← ht]; exact hI1, hS⟩
      obtain ⟨-, -, -, -, -, -, -, -, -⟩ := id c70
      clear hpost hI1 hS ht hWt
      revert hI; generalize H1 = H; generalize locs1 = locs; intro hI
      refine lv_aload_n hx hb d_Mo_take_143 rfl (lv_at hl 0 rfl) ?_
      refine lv_iload_n hx hb d_Mo_take_144 rfl (lv_at hl 1 rfl) ?_
      refine sn_iconst hx hb d_Mo_take_145 (by decide) (fun z81 hz81 => ?_)
      refine sn_iconst hx hb d_Mo_take_146 (by decide) (fun z82 hz82 => ?_)
      refine tz_call (A1 := ga (adM a) H.size) (tz_runV (C := "StoryMachineModel") (As := [.int x1, .int z81, .int z82]) (rest := []) ⟨hx, hb, hml, hown, hts⟩ (c_Mo_setOf l hfl dC dI cI cJ a H.size th tr dp zi co sh lt ts f_mf69 x1 z81 z82 c70 (by omega) (by omega)) (tx_cb (n := 3) hts rfl rfl ⟨Nat.le_of_ble_eq_true rfl, Nat.le_of_ble_eq_true rfl⟩ (tx_code.of (hts _ mw_1349)) (hts _ mw_12) (by decide +kernel) (hts _ mw_1346)) (hts _ mw_1348) (hts _ ms_Mo_setOf) ⟨tz_blind, sv_recv (q0 := 0) hts in_Mo hK hI kM_0 rfl, fun U hU hW => ⟨rfl, by rw [hU], by rw [hU]; exact hI.1, va_K.moved hW.alike hK, hst _ _ hI.2 U hU hW⟩⟩ rfl rfl hl.1 rfl (lv_room (Nat.le_of_ble_eq_true rfl)) d_Mo_take_147 ⟨Nat.le_of_ble_eq_true rfl, Nat.le_of_ble_eq_true rfl⟩) hI.2 (fun q _ h => ga_sub hAC hA0 hI.2 q h) (ga_sub hAC hA0 hI.2) (fun v t H1 locs1 ht hWt hpost _ _ hS => ?_) (fun x t H1 locs1 ht hWt hpost _ _ hS => (hpost.2 x rfl).elim)
      rcases hpost.1 _ rfl with ⟨t_tr83, hv, c84, c84_0, hI1⟩ | ⟨f_mf85, hv, c86, c86_0, c86_1, c86_2, hI1⟩
      · cases hv
        have hI : sI (dC, dI) vcl cI cJ (gsM a th t_tr83 dp zi co sh lt ts f_mf69) A s.heap H1 locs1 := ⟨by rw [← ht]; exact hI1, hS⟩
        obtain ⟨-, ⟨o87, o88⟩, -, -, -, -, -, -, -⟩ := id c84
        clear hpost hI1 hS ht hWt
        revert hI; generalize H1 = H; generalize locs1 = locs; intro hI
        subst hZ
        exact tz_ret (W.vret hx hb hr (fun t ht hW => ⟨⟨fun v9 hv9 => by cases hv9; exact (Or.inl ⟨t_tr83, f_mf69, rfl, c84, by omega, by rw [ht]; exact hI.1⟩), fun x9 hx9 => (by cases hx9)⟩, hI.2.F ht⟩) hI.2.2.2 d_Mo_take_150)
      · cases hv
        have hI : sI (dC, dI) vcl cI cJ (gsM a th tr dp zi co sh lt ts f_mf85) A s.heap H1 locs1 := ⟨by rw [← ht]; exact hI1, hS⟩
        obtain ⟨-, -, -, -, -, -, -, -, -⟩ := id c86
        clear hpost hI1 hS ht hWt
        revert hI; generalize H1 = H; generalize locs1 = locs; intro hI
        subst hZ
        exact tz_ret (W.vret hx hb hr (fun t ht hW => ⟨⟨fun v9 hv9 => by cases hv9; exact (Or.inr (⟨f_mf85, rfl, c86, by omega, by omega, by omega, by rw [ht]; exact hI.1⟩)), fun x9 hx9 => (by cases hx9)⟩, hI.2.F ht⟩) hI.2.2.2 d_Mo_take_150)
  have j96z : ∀ (H : Heap) (locs : List Loc) (ls : Array Slot) (v96z_2 v96z_3 v96z_4 v96z_5 : Int32), sI (dC, dI) vcl cI cJ (gsM a th tr dp zi co sh lt ts mf) A s.heap H locs → okM th tr dp zi co sh lt ts mf → 1 ≤ v96z_2.toInt → v96z_2.toInt ≤ 20 → 0 ≤ v96z_3.toInt → v96z_3.toInt ≤ 255 → 0 ≤ v96z_4.toInt → v96z_4.toInt ≤ 255 → 0 ≤ v96z_5.toInt → v96z_5.toInt ≤ 20 → tr ≤ 0 → 1 ≤ x1.toInt → x1.toInt ≤ 20 → lv_has ls 6 [(0, .ref (a 0)), (1, .int x1), (2, .int v96z_2), (3, .int v96z_3), (4, .int v96z_4), (5, .int v96z_5)] → W p l e (headSpec tw_tbl rm_Mo_take).room s m ([.ref (a 0), .int x1] : List Value).toArray below meth c H locs 0 0 Z (F0 m 96 ls []) := by
    intro H locs ls v96z_2 v96z_3 v96z_4 v96z_5 hI hok g96_0 g96_1 g96_2 g96_3 g96_4 g96_5 g96_6 g96_7 g96_8 g96_9 g96_10 hl
    obtain ⟨⟨o89, o90⟩, ⟨o91, o92⟩, ⟨o93, o94⟩, ⟨o95, o96⟩, ⟨o97, o98⟩, ⟨o99, o100⟩, ⟨o101, o102⟩, ⟨o103, o104⟩, -⟩ := id hok
    refine lv_aload_n hx hb d_Mo_take_96 rfl (lv_at hl 0 rfl) ?_
    refine lv_aload_n hx hb d_Mo_take_97 rfl (lv_at hl 0 rfl) ?_
    refine sv_gete (C := "StoryMachineModel") (T := T_Mo) (N := 51) hx hb hts in_Mo hown hK hI 0 kM_0 rfl 25 (by decide) (hts _ mw_1088) rfl d_Mo_take_98 (fun z105 hz105 => ?_)
    refine sn_if_gt (tgt := 115) hx hb d_Mo_take_101 (by decide) (fun b106 => ?_) (fun b106 => ?_)
    · omega
    · refine lv_aload_n hx hb d_Mo_take_104 rfl (lv_at hl 0 rfl) ?_
      refine lv_iload hx hb d_Mo_take_105 (lv_at hl 4 rfl) ?_
      refine sn_iconst hx hb d_Mo_take_107 (by decide) (fun z107 hz107 => ?_)
      refine tz_call (A1 := ga (adM a) H.size) (tz_runV (C := "StoryMachineModel") (As := [.int v96z_4, .int z107]) (rest := [.ref (a 0)]) ⟨hx, hb, hml, hown, hts⟩ (c_Mo_of l hfl dC dI cI cJ a H.size th tr dp zi co sh lt ts mf v96z_4 z107 hok (by omega) (by omega)) (tx_cb (n := 2) hts rfl rfl ⟨Nat.le_of_ble_eq_true rfl, Nat.le_of_ble_eq_true rfl⟩ (tx_code.of (hts _ mw_1325)) (hts _ mw_12) (by decide +kernel) (hts _ mw_1322)) (hts _ mw_1324) (hts _ ms_Mo_of) ⟨tz_blind, sv_recv (q0 := 0) hts in_Mo hK hI kM_0 rfl, fun U hU hW => ⟨rfl, by rw [hU], by rw [hU]; exact hI.1, va_K.moved hW.alike hK, hst _ _ hI.2 U hU hW⟩⟩ rfl rfl hl.1 rfl (lv_room (Nat.le_of_ble_eq_true rfl)) d_Mo_take_108 ⟨Nat.le_of_ble_eq_true rfl, Nat.le_of_ble_eq_true rfl⟩) hI.2 (fun q _ h => ga_sub hAC hA0 hI.2 q h) (ga_sub hAC hA0 hI.2) (fun v t H1 locs1 ht hWt hpost _ _ hS => ?_) (fun x t H1 locs1 ht hWt hpost _ _ hS => (hpost.2 x rfl).elim)
      rcases hpost.1 _ rfl with ⟨z108, t_tr109, hv, c110, c110_0, c110_1, c110_2, hI1⟩ | ⟨z111, hv, c112, c112_0, c112_1, c112_2, c112_3, c112_4, hI1⟩
      · cases hv
        have hI : sI (dC, dI) vcl cI cJ (gsM a th t_tr109 dp zi co sh lt ts mf) A s.heap H1 locs1 := ⟨by rw [← ht]; exact hI1, hS⟩
        obtain ⟨-, ⟨o113, o114⟩, -, -, -, -, -, -, -⟩ := id c110
        clear hpost hI1 hS ht hWt
        revert hI; generalize H1 = H; generalize locs1 = locs; intro hI
        refine lv_iload_n hx hb d_Mo_take_111 rfl (lv_at hl 1 rfl) ?_
        refine sn_icmp_ne (tgt := 119) hx hb d_Mo_take_112 (by decide) (fun b115 => ?_) (fun b115 => ?_)
        · refine sn_iconst hx hb d_Mo_take_119 (by decide) (fun z116 hz116 => ?_)
          refine sn_iconst hx hb d_Mo_take_120 (by decide) (fun z117 hz117 => ?_)
          refine tz_call (A1 := ga (adM a) H.size) (tz_runV (C := "StoryMachineModel") (As := [.int z116, .int z117]) (rest := []) ⟨hx, hb, hml, hown, hts⟩ (c_Mo_good l hfl dC dI cI cJ a H.size th t_tr109 dp zi co sh lt ts mf z116 z117 c110 (by omega) (by omega) (by omega) (by omega)) (tx_cb (n := 2) hts rfl rfl ⟨Nat.le_of_ble_eq_true rfl, Nat.le_of_ble_eq_true rfl⟩ (tx_code.of (hts _ mw_1240)) (hts _ mw_12) (by decide +kernel) (hts _ mw_1237)) (hts _ mw_1239) (hts _ ms_Mo_good) ⟨tz_blind, sv_recv (q0 := 0) hts in_Mo hK hI kM_0 rfl, fun U hU hW => ⟨rfl, by rw [hU], by rw [hU]; exact hI.1, va_K.moved hW.alike hK, hst _ _ hI.2 U hU hW⟩⟩ rfl rfl hl.1 rfl (lv_room (Nat.le_of_ble_eq_true rfl)) d_Mo_take_121 ⟨Nat.le_of_ble_eq_true rfl, Nat.le_of_ble_eq_true rfl⟩) hI.2 (fun q _ h => ga_sub hAC hA0 hI.2 q h) (ga_sub hAC hA0 hI.2) (fun v t H1 locs1 ht hWt hpost _ _ hS => ?_) (fun x t H1 locs1 ht hWt hpost _ _ hS => (hpost.2 x rfl).elim)
          rcases hpost.1 _ rfl with ⟨z118, t_tr119, hv, c120, c120_0, c120_1, c120_2, c120_3, hI1⟩ | ⟨z121, hv, c122, c122_0, c122_1, c122_2, c122_3, hI1⟩
          · cases hv
            have hI : sI (dC, dI) vcl cI cJ (gsM a th t_tr119 dp zi co sh lt ts mf) A s.heap H1 locs1 := ⟨by rw [← ht]; exact hI1, hS⟩
            obtain ⟨-, ⟨o123, o124⟩, -, -, -, -, -, -, -⟩ := id c120
            clear hpost hI1 hS ht hWt
            revert hI; generalize H1 = H; generalize locs1 = locs; intro hI
            refine sn_if_ne (tgt := 128) hx hb d_Mo_take_124 (by decide) (fun b125 => ?_) (fun b125 => ?_)
            · omega
            · subst hZ
              exact tz_ret (W.vret hx hb hr (fun t ht hW => ⟨⟨fun v9 hv9 => by cases hv9; exact (Or.inl ⟨t_tr119, mf, rfl, c120, by omega, by rw [ht]; exact hI.1⟩), fun x9 hx9 => (by cases hx9)⟩, hI.2.F ht⟩) hI.2.2.2 d_Mo_take_127)
          · omega
        · omega
      · cases hv
        have hI : sI (dC, dI) vcl cI cJ (gsM a th tr dp zi co sh lt ts mf) A s.heap H1 locs1 := ⟨by rw [← ht]; exact hI1, hS⟩
        clear hpost hI1 hS ht hWt
        revert hI; generalize H1 = H; generalize locs1 = locs; intro hI
        refine lv_iload_n hx hb d_Mo_take_111 rfl (lv_at hl 1 rfl) ?_
        refine sn_icmp_ne (tgt := 119) hx hb d_Mo_take_112 (by decide) (fun b126 => ?_) (fun b126 => ?_)
        · refine sn_iconst hx hb d_Mo_take_119 (by decide) (fun z127 hz127 => ?_)
          refine sn_iconst hx hb d_Mo_take_120 (by decide) (fun z128 hz128 => ?_)
          refine tz_call (A1 := ga (adM a) H.size) (tz_runV (C := "StoryMachineModel") (As := [.int z127, .int z128]) (rest := []) ⟨hx, hb, hml, hown, hts⟩ (c_Mo_good l hfl dC dI cI cJ a H.size th tr dp zi co sh lt ts mf z127 z128 c112 (by omega) (by omega) (by omega) (by omega)) (tx_cb (n := 2) hts rfl rfl ⟨Nat.le_of_ble_eq_true rfl, Nat.le_of_ble_eq_true rfl⟩ (tx_code.of (hts _ mw_1240)) (hts _ mw_12) (by decide +kernel) (hts _ mw_1237)) (hts _ mw_1239) (hts _ ms_Mo_good) ⟨tz_blind, sv_recv (q0 := 0) hts in_Mo hK hI kM_0 rfl, fun U hU hW => ⟨rfl, by rw [hU], by rw [hU]; exact hI.1, va_K.moved hW.alike hK, hst _ _ hI.2 U hU hW⟩⟩ rfl rfl hl.1 rfl (lv_room (Nat.le_of_ble_eq_true rfl)) d_Mo_take_121 ⟨Nat.le_of_ble_eq_true rfl, Nat.le_of_ble_eq_true rfl⟩) hI.2 (fun q _ h => ga_sub hAC hA0 hI.2 q h) (ga_sub hAC hA0 hI.2) (fun v t H1 locs1 ht hWt hpost _ _ hS => ?_) (fun x t H1 locs1 ht hWt hpost _ _ hS => (hpost.2 x rfl).elim)
          rcases hpost.1 _ rfl with ⟨z129, t_tr130, hv, c131, c131_0, c131_1, c131_2, c131_3, hI1⟩ | ⟨z132, hv, c133, c133_0, c133_1, c133_2, c133_3, hI1⟩
          · cases hv
            have hI : sI (dC, dI) vcl cI cJ (gsM a th t_tr130 dp zi co sh lt ts mf) A s.heap H1 locs1 := ⟨by rw [← ht]; exact hI1, hS⟩
            obtain ⟨-, ⟨o134, o135⟩, -, -, -, -, -, -, -⟩ := id c131
            clear hpost hI1 hS ht hWt
            revert hI; generalize H1 = H; generalize locs1 = locs; intro hI
            refine sn_if_ne (tgt := 128) hx hb d_Mo_take_124 (by decide) (fun b136 => ?_) (fun b136 => ?_)
            · omega
            · subst hZ
              exact tz_ret (W.vret hx hb hr (fun t ht hW => ⟨⟨fun v9 hv9 => by cases hv9; exact (Or.inl ⟨t_tr130, mf, rfl, c131, by omega, by rw [ht]; exact hI.1⟩), fun x9 hx9 => (by cases hx9)⟩, hI.2.F ht⟩) hI.2.2.2 d_Mo_take_127)
          · omega
        · refine sn_iconst hx hb d_Mo_take_115 (by decide) (fun z137 hz137 => ?_)
          refine lv_goto (tgt := 120) hx hb d_Mo_take_116 (by decide) ?_
          refine sn_iconst hx hb d_Mo_take_120 (by decide) (fun z138 hz138 => ?_)
          refine tz_call (A1 := ga (adM a) H.size) (tz_runV (C := "StoryMachineModel") (As := [.int z137, .int z138]) (rest := []) ⟨hx, hb, hml, hown, hts⟩ (c_Mo_good l hfl dC dI cI cJ a H.size th tr dp zi co sh lt ts mf z137 z138 c112 (by omega) (by omega) (by omega) (by omega)) (tx_cb (n := 2) hts rfl rfl ⟨Nat.le_of_ble_eq_true rfl, Nat.le_of_ble_eq_true rfl⟩ (tx_code.of (hts _ mw_1240)) (hts _ mw_12) (by decide +kernel) (hts _ mw_1237)) (hts _ mw_1239) (hts _ ms_Mo_good) ⟨tz_blind, sv_recv (q0 := 0) hts in_Mo hK hI kM_0 rfl, fun U hU hW => ⟨rfl, by rw [hU], by rw [hU]; exact hI.1, va_K.moved hW.alike hK, hst _ _ hI.2 U hU hW⟩⟩ rfl rfl hl.1 rfl (lv_room (Nat.le_of_ble_eq_true rfl)) d_Mo_take_121 ⟨Nat.le_of_ble_eq_true rfl, Nat.le_of_ble_eq_true rfl⟩) hI.2 (fun q _ h => ga_sub hAC hA0 hI.2 q h) (ga_sub hAC hA0 hI.2) (fun v t H1 locs1 ht hWt hpost _ _ hS => ?_) (fun x t H1 locs1 ht hWt hpost _ _ hS => (hpost.2 x rfl).elim)
          rcases hpost.1 _ rfl with ⟨z139, t_tr140, hv, c141, c141_0, c141_1, c141_2, c141_3, hI1⟩ | ⟨z142, hv, c143, c143_0, c143_1, c143_2, c143_3, hI1⟩
          · cases hv
            have hI : sI (dC, dI) vcl cI cJ (gsM a th t_tr140 dp zi co sh lt ts mf) A s.heap H1 locs1 := ⟨by rw [← ht]; exact hI1, hS⟩
            obtain ⟨-, ⟨o144, o145⟩, -, -, -, -, -, -, -⟩ := id c141
            clear hpost hI1 hS ht hWt
            revert hI; generalize H1 = H; generalize locs1 = locs; intro hI
            refine sn_if_ne (tgt := 128) hx hb d_Mo_take_124 (by decide) (fun b146 => ?_) (fun b146 => ?_)
            · omega
            · subst hZ
              exact tz_ret (W.vret hx hb hr (fun t ht hW => ⟨⟨fun v9 hv9 => by cases hv9; exact (Or.inl ⟨t_tr140, mf, rfl, c141, by omega, by rw [ht]; exact hI.1⟩), fun x9 hx9 => (by cases hx9)⟩, hI.2.F ht⟩) hI.2.2.2 d_Mo_take_127)
          · cases hv
            have hI : sI (dC, dI) vcl cI cJ (gsM a th tr dp zi co sh lt ts mf) A s.heap H1 locs1 := ⟨by rw [← ht]; exact hI1, hS⟩
            clear hpost hI1 hS ht hWt
            revert hI; generalize H1 = H; generalize locs1 = locs; intro hI
            refine sn_if_ne (tgt := 128) hx hb d_Mo_take_124 (by decide) (fun b147 => ?_) (fun b147 => ?_)
            · refine lv_aload_n hx hb d_Mo_take_128 rfl (lv_at hl 0 rfl) ?_
              refine lv_iload hx hb d_Mo_take_129 (lv_at hl 4 rfl) ?_
              refine sn_iconst hx hb d_Mo_take_131 (by decide) (fun z148 hz148 => ?_)
              refine lv_iload_n hx hb d_Mo_take_132 rfl (lv_at hl 3 rfl) ?_
              refine tz_call (A1 := ga (adM a) H.size) (tz_runV (C := "StoryMachineModel") (As := [.int v96z_4, .int z148, .int v96z_3]) (rest := []) ⟨hx, hb, hml, hown, hts⟩ (c_Mo_setOf l hfl dC dI cI cJ a H.size th tr dp zi co sh lt ts mf v96z_4 z148 v96z_3 c143 (by omega) (by omega)) (tx_cb (n := 3) hts rfl rfl ⟨Nat.le_of_ble_eq_true rfl, Nat.le_of_ble_eq_true rfl⟩ (tx_code.of (hts _ mw_1349)) (hts _ mw_12) (by decide +kernel) (hts _ mw_1346)) (hts _ mw_1348) (hts _ ms_Mo_setOf) ⟨tz_blind, sv_recv (q0 := 0) hts in_Mo hK hI kM_0 rfl, fun U hU hW => ⟨rfl, by rw [hU], by rw [hU]; exact hI.1, va_K.moved hW.alike hK, hst _ _ hI.2 U hU hW⟩⟩ rfl rfl hl.1 rfl (lv_room (Nat.le_of_ble_eq_true rfl)) d_Mo_take_133 ⟨Nat.le_of_ble_eq_true rfl, Nat.le_of_ble_eq_true rfl⟩) hI.2 (fun q _ h => ga_sub hAC hA0 hI.2 q h) (ga_sub hAC hA0 hI.2) (fun v t H1 locs1 ht hWt hpost _ _ hS => ?_) (fun x t H1 locs1 ht hWt hpost _ _ hS => (hpost.2 x rfl).elim)
              rcases hpost.1 _ rfl with ⟨t_tr149, hv, c150, c150_0, hI1⟩ | ⟨f_mf151, hv, c152, c152_0, c152_1, c152_2, hI1⟩
              · cases hv
                have hI : sI (dC, dI) vcl cI cJ (gsM a th t_tr149 dp zi co sh lt ts mf) A s.heap H1 locs1 := ⟨by rw [← ht]; exact hI1, hS⟩
                obtain ⟨-, ⟨o153, o154⟩, -, -, -, -, -, -, -⟩ := id c150
                clear hpost hI1 hS ht hWt
                revert hI; generalize H1 = H; generalize locs1 = locs; intro hI
                exact j136p _ _ _ v96z_2 v96z_3 v96z_4 t_tr149 hI c150 (by omega) (by omega) (by omega) (by omega) (by omega) (by omega) (by omega) (by omega) (by omega) (by omega) (by omega) (lv_sub hl [0, 1, 2, 3, 4] rfl)
              · cases hv
                have hI : sI (dC, dI) vcl cI cJ (gsM a th tr dp zi co sh lt ts f_mf151) A s.heap H1 locs1 := ⟨by rw [← ht]; exact hI1, hS⟩
                obtain ⟨-, -, -, -, -, -, -, -, -⟩ := id c152
                clear hpost hI1 hS ht hWt
                revert hI; generalize H1 = H; generalize locs1 = locs; intro hI
                exact j136z _ _ _ v96z_2 v96z_3 v96z_4 f_mf151 hI c152 (by omega) (by omega) (by omega) (by omega) (by omega) (by omega) (by omega) (by omega) (by omega) (lv_sub hl [0, 1, 2, 3, 4] rfl)
            · omega
  have j96p : ∀ (H : Heap) (locs : List Loc) (ls : Array Slot) (v96p_2 v96p_3 v96p_4 v96p_5 : Int32) (t96p_tr : Int), sI (dC, dI) vcl cI cJ (gsM a th t96p_tr dp zi co sh lt ts mf) A s.heap H locs → okM th t96p_tr dp zi co sh lt ts mf → 1 ≤ v96p_2.toInt → v96p_2.toInt ≤ 20 → 0 ≤ v96p_3.toInt → v96p_3.toInt ≤ 255 → 0 ≤ v96p_4.toInt → v96p_4.toInt ≤ 0 → 1 ≤ v96p_5.toInt → v96p_5.toInt ≤ 20 → 1 ≤ t96p_tr → t96p_tr ≤ 4 → tr ≤ 0 → 1 ≤ x1.toInt → x1.toInt ≤ 20 → lv_has ls 6 [(0, .ref (a 0)), (1, .int x1), (2, .int v96p_2), (3, .int v96p_3), (4, .int v96p_4), (5, .int v96p_5)] → W p l e (headSpec tw_tbl rm_Mo_take).room s m ([.ref (a 0), .int x1] : List Value).toArray below meth c H locs 0 0 Z (F0 m 96 ls []) := by
    intro H locs ls v96p_2 v96p_3 v96p_4 v96p_5 t96p_tr hI hok g96_0 g96_1 g96_2 g96_3 g96_4 g96_5 g96_6 g96_7 g96_8 g96_9 g96_10 g96_11 g96_12 hl
    obtain ⟨⟨o155, o156⟩, ⟨o157, o158⟩, ⟨o159, o160⟩, ⟨o161, o162⟩, ⟨o163, o164⟩, ⟨o165, o166⟩, ⟨o167, o168⟩, ⟨o169, o170⟩, -⟩ := id hok
    refine lv_aload_n hx hb d_Mo_take_96 rfl (lv_at hl 0 rfl) ?_
    refine lv_aload_n hx hb d_Mo_take_97 rfl (lv_at hl 0 rfl) ?_
    refine sv_gete (C := "StoryMachineModel") (T := T_Mo) (N := 51) hx hb hts in_Mo hown hK hI 0 kM_0 rfl 25 (by decide) (hts _ mw_1088) rfl d_Mo_take_98 (fun z171 hz171 => ?_)
    refine sn_if_gt (tgt := 115) hx hb d_Mo_take_101 (by decide) (fun b172 => ?_) (fun b172 => ?_)
    · refine sn_iconst hx hb d_Mo_take_115 (by decide) (fun z173 hz173 => ?_)
      refine lv_goto (tgt := 120) hx hb d_Mo_take_116 (by decide) ?_
      refine sn_iconst hx hb d_Mo_take_120 (by decide) (fun z174 hz174 => ?_)
      refine tz_call (A1 := ga (adM a) H.size) (tz_runV (C := "StoryMachineModel") (As := [.int z173, .int z174]) (rest := []) ⟨hx, hb, hml, hown, hts⟩ (c_Mo_good l hfl dC dI cI cJ a H.size th t96p_tr dp zi co sh lt ts mf z173 z174 hok (by omega) (by omega) (by omega) (by omega)) (tx_cb (n := 2) hts rfl rfl ⟨Nat.le_of_ble_eq_true rfl, Nat.le_of_ble_eq_true rfl⟩ (tx_code.of (hts _ mw_1240)) (hts _ mw_12) (by decide +kernel) (hts _ mw_1237)) (hts _ mw_1239) (hts _ ms_Mo_good) ⟨tz_blind, sv_recv (q0 := 0) hts in_Mo hK hI kM_0 rfl, fun U hU hW => ⟨rfl, by rw [hU], by rw [hU]; exact hI.1, va_K.moved hW.alike hK, hst _ _ hI.2 U hU hW⟩⟩ rfl rfl hl.1 rfl (lv_room (Nat.le_of_ble_eq_true rfl)) d_Mo_take_121 ⟨Nat.le_of_ble_eq_true rfl, Nat.le_of_ble_eq_true rfl⟩) hI.2 (fun q _ h => ga_sub hAC hA0 hI.2 q h) (ga_sub hAC hA0 hI.2) (fun v t H1 locs1 ht hWt hpost _ _ hS => ?_) (fun x t H1 locs1 ht hWt hpost _ _ hS => (hpost.2 x rfl).elim)
      rcases hpost.1 _ rfl with ⟨z175, t_tr176, hv, c177, c177_0, c177_1, c177_2, c177_3, hI1⟩ | ⟨z178, hv, c179, c179_0, c179_1, c179_2, c179_3, hI1⟩
      · cases hv
        have hI : sI (dC, dI) vcl cI cJ (gsM a th t_tr176 dp zi co sh lt ts mf) A s.heap H1 locs1 := ⟨by rw [← ht]; exact hI1, hS⟩
        obtain ⟨-, ⟨o180, o181⟩, -, -, -, -, -, -, -⟩ := id c177
        clear hpost hI1 hS ht hWt
        revert hI; generalize H1 = H; generalize locs1 = locs; intro hI
        refine sn_if_ne (tgt := 128) hx hb d_Mo_take_124 (by decide) (fun b182 => ?_) (fun b182 => ?_)
        · omega
        · subst hZ
          exact tz_ret (W.vret hx hb hr (fun t ht hW => ⟨⟨fun v9 hv9 => by cases hv9; exact (Or.inl ⟨t_tr176, mf, rfl, c177, by omega, by rw [ht]; exact hI.1⟩), fun x9 hx9 => (by cases hx9)⟩, hI.2.F ht⟩) hI.2.2.2 d_Mo_take_127)
      · omega
    · omega
  have j56p : ∀ (H : Heap) (locs : List Loc) (ls : Array Slot) (v56p_2 v56p_3 v56p_4 v56p_5 : Int32) (t56p_tr : Int), sI (dC, dI) vcl cI cJ (gsM a th t56p_tr dp zi co sh lt ts mf) A s.heap H locs → okM th t56p_tr dp zi co sh lt ts mf → 1 ≤ v56p_2.toInt → v56p_2.toInt ≤ 20 → 0 ≤ v56p_3.toInt → v56p_3.toInt ≤ 255 → 0 ≤ v56p_4.toInt → v56p_4.toInt ≤ 0 → 1 ≤ v56p_5.toInt → v56p_5.toInt ≤ 20 → 1 ≤ t56p_tr → t56p_tr ≤ 4 → tr ≤ 0 → 1 ≤ x1.toInt → x1.toInt ≤ 20 → lv_has ls 6 [(0, .ref (a 0)), (1, .int x1), (2, .int v56p_2), (3, .int v56p_3), (4, .int v56p_4), (5, .int v56p_5)] → W p l e (headSpec tw_tbl rm_Mo_take).room s m ([.ref (a 0), .int x1] : List Value).toArray below meth c H locs 0 0 Z (F0 m 56 ls []) := by
    intro H locs ls v56p_2 v56p_3 v56p_4 v56p_5 t56p_tr hI hok g56_0 g56_1 g56_2 g56_3 g56_4 g56_5 g56_6 g56_7 g56_8 g56_9 g56_10 g56_11 g56_12 hl
    obtain ⟨⟨o183, o184⟩, ⟨o185, o186⟩, ⟨o187, o188⟩, ⟨o189, o190⟩, ⟨o191, o192⟩, ⟨o193, o194⟩, ⟨o195, o196⟩, ⟨o197, o198⟩, -⟩ := id hok
    refine lv_iload hx hb d_Mo_take_56 (lv_at hl 5 rfl) ?_
    refine sn_bipush hx hb d_Mo_take_58 (by decide) (fun z199 hz199 => ?_)
    refine sn_icmp_ge (tgt := 96) hx hb d_Mo_take_60 (by decide) (fun b200 => ?_) (fun b200 => ?_)
    · exact j96p _ _ _ v56p_2 v56p_3 v56p_4 v56p_5 t56p_tr hI hok (by omega) (by omega) (by omega) (by omega) (by omega) (by omega) (by omega) (by omega) (by omega) (by omega) (by omega) (by omega) (by omega) (lv_sub hl [0, 1, 2, 3, 4, 5] rfl)
    · refine lv_aload_n hx hb d_Mo_take_63 rfl (lv_at hl 0 rfl) ?_
      refine sv_gete (C := "StoryMachineModel") (T := T_Mo) (N := 51) hx hb hts in_Mo hown hK hI 0 kM_0 rfl 25 (by decide) (hts _ mw_1088) rfl d_Mo_take_64 (fun z201 hz201 => ?_)
      refine sn_if_ne (tgt := 96) hx hb d_Mo_take_67 (by decide) (fun b202 => ?_) (fun b202 => ?_)
      · exact j96p _ _ _ v56p_2 v56p_3 v56p_4 v56p_5 t56p_tr hI hok (by omega) (by omega) (by omega) (by omega) (by omega) (by omega) (by omega) (by omega) (by omega) (by omega) (by omega) (by omega) (by omega) (lv_sub hl [0, 1, 2, 3, 4, 5] rfl)
      · omega
  have j56z : ∀ (n : Nat) (H : Heap) (locs : List Loc) (ls : Array Slot) (v56z_2 v56z_3 v56z_4 v56z_5 : Int32), sI (dC, dI) vcl cI cJ (gsM a th tr dp zi co sh lt ts mf) A s.heap H locs → okM th tr dp zi co sh lt ts mf → 1 ≤ v56z_2.toInt → v56z_2.toInt ≤ 20 → 0 ≤ v56z_3.toInt → v56z_3.toInt ≤ 255 → 0 ≤ v56z_4.toInt → v56z_4.toInt ≤ 255 → 0 ≤ v56z_5.toInt → v56z_5.toInt ≤ 20 → tr ≤ 0 → 1 ≤ x1.toInt → x1.toInt ≤ 20 → lv_has ls 6 [(0, .ref (a 0)), (1, .int x1), (2, .int v56z_2), (3, .int v56z_3), (4, .int v56z_4), (5, .int v56z_5)] → 20 - v56z_5.toInt < (n : Int) → W p l e (headSpec tw_tbl rm_Mo_take).room s m ([.ref (a 0), .int x1] : List Value).toArray below meth c H locs 0 0 Z (F0 m 56 ls []) := by
    intro n
    induction n with
    | zero => intro H locs ls v56z_2 v56z_3 v56z_4 v56z_5 hI hok g56_0 g56_1 g56_2 g56_3 g56_4 g56_5 g56_6 g56_7 g56_8 g56_9 g56_10 hl hme; exfalso; obtain ⟨⟨o203, o204⟩, ⟨o205, o206⟩, ⟨o207, o208⟩, ⟨o209, o210⟩, ⟨o211, o212⟩, ⟨o213, o214⟩, ⟨o215, o216⟩, ⟨o217, o218⟩, -⟩ := id hok; omega
    | succ n ih =>
      intro H locs ls v56z_2 v56z_3 v56z_4 v56z_5 hI hok g56_0 g56_1 g56_2 g56_3 g56_4 g56_5 g56_6 g56_7 g56_8 g56_9 g56_10 hl hme
      obtain ⟨⟨o219, o220⟩, ⟨o221, o222⟩, ⟨o223, o224⟩, ⟨o225, o226⟩, ⟨o227, o228⟩, ⟨o229, o230⟩, ⟨o231, o232⟩, ⟨o233, o234⟩, -⟩ := id hok
      refine lv_iload hx hb d_Mo_take_56 (lv_at hl 5 rfl) ?_
      refine sn_bipush hx hb d_Mo_take_58 (by decide) (fun z235 hz235 => ?_)
      refine sn_icmp_ge (tgt := 96) hx hb d_Mo_take_60 (by decide) (fun b236 => ?_) (fun b236 => ?_)
      · exact j96z _ _ _ v56z_2 v56z_3 v56z_4 v56z_5 hI hok (by omega) (by omega) (by omega) (by omega) (by omega) (by omega) (by omega) (by omega) (by omega) (by omega) (by omega) (lv_sub hl [0, 1, 2, 3, 4, 5] rfl)
      · refine lv_aload_n hx hb d_Mo_take_63 rfl (lv_at hl 0 rfl) ?_
        refine sv_gete (C := "StoryMachineModel") (T := T_Mo) (N := 51) hx hb hts in_Mo hown hK hI 0 kM_0 rfl 25 (by decide) (hts _ mw_1088) rfl d_Mo_take_64 (fun z237 hz237 => ?_)
        refine sn_if_ne (tgt := 96) hx hb d_Mo_take_67 (by decide) (fun b238 => ?_) (fun b238 => ?_)
        · omega
        · refine lv_aload_n hx hb d_Mo_take_70 rfl (lv_at hl 0 rfl) ?_
          refine lv_iload hx hb d_Mo_take_71 (lv_at hl 4 rfl) ?_
          refine sn_iconst hx hb d_Mo_take_73 (by decide) (fun z239 hz239 => ?_)
          refine tz_call (A1 := ga (adM a) H.size) (tz_runV (C := "StoryMachineModel") (As := [.int v56z_4, .int z239]) (rest := []) ⟨hx, hb, hml, hown, hts⟩ (c_Mo_of l hfl dC dI cI cJ a H.size th tr dp zi co sh lt ts mf v56z_4 z239 hok (by omega) (by omega)) (tx_cb (n := 2) hts rfl rfl ⟨Nat.le_of_ble_eq_true rfl, Nat.le_of_ble_eq_true rfl⟩ (tx_code.of (hts _ mw_1325)) (hts _ mw_12) (by decide +kernel) (hts _ mw_1322)) (hts _ mw_1324) (hts _ ms_Mo_of) ⟨tz_blind, sv_recv (q0 := 0) hts in_Mo hK hI kM_0 rfl, fun U hU hW => ⟨rfl, by rw [hU], by rw [hU]; exact hI.1, va_K.moved hW.alike hK, hst _ _ hI.2 U hU hW⟩⟩ rfl rfl hl.1 rfl (lv_room (Nat.le_of_ble_eq_true rfl)) d_Mo_take_74 ⟨Nat.le_of_ble_eq_true rfl, Nat.le_of_ble_eq_true rfl⟩) hI.2 (fun q _ h => ga_sub hAC hA0 hI.2 q h) (ga_sub hAC hA0 hI.2) (fun v t H1 locs1 ht hWt hpost _ _ hS => ?_) (fun x t H1 locs1 ht hWt hpost _ _ hS => (hpost.2 x rfl).elim)
          rcases hpost.1 _ rfl with ⟨z240, t_tr241, hv, c242, c242_0, c242_1, c242_2, hI1⟩ | ⟨z243, hv, c244, c244_0, c244_1, c244_2, c244_3, c244_4, hI1⟩
          · cases hv
            have hI : sI (dC, dI) vcl cI cJ (gsM a th t_tr241 dp zi co sh lt ts mf) A s.heap H1 locs1 := ⟨by rw [← ht]; exact hI1, hS⟩
            obtain ⟨-, ⟨o245, o246⟩, -, -, -, -, -, -, -⟩ := id c242
            clear hpost hI1 hS ht hWt
            revert hI; generalize H1 = H; generalize locs1 = locs; intro hI
            refine lv_iload_n hx hb d_Mo_take_77 rfl (lv_at hl 1 rfl) ?_
            refine sn_icmp_eq (tgt := 96) hx hb d_Mo_take_78 (by decide) (fun b247 => ?_) (fun b247 => ?_)
            · omega
            · refine lv_aload_n hx hb d_Mo_take_81 rfl (lv_at hl 0 rfl) ?_
              refine lv_iload hx hb d_Mo_take_82 (lv_at hl 4 rfl) ?_
              refine sn_iconst hx hb d_Mo_take_84 (by decide) (fun z248 hz248 => ?_)
              refine tz_call (A1 := ga (adM a) H.size) (tz_runV (C := "StoryMachineModel") (As := [.int v56z_4, .int z248]) (rest := []) ⟨hx, hb, hml, hown, hts⟩ (c_Mo_of l hfl dC dI cI cJ a H.size th t_tr241 dp zi co sh lt ts mf v56z_4 z248 c242 (by omega) (by omega)) (tx_cb (n := 2) hts rfl rfl ⟨Nat.le_of_ble_eq_true rfl, Nat.le_of_ble_eq_true rfl⟩ (tx_code.of (hts _ mw_1325)) (hts _ mw_12) (by decide +kernel) (hts _ mw_1322)) (hts _ mw_1324) (hts _ ms_Mo_of) ⟨tz_blind, sv_recv (q0 := 0) hts in_Mo hK hI kM_0 rfl, fun U hU hW => ⟨rfl, by rw [hU], by rw [hU]; exact hI.1, va_K.moved hW.alike hK, hst _ _ hI.2 U hU hW⟩⟩ rfl rfl hl.1 rfl (lv_room (Nat.le_of_ble_eq_true rfl)) d_Mo_take_85 ⟨Nat.le_of_ble_eq_true rfl, Nat.le_of_ble_eq_true rfl⟩) hI.2 (fun q _ h => ga_sub hAC hA0 hI.2 q h) (ga_sub hAC hA0 hI.2) (fun v t H1 locs1 ht hWt hpost _ _ hS => ?_) (fun x t H1 locs1 ht hWt hpost _ _ hS => (hpost.2 x rfl).elim)
              rcases hpost.1 _ rfl with ⟨z249, t_tr250, hv, c251, c251_0, c251_1, c251_2, hI1⟩ | ⟨z252, hv, c253, c253_0, c253_1, c253_2, c253_3, c253_4, hI1⟩
              · cases hv
                have hI : sI (dC, dI) vcl cI cJ (gsM a th t_tr250 dp zi co sh lt ts mf) A s.heap H1 locs1 := ⟨by rw [← ht]; exact hI1, hS⟩
                obtain ⟨-, ⟨o254, o255⟩, -, -, -, -, -, -, -⟩ := id c251
                clear hpost hI1 hS ht hWt
                revert hI; generalize H1 = H; generalize locs1 = locs; intro hI
                refine lv_istore (lv' := [(4, .int z249), (0, .ref (a 0)), (1, .int x1), (2, .int v56z_2), (3, .int v56z_3), (5, .int v56z_5)]) hx hb d_Mo_take_88 hl (by decide) rfl (fun ls hl => ?_)
                refine sn_iinc (k := 5) hx hb d_Mo_take_90 hl rfl (by decide) (by decide) (by omega) (by omega) (fun ls z256 hz256 hl => ?_)
                have hl : lv_has ls 6 [(5, .int z256), (4, .int z249), (0, .ref (a 0)), (1, .int x1), (2, .int v56z_2), (3, .int v56z_3)] := hl
                refine lv_goto (tgt := 56) hx hb d_Mo_take_93 (by decide) ?_
                exact j56p _ _ _ v56z_2 v56z_3 z249 z256 t_tr250 hI c251 (by omega) (by omega) (by omega) (by omega) (by omega) (by omega) (by omega) (by omega) (by omega) (by omega) (by omega) (by omega) (by omega) (lv_sub hl [2, 3, 4, 5, 1, 0] rfl)
              · omega
          · cases hv
            have hI : sI (dC, dI) vcl cI cJ (gsM a th tr dp zi co sh lt ts mf) A s.heap H1 locs1 := ⟨by rw [← ht]; exact hI1, hS⟩
            clear hpost hI1 hS ht hWt
            revert hI; generalize H1 = H; generalize locs1 = locs; intro hI
            refine lv_iload_n hx hb d_Mo_take_77 rfl (lv_at hl 1 rfl) ?_
            refine sn_icmp_eq (tgt := 96) hx hb d_Mo_take_78 (by decide) (fun b257 => ?_) (fun b257 => ?_)
            · exact j96z _ _ _ v56z_2 v56z_3 v56z_4 v56z_5 hI c244 (by omega) (by omega) (by omega) (by omega) (by omega) (by omega) (by omega) (by omega) (by omega) (by omega) (by omega) (lv_sub hl [0, 1, 2, 3, 4, 5] rfl)
            · refine lv_aload_n hx hb d_Mo_take_81 rfl (lv_at hl 0 rfl) ?_
              refine lv_iload hx hb d_Mo_take_82 (lv_at hl 4 rfl) ?_
              refine sn_iconst hx hb d_Mo_take_84 (by decide) (fun z258 hz258 => ?_)
              refine tz_call (A1 := ga (adM a) H.size) (tz_runV (C := "StoryMachineModel") (As := [.int v56z_4, .int z258]) (rest := []) ⟨hx, hb, hml, hown, hts⟩ (c_Mo_of l hfl dC dI cI cJ a H.size th tr dp zi co sh lt ts mf v56z_4 z258 c244 (by omega) (by omega)) (tx_cb (n := 2) hts rfl rfl ⟨Nat.le_of_ble_eq_true rfl, Nat.le_of_ble_eq_true rfl⟩ (tx_code.of (hts _ mw_1325)) (hts _ mw_12) (by decide +kernel) (hts _ mw_1322)) (hts _ mw_1324) (hts _ ms_Mo_of) ⟨tz_blind, sv_recv (q0 := 0) hts in_Mo hK hI kM_0 rfl, fun U hU hW => ⟨rfl, by rw [hU], by rw [hU]; exact hI.1, va_K.moved hW.alike hK, hst _ _ hI.2 U hU hW⟩⟩ rfl rfl hl.1 rfl (lv_room (Nat.le_of_ble_eq_true rfl)) d_Mo_take_85 ⟨Nat.le_of_ble_eq_true rfl, Nat.le_of_ble_eq_true rfl⟩) hI.2 (fun q _ h => ga_sub hAC hA0 hI.2 q h) (ga_sub hAC hA0 hI.2) (fun v t H1 locs1 ht hWt hpost _ _ hS => ?_) (fun x t H1 locs1 ht hWt hpost _ _ hS => (hpost.2 x rfl).elim)
              rcases hpost.1 _ rfl with ⟨z259, t_tr260, hv, c261, c261_0, c261_1, c261_2, hI1⟩ | ⟨z262, hv, c263, c263_0, c263_1, c263_2, c263_3, c263_4, hI1⟩
              · cases hv
                have hI : sI (dC, dI) vcl cI cJ (gsM a th t_tr260 dp zi co sh lt ts mf) A s.heap H1 locs1 := ⟨by rw [← ht]; exact hI1, hS⟩
                obtain ⟨-, ⟨o264, o265⟩, -, -, -, -, -, -, -⟩ := id c261
                clear hpost hI1 hS ht hWt
                revert hI; generalize H1 = H; generalize locs1 = locs; intro hI
                refine lv_istore (lv' := [(4, .int z259), (0, .ref (a 0)), (1, .int x1), (2, .int v56z_2), (3, .int v56z_3), (5, .int v56z_5)]) hx hb d_Mo_take_88 hl (by decide) rfl (fun ls hl => ?_)
                refine sn_iinc (k := 5) hx hb d_Mo_take_90 hl rfl (by decide) (by decide) (by omega) (by omega) (fun ls z266 hz266 hl => ?_)
                have hl : lv_has ls 6 [(5, .int z266), (4, .int z259), (0, .ref (a 0)), (1, .int x1), (2, .int v56z_2), (3, .int v56z_3)] := hl
                refine lv_goto (tgt := 56) hx hb d_Mo_take_93 (by decide) ?_
                exact j56p _ _ _ v56z_2 v56z_3 z259 z266 t_tr260 hI c261 (by omega) (by omega) (by omega) (by omega) (by omega) (by omega) (by omega) (by omega) (by omega) (by omega) (by omega) (by omega) (by omega) (lv_sub hl [2, 3, 4, 5, 1, 0] rfl)
              · cases hv
                have hI : sI (dC, dI) vcl cI cJ (gsM a th tr dp zi co sh lt ts mf) A s.heap H1 locs1 := ⟨by rw [← ht]; exact hI1, hS⟩
                clear hpost hI1 hS ht hWt
                revert hI; generalize H1 = H; generalize locs1 = locs; intro hI
                refine lv_istore (lv' := [(4, .int z262), (0, .ref (a 0)), (1, .int x1), (2, .int v56z_2), (3, .int v56z_3), (5, .int v56z_5)]) hx hb d_Mo_take_88 hl (by decide) rfl (fun ls hl => ?_)
                refine sn_iinc (k := 5) hx hb d_Mo_take_90 hl rfl (by decide) (by decide) (by omega) (by omega) (fun ls z267 hz267 hl => ?_)
                have hl : lv_has ls 6 [(5, .int z267), (4, .int z262), (0, .ref (a 0)), (1, .int x1), (2, .int v56z_2), (3, .int v56z_3)] := hl
                refine lv_goto (tgt := 56) hx hb d_Mo_take_93 (by decide) ?_
                exact ih _ _ _ v56z_2 v56z_3 z262 z267 hI c263 (by omega) (by omega) (by omega) (by omega) (by omega) (by omega) (by omega) (by omega) (by omega) (by omega) (by omega) (lv_sub hl [2, 3, 4, 5, 1, 0] rfl) (by omega)
  refine lv_aload_n hx hb d_Mo_take_0 rfl (lv_at hl 0 rfl) ?_
  refine lv_iload_n hx hb d_Mo_take_1 rfl (lv_at hl 1 rfl) ?_
  refine sn_iconst hx hb d_Mo_take_2 (by decide) (fun z268 hz268 => ?_)
  refine tz_call (A1 := ga (adM a) H.size) (tz_runV (C := "StoryMachineModel") (As := [.int x1, .int z268]) (rest := []) ⟨hx, hb, hml, hown, hts⟩ (c_Mo_of l hfl dC dI cI cJ a H.size th tr dp zi co sh lt ts mf x1 z268 hok (by omega) (by omega)) (tx_cb (n := 2) hts rfl rfl ⟨Nat.le_of_ble_eq_true rfl, Nat.le_of_ble_eq_true rfl⟩ (tx_code.of (hts _ mw_1325)) (hts _ mw_12) (by decide +kernel) (hts _ mw_1322)) (hts _ mw_1324) (hts _ ms_Mo_of) ⟨tz_blind, sv_recv (q0 := 0) hts in_Mo hK hI kM_0 rfl, fun U hU hW => ⟨rfl, by rw [hU], by rw [hU]; exact hI.1, va_K.moved hW.alike hK, hst _ _ hI.2 U hU hW⟩⟩ rfl rfl hl.1 rfl (lv_room (Nat.le_of_ble_eq_true rfl)) d_Mo_take_3 ⟨Nat.le_of_ble_eq_true rfl, Nat.le_of_ble_eq_true rfl⟩) hI.2 (fun q _ h => ga_sub hAC hA0 hI.2 q h) (ga_sub hAC hA0 hI.2) (fun v t H1 locs1 ht hWt hpost _ _ hS => ?_) (fun x t H1 locs1 ht hWt hpost _ _ hS => (hpost.2 x rfl).elim)
  rcases hpost.1 _ rfl with ⟨z269, t_tr270, hv, c271, c271_0, c271_1, c271_2, hI1⟩ | ⟨z272, hv, c273, c273_0, c273_1, c273_2, c273_3, c273_4, hI1⟩
  · cases hv
    have hI : sI (dC, dI) vcl cI cJ (gsM a th t_tr270 dp zi co sh lt ts mf) A s.heap H1 locs1 := ⟨by rw [← ht]; exact hI1, hS⟩
    obtain ⟨-, ⟨o274, o275⟩, -, -, -, -, -, -, -⟩ := id c271
    clear hpost hI1 hS ht hWt
    revert hI; generalize H1 = H; generalize locs1 = locs; intro hI
    refine lv_istore_n (lv' := [(2, .int z269), (0, .ref (a 0)), (1, .int x1)]) hx hb d_Mo_take_6 rfl hl (by decide) rfl (fun ls hl => ?_)
    refine lv_iload_n hx hb d_Mo_take_7 rfl (lv_at hl 0 rfl) ?_
    refine sn_if_ne (tgt := 12) hx hb d_Mo_take_8 (by decide) (fun b276 => ?_) (fun b276 => ?_)
    · omega
    · subst hZ
      exact tz_ret (W.vret hx hb hr (fun t ht hW => ⟨⟨fun v9 hv9 => by cases hv9; exact (Or.inl ⟨t_tr270, mf, rfl, c271, by omega, by rw [ht]; exact hI.1⟩), fun x9 hx9 => (by cases hx9)⟩, hI.2.F ht⟩) hI.2.2.2 d_Mo_take_11)
  · cases hv
    have hI : sI (dC, dI) vcl cI cJ (gsM a th tr dp zi co sh lt ts mf) A s.heap H1 locs1 := ⟨by rw [← ht]; exact hI1, hS⟩
    clear hpost hI1 hS ht hWt
    revert hI; generalize H1 = H; generalize locs1 = locs; intro hI
    refine lv_istore_n (lv' := [(2, .int z272), (0, .ref (a 0)), (1, .int x1)]) hx hb d_Mo_take_6 rfl hl (by decide) rfl (fun ls hl => ?_)
    refine lv_iload_n hx hb d_Mo_take_7 rfl (lv_at hl 0 rfl) ?_
    refine sn_if_ne (tgt := 12) hx hb d_Mo_take_8 (by decide) (fun b277 => ?_) (fun b277 => ?_)
    · refine lv_aload_n hx hb d_Mo_take_12 rfl (lv_at hl 1 rfl) ?_
      refine lv_iload_n hx hb d_Mo_take_13 rfl (lv_at hl 2 rfl) ?_
      refine sn_iconst hx hb d_Mo_take_14 (by decide) (fun z278 hz278 => ?_)
      refine tz_call (A1 := ga (adM a) H.size) (tz_runV (C := "StoryMachineModel") (As := [.int x1, .int z278]) (rest := []) ⟨hx, hb, hml, hown, hts⟩ (c_Mo_of l hfl dC dI cI cJ a H.size th tr dp zi co sh lt ts mf x1 z278 c273 (by omega) (by omega)) (tx_cb (n := 2) hts rfl rfl ⟨Nat.le_of_ble_eq_true rfl, Nat.le_of_ble_eq_true rfl⟩ (tx_code.of (hts _ mw_1325)) (hts _ mw_12) (by decide +kernel) (hts _ mw_1322)) (hts _ mw_1324) (hts _ ms_Mo_of) ⟨tz_blind, sv_recv (q0 := 0) hts in_Mo hK hI kM_0 rfl, fun U hU hW => ⟨rfl, by rw [hU], by rw [hU]; exact hI.1, va_K.moved hW.alike hK, hst _ _ hI.2 U hU hW⟩⟩ rfl rfl hl.1 rfl (lv_room (Nat.le_of_ble_eq_true rfl)) d_Mo_take_15 ⟨Nat.le_of_ble_eq_true rfl, Nat.le_of_ble_eq_true rfl⟩) hI.2 (fun q _ h => ga_sub hAC hA0 hI.2 q h) (ga_sub hAC hA0 hI.2) (fun v t H1 locs1 ht hWt hpost _ _ hS => ?_) (fun x t H1 locs1 ht hWt hpost _ _ hS => (hpost.2 x rfl).elim)
      rcases hpost.1 _ rfl with ⟨z279, t_tr280, hv, c281, c281_0, c281_1, c281_2, hI1⟩ | ⟨z282, hv, c283, c283_0, c283_1, c283_2, c283_3, c283_4, hI1⟩
      · cases hv
        have hI : sI (dC, dI) vcl cI cJ (gsM a th t_tr280 dp zi co sh lt ts mf) A s.heap H1 locs1 := ⟨by rw [← ht]; exact hI1, hS⟩
        obtain ⟨-, ⟨o284, o285⟩, -, -, -, -, -, -, -⟩ := id c281
        clear hpost hI1 hS ht hWt
        revert hI; generalize H1 = H; generalize locs1 = locs; intro hI
        refine lv_istore_n (lv' := [(3, .int z279), (2, .int z272), (0, .ref (a 0)), (1, .int x1)]) hx hb d_Mo_take_18 rfl hl (by decide) rfl (fun ls hl => ?_)
        refine lv_aload_n hx hb d_Mo_take_19 rfl (lv_at hl 2 rfl) ?_
        refine lv_iload_n hx hb d_Mo_take_20 rfl (lv_at hl 1 rfl) ?_
        refine sn_bipush hx hb d_Mo_take_21 (by decide) (fun z286 hz286 => ?_)
        refine tz_call (A1 := ga (adM a) H.size) (tz_runV (C := "StoryMachineModel") (As := [.int z272, .int z286]) (rest := []) ⟨hx, hb, hml, hown, hts⟩ (c_Mo_of l hfl dC dI cI cJ a H.size th t_tr280 dp zi co sh lt ts mf z272 z286 c281 (by omega) (by omega)) (tx_cb (n := 2) hts rfl rfl ⟨Nat.le_of_ble_eq_true rfl, Nat.le_of_ble_eq_true rfl⟩ (tx_code.of (hts _ mw_1325)) (hts _ mw_12) (by decide +kernel) (hts _ mw_1322)) (hts _ mw_1324) (hts _ ms_Mo_of) ⟨tz_blind, sv_recv (q0 := 0) hts in_Mo hK hI kM_0 rfl, fun U hU hW => ⟨rfl, by rw [hU], by rw [hU]; exact hI.1, va_K.moved hW.alike hK, hst _ _ hI.2 U hU hW⟩⟩ rfl rfl hl.1 rfl (lv_room (Nat.le_of_ble_eq_true rfl)) d_Mo_take_23 ⟨Nat.le_of_ble_eq_true rfl, Nat.le_of_ble_eq_true rfl⟩) hI.2 (fun q _ h => ga_sub hAC hA0 hI.2 q h) (ga_sub hAC hA0 hI.2) (fun v t H1 locs1 ht hWt hpost _ _ hS => ?_) (fun x t H1 locs1 ht hWt hpost _ _ hS => (hpost.2 x rfl).elim)
        rcases hpost.1 _ rfl with ⟨z287, t_tr288, hv, c289, c289_0, c289_1, c289_2, hI1⟩ | ⟨z290, hv, c291, c291_0, c291_1, c291_2, c291_3, c291_4, hI1⟩
        · cases hv
          have hI : sI (dC, dI) vcl cI cJ (gsM a th t_tr288 dp zi co sh lt ts mf) A s.heap H1 locs1 := ⟨by rw [← ht]; exact hI1, hS⟩
          obtain ⟨-, ⟨o292, o293⟩, -, -, -, -, -, -, -⟩ := id c289
          clear hpost hI1 hS ht hWt
          revert hI; generalize H1 = H; generalize locs1 = locs; intro hI
          refine lv_istore (lv' := [(4, .int z287), (3, .int z279), (2, .int z272), (0, .ref (a 0)), (1, .int x1)]) hx hb d_Mo_take_26 hl (by decide) rfl (fun ls hl => ?_)
          refine lv_aload_n hx hb d_Mo_take_28 rfl (lv_at hl 3 rfl) ?_
          refine sv_gete (C := "StoryMachineModel") (T := T_Mo) (N := 51) hx hb hts in_Mo hown hK hI 0 kM_0 rfl 25 (by decide) (hts _ mw_1088) rfl d_Mo_take_29 (fun z294 hz294 => ?_)
          refine sn_if_le (tgt := 36) hx hb d_Mo_take_32 (by decide) (fun b295 => ?_) (fun b295 => ?_)
          · omega
          · subst hZ
            exact tz_ret (W.vret hx hb hr (fun t ht hW => ⟨⟨fun v9 hv9 => by cases hv9; exact (Or.inl ⟨t_tr288, mf, rfl, c289, by omega, by rw [ht]; exact hI.1⟩), fun x9 hx9 => (by cases hx9)⟩, hI.2.F ht⟩) hI.2.2.2 d_Mo_take_35)
        · omega
      · cases hv
        have hI : sI (dC, dI) vcl cI cJ (gsM a th tr dp zi co sh lt ts mf) A s.heap H1 locs1 := ⟨by rw [← ht]; exact hI1, hS⟩
        clear hpost hI1 hS ht hWt
        revert hI; generalize H1 = H; generalize locs1 = locs; intro hI
        refine lv_istore_n (lv' := [(3, .int z282), (2, .int z272), (0, .ref (a 0)), (1, .int x1)]) hx hb d_Mo_take_18 rfl hl (by decide) rfl (fun ls hl => ?_)
        refine lv_aload_n hx hb d_Mo_take_19 rfl (lv_at hl 2 rfl) ?_
        refine lv_iload_n hx hb d_Mo_take_20 rfl (lv_at hl 1 rfl) ?_
        refine sn_bipush hx hb d_Mo_take_21 (by decide) (fun z296 hz296 => ?_)
        refine tz_call (A1 := ga (adM a) H.size) (tz_runV (C := "StoryMachineModel") (As := [.int z272, .int z296]) (rest := []) ⟨hx, hb, hml, hown, hts⟩ (c_Mo_of l hfl dC dI cI cJ a H.size th tr dp zi co sh lt ts mf z272 z296 c283 (by omega) (by omega)) (tx_cb (n := 2) hts rfl rfl ⟨Nat.le_of_ble_eq_true rfl, Nat.le_of_ble_eq_true rfl⟩ (tx_code.of (hts _ mw_1325)) (hts _ mw_12) (by decide +kernel) (hts _ mw_1322)) (hts _ mw_1324) (hts _ ms_Mo_of) ⟨tz_blind, sv_recv (q0 := 0) hts in_Mo hK hI kM_0 rfl, fun U hU hW => ⟨rfl, by rw [hU], by rw [hU]; exact hI.1, va_K.moved hW.alike hK, hst _ _ hI.2 U hU hW⟩⟩ rfl rfl hl.1 rfl (lv_room (Nat.le_of_ble_eq_true rfl)) d_Mo_take_23 ⟨Nat.le_of_ble_eq_true rfl, Nat.le_of_ble_eq_true rfl⟩) hI.2 (fun q _ h => ga_sub hAC hA0 hI.2 q h) (ga_sub hAC hA0 hI.2) (fun v t H1 locs1 ht hWt hpost _ _ hS => ?_) (fun x t H1 locs1 ht hWt hpost _ _ hS => (hpost.2 x rfl).elim)
        rcases hpost.1 _ rfl with ⟨z297, t_tr298, hv, c299, c299_0, c299_1, c299_2, hI1⟩ | ⟨z300, hv, c301, c301_0, c301_1, c301_2, c301_3, c301_4, hI1⟩
        · cases hv
          have hI : sI (dC, dI) vcl cI cJ (gsM a th t_tr298 dp zi co sh lt ts mf) A s.heap H1 locs1 := ⟨by rw [← ht]; exact hI1, hS⟩
          obtain ⟨-, ⟨o302, o303⟩, -, -, -, -, -, -, -⟩ := id c299
          clear hpost hI1 hS ht hWt
          revert hI; generalize H1 = H; generalize locs1 = locs; intro hI
          refine lv_istore (lv' := [(4, .int z297), (3, .int z282), (2, .int z272), (0, .ref (a 0)), (1, .int x1)]) hx hb d_Mo_take_26 hl (by decide) rfl (fun ls hl => ?_)
          refine lv_aload_n hx hb d_Mo_take_28 rfl (lv_at hl 3 rfl) ?_
          refine sv_gete (C := "StoryMachineModel") (T := T_Mo) (N := 51) hx hb hts in_Mo hown hK hI 0 kM_0 rfl 25 (by decide) (hts _ mw_1088) rfl d_Mo_take_29 (fun z304 hz304 => ?_)
          refine sn_if_le (tgt := 36) hx hb d_Mo_take_32 (by decide) (fun b305 => ?_) (fun b305 => ?_)
          · omega
          · subst hZ
            exact tz_ret (W.vret hx hb hr (fun t ht hW => ⟨⟨fun v9 hv9 => by cases hv9; exact (Or.inl ⟨t_tr298, mf, rfl, c299, by omega, by rw [ht]; exact hI.1⟩), fun x9 hx9 => (by cases hx9)⟩, hI.2.F ht⟩) hI.2.2.2 d_Mo_take_35)
        · cases hv
          have hI : sI (dC, dI) vcl cI cJ (gsM a th tr dp zi co sh lt ts mf) A s.heap H1 locs1 := ⟨by rw [← ht]; exact hI1, hS⟩
          clear hpost hI1 hS ht hWt
          revert hI; generalize H1 = H; generalize locs1 = locs; intro hI
          refine lv_istore (lv' := [(4, .int z300), (3, .int z282), (2, .int z272), (0, .ref (a 0)), (1, .int x1)]) hx hb d_Mo_take_26 hl (by decide) rfl (fun ls hl => ?_)
          refine lv_aload_n hx hb d_Mo_take_28 rfl (lv_at hl 3 rfl) ?_
          refine sv_gete (C := "StoryMachineModel") (T := T_Mo) (N := 51) hx hb hts in_Mo hown hK hI 0 kM_0 rfl 25 (by decide) (hts _ mw_1088) rfl d_Mo_take_29 (fun z306 hz306 => ?_)
          refine sn_if_le (tgt := 36) hx hb d_Mo_take_32 (by decide) (fun b307 => ?_) (fun b307 => ?_)
          · refine lv_iload hx hb d_Mo_take_36 (lv_at hl 0 rfl) ?_
            refine lv_iload_n hx hb d_Mo_take_38 rfl (lv_at hl 4 rfl) ?_
            refine sn_icmp_ne (tgt := 53) hx hb d_Mo_take_39 (by decide) (fun b308 => ?_) (fun b308 => ?_)
            · refine sn_iconst hx hb d_Mo_take_53 (by decide) (fun z309 hz309 => ?_)
              refine lv_istore (lv' := [(5, .int z309), (4, .int z300), (3, .int z282), (2, .int z272), (0, .ref (a 0)), (1, .int x1)]) hx hb d_Mo_take_54 hl (by decide) rfl (fun ls hl => ?_)
              exact j56z 21 _ _ _ z272 z282 z300 z309 hI c301 (by omega) (by omega) (by omega) (by omega) (by omega) (by omega) (by omega) (by omega) (by omega) (by omega) (by omega) (lv_sub hl [4, 5, 3, 2, 1, 0] rfl) (by omega)
            · refine lv_aload_n hx hb d_Mo_take_42 rfl (lv_at hl 3 rfl) ?_
              refine lv_iload_n hx hb d_Mo_take_43 rfl (lv_at hl 2 rfl) ?_
              refine sn_bipush hx hb d_Mo_take_44 (by decide) (fun z310 hz310 => ?_)
              refine lv_iload_n hx hb d_Mo_take_46 rfl (lv_at hl 1 rfl) ?_
              refine tz_call (A1 := ga (adM a) H.size) (tz_runV (C := "StoryMachineModel") (As := [.int z272, .int z310, .int z282]) (rest := []) ⟨hx, hb, hml, hown, hts⟩ (c_Mo_setOf l hfl dC dI cI cJ a H.size th tr dp zi co sh lt ts mf z272 z310 z282 c301 (by omega) (by omega)) (tx_cb (n := 3) hts rfl rfl ⟨Nat.le_of_ble_eq_true rfl, Nat.le_of_ble_eq_true rfl⟩ (tx_code.of (hts _ mw_1349)) (hts _ mw_12) (by decide +kernel) (hts _ mw_1346)) (hts _ mw_1348) (hts _ ms_Mo_setOf) ⟨tz_blind, sv_recv (q0 := 0) hts in_Mo hK hI kM_0 rfl, fun U hU hW => ⟨rfl, by rw [hU], by rw [hU]; exact hI.1, va_K.moved hW.alike hK, hst _ _ hI.2 U hU hW⟩⟩ rfl rfl hl.1 rfl (lv_room (Nat.le_of_ble_eq_true rfl)) d_Mo_take_47 ⟨Nat.le_of_ble_eq_true rfl, Nat.le_of_ble_eq_true rfl⟩) hI.2 (fun q _ h => ga_sub hAC hA0 hI.2 q h) (ga_sub hAC hA0 hI.2) (fun v t H1 locs1 ht hWt hpost _ _ hS => ?_) (fun x t H1 locs1 ht hWt hpost _ _ hS => (hpost.2 x rfl).elim)
              rcases hpost.1 _ rfl with ⟨t_tr311, hv, c312, c312_0, hI1⟩ | ⟨f_mf313, hv, c314, c314_0, c314_1, c314_2, hI1⟩
              · cases hv
                have hI : sI (dC, dI) vcl cI cJ (gsM a th t_tr311 dp zi co sh lt ts mf) A s.heap H1 locs1 := ⟨by rw [← ht]; exact hI1, hS⟩
                obtain ⟨-, ⟨o315, o316⟩, -, -, -, -, -, -, -⟩ := id c312
                clear hpost hI1 hS ht hWt
                revert hI; generalize H1 = H; generalize locs1 = locs; intro hI
                refine lv_goto (tgt := 136) hx hb d_Mo_take_50 (by decide) ?_
                exact j136p _ _ _ z272 z282 z300 t_tr311 hI c312 (by omega) (by omega) (by omega) (by omega) (by omega) (by omega) (by omega) (by omega) (by omega) (by omega) (by omega) (lv_sub hl [3, 4, 2, 1, 0] rfl)
              · cases hv
                have hI : sI (dC, dI) vcl cI cJ (gsM a th tr dp zi co sh lt ts f_mf313) A s.heap H1 locs1 := ⟨by rw [← ht]; exact hI1, hS⟩
                obtain ⟨-, -, -, -, -, -, -, -, -⟩ := id c314
                clear hpost hI1 hS ht hWt
                revert hI; generalize H1 = H; generalize locs1 = locs; intro hI
                refine lv_goto (tgt := 136) hx hb d_Mo_take_50 (by decide) ?_
                exact j136z _ _ _ z272 z282 z300 f_mf313 hI c314 (by omega) (by omega) (by omega) (by omega) (by omega) (by omega) (by omega) (by omega) (by omega) (lv_sub hl [3, 4, 2, 1, 0] rfl)
          · omega
    · subst hZ
      exact tz_ret (W.vret hx hb hr (fun t ht hW => ⟨⟨fun v9 hv9 => by cases hv9; exact (Or.inr (⟨mf, rfl, c273, by omega, by omega, by omega, by rw [ht]; exact hI.1⟩)), fun x9 hx9 => (by cases hx9)⟩, hI.2.F ht⟩) hI.2.2.2 d_Mo_take_11)
