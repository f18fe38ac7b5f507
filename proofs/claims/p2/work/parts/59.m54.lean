abbrev q_Mo_firstProperty (dC : Nat → ClassId) (dI : Nat → Nat → Nat) (cI cJ : ClassId) (a : Nat → Nat) (th tr dp zi co sh lt ts : Int) (mf : Nat → Int32) (x1 : Int32) : Outcome → State → Prop := fun o t => (∀ v, o = .returned v → ((∃ (z : Int32) (tr_ : Int), v = some (.int z) ∧ okM th tr_ dp zi co sh lt ts mf ∧ (0 ≤ z.toInt) ∧ (z.toInt ≤ 65536) ∧ (1 ≤ tr_) ∧ sh_I (dC, dI) vcl cI cJ (gsM a th tr_ dp zi co sh lt ts mf) t.heap) ∨ (∃ (z : Int32), v = some (.int z) ∧ okM th tr dp zi co sh lt ts mf ∧ (1 ≤ z.toInt) ∧ (z.toInt ≤ 66046) ∧ (1 ≤ x1.toInt) ∧ (x1.toInt ≤ 20) ∧ (tr ≤ 0) ∧ sh_I (dC, dI) vcl cI cJ (gsM a th tr dp zi co sh lt ts mf) t.heap))) ∧ (∀ x, o = .threw x → (False))
def rm_Mo_firstProperty : Room := { frames := 4, cells := 0, slots := 0, locals := 87 }
set_option maxHeartbeats 4000000 in
set_option maxRecDepth 100000 in
theorem c_Mo_firstProperty (l : Launch) (hfl : l.flags = pinnedFlags ++ [noTraceFlag]) (dC : Nat → ClassId) (dI : Nat → Nat → Nat) (cI cJ : ClassId) (a : Nat → Nat) (sz : Nat) (th tr dp zi co sh lt ts : Int) (mf : Nat → Int32) (x1 : Int32) (hok : okM th tr dp zi co sh lt ts mf) : tz_Met l ⟨"StoryMachineModel", "firstProperty", "(I)I"⟩ tw_tbl rm_Mo_firstProperty (tzP (dC, dI) vcl cI cJ (gsM a th tr dp zi co sh lt ts mf) a (adM a) [.ref (a 0), .int x1] sz) (tq_Q (q_Mo_firstProperty dC dI cI cJ a th tr dp zi co sh lt ts mf x1) (ga (adM a) sz)) 0 0 0 0 (ga (adM a) sz) := by
  refine tz_ofW (cc := prog_13_method_28_code) (maxL := 3) (ret := (some .int)) (by decide) (tx_isM mw_1377) ?_
  intro p e s m args below meth c s₁ B hml hv
  obtain ⟨rfl, hsz, hI0, hK, hst0⟩ := hv
  have hx := B.exec
  have hb := B.bytes
  have hr := B.returns
  have hts := atoms_spec (ws := tw_tbl) B.pre
  have hown : s.vm.findClass "StoryMachineModel" = some m.cls := findClass_of_methodNamed B.named
  have hlocks := B.notSynchronized
  subst hsz
  have hst := fun (H : Heap) (locs : List Loc) (hS : va_S (ga (adM a) s.heap.size) s.heap H locs) (U : State) (hU : U.heap = H) (hW : s.WarmedH U.vm) => zS_all adM_map hI0 hst0 hS hU hW
  have hAC : ∀ q ∈ adM a, ga (adM a) s.heap.size q := fun q h => Or.inl h
  have hA0 : ∀ q, s.heap.size ≤ q → ga (adM a) s.heap.size q := fun q h => Or.inr h
  have hI : sI (dC, dI) vcl cI cJ (gsM a th tr dp zi co sh lt ts mf) (ga (adM a) s.heap.size) s.heap s.heap [] := ⟨hI0, va_S.rf⟩
  clear hI0 hst0
  have hl := lv_entry ([.ref (a 0), .int x1]) (n := 3) (Nat.le_of_ble_eq_true rfl)
  rw [lg_entry_eq]
  generalize (lg_sl ([.ref (a 0), .int x1]) ++ List.replicate (3 - (lg_sl ([.ref (a 0), .int x1])).length) Slot.unset).toArray = ls at hl ⊢
  have hl : lv_has ls 3 [(0, .ref (a 0)), (1, .int x1)] := hl
  generalize hZ : tz_MQ below (tq_Q (q_Mo_firstProperty dC dI cI cJ a th tr dp zi co sh lt ts mf x1) (ga (adM a) s.heap.size)) ([.ref (a 0), .int x1] : List Value).toArray s 0 0 0 0 (ga (adM a) s.heap.size) = Z
  obtain ⟨A, hAe⟩ : ∃ A, A = ga (adM a) s.heap.size := ⟨_, rfl⟩
  rw [← hAe] at hst hAC hA0 hI hZ
  refine sv_start hI (fun H locs hI => ?_)
  obtain ⟨⟨o1, o2⟩, ⟨o3, o4⟩, ⟨o5, o6⟩, ⟨o7, o8⟩, ⟨o9, o10⟩, ⟨o11, o12⟩, ⟨o13, o14⟩, ⟨o15, o16⟩, -⟩ := id hok
  have gx1 := sn_rng x1
  refine lv_aload_n hx hb d_Mo_firstProperty_0 rfl (lv_at hl 0 rfl) ?_
  refine lv_aload_n hx hb d_Mo_firstProperty_1 rfl (lv_at hl 0 rfl) ?_
  refine lv_iload_n hx hb d_Mo_firstProperty_2 rfl (lv_at hl 1 rfl) ?_
  refine tz_call (A1 := ga (adM a) H.size) (tz_runV (C := "StoryMachineModel") (As := [.int x1]) (rest := [.ref (a 0)]) ⟨hx, hb, hml, hown, hts⟩ (c_Mo_objectAt l hfl dC dI cI cJ a H.size th tr dp zi co sh lt ts mf x1 hok) (tx_cb (n := 1) hts rfl rfl ⟨Nat.le_of_ble_eq_true rfl, Nat.le_of_ble_eq_true rfl⟩ (tx_code.of (hts _ mw_1329)) (hts _ mw_12) (by decide +kernel) (hts _ mw_1326)) (hts _ mw_1328) (hts _ ms_Mo_objectAt) ⟨tz_blind, sv_recv (q0 := 0) hts in_Mo hK hI kM_0 rfl, fun U hU hW => ⟨rfl, by rw [hU], by rw [hU]; exact hI.1, va_K.moved hW.alike hK, hst _ _ hI.2 U hU hW⟩⟩ rfl rfl hl.1 rfl (lv_room (Nat.le_of_ble_eq_true rfl)) d_Mo_firstProperty_3 ⟨Nat.le_of_ble_eq_true rfl, Nat.le_of_ble_eq_true rfl⟩) hI.2 (fun q _ h => ga_sub hAC hA0 hI.2 q h) (ga_sub hAC hA0 hI.2) (fun v t H1 locs1 ht hWt hpost _ _ hS => ?_) (fun x t H1 locs1 ht hWt hpost _ _ hS => (hpost.2 x rfl).elim)
  rcases hpost.1 _ rfl with ⟨z17, t_tr18, hv, c19, c19_0, c19_1, c19_2, c19_3, hI1⟩ | ⟨z20, hv, c21, c21_0, c21_1, c21_2, c21_3, c21_4, c21_5, hI1⟩
  · cases hv
    have hI : sI (dC, dI) vcl cI cJ (gsM a th t_tr18 dp zi co sh lt ts mf) A s.heap H1 locs1 := ⟨by rw [← ht]; exact hI1, hS⟩
    obtain ⟨-, ⟨o22, o23⟩, -, -, -, -, -, -, -⟩ := id c19
    clear hpost hI1 hS ht hWt
    revert hI; generalize H1 = H; generalize locs1 = locs; intro hI
    refine sn_bipush hx hb d_Mo_firstProperty_6 (by decide) (fun z24 hz24 => ?_)
    refine sn_iadd hx hb d_Mo_firstProperty_8 (by omega) (by omega) (fun z25 hz25 => ?_)
    refine tz_call (A1 := ga (adM a) H.size) (tz_runV (C := "StoryMachineModel") (As := [.int z25]) (rest := []) ⟨hx, hb, hml, hown, hts⟩ (c_Mo_wordAt l hfl dC dI cI cJ a H.size th t_tr18 dp zi co sh lt ts mf z25 c19) (tx_cb (n := 1) hts rfl rfl ⟨Nat.le_of_ble_eq_true rfl, Nat.le_of_ble_eq_true rfl⟩ (tx_code.of (hts _ mw_1252)) (hts _ mw_12) (by decide +kernel) (hts _ mw_1249)) (hts _ mw_1251) (hts _ ms_Mo_wordAt) ⟨tz_blind, sv_recv (q0 := 0) hts in_Mo hK hI kM_0 rfl, fun U hU hW => ⟨rfl, by rw [hU], by rw [hU]; exact hI.1, va_K.moved hW.alike hK, hst _ _ hI.2 U hU hW⟩⟩ rfl rfl hl.1 rfl (lv_room (Nat.le_of_ble_eq_true rfl)) d_Mo_firstProperty_9 ⟨Nat.le_of_ble_eq_true rfl, Nat.le_of_ble_eq_true rfl⟩) hI.2 (fun q _ h => ga_sub hAC hA0 hI.2 q h) (ga_sub hAC hA0 hI.2) (fun v t H1 locs1 ht hWt hpost _ _ hS => ?_) (fun x t H1 locs1 ht hWt hpost _ _ hS => (hpost.2 x rfl).elim)
    rcases hpost.1 _ rfl with ⟨z26, t_tr27, hv, c28, c28_0, c28_1, c28_2, hI1⟩ | ⟨z29, hv, c30, c30_0, c30_1, c30_2, c30_3, c30_4, hI1⟩
    · cases hv
      have hI : sI (dC, dI) vcl cI cJ (gsM a th t_tr27 dp zi co sh lt ts mf) A s.heap H1 locs1 := ⟨by rw [← ht]; exact hI1, hS⟩
      obtain ⟨-, ⟨o31, o32⟩, -, -, -, -, -, -, -⟩ := id c28
      clear hpost hI1 hS ht hWt
      revert hI; generalize H1 = H; generalize locs1 = locs; intro hI
      refine lv_istore_n (lv' := [(2, .int z26), (0, .ref (a 0)), (1, .int x1)]) hx hb d_Mo_firstProperty_12 rfl hl (by decide) rfl (fun ls hl => ?_)
      refine lv_aload_n hx hb d_Mo_firstProperty_13 rfl (lv_at hl 1 rfl) ?_
      refine sv_gete (C := "StoryMachineModel") (T := T_Mo) (N := 51) hx hb hts in_Mo hown hK hI 0 kM_0 rfl 25 (by decide) (hts _ mw_1088) rfl d_Mo_firstProperty_14 (fun z33 hz33 => ?_)
      refine sn_if_ne (tgt := 34) hx hb d_Mo_firstProperty_17 (by decide) (fun b34 => ?_) (fun b34 => ?_)
      · refine sn_iconst hx hb d_Mo_firstProperty_34 (by decide) (fun z35 hz35 => ?_)
        subst hZ
        exact tz_ret (W.iret (v := z35) hx hb hr (fun t ht hW => ⟨⟨fun v9 hv9 => by cases hv9; exact (Or.inl ⟨z35, t_tr27, rfl, c28, by omega, by omega, by omega, by rw [ht]; exact hI.1⟩), fun x9 hx9 => (by cases hx9)⟩, hI.2.F ht⟩) hI.2.2.2 d_Mo_firstProperty_35)
      · omega
    · omega
  · cases hv
    have hI : sI (dC, dI) vcl cI cJ (gsM a th tr dp zi co sh lt ts mf) A s.heap H1 locs1 := ⟨by rw [← ht]; exact hI1, hS⟩
    clear hpost hI1 hS ht hWt
    revert hI; generalize H1 = H; generalize locs1 = locs; intro hI
    refine sn_bipush hx hb d_Mo_firstProperty_6 (by decide) (fun z36 hz36 => ?_)
    refine sn_iadd hx hb d_Mo_firstProperty_8 (by omega) (by omega) (fun z37 hz37 => ?_)
    refine tz_call (A1 := ga (adM a) H.size) (tz_runV (C := "StoryMachineModel") (As := [.int z37]) (rest := []) ⟨hx, hb, hml, hown, hts⟩ (c_Mo_wordAt l hfl dC dI cI cJ a H.size th tr dp zi co sh lt ts mf z37 c21) (tx_cb (n := 1) hts rfl rfl ⟨Nat.le_of_ble_eq_true rfl, Nat.le_of_ble_eq_true rfl⟩ (tx_code.of (hts _ mw_1252)) (hts _ mw_12) (by decide +kernel) (hts _ mw_1249)) (hts _ mw_1251) (hts _ ms_Mo_wordAt) ⟨tz_blind, sv_recv (q0 := 0) hts in_Mo hK hI kM_0 rfl, fun U hU hW => ⟨rfl, by rw [hU], by rw [hU]; exact hI.1, va_K.moved hW.alike hK, hst _ _ hI.2 U hU hW⟩⟩ rfl rfl hl.1 rfl (lv_room (Nat.le_of_ble_eq_true rfl)) d_Mo_firstProperty_9 ⟨Nat.le_of_ble_eq_true rfl, Nat.le_of_ble_eq_true rfl⟩) hI.2 (fun q _ h => ga_sub hAC hA0 hI.2 q h) (ga_sub hAC hA0 hI.2) (fun v t H1 locs1 ht hWt hpost _ _ hS => ?_) (fun x t H1 locs1 ht hWt hpost _ _ hS => (hpost.2 x rfl).elim)
    rcases hpost.1 _ rfl with ⟨z38, t_tr39, hv, c40, c40_0, c40_1, c40_2, hI1⟩ | ⟨z41, hv, c42, c42_0, c42_1, c42_2, c42_3, c42_4, hI1⟩
    · cases hv
      have hI : sI (dC, dI) vcl cI cJ (gsM a th t_tr39 dp zi co sh lt ts mf) A s.heap H1 locs1 := ⟨by rw [← ht]; exact hI1, hS⟩
      obtain ⟨-, ⟨o43, o44⟩, -, -, -, -, -, -, -⟩ := id c40
      clear hpost hI1 hS ht hWt
      revert hI; generalize H1 = H; generalize locs1 = locs; intro hI
      refine lv_istore_n (lv' := [(2, .int z38), (0, .ref (a 0)), (1, .int x1)]) hx hb d_Mo_firstProperty_12 rfl hl (by decide) rfl (fun ls hl => ?_)
      refine lv_aload_n hx hb d_Mo_firstProperty_13 rfl (lv_at hl 1 rfl) ?_
      refine sv_gete (C := "StoryMachineModel") (T := T_Mo) (N := 51) hx hb hts in_Mo hown hK hI 0 kM_0 rfl 25 (by decide) (hts _ mw_1088) rfl d_Mo_firstProperty_14 (fun z45 hz45 => ?_)
      refine sn_if_ne (tgt := 34) hx hb d_Mo_firstProperty_17 (by decide) (fun b46 => ?_) (fun b46 => ?_)
      · refine sn_iconst hx hb d_Mo_firstProperty_34 (by decide) (fun z47 hz47 => ?_)
        subst hZ
        exact tz_ret (W.iret (v := z47) hx hb hr (fun t ht hW => ⟨⟨fun v9 hv9 => by cases hv9; exact (Or.inl ⟨z47, t_tr39, rfl, c40, by omega, by omega, by omega, by rw [ht]; exact hI.1⟩), fun x9 hx9 => (by cases hx9)⟩, hI.2.F ht⟩) hI.2.2.2 d_Mo_firstProperty_35)
      · omega
    · cases hv
      have hI : sI (dC, dI) vcl cI cJ (gsM a th tr dp zi co sh lt ts mf) A s.heap H1 locs1 := ⟨by rw [← ht]; exact hI1, hS⟩
      clear hpost hI1 hS ht hWt
      revert hI; generalize H1 = H; generalize locs1 = locs; intro hI
      refine lv_istore_n (lv' := [(2, .int z41), (0, .ref (a 0)), (1, .int x1)]) hx hb d_Mo_firstProperty_12 rfl hl (by decide) rfl (fun ls hl => ?_)
      refine lv_aload_n hx hb d_Mo_firstProperty_13 rfl (lv_at hl 1 rfl) ?_
      refine sv_gete (C := "StoryMachineModel") (T := T_Mo) (N := 51) hx hb hts in_Mo hown hK hI 0 kM_0 rfl 25 (by decide) (hts _ mw_1088) rfl d_Mo_firstProperty_14 (fun z48 hz48 => ?_)
      refine sn_if_ne (tgt := 34) hx hb d_Mo_firstProperty_17 (by decide) (fun b49 => ?_) (fun b49 => ?_)
      · omega
      · refine lv_iload_n hx hb d_Mo_firstProperty_20 rfl (lv_at hl 0 rfl) ?_
        refine sn_iconst hx hb d_Mo_firstProperty_21 (by decide) (fun z50 hz50 => ?_)
        refine sn_iadd hx hb d_Mo_firstProperty_22 (by omega) (by omega) (fun z51 hz51 => ?_)
        refine sn_iconst hx hb d_Mo_firstProperty_23 (by decide) (fun z52 hz52 => ?_)
        refine lv_aload_n hx hb d_Mo_firstProperty_24 rfl (lv_at hl 1 rfl) ?_
        refine lv_iload_n hx hb d_Mo_firstProperty_25 rfl (lv_at hl 0 rfl) ?_
        refine tz_call (A1 := ga (adM a) H.size) (tz_runV (C := "StoryMachineModel") (As := [.int z41]) (rest := [.int z52, .int z51]) ⟨hx, hb, hml, hown, hts⟩ (c_Mo_byteAt l hfl dC dI cI cJ a H.size th tr dp zi co sh lt ts mf z41 c42) (tx_cb (n := 1) hts rfl rfl ⟨Nat.le_of_ble_eq_true rfl, Nat.le_of_ble_eq_true rfl⟩ (tx_code.of (hts _ mw_1236)) (hts _ mw_12) (by decide +kernel) (hts _ mw_1233)) (hts _ mw_1235) (hts _ ms_Mo_byteAt) ⟨tz_blind, sv_recv (q0 := 0) hts in_Mo hK hI kM_0 rfl, fun U hU hW => ⟨rfl, by rw [hU], by rw [hU]; exact hI.1, va_K.moved hW.alike hK, hst _ _ hI.2 U hU hW⟩⟩ rfl rfl hl.1 rfl (lv_room (Nat.le_of_ble_eq_true rfl)) d_Mo_firstProperty_26 ⟨Nat.le_of_ble_eq_true rfl, Nat.le_of_ble_eq_true rfl⟩) hI.2 (fun q _ h => ga_sub hAC hA0 hI.2 q h) (ga_sub hAC hA0 hI.2) (fun v t H1 locs1 ht hWt hpost _ _ hS => ?_) (fun x t H1 locs1 ht hWt hpost _ _ hS => (hpost.2 x rfl).elim)
        rcases hpost.1 _ rfl with ⟨z53, t_tr54, hv, c55, c55_0, c55_1, c55_2, hI1⟩ | ⟨z56, hv, c57, c57_0, c57_1, c57_2, c57_3, c57_4, hI1⟩
        · cases hv
          have hI : sI (dC, dI) vcl cI cJ (gsM a th t_tr54 dp zi co sh lt ts mf) A s.heap H1 locs1 := ⟨by rw [← ht]; exact hI1, hS⟩
          obtain ⟨-, ⟨o58, o59⟩, -, -, -, -, -, -, -⟩ := id c55
          clear hpost hI1 hS ht hWt
          revert hI; generalize H1 = H; generalize locs1 = locs; intro hI
          refine sn_imulR (k := 0) hx hb d_Mo_firstProperty_29 (by omega) (by omega) (by omega) (fun z60 hz60 => ?_)
          refine sn_iadd hx hb d_Mo_firstProperty_30 (by omega) (by omega) (fun z61 hz61 => ?_)
          refine lv_goto (tgt := 35) hx hb d_Mo_firstProperty_31 (by decide) ?_
          subst hZ
          exact tz_ret (W.iret (v := z61) hx hb hr (fun t ht hW => ⟨⟨fun v9 hv9 => by cases hv9; exact (Or.inl ⟨z61, t_tr54, rfl, c55, by omega, by omega, by omega, by rw [ht]; exact hI.1⟩), fun x9 hx9 => (by cases hx9)⟩, hI.2.F ht⟩) hI.2.2.2 d_Mo_firstProperty_35)
        · cases hv
          have hI : sI (dC, dI) vcl cI cJ (gsM a th tr dp zi co sh lt ts mf) A s.heap H1 locs1 := ⟨by rw [← ht]; exact hI1, hS⟩
          clear hpost hI1 hS ht hWt
          revert hI; generalize H1 = H; generalize locs1 = locs; intro hI
          refine sn_imulL (k := 2) hx hb d_Mo_firstProperty_29 (by omega) (by omega) (by omega) (fun z62 hz62 => ?_)
          refine sn_iadd hx hb d_Mo_firstProperty_30 (by omega) (by omega) (fun z63 hz63 => ?_)
          refine lv_goto (tgt := 35) hx hb d_Mo_firstProperty_31 (by decide) ?_
          subst hZ
          exact tz_ret (W.iret (v := z63) hx hb hr (fun t ht hW => ⟨⟨fun v9 hv9 => by cases hv9; exact (Or.inr (⟨z63, rfl, c57, by omega, by omega, by omega, by omega, by omega, by rw [ht]; exact hI.1⟩)), fun x9 hx9 => (by cases hx9)⟩, hI.2.F ht⟩) hI.2.2.2 d_Mo_firstProperty_35)
abbrev q_Mo_sizeAt (dC : Nat → ClassId) (dI : Nat → Nat → Nat) (cI cJ : ClassId) (a : Nat → Nat) (th tr dp zi co sh lt ts : Int) (mf : Nat → Int32) (x1 : Int32) (x2 : Int32) : Outcome → State → Prop := fun o t => (∀ v, o = .returned v → ((∃ (z : Int32) (tr_ : Int), v = some (.int z) ∧ okM th tr_ dp zi co sh lt ts mf ∧ (0 ≤ z.toInt) ∧ (z.toInt ≤ 66046) ∧ (1 ≤ tr_) ∧ sh_I (dC, dI) vcl cI cJ (gsM a th tr_ dp zi co sh lt ts mf) t.heap) ∨ (∃ (z : Int32), v = some (.int z) ∧ okM th tr dp zi co sh lt ts mf ∧ (1 ≤ z.toInt) ∧ (z.toInt ≤ 511) ∧ (1 ≤ x1.toInt) ∧ (x1.toInt ≤ 20) ∧ (tr ≤ 0) ∧ sh_I (dC, dI) vcl cI cJ (gsM a th tr dp zi co sh lt ts mf) t.heap))) ∧ (∀ x, o = .threw x → (False))
def rm_Mo_sizeAt : Room := { frames := 5, cells := 0, slots := 0, locals := 109 }
set_option maxHeartbeats 4000000 in
set_option maxRecDepth 100000 in
theorem c_Mo_sizeAt (l : Launch) (hfl : l.flags = pinnedFlags ++ [noTraceFlag]) (dC : Nat → ClassId) (dI : Nat → Nat → Nat) (cI cJ : ClassId) (a : Nat → Nat) (sz : Nat) (th tr dp zi co sh lt ts : Int) (mf : Nat → Int32) (x1 : Int32) (x2 : Int32) (hok : okM th tr dp zi co sh lt ts mf) : tz_Met l ⟨"StoryMachineModel", "sizeAt", "(II)I"⟩ tw_tbl rm_Mo_sizeAt (tzP (dC, dI) vcl cI cJ (gsM a th tr dp zi co sh lt ts mf) a (adM a) [.ref (a 0), .int x1, .int x2] sz) (tq_Q (q_Mo_sizeAt dC dI cI cJ a th tr dp zi co sh lt ts mf x1 x2) (ga (adM a) sz)) 0 0 0 0 (ga (adM a) sz) := by
  refine tz_ofW (cc := prog_13_method_29_code) (maxL := 5) (ret := (some .int)) (by decide) (tx_isM mw_1373) ?_
  intro p e s m args below meth c s₁ B hml hv
  obtain ⟨rfl, hsz, hI0, hK, hst0⟩ := hv
  have hx := B.exec
  have hb := B.bytes
  have hr := B.returns
  have hts := atoms_spec (ws := tw_tbl) B.pre
  have hown : s.vm.findClass "StoryMachineModel" = some m.cls := findClass_of_methodNamed B.named
  have hlocks := B.notSynchronized
  subst hsz
  have hst := fun (H : Heap) (locs : List Loc) (hS : va_S (ga (adM a) s.heap.size) s.heap H locs) (U : State) (hU : U.heap = H) (hW : s.WarmedH U.vm) => zS_all adM_map hI0 hst0 hS hU hW
  have hAC : ∀ q ∈ adM a, ga (adM a) s.heap.size q := fun q h => Or.inl h
  have hA0 : ∀ q, s.heap.size ≤ q → ga (adM a) s.heap.size q := fun q h => Or.inr h
  have hI : sI (dC, dI) vcl cI cJ (gsM a th tr dp zi co sh lt ts mf) (ga (adM a) s.heap.size) s.heap s.heap [] := ⟨hI0, va_S.rf⟩
  clear hI0 hst0
  have hl := lv_entry ([.ref (a 0), .int x1, .int x2]) (n := 5) (Nat.le_of_ble_eq_true rfl)
  rw [lg_entry_eq]
  generalize (lg_sl ([.ref (a 0), .int x1, .int x2]) ++ List.replicate (5 - (lg_sl ([.ref (a 0), .int x1, .int x2])).length) Slot.unset).toArray = ls at hl ⊢
  have hl : lv_has ls 5 [(0, .ref (a 0)), (1, .int x1), (2, .int x2)] := hl
  generalize hZ : tz_MQ below (tq_Q (q_Mo_sizeAt dC dI cI cJ a th tr dp zi co sh lt ts mf x1 x2) (ga (adM a) s.heap.size)) ([.ref (a 0), .int x1, .int x2] : List Value).toArray s 0 0 0 0 (ga (adM a) s.heap.size) = Z
  obtain ⟨A, hAe⟩ : ∃ A, A = ga (adM a) s.heap.size := ⟨_, rfl⟩
  rw [← hAe] at hst hAC hA0 hI hZ
  refine sv_start hI (fun H locs hI => ?_)
  obtain ⟨⟨o1, o2⟩, ⟨o3, o4⟩, ⟨o5, o6⟩, ⟨o7, o8⟩, ⟨o9, o10⟩, ⟨o11, o12⟩, ⟨o13, o14⟩, ⟨o15, o16⟩, -⟩ := id hok
  have gx1 := sn_rng x1
  have gx2 := sn_rng x2
  have j6p : ∀ (H : Heap) (locs : List Loc) (ls : Array Slot) (v6p_3 : Int32) (t6p_tr : Int), sI (dC, dI) vcl cI cJ (gsM a th t6p_tr dp zi co sh lt ts mf) A s.heap H locs → okM th t6p_tr dp zi co sh lt ts mf → 0 ≤ v6p_3.toInt → v6p_3.toInt ≤ 65536 → 1 ≤ t6p_tr → t6p_tr ≤ 4 → lv_has ls 5 [(0, .ref (a 0)), (1, .int x1), (2, .int x2), (3, .int v6p_3)] → W p l e (headSpec tw_tbl rm_Mo_sizeAt).room s m ([.ref (a 0), .int x1, .int x2] : List Value).toArray below meth c H locs 0 0 Z (F0 m 6 ls []) := by
    intro H locs ls v6p_3 t6p_tr hI hok g6_0 g6_1 g6_2 g6_3 hl
    obtain ⟨⟨o17, o18⟩, ⟨o19, o20⟩, ⟨o21, o22⟩, ⟨o23, o24⟩, ⟨o25, o26⟩, ⟨o27, o28⟩, ⟨o29, o30⟩, ⟨o31, o32⟩, -⟩ := id hok
    refine lv_aload_n hx hb d_Mo_sizeAt_6 rfl (lv_at hl 0 rfl) ?_
    refine sv_gete (C := "StoryMachineModel") (T := T_Mo) (N := 51) hx hb hts in_Mo hown hK hI 0 kM_0 rfl 25 (by decide) (hts _ mw_1088) rfl d_Mo_sizeAt_7 (fun z33 hz33 => ?_)
    refine sn_if_ne (tgt := 49) hx hb d_Mo_sizeAt_10 (by decide) (fun b34 => ?_) (fun b34 => ?_)
    · refine sn_iconst hx hb d_Mo_sizeAt_49 (by decide) (fun z35 hz35 => ?_)
      subst hZ
      exact tz_ret (W.iret (v := z35) hx hb hr (fun t ht hW => ⟨⟨fun v9 hv9 => by cases hv9; exact (Or.inl ⟨z35, t6p_tr, rfl, hok, by omega, by omega, by omega, by rw [ht]; exact hI.1⟩), fun x9 hx9 => (by cases hx9)⟩, hI.2.F ht⟩) hI.2.2.2 d_Mo_sizeAt_50)
    · omega
  have j6z : ∀ (n : Nat) (H : Heap) (locs : List Loc) (ls : Array Slot) (v6z_3 : Int32), sI (dC, dI) vcl cI cJ (gsM a th tr dp zi co sh lt ts mf) A s.heap H locs → okM th tr dp zi co sh lt ts mf → 1 ≤ v6z_3.toInt → v6z_3.toInt ≤ 66046 → tr ≤ 0 → 1 ≤ x1.toInt → x1.toInt ≤ 20 → lv_has ls 5 [(0, .ref (a 0)), (1, .int x1), (2, .int x2), (3, .int v6z_3)] → 70000 - v6z_3.toInt < (n : Int) → W p l e (headSpec tw_tbl rm_Mo_sizeAt).room s m ([.ref (a 0), .int x1, .int x2] : List Value).toArray below meth c H locs 0 0 Z (F0 m 6 ls []) := by
    intro n
    induction n with
    | zero => intro H locs ls v6z_3 hI hok g6_0 g6_1 g6_2 g6_3 g6_4 hl hme; exfalso; obtain ⟨⟨o36, o37⟩, ⟨o38, o39⟩, ⟨o40, o41⟩, ⟨o42, o43⟩, ⟨o44, o45⟩, ⟨o46, o47⟩, ⟨o48, o49⟩, ⟨o50, o51⟩, -⟩ := id hok; omega
    | succ n ih =>
      intro H locs ls v6z_3 hI hok g6_0 g6_1 g6_2 g6_3 g6_4 hl hme
      obtain ⟨⟨o52, o53⟩, ⟨o54, o55⟩, ⟨o56, o57⟩, ⟨o58, o59⟩, ⟨o60, o61⟩, ⟨o62, o63⟩, ⟨o64, o65⟩, ⟨o66, o67⟩, -⟩ := id hok
      refine lv_aload_n hx hb d_Mo_sizeAt_6 rfl (lv_at hl 0 rfl) ?_
      refine sv_gete (C := "StoryMachineModel") (T := T_Mo) (N := 51) hx hb hts in_Mo hown hK hI 0 kM_0 rfl 25 (by decide) (hts _ mw_1088) rfl d_Mo_sizeAt_7 (fun z68 hz68 => ?_)
      refine sn_if_ne (tgt := 49) hx hb d_Mo_sizeAt_10 (by decide) (fun b69 => ?_) (fun b69 => ?_)
      · omega
      · refine lv_aload_n hx hb d_Mo_sizeAt_13 rfl (lv_at hl 0 rfl) ?_
        refine lv_iload_n hx hb d_Mo_sizeAt_14 rfl (lv_at hl 3 rfl) ?_
        refine tz_call (A1 := ga (adM a) H.size) (tz_runV (C := "StoryMachineModel") (As := [.int v6z_3]) (rest := []) ⟨hx, hb, hml, hown, hts⟩ (c_Mo_byteAt l hfl dC dI cI cJ a H.size th tr dp zi co sh lt ts mf v6z_3 hok) (tx_cb (n := 1) hts rfl rfl ⟨Nat.le_of_ble_eq_true rfl, Nat.le_of_ble_eq_true rfl⟩ (tx_code.of (hts _ mw_1236)) (hts _ mw_12) (by decide +kernel) (hts _ mw_1233)) (hts _ mw_1235) (hts _ ms_Mo_byteAt) ⟨tz_blind, sv_recv (q0 := 0) hts in_Mo hK hI kM_0 rfl, fun U hU hW => ⟨rfl, by rw [hU], by rw [hU]; exact hI.1, va_K.moved hW.alike hK, hst _ _ hI.2 U hU hW⟩⟩ rfl rfl hl.1 rfl (lv_room (Nat.le_of_ble_eq_true rfl)) d_Mo_sizeAt_15 ⟨Nat.le_of_ble_eq_true rfl, Nat.le_of_ble_eq_true rfl⟩) hI.2 (fun q _ h => ga_sub hAC hA0 hI.2 q h) (ga_sub hAC hA0 hI.2) (fun v t H1 locs1 ht hWt hpost _ _ hS => ?_) (fun x t H1 locs1 ht hWt hpost _ _ hS => (hpost.2 x rfl).elim)
        rcases hpost.1 _ rfl with ⟨z70, t_tr71, hv, c72, c72_0, c72_1, c72_2, hI1⟩ | ⟨z73, hv, c74, c74_0, c74_1, c74_2, c74_3, c74_4, hI1⟩
        · cases hv
          have hI : sI (dC, dI) vcl cI cJ (gsM a th t_tr71 dp zi co sh lt ts mf) A s.heap H1 locs1 := ⟨by rw [← ht]; exact hI1, hS⟩
          obtain ⟨-, ⟨o75, o76⟩, -, -, -, -, -, -, -⟩ := id c72
          clear hpost hI1 hS ht hWt
          revert hI; generalize H1 = H; generalize locs1 = locs; intro hI
          refine lv_istore (lv' := [(4, .int z70), (0, .ref (a 0)), (1, .int x1), (2, .int x2), (3, .int v6z_3)]) hx hb d_Mo_sizeAt_18 hl (by decide) rfl (fun ls hl => ?_)
          refine lv_iload hx hb d_Mo_sizeAt_20 (lv_at hl 0 rfl) ?_
          refine sn_if_eq (tgt := 34) hx hb d_Mo_sizeAt_22 (by decide) (fun b77 => ?_) (fun b77 => ?_)
          · refine lv_iload_n hx hb d_Mo_sizeAt_34 rfl (lv_at hl 4 rfl) ?_
            subst hZ
            exact tz_ret (W.iret (v := v6z_3) hx hb hr (fun t ht hW => ⟨⟨fun v9 hv9 => by cases hv9; exact (Or.inl ⟨v6z_3, t_tr71, rfl, c72, by omega, by omega, by omega, by rw [ht]; exact hI.1⟩), fun x9 hx9 => (by cases hx9)⟩, hI.2.F ht⟩) hI.2.2.2 d_Mo_sizeAt_35)
          · omega
        · cases hv
          have hI : sI (dC, dI) vcl cI cJ (gsM a th tr dp zi co sh lt ts mf) A s.heap H1 locs1 := ⟨by rw [← ht]; exact hI1, hS⟩
          clear hpost hI1 hS ht hWt
          revert hI; generalize H1 = H; generalize locs1 = locs; intro hI
          refine lv_istore (lv' := [(4, .int z73), (0, .ref (a 0)), (1, .int x1), (2, .int x2), (3, .int v6z_3)]) hx hb d_Mo_sizeAt_18 hl (by decide) rfl (fun ls hl => ?_)
          refine lv_iload hx hb d_Mo_sizeAt_20 (lv_at hl 0 rfl) ?_
          refine sn_if_eq (tgt := 34) hx hb d_Mo_sizeAt_22 (by decide) (fun b78 => ?_) (fun b78 => ?_)
          · refine lv_iload_n hx hb d_Mo_sizeAt_34 rfl (lv_at hl 4 rfl) ?_
            subst hZ
            exact tz_ret (W.iret (v := v6z_3) hx hb hr (fun t ht hW => ⟨⟨fun v9 hv9 => by cases hv9; exact (Or.inr (⟨v6z_3, rfl, c74, by omega, by omega, by omega, by omega, by omega, by rw [ht]; exact hI.1⟩)), fun x9 hx9 => (by cases hx9)⟩, hI.2.F ht⟩) hI.2.2.2 d_Mo_sizeAt_35)
          · refine lv_iload hx hb d_Mo_sizeAt_25 (lv_at hl 0 rfl) ?_
            refine sn_bipush hx hb d_Mo_sizeAt_27 (by decide) (fun z79 hz79 => ?_)
            refine sn_irem (k := 32) hx hb d_Mo_sizeAt_29 (by omega) (by omega) (by omega) (fun z80 hz80 => ?_)
            refine lv_iload_n hx hb d_Mo_sizeAt_30 rfl (lv_at hl 3 rfl) ?_
            refine sn_icmp_ne (tgt := 36) hx hb d_Mo_sizeAt_31 (by decide) (fun b81 => ?_) (fun b81 => ?_)
            · refine lv_iload_n hx hb d_Mo_sizeAt_36 rfl (lv_at hl 4 rfl) ?_
              refine sn_iconst hx hb d_Mo_sizeAt_37 (by decide) (fun z82 hz82 => ?_)
              refine sn_iadd hx hb d_Mo_sizeAt_38 (by omega) (by omega) (fun z83 hz83 => ?_)
              refine lv_iload hx hb d_Mo_sizeAt_39 (lv_at hl 0 rfl) ?_
              refine sn_bipush hx hb d_Mo_sizeAt_41 (by decide) (fun z84 hz84 => ?_)
              refine sn_idiv (k := 32) hx hb d_Mo_sizeAt_43 (by omega) (by omega) (by omega) (fun z85 hz85 => ?_)
              refine sn_iadd hx hb d_Mo_sizeAt_44 (by omega) (by omega) (fun z86 hz86 => ?_)
              refine lv_istore_n (lv' := [(3, .int z86), (4, .int z73), (0, .ref (a 0)), (1, .int x1), (2, .int x2)]) hx hb d_Mo_sizeAt_45 rfl hl (by decide) rfl (fun ls hl => ?_)
              refine lv_goto (tgt := 6) hx hb d_Mo_sizeAt_46 (by decide) ?_
              exact ih _ _ _ z86 hI c74 (by omega) (by omega) (by omega) (by omega) (by omega) (lv_sub hl [2, 3, 4, 0] rfl) (by omega)
            · refine lv_iload_n hx hb d_Mo_sizeAt_34 rfl (lv_at hl 4 rfl) ?_
              subst hZ
              exact tz_ret (W.iret (v := v6z_3) hx hb hr (fun t ht hW => ⟨⟨fun v9 hv9 => by cases hv9; exact (Or.inr (⟨v6z_3, rfl, c74, by omega, by omega, by omega, by omega, by omega, by rw [ht]; exact hI.1⟩)), fun x9 hx9 => (by cases hx9)⟩, hI.2.F ht⟩) hI.2.2.2 d_Mo_sizeAt_35)
  refine lv_aload_n hx hb d_Mo_sizeAt_0 rfl (lv_at hl 0 rfl) ?_
  refine lv_iload_n hx hb d_Mo_sizeAt_1 rfl (lv_at hl 1 rfl) ?_
  refine tz_call (A1 := ga (adM a) H.size) (tz_runV (C := "StoryMachineModel") (As := [.int x1]) (rest := []) ⟨hx, hb, hml, hown, hts⟩ (c_Mo_firstProperty l hfl dC dI cI cJ a H.size th tr dp zi co sh lt ts mf x1 hok) (tx_cb (n := 1) hts rfl rfl ⟨Nat.le_of_ble_eq_true rfl, Nat.le_of_ble_eq_true rfl⟩ (tx_code.of (hts _ mw_1377)) (hts _ mw_12) (by decide +kernel) (hts _ mw_1374)) (hts _ mw_1376) (hts _ ms_Mo_firstProperty) ⟨tz_blind, sv_recv (q0 := 0) hts in_Mo hK hI kM_0 rfl, fun U hU hW => ⟨rfl, by rw [hU], by rw [hU]; exact hI.1, va_K.moved hW.alike hK, hst _ _ hI.2 U hU hW⟩⟩ rfl rfl hl.1 rfl (lv_room (Nat.le_of_ble_eq_true rfl)) d_Mo_sizeAt_2 ⟨Nat.le_of_ble_eq_true rfl, Nat.le_of_ble_eq_true rfl⟩) hI.2 (fun q _ h => ga_sub hAC hA0 hI.2 q h) (ga_sub hAC hA0 hI.2) (fun v t H1 locs1 ht hWt hpost _ _ hS => ?_) (fun x t H1 locs1 ht hWt hpost _ _ hS => (hpost.2 x rfl).elim)
  rcases hpost.1 _ rfl with ⟨z87, t_tr88, hv, c89, c89_0, c89_1, c89_2, hI1⟩ | ⟨z90, hv, c91, c91_0, c91_1, c91_2, c91_3, c91_4, hI1⟩
  · cases hv
    have hI : sI (dC, dI) vcl cI cJ (gsM a th t_tr88 dp zi co sh lt ts mf) A s.heap H1 locs1 := ⟨by rw [← ht]; exact hI1, hS⟩
    obtain ⟨-, ⟨o92, o93⟩, -, -, -, -, -, -, -⟩ := id c89
    clear hpost hI1 hS ht hWt
    revert hI; generalize H1 = H; generalize locs1 = locs; intro hI
    refine lv_istore_n (lv' := [(3, .int z87), (0, .ref (a 0)), (1, .int x1), (2, .int x2)]) hx hb d_Mo_sizeAt_5 rfl hl (by decide) rfl (fun ls hl => ?_)
    exact j6p _ _ _ z87 t_tr88 hI c89 (by omega) (by omega) (by omega) (by omega) (lv_sub hl [1, 2, 3, 0] rfl)
  · cases hv
    have hI : sI (dC, dI) vcl cI cJ (gsM a th tr dp zi co sh lt ts mf) A s.heap H1 locs1 := ⟨by rw [← ht]; exact hI1, hS⟩
    clear hpost hI1 hS ht hWt
    revert hI; generalize H1 = H; generalize locs1 = locs; intro hI
    refine lv_istore_n (lv' := [(3, .int z90), (0, .ref (a 0)), (1, .int x1), (2, .int x2)]) hx hb d_Mo_sizeAt_5 rfl hl (by decide) rfl (fun ls hl => ?_)
    exact j6z 70001 _ _ _ z90 hI c91 (by omega) (by omega) (by omega) (by omega) (by omega) (lv_sub hl [1, 2, 3, 0] rfl) (by omega)
abbrev q_Mo_bytesOf (dC : Nat → ClassId) (dI : Nat → Nat → Nat) (cI cJ : ClassId) (a : Nat → Nat) (th tr dp zi co sh lt ts : Int) (mf : Nat → Int32) (x1 : Int32) (x2 : Int32) : Outcome → State → Prop := fun o t => (∀ v, o = .returned v → ((∃ (z : Int32) (tr_ : Int), v = some (.int z) ∧ okM th tr_ dp zi co sh lt ts mf ∧ (0 ≤ z.toInt) ∧ (z.toInt ≤ 0) ∧ (1 ≤ tr_) ∧ sh_I (dC, dI) vcl cI cJ (gsM a th tr_ dp zi co sh lt ts mf) t.heap) ∨ (∃ (z : Int32), v = some (.int z) ∧ okM th tr dp zi co sh lt ts mf ∧ (0 ≤ z.toInt) ∧ (z.toInt ≤ 512) ∧ (1 ≤ x1.toInt) ∧ (x1.toInt ≤ 20) ∧ (tr ≤ 0) ∧ sh_I (dC, dI) vcl cI cJ (gsM a th tr dp zi co sh lt ts mf) t.heap))) ∧ (∀ x, o = .threw x → (False))
def rm_Mo_bytesOf : Room := { frames := 6, cells := 0, slots := 0, locals := 133 }
set_option maxHeartbeats 4000000 in
set_option maxRecDepth 100000 in
theorem c_Mo_bytesOf (l : Launch) (hfl : l.flags = pinnedFlags ++ [noTraceFlag]) (dC : Nat → ClassId) (dI : Nat → Nat → Nat) (cI cJ : ClassId) (a : Nat → Nat) (sz : Nat) (th tr dp zi co sh lt ts : Int) (mf : Nat → Int32) (x1 : Int32) (x2 : Int32) (hok : okM th tr dp zi co sh lt ts mf) : tz_Met l ⟨"StoryMachineModel", "bytesOf", "(II)I"⟩ tw_tbl rm_Mo_bytesOf (tzP (dC, dI) vcl cI cJ (gsM a th tr dp zi co sh lt ts mf) a (adM a) [.ref (a 0), .int x1, .int x2] sz) (tq_Q (q_Mo_bytesOf dC dI cI cJ a th tr dp zi co sh lt ts mf x1 x2) (ga (adM a) sz)) 0 0 0 0 (ga (adM a) sz) := by
  refine tz_ofW (cc := prog_13_method_30_code) (maxL := 4) (ret := (some .int)) (by decide) (tx_isM mw_1369) ?_
  intro p e s m args below meth c s₁ B hml hv
  obtain ⟨rfl, hsz, hI0, hK, hst0⟩ := hv
  have hx := B.exec
  have hb := B.bytes
  have hr := B.returns
  have hts := atoms_spec (ws := tw_tbl) B.pre
  have hown : s.vm.findClass "StoryMachineModel" = some m.cls := findClass_of_methodNamed B.named
  have hlocks := B.notSynchronized
  subst hsz
  have hst := fun (H : Heap) (locs : List Loc) (hS : va_S (ga (adM a) s.heap.size) s.heap H locs) (U : State) (hU : U.heap = H) (hW : s.WarmedH U.vm) => zS_all adM_map hI0 hst0 hS hU hW
  have hAC : ∀ q ∈ adM a, ga (adM a) s.heap.size q := fun q h => Or.inl h
  have hA0 : ∀ q, s.heap.size ≤ q → ga (adM a) s.heap.size q := fun q h => Or.inr h
  have hI : sI (dC, dI) vcl cI cJ (gsM a th tr dp zi co sh lt ts mf) (ga (adM a) s.heap.size) s.heap s.heap [] := ⟨hI0, va_S.rf⟩
  clear hI0 hst0
  have hl := lv_entry ([.ref (a 0), .int x1, .int x2]) (n := 4) (Nat.le_of_ble_eq_true rfl)
  rw [lg_entry_eq]
  generalize (lg_sl ([.ref (a 0), .int x1, .int x2]) ++ List.replicate (4 - (lg_sl ([.ref (a 0), .int x1, .int x2])).length) Slot.unset).toArray = ls at hl ⊢
  have hl : lv_has ls 4 [(0, .ref (a 0)), (1, .int x1), (2, .int x2)] := hl
  generalize hZ : tz_MQ below (tq_Q (q_Mo_bytesOf dC dI cI cJ a th tr dp zi co sh lt ts mf x1 x2) (ga (adM a) s.heap.size)) ([.ref (a 0), .int x1, .int x2] : List Value).toArray s 0 0 0 0 (ga (adM a) s.heap.size) = Z
  obtain ⟨A, hAe⟩ : ∃ A, A = ga (adM a) s.heap.size := ⟨_, rfl⟩
  rw [← hAe] at hst hAC hA0 hI hZ
  refine sv_start hI (fun H locs hI => ?_)
  obtain ⟨⟨o1, o2⟩, ⟨o3, o4⟩, ⟨o5, o6⟩, ⟨o7, o8⟩, ⟨o9, o10⟩, ⟨o11, o12⟩, ⟨o13, o14⟩, ⟨o15, o16⟩, -⟩ := id hok
  have gx1 := sn_rng x1
  have gx2 := sn_rng x2
  have j23p : ∀ (H : Heap) (locs : List Loc) (ls : Array Slot) (v23p_3 : Int32) (t23p_tr : Int), sI (dC, dI) vcl cI cJ (gsM a th t23p_tr dp zi co sh lt ts mf) A s.heap H locs → okM th t23p_tr dp zi co sh lt ts mf → 0 ≤ v23p_3.toInt → v23p_3.toInt ≤ 66046 → 1 ≤ t23p_tr → t23p_tr ≤ 4 → lv_has ls 4 [(0, .ref (a 0)), (1, .int x1), (2, .int x2), (3, .int v23p_3)] → W p l e (headSpec tw_tbl rm_Mo_bytesOf).room s m ([.ref (a 0), .int x1, .int x2] : List Value).toArray below meth c H locs 0 0 Z (F0 m 23 ls []) := by
    intro H locs ls v23p_3 t23p_tr hI hok g23_0 g23_1 g23_2 g23_3 hl
    obtain ⟨⟨o17, o18⟩, ⟨o19, o20⟩, ⟨o21, o22⟩, ⟨o23, o24⟩, ⟨o25, o26⟩, ⟨o27, o28⟩, ⟨o29, o30⟩, ⟨o31, o32⟩, -⟩ := id hok
    refine sn_iconst hx hb d_Mo_bytesOf_23 (by decide) (fun z33 hz33 => ?_)
    refine lv_goto (tgt := 30) hx hb d_Mo_bytesOf_24 (by decide) ?_
    subst hZ
    exact tz_ret (W.iret (v := z33) hx hb hr (fun t ht hW => ⟨⟨fun v9 hv9 => by cases hv9; exact (Or.inl ⟨z33, t23p_tr, rfl, hok, by omega, by omega, by omega, by rw [ht]; exact hI.1⟩), fun x9 hx9 => (by cases hx9)⟩, hI.2.F ht⟩) hI.2.2.2 d_Mo_bytesOf_30)
  have j23z : ∀ (H : Heap) (locs : List Loc) (ls : Array Slot) (v23z_3 : Int32), sI (dC, dI) vcl cI cJ (gsM a th tr dp zi co sh lt ts mf) A s.heap H locs → okM th tr dp zi co sh lt ts mf → 1 ≤ v23z_3.toInt → v23z_3.toInt ≤ 511 → tr ≤ 0 → 1 ≤ x1.toInt → x1.toInt ≤ 20 → lv_has ls 4 [(0, .ref (a 0)), (1, .int x1), (2, .int x2), (3, .int v23z_3)] → W p l e (headSpec tw_tbl rm_Mo_bytesOf).room s m ([.ref (a 0), .int x1, .int x2] : List Value).toArray below meth c H locs 0 0 Z (F0 m 23 ls []) := by
    intro H locs ls v23z_3 hI hok g23_0 g23_1 g23_2 g23_3 g23_4 hl
    obtain ⟨⟨o34, o35⟩, ⟨o36, o37⟩, ⟨o38, o39⟩, ⟨o40, o41⟩, ⟨o42, o43⟩, ⟨o44, o45⟩, ⟨o46, o47⟩, ⟨o48, o49⟩, -⟩ := id hok
    refine sn_iconst hx hb d_Mo_bytesOf_23 (by decide) (fun z50 hz50 => ?_)
    refine lv_goto (tgt := 30) hx hb d_Mo_bytesOf_24 (by decide) ?_
    subst hZ
    exact tz_ret (W.iret (v := z50) hx hb hr (fun t ht hW => ⟨⟨fun v9 hv9 => by cases hv9; exact (Or.inr (⟨z50, rfl, hok, by omega, by omega, by omega, by omega, by omega, by rw [ht]; exact hI.1⟩)), fun x9 hx9 => (by cases hx9)⟩, hI.2.F ht⟩) hI.2.2.2 d_Mo_bytesOf_30)
  refine lv_aload_n hx hb d_Mo_bytesOf_0 rfl (lv_at hl 0 rfl) ?_
  refine lv_iload_n hx hb d_Mo_bytesOf_1 rfl (lv_at hl 1 rfl) ?_
  refine lv_iload_n hx hb d_Mo_bytesOf_2 rfl (lv_at hl 2 rfl) ?_
  refine tz_call (A1 := ga (adM a) H.size) (tz_runV (C := "StoryMachineModel") (As := [.int x1, .int x2]) (rest := []) ⟨hx, hb, hml, hown, hts⟩ (c_Mo_sizeAt l hfl dC dI cI cJ a H.size th tr dp zi co sh lt ts mf x1 x2 hok) (tx_cb (n := 2) hts rfl rfl ⟨Nat.le_of_ble_eq_true rfl, Nat.le_of_ble_eq_true rfl⟩ (tx_code.of (hts _ mw_1373)) (hts _ mw_12) (by decide +kernel) (hts _ mw_1370)) (hts _ mw_1372) (hts _ ms_Mo_sizeAt) ⟨tz_blind, sv_recv (q0 := 0) hts in_Mo hK hI kM_0 rfl, fun U hU hW => ⟨rfl, by rw [hU], by rw [hU]; exact hI.1, va_K.moved hW.alike hK, hst _ _ hI.2 U hU hW⟩⟩ rfl rfl hl.1 rfl (lv_room (Nat.le_of_ble_eq_true rfl)) d_Mo_bytesOf_3 ⟨Nat.le_of_ble_eq_true rfl, Nat.le_of_ble_eq_true rfl⟩) hI.2 (fun q _ h => ga_sub hAC hA0 hI.2 q h) (ga_sub hAC hA0 hI.2) (fun v t H1 locs1 ht hWt hpost _ _ hS => ?_) (fun x t H1 locs1 ht hWt hpost _ _ hS => (hpost.2 x rfl).elim)
  rcases hpost.1 _ rfl with ⟨z51, t_tr52, hv, c53, c53_0, c53_1, c53_2, hI1⟩ | ⟨z54, hv, c55, c55_0, c55_1, c55_2, c55_3, c55_4, hI1⟩
  · cases hv
    have hI : sI (dC, dI) vcl cI cJ (gsM a th t_tr52 dp zi co sh lt ts mf) A s.heap H1 locs1 := ⟨by rw [← ht]; exact hI1, hS⟩
    obtain ⟨-, ⟨o56, o57⟩, -, -, -, -, -, -, -⟩ := id c53
    clear hpost hI1 hS ht hWt
    revert hI; generalize H1 = H; generalize locs1 = locs; intro hI
    refine lv_istore_n (lv' := [(3, .int z51), (0, .ref (a 0)), (1, .int x1), (2, .int x2)]) hx hb d_Mo_bytesOf_6 rfl hl (by decide) rfl (fun ls hl => ?_)
    refine lv_aload_n hx hb d_Mo_bytesOf_7 rfl (lv_at hl 1 rfl) ?_
    refine sv_gete (C := "StoryMachineModel") (T := T_Mo) (N := 51) hx hb hts in_Mo hown hK hI 0 kM_0 rfl 25 (by decide) (hts _ mw_1088) rfl d_Mo_bytesOf_8 (fun z58 hz58 => ?_)
    refine sn_if_gt (tgt := 23) hx hb d_Mo_bytesOf_11 (by decide) (fun b59 => ?_) (fun b59 => ?_)
    · exact j23p _ _ _ z51 t_tr52 hI c53 (by omega) (by omega) (by omega) (by omega) (lv_sub hl [1, 2, 3, 0] rfl)
    · omega
  · cases hv
    have hI : sI (dC, dI) vcl cI cJ (gsM a th tr dp zi co sh lt ts mf) A s.heap H1 locs1 := ⟨by rw [← ht]; exact hI1, hS⟩
    clear hpost hI1 hS ht hWt
    revert hI; generalize H1 = H; generalize locs1 = locs; intro hI
    refine lv_istore_n (lv' := [(3, .int z54), (0, .ref (a 0)), (1, .int x1), (2, .int x2)]) hx hb d_Mo_bytesOf_6 rfl hl (by decide) rfl (fun ls hl => ?_)
    refine lv_aload_n hx hb d_Mo_bytesOf_7 rfl (lv_at hl 1 rfl) ?_
    refine sv_gete (C := "StoryMachineModel") (T := T_Mo) (N := 51) hx hb hts in_Mo hown hK hI 0 kM_0 rfl 25 (by decide) (hts _ mw_1088) rfl d_Mo_bytesOf_8 (fun z60 hz60 => ?_)
    refine sn_if_gt (tgt := 23) hx hb d_Mo_bytesOf_11 (by decide) (fun b61 => ?_) (fun b61 => ?_)
    · omega
    · refine lv_aload_n hx hb d_Mo_bytesOf_14 rfl (lv_at hl 1 rfl) ?_
      refine sv_getr (C := "StoryMachineModel") (T := T_Mo) (N := 51) hx hb hts in_Mo hown hK hI 0 kM_0 rfl 1 (by decide) (hts _ mw_1064) rfl d_Mo_bytesOf_15 ?_
      refine lv_iload_n hx hb d_Mo_bytesOf_18 rfl (lv_at hl 0 rfl) ?_
      refine sv_ialde hx hb hK hI 1 kM_1 (by omega) (by omega) d_Mo_bytesOf_19 (fun z62 hz62 => ?_)
      have hz62r := c55.2.2.2.2.2.2.2.2 (z54.toNatClampNeg)
      rw [← hz62] at hz62r
      have hz62x : z62.toInt = (mf z54.toInt.toNat).toInt := by rw [hz62]; rfl
      refine sn_if_ne (tgt := 27) hx hb d_Mo_bytesOf_20 (by decide) (fun b63 => ?_) (fun b63 => ?_)
      · refine lv_iload_n hx hb d_Mo_bytesOf_27 rfl (lv_at hl 0 rfl) ?_
        refine sn_iconst hx hb d_Mo_bytesOf_28 (by decide) (fun z64 hz64 => ?_)
        refine sn_iadd hx hb d_Mo_bytesOf_29 (by omega) (by omega) (fun z65 hz65 => ?_)
        subst hZ
        exact tz_ret (W.iret (v := z65) hx hb hr (fun t ht hW => ⟨⟨fun v9 hv9 => by cases hv9; exact (Or.inr (⟨z65, rfl, c55, by omega, by omega, by omega, by omega, by omega, by rw [ht]; exact hI.1⟩)), fun x9 hx9 => (by cases hx9)⟩, hI.2.F ht⟩) hI.2.2.2 d_Mo_bytesOf_30)
      · exact j23z _ _ _ z54 hI c55 (by omega) (by omega) (by omega) (by omega) (by omega) (lv_sub hl [1, 2, 3, 0] rfl)
