abbrev q_Mo_has (dC : Nat → ClassId) (dI : Nat → Nat → Nat) (cI cJ : ClassId) (a : Nat → Nat) (th tr dp zi co sh lt ts : Int) (mf : Nat → Int32) (x1 : Int32) (x2 : Int32) : Outcome → State → Prop := fun o t => (∀ v, o = .returned v → ((∃ (z : Int32) (tr_ : Int), v = some (.int z) ∧ okM th tr_ dp zi co sh lt ts mf ∧ (0 ≤ z.toInt) ∧ (z.toInt ≤ 0) ∧ (1 ≤ tr_) ∧ sh_I (dC, dI) vcl cI cJ (gsM a th tr_ dp zi co sh lt ts mf) t.heap) ∨ (∃ (z : Int32) (tr_ : Int), v = some (.int z) ∧ okM th tr_ dp zi co sh lt ts mf ∧ (1 ≤ z.toInt) ∧ (z.toInt ≤ 1) ∧ (1 ≤ x1.toInt) ∧ (x1.toInt ≤ 20) ∧ (x2.toInt ≤ 31) ∧ (tr ≤ 0) ∧ (1 ≤ tr_) ∧ sh_I (dC, dI) vcl cI cJ (gsM a th tr_ dp zi co sh lt ts mf) t.heap) ∨ (∃ (z : Int32), v = some (.int z) ∧ okM th tr dp zi co sh lt ts mf ∧ (0 ≤ z.toInt) ∧ (z.toInt ≤ 0) ∧ (1 ≤ x1.toInt) ∧ (x1.toInt ≤ 20) ∧ (x2.toInt ≤ 31) ∧ (tr ≤ 0) ∧ (256 * (mf 8).toInt + (mf 9).toInt + 14 + 9 * (x1.toInt - 1) + x2.toInt / 8 ≤ 511) ∧ sh_I (dC, dI) vcl cI cJ (gsM a th tr dp zi co sh lt ts mf) t.heap) ∨ (∃ (z : Int32), v = some (.int z) ∧ okM th tr dp zi co sh lt ts mf ∧ (1 ≤ z.toInt) ∧ (z.toInt ≤ 1) ∧ (1 ≤ x1.toInt) ∧ (x1.toInt ≤ 20) ∧ (x2.toInt ≤ 31) ∧ (tr ≤ 0) ∧ (256 * (mf 8).toInt + (mf 9).toInt + 14 + 9 * (x1.toInt - 1) + x2.toInt / 8 ≤ 511) ∧ sh_I (dC, dI) vcl cI cJ (gsM a th tr dp zi co sh lt ts mf) t.heap))) ∧ (∀ x, o = .threw x → (False))
def rm_Mo_has : Room := { frames := 4, cells := 0, slots := 0, locals := 87 }
set_option maxHeartbeats 4000000 in
set_option maxRecDepth 100000 in
theorem c_Mo_has (l : Launch) (hfl : l.flags = pinnedFlags ++ [noTraceFlag]) (dC : Nat → ClassId) (dI : Nat → Nat → Nat) (cI cJ : ClassId) (a : Nat → Nat) (sz : Nat) (th tr dp zi co sh lt ts : Int) (mf : Nat → Int32) (x1 : Int32) (x2 : Int32) (hok : okM th tr dp zi co sh lt ts mf) (hp0 : 0 ≤ x1.toInt) (hp1 : x1.toInt ≤ 65535) (hp2 : 0 ≤ x2.toInt) (hp3 : x2.toInt ≤ 65535) : tz_Met l ⟨"StoryMachineModel", "has", "(II)Z"⟩ tw_tbl rm_Mo_has (tzP (dC, dI) vcl cI cJ (gsM a th tr dp zi co sh lt ts mf) a (adM a) [.ref (a 0), .int x1, .int x2] sz) (tq_Q (q_Mo_has dC dI cI cJ a th tr dp zi co sh lt ts mf x1 x2) (ga (adM a) sz)) 0 0 0 0 (ga (adM a) sz) := by
  refine tz_ofW (cc := prog_13_method_24_code) (maxL := 4) (ret := (some .boolean)) (by decide) (tx_isM mw_1337) ?_
  intro p e s m args below meth c s₁ B hml hv
  obtain ⟨rfl, hsz, hI0, hK, hst0⟩ := hv
  have hx := B.exec
  have hb := B.bytes
  have hr := B.returns
  have hts := atoms_spec (ws := tw_tbl) B.pre
  have hown : s.vm.findClass "StoryMachineModel" = some m.cls := findClass_of_methodNamed B.named
  have hlocks := B.notSynchronized
  subst hsz
  have hst := fun (H : Heap) (locs : List Loc) (hS : va_S (ga (adM a) s.heap.size) s.heap H locs) (U : State) (hU : U.heap = H) (hW : s.WarmedH U.vm) => zS_all adM_map hI0 hst0 hS hU hW
  have hAC : ∀ q ∈ adM a, ga (adM a) s.heap.size q := fun q h => Or.inl h
  have hA0 : ∀ q, s.heap.size ≤ q → ga (adM a) s.heap.size q := fun q h => Or.inr h
  have hI : sI (dC, dI) vcl cI cJ (gsM a th tr dp zi co sh lt ts mf) (ga (adM a) s.heap.size) s.heap s.heap [] := ⟨hI0, va_S.rf⟩
  clear hI0 hst0
  have hl := lv_entry ([.ref (a 0), .int x1, .int x2]) (n := 4) (Nat.le_of_ble_eq_true rfl)
  rw [lg_entry_eq]
  generalize (lg_sl ([.ref (a 0), .int x1, .int x2]) ++ List.replicate (4 - (lg_sl ([.ref (a 0), .int x1, .int x2])).length) Slot.unset).toArray = ls at hl ⊢
  have hl : lv_has ls 4 [(0, .ref (a 0)), (1, .int x1), (2, .int x2)] := hl
  generalize hZ : tz_MQ below (tq_Q (q_Mo_has dC dI cI cJ a th tr dp zi co sh lt ts mf x1 x2) (ga (adM a) s.heap.size)) ([.ref (a 0), .int x1, .int x2] : List Value).toArray s 0 0 0 0 (ga (adM a) s.heap.size) = Z
  obtain ⟨A, hAe⟩ : ∃ A, A = ga (adM a) s.heap.size := ⟨_, rfl⟩
  rw [← hAe] at hst hAC hA0 hI hZ
  refine sv_start hI (fun H locs hI => ?_)
  obtain ⟨⟨o1, o2⟩, ⟨o3, o4⟩, ⟨o5, o6⟩, ⟨o7, o8⟩, ⟨o9, o10⟩, ⟨o11, o12⟩, ⟨o13, o14⟩, ⟨o15, o16⟩, -⟩ := id hok
  have gx1 := sn_rng x1
  have gx2 := sn_rng x2
  refine lv_aload_n hx hb d_Mo_has_0 rfl (lv_at hl 0 rfl) ?_
  refine lv_iload_n hx hb d_Mo_has_1 rfl (lv_at hl 1 rfl) ?_
  refine tz_call (A1 := ga (adM a) H.size) (tz_runV (C := "StoryMachineModel") (As := [.int x1]) (rest := []) ⟨hx, hb, hml, hown, hts⟩ (c_Mo_objectAt l hfl dC dI cI cJ a H.size th tr dp zi co sh lt ts mf x1 hok) (tx_cb (n := 1) hts rfl rfl ⟨Nat.le_of_ble_eq_true rfl, Nat.le_of_ble_eq_true rfl⟩ (tx_code.of (hts _ mw_1329)) (hts _ mw_12) (by decide +kernel) (hts _ mw_1326)) (hts _ mw_1328) (hts _ ms_Mo_objectAt) ⟨tz_blind, sv_recv (q0 := 0) hts in_Mo hK hI kM_0 rfl, fun U hU hW => ⟨rfl, by rw [hU], by rw [hU]; exact hI.1, va_K.moved hW.alike hK, hst _ _ hI.2 U hU hW⟩⟩ rfl rfl hl.1 rfl (lv_room (Nat.le_of_ble_eq_true rfl)) d_Mo_has_2 ⟨Nat.le_of_ble_eq_true rfl, Nat.le_of_ble_eq_true rfl⟩) hI.2 (fun q _ h => ga_sub hAC hA0 hI.2 q h) (ga_sub hAC hA0 hI.2) (fun v t H1 locs1 ht hWt hpost _ _ hS => ?_) (fun x t H1 locs1 ht hWt hpost _ _ hS => (hpost.2 x rfl).elim)
  rcases hpost.1 _ rfl with ⟨z17, t_tr18, hv, c19, c19_0, c19_1, c19_2, c19_3, hI1⟩ | ⟨z20, hv, c21, c21_0, c21_1, c21_2, c21_3, c21_4, c21_5, hI1⟩
  · cases hv
    have hI : sI (dC, dI) vcl cI cJ (gsM a th t_tr18 dp zi co sh lt ts mf) A s.heap H1 locs1 := ⟨by rw [← ht]; exact hI1, hS⟩
    obtain ⟨-, ⟨o22, o23⟩, -, -, -, -, -, -, -⟩ := id c19
    clear hpost hI1 hS ht hWt
    revert hI; generalize H1 = H; generalize locs1 = locs; intro hI
    refine lv_istore_n (lv' := [(3, .int z17), (0, .ref (a 0)), (1, .int x1), (2, .int x2)]) hx hb d_Mo_has_5 rfl hl (by decide) rfl (fun ls hl => ?_)
    refine lv_aload_n hx hb d_Mo_has_6 rfl (lv_at hl 1 rfl) ?_
    refine lv_iload_n hx hb d_Mo_has_7 rfl (lv_at hl 3 rfl) ?_
    refine sn_bipush hx hb d_Mo_has_8 (by decide) (fun z24 hz24 => ?_)
    refine sn_icmp_ge (tgt := 17) hx hb d_Mo_has_10 (by decide) (fun b25 => ?_) (fun b25 => ?_)
    · refine sn_iconst hx hb d_Mo_has_17 (by decide) (fun z26 hz26 => ?_)
      refine sn_iconst hx hb d_Mo_has_18 (by decide) (fun z27 hz27 => ?_)
      refine tz_call (A1 := ga (adM a) H.size) (tz_runV (C := "StoryMachineModel") (As := [.int z26, .int z27]) (rest := []) ⟨hx, hb, hml, hown, hts⟩ (c_Mo_good l hfl dC dI cI cJ a H.size th t_tr18 dp zi co sh lt ts mf z26 z27 c19 (by omega) (by omega) (by omega) (by omega)) (tx_cb (n := 2) hts rfl rfl ⟨Nat.le_of_ble_eq_true rfl, Nat.le_of_ble_eq_true rfl⟩ (tx_code.of (hts _ mw_1240)) (hts _ mw_12) (by decide +kernel) (hts _ mw_1237)) (hts _ mw_1239) (hts _ ms_Mo_good) ⟨tz_blind, sv_recv (q0 := 0) hts in_Mo hK hI kM_0 rfl, fun U hU hW => ⟨rfl, by rw [hU], by rw [hU]; exact hI.1, va_K.moved hW.alike hK, hst _ _ hI.2 U hU hW⟩⟩ rfl rfl hl.1 rfl (lv_room (Nat.le_of_ble_eq_true rfl)) d_Mo_has_19 ⟨Nat.le_of_ble_eq_true rfl, Nat.le_of_ble_eq_true rfl⟩) hI.2 (fun q _ h => ga_sub hAC hA0 hI.2 q h) (ga_sub hAC hA0 hI.2) (fun v t H1 locs1 ht hWt hpost _ _ hS => ?_) (fun x t H1 locs1 ht hWt hpost _ _ hS => (hpost.2 x rfl).elim)
      rcases hpost.1 _ rfl with ⟨z28, t_tr29, hv, c30, c30_0, c30_1, c30_2, c30_3, hI1⟩ | ⟨z31, hv, c32, c32_0, c32_1, c32_2, c32_3, hI1⟩
      · cases hv
        have hI : sI (dC, dI) vcl cI cJ (gsM a th t_tr29 dp zi co sh lt ts mf) A s.heap H1 locs1 := ⟨by rw [← ht]; exact hI1, hS⟩
        obtain ⟨-, ⟨o33, o34⟩, -, -, -, -, -, -, -⟩ := id c30
        clear hpost hI1 hS ht hWt
        revert hI; generalize H1 = H; generalize locs1 = locs; intro hI
        refine sn_if_ne (tgt := 27) hx hb d_Mo_has_22 (by decide) (fun b35 => ?_) (fun b35 => ?_)
        · omega
        · refine sn_iconst hx hb d_Mo_has_25 (by decide) (fun z36 hz36 => ?_)
          subst hZ
          exact tz_ret (W.zret (v := z36) hx hb hr (sn_bool (by omega) (by omega)).1 (fun t ht hW => ⟨⟨fun v9 hv9 => by cases hv9; exact (Or.inl ⟨z36, t_tr29, rfl, c30, by omega, by omega, by omega, by rw [ht]; exact hI.1⟩), fun x9 hx9 => (by cases hx9)⟩, hI.2.F ht⟩) hI.2.2.2 d_Mo_has_26)
      · omega
    · refine sn_iconst hx hb d_Mo_has_13 (by decide) (fun z37 hz37 => ?_)
      refine lv_goto (tgt := 18) hx hb d_Mo_has_14 (by decide) ?_
      refine sn_iconst hx hb d_Mo_has_18 (by decide) (fun z38 hz38 => ?_)
      refine tz_call (A1 := ga (adM a) H.size) (tz_runV (C := "StoryMachineModel") (As := [.int z37, .int z38]) (rest := []) ⟨hx, hb, hml, hown, hts⟩ (c_Mo_good l hfl dC dI cI cJ a H.size th t_tr18 dp zi co sh lt ts mf z37 z38 c19 (by omega) (by omega) (by omega) (by omega)) (tx_cb (n := 2) hts rfl rfl ⟨Nat.le_of_ble_eq_true rfl, Nat.le_of_ble_eq_true rfl⟩ (tx_code.of (hts _ mw_1240)) (hts _ mw_12) (by decide +kernel) (hts _ mw_1237)) (hts _ mw_1239) (hts _ ms_Mo_good) ⟨tz_blind, sv_recv (q0 := 0) hts in_Mo hK hI kM_0 rfl, fun U hU hW => ⟨rfl, by rw [hU], by rw [hU]; exact hI.1, va_K.moved hW.alike hK, hst _ _ hI.2 U hU hW⟩⟩ rfl rfl hl.1 rfl (lv_room (Nat.le_of_ble_eq_true rfl)) d_Mo_has_19 ⟨Nat.le_of_ble_eq_true rfl, Nat.le_of_ble_eq_true rfl⟩) hI.2 (fun q _ h => ga_sub hAC hA0 hI.2 q h) (ga_sub hAC hA0 hI.2) (fun v t H1 locs1 ht hWt hpost _ _ hS => ?_) (fun x t H1 locs1 ht hWt hpost _ _ hS => (hpost.2 x rfl).elim)
      rcases hpost.1 _ rfl with ⟨z39, t_tr40, hv, c41, c41_0, c41_1, c41_2, c41_3, hI1⟩ | ⟨z42, hv, c43, c43_0, c43_1, c43_2, c43_3, hI1⟩
      · cases hv
        have hI : sI (dC, dI) vcl cI cJ (gsM a th t_tr40 dp zi co sh lt ts mf) A s.heap H1 locs1 := ⟨by rw [← ht]; exact hI1, hS⟩
        obtain ⟨-, ⟨o44, o45⟩, -, -, -, -, -, -, -⟩ := id c41
        clear hpost hI1 hS ht hWt
        revert hI; generalize H1 = H; generalize locs1 = locs; intro hI
        refine sn_if_ne (tgt := 27) hx hb d_Mo_has_22 (by decide) (fun b46 => ?_) (fun b46 => ?_)
        · omega
        · refine sn_iconst hx hb d_Mo_has_25 (by decide) (fun z47 hz47 => ?_)
          subst hZ
          exact tz_ret (W.zret (v := z47) hx hb hr (sn_bool (by omega) (by omega)).1 (fun t ht hW => ⟨⟨fun v9 hv9 => by cases hv9; exact (Or.inl ⟨z47, t_tr40, rfl, c41, by omega, by omega, by omega, by rw [ht]; exact hI.1⟩), fun x9 hx9 => (by cases hx9)⟩, hI.2.F ht⟩) hI.2.2.2 d_Mo_has_26)
      · omega
  · cases hv
    have hI : sI (dC, dI) vcl cI cJ (gsM a th tr dp zi co sh lt ts mf) A s.heap H1 locs1 := ⟨by rw [← ht]; exact hI1, hS⟩
    clear hpost hI1 hS ht hWt
    revert hI; generalize H1 = H; generalize locs1 = locs; intro hI
    refine lv_istore_n (lv' := [(3, .int z20), (0, .ref (a 0)), (1, .int x1), (2, .int x2)]) hx hb d_Mo_has_5 rfl hl (by decide) rfl (fun ls hl => ?_)
    refine lv_aload_n hx hb d_Mo_has_6 rfl (lv_at hl 1 rfl) ?_
    refine lv_iload_n hx hb d_Mo_has_7 rfl (lv_at hl 3 rfl) ?_
    refine sn_bipush hx hb d_Mo_has_8 (by decide) (fun z48 hz48 => ?_)
    refine sn_icmp_ge (tgt := 17) hx hb d_Mo_has_10 (by decide) (fun b49 => ?_) (fun b49 => ?_)
    · refine sn_iconst hx hb d_Mo_has_17 (by decide) (fun z50 hz50 => ?_)
      refine sn_iconst hx hb d_Mo_has_18 (by decide) (fun z51 hz51 => ?_)
      refine tz_call (A1 := ga (adM a) H.size) (tz_runV (C := "StoryMachineModel") (As := [.int z50, .int z51]) (rest := []) ⟨hx, hb, hml, hown, hts⟩ (c_Mo_good l hfl dC dI cI cJ a H.size th tr dp zi co sh lt ts mf z50 z51 c21 (by omega) (by omega) (by omega) (by omega)) (tx_cb (n := 2) hts rfl rfl ⟨Nat.le_of_ble_eq_true rfl, Nat.le_of_ble_eq_true rfl⟩ (tx_code.of (hts _ mw_1240)) (hts _ mw_12) (by decide +kernel) (hts _ mw_1237)) (hts _ mw_1239) (hts _ ms_Mo_good) ⟨tz_blind, sv_recv (q0 := 0) hts in_Mo hK hI kM_0 rfl, fun U hU hW => ⟨rfl, by rw [hU], by rw [hU]; exact hI.1, va_K.moved hW.alike hK, hst _ _ hI.2 U hU hW⟩⟩ rfl rfl hl.1 rfl (lv_room (Nat.le_of_ble_eq_true rfl)) d_Mo_has_19 ⟨Nat.le_of_ble_eq_true rfl, Nat.le_of_ble_eq_true rfl⟩) hI.2 (fun q _ h => ga_sub hAC hA0 hI.2 q h) (ga_sub hAC hA0 hI.2) (fun v t H1 locs1 ht hWt hpost _ _ hS => ?_) (fun x t H1 locs1 ht hWt hpost _ _ hS => (hpost.2 x rfl).elim)
      rcases hpost.1 _ rfl with ⟨z52, t_tr53, hv, c54, c54_0, c54_1, c54_2, c54_3, hI1⟩ | ⟨z55, hv, c56, c56_0, c56_1, c56_2, c56_3, hI1⟩
      · cases hv
        have hI : sI (dC, dI) vcl cI cJ (gsM a th t_tr53 dp zi co sh lt ts mf) A s.heap H1 locs1 := ⟨by rw [← ht]; exact hI1, hS⟩
        obtain ⟨-, ⟨o57, o58⟩, -, -, -, -, -, -, -⟩ := id c54
        clear hpost hI1 hS ht hWt
        revert hI; generalize H1 = H; generalize locs1 = locs; intro hI
        refine sn_if_ne (tgt := 27) hx hb d_Mo_has_22 (by decide) (fun b59 => ?_) (fun b59 => ?_)
        · omega
        · refine sn_iconst hx hb d_Mo_has_25 (by decide) (fun z60 hz60 => ?_)
          subst hZ
          exact tz_ret (W.zret (v := z60) hx hb hr (sn_bool (by omega) (by omega)).1 (fun t ht hW => ⟨⟨fun v9 hv9 => by cases hv9; exact (Or.inl ⟨z60, t_tr53, rfl, c54, by omega, by omega, by omega, by rw [ht]; exact hI.1⟩), fun x9 hx9 => (by cases hx9)⟩, hI.2.F ht⟩) hI.2.2.2 d_Mo_has_26)
      · omega
    · refine sn_iconst hx hb d_Mo_has_13 (by decide) (fun z61 hz61 => ?_)
      refine lv_goto (tgt := 18) hx hb d_Mo_has_14 (by decide) ?_
      refine sn_iconst hx hb d_Mo_has_18 (by decide) (fun z62 hz62 => ?_)
      refine tz_call (A1 := ga (adM a) H.size) (tz_runV (C := "StoryMachineModel") (As := [.int z61, .int z62]) (rest := []) ⟨hx, hb, hml, hown, hts⟩ (c_Mo_good l hfl dC dI cI cJ a H.size th tr dp zi co sh lt ts mf z61 z62 c21 (by omega) (by omega) (by omega) (by omega)) (tx_cb (n := 2) hts rfl rfl ⟨Nat.le_of_ble_eq_true rfl, Nat.le_of_ble_eq_true rfl⟩ (tx_code.of (hts _ mw_1240)) (hts _ mw_12) (by decide +kernel) (hts _ mw_1237)) (hts _ mw_1239) (hts _ ms_Mo_good) ⟨tz_blind, sv_recv (q0 := 0) hts in_Mo hK hI kM_0 rfl, fun U hU hW => ⟨rfl, by rw [hU], by rw [hU]; exact hI.1, va_K.moved hW.alike hK, hst _ _ hI.2 U hU hW⟩⟩ rfl rfl hl.1 rfl (lv_room (Nat.le_of_ble_eq_true rfl)) d_Mo_has_19 ⟨Nat.le_of_ble_eq_true rfl, Nat.le_of_ble_eq_true rfl⟩) hI.2 (fun q _ h => ga_sub hAC hA0 hI.2 q h) (ga_sub hAC hA0 hI.2) (fun v t H1 locs1 ht hWt hpost _ _ hS => ?_) (fun x t H1 locs1 ht hWt hpost _ _ hS => (hpost.2 x rfl).elim)
      rcases hpost.1 _ rfl with ⟨z63, t_tr64, hv, c65, c65_0, c65_1, c65_2, c65_3, hI1⟩ | ⟨z66, hv, c67, c67_0, c67_1, c67_2, c67_3, hI1⟩
      · cases hv
        have hI : sI (dC, dI) vcl cI cJ (gsM a th t_tr64 dp zi co sh lt ts mf) A s.heap H1 locs1 := ⟨by rw [← ht]; exact hI1, hS⟩
        obtain ⟨-, ⟨o68, o69⟩, -, -, -, -, -, -, -⟩ := id c65
        clear hpost hI1 hS ht hWt
        revert hI; generalize H1 = H; generalize locs1 = locs; intro hI
        refine sn_if_ne (tgt := 27) hx hb d_Mo_has_22 (by decide) (fun b70 => ?_) (fun b70 => ?_)
        · omega
        · refine sn_iconst hx hb d_Mo_has_25 (by decide) (fun z71 hz71 => ?_)
          subst hZ
          exact tz_ret (W.zret (v := z71) hx hb hr (sn_bool (by omega) (by omega)).1 (fun t ht hW => ⟨⟨fun v9 hv9 => by cases hv9; exact (Or.inl ⟨z71, t_tr64, rfl, c65, by omega, by omega, by omega, by rw [ht]; exact hI.1⟩), fun x9 hx9 => (by cases hx9)⟩, hI.2.F ht⟩) hI.2.2.2 d_Mo_has_26)
      · cases hv
        have hI : sI (dC, dI) vcl cI cJ (gsM a th tr dp zi co sh lt ts mf) A s.heap H1 locs1 := ⟨by rw [← ht]; exact hI1, hS⟩
        clear hpost hI1 hS ht hWt
        revert hI; generalize H1 = H; generalize locs1 = locs; intro hI
        refine sn_if_ne (tgt := 27) hx hb d_Mo_has_22 (by decide) (fun b72 => ?_) (fun b72 => ?_)
        · refine lv_aload_n hx hb d_Mo_has_27 rfl (lv_at hl 1 rfl) ?_
          refine lv_iload_n hx hb d_Mo_has_28 rfl (lv_at hl 0 rfl) ?_
          refine lv_iload_n hx hb d_Mo_has_29 rfl (lv_at hl 3 rfl) ?_
          refine sn_bipush hx hb d_Mo_has_30 (by decide) (fun z73 hz73 => ?_)
          refine sn_idiv (k := 8) hx hb d_Mo_has_32 (by omega) (by omega) (by omega) (fun z74 hz74 => ?_)
          refine sn_iadd hx hb d_Mo_has_33 (by omega) (by omega) (fun z75 hz75 => ?_)
          refine tz_call (A1 := ga (adM a) H.size) (tz_runV (C := "StoryMachineModel") (As := [.int z75]) (rest := []) ⟨hx, hb, hml, hown, hts⟩ (c_Mo_byteAt l hfl dC dI cI cJ a H.size th tr dp zi co sh lt ts mf z75 c67) (tx_cb (n := 1) hts rfl rfl ⟨Nat.le_of_ble_eq_true rfl, Nat.le_of_ble_eq_true rfl⟩ (tx_code.of (hts _ mw_1236)) (hts _ mw_12) (by decide +kernel) (hts _ mw_1233)) (hts _ mw_1235) (hts _ ms_Mo_byteAt) ⟨tz_blind, sv_recv (q0 := 0) hts in_Mo hK hI kM_0 rfl, fun U hU hW => ⟨rfl, by rw [hU], by rw [hU]; exact hI.1, va_K.moved hW.alike hK, hst _ _ hI.2 U hU hW⟩⟩ rfl rfl hl.1 rfl (lv_room (Nat.le_of_ble_eq_true rfl)) d_Mo_has_34 ⟨Nat.le_of_ble_eq_true rfl, Nat.le_of_ble_eq_true rfl⟩) hI.2 (fun q _ h => ga_sub hAC hA0 hI.2 q h) (ga_sub hAC hA0 hI.2) (fun v t H1 locs1 ht hWt hpost _ _ hS => ?_) (fun x t H1 locs1 ht hWt hpost _ _ hS => (hpost.2 x rfl).elim)
          rcases hpost.1 _ rfl with ⟨z76, t_tr77, hv, c78, c78_0, c78_1, c78_2, hI1⟩ | ⟨z79, hv, c80, c80_0, c80_1, c80_2, c80_3, c80_4, hI1⟩
          · cases hv
            have hI : sI (dC, dI) vcl cI cJ (gsM a th t_tr77 dp zi co sh lt ts mf) A s.heap H1 locs1 := ⟨by rw [← ht]; exact hI1, hS⟩
            obtain ⟨-, ⟨o81, o82⟩, -, -, -, -, -, -, -⟩ := id c78
            clear hpost hI1 hS ht hWt
            revert hI; generalize H1 = H; generalize locs1 = locs; intro hI
            refine sn_bipush hx hb d_Mo_has_37 (by decide) (fun z83 hz83 => ?_)
            refine lv_iload_n hx hb d_Mo_has_39 rfl (lv_at hl 3 rfl) ?_
            refine sn_bipush hx hb d_Mo_has_40 (by decide) (fun z84 hz84 => ?_)
            refine sn_irem (k := 8) hx hb d_Mo_has_42 (by omega) (by omega) (by omega) (fun z85 hz85 => ?_)
            refine sn_isub hx hb d_Mo_has_43 (by omega) (by omega) (fun z86 hz86 => ?_)
            refine sn_ishrT hx hb d_Mo_has_44 (fun z87 hz87a hz87b => ?_)
            refine sn_iconst hx hb d_Mo_has_45 (by decide) (fun z88 hz88 => ?_)
            refine sn_iand (k := 1) (M := 1) hx hb d_Mo_has_46 (by decide) (by decide) (by omega) (fun z89 hz89a hz89b hz89c => ?_)
            clear hz89c
            refine sn_iconst hx hb d_Mo_has_47 (by decide) (fun z90 hz90 => ?_)
            refine sn_icmp_ne (tgt := 55) hx hb d_Mo_has_48 (by decide) (fun b91 => ?_) (fun b91 => ?_)
            · refine sn_iconst hx hb d_Mo_has_55 (by decide) (fun z92 hz92 => ?_)
              subst hZ
              exact tz_ret (W.zret (v := z92) hx hb hr (sn_bool (by omega) (by omega)).1 (fun t ht hW => ⟨⟨fun v9 hv9 => by cases hv9; exact (Or.inl ⟨z92, t_tr77, rfl, c78, by omega, by omega, by omega, by rw [ht]; exact hI.1⟩), fun x9 hx9 => (by cases hx9)⟩, hI.2.F ht⟩) hI.2.2.2 d_Mo_has_56)
            · refine sn_iconst hx hb d_Mo_has_51 (by decide) (fun z93 hz93 => ?_)
              refine lv_goto (tgt := 56) hx hb d_Mo_has_52 (by decide) ?_
              subst hZ
              exact tz_ret (W.zret (v := z93) hx hb hr (sn_bool (by omega) (by omega)).1 (fun t ht hW => ⟨⟨fun v9 hv9 => by cases hv9; exact (Or.inr (Or.inl ⟨z93, t_tr77, rfl, c78, by omega, by omega, by omega, by omega, by omega, by omega, by omega, by rw [ht]; exact hI.1⟩)), fun x9 hx9 => (by cases hx9)⟩, hI.2.F ht⟩) hI.2.2.2 d_Mo_has_56)
          · cases hv
            have hI : sI (dC, dI) vcl cI cJ (gsM a th tr dp zi co sh lt ts mf) A s.heap H1 locs1 := ⟨by rw [← ht]; exact hI1, hS⟩
            clear hpost hI1 hS ht hWt
            revert hI; generalize H1 = H; generalize locs1 = locs; intro hI
            refine sn_bipush hx hb d_Mo_has_37 (by decide) (fun z94 hz94 => ?_)
            refine lv_iload_n hx hb d_Mo_has_39 rfl (lv_at hl 3 rfl) ?_
            refine sn_bipush hx hb d_Mo_has_40 (by decide) (fun z95 hz95 => ?_)
            refine sn_irem (k := 8) hx hb d_Mo_has_42 (by omega) (by omega) (by omega) (fun z96 hz96 => ?_)
            refine sn_isub hx hb d_Mo_has_43 (by omega) (by omega) (fun z97 hz97 => ?_)
            refine sn_ishrT hx hb d_Mo_has_44 (fun z98 hz98a hz98b => ?_)
            refine sn_iconst hx hb d_Mo_has_45 (by decide) (fun z99 hz99 => ?_)
            refine sn_iand (k := 1) (M := 1) hx hb d_Mo_has_46 (by decide) (by decide) (by omega) (fun z100 hz100a hz100b hz100c => ?_)
            clear hz100c
            refine sn_iconst hx hb d_Mo_has_47 (by decide) (fun z101 hz101 => ?_)
            refine sn_icmp_ne (tgt := 55) hx hb d_Mo_has_48 (by decide) (fun b102 => ?_) (fun b102 => ?_)
            · refine sn_iconst hx hb d_Mo_has_55 (by decide) (fun z103 hz103 => ?_)
              subst hZ
              exact tz_ret (W.zret (v := z103) hx hb hr (sn_bool (by omega) (by omega)).1 (fun t ht hW => ⟨⟨fun v9 hv9 => by cases hv9; exact (Or.inr (Or.inr (Or.inl ⟨z103, rfl, c80, by omega, by omega, by omega, by omega, by omega, by omega, by omega, by rw [ht]; exact hI.1⟩))), fun x9 hx9 => (by cases hx9)⟩, hI.2.F ht⟩) hI.2.2.2 d_Mo_has_56)
            · refine sn_iconst hx hb d_Mo_has_51 (by decide) (fun z104 hz104 => ?_)
              refine lv_goto (tgt := 56) hx hb d_Mo_has_52 (by decide) ?_
              subst hZ
              exact tz_ret (W.zret (v := z104) hx hb hr (sn_bool (by omega) (by omega)).1 (fun t ht hW => ⟨⟨fun v9 hv9 => by cases hv9; exact (Or.inr (Or.inr (Or.inr (⟨z104, rfl, c80, by omega, by omega, by omega, by omega, by omega, by omega, by omega, by rw [ht]; exact hI.1⟩)))), fun x9 hx9 => (by cases hx9)⟩, hI.2.F ht⟩) hI.2.2.2 d_Mo_has_56)
        · omega
abbrev q_Mo_mark (dC : Nat → ClassId) (dI : Nat → Nat → Nat) (cI cJ : ClassId) (a : Nat → Nat) (th tr dp zi co sh lt ts : Int) (mf : Nat → Int32) (x1 : Int32) (x2 : Int32) (x3 : Int32) : Outcome → State → Prop := fun o t => (∀ v, o = .returned v → ((∃ (tr_ : Int), v = none ∧ okM th tr_ dp zi co sh lt ts mf ∧ (1 ≤ tr_) ∧ sh_I (dC, dI) vcl cI cJ (gsM a th tr_ dp zi co sh lt ts mf) t.heap) ∨ (∃ (mf_ : Nat → Int32), v = none ∧ okM th tr dp zi co sh lt ts mf_ ∧ (1 ≤ x1.toInt) ∧ (x1.toInt ≤ 20) ∧ (x2.toInt ≤ 31) ∧ (tr ≤ 0) ∧ sh_I (dC, dI) vcl cI cJ (gsM a th tr dp zi co sh lt ts mf_) t.heap))) ∧ (∀ x, o = .threw x → (False))
def rm_Mo_mark : Room := { frames := 5, cells := 0, slots := 0, locals := 110 }
set_option maxHeartbeats 4000000 in
set_option maxRecDepth 100000 in
theorem c_Mo_mark (l : Launch) (hfl : l.flags = pinnedFlags ++ [noTraceFlag]) (dC : Nat → ClassId) (dI : Nat → Nat → Nat) (cI cJ : ClassId) (a : Nat → Nat) (sz : Nat) (th tr dp zi co sh lt ts : Int) (mf : Nat → Int32) (x1 : Int32) (x2 : Int32) (x3 : Int32) (hok : okM th tr dp zi co sh lt ts mf) (hp0 : 0 ≤ x1.toInt) (hp1 : x1.toInt ≤ 65535) (hp2 : 0 ≤ x2.toInt) (hp3 : x2.toInt ≤ 65535) (hp4 : 0 ≤ x3.toInt) (hp5 : x3.toInt ≤ 1) : tz_Met l ⟨"StoryMachineModel", "mark", "(IIZ)V"⟩ tw_tbl rm_Mo_mark (tzP (dC, dI) vcl cI cJ (gsM a th tr dp zi co sh lt ts mf) a (adM a) [.ref (a 0), .int x1, .int x2, .int x3] sz) (tq_Q (q_Mo_mark dC dI cI cJ a th tr dp zi co sh lt ts mf x1 x2 x3) (ga (adM a) sz)) 0 0 0 0 (ga (adM a) sz) := by
  refine tz_ofW (cc := prog_13_method_25_code) (maxL := 8) (ret := none) (by decide) (tx_isM mw_1357) ?_
  intro p e s m args below meth c s₁ B hml hv
  obtain ⟨rfl, hsz, hI0, hK, hst0⟩ := hv
  have hx := B.exec
  have hb := B.bytes
  have hr := B.returns
  have hts := atoms_spec (ws := tw_tbl) B.pre
  have hown : s.vm.findClass "StoryMachineModel" = some m.cls := findClass_of_methodNamed B.named
  have hlocks := B.notSynchronized
  subst hsz
  have hst := fun (H : Heap) (locs : List Loc) (hS : va_S (ga (adM a) s.heap.size) s.heap H locs) (U : State) (hU : U.heap = H) (hW : s.WarmedH U.vm) => zS_all adM_map hI0 hst0 hS hU hW
  have hAC : ∀ q ∈ adM a, ga (adM a) s.heap.size q := fun q h => Or.inl h
  have hA0 : ∀ q, s.heap.size ≤ q → ga (adM a) s.heap.size q := fun q h => Or.inr h
  have hI : sI (dC, dI) vcl cI cJ (gsM a th tr dp zi co sh lt ts mf) (ga (adM a) s.heap.size) s.heap s.heap [] := ⟨hI0, va_S.rf⟩
  clear hI0 hst0
  have hl := lv_entry ([.ref (a 0), .int x1, .int x2, .int x3]) (n := 8) (Nat.le_of_ble_eq_true rfl)
  rw [lg_entry_eq]
  generalize (lg_sl ([.ref (a 0), .int x1, .int x2, .int x3]) ++ List.replicate (8 - (lg_sl ([.ref (a 0), .int x1, .int x2, .int x3])).length) Slot.unset).toArray = ls at hl ⊢
  have hl : lv_has ls 8 [(0, .ref (a 0)), (1, .int x1), (2, .int x2), (3, .int x3)] := hl
  generalize hZ : tz_MQ below (tq_Q (q_Mo_mark dC dI cI cJ a th tr dp zi co sh lt ts mf x1 x2 x3) (ga (adM a) s.heap.size)) ([.ref (a 0), .int x1, .int x2, .int x3] : List Value).toArray s 0 0 0 0 (ga (adM a) s.heap.size) = Z
  obtain ⟨A, hAe⟩ : ∃ A, A = ga (adM a) s.heap.size := ⟨_, rfl⟩
  rw [← hAe] at hst hAC hA0 hI hZ
  refine sv_start hI (fun H locs hI => ?_)
  obtain ⟨⟨o1, o2⟩, ⟨o3, o4⟩, ⟨o5, o6⟩, ⟨o7, o8⟩, ⟨o9, o10⟩, ⟨o11, o12⟩, ⟨o13, o14⟩, ⟨o15, o16⟩, -⟩ := id hok
  have gx1 := sn_rng x1
  have gx2 := sn_rng x2
  have gx3 := sn_rng x3
  refine lv_aload_n hx hb d_Mo_mark_0 rfl (lv_at hl 0 rfl) ?_
  refine lv_iload_n hx hb d_Mo_mark_1 rfl (lv_at hl 1 rfl) ?_
  refine lv_iload_n hx hb d_Mo_mark_2 rfl (lv_at hl 2 rfl) ?_
  refine tz_call (A1 := ga (adM a) H.size) (tz_runV (C := "StoryMachineModel") (As := [.int x1, .int x2]) (rest := []) ⟨hx, hb, hml, hown, hts⟩ (c_Mo_has l hfl dC dI cI cJ a H.size th tr dp zi co sh lt ts mf x1 x2 hok (by omega) (by omega) (by omega) (by omega)) (tx_cb (n := 2) hts rfl rfl ⟨Nat.le_of_ble_eq_true rfl, Nat.le_of_ble_eq_true rfl⟩ (tx_code.of (hts _ mw_1337)) (hts _ mw_12) (by decide +kernel) (hts _ mw_1334)) (hts _ mw_1336) (hts _ ms_Mo_has) ⟨tz_blind, sv_recv (q0 := 0) hts in_Mo hK hI kM_0 rfl, fun U hU hW => ⟨rfl, by rw [hU], by rw [hU]; exact hI.1, va_K.moved hW.alike hK, hst _ _ hI.2 U hU hW⟩⟩ rfl rfl hl.1 rfl (lv_room (Nat.le_of_ble_eq_true rfl)) d_Mo_mark_3 ⟨Nat.le_of_ble_eq_true rfl, Nat.le_of_ble_eq_true rfl⟩) hI.2 (fun q _ h => ga_sub hAC hA0 hI.2 q h) (ga_sub hAC hA0 hI.2) (fun v t H1 locs1 ht hWt hpost _ _ hS => ?_) (fun x t H1 locs1 ht hWt hpost _ _ hS => (hpost.2 x rfl).elim)
  rcases hpost.1 _ rfl with ⟨z17, t_tr18, hv, c19, c19_0, c19_1, c19_2, hI1⟩ | ⟨z20, t_tr21, hv, c22, c22_0, c22_1, c22_2, c22_3, c22_4, c22_5, c22_6, hI1⟩ | ⟨z23, hv, c24, c24_0, c24_1, c24_2, c24_3, c24_4, c24_5, c24_6, hI1⟩ | ⟨z25, hv, c26, c26_0, c26_1, c26_2, c26_3, c26_4, c26_5, c26_6, hI1⟩
  · cases hv
    have hI : sI (dC, dI) vcl cI cJ (gsM a th t_tr18 dp zi co sh lt ts mf) A s.heap H1 locs1 := ⟨by rw [← ht]; exact hI1, hS⟩
    obtain ⟨-, ⟨o27, o28⟩, -, -, -, -, -, -, -⟩ := id c19
    clear hpost hI1 hS ht hWt
    revert hI; generalize H1 = H; generalize locs1 = locs; intro hI
    refine lv_istore (lv' := [(4, .int z17), (0, .ref (a 0)), (1, .int x1), (2, .int x2), (3, .int x3)]) hx hb d_Mo_mark_6 hl (by decide) rfl (fun ls hl => ?_)
    refine lv_aload_n hx hb d_Mo_mark_8 rfl (lv_at hl 1 rfl) ?_
    refine sv_gete (C := "StoryMachineModel") (T := T_Mo) (N := 51) hx hb hts in_Mo hown hK hI 0 kM_0 rfl 25 (by decide) (hts _ mw_1088) rfl d_Mo_mark_9 (fun z29 hz29 => ?_)
    refine sn_if_le (tgt := 16) hx hb d_Mo_mark_12 (by decide) (fun b30 => ?_) (fun b30 => ?_)
    · omega
    · subst hZ
      exact tz_ret (W.vret hx hb hr (fun t ht hW => ⟨⟨fun v9 hv9 => by cases hv9; exact (Or.inl ⟨t_tr18, rfl, c19, by omega, by rw [ht]; exact hI.1⟩), fun x9 hx9 => (by cases hx9)⟩, hI.2.F ht⟩) hI.2.2.2 d_Mo_mark_15)
  · cases hv
    have hI : sI (dC, dI) vcl cI cJ (gsM a th t_tr21 dp zi co sh lt ts mf) A s.heap H1 locs1 := ⟨by rw [← ht]; exact hI1, hS⟩
    obtain ⟨-, ⟨o31, o32⟩, -, -, -, -, -, -, -⟩ := id c22
    clear hpost hI1 hS ht hWt
    revert hI; generalize H1 = H; generalize locs1 = locs; intro hI
    refine lv_istore (lv' := [(4, .int z20), (0, .ref (a 0)), (1, .int x1), (2, .int x2), (3, .int x3)]) hx hb d_Mo_mark_6 hl (by decide) rfl (fun ls hl => ?_)
    refine lv_aload_n hx hb d_Mo_mark_8 rfl (lv_at hl 1 rfl) ?_
    refine sv_gete (C := "StoryMachineModel") (T := T_Mo) (N := 51) hx hb hts in_Mo hown hK hI 0 kM_0 rfl 25 (by decide) (hts _ mw_1088) rfl d_Mo_mark_9 (fun z33 hz33 => ?_)
    refine sn_if_le (tgt := 16) hx hb d_Mo_mark_12 (by decide) (fun b34 => ?_) (fun b34 => ?_)
    · omega
    · subst hZ
      exact tz_ret (W.vret hx hb hr (fun t ht hW => ⟨⟨fun v9 hv9 => by cases hv9; exact (Or.inl ⟨t_tr21, rfl, c22, by omega, by rw [ht]; exact hI.1⟩), fun x9 hx9 => (by cases hx9)⟩, hI.2.F ht⟩) hI.2.2.2 d_Mo_mark_15)
  · cases hv
    have hI : sI (dC, dI) vcl cI cJ (gsM a th tr dp zi co sh lt ts mf) A s.heap H1 locs1 := ⟨by rw [← ht]; exact hI1, hS⟩
    clear hpost hI1 hS ht hWt
    revert hI; generalize H1 = H; generalize locs1 = locs; intro hI
    refine lv_istore (lv' := [(4, .int z23), (0, .ref (a 0)), (1, .int x1), (2, .int x2), (3, .int x3)]) hx hb d_Mo_mark_6 hl (by decide) rfl (fun ls hl => ?_)
    refine lv_aload_n hx hb d_Mo_mark_8 rfl (lv_at hl 1 rfl) ?_
    refine sv_gete (C := "StoryMachineModel") (T := T_Mo) (N := 51) hx hb hts in_Mo hown hK hI 0 kM_0 rfl 25 (by decide) (hts _ mw_1088) rfl d_Mo_mark_9 (fun z35 hz35 => ?_)
    refine sn_if_le (tgt := 16) hx hb d_Mo_mark_12 (by decide) (fun b36 => ?_) (fun b36 => ?_)
    · refine lv_aload_n hx hb d_Mo_mark_16 rfl (lv_at hl 1 rfl) ?_
      refine lv_iload_n hx hb d_Mo_mark_17 rfl (lv_at hl 2 rfl) ?_
      refine tz_call (A1 := ga (adM a) H.size) (tz_runV (C := "StoryMachineModel") (As := [.int x1]) (rest := []) ⟨hx, hb, hml, hown, hts⟩ (c_Mo_objectAt l hfl dC dI cI cJ a H.size th tr dp zi co sh lt ts mf x1 c24) (tx_cb (n := 1) hts rfl rfl ⟨Nat.le_of_ble_eq_true rfl, Nat.le_of_ble_eq_true rfl⟩ (tx_code.of (hts _ mw_1329)) (hts _ mw_12) (by decide +kernel) (hts _ mw_1326)) (hts _ mw_1328) (hts _ ms_Mo_objectAt) ⟨tz_blind, sv_recv (q0 := 0) hts in_Mo hK hI kM_0 rfl, fun U hU hW => ⟨rfl, by rw [hU], by rw [hU]; exact hI.1, va_K.moved hW.alike hK, hst _ _ hI.2 U hU hW⟩⟩ rfl rfl hl.1 rfl (lv_room (Nat.le_of_ble_eq_true rfl)) d_Mo_mark_18 ⟨Nat.le_of_ble_eq_true rfl, Nat.le_of_ble_eq_true rfl⟩) hI.2 (fun q _ h => ga_sub hAC hA0 hI.2 q h) (ga_sub hAC hA0 hI.2) (fun v t H1 locs1 ht hWt hpost _ _ hS => ?_) (fun x t H1 locs1 ht hWt hpost _ _ hS => (hpost.2 x rfl).elim)
      rcases hpost.1 _ rfl with ⟨z37, t_tr38, hv, c39, c39_0, c39_1, c39_2, c39_3, hI1⟩ | ⟨z40, hv, c41, c41_0, c41_1, c41_2, c41_3, c41_4, c41_5, hI1⟩
      · cases hv
        have hI : sI (dC, dI) vcl cI cJ (gsM a th t_tr38 dp zi co sh lt ts mf) A s.heap H1 locs1 := ⟨by rw [← ht]; exact hI1, hS⟩
        obtain ⟨-, ⟨o42, o43⟩, -, -, -, -, -, -, -⟩ := id c39
        clear hpost hI1 hS ht hWt
        revert hI; generalize H1 = H; generalize locs1 = locs; intro hI
        refine lv_iload_n hx hb d_Mo_mark_21 rfl (lv_at hl 3 rfl) ?_
        refine sn_bipush hx hb d_Mo_mark_22 (by decide) (fun z44 hz44 => ?_)
        refine sn_idiv (k := 8) hx hb d_Mo_mark_24 (by omega) (by omega) (by omega) (fun z45 hz45 => ?_)
        refine sn_iadd hx hb d_Mo_mark_25 (by omega) (by omega) (fun z46 hz46 => ?_)
        refine lv_istore (lv' := [(5, .int z46), (4, .int z23), (0, .ref (a 0)), (1, .int x1), (2, .int x2), (3, .int x3)]) hx hb d_Mo_mark_26 hl (by decide) rfl (fun ls hl => ?_)
        refine sn_sipush hx hb d_Mo_mark_28 (by decide) (fun z47 hz47 => ?_)
        refine lv_iload_n hx hb d_Mo_mark_31 rfl (lv_at hl 4 rfl) ?_
        refine sn_bipush hx hb d_Mo_mark_32 (by decide) (fun z48 hz48 => ?_)
        refine sn_irem (k := 8) hx hb d_Mo_mark_34 (by omega) (by omega) (by omega) (fun z49 hz49 => ?_)
        refine sn_ishrT hx hb d_Mo_mark_35 (fun z50 hz50a hz50b => ?_)
        refine lv_istore (lv' := [(6, .int z50), (5, .int z46), (4, .int z23), (0, .ref (a 0)), (1, .int x1), (2, .int x2), (3, .int x3)]) hx hb d_Mo_mark_36 hl (by decide) rfl (fun ls hl => ?_)
        refine lv_aload_n hx hb d_Mo_mark_38 rfl (lv_at hl 3 rfl) ?_
        refine sv_getr (C := "StoryMachineModel") (T := T_Mo) (N := 51) hx hb hts in_Mo hown hK hI 0 kM_0 rfl 1 (by decide) (hts _ mw_1064) rfl d_Mo_mark_39 ?_
        refine lv_iload hx hb d_Mo_mark_42 (lv_at hl 1 rfl) ?_
        refine sv_ialde hx hb hK hI 1 kM_1 (by omega) (by omega) d_Mo_mark_44 (fun z51 hz51 => ?_)
        have hz51r := c39.2.2.2.2.2.2.2.2 (z46.toNatClampNeg)
        rw [← hz51] at hz51r
        have hz51x : z51.toInt = (mf z46.toInt.toNat).toInt := by rw [hz51]; rfl
        refine lv_istore (lv' := [(7, .int z51), (6, .int z50), (5, .int z46), (4, .int z23), (0, .ref (a 0)), (1, .int x1), (2, .int x2), (3, .int x3)]) hx hb d_Mo_mark_45 hl (by decide) rfl (fun ls hl => ?_)
        refine lv_aload_n hx hb d_Mo_mark_47 rfl (lv_at hl 4 rfl) ?_
        refine lv_iload hx hb d_Mo_mark_48 (lv_at hl 2 rfl) ?_
        refine lv_iload hx hb d_Mo_mark_50 (lv_at hl 3 rfl) ?_
        refine lv_iload_n hx hb d_Mo_mark_52 rfl (lv_at hl 7 rfl) ?_
        refine sn_icmp_ne (tgt := 61) hx hb d_Mo_mark_53 (by decide) (fun b52 => ?_) (fun b52 => ?_)
        · refine lv_iload_n hx hb d_Mo_mark_61 rfl (lv_at hl 7 rfl) ?_
          refine sn_if_eq (tgt := 73) hx hb d_Mo_mark_62 (by decide) (fun b53 => ?_) (fun b53 => ?_)
          · omega
          · refine lv_iload hx hb d_Mo_mark_65 (lv_at hl 0 rfl) ?_
            refine lv_iload hx hb d_Mo_mark_67 (lv_at hl 1 rfl) ?_
            refine sn_iaddT hx hb d_Mo_mark_69 (fun z54 hz54a hz54b => ?_)
            refine lv_goto (tgt := 78) hx hb d_Mo_mark_70 (by decide) ?_
            refine tz_call (A1 := ga (adM a) H.size) (tz_runV (C := "StoryMachineModel") (As := [.int z46, .int z54]) (rest := []) ⟨hx, hb, hml, hown, hts⟩ (c_Mo_setByte l hfl dC dI cI cJ a H.size th t_tr38 dp zi co sh lt ts mf z46 z54 c39) (tx_cb (n := 2) hts rfl rfl ⟨Nat.le_of_ble_eq_true rfl, Nat.le_of_ble_eq_true rfl⟩ (tx_code.of (hts _ mw_1353)) (hts _ mw_12) (by decide +kernel) (hts _ mw_1350)) (hts _ mw_1352) (hts _ ms_Mo_setByte) ⟨tz_blind, sv_recv (q0 := 0) hts in_Mo hK hI kM_0 rfl, fun U hU hW => ⟨rfl, by rw [hU], by rw [hU]; exact hI.1, va_K.moved hW.alike hK, hst _ _ hI.2 U hU hW⟩⟩ rfl rfl hl.1 rfl (lv_room (Nat.le_of_ble_eq_true rfl)) d_Mo_mark_78 ⟨Nat.le_of_ble_eq_true rfl, Nat.le_of_ble_eq_true rfl⟩) hI.2 (fun q _ h => ga_sub hAC hA0 hI.2 q h) (ga_sub hAC hA0 hI.2) (fun v t H1 locs1 ht hWt hpost _ _ hS => ?_) (fun x t H1 locs1 ht hWt hpost _ _ hS => (hpost.2 x rfl).elim)
            rcases hpost.1 _ rfl with ⟨t_tr55, hv, c56, c56_0, hI1⟩ | ⟨f_mf57, hv, c58, c58_0, c58_1, c58_2, hI1⟩
            · cases hv
              have hI : sI (dC, dI) vcl cI cJ (gsM a th t_tr55 dp zi co sh lt ts mf) A s.heap H1 locs1 := ⟨by rw [← ht]; exact hI1, hS⟩
              obtain ⟨-, ⟨o59, o60⟩, -, -, -, -, -, -, -⟩ := id c56
              clear hpost hI1 hS ht hWt
              revert hI; generalize H1 = H; generalize locs1 = locs; intro hI
              subst hZ
              exact tz_ret (W.vret hx hb hr (fun t ht hW => ⟨⟨fun v9 hv9 => by cases hv9; exact (Or.inl ⟨t_tr55, rfl, c56, by omega, by rw [ht]; exact hI.1⟩), fun x9 hx9 => (by cases hx9)⟩, hI.2.F ht⟩) hI.2.2.2 d_Mo_mark_81)
            · omega
        · refine lv_iload hx hb d_Mo_mark_56 (lv_at hl 0 rfl) ?_
          refine lv_goto (tgt := 78) hx hb d_Mo_mark_58 (by decide) ?_
          refine tz_call (A1 := ga (adM a) H.size) (tz_runV (C := "StoryMachineModel") (As := [.int z46, .int z51]) (rest := []) ⟨hx, hb, hml, hown, hts⟩ (c_Mo_setByte l hfl dC dI cI cJ a H.size th t_tr38 dp zi co sh lt ts mf z46 z51 c39) (tx_cb (n := 2) hts rfl rfl ⟨Nat.le_of_ble_eq_true rfl, Nat.le_of_ble_eq_true rfl⟩ (tx_code.of (hts _ mw_1353)) (hts _ mw_12) (by decide +kernel) (hts _ mw_1350)) (hts _ mw_1352) (hts _ ms_Mo_setByte) ⟨tz_blind, sv_recv (q0 := 0) hts in_Mo hK hI kM_0 rfl, fun U hU hW => ⟨rfl, by rw [hU], by rw [hU]; exact hI.1, va_K.moved hW.alike hK, hst _ _ hI.2 U hU hW⟩⟩ rfl rfl hl.1 rfl (lv_room (Nat.le_of_ble_eq_true rfl)) d_Mo_mark_78 ⟨Nat.le_of_ble_eq_true rfl, Nat.le_of_ble_eq_true rfl⟩) hI.2 (fun q _ h => ga_sub hAC hA0 hI.2 q h) (ga_sub hAC hA0 hI.2) (fun v t H1 locs1 ht hWt hpost _ _ hS => ?_) (fun x t H1 locs1 ht hWt hpost _ _ hS => (hpost.2 x rfl).elim)
          rcases hpost.1 _ rfl with ⟨t_tr61, hv, c62, c62_0, hI1⟩ | ⟨f_mf63, hv, c64, c64_0, c64_1, c64_2, hI1⟩
          · cases hv
            have hI : sI (dC, dI) vcl cI cJ (gsM a th t_tr61 dp zi co sh lt ts mf) A s.heap H1 locs1 := ⟨by rw [← ht]; exact hI1, hS⟩
            obtain ⟨-, ⟨o65, o66⟩, -, -, -, -, -, -, -⟩ := id c62
            clear hpost hI1 hS ht hWt
            revert hI; generalize H1 = H; generalize locs1 = locs; intro hI
            subst hZ
            exact tz_ret (W.vret hx hb hr (fun t ht hW => ⟨⟨fun v9 hv9 => by cases hv9; exact (Or.inl ⟨t_tr61, rfl, c62, by omega, by rw [ht]; exact hI.1⟩), fun x9 hx9 => (by cases hx9)⟩, hI.2.F ht⟩) hI.2.2.2 d_Mo_mark_81)
          · omega
      · cases hv
        have hI : sI (dC, dI) vcl cI cJ (gsM a th tr dp zi co sh lt ts mf) A s.heap H1 locs1 := ⟨by rw [← ht]; exact hI1, hS⟩
        clear hpost hI1 hS ht hWt
        revert hI; generalize H1 = H; generalize locs1 = locs; intro hI
        refine lv_iload_n hx hb d_Mo_mark_21 rfl (lv_at hl 3 rfl) ?_
        refine sn_bipush hx hb d_Mo_mark_22 (by decide) (fun z67 hz67 => ?_)
        refine sn_idiv (k := 8) hx hb d_Mo_mark_24 (by omega) (by omega) (by omega) (fun z68 hz68 => ?_)
        refine sn_iadd hx hb d_Mo_mark_25 (by omega) (by omega) (fun z69 hz69 => ?_)
        refine lv_istore (lv' := [(5, .int z69), (4, .int z23), (0, .ref (a 0)), (1, .int x1), (2, .int x2), (3, .int x3)]) hx hb d_Mo_mark_26 hl (by decide) rfl (fun ls hl => ?_)
        refine sn_sipush hx hb d_Mo_mark_28 (by decide) (fun z70 hz70 => ?_)
        refine lv_iload_n hx hb d_Mo_mark_31 rfl (lv_at hl 4 rfl) ?_
        refine sn_bipush hx hb d_Mo_mark_32 (by decide) (fun z71 hz71 => ?_)
        refine sn_irem (k := 8) hx hb d_Mo_mark_34 (by omega) (by omega) (by omega) (fun z72 hz72 => ?_)
        refine sn_ishrT hx hb d_Mo_mark_35 (fun z73 hz73a hz73b => ?_)
        refine lv_istore (lv' := [(6, .int z73), (5, .int z69), (4, .int z23), (0, .ref (a 0)), (1, .int x1), (2, .int x2), (3, .int x3)]) hx hb d_Mo_mark_36 hl (by decide) rfl (fun ls hl => ?_)
        refine lv_aload_n hx hb d_Mo_mark_38 rfl (lv_at hl 3 rfl) ?_
        refine sv_getr (C := "StoryMachineModel") (T := T_Mo) (N := 51) hx hb hts in_Mo hown hK hI 0 kM_0 rfl 1 (by decide) (hts _ mw_1064) rfl d_Mo_mark_39 ?_
        refine lv_iload hx hb d_Mo_mark_42 (lv_at hl 1 rfl) ?_
        refine sv_ialde hx hb hK hI 1 kM_1 (by omega) (by omega) d_Mo_mark_44 (fun z74 hz74 => ?_)
        have hz74r := c41.2.2.2.2.2.2.2.2 (z69.toNatClampNeg)
        rw [← hz74] at hz74r
        have hz74x : z74.toInt = (mf z69.toInt.toNat).toInt := by rw [hz74]; rfl
        refine lv_istore (lv' := [(7, .int z74), (6, .int z73), (5, .int z69), (4, .int z23), (0, .ref (a 0)), (1, .int x1), (2, .int x2), (3, .int x3)]) hx hb d_Mo_mark_45 hl (by decide) rfl (fun ls hl => ?_)
        refine lv_aload_n hx hb d_Mo_mark_47 rfl (lv_at hl 4 rfl) ?_
        refine lv_iload hx hb d_Mo_mark_48 (lv_at hl 2 rfl) ?_
        refine lv_iload hx hb d_Mo_mark_50 (lv_at hl 3 rfl) ?_
        refine lv_iload_n hx hb d_Mo_mark_52 rfl (lv_at hl 7 rfl) ?_
        refine sn_icmp_ne (tgt := 61) hx hb d_Mo_mark_53 (by decide) (fun b75 => ?_) (fun b75 => ?_)
        · refine lv_iload_n hx hb d_Mo_mark_61 rfl (lv_at hl 7 rfl) ?_
          refine sn_if_eq (tgt := 73) hx hb d_Mo_mark_62 (by decide) (fun b76 => ?_) (fun b76 => ?_)
          · omega
          · refine lv_iload hx hb d_Mo_mark_65 (lv_at hl 0 rfl) ?_
            refine lv_iload hx hb d_Mo_mark_67 (lv_at hl 1 rfl) ?_
            refine sn_iaddT hx hb d_Mo_mark_69 (fun z77 hz77a hz77b => ?_)
            refine lv_goto (tgt := 78) hx hb d_Mo_mark_70 (by decide) ?_
            refine tz_call (A1 := ga (adM a) H.size) (tz_runV (C := "StoryMachineModel") (As := [.int z69, .int z77]) (rest := []) ⟨hx, hb, hml, hown, hts⟩ (c_Mo_setByte l hfl dC dI cI cJ a H.size th tr dp zi co sh lt ts mf z69 z77 c41) (tx_cb (n := 2) hts rfl rfl ⟨Nat.le_of_ble_eq_true rfl, Nat.le_of_ble_eq_true rfl⟩ (tx_code.of (hts _ mw_1353)) (hts _ mw_12) (by decide +kernel) (hts _ mw_1350)) (hts _ mw_1352) (hts _ ms_Mo_setByte) ⟨tz_blind, sv_recv (q0 := 0) hts in_Mo hK hI kM_0 rfl, fun U hU hW => ⟨rfl, by rw [hU], by rw [hU]; exact hI.1, va_K.moved hW.alike hK, hst _ _ hI.2 U hU hW⟩⟩ rfl rfl hl.1 rfl (lv_room (Nat.le_of_ble_eq_true rfl)) d_Mo_mark_78 ⟨Nat.le_of_ble_eq_true rfl, Nat.le_of_ble_eq_true rfl⟩) hI.2 (fun q _ h => ga_sub hAC hA0 hI.2 q h) (ga_sub hAC hA0 hI.2) (fun v t H1 locs1 ht hWt hpost _ _ hS => ?_) (fun x t H1 locs1 ht hWt hpost _ _ hS => (hpost.2 x rfl).elim)
            rcases hpost.1 _ rfl with ⟨t_tr78, hv, c79, c79_0, hI1⟩ | ⟨f_mf80, hv, c81, c81_0, c81_1, c81_2, hI1⟩
            · cases hv
              have hI : sI (dC, dI) vcl cI cJ (gsM a th t_tr78 dp zi co sh lt ts mf) A s.heap H1 locs1 := ⟨by rw [← ht]; exact hI1, hS⟩
              obtain ⟨-, ⟨o82, o83⟩, -, -, -, -, -, -, -⟩ := id c79
              clear hpost hI1 hS ht hWt
              revert hI; generalize H1 = H; generalize locs1 = locs; intro hI
              subst hZ
              exact tz_ret (W.vret hx hb hr (fun t ht hW => ⟨⟨fun v9 hv9 => by cases hv9; exact (Or.inl ⟨t_tr78, rfl, c79, by omega, by rw [ht]; exact hI.1⟩), fun x9 hx9 => (by cases hx9)⟩, hI.2.F ht⟩) hI.2.2.2 d_Mo_mark_81)
            · cases hv
              have hI : sI (dC, dI) vcl cI cJ (gsM a th tr dp zi co sh lt ts f_mf80) A s.heap H1 locs1 := ⟨by rw [← ht]; exact hI1, hS⟩
              obtain ⟨-, -, -, -, -, -, -, -, -⟩ := id c81
              clear hpost hI1 hS ht hWt
              revert hI; generalize H1 = H; generalize locs1 = locs; intro hI
              subst hZ
              exact tz_ret (W.vret hx hb hr (fun t ht hW => ⟨⟨fun v9 hv9 => by cases hv9; exact (Or.inr (⟨f_mf80, rfl, c81, by omega, by omega, by omega, by omega, by rw [ht]; exact hI.1⟩)), fun x9 hx9 => (by cases hx9)⟩, hI.2.F ht⟩) hI.2.2.2 d_Mo_mark_81)
        · refine lv_iload hx hb d_Mo_mark_56 (lv_at hl 0 rfl) ?_
          refine lv_goto (tgt := 78) hx hb d_Mo_mark_58 (by decide) ?_
          refine tz_call (A1 := ga (adM a) H.size) (tz_runV (C := "StoryMachineModel") (As := [.int z69, .int z74]) (rest := []) ⟨hx, hb, hml, hown, hts⟩ (c_Mo_setByte l hfl dC dI cI cJ a H.size th tr dp zi co sh lt ts mf z69 z74 c41) (tx_cb (n := 2) hts rfl rfl ⟨Nat.le_of_ble_eq_true rfl, Nat.le_of_ble_eq_true rfl⟩ (tx_code.of (hts _ mw_1353)) (hts _ mw_12) (by decide +kernel) (hts _ mw_1350)) (hts _ mw_1352) (hts _ ms_Mo_setByte) ⟨tz_blind, sv_recv (q0 := 0) hts in_Mo hK hI kM_0 rfl, fun U hU hW => ⟨rfl, by rw [hU], by rw [hU]; exact hI.1, va_K.moved hW.alike hK, hst _ _ hI.2 U hU hW⟩⟩ rfl rfl hl.1 rfl (lv_room (Nat.le_of_ble_eq_true rfl)) d_Mo_mark_78 ⟨Nat.le_of_ble_eq_true rfl, Nat.le_of_ble_eq_true rfl⟩) hI.2 (fun q _ h => ga_sub hAC hA0 hI.2 q h) (ga_sub hAC hA0 hI.2) (fun v t H1 locs1 ht hWt hpost _ _ hS => ?_) (fun x t H1 locs1 ht hWt hpost _ _ hS => (hpost.2 x rfl).elim)
          rcases hpost.1 _ rfl with ⟨t_tr84, hv, c85, c85_0, hI1⟩ | ⟨f_mf86, hv, c87, c87_0, c87_1, c87_2, hI1⟩
          · cases hv
            have hI : sI (dC, dI) vcl cI cJ (gsM a th t_tr84 dp zi co sh lt ts mf) A s.heap H1 locs1 := ⟨by rw [← ht]; exact hI1, hS⟩
            obtain ⟨-, ⟨o88, o89⟩, -, -, -, -, -, -, -⟩ := id c85
            clear hpost hI1 hS ht hWt
            revert hI; generalize H1 = H; generalize locs1 = locs; intro hI
            subst hZ
            exact tz_ret (W.vret hx hb hr (fun t ht hW => ⟨⟨fun v9 hv9 => by cases hv9; exact (Or.inl ⟨t_tr84, rfl, c85, by omega, by rw [ht]; exact hI.1⟩), fun x9 hx9 => (by cases hx9)⟩, hI.2.F ht⟩) hI.2.2.2 d_Mo_mark_81)
          · cases hv
            have hI : sI (dC, dI) vcl cI cJ (gsM a th tr dp zi co sh lt ts f_mf86) A s.heap H1 locs1 := ⟨by rw [← ht]; exact hI1, hS⟩
            obtain ⟨-, -, -, -, -, -, -, -, -⟩ := id c87
            clear hpost hI1 hS ht hWt
            revert hI; generalize H1 = H; generalize locs1 = locs; intro hI
            subst hZ
            exact tz_ret (W.vret hx hb hr (fun t ht hW => ⟨⟨fun v9 hv9 => by cases hv9; exact (Or.inr (⟨f_mf86, rfl, c87, by omega, by omega, by omega, by omega, by rw [ht]; exact hI.1⟩)), fun x9 hx9 => (by cases hx9)⟩, hI.2.F ht⟩) hI.2.2.2 d_Mo_mark_81)
    · omega
  · cases hv
    have hI : sI (dC, dI) vcl cI cJ (gsM a th tr dp zi co sh lt ts mf) A s.heap H1 locs1 := ⟨by rw [← ht]; exact hI1, hS⟩
    clear hpost hI1 hS ht hWt
    revert hI; generalize H1 = H; generalize locs1 = locs; intro hI
    refine lv_istore (lv' := [(4, .int z25), (0, .ref (a 0)), (1, .int x1), (2, .int x2), (3, .int x3)]) hx hb d_Mo_mark_6 hl (by decide) rfl (fun ls hl => ?_)
    refine lv_aload_n hx hb d_Mo_mark_8 rfl (lv_at hl 1 rfl) ?_
    refine sv_gete (C := "StoryMachineModel") (T := T_Mo) (N := 51) hx hb hts in_Mo hown hK hI 0 kM_0 rfl 25 (by decide) (hts _ mw_1088) rfl d_Mo_mark_9 (fun z90 hz90 => ?_)
    refine sn_if_le (tgt := 16) hx hb d_Mo_mark_12 (by decide) (fun b91 => ?_) (fun b91 => ?_)
    · refine lv_aload_n hx hb d_Mo_mark_16 rfl (lv_at hl 1 rfl) ?_
      refine lv_iload_n hx hb d_Mo_mark_17 rfl (lv_at hl 2 rfl) ?_
      refine tz_call (A1 := ga (adM a) H.size) (tz_runV (C := "StoryMachineModel") (As := [.int x1]) (rest := []) ⟨hx, hb, hml, hown, hts⟩ (c_Mo_objectAt l hfl dC dI cI cJ a H.size th tr dp zi co sh lt ts mf x1 c26) (tx_cb (n := 1) hts rfl rfl ⟨Nat.le_of_ble_eq_true rfl, Nat.le_of_ble_eq_true rfl⟩ (tx_code.of (hts _ mw_1329)) (hts _ mw_12) (by decide +kernel) (hts _ mw_1326)) (hts _ mw_1328) (hts _ ms_Mo_objectAt) ⟨tz_blind, sv_recv (q0 := 0) hts in_Mo hK hI kM_0 rfl, fun U hU hW => ⟨rfl, by rw [hU], by rw [hU]; exact hI.1, va_K.moved hW.alike hK, hst _ _ hI.2 U hU hW⟩⟩ rfl rfl hl.1 rfl (lv_room (Nat.le_of_ble_eq_true rfl)) d_Mo_mark_18 ⟨Nat.le_of_ble_eq_true rfl, Nat.le_of_ble_eq_true rfl⟩) hI.2 (fun q _ h => ga_sub hAC hA0 hI.2 q h) (ga_sub hAC hA0 hI.2) (fun v t H1 locs1 ht hWt hpost _ _ hS => ?_) (fun x t H1 locs1 ht hWt hpost _ _ hS => (hpost.2 x rfl).elim)
      rcases hpost.1 _ rfl with ⟨z92, t_tr93, hv, c94, c94_0, c94_1, c94_2, c94_3, hI1⟩ | ⟨z95, hv, c96, c96_0, c96_1, c96_2, c96_3, c96_4, c96_5, hI1⟩
      · cases hv
        have hI : sI (dC, dI) vcl cI cJ (gsM a th t_tr93 dp zi co sh lt ts mf) A s.heap H1 locs1 := ⟨by rw [← ht]; exact hI1, hS⟩
        obtain ⟨-, ⟨o97, o98⟩, -, -, -, -, -, -, -⟩ := id c94
        clear hpost hI1 hS ht hWt
        revert hI; generalize H1 = H; generalize locs1 = locs; intro hI
        refine lv_iload_n hx hb d_Mo_mark_21 rfl (lv_at hl 3 rfl) ?_
        refine sn_bipush hx hb d_Mo_mark_22 (by decide) (fun z99 hz99 => ?_)
        refine sn_idiv (k := 8) hx hb d_Mo_mark_24 (by omega) (by omega) (by omega) (fun z100 hz100 => ?_)
        refine sn_iadd hx hb d_Mo_mark_25 (by omega) (by omega) (fun z101 hz101 => ?_)
        refine lv_istore (lv' := [(5, .int z101), (4, .int z25), (0, .ref (a 0)), (1, .int x1), (2, .int x2), (3, .int x3)]) hx hb d_Mo_mark_26 hl (by decide) rfl (fun ls hl => ?_)
        refine sn_sipush hx hb d_Mo_mark_28 (by decide) (fun z102 hz102 => ?_)
        refine lv_iload_n hx hb d_Mo_mark_31 rfl (lv_at hl 4 rfl) ?_
        refine sn_bipush hx hb d_Mo_mark_32 (by decide) (fun z103 hz103 => ?_)
        refine sn_irem (k := 8) hx hb d_Mo_mark_34 (by omega) (by omega) (by omega) (fun z104 hz104 => ?_)
        refine sn_ishrT hx hb d_Mo_mark_35 (fun z105 hz105a hz105b => ?_)
        refine lv_istore (lv' := [(6, .int z105), (5, .int z101), (4, .int z25), (0, .ref (a 0)), (1, .int x1), (2, .int x2), (3, .int x3)]) hx hb d_Mo_mark_36 hl (by decide) rfl (fun ls hl => ?_)
        refine lv_aload_n hx hb d_Mo_mark_38 rfl (lv_at hl 3 rfl) ?_
        refine sv_getr (C := "StoryMachineModel") (T := T_Mo) (N := 51) hx hb hts in_Mo hown hK hI 0 kM_0 rfl 1 (by decide) (hts _ mw_1064) rfl d_Mo_mark_39 ?_
        refine lv_iload hx hb d_Mo_mark_42 (lv_at hl 1 rfl) ?_
        refine sv_ialde hx hb hK hI 1 kM_1 (by omega) (by omega) d_Mo_mark_44 (fun z106 hz106 => ?_)
        have hz106r := c94.2.2.2.2.2.2.2.2 (z101.toNatClampNeg)
        rw [← hz106] at hz106r
        have hz106x : z106.toInt = (mf z101.toInt.toNat).toInt := by rw [hz106]; rfl
        refine lv_istore (lv' := [(7, .int z106), (6, .int z105), (5, .int z101), (4, .int z25), (0, .ref (a 0)), (1, .int x1), (2, .int x2), (3, .int x3)]) hx hb d_Mo_mark_45 hl (by decide) rfl (fun ls hl => ?_)
        refine lv_aload_n hx hb d_Mo_mark_47 rfl (lv_at hl 4 rfl) ?_
        refine lv_iload hx hb d_Mo_mark_48 (lv_at hl 2 rfl) ?_
        refine lv_iload hx hb d_Mo_mark_50 (lv_at hl 3 rfl) ?_
        refine lv_iload_n hx hb d_Mo_mark_52 rfl (lv_at hl 7 rfl) ?_
        refine sn_icmp_ne (tgt := 61) hx hb d_Mo_mark_53 (by decide) (fun b107 => ?_) (fun b107 => ?_)
        · refine lv_iload_n hx hb d_Mo_mark_61 rfl (lv_at hl 7 rfl) ?_
          refine sn_if_eq (tgt := 73) hx hb d_Mo_mark_62 (by decide) (fun b108 => ?_) (fun b108 => ?_)
          · refine lv_iload hx hb d_Mo_mark_73 (lv_at hl 0 rfl) ?_
            refine lv_iload hx hb d_Mo_mark_75 (lv_at hl 1 rfl) ?_
            refine sn_isubT hx hb d_Mo_mark_77 (fun z109 hz109a hz109b => ?_)
            refine tz_call (A1 := ga (adM a) H.size) (tz_runV (C := "StoryMachineModel") (As := [.int z101, .int z109]) (rest := []) ⟨hx, hb, hml, hown, hts⟩ (c_Mo_setByte l hfl dC dI cI cJ a H.size th t_tr93 dp zi co sh lt ts mf z101 z109 c94) (tx_cb (n := 2) hts rfl rfl ⟨Nat.le_of_ble_eq_true rfl, Nat.le_of_ble_eq_true rfl⟩ (tx_code.of (hts _ mw_1353)) (hts _ mw_12) (by decide +kernel) (hts _ mw_1350)) (hts _ mw_1352) (hts _ ms_Mo_setByte) ⟨tz_blind, sv_recv (q0 := 0) hts in_Mo hK hI kM_0 rfl, fun U hU hW => ⟨rfl, by rw [hU], by rw [hU]; exact hI.1, va_K.moved hW.alike hK, hst _ _ hI.2 U hU hW⟩⟩ rfl rfl hl.1 rfl (lv_room (Nat.le_of_ble_eq_true rfl)) d_Mo_mark_78 ⟨Nat.le_of_ble_eq_true rfl, Nat.le_of_ble_eq_true rfl⟩) hI.2 (fun q _ h => ga_sub hAC hA0 hI.2 q h) (ga_sub hAC hA0 hI.2) (fun v t H1 locs1 ht hWt hpost _ _ hS => ?_) (fun x t H1 locs1 ht hWt hpost _ _ hS => (hpost.2 x rfl).elim)
            rcases hpost.1 _ rfl with ⟨t_tr110, hv, c111, c111_0, hI1⟩ | ⟨f_mf112, hv, c113, c113_0, c113_1, c113_2, hI1⟩
            · cases hv
              have hI : sI (dC, dI) vcl cI cJ (gsM a th t_tr110 dp zi co sh lt ts mf) A s.heap H1 locs1 := ⟨by rw [← ht]; exact hI1, hS⟩
              obtain ⟨-, ⟨o114, o115⟩, -, -, -, -, -, -, -⟩ := id c111
              clear hpost hI1 hS ht hWt
              revert hI; generalize H1 = H; generalize locs1 = locs; intro hI
              subst hZ
              exact tz_ret (W.vret hx hb hr (fun t ht hW => ⟨⟨fun v9 hv9 => by cases hv9; exact (Or.inl ⟨t_tr110, rfl, c111, by omega, by rw [ht]; exact hI.1⟩), fun x9 hx9 => (by cases hx9)⟩, hI.2.F ht⟩) hI.2.2.2 d_Mo_mark_81)
            · omega
          · omega
        · refine lv_iload hx hb d_Mo_mark_56 (lv_at hl 0 rfl) ?_
          refine lv_goto (tgt := 78) hx hb d_Mo_mark_58 (by decide) ?_
          refine tz_call (A1 := ga (adM a) H.size) (tz_runV (C := "StoryMachineModel") (As := [.int z101, .int z106]) (rest := []) ⟨hx, hb, hml, hown, hts⟩ (c_Mo_setByte l hfl dC dI cI cJ a H.size th t_tr93 dp zi co sh lt ts mf z101 z106 c94) (tx_cb (n := 2) hts rfl rfl ⟨Nat.le_of_ble_eq_true rfl, Nat.le_of_ble_eq_true rfl⟩ (tx_code.of (hts _ mw_1353)) (hts _ mw_12) (by decide +kernel) (hts _ mw_1350)) (hts _ mw_1352) (hts _ ms_Mo_setByte) ⟨tz_blind, sv_recv (q0 := 0) hts in_Mo hK hI kM_0 rfl, fun U hU hW => ⟨rfl, by rw [hU], by rw [hU]; exact hI.1, va_K.moved hW.alike hK, hst _ _ hI.2 U hU hW⟩⟩ rfl rfl hl.1 rfl (lv_room (Nat.le_of_ble_eq_true rfl)) d_Mo_mark_78 ⟨Nat.le_of_ble_eq_true rfl, Nat.le_of_ble_eq_true rfl⟩) hI.2 (fun q _ h => ga_sub hAC hA0 hI.2 q h) (ga_sub hAC hA0 hI.2) (fun v t H1 locs1 ht hWt hpost _ _ hS => ?_) (fun x t H1 locs1 ht hWt hpost _ _ hS => (hpost.2 x rfl).elim)
          rcases hpost.1 _ rfl with ⟨t_tr116, hv, c117, c117_0, hI1⟩ | ⟨f_mf118, hv, c119, c119_0, c119_1, c119_2, hI1⟩
          · cases hv
            have hI : sI (dC, dI) vcl cI cJ (gsM a th t_tr116 dp zi co sh lt ts mf) A s.heap H1 locs1 := ⟨by rw [← ht]; exact hI1, hS⟩
            obtain ⟨-, ⟨o120, o121⟩, -, -, -, -, -, -, -⟩ := id c117
            clear hpost hI1 hS ht hWt
            revert hI; generalize H1 = H; generalize locs1 = locs; intro hI
            subst hZ
            exact tz_ret (W.vret hx hb hr (fun t ht hW => ⟨⟨fun v9 hv9 => by cases hv9; exact (Or.inl ⟨t_tr116, rfl, c117, by omega, by rw [ht]; exact hI.1⟩), fun x9 hx9 => (by cases hx9)⟩, hI.2.F ht⟩) hI.2.2.2 d_Mo_mark_81)
          · omega
      · cases hv
        have hI : sI (dC, dI) vcl cI cJ (gsM a th tr dp zi co sh lt ts mf) A s.heap H1 locs1 := ⟨by rw [← ht]; exact hI1, hS⟩
        clear hpost hI1 hS ht hWt
        revert hI; generalize H1 = H; generalize locs1 = locs; intro hI
        refine lv_iload_n hx hb d_Mo_mark_21 rfl (lv_at hl 3 rfl) ?_
        refine sn_bipush hx hb d_Mo_mark_22 (by decide) (fun z122 hz122 => ?_)
        refine sn_idiv (k := 8) hx hb d_Mo_mark_24 (by omega) (by omega) (by omega) (fun z123 hz123 => ?_)
        refine sn_iadd hx hb d_Mo_mark_25 (by omega) (by omega) (fun z124 hz124 => ?_)
        refine lv_istore (lv' := [(5, .int z124), (4, .int z25), (0, .ref (a 0)), (1, .int x1), (2, .int x2), (3, .int x3)]) hx hb d_Mo_mark_26 hl (by decide) rfl (fun ls hl => ?_)
        refine sn_sipush hx hb d_Mo_mark_28 (by decide) (fun z125 hz125 => ?_)
        refine lv_iload_n hx hb d_Mo_mark_31 rfl (lv_at hl 4 rfl) ?_
        refine sn_bipush hx hb d_Mo_mark_32 (by decide) (fun z126 hz126 => ?_)
        refine sn_irem (k := 8) hx hb d_Mo_mark_34 (by omega) (by omega) (by omega) (fun z127 hz127 => ?_)
        refine sn_ishrT hx hb d_Mo_mark_35 (fun z128 hz128a hz128b => ?_)
        refine lv_istore (lv' := [(6, .int z128), (5, .int z124), (4, .int z25), (0, .ref (a 0)), (1, .int x1), (2, .int x2), (3, .int x3)]) hx hb d_Mo_mark_36 hl (by decide) rfl (fun ls hl => ?_)
        refine lv_aload_n hx hb d_Mo_mark_38 rfl (lv_at hl 3 rfl) ?_
        refine sv_getr (C := "StoryMachineModel") (T := T_Mo) (N := 51) hx hb hts in_Mo hown hK hI 0 kM_0 rfl 1 (by decide) (hts _ mw_1064) rfl d_Mo_mark_39 ?_
        refine lv_iload hx hb d_Mo_mark_42 (lv_at hl 1 rfl) ?_
        refine sv_ialde hx hb hK hI 1 kM_1 (by omega) (by omega) d_Mo_mark_44 (fun z129 hz129 => ?_)
        have hz129r := c96.2.2.2.2.2.2.2.2 (z124.toNatClampNeg)
        rw [← hz129] at hz129r
        have hz129x : z129.toInt = (mf z124.toInt.toNat).toInt := by rw [hz129]; rfl
        refine lv_istore (lv' := [(7, .int z129), (6, .int z128), (5, .int z124), (4, .int z25), (0, .ref (a 0)), (1, .int x1), (2, .int x2), (3, .int x3)]) hx hb d_Mo_mark_45 hl (by decide) rfl (fun ls hl => ?_)
        refine lv_aload_n hx hb d_Mo_mark_47 rfl (lv_at hl 4 rfl) ?_
        refine lv_iload hx hb d_Mo_mark_48 (lv_at hl 2 rfl) ?_
        refine lv_iload hx hb d_Mo_mark_50 (lv_at hl 3 rfl) ?_
        refine lv_iload_n hx hb d_Mo_mark_52 rfl (lv_at hl 7 rfl) ?_
        refine sn_icmp_ne (tgt := 61) hx hb d_Mo_mark_53 (by decide) (fun b130 => ?_) (fun b130 => ?_)
        · refine lv_iload_n hx hb d_Mo_mark_61 rfl (lv_at hl 7 rfl) ?_
          refine sn_if_eq (tgt := 73) hx hb d_Mo_mark_62 (by decide) (fun b131 => ?_) (fun b131 => ?_)
          · refine lv_iload hx hb d_Mo_mark_73 (lv_at hl 0 rfl) ?_
            refine lv_iload hx hb d_Mo_mark_75 (lv_at hl 1 rfl) ?_
            refine sn_isubT hx hb d_Mo_mark_77 (fun z132 hz132a hz132b => ?_)
            refine tz_call (A1 := ga (adM a) H.size) (tz_runV (C := "StoryMachineModel") (As := [.int z124, .int z132]) (rest := []) ⟨hx, hb, hml, hown, hts⟩ (c_Mo_setByte l hfl dC dI cI cJ a H.size th tr dp zi co sh lt ts mf z124 z132 c96) (tx_cb (n := 2) hts rfl rfl ⟨Nat.le_of_ble_eq_true rfl, Nat.le_of_ble_eq_true rfl⟩ (tx_code.of (hts _ mw_1353)) (hts _ mw_12) (by decide +kernel) (hts _ mw_1350)) (hts _ mw_1352) (hts _ ms_Mo_setByte) ⟨tz_blind, sv_recv (q0 := 0) hts in_Mo hK hI kM_0 rfl, fun U hU hW => ⟨rfl, by rw [hU], by rw [hU]; exact hI.1, va_K.moved hW.alike hK, hst _ _ hI.2 U hU hW⟩⟩ rfl rfl hl.1 rfl (lv_room (Nat.le_of_ble_eq_true rfl)) d_Mo_mark_78 ⟨Nat.le_of_ble_eq_true rfl, Nat.le_of_ble_eq_true rfl⟩) hI.2 (fun q _ h => ga_sub hAC hA0 hI.2 q h) (ga_sub hAC hA0 hI.2) (fun v t H1 locs1 ht hWt hpost _ _ hS => ?_) (fun x t H1 locs1 ht hWt hpost _ _ hS => (hpost.2 x rfl).elim)
            rcases hpost.1 _ rfl with ⟨t_tr133, hv, c134, c134_0, hI1⟩ | ⟨f_mf135, hv, c136, c136_0, c136_1, c136_2, hI1⟩
            · cases hv
              have hI : sI (dC, dI) vcl cI cJ (gsM a th t_tr133 dp zi co sh lt ts mf) A s.heap H1 locs1 := ⟨by rw [← ht]; exact hI1, hS⟩
              obtain ⟨-, ⟨o137, o138⟩, -, -, -, -, -, -, -⟩ := id c134
              clear hpost hI1 hS ht hWt
              revert hI; generalize H1 = H; generalize locs1 = locs; intro hI
              subst hZ
              exact tz_ret (W.vret hx hb hr (fun t ht hW => ⟨⟨fun v9 hv9 => by cases hv9; exact (Or.inl ⟨t_tr133, rfl, c134, by omega, by rw [ht]; exact hI.1⟩), fun x9 hx9 => (by cases hx9)⟩, hI.2.F ht⟩) hI.2.2.2 d_Mo_mark_81)
            · cases hv
              have hI : sI (dC, dI) vcl cI cJ (gsM a th tr dp zi co sh lt ts f_mf135) A s.heap H1 locs1 := ⟨by rw [← ht]; exact hI1, hS⟩
              obtain ⟨-, -, -, -, -, -, -, -, -⟩ := id c136
              clear hpost hI1 hS ht hWt
              revert hI; generalize H1 = H; generalize locs1 = locs; intro hI
              subst hZ
              exact tz_ret (W.vret hx hb hr (fun t ht hW => ⟨⟨fun v9 hv9 => by cases hv9; exact (Or.inr (⟨f_mf135, rfl, c136, by omega, by omega, by omega, by omega, by rw [ht]; exact hI.1⟩)), fun x9 hx9 => (by cases hx9)⟩, hI.2.F ht⟩) hI.2.2.2 d_Mo_mark_81)
          · omega
        · refine lv_iload hx hb d_Mo_mark_56 (lv_at hl 0 rfl) ?_
          refine lv_goto (tgt := 78) hx hb d_Mo_mark_58 (by decide) ?_
          refine tz_call (A1 := ga (adM a) H.size) (tz_runV (C := "StoryMachineModel") (As := [.int z124, .int z129]) (rest := []) ⟨hx, hb, hml, hown, hts⟩ (c_Mo_setByte l hfl dC dI cI cJ a H.size th tr dp zi co sh lt ts mf z124 z129 c96) (tx_cb (n := 2) hts rfl rfl ⟨Nat.le_of_ble_eq_true rfl, Nat.le_of_ble_eq_true rfl⟩ (tx_code.of (hts _ mw_1353)) (hts _ mw_12) (by decide +kernel) (hts _ mw_1350)) (hts _ mw_1352) (hts _ ms_Mo_setByte) ⟨tz_blind, sv_recv (q0 := 0) hts in_Mo hK hI kM_0 rfl, fun U hU hW => ⟨rfl, by rw [hU], by rw [hU]; exact hI.1, va_K.moved hW.alike hK, hst _ _ hI.2 U hU hW⟩⟩ rfl rfl hl.1 rfl (lv_room (Nat.le_of_ble_eq_true rfl)) d_Mo_mark_78 ⟨Nat.le_of_ble_eq_true rfl, Nat.le_of_ble_eq_true rfl⟩) hI.2 (fun q _ h => ga_sub hAC hA0 hI.2 q h) (ga_sub hAC hA0 hI.2) (fun v t H1 locs1 ht hWt hpost _ _ hS => ?_) (fun x t H1 locs1 ht hWt hpost _ _ hS => (hpost.2 x rfl).elim)
          rcases hpost.1 _ rfl with ⟨t_tr139, hv, c140, c140_0, hI1⟩ | ⟨f_mf141, hv, c142, c142_0, c142_1, c142_2, hI1⟩
          · cases hv
            have hI : sI (dC, dI) vcl cI cJ (gsM a th t_tr139 dp zi co sh lt ts mf) A s.heap H1 locs1 := ⟨by rw [← ht]; exact hI1, hS⟩
            obtain ⟨-, ⟨o143, o144⟩, -, -, -, -, -, -, -⟩ := id c140
            clear hpost hI1 hS ht hWt
            revert hI; generalize H1 = H; generalize locs1 = locs; intro hI
            subst hZ
            exact tz_ret (W.vret hx hb hr (fun t ht hW => ⟨⟨fun v9 hv9 => by cases hv9; exact (Or.inl ⟨t_tr139, rfl, c140, by omega, by rw [ht]; exact hI.1⟩), fun x9 hx9 => (by cases hx9)⟩, hI.2.F ht⟩) hI.2.2.2 d_Mo_mark_81)
          · cases hv
            have hI : sI (dC, dI) vcl cI cJ (gsM a th tr dp zi co sh lt ts f_mf141) A s.heap H1 locs1 := ⟨by rw [← ht]; exact hI1, hS⟩
            obtain ⟨-, -, -, -, -, -, -, -, -⟩ := id c142
            clear hpost hI1 hS ht hWt
            revert hI; generalize H1 = H; generalize locs1 = locs; intro hI
            subst hZ
            exact tz_ret (W.vret hx hb hr (fun t ht hW => ⟨⟨fun v9 hv9 => by cases hv9; exact (Or.inr (⟨f_mf141, rfl, c142, by omega, by omega, by omega, by omega, by rw [ht]; exact hI.1⟩)), fun x9 hx9 => (by cases hx9)⟩, hI.2.F ht⟩) hI.2.2.2 d_Mo_mark_81)
    · omega
