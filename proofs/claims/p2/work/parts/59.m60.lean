abbrev q_Mo_insert (dC : Nat → ClassId) (dI : Nat → Nat → Nat) (cI cJ : ClassId) (a : Nat → Nat) (th tr dp zi co sh lt ts : Int) (mf : Nat → Int32) (x1 : Int32) (x2 : Int32) : Outcome → State → Prop := fun o t => (∀ v, o = .returned v → ((∃ (tr_ : Int) (mf_ : Nat → Int32), v = none ∧ okM th tr_ dp zi co sh lt ts mf_ ∧ (1 ≤ tr_) ∧ sh_I (dC, dI) vcl cI cJ (gsM a th tr_ dp zi co sh lt ts mf_) t.heap) ∨ (∃ (mf_ : Nat → Int32), v = none ∧ okM th tr dp zi co sh lt ts mf_ ∧ (1 ≤ x1.toInt) ∧ (x1.toInt ≤ 20) ∧ (1 ≤ x2.toInt) ∧ (x2.toInt ≤ 20) ∧ (tr ≤ 0) ∧ sh_I (dC, dI) vcl cI cJ (gsM a th tr dp zi co sh lt ts mf_) t.heap))) ∧ (∀ x, o = .threw x → (False))
def rm_Mo_insert : Room := { frames := 6, cells := 0, slots := 0, locals := 136 }
set_option maxHeartbeats 4000000 in
set_option maxRecDepth 100000 in
theorem c_Mo_insert (l : Launch) (hfl : l.flags = pinnedFlags ++ [noTraceFlag]) (dC : Nat → ClassId) (dI : Nat → Nat → Nat) (cI cJ : ClassId) (a : Nat → Nat) (sz : Nat) (th tr dp zi co sh lt ts : Int) (mf : Nat → Int32) (x1 : Int32) (x2 : Int32) (hok : okM th tr dp zi co sh lt ts mf) : tz_Met l ⟨"StoryMachineModel", "insert", "(II)V"⟩ tw_tbl rm_Mo_insert (tzP (dC, dI) vcl cI cJ (gsM a th tr dp zi co sh lt ts mf) a (adM a) [.ref (a 0), .int x1, .int x2] sz) (tq_Q (q_Mo_insert dC dI cI cJ a th tr dp zi co sh lt ts mf x1 x2) (ga (adM a) sz)) 0 0 0 0 (ga (adM a) sz) := by
  refine tz_ofW (cc := prog_13_method_27_code) (maxL := 3) (ret := none) (by decide) (tx_isM mw_1341) ?_
  intro p e s m args below meth c s₁ B hml hv
  obtain ⟨rfl, hsz, hI0, hK, hst0⟩ := hv
  have hx := B.exec
  have hb := B.bytes
  have hr := B.returns
  have hts := atoms_spec (ws := tw_tbl) B.pre
  have hown : s.vm.findClass "StoryMachineModel" = some m.cls := findClass_of_methodNamed B.named
  have hlocks := B.notSynchronized
  subst hsz
  have hst := fun (H : Heap) (locs : List Loc) (hS : va_S (ga (adM a) s.heap.size) s.heap H locs) (U : State) (hU : U.heap = H) (hW : s.WarmedH U.vm) => zS_all adM_map hI0 hst0 hS hU hW
  have hAC : ∀ q ∈ adM a, ga (adM a) s.heap.size q := fun q h => Or.inl h
  have hA0 : ∀ q, s.heap.size ≤ q → ga (adM a) s.heap.size q := fun q h => Or.inr h
  have hI : sI (dC, dI) vcl cI cJ (gsM a th tr dp zi co sh lt ts mf) (ga (adM a) s.heap.size) s.heap s.heap [] := ⟨hI0, va_S.rf⟩
  clear hI0 hst0
  have hl := lv_entry ([.ref (a 0), .int x1, .int x2]) (n := 3) (Nat.le_of_ble_eq_true rfl)
  rw [lg_entry_eq]
  generalize (lg_sl ([.ref (a 0), .int x1, .int x2]) ++ List.replicate (3 - (lg_sl ([.ref (a 0), .int x1, .int x2])).length) Slot.unset).toArray = ls at hl ⊢
  have hl : lv_has ls 3 [(0, .ref (a 0)), (1, .int x1), (2, .int x2)] := hl
  generalize hZ : tz_MQ below (tq_Q (q_Mo_insert dC dI cI cJ a th tr dp zi co sh lt ts mf x1 x2) (ga (adM a) s.heap.size)) ([.ref (a 0), .int x1, .int x2] : List Value).toArray s 0 0 0 0 (ga (adM a) s.heap.size) = Z
  obtain ⟨A, hAe⟩ : ∃ A, A = ga (adM a) s.heap.size := ⟨_, rfl⟩
  rw [← hAe] at hst hAC hA0 hI hZ
  refine sv_start hI (fun H locs hI => ?_)
  obtain ⟨⟨o1, o2⟩, ⟨o3, o4⟩, ⟨o5, o6⟩, ⟨o7, o8⟩, ⟨o9, o10⟩, ⟨o11, o12⟩, ⟨o13, o14⟩, ⟨o15, o16⟩, -⟩ := id hok
  have gx1 := sn_rng x1
  have gx2 := sn_rng x2
  refine lv_aload_n hx hb d_Mo_insert_0 rfl (lv_at hl 0 rfl) ?_
  refine lv_iload_n hx hb d_Mo_insert_1 rfl (lv_at hl 1 rfl) ?_
  refine sn_if_le (tgt := 25) hx hb d_Mo_insert_2 (by decide) (fun b17 => ?_) (fun b17 => ?_)
  · refine sn_iconst hx hb d_Mo_insert_25 (by decide) (fun z18 hz18 => ?_)
    refine sn_iconst hx hb d_Mo_insert_26 (by decide) (fun z19 hz19 => ?_)
    refine tz_call (A1 := ga (adM a) H.size) (tz_runV (C := "StoryMachineModel") (As := [.int z18, .int z19]) (rest := []) ⟨hx, hb, hml, hown, hts⟩ (c_Mo_good l hfl dC dI cI cJ a H.size th tr dp zi co sh lt ts mf z18 z19 hok (by omega) (by omega) (by omega) (by omega)) (tx_cb (n := 2) hts rfl rfl ⟨Nat.le_of_ble_eq_true rfl, Nat.le_of_ble_eq_true rfl⟩ (tx_code.of (hts _ mw_1240)) (hts _ mw_12) (by decide +kernel) (hts _ mw_1237)) (hts _ mw_1239) (hts _ ms_Mo_good) ⟨tz_blind, sv_recv (q0 := 0) hts in_Mo hK hI kM_0 rfl, fun U hU hW => ⟨rfl, by rw [hU], by rw [hU]; exact hI.1, va_K.moved hW.alike hK, hst _ _ hI.2 U hU hW⟩⟩ rfl rfl hl.1 rfl (lv_room (Nat.le_of_ble_eq_true rfl)) d_Mo_insert_27 ⟨Nat.le_of_ble_eq_true rfl, Nat.le_of_ble_eq_true rfl⟩) hI.2 (fun q _ h => ga_sub hAC hA0 hI.2 q h) (ga_sub hAC hA0 hI.2) (fun v t H1 locs1 ht hWt hpost _ _ hS => ?_) (fun x t H1 locs1 ht hWt hpost _ _ hS => (hpost.2 x rfl).elim)
    rcases hpost.1 _ rfl with ⟨z20, t_tr21, hv, c22, c22_0, c22_1, c22_2, c22_3, hI1⟩ | ⟨z23, hv, c24, c24_0, c24_1, c24_2, c24_3, hI1⟩
    · cases hv
      have hI : sI (dC, dI) vcl cI cJ (gsM a th t_tr21 dp zi co sh lt ts mf) A s.heap H1 locs1 := ⟨by rw [← ht]; exact hI1, hS⟩
      obtain ⟨-, ⟨o25, o26⟩, -, -, -, -, -, -, -⟩ := id c22
      clear hpost hI1 hS ht hWt
      revert hI; generalize H1 = H; generalize locs1 = locs; intro hI
      refine sn_if_ne (tgt := 34) hx hb d_Mo_insert_30 (by decide) (fun b27 => ?_) (fun b27 => ?_)
      · omega
      · subst hZ
        exact tz_ret (W.vret hx hb hr (fun t ht hW => ⟨⟨fun v9 hv9 => by cases hv9; exact (Or.inl ⟨t_tr21, mf, rfl, c22, by omega, by rw [ht]; exact hI.1⟩), fun x9 hx9 => (by cases hx9)⟩, hI.2.F ht⟩) hI.2.2.2 d_Mo_insert_33)
    · omega
  · refine lv_iload_n hx hb d_Mo_insert_5 rfl (lv_at hl 1 rfl) ?_
    refine sn_bipush hx hb d_Mo_insert_6 (by decide) (fun z28 hz28 => ?_)
    refine sn_icmp_ge (tgt := 25) hx hb d_Mo_insert_8 (by decide) (fun b29 => ?_) (fun b29 => ?_)
    · refine sn_iconst hx hb d_Mo_insert_25 (by decide) (fun z30 hz30 => ?_)
      refine sn_iconst hx hb d_Mo_insert_26 (by decide) (fun z31 hz31 => ?_)
      refine tz_call (A1 := ga (adM a) H.size) (tz_runV (C := "StoryMachineModel") (As := [.int z30, .int z31]) (rest := []) ⟨hx, hb, hml, hown, hts⟩ (c_Mo_good l hfl dC dI cI cJ a H.size th tr dp zi co sh lt ts mf z30 z31 hok (by omega) (by omega) (by omega) (by omega)) (tx_cb (n := 2) hts rfl rfl ⟨Nat.le_of_ble_eq_true rfl, Nat.le_of_ble_eq_true rfl⟩ (tx_code.of (hts _ mw_1240)) (hts _ mw_12) (by decide +kernel) (hts _ mw_1237)) (hts _ mw_1239) (hts _ ms_Mo_good) ⟨tz_blind, sv_recv (q0 := 0) hts in_Mo hK hI kM_0 rfl, fun U hU hW => ⟨rfl, by rw [hU], by rw [hU]; exact hI.1, va_K.moved hW.alike hK, hst _ _ hI.2 U hU hW⟩⟩ rfl rfl hl.1 rfl (lv_room (Nat.le_of_ble_eq_true rfl)) d_Mo_insert_27 ⟨Nat.le_of_ble_eq_true rfl, Nat.le_of_ble_eq_true rfl⟩) hI.2 (fun q _ h => ga_sub hAC hA0 hI.2 q h) (ga_sub hAC hA0 hI.2) (fun v t H1 locs1 ht hWt hpost _ _ hS => ?_) (fun x t H1 locs1 ht hWt hpost _ _ hS => (hpost.2 x rfl).elim)
      rcases hpost.1 _ rfl with ⟨z32, t_tr33, hv, c34, c34_0, c34_1, c34_2, c34_3, hI1⟩ | ⟨z35, hv, c36, c36_0, c36_1, c36_2, c36_3, hI1⟩
      · cases hv
        have hI : sI (dC, dI) vcl cI cJ (gsM a th t_tr33 dp zi co sh lt ts mf) A s.heap H1 locs1 := ⟨by rw [← ht]; exact hI1, hS⟩
        obtain ⟨-, ⟨o37, o38⟩, -, -, -, -, -, -, -⟩ := id c34
        clear hpost hI1 hS ht hWt
        revert hI; generalize H1 = H; generalize locs1 = locs; intro hI
        refine sn_if_ne (tgt := 34) hx hb d_Mo_insert_30 (by decide) (fun b39 => ?_) (fun b39 => ?_)
        · omega
        · subst hZ
          exact tz_ret (W.vret hx hb hr (fun t ht hW => ⟨⟨fun v9 hv9 => by cases hv9; exact (Or.inl ⟨t_tr33, mf, rfl, c34, by omega, by rw [ht]; exact hI.1⟩), fun x9 hx9 => (by cases hx9)⟩, hI.2.F ht⟩) hI.2.2.2 d_Mo_insert_33)
      · omega
    · refine lv_iload_n hx hb d_Mo_insert_11 rfl (lv_at hl 2 rfl) ?_
      refine sn_if_le (tgt := 25) hx hb d_Mo_insert_12 (by decide) (fun b40 => ?_) (fun b40 => ?_)
      · refine sn_iconst hx hb d_Mo_insert_25 (by decide) (fun z41 hz41 => ?_)
        refine sn_iconst hx hb d_Mo_insert_26 (by decide) (fun z42 hz42 => ?_)
        refine tz_call (A1 := ga (adM a) H.size) (tz_runV (C := "StoryMachineModel") (As := [.int z41, .int z42]) (rest := []) ⟨hx, hb, hml, hown, hts⟩ (c_Mo_good l hfl dC dI cI cJ a H.size th tr dp zi co sh lt ts mf z41 z42 hok (by omega) (by omega) (by omega) (by omega)) (tx_cb (n := 2) hts rfl rfl ⟨Nat.le_of_ble_eq_true rfl, Nat.le_of_ble_eq_true rfl⟩ (tx_code.of (hts _ mw_1240)) (hts _ mw_12) (by decide +kernel) (hts _ mw_1237)) (hts _ mw_1239) (hts _ ms_Mo_good) ⟨tz_blind, sv_recv (q0 := 0) hts in_Mo hK hI kM_0 rfl, fun U hU hW => ⟨rfl, by rw [hU], by rw [hU]; exact hI.1, va_K.moved hW.alike hK, hst _ _ hI.2 U hU hW⟩⟩ rfl rfl hl.1 rfl (lv_room (Nat.le_of_ble_eq_true rfl)) d_Mo_insert_27 ⟨Nat.le_of_ble_eq_true rfl, Nat.le_of_ble_eq_true rfl⟩) hI.2 (fun q _ h => ga_sub hAC hA0 hI.2 q h) (ga_sub hAC hA0 hI.2) (fun v t H1 locs1 ht hWt hpost _ _ hS => ?_) (fun x t H1 locs1 ht hWt hpost _ _ hS => (hpost.2 x rfl).elim)
        rcases hpost.1 _ rfl with ⟨z43, t_tr44, hv, c45, c45_0, c45_1, c45_2, c45_3, hI1⟩ | ⟨z46, hv, c47, c47_0, c47_1, c47_2, c47_3, hI1⟩
        · cases hv
          have hI : sI (dC, dI) vcl cI cJ (gsM a th t_tr44 dp zi co sh lt ts mf) A s.heap H1 locs1 := ⟨by rw [← ht]; exact hI1, hS⟩
          obtain ⟨-, ⟨o48, o49⟩, -, -, -, -, -, -, -⟩ := id c45
          clear hpost hI1 hS ht hWt
          revert hI; generalize H1 = H; generalize locs1 = locs; intro hI
          refine sn_if_ne (tgt := 34) hx hb d_Mo_insert_30 (by decide) (fun b50 => ?_) (fun b50 => ?_)
          · omega
          · subst hZ
            exact tz_ret (W.vret hx hb hr (fun t ht hW => ⟨⟨fun v9 hv9 => by cases hv9; exact (Or.inl ⟨t_tr44, mf, rfl, c45, by omega, by rw [ht]; exact hI.1⟩), fun x9 hx9 => (by cases hx9)⟩, hI.2.F ht⟩) hI.2.2.2 d_Mo_insert_33)
        · omega
      · refine lv_iload_n hx hb d_Mo_insert_15 rfl (lv_at hl 2 rfl) ?_
        refine sn_bipush hx hb d_Mo_insert_16 (by decide) (fun z51 hz51 => ?_)
        refine sn_icmp_ge (tgt := 25) hx hb d_Mo_insert_18 (by decide) (fun b52 => ?_) (fun b52 => ?_)
        · refine sn_iconst hx hb d_Mo_insert_25 (by decide) (fun z53 hz53 => ?_)
          refine sn_iconst hx hb d_Mo_insert_26 (by decide) (fun z54 hz54 => ?_)
          refine tz_call (A1 := ga (adM a) H.size) (tz_runV (C := "StoryMachineModel") (As := [.int z53, .int z54]) (rest := []) ⟨hx, hb, hml, hown, hts⟩ (c_Mo_good l hfl dC dI cI cJ a H.size th tr dp zi co sh lt ts mf z53 z54 hok (by omega) (by omega) (by omega) (by omega)) (tx_cb (n := 2) hts rfl rfl ⟨Nat.le_of_ble_eq_true rfl, Nat.le_of_ble_eq_true rfl⟩ (tx_code.of (hts _ mw_1240)) (hts _ mw_12) (by decide +kernel) (hts _ mw_1237)) (hts _ mw_1239) (hts _ ms_Mo_good) ⟨tz_blind, sv_recv (q0 := 0) hts in_Mo hK hI kM_0 rfl, fun U hU hW => ⟨rfl, by rw [hU], by rw [hU]; exact hI.1, va_K.moved hW.alike hK, hst _ _ hI.2 U hU hW⟩⟩ rfl rfl hl.1 rfl (lv_room (Nat.le_of_ble_eq_true rfl)) d_Mo_insert_27 ⟨Nat.le_of_ble_eq_true rfl, Nat.le_of_ble_eq_true rfl⟩) hI.2 (fun q _ h => ga_sub hAC hA0 hI.2 q h) (ga_sub hAC hA0 hI.2) (fun v t H1 locs1 ht hWt hpost _ _ hS => ?_) (fun x t H1 locs1 ht hWt hpost _ _ hS => (hpost.2 x rfl).elim)
          rcases hpost.1 _ rfl with ⟨z55, t_tr56, hv, c57, c57_0, c57_1, c57_2, c57_3, hI1⟩ | ⟨z58, hv, c59, c59_0, c59_1, c59_2, c59_3, hI1⟩
          · cases hv
            have hI : sI (dC, dI) vcl cI cJ (gsM a th t_tr56 dp zi co sh lt ts mf) A s.heap H1 locs1 := ⟨by rw [← ht]; exact hI1, hS⟩
            obtain ⟨-, ⟨o60, o61⟩, -, -, -, -, -, -, -⟩ := id c57
            clear hpost hI1 hS ht hWt
            revert hI; generalize H1 = H; generalize locs1 = locs; intro hI
            refine sn_if_ne (tgt := 34) hx hb d_Mo_insert_30 (by decide) (fun b62 => ?_) (fun b62 => ?_)
            · omega
            · subst hZ
              exact tz_ret (W.vret hx hb hr (fun t ht hW => ⟨⟨fun v9 hv9 => by cases hv9; exact (Or.inl ⟨t_tr56, mf, rfl, c57, by omega, by rw [ht]; exact hI.1⟩), fun x9 hx9 => (by cases hx9)⟩, hI.2.F ht⟩) hI.2.2.2 d_Mo_insert_33)
          · omega
        · refine sn_iconst hx hb d_Mo_insert_21 (by decide) (fun z63 hz63 => ?_)
          refine lv_goto (tgt := 26) hx hb d_Mo_insert_22 (by decide) ?_
          refine sn_iconst hx hb d_Mo_insert_26 (by decide) (fun z64 hz64 => ?_)
          refine tz_call (A1 := ga (adM a) H.size) (tz_runV (C := "StoryMachineModel") (As := [.int z63, .int z64]) (rest := []) ⟨hx, hb, hml, hown, hts⟩ (c_Mo_good l hfl dC dI cI cJ a H.size th tr dp zi co sh lt ts mf z63 z64 hok (by omega) (by omega) (by omega) (by omega)) (tx_cb (n := 2) hts rfl rfl ⟨Nat.le_of_ble_eq_true rfl, Nat.le_of_ble_eq_true rfl⟩ (tx_code.of (hts _ mw_1240)) (hts _ mw_12) (by decide +kernel) (hts _ mw_1237)) (hts _ mw_1239) (hts _ ms_Mo_good) ⟨tz_blind, sv_recv (q0 := 0) hts in_Mo hK hI kM_0 rfl, fun U hU hW => ⟨rfl, by rw [hU], by rw [hU]; exact hI.1, va_K.moved hW.alike hK, hst _ _ hI.2 U hU hW⟩⟩ rfl rfl hl.1 rfl (lv_room (Nat.le_of_ble_eq_true rfl)) d_Mo_insert_27 ⟨Nat.le_of_ble_eq_true rfl, Nat.le_of_ble_eq_true rfl⟩) hI.2 (fun q _ h => ga_sub hAC hA0 hI.2 q h) (ga_sub hAC hA0 hI.2) (fun v t H1 locs1 ht hWt hpost _ _ hS => ?_) (fun x t H1 locs1 ht hWt hpost _ _ hS => (hpost.2 x rfl).elim)
          rcases hpost.1 _ rfl with ⟨z65, t_tr66, hv, c67, c67_0, c67_1, c67_2, c67_3, hI1⟩ | ⟨z68, hv, c69, c69_0, c69_1, c69_2, c69_3, hI1⟩
          · cases hv
            have hI : sI (dC, dI) vcl cI cJ (gsM a th t_tr66 dp zi co sh lt ts mf) A s.heap H1 locs1 := ⟨by rw [← ht]; exact hI1, hS⟩
            obtain ⟨-, ⟨o70, o71⟩, -, -, -, -, -, -, -⟩ := id c67
            clear hpost hI1 hS ht hWt
            revert hI; generalize H1 = H; generalize locs1 = locs; intro hI
            refine sn_if_ne (tgt := 34) hx hb d_Mo_insert_30 (by decide) (fun b72 => ?_) (fun b72 => ?_)
            · omega
            · subst hZ
              exact tz_ret (W.vret hx hb hr (fun t ht hW => ⟨⟨fun v9 hv9 => by cases hv9; exact (Or.inl ⟨t_tr66, mf, rfl, c67, by omega, by rw [ht]; exact hI.1⟩), fun x9 hx9 => (by cases hx9)⟩, hI.2.F ht⟩) hI.2.2.2 d_Mo_insert_33)
          · cases hv
            have hI : sI (dC, dI) vcl cI cJ (gsM a th tr dp zi co sh lt ts mf) A s.heap H1 locs1 := ⟨by rw [← ht]; exact hI1, hS⟩
            clear hpost hI1 hS ht hWt
            revert hI; generalize H1 = H; generalize locs1 = locs; intro hI
            refine sn_if_ne (tgt := 34) hx hb d_Mo_insert_30 (by decide) (fun b73 => ?_) (fun b73 => ?_)
            · refine lv_aload_n hx hb d_Mo_insert_34 rfl (lv_at hl 0 rfl) ?_
              refine lv_iload_n hx hb d_Mo_insert_35 rfl (lv_at hl 1 rfl) ?_
              refine tz_call (A1 := ga (adM a) H.size) (tz_runV (C := "StoryMachineModel") (As := [.int x1]) (rest := []) ⟨hx, hb, hml, hown, hts⟩ (c_Mo_take l hfl dC dI cI cJ a H.size th tr dp zi co sh lt ts mf x1 c69) (tx_cb (n := 1) hts rfl rfl ⟨Nat.le_of_ble_eq_true rfl, Nat.le_of_ble_eq_true rfl⟩ (tx_code.of (hts _ mw_1345)) (hts _ mw_12) (by decide +kernel) (hts _ mw_1342)) (hts _ mw_1344) (hts _ ms_Mo_take) ⟨tz_blind, sv_recv (q0 := 0) hts in_Mo hK hI kM_0 rfl, fun U hU hW => ⟨rfl, by rw [hU], by rw [hU]; exact hI.1, va_K.moved hW.alike hK, hst _ _ hI.2 U hU hW⟩⟩ rfl rfl hl.1 rfl (lv_room (Nat.le_of_ble_eq_true rfl)) d_Mo_insert_36 ⟨Nat.le_of_ble_eq_true rfl, Nat.le_of_ble_eq_true rfl⟩) hI.2 (fun q _ h => ga_sub hAC hA0 hI.2 q h) (ga_sub hAC hA0 hI.2) (fun v t H1 locs1 ht hWt hpost _ _ hS => ?_) (fun x t H1 locs1 ht hWt hpost _ _ hS => (hpost.2 x rfl).elim)
              rcases hpost.1 _ rfl with ⟨t_tr74, f_mf75, hv, c76, c76_0, hI1⟩ | ⟨f_mf77, hv, c78, c78_0, c78_1, c78_2, hI1⟩
              · cases hv
                have hI : sI (dC, dI) vcl cI cJ (gsM a th t_tr74 dp zi co sh lt ts f_mf75) A s.heap H1 locs1 := ⟨by rw [← ht]; exact hI1, hS⟩
                obtain ⟨-, ⟨o79, o80⟩, -, -, -, -, -, -, -⟩ := id c76
                clear hpost hI1 hS ht hWt
                revert hI; generalize H1 = H; generalize locs1 = locs; intro hI
                refine lv_aload_n hx hb d_Mo_insert_39 rfl (lv_at hl 0 rfl) ?_
                refine lv_iload_n hx hb d_Mo_insert_40 rfl (lv_at hl 1 rfl) ?_
                refine sn_iconst hx hb d_Mo_insert_41 (by decide) (fun z81 hz81 => ?_)
                refine lv_iload_n hx hb d_Mo_insert_42 rfl (lv_at hl 2 rfl) ?_
                refine tz_call (A1 := ga (adM a) H.size) (tz_runV (C := "StoryMachineModel") (As := [.int x1, .int z81, .int x2]) (rest := []) ⟨hx, hb, hml, hown, hts⟩ (c_Mo_setOf l hfl dC dI cI cJ a H.size th t_tr74 dp zi co sh lt ts f_mf75 x1 z81 x2 c76 (by omega) (by omega)) (tx_cb (n := 3) hts rfl rfl ⟨Nat.le_of_ble_eq_true rfl, Nat.le_of_ble_eq_true rfl⟩ (tx_code.of (hts _ mw_1349)) (hts _ mw_12) (by decide +kernel) (hts _ mw_1346)) (hts _ mw_1348) (hts _ ms_Mo_setOf) ⟨tz_blind, sv_recv (q0 := 0) hts in_Mo hK hI kM_0 rfl, fun U hU hW => ⟨rfl, by rw [hU], by rw [hU]; exact hI.1, va_K.moved hW.alike hK, hst _ _ hI.2 U hU hW⟩⟩ rfl rfl hl.1 rfl (lv_room (Nat.le_of_ble_eq_true rfl)) d_Mo_insert_43 ⟨Nat.le_of_ble_eq_true rfl, Nat.le_of_ble_eq_true rfl⟩) hI.2 (fun q _ h => ga_sub hAC hA0 hI.2 q h) (ga_sub hAC hA0 hI.2) (fun v t H1 locs1 ht hWt hpost _ _ hS => ?_) (fun x t H1 locs1 ht hWt hpost _ _ hS => (hpost.2 x rfl).elim)
                rcases hpost.1 _ rfl with ⟨t_tr82, hv, c83, c83_0, hI1⟩ | ⟨f_mf84, hv, c85, c85_0, c85_1, c85_2, hI1⟩
                · cases hv
                  have hI : sI (dC, dI) vcl cI cJ (gsM a th t_tr82 dp zi co sh lt ts f_mf75) A s.heap H1 locs1 := ⟨by rw [← ht]; exact hI1, hS⟩
                  obtain ⟨-, ⟨o86, o87⟩, -, -, -, -, -, -, -⟩ := id c83
                  clear hpost hI1 hS ht hWt
                  revert hI; generalize H1 = H; generalize locs1 = locs; intro hI
                  refine lv_aload_n hx hb d_Mo_insert_46 rfl (lv_at hl 0 rfl) ?_
                  refine lv_iload_n hx hb d_Mo_insert_47 rfl (lv_at hl 1 rfl) ?_
                  refine sn_iconst hx hb d_Mo_insert_48 (by decide) (fun z88 hz88 => ?_)
                  refine lv_aload_n hx hb d_Mo_insert_49 rfl (lv_at hl 0 rfl) ?_
                  refine lv_iload_n hx hb d_Mo_insert_50 rfl (lv_at hl 2 rfl) ?_
                  refine sn_bipush hx hb d_Mo_insert_51 (by decide) (fun z89 hz89 => ?_)
                  refine tz_call (A1 := ga (adM a) H.size) (tz_runV (C := "StoryMachineModel") (As := [.int x2, .int z89]) (rest := [.int z88, .int x1, .ref (a 0)]) ⟨hx, hb, hml, hown, hts⟩ (c_Mo_of l hfl dC dI cI cJ a H.size th t_tr82 dp zi co sh lt ts f_mf75 x2 z89 c83 (by omega) (by omega)) (tx_cb (n := 2) hts rfl rfl ⟨Nat.le_of_ble_eq_true rfl, Nat.le_of_ble_eq_true rfl⟩ (tx_code.of (hts _ mw_1325)) (hts _ mw_12) (by decide +kernel) (hts _ mw_1322)) (hts _ mw_1324) (hts _ ms_Mo_of) ⟨tz_blind, sv_recv (q0 := 0) hts in_Mo hK hI kM_0 rfl, fun U hU hW => ⟨rfl, by rw [hU], by rw [hU]; exact hI.1, va_K.moved hW.alike hK, hst _ _ hI.2 U hU hW⟩⟩ rfl rfl hl.1 rfl (lv_room (Nat.le_of_ble_eq_true rfl)) d_Mo_insert_53 ⟨Nat.le_of_ble_eq_true rfl, Nat.le_of_ble_eq_true rfl⟩) hI.2 (fun q _ h => ga_sub hAC hA0 hI.2 q h) (ga_sub hAC hA0 hI.2) (fun v t H1 locs1 ht hWt hpost _ _ hS => ?_) (fun x t H1 locs1 ht hWt hpost _ _ hS => (hpost.2 x rfl).elim)
                  rcases hpost.1 _ rfl with ⟨z90, t_tr91, hv, c92, c92_0, c92_1, c92_2, hI1⟩ | ⟨z93, hv, c94, c94_0, c94_1, c94_2, c94_3, c94_4, hI1⟩
                  · cases hv
                    have hI : sI (dC, dI) vcl cI cJ (gsM a th t_tr91 dp zi co sh lt ts f_mf75) A s.heap H1 locs1 := ⟨by rw [← ht]; exact hI1, hS⟩
                    obtain ⟨-, ⟨o95, o96⟩, -, -, -, -, -, -, -⟩ := id c92
                    clear hpost hI1 hS ht hWt
                    revert hI; generalize H1 = H; generalize locs1 = locs; intro hI
                    refine tz_call (A1 := ga (adM a) H.size) (tz_runV (C := "StoryMachineModel") (As := [.int x1, .int z88, .int z90]) (rest := []) ⟨hx, hb, hml, hown, hts⟩ (c_Mo_setOf l hfl dC dI cI cJ a H.size th t_tr91 dp zi co sh lt ts f_mf75 x1 z88 z90 c92 (by omega) (by omega)) (tx_cb (n := 3) hts rfl rfl ⟨Nat.le_of_ble_eq_true rfl, Nat.le_of_ble_eq_true rfl⟩ (tx_code.of (hts _ mw_1349)) (hts _ mw_12) (by decide +kernel) (hts _ mw_1346)) (hts _ mw_1348) (hts _ ms_Mo_setOf) ⟨tz_blind, sv_recv (q0 := 0) hts in_Mo hK hI kM_0 rfl, fun U hU hW => ⟨rfl, by rw [hU], by rw [hU]; exact hI.1, va_K.moved hW.alike hK, hst _ _ hI.2 U hU hW⟩⟩ rfl rfl hl.1 rfl (lv_room (Nat.le_of_ble_eq_true rfl)) d_Mo_insert_56 ⟨Nat.le_of_ble_eq_true rfl, Nat.le_of_ble_eq_true rfl⟩) hI.2 (fun q _ h => ga_sub hAC hA0 hI.2 q h) (ga_sub hAC hA0 hI.2) (fun v t H1 locs1 ht hWt hpost _ _ hS => ?_) (fun x t H1 locs1 ht hWt hpost _ _ hS => (hpost.2 x rfl).elim)
                    rcases hpost.1 _ rfl with ⟨t_tr97, hv, c98, c98_0, hI1⟩ | ⟨f_mf99, hv, c100, c100_0, c100_1, c100_2, hI1⟩
                    · cases hv
                      have hI : sI (dC, dI) vcl cI cJ (gsM a th t_tr97 dp zi co sh lt ts f_mf75) A s.heap H1 locs1 := ⟨by rw [← ht]; exact hI1, hS⟩
                      obtain ⟨-, ⟨o101, o102⟩, -, -, -, -, -, -, -⟩ := id c98
                      clear hpost hI1 hS ht hWt
                      revert hI; generalize H1 = H; generalize locs1 = locs; intro hI
                      refine lv_aload_n hx hb d_Mo_insert_59 rfl (lv_at hl 0 rfl) ?_
                      refine lv_iload_n hx hb d_Mo_insert_60 rfl (lv_at hl 2 rfl) ?_
                      refine sn_bipush hx hb d_Mo_insert_61 (by decide) (fun z103 hz103 => ?_)
                      refine lv_iload_n hx hb d_Mo_insert_63 rfl (lv_at hl 1 rfl) ?_
                      refine tz_call (A1 := ga (adM a) H.size) (tz_runV (C := "StoryMachineModel") (As := [.int x2, .int z103, .int x1]) (rest := []) ⟨hx, hb, hml, hown, hts⟩ (c_Mo_setOf l hfl dC dI cI cJ a H.size th t_tr97 dp zi co sh lt ts f_mf75 x2 z103 x1 c98 (by omega) (by omega)) (tx_cb (n := 3) hts rfl rfl ⟨Nat.le_of_ble_eq_true rfl, Nat.le_of_ble_eq_true rfl⟩ (tx_code.of (hts _ mw_1349)) (hts _ mw_12) (by decide +kernel) (hts _ mw_1346)) (hts _ mw_1348) (hts _ ms_Mo_setOf) ⟨tz_blind, sv_recv (q0 := 0) hts in_Mo hK hI kM_0 rfl, fun U hU hW => ⟨rfl, by rw [hU], by rw [hU]; exact hI.1, va_K.moved hW.alike hK, hst _ _ hI.2 U hU hW⟩⟩ rfl rfl hl.1 rfl (lv_room (Nat.le_of_ble_eq_true rfl)) d_Mo_insert_64 ⟨Nat.le_of_ble_eq_true rfl, Nat.le_of_ble_eq_true rfl⟩) hI.2 (fun q _ h => ga_sub hAC hA0 hI.2 q h) (ga_sub hAC hA0 hI.2) (fun v t H1 locs1 ht hWt hpost _ _ hS => ?_) (fun x t H1 locs1 ht hWt hpost _ _ hS => (hpost.2 x rfl).elim)
                      rcases hpost.1 _ rfl with ⟨t_tr104, hv, c105, c105_0, hI1⟩ | ⟨f_mf106, hv, c107, c107_0, c107_1, c107_2, hI1⟩
                      · cases hv
                        have hI : sI (dC, dI) vcl cI cJ (gsM a th t_tr104 dp zi co sh lt ts f_mf75) A s.heap H1 locs1 := ⟨by rw [← ht]; exact hI1, hS⟩
                        obtain ⟨-, ⟨o108, o109⟩, -, -, -, -, -, -, -⟩ := id c105
                        clear hpost hI1 hS ht hWt
                        revert hI; generalize H1 = H; generalize locs1 = locs; intro hI
                        subst hZ
                        exact tz_ret (W.vret hx hb hr (fun t ht hW => ⟨⟨fun v9 hv9 => by cases hv9; exact (Or.inl ⟨t_tr104, f_mf75, rfl, c105, by omega, by rw [ht]; exact hI.1⟩), fun x9 hx9 => (by cases hx9)⟩, hI.2.F ht⟩) hI.2.2.2 d_Mo_insert_67)
                      · omega
                    · omega
                  · omega
                · omega
              · cases hv
                have hI : sI (dC, dI) vcl cI cJ (gsM a th tr dp zi co sh lt ts f_mf77) A s.heap H1 locs1 := ⟨by rw [← ht]; exact hI1, hS⟩
                obtain ⟨-, -, -, -, -, -, -, -, -⟩ := id c78
                clear hpost hI1 hS ht hWt
                revert hI; generalize H1 = H; generalize locs1 = locs; intro hI
                refine lv_aload_n hx hb d_Mo_insert_39 rfl (lv_at hl 0 rfl) ?_
                refine lv_iload_n hx hb d_Mo_insert_40 rfl (lv_at hl 1 rfl) ?_
                refine sn_iconst hx hb d_Mo_insert_41 (by decide) (fun z110 hz110 => ?_)
                refine lv_iload_n hx hb d_Mo_insert_42 rfl (lv_at hl 2 rfl) ?_
                refine tz_call (A1 := ga (adM a) H.size) (tz_runV (C := "StoryMachineModel") (As := [.int x1, .int z110, .int x2]) (rest := []) ⟨hx, hb, hml, hown, hts⟩ (c_Mo_setOf l hfl dC dI cI cJ a H.size th tr dp zi co sh lt ts f_mf77 x1 z110 x2 c78 (by omega) (by omega)) (tx_cb (n := 3) hts rfl rfl ⟨Nat.le_of_ble_eq_true rfl, Nat.le_of_ble_eq_true rfl⟩ (tx_code.of (hts _ mw_1349)) (hts _ mw_12) (by decide +kernel) (hts _ mw_1346)) (hts _ mw_1348) (hts _ ms_Mo_setOf) ⟨tz_blind, sv_recv (q0 := 0) hts in_Mo hK hI kM_0 rfl, fun U hU hW => ⟨rfl, by rw [hU], by rw [hU]; exact hI.1, va_K.moved hW.alike hK, hst _ _ hI.2 U hU hW⟩⟩ rfl rfl hl.1 rfl (lv_room (Nat.le_of_ble_eq_true rfl)) d_Mo_insert_43 ⟨Nat.le_of_ble_eq_true rfl, Nat.le_of_ble_eq_true rfl⟩) hI.2 (fun q _ h => ga_sub hAC hA0 hI.2 q h) (ga_sub hAC hA0 hI.2) (fun v t H1 locs1 ht hWt hpost _ _ hS => ?_) (fun x t H1 locs1 ht hWt hpost _ _ hS => (hpost.2 x rfl).elim)
                rcases hpost.1 _ rfl with ⟨t_tr111, hv, c112, c112_0, hI1⟩ | ⟨f_mf113, hv, c114, c114_0, c114_1, c114_2, hI1⟩
                · cases hv
                  have hI : sI (dC, dI) vcl cI cJ (gsM a th t_tr111 dp zi co sh lt ts f_mf77) A s.heap H1 locs1 := ⟨by rw [← ht]; exact hI1, hS⟩
                  obtain ⟨-, ⟨o115, o116⟩, -, -, -, -, -, -, -⟩ := id c112
                  clear hpost hI1 hS ht hWt
                  revert hI; generalize H1 = H; generalize locs1 = locs; intro hI
                  refine lv_aload_n hx hb d_Mo_insert_46 rfl (lv_at hl 0 rfl) ?_
                  refine lv_iload_n hx hb d_Mo_insert_47 rfl (lv_at hl 1 rfl) ?_
                  refine sn_iconst hx hb d_Mo_insert_48 (by decide) (fun z117 hz117 => ?_)
                  refine lv_aload_n hx hb d_Mo_insert_49 rfl (lv_at hl 0 rfl) ?_
                  refine lv_iload_n hx hb d_Mo_insert_50 rfl (lv_at hl 2 rfl) ?_
                  refine sn_bipush hx hb d_Mo_insert_51 (by decide) (fun z118 hz118 => ?_)
                  refine tz_call (A1 := ga (adM a) H.size) (tz_runV (C := "StoryMachineModel") (As := [.int x2, .int z118]) (rest := [.int z117, .int x1, .ref (a 0)]) ⟨hx, hb, hml, hown, hts⟩ (c_Mo_of l hfl dC dI cI cJ a H.size th t_tr111 dp zi co sh lt ts f_mf77 x2 z118 c112 (by omega) (by omega)) (tx_cb (n := 2) hts rfl rfl ⟨Nat.le_of_ble_eq_true rfl, Nat.le_of_ble_eq_true rfl⟩ (tx_code.of (hts _ mw_1325)) (hts _ mw_12) (by decide +kernel) (hts _ mw_1322)) (hts _ mw_1324) (hts _ ms_Mo_of) ⟨tz_blind, sv_recv (q0 := 0) hts in_Mo hK hI kM_0 rfl, fun U hU hW => ⟨rfl, by rw [hU], by rw [hU]; exact hI.1, va_K.moved hW.alike hK, hst _ _ hI.2 U hU hW⟩⟩ rfl rfl hl.1 rfl (lv_room (Nat.le_of_ble_eq_true rfl)) d_Mo_insert_53 ⟨Nat.le_of_ble_eq_true rfl, Nat.le_of_ble_eq_true rfl⟩) hI.2 (fun q _ h => ga_sub hAC hA0 hI.2 q h) (ga_sub hAC hA0 hI.2) (fun v t H1 locs1 ht hWt hpost _ _ hS => ?_) (fun x t H1 locs1 ht hWt hpost _ _ hS => (hpost.2 x rfl).elim)
                  rcases hpost.1 _ rfl with ⟨z119, t_tr120, hv, c121, c121_0, c121_1, c121_2, hI1⟩ | ⟨z122, hv, c123, c123_0, c123_1, c123_2, c123_3, c123_4, hI1⟩
                  · cases hv
                    have hI : sI (dC, dI) vcl cI cJ (gsM a th t_tr120 dp zi co sh lt ts f_mf77) A s.heap H1 locs1 := ⟨by rw [← ht]; exact hI1, hS⟩
                    obtain ⟨-, ⟨o124, o125⟩, -, -, -, -, -, -, -⟩ := id c121
                    clear hpost hI1 hS ht hWt
                    revert hI; generalize H1 = H; generalize locs1 = locs; intro hI
                    refine tz_call (A1 := ga (adM a) H.size) (tz_runV (C := "StoryMachineModel") (As := [.int x1, .int z117, .int z119]) (rest := []) ⟨hx, hb, hml, hown, hts⟩ (c_Mo_setOf l hfl dC dI cI cJ a H.size th t_tr120 dp zi co sh lt ts f_mf77 x1 z117 z119 c121 (by omega) (by omega)) (tx_cb (n := 3) hts rfl rfl ⟨Nat.le_of_ble_eq_true rfl, Nat.le_of_ble_eq_true rfl⟩ (tx_code.of (hts _ mw_1349)) (hts _ mw_12) (by decide +kernel) (hts _ mw_1346)) (hts _ mw_1348) (hts _ ms_Mo_setOf) ⟨tz_blind, sv_recv (q0 := 0) hts in_Mo hK hI kM_0 rfl, fun U hU hW => ⟨rfl, by rw [hU], by rw [hU]; exact hI.1, va_K.moved hW.alike hK, hst _ _ hI.2 U hU hW⟩⟩ rfl rfl hl.1 rfl (lv_room (Nat.le_of_ble_eq_true rfl)) d_Mo_insert_56 ⟨Nat.le_of_ble_eq_true rfl, Nat.le_of_ble_eq_true rfl⟩) hI.2 (fun q _ h => ga_sub hAC hA0 hI.2 q h) (ga_sub hAC hA0 hI.2) (fun v t H1 locs1 ht hWt hpost _ _ hS => ?_) (fun x t H1 locs1 ht hWt hpost _ _ hS => (hpost.2 x rfl).elim)
                    rcases hpost.1 _ rfl with ⟨t_tr126, hv, c127, c127_0, hI1⟩ | ⟨f_mf128, hv, c129, c129_0, c129_1, c129_2, hI1⟩
                    · cases hv
                      have hI : sI (dC, dI) vcl cI cJ (gsM a th t_tr126 dp zi co sh lt ts f_mf77) A s.heap H1 locs1 := ⟨by rw [← ht]; exact hI1, hS⟩
                      obtain ⟨-, ⟨o130, o131⟩, -, -, -, -, -, -, -⟩ := id c127
                      clear hpost hI1 hS ht hWt
                      revert hI; generalize H1 = H; generalize locs1 = locs; intro hI
                      refine lv_aload_n hx hb d_Mo_insert_59 rfl (lv_at hl 0 rfl) ?_
                      refine lv_iload_n hx hb d_Mo_insert_60 rfl (lv_at hl 2 rfl) ?_
                      refine sn_bipush hx hb d_Mo_insert_61 (by decide) (fun z132 hz132 => ?_)
                      refine lv_iload_n hx hb d_Mo_insert_63 rfl (lv_at hl 1 rfl) ?_
                      refine tz_call (A1 := ga (adM a) H.size) (tz_runV (C := "StoryMachineModel") (As := [.int x2, .int z132, .int x1]) (rest := []) ⟨hx, hb, hml, hown, hts⟩ (c_Mo_setOf l hfl dC dI cI cJ a H.size th t_tr126 dp zi co sh lt ts f_mf77 x2 z132 x1 c127 (by omega) (by omega)) (tx_cb (n := 3) hts rfl rfl ⟨Nat.le_of_ble_eq_true rfl, Nat.le_of_ble_eq_true rfl⟩ (tx_code.of (hts _ mw_1349)) (hts _ mw_12) (by decide +kernel) (hts _ mw_1346)) (hts _ mw_1348) (hts _ ms_Mo_setOf) ⟨tz_blind, sv_recv (q0 := 0) hts in_Mo hK hI kM_0 rfl, fun U hU hW => ⟨rfl, by rw [hU], by rw [hU]; exact hI.1, va_K.moved hW.alike hK, hst _ _ hI.2 U hU hW⟩⟩ rfl rfl hl.1 rfl (lv_room (Nat.le_of_ble_eq_true rfl)) d_Mo_insert_64 ⟨Nat.le_of_ble_eq_true rfl, Nat.le_of_ble_eq_true rfl⟩) hI.2 (fun q _ h => ga_sub hAC hA0 hI.2 q h) (ga_sub hAC hA0 hI.2) (fun v t H1 locs1 ht hWt hpost _ _ hS => ?_) (fun x t H1 locs1 ht hWt hpost _ _ hS => (hpost.2 x rfl).elim)
                      rcases hpost.1 _ rfl with ⟨t_tr133, hv, c134, c134_0, hI1⟩ | ⟨f_mf135, hv, c136, c136_0, c136_1, c136_2, hI1⟩
                      · cases hv
                        have hI : sI (dC, dI) vcl cI cJ (gsM a th t_tr133 dp zi co sh lt ts f_mf77) A s.heap H1 locs1 := ⟨by rw [← ht]; exact hI1, hS⟩
                        obtain ⟨-, ⟨o137, o138⟩, -, -, -, -, -, -, -⟩ := id c134
                        clear hpost hI1 hS ht hWt
                        revert hI; generalize H1 = H; generalize locs1 = locs; intro hI
                        subst hZ
                        exact tz_ret (W.vret hx hb hr (fun t ht hW => ⟨⟨fun v9 hv9 => by cases hv9; exact (Or.inl ⟨t_tr133, f_mf77, rfl, c134, by omega, by rw [ht]; exact hI.1⟩), fun x9 hx9 => (by cases hx9)⟩, hI.2.F ht⟩) hI.2.2.2 d_Mo_insert_67)
                      · omega
                    · omega
                  · omega
                · cases hv
                  have hI : sI (dC, dI) vcl cI cJ (gsM a th tr dp zi co sh lt ts f_mf113) A s.heap H1 locs1 := ⟨by rw [← ht]; exact hI1, hS⟩
                  obtain ⟨-, -, -, -, -, -, -, -, -⟩ := id c114
                  clear hpost hI1 hS ht hWt
                  revert hI; generalize H1 = H; generalize locs1 = locs; intro hI
                  refine lv_aload_n hx hb d_Mo_insert_46 rfl (lv_at hl 0 rfl) ?_
                  refine lv_iload_n hx hb d_Mo_insert_47 rfl (lv_at hl 1 rfl) ?_
                  refine sn_iconst hx hb d_Mo_insert_48 (by decide) (fun z139 hz139 => ?_)
                  refine lv_aload_n hx hb d_Mo_insert_49 rfl (lv_at hl 0 rfl) ?_
                  refine lv_iload_n hx hb d_Mo_insert_50 rfl (lv_at hl 2 rfl) ?_
                  refine sn_bipush hx hb d_Mo_insert_51 (by decide) (fun z140 hz140 => ?_)
                  refine tz_call (A1 := ga (adM a) H.size) (tz_runV (C := "StoryMachineModel") (As := [.int x2, .int z140]) (rest := [.int z139, .int x1, .ref (a 0)]) ⟨hx, hb, hml, hown, hts⟩ (c_Mo_of l hfl dC dI cI cJ a H.size th tr dp zi co sh lt ts f_mf113 x2 z140 c114 (by omega) (by omega)) (tx_cb (n := 2) hts rfl rfl ⟨Nat.le_of_ble_eq_true rfl, Nat.le_of_ble_eq_true rfl⟩ (tx_code.of (hts _ mw_1325)) (hts _ mw_12) (by decide +kernel) (hts _ mw_1322)) (hts _ mw_1324) (hts _ ms_Mo_of) ⟨tz_blind, sv_recv (q0 := 0) hts in_Mo hK hI kM_0 rfl, fun U hU hW => ⟨rfl, by rw [hU], by rw [hU]; exact hI.1, va_K.moved hW.alike hK, hst _ _ hI.2 U hU hW⟩⟩ rfl rfl hl.1 rfl (lv_room (Nat.le_of_ble_eq_true rfl)) d_Mo_insert_53 ⟨Nat.le_of_ble_eq_true rfl, Nat.le_of_ble_eq_true rfl⟩) hI.2 (fun q _ h => ga_sub hAC hA0 hI.2 q h) (ga_sub hAC hA0 hI.2) (fun v t H1 locs1 ht hWt hpost _ _ hS => ?_) (fun x t H1 locs1 ht hWt hpost _ _ hS => (hpost.2 x rfl).elim)
                  rcases hpost.1 _ rfl with ⟨z141, t_tr142, hv, c143, c143_0, c143_1, c143_2, hI1⟩ | ⟨z144, hv, c145, c145_0, c145_1, c145_2, c145_3, c145_4, hI1⟩
                  · cases hv
                    have hI : sI (dC, dI) vcl cI cJ (gsM a th t_tr142 dp zi co sh lt ts f_mf113) A s.heap H1 locs1 := ⟨by rw [← ht]; exact hI1, hS⟩
                    obtain ⟨-, ⟨o146, o147⟩, -, -, -, -, -, -, -⟩ := id c143
                    clear hpost hI1 hS ht hWt
                    revert hI; generalize H1 = H; generalize locs1 = locs; intro hI
                    refine tz_call (A1 := ga (adM a) H.size) (tz_runV (C := "StoryMachineModel") (As := [.int x1, .int z139, .int z141]) (rest := []) ⟨hx, hb, hml, hown, hts⟩ (c_Mo_setOf l hfl dC dI cI cJ a H.size th t_tr142 dp zi co sh lt ts f_mf113 x1 z139 z141 c143 (by omega) (by omega)) (tx_cb (n := 3) hts rfl rfl ⟨Nat.le_of_ble_eq_true rfl, Nat.le_of_ble_eq_true rfl⟩ (tx_code.of (hts _ mw_1349)) (hts _ mw_12) (by decide +kernel) (hts _ mw_1346)) (hts _ mw_1348) (hts _ ms_Mo_setOf) ⟨tz_blind, sv_recv (q0 := 0) hts in_Mo hK hI kM_0 rfl, fun U hU hW => ⟨rfl, by rw [hU], by rw [hU]; exact hI.1, va_K.moved hW.alike hK, hst _ _ hI.2 U hU hW⟩⟩ rfl rfl hl.1 rfl (lv_room (Nat.le_of_ble_eq_true rfl)) d_Mo_insert_56 ⟨Nat.le_of_ble_eq_true rfl, Nat.le_of_ble_eq_true rfl⟩) hI.2 (fun q _ h => ga_sub hAC hA0 hI.2 q h) (ga_sub hAC hA0 hI.2) (fun v t H1 locs1 ht hWt hpost _ _ hS => ?_) (fun x t H1 locs1 ht hWt hpost _ _ hS => (hpost.2 x rfl).elim)
                    rcases hpost.1 _ rfl with ⟨t_tr148, hv, c149, c149_0, hI1⟩ | ⟨f_mf150, hv, c151, c151_0, c151_1, c151_2, hI1⟩
                    · cases hv
                      have hI : sI (dC, dI) vcl cI cJ (gsM a th t_tr148 dp zi co sh lt ts f_mf113) A s.heap H1 locs1 := ⟨by rw [← ht]; exact hI1, hS⟩
                      obtain ⟨-, ⟨o152, o153⟩, -, -, -, -, -, -, -⟩ := id c149
                      clear hpost hI1 hS ht hWt
                      revert hI; generalize H1 = H; generalize locs1 = locs; intro hI
                      refine lv_aload_n hx hb d_Mo_insert_59 rfl (lv_at hl 0 rfl) ?_
                      refine lv_iload_n hx hb d_Mo_insert_60 rfl (lv_at hl 2 rfl) ?_
                      refine sn_bipush hx hb d_Mo_insert_61 (by decide) (fun z154 hz154 => ?_)
                      refine lv_iload_n hx hb d_Mo_insert_63 rfl (lv_at hl 1 rfl) ?_
                      refine tz_call (A1 := ga (adM a) H.size) (tz_runV (C := "StoryMachineModel") (As := [.int x2, .int z154, .int x1]) (rest := []) ⟨hx, hb, hml, hown, hts⟩ (c_Mo_setOf l hfl dC dI cI cJ a H.size th t_tr148 dp zi co sh lt ts f_mf113 x2 z154 x1 c149 (by omega) (by omega)) (tx_cb (n := 3) hts rfl rfl ⟨Nat.le_of_ble_eq_true rfl, Nat.le_of_ble_eq_true rfl⟩ (tx_code.of (hts _ mw_1349)) (hts _ mw_12) (by decide +kernel) (hts _ mw_1346)) (hts _ mw_1348) (hts _ ms_Mo_setOf) ⟨tz_blind, sv_recv (q0 := 0) hts in_Mo hK hI kM_0 rfl, fun U hU hW => ⟨rfl, by rw [hU], by rw [hU]; exact hI.1, va_K.moved hW.alike hK, hst _ _ hI.2 U hU hW⟩⟩ rfl rfl hl.1 rfl (lv_room (Nat.le_of_ble_eq_true rfl)) d_Mo_insert_64 ⟨Nat.le_of_ble_eq_true rfl, Nat.le_of_ble_eq_true rfl⟩) hI.2 (fun q _ h => ga_sub hAC hA0 hI.2 q h) (ga_sub hAC hA0 hI.2) (fun v t H1 locs1 ht hWt hpost _ _ hS => ?_) (fun x t H1 locs1 ht hWt hpost _ _ hS => (hpost.2 x rfl).elim)
                      rcases hpost.1 _ rfl with ⟨t_tr155, hv, c156, c156_0, hI1⟩ | ⟨f_mf157, hv, c158, c158_0, c158_1, c158_2, hI1⟩
                      · cases hv
                        have hI : sI (dC, dI) vcl cI cJ (gsM a th t_tr155 dp zi co sh lt ts f_mf113) A s.heap H1 locs1 := ⟨by rw [← ht]; exact hI1, hS⟩
                        obtain ⟨-, ⟨o159, o160⟩, -, -, -, -, -, -, -⟩ := id c156
                        clear hpost hI1 hS ht hWt
                        revert hI; generalize H1 = H; generalize locs1 = locs; intro hI
                        subst hZ
                        exact tz_ret (W.vret hx hb hr (fun t ht hW => ⟨⟨fun v9 hv9 => by cases hv9; exact (Or.inl ⟨t_tr155, f_mf113, rfl, c156, by omega, by rw [ht]; exact hI.1⟩), fun x9 hx9 => (by cases hx9)⟩, hI.2.F ht⟩) hI.2.2.2 d_Mo_insert_67)
                      · omega
                    · omega
                  · cases hv
                    have hI : sI (dC, dI) vcl cI cJ (gsM a th tr dp zi co sh lt ts f_mf113) A s.heap H1 locs1 := ⟨by rw [← ht]; exact hI1, hS⟩
                    clear hpost hI1 hS ht hWt
                    revert hI; generalize H1 = H; generalize locs1 = locs; intro hI
                    refine tz_call (A1 := ga (adM a) H.size) (tz_runV (C := "StoryMachineModel") (As := [.int x1, .int z139, .int z144]) (rest := []) ⟨hx, hb, hml, hown, hts⟩ (c_Mo_setOf l hfl dC dI cI cJ a H.size th tr dp zi co sh lt ts f_mf113 x1 z139 z144 c145 (by omega) (by omega)) (tx_cb (n := 3) hts rfl rfl ⟨Nat.le_of_ble_eq_true rfl, Nat.le_of_ble_eq_true rfl⟩ (tx_code.of (hts _ mw_1349)) (hts _ mw_12) (by decide +kernel) (hts _ mw_1346)) (hts _ mw_1348) (hts _ ms_Mo_setOf) ⟨tz_blind, sv_recv (q0 := 0) hts in_Mo hK hI kM_0 rfl, fun U hU hW => ⟨rfl, by rw [hU], by rw [hU]; exact hI.1, va_K.moved hW.alike hK, hst _ _ hI.2 U hU hW⟩⟩ rfl rfl hl.1 rfl (lv_room (Nat.le_of_ble_eq_true rfl)) d_Mo_insert_56 ⟨Nat.le_of_ble_eq_true rfl, Nat.le_of_ble_eq_true rfl⟩) hI.2 (fun q _ h => ga_sub hAC hA0 hI.2 q h) (ga_sub hAC hA0 hI.2) (fun v t H1 locs1 ht hWt hpost _ _ hS => ?_) (fun x t H1 locs1 ht hWt hpost _ _ hS => (hpost.2 x rfl).elim)
                    rcases hpost.1 _ rfl with ⟨t_tr161, hv, c162, c162_0, hI1⟩ | ⟨f_mf163, hv, c164, c164_0, c164_1, c164_2, hI1⟩
                    · cases hv
                      have hI : sI (dC, dI) vcl cI cJ (gsM a th t_tr161 dp zi co sh lt ts f_mf113) A s.heap H1 locs1 := ⟨by rw [← ht]; exact hI1, hS⟩
                      obtain ⟨-, ⟨o165, o166⟩, -, -, -, -, -, -, -⟩ := id c162
                      clear hpost hI1 hS ht hWt
                      revert hI; generalize H1 = H; generalize locs1 = locs; intro hI
                      refine lv_aload_n hx hb d_Mo_insert_59 rfl (lv_at hl 0 rfl) ?_
                      refine lv_iload_n hx hb d_Mo_insert_60 rfl (lv_at hl 2 rfl) ?_
                      refine sn_bipush hx hb d_Mo_insert_61 (by decide) (fun z167 hz167 => ?_)
                      refine lv_iload_n hx hb d_Mo_insert_63 rfl (lv_at hl 1 rfl) ?_
                      refine tz_call (A1 := ga (adM a) H.size) (tz_runV (C := "StoryMachineModel") (As := [.int x2, .int z167, .int x1]) (rest := []) ⟨hx, hb, hml, hown, hts⟩ (c_Mo_setOf l hfl dC dI cI cJ a H.size th t_tr161 dp zi co sh lt ts f_mf113 x2 z167 x1 c162 (by omega) (by omega)) (tx_cb (n := 3) hts rfl rfl ⟨Nat.le_of_ble_eq_true rfl, Nat.le_of_ble_eq_true rfl⟩ (tx_code.of (hts _ mw_1349)) (hts _ mw_12) (by decide +kernel) (hts _ mw_1346)) (hts _ mw_1348) (hts _ ms_Mo_setOf) ⟨tz_blind, sv_recv (q0 := 0) hts in_Mo hK hI kM_0 rfl, fun U hU hW => ⟨rfl, by rw [hU], by rw [hU]; exact hI.1, va_K.moved hW.alike hK, hst _ _ hI.2 U hU hW⟩⟩ rfl rfl hl.1 rfl (lv_room (Nat.le_of_ble_eq_true rfl)) d_Mo_insert_64 ⟨Nat.le_of_ble_eq_true rfl, Nat.le_of_ble_eq_true rfl⟩) hI.2 (fun q _ h => ga_sub hAC hA0 hI.2 q h) (ga_sub hAC hA0 hI.2) (fun v t H1 locs1 ht hWt hpost _ _ hS => ?_) (fun x t H1 locs1 ht hWt hpost _ _ hS => (hpost.2 x rfl).elim)
                      rcases hpost.1 _ rfl with ⟨t_tr168, hv, c169, c169_0, hI1⟩ | ⟨f_mf170, hv, c171, c171_0, c171_1, c171_2, hI1⟩
                      · cases hv
                        have hI : sI (dC, dI) vcl cI cJ (gsM a th t_tr168 dp zi co sh lt ts f_mf113) A s.heap H1 locs1 := ⟨by rw [← ht]; exact hI1, hS⟩
                        obtain ⟨-, ⟨o172, o173⟩, -, -, -, -, -, -, -⟩ := id c169
                        clear hpost hI1 hS ht hWt
                        revert hI; generalize H1 = H; generalize locs1 = locs; intro hI
                        subst hZ
                        exact tz_ret (W.vret hx hb hr (fun t ht hW => ⟨⟨fun v9 hv9 => by cases hv9; exact (Or.inl ⟨t_tr168, f_mf113, rfl, c169, by omega, by rw [ht]; exact hI.1⟩), fun x9 hx9 => (by cases hx9)⟩, hI.2.F ht⟩) hI.2.2.2 d_Mo_insert_67)
                      · omega
                    · cases hv
                      have hI : sI (dC, dI) vcl cI cJ (gsM a th tr dp zi co sh lt ts f_mf163) A s.heap H1 locs1 := ⟨by rw [← ht]; exact hI1, hS⟩
                      obtain ⟨-, -, -, -, -, -, -, -, -⟩ := id c164
                      clear hpost hI1 hS ht hWt
                      revert hI; generalize H1 = H; generalize locs1 = locs; intro hI
                      refine lv_aload_n hx hb d_Mo_insert_59 rfl (lv_at hl 0 rfl) ?_
                      refine lv_iload_n hx hb d_Mo_insert_60 rfl (lv_at hl 2 rfl) ?_
                      refine sn_bipush hx hb d_Mo_insert_61 (by decide) (fun z174 hz174 => ?_)
                      refine lv_iload_n hx hb d_Mo_insert_63 rfl (lv_at hl 1 rfl) ?_
                      refine tz_call (A1 := ga (adM a) H.size) (tz_runV (C := "StoryMachineModel") (As := [.int x2, .int z174, .int x1]) (rest := []) ⟨hx, hb, hml, hown, hts⟩ (c_Mo_setOf l hfl dC dI cI cJ a H.size th tr dp zi co sh lt ts f_mf163 x2 z174 x1 c164 (by omega) (by omega)) (tx_cb (n := 3) hts rfl rfl ⟨Nat.le_of_ble_eq_true rfl, Nat.le_of_ble_eq_true rfl⟩ (tx_code.of (hts _ mw_1349)) (hts _ mw_12) (by decide +kernel) (hts _ mw_1346)) (hts _ mw_1348) (hts _ ms_Mo_setOf) ⟨tz_blind, sv_recv (q0 := 0) hts in_Mo hK hI kM_0 rfl, fun U hU hW => ⟨rfl, by rw [hU], by rw [hU]; exact hI.1, va_K.moved hW.alike hK, hst _ _ hI.2 U hU hW⟩⟩ rfl rfl hl.1 rfl (lv_room (Nat.le_of_ble_eq_true rfl)) d_Mo_insert_64 ⟨Nat.le_of_ble_eq_true rfl, Nat.le_of_ble_eq_true rfl⟩) hI.2 (fun q _ h => ga_sub hAC hA0 hI.2 q h) (ga_sub hAC hA0 hI.2) (fun v t H1 locs1 ht hWt hpost _ _ hS => ?_) (fun x t H1 locs1 ht hWt hpost _ _ hS => (hpost.2 x rfl).elim)
                      rcases hpost.1 _ rfl with ⟨t_tr175, hv, c176, c176_0, hI1⟩ | ⟨f_mf177, hv, c178, c178_0, c178_1, c178_2, hI1⟩
                      · cases hv
                        have hI : sI (dC, dI) vcl cI cJ (gsM a th t_tr175 dp zi co sh lt ts f_mf163) A s.heap H1 locs1 := ⟨by rw [← ht]; exact hI1, hS⟩
                        obtain ⟨-, ⟨o179, o180⟩, -, -, -, -, -, -, -⟩ := id c176
                        clear hpost hI1 hS ht hWt
                        revert hI; generalize H1 = H; generalize locs1 = locs; intro hI
                        subst hZ
                        exact tz_ret (W.vret hx hb hr (fun t ht hW => ⟨⟨fun v9 hv9 => by cases hv9; exact (Or.inl ⟨t_tr175, f_mf163, rfl, c176, by omega, by rw [ht]; exact hI.1⟩), fun x9 hx9 => (by cases hx9)⟩, hI.2.F ht⟩) hI.2.2.2 d_Mo_insert_67)
                      · cases hv
                        have hI : sI (dC, dI) vcl cI cJ (gsM a th tr dp zi co sh lt ts f_mf177) A s.heap H1 locs1 := ⟨by rw [← ht]; exact hI1, hS⟩
                        obtain ⟨-, -, -, -, -, -, -, -, -⟩ := id c178
                        clear hpost hI1 hS ht hWt
                        revert hI; generalize H1 = H; generalize locs1 = locs; intro hI
                        subst hZ
                        exact tz_ret (W.vret hx hb hr (fun t ht hW => ⟨⟨fun v9 hv9 => by cases hv9; exact (Or.inr (⟨f_mf177, rfl, c178, by omega, by omega, by omega, by omega, by omega, by rw [ht]; exact hI.1⟩)), fun x9 hx9 => (by cases hx9)⟩, hI.2.F ht⟩) hI.2.2.2 d_Mo_insert_67)
            · omega
